abbrev rmX8_takePacket : Room := { frames := 0, cells := 0, slots := 0, locals := 0 }
theorem wX8_takePacket_66 : Cond.fieldLink RX8 66 "FloodBusModel" "waiting" "[I" ∈ wsX8_takePacket := by decide +kernel
theorem wX8_takePacket_69 : Cond.fieldLink RX8 69 "FloodBusModel" "generated" "[I" ∈ wsX8_takePacket := by decide +kernel
theorem inX8_takePacket_X8 : ∀ w ∈ wsX80, w ∈ wsX8_takePacket := by decide +kernel
set_option maxRecDepth 100000 in
set_option maxHeartbeats 4000000 in
theorem TX8_takePacket_L2 {p : Program} {l : Launch} {e : Env} {s : State} {m : MethodId} {args : Array Value} {below : List Frame} {meth : Method} {c : Code} {D : va_G} {G : Gc} {ρ : Nat → Nat} (X : Cx p s m args c cX8_takePacket 3 RX8 wsX8_takePacket D G ρ (WA ρ s.heap.size) s.heap) (hr : meth.sig.returnType = none) (hlk : meth.locks = false) (C : Xm) (p1 : Int32)  {E : Int32 → Nm → Prop} {K : Nm → Prop} (hE : ∀ (v2 : Int32) (N : Nm), E v2 N → V p l e rmX8_takePacket s m args below meth c D G ρ (WA ρ s.heap.size) s.heap 3 0 0 (Qv D G ρ s args below (fun C1 N1 => K N1 ∧ C1 = C)) 40 [(0, .ref (ρ 66)), (1, .int p1), (2, .int v2)] [] C N) : ∀ (n : Nat) (v2 : Int32) (N : Nm), fX8_takePacket_L2 p1 E K n v2 N → V p l e rmX8_takePacket s m args below meth c D G ρ (WA ρ s.heap.size) s.heap 3 0 0 (Qv D G ρ s args below (fun C1 N1 => K N1 ∧ C1 = C)) 2 [(0, .ref (ρ 66)), (1, .int p1), (2, .int v2)] [] C N := by
  intro n
  induction n with
  | zero => intro v2 N h; exact h.elim
  | succ n ih =>
    intro v2 N h
    unfold fX8_takePacket_L2 at h
    refine V_iload_n X (q := 2) rfl rfl dX8_takePacket_2 (n := 3) rfl ?_
    refine V_aload_n X (q := 0) rfl rfl dX8_takePacket_3 (n := 4) rfl ?_
    refine V_getR X (by decide) rfl rfl (k := 24) inX8_takePacket_X8 rfl (by decide) wX8_takePacket_66 dX8_takePacket_4 (n := 7) rfl ?_
    refine V_iload_n X (q := 1) rfl rfl dX8_takePacket_7 (n := 8) rfl ?_
    obtain ⟨g1, h⟩ := h
    refine V_ildN X (by decide) (by decide) rfl g1 dX8_takePacket_8 (n := 9) rfl ?_
    refine V_icmp_ge X dX8_takePacket_9 (tgt := 40) (n := 12) (by decide) rfl (fun c2 => ?_) (fun c2 => ?_)
    · have h := ite_t h c2
      exact hE v2 N h
    · have h := ite_f h c2
      refine V_aload_n X (q := 0) rfl rfl dX8_takePacket_12 (n := 13) rfl ?_
      refine V_getR X (by decide) rfl rfl (k := 25) inX8_takePacket_X8 rfl (by decide) wX8_takePacket_69 dX8_takePacket_13 (n := 16) rfl ?_
      refine V_iconst X (v := 4) (by decide) dX8_takePacket_16 (n := 17) rfl ?_
      refine V_iload_n X (q := 1) rfl rfl dX8_takePacket_17 (n := 18) rfl ?_
      refine V_imul X dX8_takePacket_18 (n := 19) rfl ?_
      refine V_iload_n X (q := 2) rfl rfl dX8_takePacket_19 (n := 20) rfl ?_
      refine V_iadd X dX8_takePacket_20 (n := 21) rfl ?_
      refine V_iconst X (v := 1) (by decide) dX8_takePacket_21 (n := 22) rfl ?_
      refine V_isub X dX8_takePacket_22 (n := 23) rfl ?_
      refine V_aload_n X (q := 0) rfl rfl dX8_takePacket_23 (n := 24) rfl ?_
      refine V_getR X (by decide) rfl rfl (k := 25) inX8_takePacket_X8 rfl (by decide) wX8_takePacket_69 dX8_takePacket_24 (n := 27) rfl ?_
      refine V_iconst X (v := 4) (by decide) dX8_takePacket_27 (n := 28) rfl ?_
      refine V_iload_n X (q := 1) rfl rfl dX8_takePacket_28 (n := 29) rfl ?_
      refine V_imul X dX8_takePacket_29 (n := 30) rfl ?_
      refine V_iload_n X (q := 2) rfl rfl dX8_takePacket_30 (n := 31) rfl ?_
      refine V_iadd X dX8_takePacket_31 (n := 32) rfl ?_
      obtain ⟨g3, h⟩ := h
      refine V_ildN X (by decide) (by decide) rfl g3 dX8_takePacket_32 (n := 33) rfl ?_
      obtain ⟨g4, h⟩ := h
      refine V_istN X (by decide) (by decide) rfl g4 dX8_takePacket_33 (n := 34) rfl (fun N5 eN5 => ?_)
      have h := bd_at h eN5
      obtain ⟨x6, ex6⟩ : ∃ z : Int32, z = v2 + (1 : Int32) := ⟨_, rfl⟩
      have h := bd_at h ex6
      refine V_iinc X (q := 2) (d := 1) (L2 := [(2, .int x6), (0, .ref (ρ 66)), (1, .int p1)]) rfl (by decide) (by decide) ex6 rfl dX8_takePacket_34 (n := 37) rfl ?_
      refine V_goto X dX8_takePacket_37 (tgt := 2) (by decide) ?_
      refine V_loc [1, 2, 0] rfl ?_
      exact ih x6 N5 h
set_option maxRecDepth 100000 in
set_option maxHeartbeats 4000000 in
theorem TX8_takePacket (l : Launch) (D : va_G) (G : Gc) (ρ : Nat → Nat) (C : Xm) (N : Nm)  (a1 : Int32) (K : Nm → Prop) (h : fX8_takePacket N a1 K) : Kv l yX8_takePacket wsX8_takePacket rmX8_takePacket D G ρ [.ref (ρ 66), .int a1] C N (fun C1 N1 => K N1 ∧ C1 = C) := by
  refine Kv.ofV (cc := cX8_takePacket) (maxL := 3) (ret := none) (by decide +kernel) rfl (Nat.le_of_ble_eq_true rfl) ?_
  intro p e s m args below meth c X hr hlk
  show V p l e rmX8_takePacket s m args below meth c D G ρ (WA ρ s.heap.size) s.heap 3 0 0 (Qv D G ρ s args below (fun C1 N1 => K N1 ∧ C1 = C)) 0 [(0, .ref (ρ 66)), (1, .int a1)] [] C N
  unfold fX8_takePacket at h
  refine V_iconst X (v := 1) (by decide) dX8_takePacket_0 (n := 1) rfl ?_
  refine V_istore_n X (L2 := [(2, .int (1 : Int32)), (0, .ref (ρ 66)), (1, .int a1)]) rfl (by decide) rfl dX8_takePacket_1 (n := 2) rfl ?_
  refine jn_o h (fun j7 ej7 h => ?_)
  have kj7 : ∀ (x8 : Int32) (N9 : Nm), j7 x8 N9 → V p l e rmX8_takePacket s m args below meth c D G ρ (WA ρ s.heap.size) s.heap 3 0 0 (Qv D G ρ s args below (fun C1 N1 => K N1 ∧ C1 = C)) 40 [(0, .ref (ρ 66)), (1, .int a1), (2, .int x8)] [] C N9 := by
    intro x8 N9 h
    rw [ej7] at h
    try dsimp only at h
    refine V_aload_n X (q := 0) rfl rfl dX8_takePacket_40 (n := 41) rfl ?_
    refine V_getR X (by decide) rfl rfl (k := 24) inX8_takePacket_X8 rfl (by decide) wX8_takePacket_66 dX8_takePacket_41 (n := 44) rfl ?_
    refine V_iload_n X (q := 1) rfl rfl dX8_takePacket_44 (n := 45) rfl ?_
    refine V_dup2 X rfl rfl dX8_takePacket_45 (n := 46) rfl ?_
    obtain ⟨g10, h⟩ := h
    refine V_ildN X (by decide) (by decide) rfl g10 dX8_takePacket_46 (n := 47) rfl ?_
    refine V_iconst X (v := 1) (by decide) dX8_takePacket_47 (n := 48) rfl ?_
    refine V_isub X dX8_takePacket_48 (n := 49) rfl ?_
    obtain ⟨g11, h⟩ := h
    refine V_istN X (by decide) (by decide) rfl g11 dX8_takePacket_49 (n := 50) rfl (fun N12 eN12 => ?_)
    have h := bd_at h eN12
    exact V_vret X hr hlk dX8_takePacket_50 ⟨h, rfl⟩
  refine V_loc [1, 2, 0] rfl ?_
  exact TX8_takePacket_L2 X hr hlk C a1 (E := j7) (K := K) kj7 200 (1 : Int32) N h
abbrev rmX8_spreadSchedule : Room := { frames := 3, cells := 0, slots := 0, locals := 72 }
theorem wX8_spreadSchedule_25 : Cond.fieldLink RX8 25 "FloodBusModel" "alive" "[Z" ∈ wsX8_spreadSchedule := by decide +kernel
theorem wX8_spreadSchedule_41 : Cond.fieldLink RX8 41 "FloodBusModel" "host" "I" ∈ wsX8_spreadSchedule := by decide +kernel
theorem wX8_spreadSchedule_144 : Cond.fieldLink RX8 144 "FloodBusModel" "entries" "I" ∈ wsX8_spreadSchedule := by decide +kernel
theorem wX8_spreadSchedule_129 : Cond.fieldLink RX8 129 "FloodBusModel" "nodes" "I" ∈ wsX8_spreadSchedule := by decide +kernel
theorem wX8_spreadSchedule_99 : Cond.fieldLink RX8 99 "FloodBusModel" "informed" "[Z" ∈ wsX8_spreadSchedule := by decide +kernel
theorem wX8_spreadSchedule_29 : Cond.fieldLink RX8 29 "FloodBusModel" "packet" "[I" ∈ wsX8_spreadSchedule := by decide +kernel
theorem wX8_spreadSchedule_38 : Cond.fieldLink RX8 38 "FloodBusModel" "missed" "[I" ∈ wsX8_spreadSchedule := by decide +kernel
theorem inX8_spreadSchedule_X8 : ∀ w ∈ wsX80, w ∈ wsX8_spreadSchedule := by decide +kernel
set_option maxRecDepth 100000 in
set_option maxHeartbeats 4000000 in
theorem TX8_spreadSchedule_L36 {p : Program} {l : Launch} {e : Env} {s : State} {m : MethodId} {args : Array Value} {below : List Frame} {meth : Method} {c : Code} {D : va_G} {G : Gc} {ρ : Nat → Nat} (X : Cx p s m args c cX8_spreadSchedule 3 RX8 wsX8_spreadSchedule D G ρ (WA ρ s.heap.size) s.heap) (hr : meth.sig.returnType = none) (hlk : meth.locks = false) (C : Xm) (p1 : Int32)  {E : Int32 → Nm → Prop} {K : Nm → Prop} (hE : ∀ (v2 : Int32) (N : Nm), E v2 N → V p l e rmX8_spreadSchedule s m args below meth c D G ρ (WA ρ s.heap.size) s.heap 3 0 0 (Qv D G ρ s args below (fun C1 N1 => K N1 ∧ C1 = C)) 120 [(0, .ref (ρ 66)), (1, .int p1), (2, .int v2)] [] C N) : ∀ (n : Nat) (v2 : Int32) (N : Nm), fX8_spreadSchedule_L36 p1 E K n v2 N → V p l e rmX8_spreadSchedule s m args below meth c D G ρ (WA ρ s.heap.size) s.heap 3 0 0 (Qv D G ρ s args below (fun C1 N1 => K N1 ∧ C1 = C)) 36 [(0, .ref (ρ 66)), (1, .int p1), (2, .int v2)] [] C N := by
  intro n
  induction n with
  | zero => intro v2 N h; exact h.elim
  | succ n ih =>
    intro v2 N h
    unfold fX8_spreadSchedule_L36 at h
    refine V_iload_n X (q := 2) rfl rfl dX8_spreadSchedule_36 (n := 37) rfl ?_
    refine V_aload_n X (q := 0) rfl rfl dX8_spreadSchedule_37 (n := 38) rfl ?_
    refine V_getN X (by decide) (by decide) rfl rfl (k := 2) inX8_spreadSchedule_X8 rfl (by decide) wX8_spreadSchedule_129 dX8_spreadSchedule_38 (n := 41) rfl ?_
    refine V_icmp_ge X dX8_spreadSchedule_41 (tgt := 120) (n := 44) (by decide) rfl (fun c10 => ?_) (fun c10 => ?_)
    · have h := ite_t h c10
      exact hE v2 N h
    · have h := ite_f h c10
      refine V_aload_n X (q := 0) rfl rfl dX8_spreadSchedule_44 (n := 45) rfl ?_
      refine V_getR X (by decide) rfl rfl (k := 40) inX8_spreadSchedule_X8 rfl (by decide) wX8_spreadSchedule_99 dX8_spreadSchedule_45 (n := 48) rfl ?_
      refine V_iload_n X (q := 2) rfl rfl dX8_spreadSchedule_48 (n := 49) rfl ?_
      refine V_iload_n X (q := 1) rfl rfl dX8_spreadSchedule_49 (n := 50) rfl ?_
      refine jn_o h (fun j12 ej12 h => ?_)
      have kj12 : ∀ (x18 : Int32), j12 x18 → V p l e rmX8_spreadSchedule s m args below meth c D G ρ (WA ρ s.heap.size) s.heap 3 0 0 (Qv D G ρ s args below (fun C1 N1 => K N1 ∧ C1 = C)) 77 [(0, .ref (ρ 66)), (1, .int p1), (2, .int v2)] [.int x18, .int v2, .ref (ρ 91)] C N := by
        intro x18 h
        rw [ej12] at h
        try dsimp only at h
        obtain ⟨g19, h⟩ := h
        obtain ⟨g20, h⟩ := h
        refine V_zstN X g20 (by decide) (by decide) rfl g19 dX8_spreadSchedule_77 (n := 78) rfl (fun N21 eN21 => ?_)
        have h := bd_at h eN21
        refine V_aload_n X (q := 0) rfl rfl dX8_spreadSchedule_78 (n := 79) rfl ?_
        refine V_getR X (by decide) rfl rfl (k := 12) inX8_spreadSchedule_X8 rfl (by decide) wX8_spreadSchedule_38 dX8_spreadSchedule_79 (n := 82) rfl ?_
        refine V_iload_n X (q := 2) rfl rfl dX8_spreadSchedule_82 (n := 83) rfl ?_
        refine V_aload_n X (q := 0) rfl rfl dX8_spreadSchedule_83 (n := 84) rfl ?_
        refine V_getR X (by decide) rfl rfl (k := 40) inX8_spreadSchedule_X8 rfl (by decide) wX8_spreadSchedule_99 dX8_spreadSchedule_84 (n := 87) rfl ?_
        refine V_iload_n X (q := 2) rfl rfl dX8_spreadSchedule_87 (n := 88) rfl ?_
        obtain ⟨g22, h⟩ := h
        refine V_zldN X (by decide) (by decide) rfl g22 dX8_spreadSchedule_88 (n := 89) rfl ?_
        refine jn_o h (fun j24 ej24 h => ?_)
        have kj24 : ∀ (x29 : Int32), j24 x29 → V p l e rmX8_spreadSchedule s m args below meth c D G ρ (WA ρ s.heap.size) s.heap 3 0 0 (Qv D G ρ s args below (fun C1 N1 => K N1 ∧ C1 = C)) 113 [(0, .ref (ρ 66)), (1, .int p1), (2, .int v2)] [.int x29, .int v2, .ref (ρ 76)] C N21 := by
          intro x29 h
          rw [ej24] at h
          try dsimp only at h
          obtain ⟨g30, h⟩ := h
          refine V_istN X (by decide) (by decide) rfl g30 dX8_spreadSchedule_113 (n := 114) rfl (fun N31 eN31 => ?_)
          have h := bd_at h eN31
          obtain ⟨x32, ex32⟩ : ∃ z : Int32, z = v2 + (1 : Int32) := ⟨_, rfl⟩
          have h := bd_at h ex32
          refine V_iinc X (q := 2) (d := 1) (L2 := [(2, .int x32), (0, .ref (ρ 66)), (1, .int p1)]) rfl (by decide) (by decide) ex32 rfl dX8_spreadSchedule_114 (n := 117) rfl ?_
          refine V_goto X dX8_spreadSchedule_117 (tgt := 36) (by decide) ?_
          refine V_loc [1, 2, 0] rfl ?_
          exact ih x32 N31 h
        refine jn_o h (fun j23 ej23 h => ?_)
        have kj23 : j23 → V p l e rmX8_spreadSchedule s m args below meth c D G ρ (WA ρ s.heap.size) s.heap 3 0 0 (Qv D G ρ s args below (fun C1 N1 => K N1 ∧ C1 = C)) 101 [(0, .ref (ρ 66)), (1, .int p1), (2, .int v2)] [.int v2, .ref (ρ 76)] C N21 := by
          intro  h
          rw [ej23] at h
          refine V_iconst X (v := 0) (by decide) dX8_spreadSchedule_101 (n := 102) rfl ?_
          refine V_goto X dX8_spreadSchedule_102 (tgt := 113) (by decide) ?_
          exact kj24 (0 : Int32) h
        refine V_if_ne X dX8_spreadSchedule_89 (tgt := 101) (n := 92) (by decide) rfl (fun c25 => ?_) (fun c25 => ?_)
        · have h := ite_f h c25
          exact kj23  h
        · have h := ite_t h c25
          refine V_aload_n X (q := 0) rfl rfl dX8_spreadSchedule_92 (n := 93) rfl ?_
          refine V_getR X (by decide) rfl rfl (k := 8) inX8_spreadSchedule_X8 rfl (by decide) wX8_spreadSchedule_25 dX8_spreadSchedule_93 (n := 96) rfl ?_
          refine V_iload_n X (q := 2) rfl rfl dX8_spreadSchedule_96 (n := 97) rfl ?_
          obtain ⟨g26, h⟩ := h
          refine V_zldN X (by decide) (by decide) rfl g26 dX8_spreadSchedule_97 (n := 98) rfl ?_
          refine V_if_ne X dX8_spreadSchedule_98 (tgt := 105) (n := 101) (by decide) rfl (fun c27 => ?_) (fun c27 => ?_)
          · have h := ite_f h c27
            refine V_aload_n X (q := 0) rfl rfl dX8_spreadSchedule_105 (n := 106) rfl ?_
            refine V_getR X (by decide) rfl rfl (k := 12) inX8_spreadSchedule_X8 rfl (by decide) wX8_spreadSchedule_38 dX8_spreadSchedule_106 (n := 109) rfl ?_
            refine V_iload_n X (q := 2) rfl rfl dX8_spreadSchedule_109 (n := 110) rfl ?_
            obtain ⟨g28, h⟩ := h
            refine V_ildN X (by decide) (by decide) rfl g28 dX8_spreadSchedule_110 (n := 111) rfl ?_
            refine V_iconst X (v := 1) (by decide) dX8_spreadSchedule_111 (n := 112) rfl ?_
            refine V_iadd X dX8_spreadSchedule_112 (n := 113) rfl ?_
            exact kj24 ((N21.1 76 (Int32.toNatClampNeg v2)) + (1 : Int32)) h
          · have h := ite_t h c27
            exact kj23  h
      refine jn_o h (fun j11 ej11 h => ?_)
      have kj11 : j11 → V p l e rmX8_spreadSchedule s m args below meth c D G ρ (WA ρ s.heap.size) s.heap 3 0 0 (Qv D G ρ s args below (fun C1 N1 => K N1 ∧ C1 = C)) 76 [(0, .ref (ρ 66)), (1, .int p1), (2, .int v2)] [.int v2, .ref (ρ 91)] C N := by
        intro  h
        rw [ej11] at h
        refine V_iconst X (v := 0) (by decide) dX8_spreadSchedule_76 (n := 77) rfl ?_
        exact kj12 (0 : Int32) h
      refine V_if_eq X dX8_spreadSchedule_50 (tgt := 76) (n := 53) (by decide) rfl (fun c13 => ?_) (fun c13 => ?_)
      · have h := ite_t h c13
        exact kj11  h
      · have h := ite_f h c13
        refine V_aload_n X (q := 0) rfl rfl dX8_spreadSchedule_53 (n := 54) rfl ?_
        refine V_getR X (by decide) rfl rfl (k := 8) inX8_spreadSchedule_X8 rfl (by decide) wX8_spreadSchedule_25 dX8_spreadSchedule_54 (n := 57) rfl ?_
        refine V_iload_n X (q := 2) rfl rfl dX8_spreadSchedule_57 (n := 58) rfl ?_
        obtain ⟨g14, h⟩ := h
        refine V_zldN X (by decide) (by decide) rfl g14 dX8_spreadSchedule_58 (n := 59) rfl ?_
        refine V_if_eq X dX8_spreadSchedule_59 (tgt := 76) (n := 62) (by decide) rfl (fun c15 => ?_) (fun c15 => ?_)
        · have h := ite_t h c15
          exact kj11  h
        · have h := ite_f h c15
          refine V_aload_n X (q := 0) rfl rfl dX8_spreadSchedule_62 (n := 63) rfl ?_
          refine V_getR X (by decide) rfl rfl (k := 9) inX8_spreadSchedule_X8 rfl (by decide) wX8_spreadSchedule_29 dX8_spreadSchedule_63 (n := 66) rfl ?_
          refine V_iload_n X (q := 2) rfl rfl dX8_spreadSchedule_66 (n := 67) rfl ?_
          obtain ⟨g16, h⟩ := h
          refine V_ildN X (by decide) (by decide) rfl g16 dX8_spreadSchedule_67 (n := 68) rfl ?_
          refine V_iconst X (v := -1) (by decide) dX8_spreadSchedule_68 (n := 69) rfl ?_
          refine V_icmp_eq X dX8_spreadSchedule_69 (tgt := 76) (n := 72) (by decide) rfl (fun c17 => ?_) (fun c17 => ?_)
          · have h := ite_t h c17
            exact kj11  h
          · have h := ite_f h c17
            refine V_iconst X (v := 1) (by decide) dX8_spreadSchedule_72 (n := 73) rfl ?_
            refine V_goto X dX8_spreadSchedule_73 (tgt := 77) (by decide) ?_
            exact kj12 (1 : Int32) h
set_option maxRecDepth 100000 in
set_option maxHeartbeats 4000000 in
theorem TX8_spreadSchedule (l : Launch) (D : va_G) (G : Gc) (ρ : Nat → Nat) (C : Xm) (N : Nm)   (K : Nm → Prop) (h : fX8_spreadSchedule N K) : Kv l yX8_spreadSchedule wsX8_spreadSchedule rmX8_spreadSchedule D G ρ [.ref (ρ 66)] C N (fun C1 N1 => K N1 ∧ C1 = C) := by
  refine Kv.ofV (cc := cX8_spreadSchedule) (maxL := 3) (ret := none) (by decide +kernel) rfl (Nat.le_of_ble_eq_true rfl) ?_
  intro p e s m args below meth c X hr hlk
  show V p l e rmX8_spreadSchedule s m args below meth c D G ρ (WA ρ s.heap.size) s.heap 3 0 0 (Qv D G ρ s args below (fun C1 N1 => K N1 ∧ C1 = C)) 0 [(0, .ref (ρ 66))] [] C N
  unfold fX8_spreadSchedule at h
  refine V_aload_n X (q := 0) rfl rfl dX8_spreadSchedule_0 (n := 1) rfl ?_
  refine V_getR X (by decide) rfl rfl (k := 8) inX8_spreadSchedule_X8 rfl (by decide) wX8_spreadSchedule_25 dX8_spreadSchedule_1 (n := 4) rfl ?_
  refine V_aload_n X (q := 0) rfl rfl dX8_spreadSchedule_4 (n := 5) rfl ?_
  refine V_getN X (by decide) (by decide) rfl rfl (k := 14) inX8_spreadSchedule_X8 rfl (by decide) wX8_spreadSchedule_41 dX8_spreadSchedule_5 (n := 8) rfl ?_
  obtain ⟨g1, h⟩ := h
  refine V_zldN X (by decide) (by decide) rfl g1 dX8_spreadSchedule_8 (n := 9) rfl ?_
  refine V_topi (fun x2 ex2 => ?_)
  have h := bd_at h ex2
  refine V_istore_n X (L2 := [(1, .int x2), (0, .ref (ρ 66))]) rfl (by decide) rfl dX8_spreadSchedule_9 (n := 10) rfl ?_
  refine V_aload_n X (q := 1) rfl rfl dX8_spreadSchedule_10 (n := 11) rfl ?_
  refine V_iconst X (v := 0) (by decide) dX8_spreadSchedule_11 (n := 12) rfl ?_
  refine V_putN X (by decide) (by decide) rfl rfl (k := 28) inX8_spreadSchedule_X8 rfl (by decide) wX8_spreadSchedule_144 tyX8 tyX8_ok nmX8 rfl (by decide +kernel) dX8_spreadSchedule_12 (n := 15) rfl (fun N3 eN3 => ?_)
  have h := bd_at h eN3
  refine V_iload_n X (q := 0) rfl rfl dX8_spreadSchedule_15 (n := 16) rfl ?_
  refine jn_o h (fun j4 ej4 h => ?_)
  have kj4 : ∀ (N9 : Nm), j4 N9 → V p l e rmX8_spreadSchedule s m args below meth c D G ρ (WA ρ s.heap.size) s.heap 3 0 0 (Qv D G ρ s args below (fun C1 N1 => K N1 ∧ C1 = C)) 34 [(0, .ref (ρ 66)), (1, .int x2)] [] C N9 := by
    intro N9 h
    rw [ej4] at h
    try dsimp only at h
    refine V_iconst X (v := 0) (by decide) dX8_spreadSchedule_34 (n := 35) rfl ?_
    refine V_istore_n X (L2 := [(2, .int (0 : Int32)), (0, .ref (ρ 66)), (1, .int x2)]) rfl (by decide) rfl dX8_spreadSchedule_35 (n := 36) rfl ?_
    refine jn_o h (fun j33 ej33 h => ?_)
    have kj33 : ∀ (x34 : Int32) (N35 : Nm), j33 x34 N35 → V p l e rmX8_spreadSchedule s m args below meth c D G ρ (WA ρ s.heap.size) s.heap 3 0 0 (Qv D G ρ s args below (fun C1 N1 => K N1 ∧ C1 = C)) 120 [(0, .ref (ρ 66)), (1, .int x2), (2, .int x34)] [] C N35 := by
      intro x34 N35 h
      rw [ej33] at h
      try dsimp only at h
      exact V_vret X hr hlk dX8_spreadSchedule_120 ⟨h, rfl⟩
    refine V_loc [1, 2, 0] rfl ?_
    exact TX8_spreadSchedule_L36 X hr hlk C x2 (E := j33) (K := K) kj33 200 (0 : Int32) N9 h
  refine V_if_eq X dX8_spreadSchedule_16 (tgt := 34) (n := 19) (by decide) rfl (fun c5 => ?_) (fun c5 => ?_)
  · have h := ite_t h c5
    refine V_loc [1, 0] rfl ?_
    exact kj4 N3 h
  · have h := ite_f h c5
    refine V_aload_n X (q := 1) rfl rfl dX8_spreadSchedule_19 (n := 20) rfl ?_
    refine V_callv X (As := []) (rest := []) (nA := 0) (i := 66) (q := (RX8, TX8, 42)) (TX8_buildSchedule l D G ρ C N3  _ h) gX8_spreadSchedule_X8_buildSchedule rfl rfl rfl (by decide +kernel) rfl ⟨by decide, by decide⟩ (Nat.le_of_ble_eq_true rfl) ⟨by decide, by decide⟩ (by decide) rfl rfl rfl dX8_spreadSchedule_20 (n := 23) rfl (fun M0 N6 h => ?_)
    obtain ⟨h, eo⟩ := h
    rw [eo]
    refine V_aload_n X (q := 1) rfl rfl dX8_spreadSchedule_23 (n := 24) rfl ?_
    refine V_iconst X (v := 1) (by decide) dX8_spreadSchedule_24 (n := 25) rfl ?_
    refine V_aload_n X (q := 1) rfl rfl dX8_spreadSchedule_25 (n := 26) rfl ?_
    refine V_getN X (by decide) (by decide) rfl rfl (k := 14) inX8_spreadSchedule_X8 rfl (by decide) wX8_spreadSchedule_41 dX8_spreadSchedule_26 (n := 29) rfl ?_
    refine V_ishl X dX8_spreadSchedule_29 (n := 30) rfl ?_
    refine V_calli X (As := [.int ((1 : Int32) <<< ((N6.1 66 14) &&& 31))]) (rest := []) (nA := 1) (i := 66) (q := (RX8, TX8, 42)) (TX8_floodNow l D G ρ C N6 ((1 : Int32) <<< ((N6.1 66 14) &&& 31)) _ h) gX8_spreadSchedule_X8_floodNow rfl rfl rfl (by decide +kernel) rfl ⟨by decide, by decide⟩ (Nat.le_of_ble_eq_true rfl) ⟨by decide, by decide⟩ (by decide) rfl rfl rfl dX8_spreadSchedule_30 (n := 33) rfl (fun r7 M0 N8 h => ?_)
    obtain ⟨h, eo⟩ := h
    rw [eo]
    refine V_pop X rfl dX8_spreadSchedule_33 (n := 34) rfl ?_
    refine V_loc [1, 0] rfl ?_
    exact kj4 N8 h
abbrev rmX8_serve : Room := { frames := 3, cells := 0, slots := 0, locals := 72 }
theorem wX8_serve_57 : Cond.fieldLink RX8 57 "FloodBusModel" "source" "[I" ∈ wsX8_serve := by decide +kernel
theorem wX8_serve_25 : Cond.fieldLink RX8 25 "FloodBusModel" "alive" "[Z" ∈ wsX8_serve := by decide +kernel
theorem wX8_serve_99 : Cond.fieldLink RX8 99 "FloodBusModel" "informed" "[Z" ∈ wsX8_serve := by decide +kernel
theorem wX8_serve_29 : Cond.fieldLink RX8 29 "FloodBusModel" "packet" "[I" ∈ wsX8_serve := by decide +kernel
theorem wX8_serve_41 : Cond.fieldLink RX8 41 "FloodBusModel" "host" "I" ∈ wsX8_serve := by decide +kernel
theorem wX8_serve_72 : Cond.fieldLink RX8 72 "FloodBusModel" "delivered" "[I" ∈ wsX8_serve := by decide +kernel
theorem wX8_serve_75 : Cond.fieldLink RX8 75 "FloodBusModel" "lost" "[I" ∈ wsX8_serve := by decide +kernel
theorem inX8_serve_X8 : ∀ w ∈ wsX80, w ∈ wsX8_serve := by decide +kernel
set_option maxRecDepth 100000 in
set_option maxHeartbeats 4000000 in
theorem TX8_serve (l : Launch) (D : va_G) (G : Gc) (ρ : Nat → Nat) (C : Xm) (N : Nm)  (a1 : Int32) (K : Int32 → Nm → Prop) (h : fX8_serve N a1 K) : Ki l yX8_serve wsX8_serve rmX8_serve D G ρ [.ref (ρ 66), .int a1] C N (fun r C1 N1 => K r N1 ∧ C1 = C) := by
  refine Ki.ofV (cc := cX8_serve) (maxL := 5) (ret := (some .int)) (by decide +kernel) rfl (Nat.le_of_ble_eq_true rfl) ?_
  intro p e s m args below meth c X hr hlk
  show V p l e rmX8_serve s m args below meth c D G ρ (WA ρ s.heap.size) s.heap 5 0 0 (Qi D G ρ s args below (fun r C1 N1 => K r N1 ∧ C1 = C)) 0 [(0, .ref (ρ 66)), (1, .int a1)] [] C N
  unfold fX8_serve at h
  refine V_aload_n X (q := 0) rfl rfl dX8_serve_0 (n := 1) rfl ?_
  refine V_iload_n X (q := 1) rfl rfl dX8_serve_1 (n := 2) rfl ?_
  refine V_callv X (As := [.int a1]) (rest := []) (nA := 1) (i := 66) (q := (RX8, TX8, 42)) (TX8_takePacket l D G ρ C N a1 _ h) gX8_serve_X8_takePacket rfl rfl rfl (by decide +kernel) rfl ⟨by decide, by decide⟩ (Nat.le_of_ble_eq_true rfl) ⟨by decide, by decide⟩ (by decide) rfl rfl rfl dX8_serve_2 (n := 5) rfl (fun M0 N1 h => ?_)
  obtain ⟨h, eo⟩ := h
  rw [eo]
  refine V_aload_n X (q := 0) rfl rfl dX8_serve_5 (n := 6) rfl ?_
  refine V_getR X (by decide) rfl rfl (k := 21) inX8_serve_X8 rfl (by decide) wX8_serve_57 dX8_serve_6 (n := 9) rfl ?_
  refine V_iload_n X (q := 1) rfl rfl dX8_serve_9 (n := 10) rfl ?_
  obtain ⟨g2, h⟩ := h
  refine V_ildN X (by decide) (by decide) rfl g2 dX8_serve_10 (n := 11) rfl ?_
  refine V_topi (fun x3 ex3 => ?_)
  have h := bd_at h ex3
  refine V_istore_n X (L2 := [(2, .int x3), (0, .ref (ρ 66)), (1, .int a1)]) rfl (by decide) rfl dX8_serve_11 (n := 12) rfl ?_
  refine V_aload_n X (q := 1) rfl rfl dX8_serve_12 (n := 13) rfl ?_
  refine V_getR X (by decide) rfl rfl (k := 8) inX8_serve_X8 rfl (by decide) wX8_serve_25 dX8_serve_13 (n := 16) rfl ?_
  refine V_iload_n X (q := 0) rfl rfl dX8_serve_16 (n := 17) rfl ?_
  obtain ⟨g4, h⟩ := h
  refine V_zldN X (by decide) (by decide) rfl g4 dX8_serve_17 (n := 18) rfl ?_
  refine jn_o h (fun j6 ej6 h => ?_)
  have kj6 : ∀ (x10 : Int32), j6 x10 → V p l e rmX8_serve s m args below meth c D G ρ (WA ρ s.heap.size) s.heap 5 0 0 (Qi D G ρ s args below (fun r C1 N1 => K r N1 ∧ C1 = C)) 35 [(0, .ref (ρ 66)), (1, .int a1), (2, .int x3)] [.int x10] C N1 := by
    intro x10 h
    rw [ej6] at h
    try dsimp only at h
    refine V_istore_n X (L2 := [(3, .int x10), (0, .ref (ρ 66)), (1, .int a1), (2, .int x3)]) rfl (by decide) rfl dX8_serve_35 (n := 36) rfl ?_
    refine V_iload_n X (q := 0) rfl rfl dX8_serve_36 (n := 37) rfl ?_
    refine jn_o h (fun j11 ej11 h => ?_)
    have kj11 : ∀ (N15 : Nm), j11 N15 → V p l e rmX8_serve s m args below meth c D G ρ (WA ρ s.heap.size) s.heap 5 0 0 (Qi D G ρ s args below (fun r C1 N1 => K r N1 ∧ C1 = C)) 48 [(0, .ref (ρ 66)), (1, .int a1), (2, .int x3), (3, .int x10)] [] C N15 := by
      intro N15 h
      rw [ej11] at h
      try dsimp only at h
      refine V_iload_n X (q := 3) rfl rfl dX8_serve_48 (n := 49) rfl ?_
      refine jn_o h (fun j17 ej17 h => ?_)
      have kj17 : ∀ (x21 : Int32), j17 x21 → V p l e rmX8_serve s m args below meth c D G ρ (WA ρ s.heap.size) s.heap 5 0 0 (Qi D G ρ s args below (fun r C1 N1 => K r N1 ∧ C1 = C)) 70 [(0, .ref (ρ 66)), (1, .int a1), (2, .int x3), (3, .int x10)] [.int x21] C N15 := by
        intro x21 h
        rw [ej17] at h
        try dsimp only at h
        refine V_istore X (L2 := [(4, .int x21), (0, .ref (ρ 66)), (1, .int a1), (2, .int x3), (3, .int x10)]) (by decide) rfl dX8_serve_70 (n := 72) rfl ?_
        refine V_aload_n X (q := 1) rfl rfl dX8_serve_72 (n := 73) rfl ?_
        refine V_getR X (by decide) rfl rfl (k := 26) inX8_serve_X8 rfl (by decide) wX8_serve_72 dX8_serve_73 (n := 76) rfl ?_
        refine V_iload_n X (q := 2) rfl rfl dX8_serve_76 (n := 77) rfl ?_
        refine V_dup2 X rfl rfl dX8_serve_77 (n := 78) rfl ?_
        obtain ⟨g22, h⟩ := h
        refine V_ildN X (by decide) (by decide) rfl g22 dX8_serve_78 (n := 79) rfl ?_
        refine V_iload X (q := 0) rfl dX8_serve_79 (n := 81) rfl ?_
        refine jn_o h (fun j23 ej23 h => ?_)
        have kj23 : ∀ (x25 : Int32), j23 x25 → V p l e rmX8_serve s m args below meth c D G ρ (WA ρ s.heap.size) s.heap 5 0 0 (Qi D G ρ s args below (fun r C1 N1 => K r N1 ∧ C1 = C)) 89 [(0, .ref (ρ 66)), (1, .int a1), (2, .int x3), (3, .int x10), (4, .int x21)] [.int x25, .int (N15.1 82 (Int32.toNatClampNeg a1)), .int a1, .ref (ρ 82)] C N15 := by
          intro x25 h
          rw [ej23] at h
          try dsimp only at h
          refine V_iadd X dX8_serve_89 (n := 90) rfl ?_
          obtain ⟨g26, h⟩ := h
          refine V_istN X (by decide) (by decide) rfl g26 dX8_serve_90 (n := 91) rfl (fun N27 eN27 => ?_)
          have h := bd_at h eN27
          refine V_aload_n X (q := 0) rfl rfl dX8_serve_91 (n := 92) rfl ?_
          refine V_getR X (by decide) rfl rfl (k := 27) inX8_serve_X8 rfl (by decide) wX8_serve_75 dX8_serve_92 (n := 95) rfl ?_
          refine V_iload_n X (q := 1) rfl rfl dX8_serve_95 (n := 96) rfl ?_
          refine V_dup2 X rfl rfl dX8_serve_96 (n := 97) rfl ?_
          obtain ⟨g28, h⟩ := h
          refine V_ildN X (by decide) (by decide) rfl g28 dX8_serve_97 (n := 98) rfl ?_
          refine V_iload X (q := 4) rfl dX8_serve_98 (n := 100) rfl ?_
          refine jn_o h (fun j29 ej29 h => ?_)
          have kj29 : ∀ (x31 : Int32), j29 x31 → V p l e rmX8_serve s m args below meth c D G ρ (WA ρ s.heap.size) s.heap 5 0 0 (Qi D G ρ s args below (fun r C1 N1 => K r N1 ∧ C1 = C)) 108 [(0, .ref (ρ 66)), (1, .int a1), (2, .int x3), (3, .int x10), (4, .int x21)] [.int x31, .int (N27.1 83 (Int32.toNatClampNeg a1)), .int a1, .ref (ρ 83)] C N27 := by
            intro x31 h
            rw [ej29] at h
            try dsimp only at h
            refine V_iadd X dX8_serve_108 (n := 109) rfl ?_
            obtain ⟨g32, h⟩ := h
            refine V_istN X (by decide) (by decide) rfl g32 dX8_serve_109 (n := 110) rfl (fun N33 eN33 => ?_)
            have h := bd_at h eN33
            refine V_iload X (q := 4) rfl dX8_serve_110 (n := 112) rfl ?_
            refine jn_o h (fun j34 ej34 h => ?_)
            have kj34 : ∀ (x36 : Int32), j34 x36 → V p l e rmX8_serve s m args below meth c D G ρ (WA ρ s.heap.size) s.heap 5 0 0 (Qi D G ρ s args below (fun r C1 N1 => K r N1 ∧ C1 = C)) 120 [(0, .ref (ρ 66)), (1, .int a1), (2, .int x3), (3, .int x10), (4, .int x21)] [.int x36] C N33 := by
              intro x36 h
              rw [ej34] at h
              try dsimp only at h
              exact V_iret X hr hlk dX8_serve_120 ⟨h, rfl⟩
            refine V_if_eq X dX8_serve_112 (tgt := 119) (n := 115) (by decide) rfl (fun c35 => ?_) (fun c35 => ?_)
            · have h := ite_t h c35
              refine V_iconst X (v := 0) (by decide) dX8_serve_119 (n := 120) rfl ?_
              exact kj34 (0 : Int32) h
            · have h := ite_f h c35
              refine V_iconst X (v := 1) (by decide) dX8_serve_115 (n := 116) rfl ?_
              refine V_goto X dX8_serve_116 (tgt := 120) (by decide) ?_
              exact kj34 (1 : Int32) h
          refine V_if_eq X dX8_serve_100 (tgt := 107) (n := 103) (by decide) rfl (fun c30 => ?_) (fun c30 => ?_)
          · have h := ite_t h c30
            refine V_iconst X (v := 1) (by decide) dX8_serve_107 (n := 108) rfl ?_
            exact kj29 (1 : Int32) h
          · have h := ite_f h c30
            refine V_iconst X (v := 0) (by decide) dX8_serve_103 (n := 104) rfl ?_
            refine V_goto X dX8_serve_104 (tgt := 108) (by decide) ?_
            exact kj29 (0 : Int32) h
        refine V_if_eq X dX8_serve_81 (tgt := 88) (n := 84) (by decide) rfl (fun c24 => ?_) (fun c24 => ?_)
        · have h := ite_t h c24
          refine V_iconst X (v := 0) (by decide) dX8_serve_88 (n := 89) rfl ?_
          refine V_loc [1, 2, 3, 4, 0] rfl ?_
          exact kj23 (0 : Int32) h
        · have h := ite_f h c24
          refine V_iconst X (v := 1) (by decide) dX8_serve_84 (n := 85) rfl ?_
          refine V_goto X dX8_serve_85 (tgt := 89) (by decide) ?_
          refine V_loc [1, 2, 3, 4, 0] rfl ?_
          exact kj23 (1 : Int32) h
      refine jn_o h (fun j16 ej16 h => ?_)
      have kj16 : j16 → V p l e rmX8_serve s m args below meth c D G ρ (WA ρ s.heap.size) s.heap 5 0 0 (Qi D G ρ s args below (fun r C1 N1 => K r N1 ∧ C1 = C)) 69 [(0, .ref (ρ 66)), (1, .int a1), (2, .int x3), (3, .int x10)] [] C N15 := by
        intro  h
        rw [ej16] at h
        refine V_iconst X (v := 0) (by decide) dX8_serve_69 (n := 70) rfl ?_
        exact kj17 (0 : Int32) h
      refine V_if_eq X dX8_serve_49 (tgt := 69) (n := 52) (by decide) rfl (fun c18 => ?_) (fun c18 => ?_)
      · have h := ite_t h c18
        exact kj16  h
      · have h := ite_f h c18
        refine V_aload_n X (q := 0) rfl rfl dX8_serve_52 (n := 53) rfl ?_
        refine V_getR X (by decide) rfl rfl (k := 9) inX8_serve_X8 rfl (by decide) wX8_serve_29 dX8_serve_53 (n := 56) rfl ?_
        refine V_aload_n X (q := 0) rfl rfl dX8_serve_56 (n := 57) rfl ?_
        refine V_getN X (by decide) (by decide) rfl rfl (k := 14) inX8_serve_X8 rfl (by decide) wX8_serve_41 dX8_serve_57 (n := 60) rfl ?_
        obtain ⟨g19, h⟩ := h
        refine V_ildN X (by decide) (by decide) rfl g19 dX8_serve_60 (n := 61) rfl ?_
        refine V_iconst X (v := -1) (by decide) dX8_serve_61 (n := 62) rfl ?_
        refine V_icmp_eq X dX8_serve_62 (tgt := 69) (n := 65) (by decide) rfl (fun c20 => ?_) (fun c20 => ?_)
        · have h := ite_t h c20
          exact kj16  h
        · have h := ite_f h c20
          refine V_iconst X (v := 1) (by decide) dX8_serve_65 (n := 66) rfl ?_
          refine V_goto X dX8_serve_66 (tgt := 70) (by decide) ?_
          exact kj17 (1 : Int32) h
    refine V_if_eq X dX8_serve_37 (tgt := 48) (n := 40) (by decide) rfl (fun c12 => ?_) (fun c12 => ?_)
    · have h := ite_t h c12
      refine V_loc [1, 2, 3, 0] rfl ?_
      exact kj11 N1 h
    · have h := ite_f h c12
      refine V_aload_n X (q := 1) rfl rfl dX8_serve_40 (n := 41) rfl ?_
      refine V_iconst X (v := 1) (by decide) dX8_serve_41 (n := 42) rfl ?_
      refine V_iload_n X (q := 3) rfl rfl dX8_serve_42 (n := 43) rfl ?_
      refine V_ishl X dX8_serve_43 (n := 44) rfl ?_
      refine V_calli X (As := [.int ((1 : Int32) <<< (x3 &&& 31))]) (rest := []) (nA := 1) (i := 66) (q := (RX8, TX8, 42)) (TX8_floodNow l D G ρ C N1 ((1 : Int32) <<< (x3 &&& 31)) _ h) gX8_serve_X8_floodNow rfl rfl rfl (by decide +kernel) rfl ⟨by decide, by decide⟩ (Nat.le_of_ble_eq_true rfl) ⟨by decide, by decide⟩ (by decide) rfl rfl rfl dX8_serve_44 (n := 47) rfl (fun r13 M0 N14 h => ?_)
      obtain ⟨h, eo⟩ := h
      rw [eo]
      refine V_pop X rfl dX8_serve_47 (n := 48) rfl ?_
      refine V_loc [1, 2, 3, 0] rfl ?_
      exact kj11 N14 h
  refine jn_o h (fun j5 ej5 h => ?_)
  have kj5 : j5 → V p l e rmX8_serve s m args below meth c D G ρ (WA ρ s.heap.size) s.heap 5 0 0 (Qi D G ρ s args below (fun r C1 N1 => K r N1 ∧ C1 = C)) 34 [(0, .ref (ρ 66)), (1, .int a1), (2, .int x3)] [] C N1 := by
    intro  h
    rw [ej5] at h
    refine V_iconst X (v := 0) (by decide) dX8_serve_34 (n := 35) rfl ?_
    exact kj6 (0 : Int32) h
  refine V_if_eq X dX8_serve_18 (tgt := 34) (n := 21) (by decide) rfl (fun c7 => ?_) (fun c7 => ?_)
  · have h := ite_t h c7
    refine V_loc [1, 2, 0] rfl ?_
    exact kj5  h
  · have h := ite_f h c7
    refine V_aload_n X (q := 1) rfl rfl dX8_serve_21 (n := 22) rfl ?_
    refine V_getR X (by decide) rfl rfl (k := 40) inX8_serve_X8 rfl (by decide) wX8_serve_99 dX8_serve_22 (n := 25) rfl ?_
    refine V_iload_n X (q := 0) rfl rfl dX8_serve_25 (n := 26) rfl ?_
    obtain ⟨g8, h⟩ := h
    refine V_zldN X (by decide) (by decide) rfl g8 dX8_serve_26 (n := 27) rfl ?_
    refine V_if_eq X dX8_serve_27 (tgt := 34) (n := 30) (by decide) rfl (fun c9 => ?_) (fun c9 => ?_)
    · have h := ite_t h c9
      refine V_loc [1, 2, 0] rfl ?_
      exact kj5  h
    · have h := ite_f h c9
      refine V_iconst X (v := 1) (by decide) dX8_serve_30 (n := 31) rfl ?_
      refine V_goto X dX8_serve_31 (tgt := 35) (by decide) ?_
      refine V_loc [1, 2, 0] rfl ?_
      exact kj6 (1 : Int32) h
abbrev rmX8_takeOver : Room := { frames := 0, cells := 0, slots := 0, locals := 0 }
theorem wX8_takeOver_129 : Cond.fieldLink RX8 129 "FloodBusModel" "nodes" "I" ∈ wsX8_takeOver := by decide +kernel
theorem wX8_takeOver_25 : Cond.fieldLink RX8 25 "FloodBusModel" "alive" "[Z" ∈ wsX8_takeOver := by decide +kernel
theorem wX8_takeOver_41 : Cond.fieldLink RX8 41 "FloodBusModel" "host" "I" ∈ wsX8_takeOver := by decide +kernel
theorem wX8_takeOver_38 : Cond.fieldLink RX8 38 "FloodBusModel" "missed" "[I" ∈ wsX8_takeOver := by decide +kernel
theorem wX8_takeOver_54 : Cond.fieldLink RX8 54 "FloodBusModel" "takeoverLimit" "I" ∈ wsX8_takeOver := by decide +kernel
theorem inX8_takeOver_X8 : ∀ w ∈ wsX80, w ∈ wsX8_takeOver := by decide +kernel
set_option maxRecDepth 100000 in
set_option maxHeartbeats 4000000 in
theorem TX8_takeOver_L2 {p : Program} {l : Launch} {e : Env} {s : State} {m : MethodId} {args : Array Value} {below : List Frame} {meth : Method} {c : Code} {D : va_G} {G : Gc} {ρ : Nat → Nat} (X : Cx p s m args c cX8_takeOver 2 RX8 wsX8_takeOver D G ρ (WA ρ s.heap.size) s.heap) (hr : meth.sig.returnType = none) (hlk : meth.locks = false) (C : Xm)   {E : Int32 → Nm → Prop} {K : Nm → Prop} (hE : ∀ (v1 : Int32) (N : Nm), E v1 N → V p l e rmX8_takeOver s m args below meth c D G ρ (WA ρ s.heap.size) s.heap 2 0 0 (Qv D G ρ s args below (fun C1 N1 => K N1 ∧ C1 = C)) 62 [(0, .ref (ρ 66)), (1, .int v1)] [] C N) : ∀ (n : Nat) (v1 : Int32) (N : Nm), fX8_takeOver_L2  E K n v1 N → V p l e rmX8_takeOver s m args below meth c D G ρ (WA ρ s.heap.size) s.heap 2 0 0 (Qv D G ρ s args below (fun C1 N1 => K N1 ∧ C1 = C)) 2 [(0, .ref (ρ 66)), (1, .int v1)] [] C N := by
  intro n
  induction n with
  | zero => intro v1 N h; exact h.elim
  | succ n ih =>
    intro v1 N h
    unfold fX8_takeOver_L2 at h
    refine V_iload_n X (q := 1) rfl rfl dX8_takeOver_2 (n := 3) rfl ?_
    refine V_aload_n X (q := 0) rfl rfl dX8_takeOver_3 (n := 4) rfl ?_
    refine V_getN X (by decide) (by decide) rfl rfl (k := 2) inX8_takeOver_X8 rfl (by decide) wX8_takeOver_129 dX8_takeOver_4 (n := 7) rfl ?_
    refine V_icmp_ge X dX8_takeOver_7 (tgt := 62) (n := 10) (by decide) rfl (fun c1 => ?_) (fun c1 => ?_)
    · have h := ite_t h c1
      exact hE v1 N h
    · have h := ite_f h c1
      refine V_aload_n X (q := 0) rfl rfl dX8_takeOver_10 (n := 11) rfl ?_
      refine V_getR X (by decide) rfl rfl (k := 8) inX8_takeOver_X8 rfl (by decide) wX8_takeOver_25 dX8_takeOver_11 (n := 14) rfl ?_
      refine V_aload_n X (q := 0) rfl rfl dX8_takeOver_14 (n := 15) rfl ?_
      refine V_getN X (by decide) (by decide) rfl rfl (k := 14) inX8_takeOver_X8 rfl (by decide) wX8_takeOver_41 dX8_takeOver_15 (n := 18) rfl ?_
      obtain ⟨g2, h⟩ := h
      refine V_zldN X (by decide) (by decide) rfl g2 dX8_takeOver_18 (n := 19) rfl ?_
      refine V_if_ne X dX8_takeOver_19 (tgt := 62) (n := 22) (by decide) rfl (fun c3 => ?_) (fun c3 => ?_)
      · have h := ite_f h c3
        exact hE v1 N h
      · have h := ite_t h c3
        refine V_aload_n X (q := 0) rfl rfl dX8_takeOver_22 (n := 23) rfl ?_
        refine V_getR X (by decide) rfl rfl (k := 8) inX8_takeOver_X8 rfl (by decide) wX8_takeOver_25 dX8_takeOver_23 (n := 26) rfl ?_
        refine V_iload_n X (q := 1) rfl rfl dX8_takeOver_26 (n := 27) rfl ?_
        obtain ⟨g4, h⟩ := h
        refine V_zldN X (by decide) (by decide) rfl g4 dX8_takeOver_27 (n := 28) rfl ?_
        refine jn_o h (fun j5 ej5 h => ?_)
        have kj5 : ∀ (N12 : Nm), j5 N12 → V p l e rmX8_takeOver s m args below meth c D G ρ (WA ρ s.heap.size) s.heap 2 0 0 (Qv D G ρ s args below (fun C1 N1 => K N1 ∧ C1 = C)) 56 [(0, .ref (ρ 66)), (1, .int v1)] [] C N12 := by
          intro N12 h
          rw [ej5] at h
          try dsimp only at h
          obtain ⟨x13, ex13⟩ : ∃ z : Int32, z = v1 + (1 : Int32) := ⟨_, rfl⟩
          have h := bd_at h ex13
          refine V_iinc X (q := 1) (d := 1) (L2 := [(1, .int x13), (0, .ref (ρ 66))]) rfl (by decide) (by decide) ex13 rfl dX8_takeOver_56 (n := 59) rfl ?_
          refine V_goto X dX8_takeOver_59 (tgt := 2) (by decide) ?_
          refine V_loc [1, 0] rfl ?_
          exact ih x13 N12 h
        refine V_if_eq X dX8_takeOver_28 (tgt := 56) (n := 31) (by decide) rfl (fun c6 => ?_) (fun c6 => ?_)
        · have h := ite_t h c6
          exact kj5 N h
        · have h := ite_f h c6
          refine V_aload_n X (q := 0) rfl rfl dX8_takeOver_31 (n := 32) rfl ?_
          refine V_getR X (by decide) rfl rfl (k := 12) inX8_takeOver_X8 rfl (by decide) wX8_takeOver_38 dX8_takeOver_32 (n := 35) rfl ?_
          refine V_iload_n X (q := 1) rfl rfl dX8_takeOver_35 (n := 36) rfl ?_
          obtain ⟨g7, h⟩ := h
          refine V_ildN X (by decide) (by decide) rfl g7 dX8_takeOver_36 (n := 37) rfl ?_
          refine V_aload_n X (q := 0) rfl rfl dX8_takeOver_37 (n := 38) rfl ?_
          refine V_getN X (by decide) (by decide) rfl rfl (k := 19) inX8_takeOver_X8 rfl (by decide) wX8_takeOver_54 dX8_takeOver_38 (n := 41) rfl ?_
          refine V_icmp_lt X dX8_takeOver_41 (tgt := 56) (n := 44) (by decide) rfl (fun c8 => ?_) (fun c8 => ?_)
          · have h := ite_t h c8
            exact kj5 N h
          · have h := ite_f h c8
            refine V_aload_n X (q := 0) rfl rfl dX8_takeOver_44 (n := 45) rfl ?_
            refine V_iload_n X (q := 1) rfl rfl dX8_takeOver_45 (n := 46) rfl ?_
            refine V_putN X (by decide) (by decide) rfl rfl (k := 14) inX8_takeOver_X8 rfl (by decide) wX8_takeOver_41 tyX8 tyX8_ok nmX8 rfl (by decide +kernel) dX8_takeOver_46 (n := 49) rfl (fun N9 eN9 => ?_)
            have h := bd_at h eN9
            refine V_aload_n X (q := 0) rfl rfl dX8_takeOver_49 (n := 50) rfl ?_
            refine V_getR X (by decide) rfl rfl (k := 12) inX8_takeOver_X8 rfl (by decide) wX8_takeOver_38 dX8_takeOver_50 (n := 53) rfl ?_
            refine V_iload_n X (q := 1) rfl rfl dX8_takeOver_53 (n := 54) rfl ?_
            refine V_iconst X (v := 0) (by decide) dX8_takeOver_54 (n := 55) rfl ?_
            obtain ⟨g10, h⟩ := h
            refine V_istN X (by decide) (by decide) rfl g10 dX8_takeOver_55 (n := 56) rfl (fun N11 eN11 => ?_)
            have h := bd_at h eN11
            exact kj5 N11 h
set_option maxRecDepth 100000 in
set_option maxHeartbeats 4000000 in
theorem TX8_takeOver (l : Launch) (D : va_G) (G : Gc) (ρ : Nat → Nat) (C : Xm) (N : Nm)   (K : Nm → Prop) (h : fX8_takeOver N K) : Kv l yX8_takeOver wsX8_takeOver rmX8_takeOver D G ρ [.ref (ρ 66)] C N (fun C1 N1 => K N1 ∧ C1 = C) := by
  refine Kv.ofV (cc := cX8_takeOver) (maxL := 2) (ret := none) (by decide +kernel) rfl (Nat.le_of_ble_eq_true rfl) ?_
  intro p e s m args below meth c X hr hlk
  show V p l e rmX8_takeOver s m args below meth c D G ρ (WA ρ s.heap.size) s.heap 2 0 0 (Qv D G ρ s args below (fun C1 N1 => K N1 ∧ C1 = C)) 0 [(0, .ref (ρ 66))] [] C N
  unfold fX8_takeOver at h
  refine V_iconst X (v := 0) (by decide) dX8_takeOver_0 (n := 1) rfl ?_
  refine V_istore_n X (L2 := [(1, .int (0 : Int32)), (0, .ref (ρ 66))]) rfl (by decide) rfl dX8_takeOver_1 (n := 2) rfl ?_
  refine jn_o h (fun j14 ej14 h => ?_)
  have kj14 : ∀ (x15 : Int32) (N16 : Nm), j14 x15 N16 → V p l e rmX8_takeOver s m args below meth c D G ρ (WA ρ s.heap.size) s.heap 2 0 0 (Qv D G ρ s args below (fun C1 N1 => K N1 ∧ C1 = C)) 62 [(0, .ref (ρ 66)), (1, .int x15)] [] C N16 := by
    intro x15 N16 h
    rw [ej14] at h
    try dsimp only at h
    exact V_vret X hr hlk dX8_takeOver_62 ⟨h, rfl⟩
  refine V_loc [1, 0] rfl ?_
  exact TX8_takeOver_L2 X hr hlk C  (E := j14) (K := K) kj14 200 (0 : Int32) N h
abbrev rmX8_runRound : Room := { frames := 4, cells := 0, slots := 0, locals := 96 }
theorem wX8_runRound_144 : Cond.fieldLink RX8 144 "FloodBusModel" "entries" "I" ∈ wsX8_runRound := by decide +kernel
theorem wX8_runRound_78 : Cond.fieldLink RX8 78 "FloodBusModel" "schedule" "[I" ∈ wsX8_runRound := by decide +kernel
theorem wX8_runRound_138 : Cond.fieldLink RX8 138 "FloodBusModel" "round" "I" ∈ wsX8_runRound := by decide +kernel
theorem inX8_runRound_X8 : ∀ w ∈ wsX80, w ∈ wsX8_runRound := by decide +kernel
set_option maxRecDepth 100000 in
set_option maxHeartbeats 4000000 in
theorem TX8_runRound_L12 {p : Program} {l : Launch} {e : Env} {s : State} {m : MethodId} {args : Array Value} {below : List Frame} {meth : Method} {c : Code} {D : va_G} {G : Gc} {ρ : Nat → Nat} (X : Cx p s m args c cX8_runRound 3 RX8 wsX8_runRound D G ρ (WA ρ s.heap.size) s.heap) (hr : meth.sig.returnType = some .int) (hlk : meth.locks = false) (C : Xm)   {E : Int32 → Int32 → Nm → Prop} {K : Int32 → Nm → Prop} (hE : ∀ (v1 : Int32) (v2 : Int32) (N : Nm), E v1 v2 N → V p l e rmX8_runRound s m args below meth c D G ρ (WA ρ s.heap.size) s.heap 3 0 0 (Qi D G ρ s args below (fun r C1 N1 => K r N1 ∧ C1 = C)) 39 [(0, .ref (ρ 66)), (1, .int v1), (2, .int v2)] [] C N) : ∀ (n : Nat) (v1 : Int32) (v2 : Int32) (N : Nm), fX8_runRound_L12  E K n v1 v2 N → V p l e rmX8_runRound s m args below meth c D G ρ (WA ρ s.heap.size) s.heap 3 0 0 (Qi D G ρ s args below (fun r C1 N1 => K r N1 ∧ C1 = C)) 12 [(0, .ref (ρ 66)), (1, .int v1), (2, .int v2)] [] C N := by
  intro n
  induction n with
  | zero => intro v1 v2 N h; exact h.elim
  | succ n ih =>
    intro v1 v2 N h
    unfold fX8_runRound_L12 at h
    refine V_iload_n X (q := 2) rfl rfl dX8_runRound_12 (n := 13) rfl ?_
    refine V_aload_n X (q := 0) rfl rfl dX8_runRound_13 (n := 14) rfl ?_
    refine V_getN X (by decide) (by decide) rfl rfl (k := 28) inX8_runRound_X8 rfl (by decide) wX8_runRound_144 dX8_runRound_14 (n := 17) rfl ?_
    refine V_icmp_ge X dX8_runRound_17 (tgt := 39) (n := 20) (by decide) rfl (fun c3 => ?_) (fun c3 => ?_)
    · have h := ite_t h c3
      exact hE v1 v2 N h
    · have h := ite_f h c3
      refine V_iload_n X (q := 1) rfl rfl dX8_runRound_20 (n := 21) rfl ?_
      refine V_aload_n X (q := 0) rfl rfl dX8_runRound_21 (n := 22) rfl ?_
      refine V_aload_n X (q := 0) rfl rfl dX8_runRound_22 (n := 23) rfl ?_
      refine V_getR X (by decide) rfl rfl (k := 29) inX8_runRound_X8 rfl (by decide) wX8_runRound_78 dX8_runRound_23 (n := 26) rfl ?_
      refine V_iload_n X (q := 2) rfl rfl dX8_runRound_26 (n := 27) rfl ?_
      obtain ⟨g4, h⟩ := h
      refine V_ildN X (by decide) (by decide) rfl g4 dX8_runRound_27 (n := 28) rfl ?_
      refine V_calli X (As := [.int (N.1 84 (Int32.toNatClampNeg v2))]) (rest := [.int v1]) (nA := 1) (i := 66) (q := (RX8, TX8, 42)) (TX8_serve l D G ρ C N (N.1 84 (Int32.toNatClampNeg v2)) _ h) gX8_runRound_X8_serve rfl rfl rfl (by decide +kernel) rfl ⟨by decide, by decide⟩ (Nat.le_of_ble_eq_true rfl) ⟨by decide, by decide⟩ (by decide) rfl rfl rfl dX8_runRound_28 (n := 31) rfl (fun r5 M0 N6 h => ?_)
      obtain ⟨h, eo⟩ := h
      rw [eo]
      refine V_iadd X dX8_runRound_31 (n := 32) rfl ?_
      refine V_topi (fun x7 ex7 => ?_)
      have h := bd_at h ex7
      refine V_istore_n X (L2 := [(1, .int x7), (0, .ref (ρ 66)), (2, .int v2)]) rfl (by decide) rfl dX8_runRound_32 (n := 33) rfl ?_
      obtain ⟨x8, ex8⟩ : ∃ z : Int32, z = v2 + (1 : Int32) := ⟨_, rfl⟩
      have h := bd_at h ex8
      refine V_iinc X (q := 2) (d := 1) (L2 := [(2, .int x8), (1, .int x7), (0, .ref (ρ 66))]) rfl (by decide) (by decide) ex8 rfl dX8_runRound_33 (n := 36) rfl ?_
      refine V_goto X dX8_runRound_36 (tgt := 12) (by decide) ?_
      refine V_loc [2, 1, 0] rfl ?_
      exact ih x7 x8 N6 h
set_option maxRecDepth 100000 in
set_option maxHeartbeats 4000000 in
theorem TX8_runRound (l : Launch) (D : va_G) (G : Gc) (ρ : Nat → Nat) (C : Xm) (N : Nm)   (K : Int32 → Nm → Prop) (h : fX8_runRound N K) : Ki l yX8_runRound wsX8_runRound rmX8_runRound D G ρ [.ref (ρ 66)] C N (fun r C1 N1 => K r N1 ∧ C1 = C) := by
  refine Ki.ofV (cc := cX8_runRound) (maxL := 3) (ret := (some .int)) (by decide +kernel) rfl (Nat.le_of_ble_eq_true rfl) ?_
  intro p e s m args below meth c X hr hlk
  show V p l e rmX8_runRound s m args below meth c D G ρ (WA ρ s.heap.size) s.heap 3 0 0 (Qi D G ρ s args below (fun r C1 N1 => K r N1 ∧ C1 = C)) 0 [(0, .ref (ρ 66))] [] C N
  unfold fX8_runRound at h
  refine V_aload_n X (q := 0) rfl rfl dX8_runRound_0 (n := 1) rfl ?_
  refine V_callv X (As := []) (rest := []) (nA := 0) (i := 66) (q := (RX8, TX8, 42)) (TX8_generate l D G ρ C N  _ h) gX8_runRound_X8_generate rfl rfl rfl (by decide +kernel) rfl ⟨by decide, by decide⟩ (Nat.le_of_ble_eq_true rfl) ⟨by decide, by decide⟩ (by decide) rfl rfl rfl dX8_runRound_1 (n := 4) rfl (fun M0 N1 h => ?_)
  obtain ⟨h, eo⟩ := h
  rw [eo]
  refine V_aload_n X (q := 0) rfl rfl dX8_runRound_4 (n := 5) rfl ?_
  refine V_callv X (As := []) (rest := []) (nA := 0) (i := 66) (q := (RX8, TX8, 42)) (TX8_spreadSchedule l D G ρ C N1  _ h) gX8_runRound_X8_spreadSchedule rfl rfl rfl (by decide +kernel) rfl ⟨by decide, by decide⟩ (Nat.le_of_ble_eq_true rfl) ⟨by decide, by decide⟩ (by decide) rfl rfl rfl dX8_runRound_5 (n := 8) rfl (fun M0 N2 h => ?_)
  obtain ⟨h, eo⟩ := h
  rw [eo]
  refine V_iconst X (v := 0) (by decide) dX8_runRound_8 (n := 9) rfl ?_
  refine V_istore_n X (L2 := [(1, .int (0 : Int32)), (0, .ref (ρ 66))]) rfl (by decide) rfl dX8_runRound_9 (n := 10) rfl ?_
  refine V_iconst X (v := 0) (by decide) dX8_runRound_10 (n := 11) rfl ?_
  refine V_istore_n X (L2 := [(2, .int (0 : Int32)), (1, .int (0 : Int32)), (0, .ref (ρ 66))]) rfl (by decide) rfl dX8_runRound_11 (n := 12) rfl ?_
  refine jn_o h (fun j9 ej9 h => ?_)
  have kj9 : ∀ (x10 : Int32) (x11 : Int32) (N12 : Nm), j9 x10 x11 N12 → V p l e rmX8_runRound s m args below meth c D G ρ (WA ρ s.heap.size) s.heap 3 0 0 (Qi D G ρ s args below (fun r C1 N1 => K r N1 ∧ C1 = C)) 39 [(0, .ref (ρ 66)), (1, .int x10), (2, .int x11)] [] C N12 := by
    intro x10 x11 N12 h
    rw [ej9] at h
    try dsimp only at h
    refine V_aload_n X (q := 0) rfl rfl dX8_runRound_39 (n := 40) rfl ?_
    refine V_callv X (As := []) (rest := []) (nA := 0) (i := 66) (q := (RX8, TX8, 42)) (TX8_takeOver l D G ρ C N12  _ h) gX8_runRound_X8_takeOver rfl rfl rfl (by decide +kernel) rfl ⟨by decide, by decide⟩ (Nat.le_of_ble_eq_true rfl) ⟨by decide, by decide⟩ (by decide) rfl rfl rfl dX8_runRound_40 (n := 43) rfl (fun M0 N13 h => ?_)
    obtain ⟨h, eo⟩ := h
    rw [eo]
    refine V_aload_n X (q := 0) rfl rfl dX8_runRound_43 (n := 44) rfl ?_
    refine V_dup X rfl dX8_runRound_44 (n := 45) rfl ?_
    refine V_getN X (by decide) (by decide) rfl rfl (k := 15) inX8_runRound_X8 rfl (by decide) wX8_runRound_138 dX8_runRound_45 (n := 48) rfl ?_
    refine V_iconst X (v := 1) (by decide) dX8_runRound_48 (n := 49) rfl ?_
    refine V_iadd X dX8_runRound_49 (n := 50) rfl ?_
    refine V_putN X (by decide) (by decide) rfl rfl (k := 15) inX8_runRound_X8 rfl (by decide) wX8_runRound_138 tyX8 tyX8_ok nmX8 rfl (by decide +kernel) dX8_runRound_50 (n := 53) rfl (fun N14 eN14 => ?_)
    have h := bd_at h eN14
    refine V_iload_n X (q := 1) rfl rfl dX8_runRound_53 (n := 54) rfl ?_
    exact V_iret X hr hlk dX8_runRound_54 ⟨h, rfl⟩
  refine V_loc [2, 1, 0] rfl ?_
  exact TX8_runRound_L12 X hr hlk C  (E := j9) (K := K) kj9 200 (0 : Int32) (0 : Int32) N2 h
abbrev rmX8_runRounds : Room := { frames := 5, cells := 0, slots := 0, locals := 118 }
theorem wX8_runRounds_129 : Cond.fieldLink RX8 129 "FloodBusModel" "nodes" "I" ∈ wsX8_runRounds := by decide +kernel
theorem wX8_runRounds_138 : Cond.fieldLink RX8 138 "FloodBusModel" "round" "I" ∈ wsX8_runRounds := by decide +kernel
theorem inX8_runRounds_X8 : ∀ w ∈ wsX80, w ∈ wsX8_runRounds := by decide +kernel
set_option maxRecDepth 100000 in
set_option maxHeartbeats 4000000 in
theorem TX8_runRounds_L45 {p : Program} {l : Launch} {e : Env} {s : State} {m : MethodId} {args : Array Value} {below : List Frame} {meth : Method} {c : Code} {D : va_G} {G : Gc} {ρ : Nat → Nat} (X : Cx p s m args c cX8_runRounds 4 RX8 wsX8_runRounds D G ρ (WA ρ s.heap.size) s.heap) (hr : meth.sig.returnType = some .int) (hlk : meth.locks = false) (C : Xm) (p1 : Int32)  {E : Int32 → Int32 → Nm → Prop} {K : Int32 → Nm → Prop} (hE : ∀ (v2 : Int32) (v3 : Int32) (N : Nm), E v2 v3 N → V p l e rmX8_runRounds s m args below meth c D G ρ (WA ρ s.heap.size) s.heap 4 0 0 (Qi D G ρ s args below (fun r C1 N1 => K r N1 ∧ C1 = C)) 63 [(0, .ref (ρ 66)), (1, .int p1), (2, .int v2), (3, .int v3)] [] C N) : ∀ (n : Nat) (v2 : Int32) (v3 : Int32) (N : Nm), fX8_runRounds_L45 p1 E K n v2 v3 N → V p l e rmX8_runRounds s m args below meth c D G ρ (WA ρ s.heap.size) s.heap 4 0 0 (Qi D G ρ s args below (fun r C1 N1 => K r N1 ∧ C1 = C)) 45 [(0, .ref (ρ 66)), (1, .int p1), (2, .int v2), (3, .int v3)] [] C N := by
  intro n
  induction n with
  | zero => intro v2 v3 N h; exact h.elim
  | succ n ih =>
    intro v2 v3 N h
    unfold fX8_runRounds_L45 at h
    refine V_iload_n X (q := 3) rfl rfl dX8_runRounds_45 (n := 46) rfl ?_
    refine V_iload_n X (q := 1) rfl rfl dX8_runRounds_46 (n := 47) rfl ?_
    refine V_icmp_ge X dX8_runRounds_47 (tgt := 63) (n := 50) (by decide) rfl (fun c5 => ?_) (fun c5 => ?_)
    · have h := ite_t h c5
      exact hE v2 v3 N h
    · have h := ite_f h c5
      refine V_iload_n X (q := 2) rfl rfl dX8_runRounds_50 (n := 51) rfl ?_
      refine V_aload_n X (q := 0) rfl rfl dX8_runRounds_51 (n := 52) rfl ?_
      refine V_calli X (As := []) (rest := [.int v2]) (nA := 0) (i := 66) (q := (RX8, TX8, 42)) (TX8_runRound l D G ρ C N  _ h) gX8_runRounds_X8_runRound rfl rfl rfl (by decide +kernel) rfl ⟨by decide, by decide⟩ (Nat.le_of_ble_eq_true rfl) ⟨by decide, by decide⟩ (by decide) rfl rfl rfl dX8_runRounds_52 (n := 55) rfl (fun r6 M0 N7 h => ?_)
      obtain ⟨h, eo⟩ := h
      rw [eo]
      refine V_iadd X dX8_runRounds_55 (n := 56) rfl ?_
      refine V_topi (fun x8 ex8 => ?_)
      have h := bd_at h ex8
      refine V_istore_n X (L2 := [(2, .int x8), (0, .ref (ρ 66)), (1, .int p1), (3, .int v3)]) rfl (by decide) rfl dX8_runRounds_56 (n := 57) rfl ?_
      obtain ⟨x9, ex9⟩ : ∃ z : Int32, z = v3 + (1 : Int32) := ⟨_, rfl⟩
      have h := bd_at h ex9
      refine V_iinc X (q := 3) (d := 1) (L2 := [(3, .int x9), (2, .int x8), (0, .ref (ρ 66)), (1, .int p1)]) rfl (by decide) (by decide) ex9 rfl dX8_runRounds_57 (n := 60) rfl ?_
      refine V_goto X dX8_runRounds_60 (tgt := 45) (by decide) ?_
      refine V_loc [2, 3, 1, 0] rfl ?_
      exact ih x8 x9 N7 h
set_option maxRecDepth 100000 in
set_option maxHeartbeats 4000000 in
theorem TX8_runRounds (l : Launch) (D : va_G) (G : Gc) (ρ : Nat → Nat) (C : Xm) (N : Nm)  (a1 : Int32) (K : Int32 → Nm → Prop) (h : fX8_runRounds N a1 K) : Ki l yX8_runRounds wsX8_runRounds rmX8_runRounds D G ρ [.ref (ρ 66), .int a1] C N (fun r C1 N1 => K r N1 ∧ C1 = C) := by
  refine Ki.ofV (cc := cX8_runRounds) (maxL := 4) (ret := (some .int)) (by decide +kernel) rfl (Nat.le_of_ble_eq_true rfl) ?_
  intro p e s m args below meth c X hr hlk
  show V p l e rmX8_runRounds s m args below meth c D G ρ (WA ρ s.heap.size) s.heap 4 0 0 (Qi D G ρ s args below (fun r C1 N1 => K r N1 ∧ C1 = C)) 0 [(0, .ref (ρ 66)), (1, .int a1)] [] C N
  unfold fX8_runRounds at h
  refine V_iload_n X (q := 1) rfl rfl dX8_runRounds_0 (n := 1) rfl ?_
  refine V_iconst X (v := 1) (by decide) dX8_runRounds_1 (n := 2) rfl ?_
  refine V_bipush X (v := 20) (by decide) dX8_runRounds_2 (n := 4) rfl ?_
  refine V_callsi X (As := [.int a1, .int (1 : Int32), .int (20 : Int32)]) (rest := []) (nA := 3) (TX8_within l D G ρ C N a1 (1 : Int32) (20 : Int32) _ h) gX8_runRounds_X8_within rfl rfl rfl (by decide +kernel) rfl ⟨by decide, by decide⟩ (Nat.le_of_ble_eq_true rfl) ⟨by decide, by decide⟩  rfl dX8_runRounds_4 (n := 7) rfl (fun r1 M1 M0 h => ?_)
  obtain ⟨h, eo, eo2⟩ := h
  rw [eo, eo2]
  refine V_if_ne X dX8_runRounds_7 (tgt := 14) (n := 10) (by decide) rfl (fun c2 => ?_) (fun c2 => ?_)
  · have h := ite_f h c2
    refine V_aload_n X (q := 0) rfl rfl dX8_runRounds_14 (n := 15) rfl ?_
    refine V_getN X (by decide) (by decide) rfl rfl (k := 2) inX8_runRounds_X8 rfl (by decide) wX8_runRounds_129 dX8_runRounds_15 (n := 18) rfl ?_
    refine V_if_ne X dX8_runRounds_18 (tgt := 25) (n := 21) (by decide) rfl (fun c3 => ?_) (fun c3 => ?_)
    · have h := ite_f h c3
      refine V_aload_n X (q := 0) rfl rfl dX8_runRounds_25 (n := 26) rfl ?_
      refine V_getN X (by decide) (by decide) rfl rfl (k := 15) inX8_runRounds_X8 rfl (by decide) wX8_runRounds_138 dX8_runRounds_26 (n := 29) rfl ?_
      refine V_iload_n X (q := 1) rfl rfl dX8_runRounds_29 (n := 30) rfl ?_
      refine V_iadd X dX8_runRounds_30 (n := 31) rfl ?_
      refine V_sipush X (v := 9999) (by decide) dX8_runRounds_31 (n := 34) rfl ?_
      refine V_icmp_le X dX8_runRounds_34 (tgt := 41) (n := 37) (by decide) rfl (fun c4 => ?_) (fun c4 => ?_)
      · have h := ite_t h c4
        refine V_iconst X (v := 0) (by decide) dX8_runRounds_41 (n := 42) rfl ?_
        refine V_istore_n X (L2 := [(2, .int (0 : Int32)), (0, .ref (ρ 66)), (1, .int a1)]) rfl (by decide) rfl dX8_runRounds_42 (n := 43) rfl ?_
        refine V_iconst X (v := 0) (by decide) dX8_runRounds_43 (n := 44) rfl ?_
        refine V_istore_n X (L2 := [(3, .int (0 : Int32)), (2, .int (0 : Int32)), (0, .ref (ρ 66)), (1, .int a1)]) rfl (by decide) rfl dX8_runRounds_44 (n := 45) rfl ?_
        refine jn_o h (fun j10 ej10 h => ?_)
        have kj10 : ∀ (x11 : Int32) (x12 : Int32) (N13 : Nm), j10 x11 x12 N13 → V p l e rmX8_runRounds s m args below meth c D G ρ (WA ρ s.heap.size) s.heap 4 0 0 (Qi D G ρ s args below (fun r C1 N1 => K r N1 ∧ C1 = C)) 63 [(0, .ref (ρ 66)), (1, .int a1), (2, .int x11), (3, .int x12)] [] C N13 := by
          intro x11 x12 N13 h
          rw [ej10] at h
          try dsimp only at h
          refine V_iload_n X (q := 2) rfl rfl dX8_runRounds_63 (n := 64) rfl ?_
          exact V_iret X hr hlk dX8_runRounds_64 ⟨h, rfl⟩
        refine V_loc [2, 3, 1, 0] rfl ?_
        exact TX8_runRounds_L45 X hr hlk C a1 (E := j10) (K := K) kj10 200 (0 : Int32) (0 : Int32) N h
      · have h := ite_f h c4
        refine V_sipush X (v := -1004) (by decide) dX8_runRounds_37 (n := 40) rfl ?_
        exact V_iret X hr hlk dX8_runRounds_40 ⟨h, rfl⟩
    · have h := ite_t h c3
      refine V_sipush X (v := -1003) (by decide) dX8_runRounds_21 (n := 24) rfl ?_
      exact V_iret X hr hlk dX8_runRounds_24 ⟨h, rfl⟩
  · have h := ite_t h c2
    refine V_sipush X (v := -1002) (by decide) dX8_runRounds_10 (n := 13) rfl ?_
    exact V_iret X hr hlk dX8_runRounds_13 ⟨h, rfl⟩
abbrev rmX8_scheduledStream : Room := { frames := 1, cells := 0, slots := 0, locals := 22 }
theorem wX8_scheduledStream_144 : Cond.fieldLink RX8 144 "FloodBusModel" "entries" "I" ∈ wsX8_scheduledStream := by decide +kernel
theorem wX8_scheduledStream_78 : Cond.fieldLink RX8 78 "FloodBusModel" "schedule" "[I" ∈ wsX8_scheduledStream := by decide +kernel
theorem inX8_scheduledStream_X8 : ∀ w ∈ wsX80, w ∈ wsX8_scheduledStream := by decide +kernel
set_option maxRecDepth 100000 in
set_option maxHeartbeats 4000000 in
theorem TX8_scheduledStream (l : Launch) (D : va_G) (G : Gc) (ρ : Nat → Nat) (C : Xm) (N : Nm)  (a1 : Int32) (K : Int32 → Prop) (h : fX8_scheduledStream N a1 K) : Ki l yX8_scheduledStream wsX8_scheduledStream rmX8_scheduledStream D G ρ [.ref (ρ 66), .int a1] C N (fun r C1 N1 => K r ∧ C1 = C ∧ N1 = N) := by
  refine Ki.ofV (cc := cX8_scheduledStream) (maxL := 2) (ret := (some .int)) (by decide +kernel) rfl (Nat.le_of_ble_eq_true rfl) ?_
  intro p e s m args below meth c X hr hlk
  show V p l e rmX8_scheduledStream s m args below meth c D G ρ (WA ρ s.heap.size) s.heap 2 0 0 (Qi D G ρ s args below (fun r C1 N1 => K r ∧ C1 = C ∧ N1 = N)) 0 [(0, .ref (ρ 66)), (1, .int a1)] [] C N
  unfold fX8_scheduledStream at h
  refine V_iload_n X (q := 1) rfl rfl dX8_scheduledStream_0 (n := 1) rfl ?_
  refine V_iconst X (v := 0) (by decide) dX8_scheduledStream_1 (n := 2) rfl ?_
  refine V_aload_n X (q := 0) rfl rfl dX8_scheduledStream_2 (n := 3) rfl ?_
  refine V_getN X (by decide) (by decide) rfl rfl (k := 28) inX8_scheduledStream_X8 rfl (by decide) wX8_scheduledStream_144 dX8_scheduledStream_3 (n := 6) rfl ?_
  refine V_iconst X (v := 1) (by decide) dX8_scheduledStream_6 (n := 7) rfl ?_
  refine V_isub X dX8_scheduledStream_7 (n := 8) rfl ?_
  refine V_callsi X (As := [.int a1, .int (0 : Int32), .int ((N.1 66 28) - (1 : Int32))]) (rest := []) (nA := 3) (TX8_within l D G ρ C N a1 (0 : Int32) ((N.1 66 28) - (1 : Int32)) _ h) gX8_scheduledStream_X8_within rfl rfl rfl (by decide +kernel) rfl ⟨by decide, by decide⟩ (Nat.le_of_ble_eq_true rfl) ⟨by decide, by decide⟩  rfl dX8_scheduledStream_8 (n := 11) rfl (fun r1 M1 M0 h => ?_)
  obtain ⟨h, eo, eo2⟩ := h
  rw [eo, eo2]
  refine jn_o h (fun j2 ej2 h => ?_)
  have kj2 : ∀ (x5 : Int32), j2 x5 → V p l e rmX8_scheduledStream s m args below meth c D G ρ (WA ρ s.heap.size) s.heap 2 0 0 (Qi D G ρ s args below (fun r C1 N1 => K r ∧ C1 = C ∧ N1 = N)) 24 [(0, .ref (ρ 66)), (1, .int a1)] [.int x5] C N := by
    intro x5 h
    rw [ej2] at h
    try dsimp only at h
    exact V_iret X hr hlk dX8_scheduledStream_24 ⟨h, rfl, rfl⟩
  refine V_if_eq X dX8_scheduledStream_11 (tgt := 23) (n := 14) (by decide) rfl (fun c3 => ?_) (fun c3 => ?_)
  · have h := ite_t h c3
    refine V_iconst X (v := -1) (by decide) dX8_scheduledStream_23 (n := 24) rfl ?_
    exact kj2 (-1 : Int32) h
  · have h := ite_f h c3
    refine V_aload_n X (q := 0) rfl rfl dX8_scheduledStream_14 (n := 15) rfl ?_
    refine V_getR X (by decide) rfl rfl (k := 29) inX8_scheduledStream_X8 rfl (by decide) wX8_scheduledStream_78 dX8_scheduledStream_15 (n := 18) rfl ?_
    refine V_iload_n X (q := 1) rfl rfl dX8_scheduledStream_18 (n := 19) rfl ?_
    obtain ⟨g4, h⟩ := h
    refine V_ildN X (by decide) (by decide) rfl g4 dX8_scheduledStream_19 (n := 20) rfl ?_
    refine V_goto X dX8_scheduledStream_20 (tgt := 24) (by decide) ?_
    exact kj2 (N.1 84 (Int32.toNatClampNeg a1)) h
abbrev rmX8_areSourcesDifferent : Room := { frames := 0, cells := 0, slots := 0, locals := 0 }
theorem wX8_areSourcesDifferent_144 : Cond.fieldLink RX8 144 "FloodBusModel" "entries" "I" ∈ wsX8_areSourcesDifferent := by decide +kernel
theorem wX8_areSourcesDifferent_57 : Cond.fieldLink RX8 57 "FloodBusModel" "source" "[I" ∈ wsX8_areSourcesDifferent := by decide +kernel
theorem wX8_areSourcesDifferent_78 : Cond.fieldLink RX8 78 "FloodBusModel" "schedule" "[I" ∈ wsX8_areSourcesDifferent := by decide +kernel
theorem inX8_areSourcesDifferent_X8 : ∀ w ∈ wsX80, w ∈ wsX8_areSourcesDifferent := by decide +kernel
set_option maxRecDepth 100000 in
set_option maxHeartbeats 4000000 in
theorem TX8_areSourcesDifferent_L14 {p : Program} {l : Launch} {e : Env} {s : State} {m : MethodId} {args : Array Value} {below : List Frame} {meth : Method} {c : Code} {D : va_G} {G : Gc} {ρ : Nat → Nat} (X : Cx p s m args c cX8_areSourcesDifferent 4 RX8 wsX8_areSourcesDifferent D G ρ (WA ρ s.heap.size) s.heap) (hr : meth.sig.returnType = some .boolean) (hlk : meth.locks = false) (C : Xm) (N : Nm) (p2 : Int32)  {E : Int32 → Int32 → Prop} {K : Int32 → Prop} (hE : ∀ (v1 : Int32) (v3 : Int32), E v1 v3 → V p l e rmX8_areSourcesDifferent s m args below meth c D G ρ (WA ρ s.heap.size) s.heap 4 0 0 (Qi D G ρ s args below (fun r C1 N1 => K r ∧ C1 = C ∧ N1 = N)) 60 [(0, .ref (ρ 66)), (1, .int v1), (2, .int p2), (3, .int v3)] [] C N) : ∀ (n : Nat) (v1 : Int32) (v3 : Int32), fX8_areSourcesDifferent_L14 N p2 E K n v1 v3 → V p l e rmX8_areSourcesDifferent s m args below meth c D G ρ (WA ρ s.heap.size) s.heap 4 0 0 (Qi D G ρ s args below (fun r C1 N1 => K r ∧ C1 = C ∧ N1 = N)) 14 [(0, .ref (ρ 66)), (1, .int v1), (2, .int p2), (3, .int v3)] [] C N := by
  intro n
  induction n with
  | zero => intro v1 v3 h; exact h.elim
  | succ n ih =>
    intro v1 v3 h
    unfold fX8_areSourcesDifferent_L14 at h
    refine V_iload_n X (q := 3) rfl rfl dX8_areSourcesDifferent_14 (n := 15) rfl ?_
    refine V_iload_n X (q := 2) rfl rfl dX8_areSourcesDifferent_15 (n := 16) rfl ?_
    refine V_icmp_ge X dX8_areSourcesDifferent_16 (tgt := 60) (n := 19) (by decide) rfl (fun c2 => ?_) (fun c2 => ?_)
    · have h := ite_t h c2
      exact hE v1 v3 h
    · have h := ite_f h c2
      refine V_iload_n X (q := 1) rfl rfl dX8_areSourcesDifferent_19 (n := 20) rfl ?_
      refine jn_o h (fun j4 ej4 h => ?_)
      have kj4 : ∀ (x11 : Int32), j4 x11 → V p l e rmX8_areSourcesDifferent s m args below meth c D G ρ (WA ρ s.heap.size) s.heap 4 0 0 (Qi D G ρ s args below (fun r C1 N1 => K r ∧ C1 = C ∧ N1 = N)) 53 [(0, .ref (ρ 66)), (1, .int v1), (2, .int p2), (3, .int v3)] [.int x11] C N := by
        intro x11 h
        rw [ej4] at h
        try dsimp only at h
        refine V_istore_n X (L2 := [(1, .int x11), (0, .ref (ρ 66)), (2, .int p2), (3, .int v3)]) rfl (by decide) rfl dX8_areSourcesDifferent_53 (n := 54) rfl ?_
        obtain ⟨x12, ex12⟩ : ∃ z : Int32, z = v3 + (1 : Int32) := ⟨_, rfl⟩
        have h := bd_at h ex12
        refine V_iinc X (q := 3) (d := 1) (L2 := [(3, .int x12), (1, .int x11), (0, .ref (ρ 66)), (2, .int p2)]) rfl (by decide) (by decide) ex12 rfl dX8_areSourcesDifferent_54 (n := 57) rfl ?_
        refine V_goto X dX8_areSourcesDifferent_57 (tgt := 14) (by decide) ?_
        refine V_loc [2, 1, 3, 0] rfl ?_
        exact ih x11 x12 h
      refine jn_o h (fun j3 ej3 h => ?_)
      have kj3 : j3 → V p l e rmX8_areSourcesDifferent s m args below meth c D G ρ (WA ρ s.heap.size) s.heap 4 0 0 (Qi D G ρ s args below (fun r C1 N1 => K r ∧ C1 = C ∧ N1 = N)) 52 [(0, .ref (ρ 66)), (1, .int v1), (2, .int p2), (3, .int v3)] [] C N := by
        intro  h
        rw [ej3] at h
        refine V_iconst X (v := 0) (by decide) dX8_areSourcesDifferent_52 (n := 53) rfl ?_
        exact kj4 (0 : Int32) h
      refine V_if_eq X dX8_areSourcesDifferent_20 (tgt := 52) (n := 23) (by decide) rfl (fun c5 => ?_) (fun c5 => ?_)
      · have h := ite_t h c5
        exact kj3  h
      · have h := ite_f h c5
        refine V_aload_n X (q := 0) rfl rfl dX8_areSourcesDifferent_23 (n := 24) rfl ?_
        refine V_getR X (by decide) rfl rfl (k := 21) inX8_areSourcesDifferent_X8 rfl (by decide) wX8_areSourcesDifferent_57 dX8_areSourcesDifferent_24 (n := 27) rfl ?_
        refine V_aload_n X (q := 0) rfl rfl dX8_areSourcesDifferent_27 (n := 28) rfl ?_
        refine V_getR X (by decide) rfl rfl (k := 29) inX8_areSourcesDifferent_X8 rfl (by decide) wX8_areSourcesDifferent_78 dX8_areSourcesDifferent_28 (n := 31) rfl ?_
        refine V_iload_n X (q := 2) rfl rfl dX8_areSourcesDifferent_31 (n := 32) rfl ?_
        obtain ⟨g6, h⟩ := h
        refine V_ildN X (by decide) (by decide) rfl g6 dX8_areSourcesDifferent_32 (n := 33) rfl ?_
        obtain ⟨g7, h⟩ := h
        refine V_ildN X (by decide) (by decide) rfl g7 dX8_areSourcesDifferent_33 (n := 34) rfl ?_
        refine V_aload_n X (q := 0) rfl rfl dX8_areSourcesDifferent_34 (n := 35) rfl ?_
        refine V_getR X (by decide) rfl rfl (k := 21) inX8_areSourcesDifferent_X8 rfl (by decide) wX8_areSourcesDifferent_57 dX8_areSourcesDifferent_35 (n := 38) rfl ?_
        refine V_aload_n X (q := 0) rfl rfl dX8_areSourcesDifferent_38 (n := 39) rfl ?_
        refine V_getR X (by decide) rfl rfl (k := 29) inX8_areSourcesDifferent_X8 rfl (by decide) wX8_areSourcesDifferent_78 dX8_areSourcesDifferent_39 (n := 42) rfl ?_
        refine V_iload_n X (q := 3) rfl rfl dX8_areSourcesDifferent_42 (n := 43) rfl ?_
        obtain ⟨g8, h⟩ := h
        refine V_ildN X (by decide) (by decide) rfl g8 dX8_areSourcesDifferent_43 (n := 44) rfl ?_
        obtain ⟨g9, h⟩ := h
        refine V_ildN X (by decide) (by decide) rfl g9 dX8_areSourcesDifferent_44 (n := 45) rfl ?_
        refine V_icmp_eq X dX8_areSourcesDifferent_45 (tgt := 52) (n := 48) (by decide) rfl (fun c10 => ?_) (fun c10 => ?_)
        · have h := ite_t h c10
          exact kj3  h
        · have h := ite_f h c10
          refine V_iconst X (v := 1) (by decide) dX8_areSourcesDifferent_48 (n := 49) rfl ?_
          refine V_goto X dX8_areSourcesDifferent_49 (tgt := 53) (by decide) ?_
          exact kj4 (1 : Int32) h
set_option maxRecDepth 100000 in
set_option maxHeartbeats 4000000 in
theorem TX8_areSourcesDifferent_L4 {p : Program} {l : Launch} {e : Env} {s : State} {m : MethodId} {args : Array Value} {below : List Frame} {meth : Method} {c : Code} {D : va_G} {G : Gc} {ρ : Nat → Nat} (X : Cx p s m args c cX8_areSourcesDifferent 4 RX8 wsX8_areSourcesDifferent D G ρ (WA ρ s.heap.size) s.heap) (hr : meth.sig.returnType = some .boolean) (hlk : meth.locks = false) (C : Xm) (N : Nm)  {E : Int32 → Int32 → Prop} {K : Int32 → Prop} (hE : ∀ (v1 : Int32) (v2 : Int32), E v1 v2 → V p l e rmX8_areSourcesDifferent s m args below meth c D G ρ (WA ρ s.heap.size) s.heap 4 0 0 (Qi D G ρ s args below (fun r C1 N1 => K r ∧ C1 = C ∧ N1 = N)) 66 [(0, .ref (ρ 66)), (1, .int v1), (2, .int v2)] [] C N) : ∀ (n : Nat) (v1 : Int32) (v2 : Int32), fX8_areSourcesDifferent_L4 N E K n v1 v2 → V p l e rmX8_areSourcesDifferent s m args below meth c D G ρ (WA ρ s.heap.size) s.heap 4 0 0 (Qi D G ρ s args below (fun r C1 N1 => K r ∧ C1 = C ∧ N1 = N)) 4 [(0, .ref (ρ 66)), (1, .int v1), (2, .int v2)] [] C N := by
  intro n
  induction n with
  | zero => intro v1 v2 h; exact h.elim
  | succ n ih =>
    intro v1 v2 h
    unfold fX8_areSourcesDifferent_L4 at h
    refine V_iload_n X (q := 2) rfl rfl dX8_areSourcesDifferent_4 (n := 5) rfl ?_
    refine V_aload_n X (q := 0) rfl rfl dX8_areSourcesDifferent_5 (n := 6) rfl ?_
    refine V_getN X (by decide) (by decide) rfl rfl (k := 28) inX8_areSourcesDifferent_X8 rfl (by decide) wX8_areSourcesDifferent_144 dX8_areSourcesDifferent_6 (n := 9) rfl ?_
    refine V_icmp_ge X dX8_areSourcesDifferent_9 (tgt := 66) (n := 12) (by decide) rfl (fun c1 => ?_) (fun c1 => ?_)
    · have h := ite_t h c1
      exact hE v1 v2 h
    · have h := ite_f h c1
      refine V_iconst X (v := 0) (by decide) dX8_areSourcesDifferent_12 (n := 13) rfl ?_
      refine V_istore_n X (L2 := [(3, .int (0 : Int32)), (0, .ref (ρ 66)), (1, .int v1), (2, .int v2)]) rfl (by decide) rfl dX8_areSourcesDifferent_13 (n := 14) rfl ?_
      refine jn_o h (fun j13 ej13 h => ?_)
      have kj13 : ∀ (x14 : Int32) (x15 : Int32), j13 x14 x15 → V p l e rmX8_areSourcesDifferent s m args below meth c D G ρ (WA ρ s.heap.size) s.heap 4 0 0 (Qi D G ρ s args below (fun r C1 N1 => K r ∧ C1 = C ∧ N1 = N)) 60 [(0, .ref (ρ 66)), (1, .int x14), (2, .int v2), (3, .int x15)] [] C N := by
        intro x14 x15 h
        rw [ej13] at h
        try dsimp only at h
        obtain ⟨x16, ex16⟩ : ∃ z : Int32, z = v2 + (1 : Int32) := ⟨_, rfl⟩
        have h := bd_at h ex16
        refine V_iinc X (q := 2) (d := 1) (L2 := [(2, .int x16), (0, .ref (ρ 66)), (1, .int x14), (3, .int x15)]) rfl (by decide) (by decide) ex16 rfl dX8_areSourcesDifferent_60 (n := 63) rfl ?_
        refine V_goto X dX8_areSourcesDifferent_63 (tgt := 4) (by decide) ?_
        refine V_loc [1, 2, 0] rfl ?_
        exact ih x14 x16 h
      refine V_loc [1, 2, 3, 0] rfl ?_
      exact TX8_areSourcesDifferent_L14 X hr hlk C N v2 (E := j13) (K := K) kj13 200 v1 (0 : Int32) h
set_option maxRecDepth 100000 in
set_option maxHeartbeats 4000000 in
theorem TX8_areSourcesDifferent (l : Launch) (D : va_G) (G : Gc) (ρ : Nat → Nat) (C : Xm) (N : Nm)   (K : Int32 → Prop) (h : fX8_areSourcesDifferent N K) : Ki l yX8_areSourcesDifferent wsX8_areSourcesDifferent rmX8_areSourcesDifferent D G ρ [.ref (ρ 66)] C N (fun r C1 N1 => K r ∧ C1 = C ∧ N1 = N) := by
  refine Ki.ofV (cc := cX8_areSourcesDifferent) (maxL := 4) (ret := (some .boolean)) (by decide +kernel) rfl (Nat.le_of_ble_eq_true rfl) ?_
  intro p e s m args below meth c X hr hlk
  show V p l e rmX8_areSourcesDifferent s m args below meth c D G ρ (WA ρ s.heap.size) s.heap 4 0 0 (Qi D G ρ s args below (fun r C1 N1 => K r ∧ C1 = C ∧ N1 = N)) 0 [(0, .ref (ρ 66))] [] C N
  unfold fX8_areSourcesDifferent at h
  refine V_iconst X (v := 1) (by decide) dX8_areSourcesDifferent_0 (n := 1) rfl ?_
  refine V_istore_n X (L2 := [(1, .int (1 : Int32)), (0, .ref (ρ 66))]) rfl (by decide) rfl dX8_areSourcesDifferent_1 (n := 2) rfl ?_
  refine V_iconst X (v := 0) (by decide) dX8_areSourcesDifferent_2 (n := 3) rfl ?_
  refine V_istore_n X (L2 := [(2, .int (0 : Int32)), (1, .int (1 : Int32)), (0, .ref (ρ 66))]) rfl (by decide) rfl dX8_areSourcesDifferent_3 (n := 4) rfl ?_
  refine jn_o h (fun j17 ej17 h => ?_)
  have kj17 : ∀ (x18 : Int32) (x19 : Int32), j17 x18 x19 → V p l e rmX8_areSourcesDifferent s m args below meth c D G ρ (WA ρ s.heap.size) s.heap 4 0 0 (Qi D G ρ s args below (fun r C1 N1 => K r ∧ C1 = C ∧ N1 = N)) 66 [(0, .ref (ρ 66)), (1, .int x18), (2, .int x19)] [] C N := by
    intro x18 x19 h
    rw [ej17] at h
    try dsimp only at h
    refine V_iload_n X (q := 1) rfl rfl dX8_areSourcesDifferent_66 (n := 67) rfl ?_
    obtain ⟨g20, h⟩ := h
    exact V_zret X hr hlk g20 dX8_areSourcesDifferent_67 ⟨h, rfl, rfl⟩
  refine V_loc [2, 1, 0] rfl ?_
  exact TX8_areSourcesDifferent_L4 X hr hlk C N (E := j17) (K := K) kj17 200 (1 : Int32) (0 : Int32) h
abbrev rmX8_scheduleBits : Room := { frames := 1, cells := 0, slots := 0, locals := 23 }
theorem wX8_scheduleBits_144 : Cond.fieldLink RX8 144 "FloodBusModel" "entries" "I" ∈ wsX8_scheduleBits := by decide +kernel
theorem inX8_scheduleBits_X8 : ∀ w ∈ wsX80, w ∈ wsX8_scheduleBits := by decide +kernel
set_option maxRecDepth 100000 in
set_option maxHeartbeats 4000000 in
theorem TX8_scheduleBits (l : Launch) (D : va_G) (G : Gc) (ρ : Nat → Nat) (C : Xm) (N : Nm)   (K : Int32 → Prop) (h : fX8_scheduleBits N K) : Ki l yX8_scheduleBits wsX8_scheduleBits rmX8_scheduleBits D G ρ [.ref (ρ 66)] C N (fun r C1 N1 => K r ∧ C1 = C ∧ N1 = N) := by
  refine Ki.ofV (cc := cX8_scheduleBits) (maxL := 2) (ret := (some .int)) (by decide +kernel) rfl (Nat.le_of_ble_eq_true rfl) ?_
  intro p e s m args below meth c X hr hlk
  show V p l e rmX8_scheduleBits s m args below meth c D G ρ (WA ρ s.heap.size) s.heap 2 0 0 (Qi D G ρ s args below (fun r C1 N1 => K r ∧ C1 = C ∧ N1 = N)) 0 [(0, .ref (ρ 66))] [] C N
  unfold fX8_scheduleBits at h
  refine V_iconst X (v := 3) (by decide) dX8_scheduleBits_0 (n := 1) rfl ?_
  refine V_aload_n X (q := 0) rfl rfl dX8_scheduleBits_1 (n := 2) rfl ?_
  refine V_getN X (by decide) (by decide) rfl rfl (k := 28) inX8_scheduleBits_X8 rfl (by decide) wX8_scheduleBits_144 dX8_scheduleBits_2 (n := 5) rfl ?_
  refine V_imul X dX8_scheduleBits_5 (n := 6) rfl ?_
  refine V_topi (fun x1 ex1 => ?_)
  have h := bd_at h ex1
  refine V_istore_n X (L2 := [(1, .int x1), (0, .ref (ρ 66))]) rfl (by decide) rfl dX8_scheduleBits_6 (n := 7) rfl ?_
  refine V_bipush X (v := 8) (by decide) dX8_scheduleBits_7 (n := 9) rfl ?_
  refine V_iload_n X (q := 0) rfl rfl dX8_scheduleBits_9 (n := 10) rfl ?_
  refine V_bipush X (v := 8) (by decide) dX8_scheduleBits_10 (n := 12) rfl ?_
  refine jn_o h (fun j3 ej3 h => ?_)
  have kj3 : ∀ (x7 : Int32), j3 x7 → V p l e rmX8_scheduleBits s m args below meth c D G ρ (WA ρ s.heap.size) s.heap 2 0 0 (Qi D G ρ s args below (fun r C1 N1 => K r ∧ C1 = C ∧ N1 = N)) 28 [(0, .ref (ρ 66)), (1, .int x1)] [.int x7, .int (8 : Int32)] C N := by
    intro x7 h
    rw [ej3] at h
    try dsimp only at h
    refine V_iadd X dX8_scheduleBits_28 (n := 29) rfl ?_
    exact V_iret X hr hlk dX8_scheduleBits_29 ⟨h, rfl, rfl⟩
  refine jn_o h (fun j2 ej2 h => ?_)
  have kj2 : j2 → V p l e rmX8_scheduleBits s m args below meth c D G ρ (WA ρ s.heap.size) s.heap 2 0 0 (Qi D G ρ s args below (fun r C1 N1 => K r ∧ C1 = C ∧ N1 = N)) 27 [(0, .ref (ρ 66)), (1, .int x1)] [.int (8 : Int32)] C N := by
    intro  h
    rw [ej2] at h
    refine V_iload_n X (q := 1) rfl rfl dX8_scheduleBits_27 (n := 28) rfl ?_
    exact kj3 x1 h
  refine V_icmp_le X dX8_scheduleBits_12 (tgt := 27) (n := 15) (by decide) rfl (fun c4 => ?_) (fun c4 => ?_)
  · have h := ite_t h c4
    refine V_loc [1, 0] rfl ?_
    exact kj2  h
  · have h := ite_f h c4
    refine V_aload_n X (q := 1) rfl rfl dX8_scheduleBits_15 (n := 16) rfl ?_
    refine V_calli X (As := []) (rest := [.int (8 : Int32)]) (nA := 0) (i := 66) (q := (RX8, TX8, 42)) (TX8_areSourcesDifferent l D G ρ C N  _ h) gX8_scheduleBits_X8_areSourcesDifferent rfl rfl rfl (by decide +kernel) rfl ⟨by decide, by decide⟩ (Nat.le_of_ble_eq_true rfl) ⟨by decide, by decide⟩ (by decide) rfl rfl rfl dX8_scheduleBits_16 (n := 19) rfl (fun r5 M1 M0 h => ?_)
    obtain ⟨h, eo, eo2⟩ := h
    rw [eo, eo2]
    refine V_if_eq X dX8_scheduleBits_19 (tgt := 27) (n := 22) (by decide) rfl (fun c6 => ?_) (fun c6 => ?_)
    · have h := ite_t h c6
      refine V_loc [1, 0] rfl ?_
      exact kj2  h
    · have h := ite_f h c6
      refine V_bipush X (v := 8) (by decide) dX8_scheduleBits_22 (n := 24) rfl ?_
      refine V_goto X dX8_scheduleBits_24 (tgt := 28) (by decide) ?_
      refine V_loc [1, 0] rfl ?_
      exact kj3 (8 : Int32) h
abbrev rmX8_host : Room := { frames := 0, cells := 0, slots := 0, locals := 0 }
theorem wX8_host_41 : Cond.fieldLink RX8 41 "FloodBusModel" "host" "I" ∈ wsX8_host := by decide +kernel
theorem inX8_host_X8 : ∀ w ∈ wsX80, w ∈ wsX8_host := by decide +kernel
set_option maxRecDepth 100000 in
set_option maxHeartbeats 4000000 in
theorem TX8_host (l : Launch) (D : va_G) (G : Gc) (ρ : Nat → Nat) (C : Xm) (N : Nm)   (K : Int32 → Prop) (h : fX8_host N K) : Ki l yX8_host wsX8_host rmX8_host D G ρ [.ref (ρ 66)] C N (fun r C1 N1 => K r ∧ C1 = C ∧ N1 = N) := by
  refine Ki.ofV (cc := cX8_host) (maxL := 1) (ret := (some .int)) (by decide +kernel) rfl (Nat.le_of_ble_eq_true rfl) ?_
  intro p e s m args below meth c X hr hlk
  show V p l e rmX8_host s m args below meth c D G ρ (WA ρ s.heap.size) s.heap 1 0 0 (Qi D G ρ s args below (fun r C1 N1 => K r ∧ C1 = C ∧ N1 = N)) 0 [(0, .ref (ρ 66))] [] C N
  unfold fX8_host at h
  refine V_aload_n X (q := 0) rfl rfl dX8_host_0 (n := 1) rfl ?_
  refine V_getN X (by decide) (by decide) rfl rfl (k := 14) inX8_host_X8 rfl (by decide) wX8_host_41 dX8_host_1 (n := 4) rfl ?_
  exact V_iret X hr hlk dX8_host_4 ⟨h, rfl, rfl⟩
abbrev rmX8_missedSchedules : Room := { frames := 2, cells := 0, slots := 0, locals := 43 }
theorem wX8_missedSchedules_38 : Cond.fieldLink RX8 38 "FloodBusModel" "missed" "[I" ∈ wsX8_missedSchedules := by decide +kernel
theorem inX8_missedSchedules_X8 : ∀ w ∈ wsX80, w ∈ wsX8_missedSchedules := by decide +kernel
set_option maxRecDepth 100000 in
set_option maxHeartbeats 4000000 in
theorem TX8_missedSchedules (l : Launch) (D : va_G) (G : Gc) (ρ : Nat → Nat) (C : Xm) (N : Nm)  (a1 : Int32) (K : Int32 → Prop) (h : fX8_missedSchedules N a1 K) : Ki l yX8_missedSchedules wsX8_missedSchedules rmX8_missedSchedules D G ρ [.ref (ρ 66), .int a1] C N (fun r C1 N1 => K r ∧ C1 = C ∧ N1 = N) := by
  refine Ki.ofV (cc := cX8_missedSchedules) (maxL := 2) (ret := (some .int)) (by decide +kernel) rfl (Nat.le_of_ble_eq_true rfl) ?_
  intro p e s m args below meth c X hr hlk
  show V p l e rmX8_missedSchedules s m args below meth c D G ρ (WA ρ s.heap.size) s.heap 2 0 0 (Qi D G ρ s args below (fun r C1 N1 => K r ∧ C1 = C ∧ N1 = N)) 0 [(0, .ref (ρ 66)), (1, .int a1)] [] C N
  unfold fX8_missedSchedules at h
  refine V_aload_n X (q := 0) rfl rfl dX8_missedSchedules_0 (n := 1) rfl ?_
  refine V_iload_n X (q := 1) rfl rfl dX8_missedSchedules_1 (n := 2) rfl ?_
  refine V_calli X (As := [.int a1]) (rest := []) (nA := 1) (i := 66) (q := (RX8, TX8, 42)) (TX8_isNode l D G ρ C N a1 _ h) gX8_missedSchedules_X8_isNode rfl rfl rfl (by decide +kernel) rfl ⟨by decide, by decide⟩ (Nat.le_of_ble_eq_true rfl) ⟨by decide, by decide⟩ (by decide) rfl rfl rfl dX8_missedSchedules_2 (n := 5) rfl (fun r1 M1 M0 h => ?_)
  obtain ⟨h, eo, eo2⟩ := h
  rw [eo, eo2]
  refine jn_o h (fun j2 ej2 h => ?_)
  have kj2 : ∀ (x5 : Int32), j2 x5 → V p l e rmX8_missedSchedules s m args below meth c D G ρ (WA ρ s.heap.size) s.heap 2 0 0 (Qi D G ρ s args below (fun r C1 N1 => K r ∧ C1 = C ∧ N1 = N)) 20 [(0, .ref (ρ 66)), (1, .int a1)] [.int x5] C N := by
    intro x5 h
    rw [ej2] at h
    try dsimp only at h
    exact V_iret X hr hlk dX8_missedSchedules_20 ⟨h, rfl, rfl⟩
  refine V_if_eq X dX8_missedSchedules_5 (tgt := 17) (n := 8) (by decide) rfl (fun c3 => ?_) (fun c3 => ?_)
  · have h := ite_t h c3
    refine V_sipush X (v := -1001) (by decide) dX8_missedSchedules_17 (n := 20) rfl ?_
    exact kj2 (-1001 : Int32) h
  · have h := ite_f h c3
    refine V_aload_n X (q := 0) rfl rfl dX8_missedSchedules_8 (n := 9) rfl ?_
    refine V_getR X (by decide) rfl rfl (k := 12) inX8_missedSchedules_X8 rfl (by decide) wX8_missedSchedules_38 dX8_missedSchedules_9 (n := 12) rfl ?_
    refine V_iload_n X (q := 1) rfl rfl dX8_missedSchedules_12 (n := 13) rfl ?_
    obtain ⟨g4, h⟩ := h
    refine V_ildN X (by decide) (by decide) rfl g4 dX8_missedSchedules_13 (n := 14) rfl ?_
    refine V_goto X dX8_missedSchedules_14 (tgt := 20) (by decide) ?_
    exact kj2 (N.1 76 (Int32.toNatClampNeg a1)) h
abbrev rmX8_transmissions : Room := { frames := 2, cells := 0, slots := 0, locals := 43 }
theorem wX8_transmissions_35 : Cond.fieldLink RX8 35 "FloodBusModel" "sent" "[I" ∈ wsX8_transmissions := by decide +kernel
theorem inX8_transmissions_X8 : ∀ w ∈ wsX80, w ∈ wsX8_transmissions := by decide +kernel
set_option maxRecDepth 100000 in
set_option maxHeartbeats 4000000 in
theorem TX8_transmissions (l : Launch) (D : va_G) (G : Gc) (ρ : Nat → Nat) (C : Xm) (N : Nm)  (a1 : Int32) (K : Int32 → Prop) (h : fX8_transmissions N a1 K) : Ki l yX8_transmissions wsX8_transmissions rmX8_transmissions D G ρ [.ref (ρ 66), .int a1] C N (fun r C1 N1 => K r ∧ C1 = C ∧ N1 = N) := by
  refine Ki.ofV (cc := cX8_transmissions) (maxL := 2) (ret := (some .int)) (by decide +kernel) rfl (Nat.le_of_ble_eq_true rfl) ?_
  intro p e s m args below meth c X hr hlk
  show V p l e rmX8_transmissions s m args below meth c D G ρ (WA ρ s.heap.size) s.heap 2 0 0 (Qi D G ρ s args below (fun r C1 N1 => K r ∧ C1 = C ∧ N1 = N)) 0 [(0, .ref (ρ 66)), (1, .int a1)] [] C N
  unfold fX8_transmissions at h
  refine V_aload_n X (q := 0) rfl rfl dX8_transmissions_0 (n := 1) rfl ?_
  refine V_iload_n X (q := 1) rfl rfl dX8_transmissions_1 (n := 2) rfl ?_
  refine V_calli X (As := [.int a1]) (rest := []) (nA := 1) (i := 66) (q := (RX8, TX8, 42)) (TX8_isNode l D G ρ C N a1 _ h) gX8_transmissions_X8_isNode rfl rfl rfl (by decide +kernel) rfl ⟨by decide, by decide⟩ (Nat.le_of_ble_eq_true rfl) ⟨by decide, by decide⟩ (by decide) rfl rfl rfl dX8_transmissions_2 (n := 5) rfl (fun r1 M1 M0 h => ?_)
  obtain ⟨h, eo, eo2⟩ := h
  rw [eo, eo2]
  refine jn_o h (fun j2 ej2 h => ?_)
  have kj2 : ∀ (x5 : Int32), j2 x5 → V p l e rmX8_transmissions s m args below meth c D G ρ (WA ρ s.heap.size) s.heap 2 0 0 (Qi D G ρ s args below (fun r C1 N1 => K r ∧ C1 = C ∧ N1 = N)) 20 [(0, .ref (ρ 66)), (1, .int a1)] [.int x5] C N := by
    intro x5 h
    rw [ej2] at h
    try dsimp only at h
    exact V_iret X hr hlk dX8_transmissions_20 ⟨h, rfl, rfl⟩
  refine V_if_eq X dX8_transmissions_5 (tgt := 17) (n := 8) (by decide) rfl (fun c3 => ?_) (fun c3 => ?_)
  · have h := ite_t h c3
    refine V_sipush X (v := -1001) (by decide) dX8_transmissions_17 (n := 20) rfl ?_
    exact kj2 (-1001 : Int32) h
  · have h := ite_f h c3
    refine V_aload_n X (q := 0) rfl rfl dX8_transmissions_8 (n := 9) rfl ?_
    refine V_getR X (by decide) rfl rfl (k := 11) inX8_transmissions_X8 rfl (by decide) wX8_transmissions_35 dX8_transmissions_9 (n := 12) rfl ?_
    refine V_iload_n X (q := 1) rfl rfl dX8_transmissions_12 (n := 13) rfl ?_
    obtain ⟨g4, h⟩ := h
    refine V_ildN X (by decide) (by decide) rfl g4 dX8_transmissions_13 (n := 14) rfl ?_
    refine V_goto X dX8_transmissions_14 (tgt := 20) (by decide) ?_
    exact kj2 (N.1 75 (Int32.toNatClampNeg a1)) h
abbrev rmX8_roundNumber : Room := { frames := 0, cells := 0, slots := 0, locals := 0 }
theorem wX8_roundNumber_138 : Cond.fieldLink RX8 138 "FloodBusModel" "round" "I" ∈ wsX8_roundNumber := by decide +kernel
theorem inX8_roundNumber_X8 : ∀ w ∈ wsX80, w ∈ wsX8_roundNumber := by decide +kernel
set_option maxRecDepth 100000 in
set_option maxHeartbeats 4000000 in
theorem TX8_roundNumber (l : Launch) (D : va_G) (G : Gc) (ρ : Nat → Nat) (C : Xm) (N : Nm)   (K : Int32 → Prop) (h : fX8_roundNumber N K) : Ki l yX8_roundNumber wsX8_roundNumber rmX8_roundNumber D G ρ [.ref (ρ 66)] C N (fun r C1 N1 => K r ∧ C1 = C ∧ N1 = N) := by
  refine Ki.ofV (cc := cX8_roundNumber) (maxL := 1) (ret := (some .int)) (by decide +kernel) rfl (Nat.le_of_ble_eq_true rfl) ?_
  intro p e s m args below meth c X hr hlk
  show V p l e rmX8_roundNumber s m args below meth c D G ρ (WA ρ s.heap.size) s.heap 1 0 0 (Qi D G ρ s args below (fun r C1 N1 => K r ∧ C1 = C ∧ N1 = N)) 0 [(0, .ref (ρ 66))] [] C N
  unfold fX8_roundNumber at h
  refine V_aload_n X (q := 0) rfl rfl dX8_roundNumber_0 (n := 1) rfl ?_
  refine V_getN X (by decide) (by decide) rfl rfl (k := 15) inX8_roundNumber_X8 rfl (by decide) wX8_roundNumber_138 dX8_roundNumber_1 (n := 4) rfl ?_
  exact V_iret X hr hlk dX8_roundNumber_4 ⟨h, rfl, rfl⟩
abbrev rmX8_mix : Room := { frames := 0, cells := 0, slots := 0, locals := 0 }
theorem wX8_mix_k207 : Cond.constantLong RX8 207 (31) ∈ wsX8_mix := by decide +kernel
theorem wX8_mix_209 : Cond.fieldLink RX8 209 "FloodBusModel" "h" "J" ∈ wsX8_mix := by decide +kernel
theorem inX8_mix_X8 : ∀ w ∈ wsX80, w ∈ wsX8_mix := by decide +kernel
set_option maxRecDepth 100000 in
set_option maxHeartbeats 4000000 in
theorem TX8_mix (l : Launch) (D : va_G) (G : Gc) (ρ : Nat → Nat) (C : Xm) (N : Nm)  (a1 : Int64) (K : Nm → Prop) (h : fX8_mix N a1 K) : Kv l yX8_mix wsX8_mix rmX8_mix D G ρ [.ref (ρ 66), .long a1] C N (fun C1 N1 => K N1 ∧ C1 = C) := by
  refine Kv.ofV (cc := cX8_mix) (maxL := 3) (ret := none) (by decide +kernel) rfl (Nat.le_of_ble_eq_true rfl) ?_
  intro p e s m args below meth c X hr hlk
  show V p l e rmX8_mix s m args below meth c D G ρ (WA ρ s.heap.size) s.heap 3 0 0 (Qv D G ρ s args below (fun C1 N1 => K N1 ∧ C1 = C)) 0 [(0, .ref (ρ 66)), (1, .long a1)] [] C N
  unfold fX8_mix at h
  refine V_aload_n X (q := 0) rfl rfl dX8_mix_0 (n := 1) rfl ?_
  refine V_ldc2 X wX8_mix_k207 dX8_mix_1 (n := 4) rfl ?_
  refine V_aload_n X (q := 0) rfl rfl dX8_mix_4 (n := 5) rfl ?_
  refine V_getL X (by decide) rfl rfl (k := 41) inX8_mix_X8 rfl (by decide) wX8_mix_209 dX8_mix_5 (n := 8) rfl ?_
  refine V_lmul X dX8_mix_8 (n := 9) rfl ?_
  refine V_lload_n X (q := 1) rfl rfl dX8_mix_9 (n := 10) rfl ?_
  refine V_ladd X dX8_mix_10 (n := 11) rfl ?_
  refine V_putL X rfl rfl rfl only41 (k := 41) inX8_mix_X8 rfl (by decide) wX8_mix_209 tyX8 tyX8_ok nmX8 rfl (by decide +kernel) dX8_mix_11 (n := 14) rfl (fun N1 eN1 => ?_)
  have h := bd_at h eN1
  exact V_vret X hr hlk dX8_mix_14 ⟨h, rfl⟩
abbrev rmX8_digest : Room := { frames := 2, cells := 0, slots := 0, locals := 44 }
theorem wX8_digest_k213 : Cond.constantLong RX8 213 (1753) ∈ wsX8_digest := by decide +kernel
theorem wX8_digest_209 : Cond.fieldLink RX8 209 "FloodBusModel" "h" "J" ∈ wsX8_digest := by decide +kernel
theorem wX8_digest_129 : Cond.fieldLink RX8 129 "FloodBusModel" "nodes" "I" ∈ wsX8_digest := by decide +kernel
theorem wX8_digest_29 : Cond.fieldLink RX8 29 "FloodBusModel" "packet" "[I" ∈ wsX8_digest := by decide +kernel
theorem wX8_digest_38 : Cond.fieldLink RX8 38 "FloodBusModel" "missed" "[I" ∈ wsX8_digest := by decide +kernel
theorem wX8_digest_35 : Cond.fieldLink RX8 35 "FloodBusModel" "sent" "[I" ∈ wsX8_digest := by decide +kernel
theorem wX8_digest_25 : Cond.fieldLink RX8 25 "FloodBusModel" "alive" "[Z" ∈ wsX8_digest := by decide +kernel
theorem wX8_digest_151 : Cond.fieldLink RX8 151 "FloodBusModel" "length" "I" ∈ wsX8_digest := by decide +kernel
theorem wX8_digest_141 : Cond.fieldLink RX8 141 "FloodBusModel" "streams" "I" ∈ wsX8_digest := by decide +kernel
theorem wX8_digest_66 : Cond.fieldLink RX8 66 "FloodBusModel" "waiting" "[I" ∈ wsX8_digest := by decide +kernel
theorem wX8_digest_72 : Cond.fieldLink RX8 72 "FloodBusModel" "delivered" "[I" ∈ wsX8_digest := by decide +kernel
theorem wX8_digest_75 : Cond.fieldLink RX8 75 "FloodBusModel" "lost" "[I" ∈ wsX8_digest := by decide +kernel
theorem wX8_digest_144 : Cond.fieldLink RX8 144 "FloodBusModel" "entries" "I" ∈ wsX8_digest := by decide +kernel
theorem wX8_digest_78 : Cond.fieldLink RX8 78 "FloodBusModel" "schedule" "[I" ∈ wsX8_digest := by decide +kernel
theorem wX8_digest_41 : Cond.fieldLink RX8 41 "FloodBusModel" "host" "I" ∈ wsX8_digest := by decide +kernel
theorem wX8_digest_138 : Cond.fieldLink RX8 138 "FloodBusModel" "round" "I" ∈ wsX8_digest := by decide +kernel
theorem wX8_digest_106 : Cond.fieldLink RX8 106 "FloodBusModel" "bufferLength" "I" ∈ wsX8_digest := by decide +kernel
theorem wX8_digest_7 : Cond.fieldLink RX8 7 "FloodBusModel" "buffer" "[I" ∈ wsX8_digest := by decide +kernel
theorem inX8_digest_X8 : ∀ w ∈ wsX80, w ∈ wsX8_digest := by decide +kernel
set_option maxRecDepth 100000 in
set_option maxHeartbeats 4000000 in
theorem TX8_digest_L9 {p : Program} {l : Launch} {e : Env} {s : State} {m : MethodId} {args : Array Value} {below : List Frame} {meth : Method} {c : Code} {D : va_G} {G : Gc} {ρ : Nat → Nat} (X : Cx p s m args c cX8_digest 2 RX8 wsX8_digest D G ρ (WA ρ s.heap.size) s.heap) (hr : meth.sig.returnType = some .long) (hlk : meth.locks = false) (C : Xm)   {E : Int32 → Nm → Prop} {K : Int64 → Nm → Prop} (hE : ∀ (v1 : Int32) (N : Nm), E v1 N → V p l e rmX8_digest s m args below meth c D G ρ (WA ρ s.heap.size) s.heap 2 0 0 (Ql D G ρ s args below (fun r C1 N1 => K r N1 ∧ C1 = C)) 84 [(0, .ref (ρ 66)), (1, .int v1)] [] C N) : ∀ (n : Nat) (v1 : Int32) (N : Nm), fX8_digest_L9  E K n v1 N → V p l e rmX8_digest s m args below meth c D G ρ (WA ρ s.heap.size) s.heap 2 0 0 (Ql D G ρ s args below (fun r C1 N1 => K r N1 ∧ C1 = C)) 9 [(0, .ref (ρ 66)), (1, .int v1)] [] C N := by
  intro n
  induction n with
  | zero => intro v1 N h; exact h.elim
  | succ n ih =>
    intro v1 N h
    unfold fX8_digest_L9 at h
    refine V_iload_n X (q := 1) rfl rfl dX8_digest_9 (n := 10) rfl ?_
    refine V_aload_n X (q := 0) rfl rfl dX8_digest_10 (n := 11) rfl ?_
    refine V_getN X (by decide) (by decide) rfl rfl (k := 2) inX8_digest_X8 rfl (by decide) wX8_digest_129 dX8_digest_11 (n := 14) rfl ?_
    refine V_icmp_ge X dX8_digest_14 (tgt := 84) (n := 17) (by decide) rfl (fun c2 => ?_) (fun c2 => ?_)
    · have h := ite_t h c2
      exact hE v1 N h
    · have h := ite_f h c2
      refine V_aload_n X (q := 0) rfl rfl dX8_digest_17 (n := 18) rfl ?_
      refine V_aload_n X (q := 0) rfl rfl dX8_digest_18 (n := 19) rfl ?_
      refine V_getR X (by decide) rfl rfl (k := 9) inX8_digest_X8 rfl (by decide) wX8_digest_29 dX8_digest_19 (n := 22) rfl ?_
      refine V_iload_n X (q := 1) rfl rfl dX8_digest_22 (n := 23) rfl ?_
      obtain ⟨g3, h⟩ := h
      refine V_ildN X (by decide) (by decide) rfl g3 dX8_digest_23 (n := 24) rfl ?_
      refine V_i2l X dX8_digest_24 (n := 25) rfl ?_
      refine V_callv X (As := [.long (Int32.toInt64 (N.1 73 (Int32.toNatClampNeg v1)))]) (rest := []) (nA := 1) (i := 66) (q := (RX8, TX8, 42)) (TX8_mix l D G ρ C N (Int32.toInt64 (N.1 73 (Int32.toNatClampNeg v1))) _ h) gX8_digest_X8_mix rfl rfl rfl (by decide +kernel) rfl ⟨by decide, by decide⟩ (Nat.le_of_ble_eq_true rfl) ⟨by decide, by decide⟩ (by decide) rfl rfl rfl dX8_digest_25 (n := 28) rfl (fun M0 N4 h => ?_)
      obtain ⟨h, eo⟩ := h
      rw [eo]
      refine V_aload_n X (q := 0) rfl rfl dX8_digest_28 (n := 29) rfl ?_
      refine V_aload_n X (q := 0) rfl rfl dX8_digest_29 (n := 30) rfl ?_
      refine V_iload_n X (q := 1) rfl rfl dX8_digest_30 (n := 31) rfl ?_
      refine V_calli X (As := [.int v1]) (rest := [.ref (ρ 66)]) (nA := 1) (i := 66) (q := (RX8, TX8, 42)) (TX8_hops l D G ρ C N4 v1 _ h) gX8_digest_X8_hops rfl rfl rfl (by decide +kernel) rfl ⟨by decide, by decide⟩ (Nat.le_of_ble_eq_true rfl) ⟨by decide, by decide⟩ (by decide) rfl rfl rfl dX8_digest_31 (n := 34) rfl (fun r5 M1 M0 h => ?_)
      obtain ⟨h, eo, eo2⟩ := h
      rw [eo, eo2]
      refine V_i2l X dX8_digest_34 (n := 35) rfl ?_
      refine V_callv X (As := [.long (Int32.toInt64 r5)]) (rest := []) (nA := 1) (i := 66) (q := (RX8, TX8, 42)) (TX8_mix l D G ρ C N4 (Int32.toInt64 r5) _ h) gX8_digest_X8_mix rfl rfl rfl (by decide +kernel) rfl ⟨by decide, by decide⟩ (Nat.le_of_ble_eq_true rfl) ⟨by decide, by decide⟩ (by decide) rfl rfl rfl dX8_digest_35 (n := 38) rfl (fun M0 N6 h => ?_)
      obtain ⟨h, eo⟩ := h
      rw [eo]
      refine V_aload_n X (q := 0) rfl rfl dX8_digest_38 (n := 39) rfl ?_
      refine V_aload_n X (q := 0) rfl rfl dX8_digest_39 (n := 40) rfl ?_
      refine V_getR X (by decide) rfl rfl (k := 12) inX8_digest_X8 rfl (by decide) wX8_digest_38 dX8_digest_40 (n := 43) rfl ?_
      refine V_iload_n X (q := 1) rfl rfl dX8_digest_43 (n := 44) rfl ?_
      obtain ⟨g7, h⟩ := h
      refine V_ildN X (by decide) (by decide) rfl g7 dX8_digest_44 (n := 45) rfl ?_
      refine V_i2l X dX8_digest_45 (n := 46) rfl ?_
      refine V_callv X (As := [.long (Int32.toInt64 (N6.1 76 (Int32.toNatClampNeg v1)))]) (rest := []) (nA := 1) (i := 66) (q := (RX8, TX8, 42)) (TX8_mix l D G ρ C N6 (Int32.toInt64 (N6.1 76 (Int32.toNatClampNeg v1))) _ h) gX8_digest_X8_mix rfl rfl rfl (by decide +kernel) rfl ⟨by decide, by decide⟩ (Nat.le_of_ble_eq_true rfl) ⟨by decide, by decide⟩ (by decide) rfl rfl rfl dX8_digest_46 (n := 49) rfl (fun M0 N8 h => ?_)
      obtain ⟨h, eo⟩ := h
      rw [eo]
      refine V_aload_n X (q := 0) rfl rfl dX8_digest_49 (n := 50) rfl ?_
      refine V_aload_n X (q := 0) rfl rfl dX8_digest_50 (n := 51) rfl ?_
      refine V_getR X (by decide) rfl rfl (k := 11) inX8_digest_X8 rfl (by decide) wX8_digest_35 dX8_digest_51 (n := 54) rfl ?_
      refine V_iload_n X (q := 1) rfl rfl dX8_digest_54 (n := 55) rfl ?_
      obtain ⟨g9, h⟩ := h
      refine V_ildN X (by decide) (by decide) rfl g9 dX8_digest_55 (n := 56) rfl ?_
      refine V_i2l X dX8_digest_56 (n := 57) rfl ?_
      refine V_callv X (As := [.long (Int32.toInt64 (N8.1 75 (Int32.toNatClampNeg v1)))]) (rest := []) (nA := 1) (i := 66) (q := (RX8, TX8, 42)) (TX8_mix l D G ρ C N8 (Int32.toInt64 (N8.1 75 (Int32.toNatClampNeg v1))) _ h) gX8_digest_X8_mix rfl rfl rfl (by decide +kernel) rfl ⟨by decide, by decide⟩ (Nat.le_of_ble_eq_true rfl) ⟨by decide, by decide⟩ (by decide) rfl rfl rfl dX8_digest_57 (n := 60) rfl (fun M0 N10 h => ?_)
      obtain ⟨h, eo⟩ := h
      rw [eo]
      refine V_aload_n X (q := 0) rfl rfl dX8_digest_60 (n := 61) rfl ?_
      refine V_aload_n X (q := 0) rfl rfl dX8_digest_61 (n := 62) rfl ?_
      refine V_getR X (by decide) rfl rfl (k := 8) inX8_digest_X8 rfl (by decide) wX8_digest_25 dX8_digest_62 (n := 65) rfl ?_
      refine V_iload_n X (q := 1) rfl rfl dX8_digest_65 (n := 66) rfl ?_
      obtain ⟨g11, h⟩ := h
      refine V_zldN X (by decide) (by decide) rfl g11 dX8_digest_66 (n := 67) rfl ?_
      refine jn_o h (fun j12 ej12 h => ?_)
      have kj12 : ∀ (x14 : Int64), j12 x14 → V p l e rmX8_digest s m args below meth c D G ρ (WA ρ s.heap.size) s.heap 2 0 0 (Ql D G ρ s args below (fun r C1 N1 => K r N1 ∧ C1 = C)) 75 [(0, .ref (ρ 66)), (1, .int v1)] [.long x14, .ref (ρ 66)] C N10 := by
        intro x14 h
        rw [ej12] at h
        try dsimp only at h
        refine V_callv X (As := [.long x14]) (rest := []) (nA := 1) (i := 66) (q := (RX8, TX8, 42)) (TX8_mix l D G ρ C N10 x14 _ h) gX8_digest_X8_mix rfl rfl rfl (by decide +kernel) rfl ⟨by decide, by decide⟩ (Nat.le_of_ble_eq_true rfl) ⟨by decide, by decide⟩ (by decide) rfl rfl rfl dX8_digest_75 (n := 78) rfl (fun M0 N15 h => ?_)
        obtain ⟨h, eo⟩ := h
        rw [eo]
        obtain ⟨x16, ex16⟩ : ∃ z : Int32, z = v1 + (1 : Int32) := ⟨_, rfl⟩
        have h := bd_at h ex16
        refine V_iinc X (q := 1) (d := 1) (L2 := [(1, .int x16), (0, .ref (ρ 66))]) rfl (by decide) (by decide) ex16 rfl dX8_digest_78 (n := 81) rfl ?_
        refine V_goto X dX8_digest_81 (tgt := 9) (by decide) ?_
        refine V_loc [1, 0] rfl ?_
        exact ih x16 N15 h
      refine V_if_eq X dX8_digest_67 (tgt := 74) (n := 70) (by decide) rfl (fun c13 => ?_) (fun c13 => ?_)
      · have h := ite_t h c13
        refine V_lconst X (v := 0) (by decide) dX8_digest_74 (n := 75) rfl ?_
        exact kj12 (0 : Int64) h
      · have h := ite_f h c13
        refine V_lconst X (v := 1) (by decide) dX8_digest_70 (n := 71) rfl ?_
        refine V_goto X dX8_digest_71 (tgt := 75) (by decide) ?_
        exact kj12 (1 : Int64) h
set_option maxRecDepth 100000 in
set_option maxHeartbeats 4000000 in
theorem TX8_digest_L95 {p : Program} {l : Launch} {e : Env} {s : State} {m : MethodId} {args : Array Value} {below : List Frame} {meth : Method} {c : Code} {D : va_G} {G : Gc} {ρ : Nat → Nat} (X : Cx p s m args c cX8_digest 2 RX8 wsX8_digest D G ρ (WA ρ s.heap.size) s.heap) (hr : meth.sig.returnType = some .long) (hlk : meth.locks = false) (C : Xm)   {E : Int32 → Nm → Prop} {K : Int64 → Nm → Prop} (hE : ∀ (v1 : Int32) (N : Nm), E v1 N → V p l e rmX8_digest s m args below meth c D G ρ (WA ρ s.heap.size) s.heap 2 0 0 (Ql D G ρ s args below (fun r C1 N1 => K r N1 ∧ C1 = C)) 142 [(0, .ref (ρ 66)), (1, .int v1)] [] C N) : ∀ (n : Nat) (v1 : Int32) (N : Nm), fX8_digest_L95  E K n v1 N → V p l e rmX8_digest s m args below meth c D G ρ (WA ρ s.heap.size) s.heap 2 0 0 (Ql D G ρ s args below (fun r C1 N1 => K r N1 ∧ C1 = C)) 95 [(0, .ref (ρ 66)), (1, .int v1)] [] C N := by
  intro n
  induction n with
  | zero => intro v1 N h; exact h.elim
  | succ n ih =>
    intro v1 N h
    unfold fX8_digest_L95 at h
    refine V_iload_n X (q := 1) rfl rfl dX8_digest_95 (n := 96) rfl ?_
    refine V_aload_n X (q := 0) rfl rfl dX8_digest_96 (n := 97) rfl ?_
    refine V_getN X (by decide) (by decide) rfl rfl (k := 20) inX8_digest_X8 rfl (by decide) wX8_digest_141 dX8_digest_97 (n := 100) rfl ?_
    refine V_icmp_ge X dX8_digest_100 (tgt := 142) (n := 103) (by decide) rfl (fun c21 => ?_) (fun c21 => ?_)
    · have h := ite_t h c21
      exact hE v1 N h
    · have h := ite_f h c21
      refine V_aload_n X (q := 0) rfl rfl dX8_digest_103 (n := 104) rfl ?_
      refine V_aload_n X (q := 0) rfl rfl dX8_digest_104 (n := 105) rfl ?_
      refine V_getR X (by decide) rfl rfl (k := 24) inX8_digest_X8 rfl (by decide) wX8_digest_66 dX8_digest_105 (n := 108) rfl ?_
      refine V_iload_n X (q := 1) rfl rfl dX8_digest_108 (n := 109) rfl ?_
      obtain ⟨g22, h⟩ := h
      refine V_ildN X (by decide) (by decide) rfl g22 dX8_digest_109 (n := 110) rfl ?_
      refine V_i2l X dX8_digest_110 (n := 111) rfl ?_
      refine V_callv X (As := [.long (Int32.toInt64 (N.1 80 (Int32.toNatClampNeg v1)))]) (rest := []) (nA := 1) (i := 66) (q := (RX8, TX8, 42)) (TX8_mix l D G ρ C N (Int32.toInt64 (N.1 80 (Int32.toNatClampNeg v1))) _ h) gX8_digest_X8_mix rfl rfl rfl (by decide +kernel) rfl ⟨by decide, by decide⟩ (Nat.le_of_ble_eq_true rfl) ⟨by decide, by decide⟩ (by decide) rfl rfl rfl dX8_digest_111 (n := 114) rfl (fun M0 N23 h => ?_)
      obtain ⟨h, eo⟩ := h
      rw [eo]
      refine V_aload_n X (q := 0) rfl rfl dX8_digest_114 (n := 115) rfl ?_
      refine V_aload_n X (q := 0) rfl rfl dX8_digest_115 (n := 116) rfl ?_
      refine V_getR X (by decide) rfl rfl (k := 26) inX8_digest_X8 rfl (by decide) wX8_digest_72 dX8_digest_116 (n := 119) rfl ?_
      refine V_iload_n X (q := 1) rfl rfl dX8_digest_119 (n := 120) rfl ?_
      obtain ⟨g24, h⟩ := h
      refine V_ildN X (by decide) (by decide) rfl g24 dX8_digest_120 (n := 121) rfl ?_
      refine V_i2l X dX8_digest_121 (n := 122) rfl ?_
      refine V_callv X (As := [.long (Int32.toInt64 (N23.1 82 (Int32.toNatClampNeg v1)))]) (rest := []) (nA := 1) (i := 66) (q := (RX8, TX8, 42)) (TX8_mix l D G ρ C N23 (Int32.toInt64 (N23.1 82 (Int32.toNatClampNeg v1))) _ h) gX8_digest_X8_mix rfl rfl rfl (by decide +kernel) rfl ⟨by decide, by decide⟩ (Nat.le_of_ble_eq_true rfl) ⟨by decide, by decide⟩ (by decide) rfl rfl rfl dX8_digest_122 (n := 125) rfl (fun M0 N25 h => ?_)
      obtain ⟨h, eo⟩ := h
      rw [eo]
      refine V_aload_n X (q := 0) rfl rfl dX8_digest_125 (n := 126) rfl ?_
      refine V_aload_n X (q := 0) rfl rfl dX8_digest_126 (n := 127) rfl ?_
      refine V_getR X (by decide) rfl rfl (k := 27) inX8_digest_X8 rfl (by decide) wX8_digest_75 dX8_digest_127 (n := 130) rfl ?_
      refine V_iload_n X (q := 1) rfl rfl dX8_digest_130 (n := 131) rfl ?_
      obtain ⟨g26, h⟩ := h
      refine V_ildN X (by decide) (by decide) rfl g26 dX8_digest_131 (n := 132) rfl ?_
      refine V_i2l X dX8_digest_132 (n := 133) rfl ?_
      refine V_callv X (As := [.long (Int32.toInt64 (N25.1 83 (Int32.toNatClampNeg v1)))]) (rest := []) (nA := 1) (i := 66) (q := (RX8, TX8, 42)) (TX8_mix l D G ρ C N25 (Int32.toInt64 (N25.1 83 (Int32.toNatClampNeg v1))) _ h) gX8_digest_X8_mix rfl rfl rfl (by decide +kernel) rfl ⟨by decide, by decide⟩ (Nat.le_of_ble_eq_true rfl) ⟨by decide, by decide⟩ (by decide) rfl rfl rfl dX8_digest_133 (n := 136) rfl (fun M0 N27 h => ?_)
      obtain ⟨h, eo⟩ := h
      rw [eo]
      obtain ⟨x28, ex28⟩ : ∃ z : Int32, z = v1 + (1 : Int32) := ⟨_, rfl⟩
      have h := bd_at h ex28
      refine V_iinc X (q := 1) (d := 1) (L2 := [(1, .int x28), (0, .ref (ρ 66))]) rfl (by decide) (by decide) ex28 rfl dX8_digest_136 (n := 139) rfl ?_
      refine V_goto X dX8_digest_139 (tgt := 95) (by decide) ?_
      refine V_loc [1, 0] rfl ?_
      exact ih x28 N27 h
set_option maxRecDepth 100000 in
set_option maxHeartbeats 4000000 in
theorem TX8_digest_L144 {p : Program} {l : Launch} {e : Env} {s : State} {m : MethodId} {args : Array Value} {below : List Frame} {meth : Method} {c : Code} {D : va_G} {G : Gc} {ρ : Nat → Nat} (X : Cx p s m args c cX8_digest 2 RX8 wsX8_digest D G ρ (WA ρ s.heap.size) s.heap) (hr : meth.sig.returnType = some .long) (hlk : meth.locks = false) (C : Xm)   {E : Int32 → Nm → Prop} {K : Int64 → Nm → Prop} (hE : ∀ (v1 : Int32) (N : Nm), E v1 N → V p l e rmX8_digest s m args below meth c D G ρ (WA ρ s.heap.size) s.heap 2 0 0 (Ql D G ρ s args below (fun r C1 N1 => K r N1 ∧ C1 = C)) 169 [(0, .ref (ρ 66)), (1, .int v1)] [] C N) : ∀ (n : Nat) (v1 : Int32) (N : Nm), fX8_digest_L144  E K n v1 N → V p l e rmX8_digest s m args below meth c D G ρ (WA ρ s.heap.size) s.heap 2 0 0 (Ql D G ρ s args below (fun r C1 N1 => K r N1 ∧ C1 = C)) 144 [(0, .ref (ρ 66)), (1, .int v1)] [] C N := by
  intro n
  induction n with
  | zero => intro v1 N h; exact h.elim
  | succ n ih =>
    intro v1 N h
    unfold fX8_digest_L144 at h
    refine V_iload_n X (q := 1) rfl rfl dX8_digest_144 (n := 145) rfl ?_
    refine V_aload_n X (q := 0) rfl rfl dX8_digest_145 (n := 146) rfl ?_
    refine V_getN X (by decide) (by decide) rfl rfl (k := 28) inX8_digest_X8 rfl (by decide) wX8_digest_144 dX8_digest_146 (n := 149) rfl ?_
    refine V_icmp_ge X dX8_digest_149 (tgt := 169) (n := 152) (by decide) rfl (fun c32 => ?_) (fun c32 => ?_)
    · have h := ite_t h c32
      exact hE v1 N h
    · have h := ite_f h c32
      refine V_aload_n X (q := 0) rfl rfl dX8_digest_152 (n := 153) rfl ?_
      refine V_aload_n X (q := 0) rfl rfl dX8_digest_153 (n := 154) rfl ?_
      refine V_getR X (by decide) rfl rfl (k := 29) inX8_digest_X8 rfl (by decide) wX8_digest_78 dX8_digest_154 (n := 157) rfl ?_
      refine V_iload_n X (q := 1) rfl rfl dX8_digest_157 (n := 158) rfl ?_
      obtain ⟨g33, h⟩ := h
      refine V_ildN X (by decide) (by decide) rfl g33 dX8_digest_158 (n := 159) rfl ?_
      refine V_i2l X dX8_digest_159 (n := 160) rfl ?_
      refine V_callv X (As := [.long (Int32.toInt64 (N.1 84 (Int32.toNatClampNeg v1)))]) (rest := []) (nA := 1) (i := 66) (q := (RX8, TX8, 42)) (TX8_mix l D G ρ C N (Int32.toInt64 (N.1 84 (Int32.toNatClampNeg v1))) _ h) gX8_digest_X8_mix rfl rfl rfl (by decide +kernel) rfl ⟨by decide, by decide⟩ (Nat.le_of_ble_eq_true rfl) ⟨by decide, by decide⟩ (by decide) rfl rfl rfl dX8_digest_160 (n := 163) rfl (fun M0 N34 h => ?_)
      obtain ⟨h, eo⟩ := h
      rw [eo]
      obtain ⟨x35, ex35⟩ : ∃ z : Int32, z = v1 + (1 : Int32) := ⟨_, rfl⟩
      have h := bd_at h ex35
      refine V_iinc X (q := 1) (d := 1) (L2 := [(1, .int x35), (0, .ref (ρ 66))]) rfl (by decide) (by decide) ex35 rfl dX8_digest_163 (n := 166) rfl ?_
      refine V_goto X dX8_digest_166 (tgt := 144) (by decide) ?_
      refine V_loc [1, 0] rfl ?_
      exact ih x35 N34 h
set_option maxRecDepth 100000 in
set_option maxHeartbeats 4000000 in
theorem TX8_digest_L198 {p : Program} {l : Launch} {e : Env} {s : State} {m : MethodId} {args : Array Value} {below : List Frame} {meth : Method} {c : Code} {D : va_G} {G : Gc} {ρ : Nat → Nat} (X : Cx p s m args c cX8_digest 2 RX8 wsX8_digest D G ρ (WA ρ s.heap.size) s.heap) (hr : meth.sig.returnType = some .long) (hlk : meth.locks = false) (C : Xm)   {E : Int32 → Nm → Prop} {K : Int64 → Nm → Prop} (hE : ∀ (v1 : Int32) (N : Nm), E v1 N → V p l e rmX8_digest s m args below meth c D G ρ (WA ρ s.heap.size) s.heap 2 0 0 (Ql D G ρ s args below (fun r C1 N1 => K r N1 ∧ C1 = C)) 223 [(0, .ref (ρ 66)), (1, .int v1)] [] C N) : ∀ (n : Nat) (v1 : Int32) (N : Nm), fX8_digest_L198  E K n v1 N → V p l e rmX8_digest s m args below meth c D G ρ (WA ρ s.heap.size) s.heap 2 0 0 (Ql D G ρ s args below (fun r C1 N1 => K r N1 ∧ C1 = C)) 198 [(0, .ref (ρ 66)), (1, .int v1)] [] C N := by
  intro n
  induction n with
  | zero => intro v1 N h; exact h.elim
  | succ n ih =>
    intro v1 N h
    unfold fX8_digest_L198 at h
    refine V_iload_n X (q := 1) rfl rfl dX8_digest_198 (n := 199) rfl ?_
    refine V_aload_n X (q := 0) rfl rfl dX8_digest_199 (n := 200) rfl ?_
    refine V_getN X (by decide) (by decide) rfl rfl (k := 0) inX8_digest_X8 rfl (by decide) wX8_digest_106 dX8_digest_200 (n := 203) rfl ?_
    refine V_icmp_ge X dX8_digest_203 (tgt := 223) (n := 206) (by decide) rfl (fun c43 => ?_) (fun c43 => ?_)
    · have h := ite_t h c43
      exact hE v1 N h
    · have h := ite_f h c43
      refine V_aload_n X (q := 0) rfl rfl dX8_digest_206 (n := 207) rfl ?_
      refine V_aload_n X (q := 0) rfl rfl dX8_digest_207 (n := 208) rfl ?_
      refine V_getR X (by decide) rfl rfl (k := 1) inX8_digest_X8 rfl (by decide) wX8_digest_7 dX8_digest_208 (n := 211) rfl ?_
      refine V_iload_n X (q := 1) rfl rfl dX8_digest_211 (n := 212) rfl ?_
      obtain ⟨g44, h⟩ := h
      refine V_ildN X (by decide) (by decide) rfl g44 dX8_digest_212 (n := 213) rfl ?_
      refine V_i2l X dX8_digest_213 (n := 214) rfl ?_
      refine V_callv X (As := [.long (Int32.toInt64 (N.1 67 (Int32.toNatClampNeg v1)))]) (rest := []) (nA := 1) (i := 66) (q := (RX8, TX8, 42)) (TX8_mix l D G ρ C N (Int32.toInt64 (N.1 67 (Int32.toNatClampNeg v1))) _ h) gX8_digest_X8_mix rfl rfl rfl (by decide +kernel) rfl ⟨by decide, by decide⟩ (Nat.le_of_ble_eq_true rfl) ⟨by decide, by decide⟩ (by decide) rfl rfl rfl dX8_digest_214 (n := 217) rfl (fun M0 N45 h => ?_)
      obtain ⟨h, eo⟩ := h
      rw [eo]
      obtain ⟨x46, ex46⟩ : ∃ z : Int32, z = v1 + (1 : Int32) := ⟨_, rfl⟩
      have h := bd_at h ex46
      refine V_iinc X (q := 1) (d := 1) (L2 := [(1, .int x46), (0, .ref (ρ 66))]) rfl (by decide) (by decide) ex46 rfl dX8_digest_217 (n := 220) rfl ?_
      refine V_goto X dX8_digest_220 (tgt := 198) (by decide) ?_
      refine V_loc [1, 0] rfl ?_
      exact ih x46 N45 h
set_option maxRecDepth 100000 in
set_option maxHeartbeats 4000000 in
theorem TX8_digest (l : Launch) (D : va_G) (G : Gc) (ρ : Nat → Nat) (C : Xm) (N : Nm)   (K : Int64 → Nm → Prop) (h : fX8_digest N K) : Kl l yX8_digest wsX8_digest rmX8_digest D G ρ [.ref (ρ 66)] C N (fun r C1 N1 => K r N1 ∧ C1 = C) := by
  refine Kl.ofV (cc := cX8_digest) (maxL := 2) (ret := (some .long)) (by decide +kernel) rfl (Nat.le_of_ble_eq_true rfl) ?_
  intro p e s m args below meth c X hr hlk
  show V p l e rmX8_digest s m args below meth c D G ρ (WA ρ s.heap.size) s.heap 2 0 0 (Ql D G ρ s args below (fun r C1 N1 => K r N1 ∧ C1 = C)) 0 [(0, .ref (ρ 66))] [] C N
  unfold fX8_digest at h
  refine V_aload_n X (q := 0) rfl rfl dX8_digest_0 (n := 1) rfl ?_
  refine V_ldc2 X wX8_digest_k213 dX8_digest_1 (n := 4) rfl ?_
  refine V_putL X rfl rfl rfl only41 (k := 41) inX8_digest_X8 rfl (by decide) wX8_digest_209 tyX8 tyX8_ok nmX8 rfl (by decide +kernel) dX8_digest_4 (n := 7) rfl (fun N1 eN1 => ?_)
  have h := bd_at h eN1
  refine V_iconst X (v := 0) (by decide) dX8_digest_7 (n := 8) rfl ?_
  refine V_istore_n X (L2 := [(1, .int (0 : Int32)), (0, .ref (ρ 66))]) rfl (by decide) rfl dX8_digest_8 (n := 9) rfl ?_
  refine jn_o h (fun j17 ej17 h => ?_)
  have kj17 : ∀ (x18 : Int32) (N19 : Nm), j17 x18 N19 → V p l e rmX8_digest s m args below meth c D G ρ (WA ρ s.heap.size) s.heap 2 0 0 (Ql D G ρ s args below (fun r C1 N1 => K r N1 ∧ C1 = C)) 84 [(0, .ref (ρ 66)), (1, .int x18)] [] C N19 := by
    intro x18 N19 h
    rw [ej17] at h
    try dsimp only at h
    refine V_aload_n X (q := 0) rfl rfl dX8_digest_84 (n := 85) rfl ?_
    refine V_aload_n X (q := 0) rfl rfl dX8_digest_85 (n := 86) rfl ?_
    refine V_getN X (by decide) (by decide) rfl rfl (k := 13) inX8_digest_X8 rfl (by decide) wX8_digest_151 dX8_digest_86 (n := 89) rfl ?_
    refine V_i2l X dX8_digest_89 (n := 90) rfl ?_
    refine V_callv X (As := [.long (Int32.toInt64 (N19.1 66 13))]) (rest := []) (nA := 1) (i := 66) (q := (RX8, TX8, 42)) (TX8_mix l D G ρ C N19 (Int32.toInt64 (N19.1 66 13)) _ h) gX8_digest_X8_mix rfl rfl rfl (by decide +kernel) rfl ⟨by decide, by decide⟩ (Nat.le_of_ble_eq_true rfl) ⟨by decide, by decide⟩ (by decide) rfl rfl rfl dX8_digest_90 (n := 93) rfl (fun M0 N20 h => ?_)
    obtain ⟨h, eo⟩ := h
    rw [eo]
    refine V_iconst X (v := 0) (by decide) dX8_digest_93 (n := 94) rfl ?_
    refine V_istore_n X (L2 := [(1, .int (0 : Int32)), (0, .ref (ρ 66))]) rfl (by decide) rfl dX8_digest_94 (n := 95) rfl ?_
    refine jn_o h (fun j29 ej29 h => ?_)
    have kj29 : ∀ (x30 : Int32) (N31 : Nm), j29 x30 N31 → V p l e rmX8_digest s m args below meth c D G ρ (WA ρ s.heap.size) s.heap 2 0 0 (Ql D G ρ s args below (fun r C1 N1 => K r N1 ∧ C1 = C)) 142 [(0, .ref (ρ 66)), (1, .int x30)] [] C N31 := by
      intro x30 N31 h
      rw [ej29] at h
      try dsimp only at h
      refine V_iconst X (v := 0) (by decide) dX8_digest_142 (n := 143) rfl ?_
      refine V_istore_n X (L2 := [(1, .int (0 : Int32)), (0, .ref (ρ 66))]) rfl (by decide) rfl dX8_digest_143 (n := 144) rfl ?_
      refine jn_o h (fun j36 ej36 h => ?_)
      have kj36 : ∀ (x37 : Int32) (N38 : Nm), j36 x37 N38 → V p l e rmX8_digest s m args below meth c D G ρ (WA ρ s.heap.size) s.heap 2 0 0 (Ql D G ρ s args below (fun r C1 N1 => K r N1 ∧ C1 = C)) 169 [(0, .ref (ρ 66)), (1, .int x37)] [] C N38 := by
        intro x37 N38 h
        rw [ej36] at h
        try dsimp only at h
        refine V_aload_n X (q := 0) rfl rfl dX8_digest_169 (n := 170) rfl ?_
        refine V_aload_n X (q := 0) rfl rfl dX8_digest_170 (n := 171) rfl ?_
        refine V_calli X (As := []) (rest := [.ref (ρ 66)]) (nA := 0) (i := 66) (q := (RX8, TX8, 42)) (TX8_scheduleBits l D G ρ C N38  _ h) gX8_digest_X8_scheduleBits rfl rfl rfl (by decide +kernel) rfl ⟨by decide, by decide⟩ (Nat.le_of_ble_eq_true rfl) ⟨by decide, by decide⟩ (by decide) rfl rfl rfl dX8_digest_171 (n := 174) rfl (fun r39 M1 M0 h => ?_)
        obtain ⟨h, eo, eo2⟩ := h
        rw [eo, eo2]
        refine V_i2l X dX8_digest_174 (n := 175) rfl ?_
        refine V_callv X (As := [.long (Int32.toInt64 r39)]) (rest := []) (nA := 1) (i := 66) (q := (RX8, TX8, 42)) (TX8_mix l D G ρ C N38 (Int32.toInt64 r39) _ h) gX8_digest_X8_mix rfl rfl rfl (by decide +kernel) rfl ⟨by decide, by decide⟩ (Nat.le_of_ble_eq_true rfl) ⟨by decide, by decide⟩ (by decide) rfl rfl rfl dX8_digest_175 (n := 178) rfl (fun M0 N40 h => ?_)
        obtain ⟨h, eo⟩ := h
        rw [eo]
        refine V_aload_n X (q := 0) rfl rfl dX8_digest_178 (n := 179) rfl ?_
        refine V_aload_n X (q := 0) rfl rfl dX8_digest_179 (n := 180) rfl ?_
        refine V_getN X (by decide) (by decide) rfl rfl (k := 14) inX8_digest_X8 rfl (by decide) wX8_digest_41 dX8_digest_180 (n := 183) rfl ?_
        refine V_i2l X dX8_digest_183 (n := 184) rfl ?_
        refine V_callv X (As := [.long (Int32.toInt64 (N40.1 66 14))]) (rest := []) (nA := 1) (i := 66) (q := (RX8, TX8, 42)) (TX8_mix l D G ρ C N40 (Int32.toInt64 (N40.1 66 14)) _ h) gX8_digest_X8_mix rfl rfl rfl (by decide +kernel) rfl ⟨by decide, by decide⟩ (Nat.le_of_ble_eq_true rfl) ⟨by decide, by decide⟩ (by decide) rfl rfl rfl dX8_digest_184 (n := 187) rfl (fun M0 N41 h => ?_)
        obtain ⟨h, eo⟩ := h
        rw [eo]
        refine V_aload_n X (q := 0) rfl rfl dX8_digest_187 (n := 188) rfl ?_
        refine V_aload_n X (q := 0) rfl rfl dX8_digest_188 (n := 189) rfl ?_
        refine V_getN X (by decide) (by decide) rfl rfl (k := 15) inX8_digest_X8 rfl (by decide) wX8_digest_138 dX8_digest_189 (n := 192) rfl ?_
        refine V_i2l X dX8_digest_192 (n := 193) rfl ?_
        refine V_callv X (As := [.long (Int32.toInt64 (N41.1 66 15))]) (rest := []) (nA := 1) (i := 66) (q := (RX8, TX8, 42)) (TX8_mix l D G ρ C N41 (Int32.toInt64 (N41.1 66 15)) _ h) gX8_digest_X8_mix rfl rfl rfl (by decide +kernel) rfl ⟨by decide, by decide⟩ (Nat.le_of_ble_eq_true rfl) ⟨by decide, by decide⟩ (by decide) rfl rfl rfl dX8_digest_193 (n := 196) rfl (fun M0 N42 h => ?_)
        obtain ⟨h, eo⟩ := h
        rw [eo]
        refine V_iconst X (v := 0) (by decide) dX8_digest_196 (n := 197) rfl ?_
        refine V_istore_n X (L2 := [(1, .int (0 : Int32)), (0, .ref (ρ 66))]) rfl (by decide) rfl dX8_digest_197 (n := 198) rfl ?_
        refine jn_o h (fun j47 ej47 h => ?_)
        have kj47 : ∀ (x48 : Int32) (N49 : Nm), j47 x48 N49 → V p l e rmX8_digest s m args below meth c D G ρ (WA ρ s.heap.size) s.heap 2 0 0 (Ql D G ρ s args below (fun r C1 N1 => K r N1 ∧ C1 = C)) 223 [(0, .ref (ρ 66)), (1, .int x48)] [] C N49 := by
          intro x48 N49 h
          rw [ej47] at h
          try dsimp only at h
          refine V_aload_n X (q := 0) rfl rfl dX8_digest_223 (n := 224) rfl ?_
          refine V_aload_n X (q := 0) rfl rfl dX8_digest_224 (n := 225) rfl ?_
          refine V_getN X (by decide) (by decide) rfl rfl (k := 0) inX8_digest_X8 rfl (by decide) wX8_digest_106 dX8_digest_225 (n := 228) rfl ?_
          refine V_i2l X dX8_digest_228 (n := 229) rfl ?_
          refine V_callv X (As := [.long (Int32.toInt64 (N49.1 66 0))]) (rest := []) (nA := 1) (i := 66) (q := (RX8, TX8, 42)) (TX8_mix l D G ρ C N49 (Int32.toInt64 (N49.1 66 0)) _ h) gX8_digest_X8_mix rfl rfl rfl (by decide +kernel) rfl ⟨by decide, by decide⟩ (Nat.le_of_ble_eq_true rfl) ⟨by decide, by decide⟩ (by decide) rfl rfl rfl dX8_digest_229 (n := 232) rfl (fun M0 N50 h => ?_)
          obtain ⟨h, eo⟩ := h
          rw [eo]
          refine V_aload_n X (q := 0) rfl rfl dX8_digest_232 (n := 233) rfl ?_
          refine V_getL X (by decide) rfl rfl (k := 41) inX8_digest_X8 rfl (by decide) wX8_digest_209 dX8_digest_233 (n := 236) rfl ?_
          exact V_lret X hr hlk dX8_digest_236 ⟨h, rfl⟩
        refine V_loc [1, 0] rfl ?_
        exact TX8_digest_L198 X hr hlk C  (E := j47) (K := K) kj47 200 (0 : Int32) N42 h
      refine V_loc [1, 0] rfl ?_
      exact TX8_digest_L144 X hr hlk C  (E := j36) (K := K) kj36 200 (0 : Int32) N31 h
    refine V_loc [1, 0] rfl ?_
    exact TX8_digest_L95 X hr hlk C  (E := j29) (K := K) kj29 200 (0 : Int32) N20 h
  refine V_loc [1, 0] rfl ?_
  exact TX8_digest_L9 X hr hlk C  (E := j17) (K := K) kj17 200 (0 : Int32) N1 h
