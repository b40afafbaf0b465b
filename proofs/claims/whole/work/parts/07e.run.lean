abbrev rmX7_digest : Room := { frames := 2, cells := 0, slots := 0, locals := 46 }
theorem wX7_digest_k164 : Cond.constantLong RX7 164 (1753) ∈ wsX7_digest := by decide +kernel
theorem wX7_digest_k170 : Cond.constantLong RX7 170 (31) ∈ wsX7_digest := by decide +kernel
theorem wX7_digest_26 : Cond.fieldLink RX7 26 "FloodBus" "latestFlood" "LFloodBus$Flooding;" ∈ wsX7_digest := by decide +kernel
theorem wX7_digest_127 : Cond.fieldLink RX7 127 "FloodBus$Flooding" "length" "I" ∈ wsX7_digest := by decide +kernel
theorem wX7_digest_40 : Cond.fieldLink RX7 40 "FloodBus" "schedule" "LFloodBus$Schedule;" ∈ wsX7_digest := by decide +kernel
theorem wX7_digest_89 : Cond.fieldLink RX7 89 "FloodBus$Schedule" "size" "I" ∈ wsX7_digest := by decide +kernel
theorem wX7_digest_154 : Cond.fieldLink RX7 154 "FloodBus$Schedule" "entries" "[I" ∈ wsX7_digest := by decide +kernel
theorem wX7_digest_33 : Cond.fieldLink RX7 33 "FloodBus" "streams" "LFloodBus$StreamTable;" ∈ wsX7_digest := by decide +kernel
theorem wX7_digest_51 : Cond.fieldLink RX7 51 "FloodBus" "hostNode" "I" ∈ wsX7_digest := by decide +kernel
theorem wX7_digest_54 : Cond.fieldLink RX7 54 "FloodBus" "nextRound" "I" ∈ wsX7_digest := by decide +kernel
theorem wX7_digest_10 : Cond.fieldLink RX7 10 "FloodBus" "description" "LFloodBus$Description;" ∈ wsX7_digest := by decide +kernel
theorem wX7_digest_61 : Cond.fieldLink RX7 61 "FloodBus$Description" "length" "I" ∈ wsX7_digest := by decide +kernel
theorem wX7_digest_175 : Cond.fieldLink RX7 175 "FloodBus$Description" "characters" "[I" ∈ wsX7_digest := by decide +kernel
theorem inX7_digest_X7 : ∀ w ∈ wsX70, w ∈ wsX7_digest := by decide +kernel
theorem inX7_digest_X1 : ∀ w ∈ wsX10, w ∈ wsX7_digest := by decide +kernel
theorem inX7_digest_X4 : ∀ w ∈ wsX40, w ∈ wsX7_digest := by decide +kernel
theorem inX7_digest_X0 : ∀ w ∈ wsX00, w ∈ wsX7_digest := by decide +kernel
set_option maxRecDepth 100000 in
set_option maxHeartbeats 4000000 in
theorem TX7_digest_L31 {p : Program} {l : Launch} {e : Env} {s : State} {m : MethodId} {args : Array Value} {below : List Frame} {meth : Method} {c : Code} {D : va_G} {G : Gc} {ρ : Nat → Nat} (X : Cx p s m args c cX7_digest 4 RX7 wsX7_digest D G ρ (WA ρ s.heap.size) s.heap) (hr : meth.sig.returnType = some .long) (hlk : meth.locks = false) (N : Nm) (C : Xm)  {E : Int64 → Int32 → Prop} {K : Int64 → Prop} (hE : ∀ (v1 : Int64) (v3 : Int32), E v1 v3 → V p l e rmX7_digest s m args below meth c D G ρ (WA ρ s.heap.size) s.heap 4 0 0 (Ql D G ρ s args below (fun r C1 N1 => K r ∧ C1 = C ∧ N1 = N)) 65 [(0, .ref (ρ 0)), (1, .long v1), (3, .int v3)] [] C N) : ∀ (n : Nat) (v1 : Int64) (v3 : Int32), fX7_digest_L31 C E K n v1 v3 → V p l e rmX7_digest s m args below meth c D G ρ (WA ρ s.heap.size) s.heap 4 0 0 (Ql D G ρ s args below (fun r C1 N1 => K r ∧ C1 = C ∧ N1 = N)) 31 [(0, .ref (ρ 0)), (1, .long v1), (3, .int v3)] [] C N := by
  intro n
  induction n with
  | zero => intro v1 v3 h; exact h.elim
  | succ n ih =>
    intro v1 v3 h
    unfold fX7_digest_L31 at h
    refine V_iload_n X (q := 2) rfl rfl dX7_digest_31 (n := 32) rfl ?_
    refine V_aload_n X (q := 0) rfl rfl dX7_digest_32 (n := 33) rfl ?_
    refine V_getR X (by decide) rfl rfl (k := 4) inX7_digest_X7 rfl (by decide) wX7_digest_40 dX7_digest_33 (n := 36) rfl ?_
    refine V_getX X (by decide) rfl rfl (k := 1) inX7_digest_X4 rfl (by decide) wX7_digest_89 dX7_digest_36 (n := 39) rfl ?_
    refine V_icmp_ge X dX7_digest_39 (tgt := 65) (n := 42) (by decide) rfl (fun c4 => ?_) (fun c4 => ?_)
    · have h := ite_t h c4
      exact hE v1 v3 h
    · have h := ite_f h c4
      refine V_ldc2 X wX7_digest_k170 dX7_digest_42 (n := 45) rfl ?_
      refine V_lload_n X (q := 1) rfl rfl dX7_digest_45 (n := 46) rfl ?_
      refine V_lmul X dX7_digest_46 (n := 47) rfl ?_
      refine V_aload_n X (q := 0) rfl rfl dX7_digest_47 (n := 48) rfl ?_
      refine V_getR X (by decide) rfl rfl (k := 4) inX7_digest_X7 rfl (by decide) wX7_digest_40 dX7_digest_48 (n := 51) rfl ?_
      refine V_getR X (by decide) rfl rfl (k := 0) inX7_digest_X4 rfl (by decide) wX7_digest_154 dX7_digest_51 (n := 54) rfl ?_
      refine V_iload_n X (q := 2) rfl rfl dX7_digest_54 (n := 55) rfl ?_
      obtain ⟨g5, h⟩ := h
      refine V_ildX X (by decide) rfl g5 dX7_digest_55 (n := 56) rfl ?_
      refine V_i2l X dX7_digest_56 (n := 57) rfl ?_
      refine V_ladd X dX7_digest_57 (n := 58) rfl ?_
      refine V_topl (fun x6 ex6 => ?_)
      have h := bd_at h ex6
      refine V_lstore_n X (L2 := [(1, .long x6), (0, .ref (ρ 0)), (3, .int v3)]) rfl (by decide) rfl dX7_digest_58 (n := 59) rfl ?_
      obtain ⟨x7, ex7⟩ : ∃ z : Int32, z = v3 + (1 : Int32) := ⟨_, rfl⟩
      have h := bd_at h ex7
      refine V_iinc X (q := 2) (d := 1) (L2 := [(3, .int x7), (1, .long x6), (0, .ref (ρ 0))]) rfl (by decide) (by decide) ex7 rfl dX7_digest_59 (n := 62) rfl ?_
      refine V_goto X dX7_digest_62 (tgt := 31) (by decide) ?_
      refine V_loc [2, 1, 0] rfl ?_
      exact ih x6 x7 h
set_option maxRecDepth 100000 in
set_option maxHeartbeats 4000000 in
theorem TX7_digest_L110 {p : Program} {l : Launch} {e : Env} {s : State} {m : MethodId} {args : Array Value} {below : List Frame} {meth : Method} {c : Code} {D : va_G} {G : Gc} {ρ : Nat → Nat} (X : Cx p s m args c cX7_digest 4 RX7 wsX7_digest D G ρ (WA ρ s.heap.size) s.heap) (hr : meth.sig.returnType = some .long) (hlk : meth.locks = false) (N : Nm) (C : Xm)  {E : Int64 → Int32 → Prop} {K : Int64 → Prop} (hE : ∀ (v1 : Int64) (v3 : Int32), E v1 v3 → V p l e rmX7_digest s m args below meth c D G ρ (WA ρ s.heap.size) s.heap 4 0 0 (Ql D G ρ s args below (fun r C1 N1 => K r ∧ C1 = C ∧ N1 = N)) 144 [(0, .ref (ρ 0)), (1, .long v1), (3, .int v3)] [] C N) : ∀ (n : Nat) (v1 : Int64) (v3 : Int32), fX7_digest_L110 C E K n v1 v3 → V p l e rmX7_digest s m args below meth c D G ρ (WA ρ s.heap.size) s.heap 4 0 0 (Ql D G ρ s args below (fun r C1 N1 => K r ∧ C1 = C ∧ N1 = N)) 110 [(0, .ref (ρ 0)), (1, .long v1), (3, .int v3)] [] C N := by
  intro n
  induction n with
  | zero => intro v1 v3 h; exact h.elim
  | succ n ih =>
    intro v1 v3 h
    unfold fX7_digest_L110 at h
    refine V_iload_n X (q := 2) rfl rfl dX7_digest_110 (n := 111) rfl ?_
    refine V_aload_n X (q := 0) rfl rfl dX7_digest_111 (n := 112) rfl ?_
    refine V_getR X (by decide) rfl rfl (k := 0) inX7_digest_X7 rfl (by decide) wX7_digest_10 dX7_digest_112 (n := 115) rfl ?_
    refine V_getX X (by decide) rfl rfl (k := 1) inX7_digest_X0 rfl (by decide) wX7_digest_61 dX7_digest_115 (n := 118) rfl ?_
    refine V_icmp_ge X dX7_digest_118 (tgt := 144) (n := 121) (by decide) rfl (fun c15 => ?_) (fun c15 => ?_)
    · have h := ite_t h c15
      exact hE v1 v3 h
    · have h := ite_f h c15
      refine V_ldc2 X wX7_digest_k170 dX7_digest_121 (n := 124) rfl ?_
      refine V_lload_n X (q := 1) rfl rfl dX7_digest_124 (n := 125) rfl ?_
      refine V_lmul X dX7_digest_125 (n := 126) rfl ?_
      refine V_aload_n X (q := 0) rfl rfl dX7_digest_126 (n := 127) rfl ?_
      refine V_getR X (by decide) rfl rfl (k := 0) inX7_digest_X7 rfl (by decide) wX7_digest_10 dX7_digest_127 (n := 130) rfl ?_
      refine V_getR X (by decide) rfl rfl (k := 0) inX7_digest_X0 rfl (by decide) wX7_digest_175 dX7_digest_130 (n := 133) rfl ?_
      refine V_iload_n X (q := 2) rfl rfl dX7_digest_133 (n := 134) rfl ?_
      obtain ⟨g16, h⟩ := h
      refine V_ildX X (by decide) rfl g16 dX7_digest_134 (n := 135) rfl ?_
      refine V_i2l X dX7_digest_135 (n := 136) rfl ?_
      refine V_ladd X dX7_digest_136 (n := 137) rfl ?_
      refine V_topl (fun x17 ex17 => ?_)
      have h := bd_at h ex17
      refine V_lstore_n X (L2 := [(1, .long x17), (0, .ref (ρ 0)), (3, .int v3)]) rfl (by decide) rfl dX7_digest_137 (n := 138) rfl ?_
      obtain ⟨x18, ex18⟩ : ∃ z : Int32, z = v3 + (1 : Int32) := ⟨_, rfl⟩
      have h := bd_at h ex18
      refine V_iinc X (q := 2) (d := 1) (L2 := [(3, .int x18), (1, .long x17), (0, .ref (ρ 0))]) rfl (by decide) (by decide) ex18 rfl dX7_digest_138 (n := 141) rfl ?_
      refine V_goto X dX7_digest_141 (tgt := 110) (by decide) ?_
      refine V_loc [2, 1, 0] rfl ?_
      exact ih x17 x18 h
set_option maxRecDepth 100000 in
set_option maxHeartbeats 4000000 in
theorem TX7_digest (l : Launch) (D : va_G) (G : Gc) (ρ : Nat → Nat) (C : Xm) (N : Nm)   (K : Int64 → Prop) (h : fX7_digest C K) : Kl l yX7_digest wsX7_digest rmX7_digest D G ρ [.ref (ρ 0)] C N (fun r C1 N1 => K r ∧ C1 = C ∧ N1 = N) := by
  refine Kl.ofV (cc := cX7_digest) (maxL := 4) (ret := (some .long)) (by decide +kernel) rfl (Nat.le_of_ble_eq_true rfl) ?_
  intro p e s m args below meth c X hr hlk
  show V p l e rmX7_digest s m args below meth c D G ρ (WA ρ s.heap.size) s.heap 4 0 0 (Ql D G ρ s args below (fun r C1 N1 => K r ∧ C1 = C ∧ N1 = N)) 0 [(0, .ref (ρ 0))] [] C N
  unfold fX7_digest at h
  refine V_aload_n X (q := 0) rfl rfl dX7_digest_0 (n := 1) rfl ?_
  refine V_ldc2 X wX7_digest_k164 dX7_digest_1 (n := 4) rfl ?_
  refine V_calll X (As := [.long (1753 : Int64)]) (rest := []) (nA := 1) (i := 0) (q := (RX7, TX7, 9)) (TX7_digestNodes l D G ρ C N (1753 : Int64) _ h) gX7_digest_X7_digestNodes rfl rfl rfl (by decide +kernel) rfl ⟨by decide, by decide⟩ (Nat.le_of_ble_eq_true rfl) ⟨by decide, by decide⟩ (by decide) rfl rfl rfl dX7_digest_4 (n := 7) rfl (fun r1 M1 M0 h => ?_)
  obtain ⟨h, eo, eo2⟩ := h
  rw [eo, eo2]
  refine V_lstore_n X (L2 := [(1, .long r1), (0, .ref (ρ 0))]) rfl (by decide) rfl dX7_digest_7 (n := 8) rfl ?_
  refine V_ldc2 X wX7_digest_k170 dX7_digest_8 (n := 11) rfl ?_
  refine V_lload_n X (q := 0) rfl rfl dX7_digest_11 (n := 12) rfl ?_
  refine V_lmul X dX7_digest_12 (n := 13) rfl ?_
  refine V_aload_n X (q := 1) rfl rfl dX7_digest_13 (n := 14) rfl ?_
  refine V_getR X (by decide) rfl rfl (k := 2) inX7_digest_X7 rfl (by decide) wX7_digest_26 dX7_digest_14 (n := 17) rfl ?_
  refine V_getX X (by decide) rfl rfl (k := 3) inX7_digest_X1 rfl (by decide) wX7_digest_127 dX7_digest_17 (n := 20) rfl ?_
  refine V_i2l X dX7_digest_20 (n := 21) rfl ?_
  refine V_ladd X dX7_digest_21 (n := 22) rfl ?_
  refine V_topl (fun x2 ex2 => ?_)
  have h := bd_at h ex2
  refine V_lstore_n X (L2 := [(1, .long x2), (0, .ref (ρ 0))]) rfl (by decide) rfl dX7_digest_22 (n := 23) rfl ?_
  refine V_aload_n X (q := 1) rfl rfl dX7_digest_23 (n := 24) rfl ?_
  refine V_lload_n X (q := 0) rfl rfl dX7_digest_24 (n := 25) rfl ?_
  refine V_calll X (As := [.long x2]) (rest := []) (nA := 1) (i := 0) (q := (RX7, TX7, 9)) (TX7_digestStreams l D G ρ C N x2 _ h) gX7_digest_X7_digestStreams rfl rfl rfl (by decide +kernel) rfl ⟨by decide, by decide⟩ (Nat.le_of_ble_eq_true rfl) ⟨by decide, by decide⟩ (by decide) rfl rfl rfl dX7_digest_25 (n := 28) rfl (fun r3 M1 M0 h => ?_)
  obtain ⟨h, eo, eo2⟩ := h
  rw [eo, eo2]
  refine V_lstore_n X (L2 := [(1, .long r3), (0, .ref (ρ 0))]) rfl (by decide) rfl dX7_digest_28 (n := 29) rfl ?_
  refine V_iconst X (v := 0) (by decide) dX7_digest_29 (n := 30) rfl ?_
  refine V_istore_n X (L2 := [(3, .int (0 : Int32)), (1, .long r3), (0, .ref (ρ 0))]) rfl (by decide) rfl dX7_digest_30 (n := 31) rfl ?_
  refine jn_o h (fun j8 ej8 h => ?_)
  have kj8 : ∀ (x9 : Int64) (x10 : Int32), j8 x9 x10 → V p l e rmX7_digest s m args below meth c D G ρ (WA ρ s.heap.size) s.heap 4 0 0 (Ql D G ρ s args below (fun r C1 N1 => K r ∧ C1 = C ∧ N1 = N)) 65 [(0, .ref (ρ 0)), (1, .long x9), (3, .int x10)] [] C N := by
    intro x9 x10 h
    rw [ej8] at h
    try dsimp only at h
    refine V_ldc2 X wX7_digest_k170 dX7_digest_65 (n := 68) rfl ?_
    refine V_lload_n X (q := 1) rfl rfl dX7_digest_68 (n := 69) rfl ?_
    refine V_lmul X dX7_digest_69 (n := 70) rfl ?_
    refine V_aload_n X (q := 0) rfl rfl dX7_digest_70 (n := 71) rfl ?_
    refine V_getR X (by decide) rfl rfl (k := 4) inX7_digest_X7 rfl (by decide) wX7_digest_40 dX7_digest_71 (n := 74) rfl ?_
    refine V_aload_n X (q := 0) rfl rfl dX7_digest_74 (n := 75) rfl ?_
    refine V_getR X (by decide) rfl rfl (k := 3) inX7_digest_X7 rfl (by decide) wX7_digest_33 dX7_digest_75 (n := 78) rfl ?_
    refine V_calli X (As := [.ref (ρ 50)]) (rest := [.long ((31 : Int64) * x9)]) (nA := 1) (i := 64) (q := (RX4, TX4, 2)) (TX4_encodedSize l D G ρ C N  _ h) gX7_digest_X4_encodedSize rfl rfl rfl (by decide +kernel) rfl ⟨by decide, by decide⟩ (Nat.le_of_ble_eq_true rfl) ⟨by decide, by decide⟩ (by decide) rfl rfl rfl dX7_digest_78 (n := 81) rfl (fun r11 M1 M0 h => ?_)
    obtain ⟨h, eo, eo2⟩ := h
    rw [eo, eo2]
    refine V_i2l X dX7_digest_81 (n := 82) rfl ?_
    refine V_ladd X dX7_digest_82 (n := 83) rfl ?_
    refine V_topl (fun x12 ex12 => ?_)
    have h := bd_at h ex12
    refine V_lstore_n X (L2 := [(1, .long x12), (0, .ref (ρ 0)), (3, .int x10)]) rfl (by decide) rfl dX7_digest_83 (n := 84) rfl ?_
    refine V_ldc2 X wX7_digest_k170 dX7_digest_84 (n := 87) rfl ?_
    refine V_lload_n X (q := 0) rfl rfl dX7_digest_87 (n := 88) rfl ?_
    refine V_lmul X dX7_digest_88 (n := 89) rfl ?_
    refine V_aload_n X (q := 1) rfl rfl dX7_digest_89 (n := 90) rfl ?_
    refine V_getX X (by decide) rfl rfl (k := 7) inX7_digest_X7 rfl (by decide) wX7_digest_51 dX7_digest_90 (n := 93) rfl ?_
    refine V_i2l X dX7_digest_93 (n := 94) rfl ?_
    refine V_ladd X dX7_digest_94 (n := 95) rfl ?_
    refine V_topl (fun x13 ex13 => ?_)
    have h := bd_at h ex13
    refine V_lstore_n X (L2 := [(1, .long x13), (0, .ref (ρ 0)), (3, .int x10)]) rfl (by decide) rfl dX7_digest_95 (n := 96) rfl ?_
    refine V_ldc2 X wX7_digest_k170 dX7_digest_96 (n := 99) rfl ?_
    refine V_lload_n X (q := 0) rfl rfl dX7_digest_99 (n := 100) rfl ?_
    refine V_lmul X dX7_digest_100 (n := 101) rfl ?_
    refine V_aload_n X (q := 1) rfl rfl dX7_digest_101 (n := 102) rfl ?_
    refine V_getX X (by decide) rfl rfl (k := 8) inX7_digest_X7 rfl (by decide) wX7_digest_54 dX7_digest_102 (n := 105) rfl ?_
    refine V_i2l X dX7_digest_105 (n := 106) rfl ?_
    refine V_ladd X dX7_digest_106 (n := 107) rfl ?_
    refine V_topl (fun x14 ex14 => ?_)
    have h := bd_at h ex14
    refine V_lstore_n X (L2 := [(1, .long x14), (0, .ref (ρ 0)), (3, .int x10)]) rfl (by decide) rfl dX7_digest_107 (n := 108) rfl ?_
    refine V_iconst X (v := 0) (by decide) dX7_digest_108 (n := 109) rfl ?_
    refine V_istore_n X (L2 := [(3, .int (0 : Int32)), (1, .long x14), (0, .ref (ρ 0))]) rfl (by decide) rfl dX7_digest_109 (n := 110) rfl ?_
    refine jn_o h (fun j19 ej19 h => ?_)
    have kj19 : ∀ (x20 : Int64) (x21 : Int32), j19 x20 x21 → V p l e rmX7_digest s m args below meth c D G ρ (WA ρ s.heap.size) s.heap 4 0 0 (Ql D G ρ s args below (fun r C1 N1 => K r ∧ C1 = C ∧ N1 = N)) 144 [(0, .ref (ρ 0)), (1, .long x20), (3, .int x21)] [] C N := by
      intro x20 x21 h
      rw [ej19] at h
      try dsimp only at h
      refine V_ldc2 X wX7_digest_k170 dX7_digest_144 (n := 147) rfl ?_
      refine V_lload_n X (q := 1) rfl rfl dX7_digest_147 (n := 148) rfl ?_
      refine V_lmul X dX7_digest_148 (n := 149) rfl ?_
      refine V_aload_n X (q := 0) rfl rfl dX7_digest_149 (n := 150) rfl ?_
      refine V_getR X (by decide) rfl rfl (k := 0) inX7_digest_X7 rfl (by decide) wX7_digest_10 dX7_digest_150 (n := 153) rfl ?_
      refine V_getX X (by decide) rfl rfl (k := 1) inX7_digest_X0 rfl (by decide) wX7_digest_61 dX7_digest_153 (n := 156) rfl ?_
      refine V_i2l X dX7_digest_156 (n := 157) rfl ?_
      refine V_ladd X dX7_digest_157 (n := 158) rfl ?_
      exact V_lret X hr hlk dX7_digest_158 ⟨h, rfl, rfl⟩
    refine V_loc [2, 1, 0] rfl ?_
    exact TX7_digest_L110 X hr hlk N C (E := j19) (K := K) kj19 200 x14 (0 : Int32) h
  refine V_loc [2, 1, 0] rfl ?_
  exact TX7_digest_L31 X hr hlk N C (E := j8) (K := K) kj8 200 r3 (0 : Int32) h
abbrev rmX8_within : Room := { frames := 0, cells := 0, slots := 0, locals := 0 }
set_option maxRecDepth 100000 in
set_option maxHeartbeats 4000000 in
theorem TX8_within (l : Launch) (D : va_G) (G : Gc) (ρ : Nat → Nat) (C : Xm) (N : Nm)  (a1 : Int32) (a2 : Int32) (a3 : Int32) (K : Int32 → Prop) (h : fX8_within a1 a2 a3 K) : Ki l yX8_within wsX8_within rmX8_within D G ρ [.int a1, .int a2, .int a3] C N (fun r C1 N1 => K r ∧ C1 = C ∧ N1 = N) := by
  refine Ki.ofV (cc := cX8_within) (maxL := 3) (ret := (some .boolean)) (by decide +kernel) rfl (Nat.le_of_ble_eq_true rfl) ?_
  intro p e s m args below meth c X hr hlk
  show V p l e rmX8_within s m args below meth c D G ρ (WA ρ s.heap.size) s.heap 3 0 0 (Qi D G ρ s args below (fun r C1 N1 => K r ∧ C1 = C ∧ N1 = N)) 0 [(0, .int a1), (1, .int a2), (2, .int a3)] [] C N
  unfold fX8_within at h
  refine V_iload_n X (q := 0) rfl rfl dX8_within_0 (n := 1) rfl ?_
  refine V_iload_n X (q := 1) rfl rfl dX8_within_1 (n := 2) rfl ?_
  refine jn_o h (fun j2 ej2 h => ?_)
  have kj2 : ∀ (x5 : Int32), j2 x5 → V p l e rmX8_within s m args below meth c D G ρ (WA ρ s.heap.size) s.heap 3 0 0 (Qi D G ρ s args below (fun r C1 N1 => K r ∧ C1 = C ∧ N1 = N)) 15 [(0, .int a1), (1, .int a2), (2, .int a3)] [.int x5] C N := by
    intro x5 h
    rw [ej2] at h
    try dsimp only at h
    obtain ⟨g6, h⟩ := h
    exact V_zret X hr hlk g6 dX8_within_15 ⟨h, rfl, rfl⟩
  refine jn_o h (fun j1 ej1 h => ?_)
  have kj1 : j1 → V p l e rmX8_within s m args below meth c D G ρ (WA ρ s.heap.size) s.heap 3 0 0 (Qi D G ρ s args below (fun r C1 N1 => K r ∧ C1 = C ∧ N1 = N)) 14 [(0, .int a1), (1, .int a2), (2, .int a3)] [] C N := by
    intro  h
    rw [ej1] at h
    refine V_iconst X (v := 0) (by decide) dX8_within_14 (n := 15) rfl ?_
    exact kj2 (0 : Int32) h
  refine V_icmp_lt X dX8_within_2 (tgt := 14) (n := 5) (by decide) rfl (fun c3 => ?_) (fun c3 => ?_)
  · have h := ite_t h c3
    exact kj1  h
  · have h := ite_f h c3
    refine V_iload_n X (q := 0) rfl rfl dX8_within_5 (n := 6) rfl ?_
    refine V_iload_n X (q := 2) rfl rfl dX8_within_6 (n := 7) rfl ?_
    refine V_icmp_gt X dX8_within_7 (tgt := 14) (n := 10) (by decide) rfl (fun c4 => ?_) (fun c4 => ?_)
    · have h := ite_t h c4
      exact kj1  h
    · have h := ite_f h c4
      refine V_iconst X (v := 1) (by decide) dX8_within_10 (n := 11) rfl ?_
      refine V_goto X dX8_within_11 (tgt := 15) (by decide) ?_
      exact kj2 (1 : Int32) h
abbrev rmX8_append : Room := { frames := 1, cells := 0, slots := 0, locals := 22 }
theorem wX8_append_106 : Cond.fieldLink RX8 106 "FloodBusModel" "bufferLength" "I" ∈ wsX8_append := by decide +kernel
theorem wX8_append_7 : Cond.fieldLink RX8 7 "FloodBusModel" "buffer" "[I" ∈ wsX8_append := by decide +kernel
theorem inX8_append_X8 : ∀ w ∈ wsX80, w ∈ wsX8_append := by decide +kernel
set_option maxRecDepth 100000 in
set_option maxHeartbeats 4000000 in
theorem TX8_append (l : Launch) (D : va_G) (G : Gc) (ρ : Nat → Nat) (C : Xm) (N : Nm)  (a1 : Int32) (K : Int32 → Nm → Prop) (h : fX8_append N a1 K) : Ki l yX8_append wsX8_append rmX8_append D G ρ [.ref (ρ 66), .int a1] C N (fun r C1 N1 => K r N1 ∧ C1 = C) := by
  refine Ki.ofV (cc := cX8_append) (maxL := 2) (ret := (some .int)) (by decide +kernel) rfl (Nat.le_of_ble_eq_true rfl) ?_
  intro p e s m args below meth c X hr hlk
  show V p l e rmX8_append s m args below meth c D G ρ (WA ρ s.heap.size) s.heap 2 0 0 (Qi D G ρ s args below (fun r C1 N1 => K r N1 ∧ C1 = C)) 0 [(0, .ref (ρ 66)), (1, .int a1)] [] C N
  unfold fX8_append at h
  refine V_iload_n X (q := 1) rfl rfl dX8_append_0 (n := 1) rfl ?_
  refine V_bipush X (v := 32) (by decide) dX8_append_1 (n := 3) rfl ?_
  refine V_bipush X (v := 126) (by decide) dX8_append_3 (n := 5) rfl ?_
  refine V_callsi X (As := [.int a1, .int (32 : Int32), .int (126 : Int32)]) (rest := []) (nA := 3) (TX8_within l D G ρ C N a1 (32 : Int32) (126 : Int32) _ h) gX8_append_X8_within rfl rfl rfl (by decide +kernel) rfl ⟨by decide, by decide⟩ (Nat.le_of_ble_eq_true rfl) ⟨by decide, by decide⟩  rfl dX8_append_5 (n := 8) rfl (fun r1 M1 M0 h => ?_)
  obtain ⟨h, eo, eo2⟩ := h
  rw [eo, eo2]
  refine V_if_ne X dX8_append_8 (tgt := 15) (n := 11) (by decide) rfl (fun c2 => ?_) (fun c2 => ?_)
  · have h := ite_f h c2
    refine V_aload_n X (q := 0) rfl rfl dX8_append_15 (n := 16) rfl ?_
    refine V_getN X (by decide) (by decide) rfl rfl (k := 0) inX8_append_X8 rfl (by decide) wX8_append_106 dX8_append_16 (n := 19) rfl ?_
    refine V_bipush X (v := 61) (by decide) dX8_append_19 (n := 21) rfl ?_
    refine V_icmp_ne X dX8_append_21 (tgt := 28) (n := 24) (by decide) rfl (fun c3 => ?_) (fun c3 => ?_)
    · have h := ite_f h c3
      refine V_aload_n X (q := 0) rfl rfl dX8_append_28 (n := 29) rfl ?_
      refine V_getR X (by decide) rfl rfl (k := 1) inX8_append_X8 rfl (by decide) wX8_append_7 dX8_append_29 (n := 32) rfl ?_
      refine V_aload_n X (q := 0) rfl rfl dX8_append_32 (n := 33) rfl ?_
      refine V_getN X (by decide) (by decide) rfl rfl (k := 0) inX8_append_X8 rfl (by decide) wX8_append_106 dX8_append_33 (n := 36) rfl ?_
      refine V_iload_n X (q := 1) rfl rfl dX8_append_36 (n := 37) rfl ?_
      obtain ⟨g4, h⟩ := h
      refine V_istN X (by decide) (by decide) rfl g4 dX8_append_37 (n := 38) rfl (fun N5 eN5 => ?_)
      have h := bd_at h eN5
      refine V_aload_n X (q := 0) rfl rfl dX8_append_38 (n := 39) rfl ?_
      refine V_dup X rfl dX8_append_39 (n := 40) rfl ?_
      refine V_getN X (by decide) (by decide) rfl rfl (k := 0) inX8_append_X8 rfl (by decide) wX8_append_106 dX8_append_40 (n := 43) rfl ?_
      refine V_iconst X (v := 1) (by decide) dX8_append_43 (n := 44) rfl ?_
      refine V_iadd X dX8_append_44 (n := 45) rfl ?_
      refine V_putN X (by decide) (by decide) rfl rfl (k := 0) inX8_append_X8 rfl (by decide) wX8_append_106 tyX8 tyX8_ok nmX8 rfl (by decide +kernel) dX8_append_45 (n := 48) rfl (fun N6 eN6 => ?_)
      have h := bd_at h eN6
      refine V_aload_n X (q := 0) rfl rfl dX8_append_48 (n := 49) rfl ?_
      refine V_getN X (by decide) (by decide) rfl rfl (k := 0) inX8_append_X8 rfl (by decide) wX8_append_106 dX8_append_49 (n := 52) rfl ?_
      exact V_iret X hr hlk dX8_append_52 ⟨h, rfl⟩
    · have h := ite_t h c3
      refine V_sipush X (v := -1004) (by decide) dX8_append_24 (n := 27) rfl ?_
      exact V_iret X hr hlk dX8_append_27 ⟨h, rfl⟩
  · have h := ite_t h c2
    refine V_sipush X (v := -1002) (by decide) dX8_append_11 (n := 14) rfl ?_
    exact V_iret X hr hlk dX8_append_14 ⟨h, rfl⟩
abbrev rmX8_clearBuffer : Room := { frames := 0, cells := 0, slots := 0, locals := 0 }
theorem wX8_clearBuffer_106 : Cond.fieldLink RX8 106 "FloodBusModel" "bufferLength" "I" ∈ wsX8_clearBuffer := by decide +kernel
theorem inX8_clearBuffer_X8 : ∀ w ∈ wsX80, w ∈ wsX8_clearBuffer := by decide +kernel
set_option maxRecDepth 100000 in
set_option maxHeartbeats 4000000 in
theorem TX8_clearBuffer (l : Launch) (D : va_G) (G : Gc) (ρ : Nat → Nat) (C : Xm) (N : Nm)   (K : Int32 → Nm → Prop) (h : fX8_clearBuffer N K) : Ki l yX8_clearBuffer wsX8_clearBuffer rmX8_clearBuffer D G ρ [.ref (ρ 66)] C N (fun r C1 N1 => K r N1 ∧ C1 = C) := by
  refine Ki.ofV (cc := cX8_clearBuffer) (maxL := 2) (ret := (some .int)) (by decide +kernel) rfl (Nat.le_of_ble_eq_true rfl) ?_
  intro p e s m args below meth c X hr hlk
  show V p l e rmX8_clearBuffer s m args below meth c D G ρ (WA ρ s.heap.size) s.heap 2 0 0 (Qi D G ρ s args below (fun r C1 N1 => K r N1 ∧ C1 = C)) 0 [(0, .ref (ρ 66))] [] C N
  unfold fX8_clearBuffer at h
  refine V_aload_n X (q := 0) rfl rfl dX8_clearBuffer_0 (n := 1) rfl ?_
  refine V_getN X (by decide) (by decide) rfl rfl (k := 0) inX8_clearBuffer_X8 rfl (by decide) wX8_clearBuffer_106 dX8_clearBuffer_1 (n := 4) rfl ?_
  refine V_topi (fun x1 ex1 => ?_)
  have h := bd_at h ex1
  refine V_istore_n X (L2 := [(1, .int x1), (0, .ref (ρ 66))]) rfl (by decide) rfl dX8_clearBuffer_4 (n := 5) rfl ?_
  refine V_aload_n X (q := 1) rfl rfl dX8_clearBuffer_5 (n := 6) rfl ?_
  refine V_iconst X (v := 0) (by decide) dX8_clearBuffer_6 (n := 7) rfl ?_
  refine V_putN X (by decide) (by decide) rfl rfl (k := 0) inX8_clearBuffer_X8 rfl (by decide) wX8_clearBuffer_106 tyX8 tyX8_ok nmX8 rfl (by decide +kernel) dX8_clearBuffer_7 (n := 10) rfl (fun N2 eN2 => ?_)
  have h := bd_at h eN2
  refine V_iload_n X (q := 0) rfl rfl dX8_clearBuffer_10 (n := 11) rfl ?_
  exact V_iret X hr hlk dX8_clearBuffer_11 ⟨h, rfl⟩
abbrev rmX8_isJoined : Room := { frames := 0, cells := 0, slots := 0, locals := 0 }
theorem wX8_isJoined_109 : Cond.fieldLink RX8 109 "FloodBusModel" "readLinks" "I" ∈ wsX8_isJoined := by decide +kernel
theorem wX8_isJoined_81 : Cond.fieldLink RX8 81 "FloodBusModel" "readA" "[I" ∈ wsX8_isJoined := by decide +kernel
theorem wX8_isJoined_84 : Cond.fieldLink RX8 84 "FloodBusModel" "readB" "[I" ∈ wsX8_isJoined := by decide +kernel
theorem inX8_isJoined_X8 : ∀ w ∈ wsX80, w ∈ wsX8_isJoined := by decide +kernel
set_option maxRecDepth 100000 in
set_option maxHeartbeats 4000000 in
theorem TX8_isJoined_L5 {p : Program} {l : Launch} {e : Env} {s : State} {m : MethodId} {args : Array Value} {below : List Frame} {meth : Method} {c : Code} {D : va_G} {G : Gc} {ρ : Nat → Nat} (X : Cx p s m args c cX8_isJoined 5 RX8 wsX8_isJoined D G ρ (WA ρ s.heap.size) s.heap) (hr : meth.sig.returnType = some .boolean) (hlk : meth.locks = false) (C : Xm) (N : Nm) (p1 : Int32) (p2 : Int32)  {E : Int32 → Int32 → Prop} {K : Int32 → Prop} (hE : ∀ (v3 : Int32) (v4 : Int32), E v3 v4 → V p l e rmX8_isJoined s m args below meth c D G ρ (WA ρ s.heap.size) s.heap 5 0 0 (Qi D G ρ s args below (fun r C1 N1 => K r ∧ C1 = C ∧ N1 = N)) 52 [(0, .ref (ρ 66)), (1, .int p1), (2, .int p2), (3, .int v3), (4, .int v4)] [] C N) : ∀ (n : Nat) (v3 : Int32) (v4 : Int32), fX8_isJoined_L5 N p1 p2 E K n v3 v4 → V p l e rmX8_isJoined s m args below meth c D G ρ (WA ρ s.heap.size) s.heap 5 0 0 (Qi D G ρ s args below (fun r C1 N1 => K r ∧ C1 = C ∧ N1 = N)) 5 [(0, .ref (ρ 66)), (1, .int p1), (2, .int p2), (3, .int v3), (4, .int v4)] [] C N := by
  intro n
  induction n with
  | zero => intro v3 v4 h; exact h.elim
  | succ n ih =>
    intro v3 v4 h
    unfold fX8_isJoined_L5 at h
    refine V_iload X (q := 4) rfl dX8_isJoined_5 (n := 7) rfl ?_
    refine V_aload_n X (q := 0) rfl rfl dX8_isJoined_7 (n := 8) rfl ?_
    refine V_getN X (by decide) (by decide) rfl rfl (k := 31) inX8_isJoined_X8 rfl (by decide) wX8_isJoined_109 dX8_isJoined_8 (n := 11) rfl ?_
    refine V_icmp_ge X dX8_isJoined_11 (tgt := 52) (n := 14) (by decide) rfl (fun c1 => ?_) (fun c1 => ?_)
    · have h := ite_t h c1
      exact hE v3 v4 h
    · have h := ite_f h c1
      refine V_iload_n X (q := 3) rfl rfl dX8_isJoined_14 (n := 15) rfl ?_
      refine jn_o h (fun j3 ej3 h => ?_)
      have kj3 : ∀ (x10 : Int32), j3 x10 → V p l e rmX8_isJoined s m args below meth c D G ρ (WA ρ s.heap.size) s.heap 5 0 0 (Qi D G ρ s args below (fun r C1 N1 => K r ∧ C1 = C ∧ N1 = N)) 45 [(0, .ref (ρ 66)), (1, .int p1), (2, .int p2), (3, .int v3), (4, .int v4)] [.int x10] C N := by
        intro x10 h
        rw [ej3] at h
        try dsimp only at h
        refine V_istore_n X (L2 := [(3, .int x10), (0, .ref (ρ 66)), (1, .int p1), (2, .int p2), (4, .int v4)]) rfl (by decide) rfl dX8_isJoined_45 (n := 46) rfl ?_
        obtain ⟨x11, ex11⟩ : ∃ z : Int32, z = v4 + (1 : Int32) := ⟨_, rfl⟩
        have h := bd_at h ex11
        refine V_iinc X (q := 4) (d := 1) (L2 := [(4, .int x11), (3, .int x10), (0, .ref (ρ 66)), (1, .int p1), (2, .int p2)]) rfl (by decide) (by decide) ex11 rfl dX8_isJoined_46 (n := 49) rfl ?_
        refine V_goto X dX8_isJoined_49 (tgt := 5) (by decide) ?_
        refine V_loc [2, 3, 4, 1, 0] rfl ?_
        exact ih x10 x11 h
      refine jn_o h (fun j2 ej2 h => ?_)
      have kj2 : j2 → V p l e rmX8_isJoined s m args below meth c D G ρ (WA ρ s.heap.size) s.heap 5 0 0 (Qi D G ρ s args below (fun r C1 N1 => K r ∧ C1 = C ∧ N1 = N)) 40 [(0, .ref (ρ 66)), (1, .int p1), (2, .int p2), (3, .int v3), (4, .int v4)] [] C N := by
        intro  h
        rw [ej2] at h
        refine V_iconst X (v := 1) (by decide) dX8_isJoined_40 (n := 41) rfl ?_
        refine V_goto X dX8_isJoined_41 (tgt := 45) (by decide) ?_
        exact kj3 (1 : Int32) h
      refine V_if_ne X dX8_isJoined_15 (tgt := 40) (n := 18) (by decide) rfl (fun c4 => ?_) (fun c4 => ?_)
      · have h := ite_f h c4
        exact kj2  h
      · have h := ite_t h c4
        refine V_aload_n X (q := 0) rfl rfl dX8_isJoined_18 (n := 19) rfl ?_
        refine V_getR X (by decide) rfl rfl (k := 32) inX8_isJoined_X8 rfl (by decide) wX8_isJoined_81 dX8_isJoined_19 (n := 22) rfl ?_
        refine V_iload X (q := 4) rfl dX8_isJoined_22 (n := 24) rfl ?_
        obtain ⟨g5, h⟩ := h
        refine V_ildN X (by decide) (by decide) rfl g5 dX8_isJoined_24 (n := 25) rfl ?_
        refine V_iload_n X (q := 1) rfl rfl dX8_isJoined_25 (n := 26) rfl ?_
        refine jn_o h (fun j6 ej6 h => ?_)
        have kj6 : j6 → V p l e rmX8_isJoined s m args below meth c D G ρ (WA ρ s.heap.size) s.heap 5 0 0 (Qi D G ρ s args below (fun r C1 N1 => K r ∧ C1 = C ∧ N1 = N)) 44 [(0, .ref (ρ 66)), (1, .int p1), (2, .int p2), (3, .int v3), (4, .int v4)] [] C N := by
          intro  h
          rw [ej6] at h
          refine V_iconst X (v := 0) (by decide) dX8_isJoined_44 (n := 45) rfl ?_
          exact kj3 (0 : Int32) h
        refine V_icmp_ne X dX8_isJoined_26 (tgt := 44) (n := 29) (by decide) rfl (fun c7 => ?_) (fun c7 => ?_)
        · have h := ite_f h c7
          exact kj6  h
        · have h := ite_t h c7
          refine V_aload_n X (q := 0) rfl rfl dX8_isJoined_29 (n := 30) rfl ?_
          refine V_getR X (by decide) rfl rfl (k := 33) inX8_isJoined_X8 rfl (by decide) wX8_isJoined_84 dX8_isJoined_30 (n := 33) rfl ?_
          refine V_iload X (q := 4) rfl dX8_isJoined_33 (n := 35) rfl ?_
          obtain ⟨g8, h⟩ := h
          refine V_ildN X (by decide) (by decide) rfl g8 dX8_isJoined_35 (n := 36) rfl ?_
          refine V_iload_n X (q := 2) rfl rfl dX8_isJoined_36 (n := 37) rfl ?_
          refine V_icmp_ne X dX8_isJoined_37 (tgt := 44) (n := 40) (by decide) rfl (fun c9 => ?_) (fun c9 => ?_)
          · have h := ite_f h c9
            exact kj6  h
          · have h := ite_t h c9
            exact kj2  h
set_option maxRecDepth 100000 in
set_option maxHeartbeats 4000000 in
theorem TX8_isJoined (l : Launch) (D : va_G) (G : Gc) (ρ : Nat → Nat) (C : Xm) (N : Nm)  (a1 : Int32) (a2 : Int32) (K : Int32 → Prop) (h : fX8_isJoined N a1 a2 K) : Ki l yX8_isJoined wsX8_isJoined rmX8_isJoined D G ρ [.ref (ρ 66), .int a1, .int a2] C N (fun r C1 N1 => K r ∧ C1 = C ∧ N1 = N) := by
  refine Ki.ofV (cc := cX8_isJoined) (maxL := 5) (ret := (some .boolean)) (by decide +kernel) rfl (Nat.le_of_ble_eq_true rfl) ?_
  intro p e s m args below meth c X hr hlk
  show V p l e rmX8_isJoined s m args below meth c D G ρ (WA ρ s.heap.size) s.heap 5 0 0 (Qi D G ρ s args below (fun r C1 N1 => K r ∧ C1 = C ∧ N1 = N)) 0 [(0, .ref (ρ 66)), (1, .int a1), (2, .int a2)] [] C N
  unfold fX8_isJoined at h
  refine V_iconst X (v := 0) (by decide) dX8_isJoined_0 (n := 1) rfl ?_
  refine V_istore_n X (L2 := [(3, .int (0 : Int32)), (0, .ref (ρ 66)), (1, .int a1), (2, .int a2)]) rfl (by decide) rfl dX8_isJoined_1 (n := 2) rfl ?_
  refine V_iconst X (v := 0) (by decide) dX8_isJoined_2 (n := 3) rfl ?_
  refine V_istore X (L2 := [(4, .int (0 : Int32)), (3, .int (0 : Int32)), (0, .ref (ρ 66)), (1, .int a1), (2, .int a2)]) (by decide) rfl dX8_isJoined_3 (n := 5) rfl ?_
  refine jn_o h (fun j12 ej12 h => ?_)
  have kj12 : ∀ (x13 : Int32) (x14 : Int32), j12 x13 x14 → V p l e rmX8_isJoined s m args below meth c D G ρ (WA ρ s.heap.size) s.heap 5 0 0 (Qi D G ρ s args below (fun r C1 N1 => K r ∧ C1 = C ∧ N1 = N)) 52 [(0, .ref (ρ 66)), (1, .int a1), (2, .int a2), (3, .int x13), (4, .int x14)] [] C N := by
    intro x13 x14 h
    rw [ej12] at h
    try dsimp only at h
    refine V_iload_n X (q := 3) rfl rfl dX8_isJoined_52 (n := 53) rfl ?_
    obtain ⟨g15, h⟩ := h
    exact V_zret X hr hlk g15 dX8_isJoined_53 ⟨h, rfl, rfl⟩
  refine V_loc [2, 3, 4, 1, 0] rfl ?_
  exact TX8_isJoined_L5 X hr hlk C N a1 a2 (E := j12) (K := K) kj12 200 (0 : Int32) (0 : Int32) h
abbrev rmX8_parse : Room := { frames := 1, cells := 0, slots := 0, locals := 24 }
theorem wX8_parse_112 : Cond.fieldLink RX8 112 "FloodBusModel" "readNodes" "I" ∈ wsX8_parse := by decide +kernel
theorem wX8_parse_109 : Cond.fieldLink RX8 109 "FloodBusModel" "readLinks" "I" ∈ wsX8_parse := by decide +kernel
theorem wX8_parse_115 : Cond.fieldLink RX8 115 "FloodBusModel" "errorAt" "I" ∈ wsX8_parse := by decide +kernel
theorem wX8_parse_106 : Cond.fieldLink RX8 106 "FloodBusModel" "bufferLength" "I" ∈ wsX8_parse := by decide +kernel
theorem wX8_parse_7 : Cond.fieldLink RX8 7 "FloodBusModel" "buffer" "[I" ∈ wsX8_parse := by decide +kernel
theorem wX8_parse_81 : Cond.fieldLink RX8 81 "FloodBusModel" "readA" "[I" ∈ wsX8_parse := by decide +kernel
theorem wX8_parse_84 : Cond.fieldLink RX8 84 "FloodBusModel" "readB" "[I" ∈ wsX8_parse := by decide +kernel
theorem wX8_parse_87 : Cond.fieldLink RX8 87 "FloodBusModel" "readStrength" "[I" ∈ wsX8_parse := by decide +kernel
theorem wX8_parse_90 : Cond.fieldLink RX8 90 "FloodBusModel" "readLoss" "[I" ∈ wsX8_parse := by decide +kernel
theorem wX8_parse_122 : Cond.fieldLink RX8 122 "FloodBusModel" "isComplete" "Z" ∈ wsX8_parse := by decide +kernel
theorem inX8_parse_X8 : ∀ w ∈ wsX80, w ∈ wsX8_parse := by decide +kernel
set_option maxRecDepth 100000 in
set_option maxHeartbeats 4000000 in
theorem TX8_parse_L24 {p : Program} {l : Launch} {e : Env} {s : State} {m : MethodId} {args : Array Value} {below : List Frame} {meth : Method} {c : Code} {D : va_G} {G : Gc} {ρ : Nat → Nat} (X : Cx p s m args c cX8_parse 7 RX8 wsX8_parse D G ρ (WA ρ s.heap.size) s.heap) (hr : meth.sig.returnType = none) (hlk : meth.locks = false) (C : Xm)   {E : Int32 → Int32 → Int32 → Int32 → Nm → Prop} {K : Nm → Prop} (hE : ∀ (v1 : Int32) (v2 : Int32) (v3 : Int32) (v4 : Int32) (N : Nm), E v1 v2 v3 v4 N → V p l e rmX8_parse s m args below meth c D G ρ (WA ρ s.heap.size) s.heap 7 0 0 (Qv D G ρ s args below (fun C1 N1 => K N1 ∧ C1 = C)) 347 [(0, .ref (ρ 66)), (1, .int v1), (2, .int v2), (3, .int v3), (4, .int v4)] [] C N) : ∀ (n : Nat) (v1 : Int32) (v2 : Int32) (v3 : Int32) (v4 : Int32) (N : Nm), fX8_parse_L24  E K n v1 v2 v3 v4 N → V p l e rmX8_parse s m args below meth c D G ρ (WA ρ s.heap.size) s.heap 7 0 0 (Qv D G ρ s args below (fun C1 N1 => K N1 ∧ C1 = C)) 24 [(0, .ref (ρ 66)), (1, .int v1), (2, .int v2), (3, .int v3), (4, .int v4)] [] C N := by
  intro n
  induction n with
  | zero => intro v1 v2 v3 v4 N h; exact h.elim
  | succ n ih =>
    intro v1 v2 v3 v4 N h
    unfold fX8_parse_L24 at h
    refine V_iload X (q := 4) rfl dX8_parse_24 (n := 26) rfl ?_
    refine V_if_eq X dX8_parse_26 (tgt := 347) (n := 29) (by decide) rfl (fun c4 => ?_) (fun c4 => ?_)
    · have h := ite_t h c4
      exact hE v1 v2 v3 v4 N h
    · have h := ite_f h c4
      refine V_aload_n X (q := 0) rfl rfl dX8_parse_29 (n := 30) rfl ?_
      refine V_getN X (by decide) (by decide) rfl rfl (k := 36) inX8_parse_X8 rfl (by decide) wX8_parse_115 dX8_parse_30 (n := 33) rfl ?_
      refine V_aload_n X (q := 0) rfl rfl dX8_parse_33 (n := 34) rfl ?_
      refine V_getN X (by decide) (by decide) rfl rfl (k := 0) inX8_parse_X8 rfl (by decide) wX8_parse_106 dX8_parse_34 (n := 37) rfl ?_
      refine V_icmp_ge X dX8_parse_37 (tgt := 347) (n := 40) (by decide) rfl (fun c5 => ?_) (fun c5 => ?_)
      · have h := ite_t h c5
        exact hE v1 v2 v3 v4 N h
      · have h := ite_f h c5
        refine V_aload_n X (q := 0) rfl rfl dX8_parse_40 (n := 41) rfl ?_
        refine V_getR X (by decide) rfl rfl (k := 1) inX8_parse_X8 rfl (by decide) wX8_parse_7 dX8_parse_41 (n := 44) rfl ?_
        refine V_aload_n X (q := 0) rfl rfl dX8_parse_44 (n := 45) rfl ?_
        refine V_getN X (by decide) (by decide) rfl rfl (k := 36) inX8_parse_X8 rfl (by decide) wX8_parse_115 dX8_parse_45 (n := 48) rfl ?_
        obtain ⟨g6, h⟩ := h
        refine V_ildN X (by decide) (by decide) rfl g6 dX8_parse_48 (n := 49) rfl ?_
        refine V_topi (fun x7 ex7 => ?_)
        have h := bd_at h ex7
        refine V_istore X (L2 := [(5, .int x7), (0, .ref (ρ 66)), (1, .int v1), (2, .int v2), (3, .int v3), (4, .int v4)]) (by decide) rfl dX8_parse_49 (n := 51) rfl ?_
        refine V_iload X (q := 0) rfl dX8_parse_51 (n := 53) rfl ?_
        refine V_bipush X (v := 48) (by decide) dX8_parse_53 (n := 55) rfl ?_
        refine V_bipush X (v := 57) (by decide) dX8_parse_55 (n := 57) rfl ?_
        refine V_callsi X (As := [.int x7, .int (48 : Int32), .int (57 : Int32)]) (rest := []) (nA := 3) (TX8_within l D G ρ C N x7 (48 : Int32) (57 : Int32) _ h) gX8_parse_X8_within rfl rfl rfl (by decide +kernel) rfl ⟨by decide, by decide⟩ (Nat.le_of_ble_eq_true rfl) ⟨by decide, by decide⟩  rfl dX8_parse_57 (n := 60) rfl (fun r8 M1 M0 h => ?_)
        obtain ⟨h, eo, eo2⟩ := h
        rw [eo, eo2]
        refine jn_o h (fun j9 ej9 h => ?_)
        have kj9 : ∀ (x11 : Int32), j9 x11 → V p l e rmX8_parse s m args below meth c D G ρ (WA ρ s.heap.size) s.heap 7 0 0 (Qv D G ρ s args below (fun C1 N1 => K N1 ∧ C1 = C)) 72 [(0, .ref (ρ 66)), (1, .int v1), (2, .int v2), (3, .int v3), (4, .int v4), (5, .int x7)] [.int x11] C N := by
          intro x11 h
          rw [ej9] at h
          try dsimp only at h
          refine V_istore X (L2 := [(6, .int x11), (0, .ref (ρ 66)), (1, .int v1), (2, .int v2), (3, .int v3), (4, .int v4), (5, .int x7)]) (by decide) rfl dX8_parse_72 (n := 74) rfl ?_
          refine V_iload_n X (q := 2) rfl rfl dX8_parse_74 (n := 75) rfl ?_
          refine jn_o h (fun j12 ej12 h => ?_)
          have kj12 : ∀ (x57 : Int32) (x58 : Int32) (x59 : Int32) (x60 : Int32) (N61 : Nm), j12 x57 x58 x59 x60 N61 → V p l e rmX8_parse s m args below meth c D G ρ (WA ρ s.heap.size) s.heap 7 0 0 (Qv D G ρ s args below (fun C1 N1 => K N1 ∧ C1 = C)) 325 [(0, .ref (ρ 66)), (1, .int x57), (2, .int x58), (3, .int x59), (4, .int x60), (5, .int x7), (6, .int x11)] [] C N61 := by
            intro x57 x58 x59 x60 N61 h
            rw [ej12] at h
            try dsimp only at h
            refine V_aload_n X (q := 0) rfl rfl dX8_parse_325 (n := 326) rfl ?_
            refine V_dup X rfl dX8_parse_326 (n := 327) rfl ?_
            refine V_getN X (by decide) (by decide) rfl rfl (k := 36) inX8_parse_X8 rfl (by decide) wX8_parse_115 dX8_parse_327 (n := 330) rfl ?_
            refine V_iload X (q := 4) rfl dX8_parse_330 (n := 332) rfl ?_
            refine jn_o h (fun j62 ej62 h => ?_)
            have kj62 : ∀ (x64 : Int32), j62 x64 → V p l e rmX8_parse s m args below meth c D G ρ (WA ρ s.heap.size) s.heap 7 0 0 (Qv D G ρ s args below (fun C1 N1 => K N1 ∧ C1 = C)) 340 [(0, .ref (ρ 66)), (1, .int x57), (2, .int x58), (3, .int x59), (4, .int x60), (5, .int x7), (6, .int x11)] [.int x64, .int (N61.1 66 36), .ref (ρ 66)] C N61 := by
              intro x64 h
              rw [ej62] at h
              try dsimp only at h
              refine V_iadd X dX8_parse_340 (n := 341) rfl ?_
              refine V_putN X (by decide) (by decide) rfl rfl (k := 36) inX8_parse_X8 rfl (by decide) wX8_parse_115 tyX8 tyX8_ok nmX8 rfl (by decide +kernel) dX8_parse_341 (n := 344) rfl (fun N65 eN65 => ?_)
              have h := bd_at h eN65
              refine V_goto X dX8_parse_344 (tgt := 24) (by decide) ?_
              refine V_loc [0, 1, 2, 3, 4] rfl ?_
              exact ih x57 x58 x59 x60 N65 h
            refine V_if_eq X dX8_parse_332 (tgt := 339) (n := 335) (by decide) rfl (fun c63 => ?_) (fun c63 => ?_)
            · have h := ite_t h c63
              refine V_iconst X (v := 0) (by decide) dX8_parse_339 (n := 340) rfl ?_
              exact kj62 (0 : Int32) h
            · have h := ite_f h c63
              refine V_iconst X (v := 1) (by decide) dX8_parse_335 (n := 336) rfl ?_
              refine V_goto X dX8_parse_336 (tgt := 340) (by decide) ?_
              exact kj62 (1 : Int32) h
          by_cases c13 : v1 = 0
          · have h := ite_t h c13
            refine V_tableAt X c13 dX8_parse_75 (by decide) (by decide) rfl (tgt := 108) (by decide) ?_
            refine V_iload X (q := 0) rfl dX8_parse_108 (n := 110) rfl ?_
            refine V_iconst X (v := 2) (by decide) dX8_parse_110 (n := 111) rfl ?_
            refine V_bipush X (v := 8) (by decide) dX8_parse_111 (n := 113) rfl ?_
            refine V_callsi X (As := [.int x11, .int (2 : Int32), .int (8 : Int32)]) (rest := []) (nA := 3) (TX8_within l D G ρ C N x11 (2 : Int32) (8 : Int32) _ h) gX8_parse_X8_within rfl rfl rfl (by decide +kernel) rfl ⟨by decide, by decide⟩ (Nat.le_of_ble_eq_true rfl) ⟨by decide, by decide⟩  rfl dX8_parse_113 (n := 116) rfl (fun r18 M1 M0 h => ?_)
            obtain ⟨h, eo, eo2⟩ := h
            rw [eo, eo2]
            refine V_istore X (L2 := [(4, .int r18), (6, .int x11), (0, .ref (ρ 66)), (1, .int v1), (2, .int v2), (3, .int v3), (5, .int x7)]) (by decide) rfl dX8_parse_116 (n := 118) rfl ?_
            refine V_aload_n X (q := 2) rfl rfl dX8_parse_118 (n := 119) rfl ?_
            refine V_iload X (q := 1) rfl dX8_parse_119 (n := 121) rfl ?_
            refine V_putN X (by decide) (by decide) rfl rfl (k := 30) inX8_parse_X8 rfl (by decide) wX8_parse_112 tyX8 tyX8_ok nmX8 rfl (by decide +kernel) dX8_parse_121 (n := 124) rfl (fun N19 eN19 => ?_)
            have h := bd_at h eN19
            refine V_iconst X (v := 1) (by decide) dX8_parse_124 (n := 125) rfl ?_
            refine V_istore_n X (L2 := [(1, .int (1 : Int32)), (4, .int r18), (6, .int x11), (0, .ref (ρ 66)), (2, .int v2), (3, .int v3), (5, .int x7)]) rfl (by decide) rfl dX8_parse_125 (n := 126) rfl ?_
            refine V_goto X dX8_parse_126 (tgt := 325) (by decide) ?_
            refine V_loc [3, 0, 4, 5, 1, 6, 2] rfl ?_
            exact kj12 (1 : Int32) v2 v3 r18 N19 h
          · have h := ite_f h c13
            by_cases c15 : v1 = 2
            · have h := ite_t h c15
              refine V_tableAt X c15 dX8_parse_75 (by decide) (by decide) rfl (tgt := 129) (by decide) ?_
              refine V_iload X (q := 0) rfl dX8_parse_129 (n := 131) rfl ?_
              refine jn_o h (fun j21 ej21 h => ?_)
              have kj21 : ∀ (x24 : Int32), j21 x24 → V p l e rmX8_parse s m args below meth c D G ρ (WA ρ s.heap.size) s.heap 7 0 0 (Qv D G ρ s args below (fun C1 N1 => K N1 ∧ C1 = C)) 148 [(0, .ref (ρ 66)), (1, .int v1), (2, .int v2), (3, .int v3), (4, .int v4), (5, .int x7), (6, .int x11)] [.int x24] C N := by
                intro x24 h
                rw [ej21] at h
                try dsimp only at h
                refine V_istore X (L2 := [(4, .int x24), (0, .ref (ρ 66)), (1, .int v1), (2, .int v2), (3, .int v3), (5, .int x7), (6, .int x11)]) (by decide) rfl dX8_parse_148 (n := 150) rfl ?_
                refine V_iload X (q := 6) rfl dX8_parse_150 (n := 152) rfl ?_
                refine V_istore_n X (L2 := [(2, .int x11), (4, .int x24), (0, .ref (ρ 66)), (1, .int v1), (3, .int v3), (5, .int x7), (6, .int x11)]) rfl (by decide) rfl dX8_parse_152 (n := 153) rfl ?_
                refine V_iconst X (v := 3) (by decide) dX8_parse_153 (n := 154) rfl ?_
                refine V_istore_n X (L2 := [(1, .int (3 : Int32)), (2, .int x11), (4, .int x24), (0, .ref (ρ 66)), (3, .int v3), (5, .int x7), (6, .int x11)]) rfl (by decide) rfl dX8_parse_154 (n := 155) rfl ?_
                refine V_goto X dX8_parse_155 (tgt := 325) (by decide) ?_
                refine V_loc [3, 0, 1, 4, 2, 5, 6] rfl ?_
                exact kj12 (3 : Int32) x11 v3 x24 N h
              refine jn_o h (fun j20 ej20 h => ?_)
              have kj20 : j20 → V p l e rmX8_parse s m args below meth c D G ρ (WA ρ s.heap.size) s.heap 7 0 0 (Qv D G ρ s args below (fun C1 N1 => K N1 ∧ C1 = C)) 147 [(0, .ref (ρ 66)), (1, .int v1), (2, .int v2), (3, .int v3), (4, .int v4), (5, .int x7), (6, .int x11)] [] C N := by
                intro  h
                rw [ej20] at h
                refine V_iconst X (v := 0) (by decide) dX8_parse_147 (n := 148) rfl ?_
                exact kj21 (0 : Int32) h
              refine V_if_lt X dX8_parse_131 (tgt := 147) (n := 134) (by decide) rfl (fun c22 => ?_) (fun c22 => ?_)
              · have h := ite_t h c22
                refine V_loc [1, 2, 3, 4, 5, 6, 0] rfl ?_
                exact kj20  h
              · have h := ite_f h c22
                refine V_iload X (q := 0) rfl dX8_parse_134 (n := 136) rfl ?_
                refine V_aload_n X (q := 1) rfl rfl dX8_parse_136 (n := 137) rfl ?_
                refine V_getN X (by decide) (by decide) rfl rfl (k := 30) inX8_parse_X8 rfl (by decide) wX8_parse_112 dX8_parse_137 (n := 140) rfl ?_
                refine V_icmp_ge X dX8_parse_140 (tgt := 147) (n := 143) (by decide) rfl (fun c23 => ?_) (fun c23 => ?_)
                · have h := ite_t h c23
                  refine V_loc [1, 2, 3, 4, 5, 6, 0] rfl ?_
                  exact kj20  h
                · have h := ite_f h c23
                  refine V_iconst X (v := 1) (by decide) dX8_parse_143 (n := 144) rfl ?_
                  refine V_goto X dX8_parse_144 (tgt := 148) (by decide) ?_
                  refine V_loc [1, 2, 3, 4, 5, 6, 0] rfl ?_
                  exact kj21 (1 : Int32) h
            · have h := ite_f h c15
              by_cases c16 : v1 = 3
              · have h := ite_t h c16
                refine V_tableAt X c16 dX8_parse_75 (by decide) (by decide) rfl (tgt := 158) (by decide) ?_
                refine V_iload X (q := 0) rfl dX8_parse_158 (n := 160) rfl ?_
                refine V_iload_n X (q := 3) rfl rfl dX8_parse_160 (n := 161) rfl ?_
                refine jn_o h (fun j26 ej26 h => ?_)
                have kj26 : ∀ (x31 : Int32), j26 x31 → V p l e rmX8_parse s m args below meth c D G ρ (WA ρ s.heap.size) s.heap 7 0 0 (Qv D G ρ s args below (fun C1 N1 => K N1 ∧ C1 = C)) 188 [(0, .ref (ρ 66)), (1, .int v1), (2, .int v2), (3, .int v3), (4, .int v4), (5, .int x7), (6, .int x11)] [.int x31] C N := by
                  intro x31 h
                  rw [ej26] at h
                  try dsimp only at h
                  refine V_istore X (L2 := [(4, .int x31), (0, .ref (ρ 66)), (1, .int v1), (2, .int v2), (3, .int v3), (5, .int x7), (6, .int x11)]) (by decide) rfl dX8_parse_188 (n := 190) rfl ?_
                  refine V_iload X (q := 6) rfl dX8_parse_190 (n := 192) rfl ?_
                  refine V_istore_n X (L2 := [(3, .int x11), (4, .int x31), (0, .ref (ρ 66)), (1, .int v1), (2, .int v2), (5, .int x7), (6, .int x11)]) rfl (by decide) rfl dX8_parse_192 (n := 193) rfl ?_
                  refine V_iconst X (v := 4) (by decide) dX8_parse_193 (n := 194) rfl ?_
                  refine V_istore_n X (L2 := [(1, .int (4 : Int32)), (3, .int x11), (4, .int x31), (0, .ref (ρ 66)), (2, .int v2), (5, .int x7), (6, .int x11)]) rfl (by decide) rfl dX8_parse_194 (n := 195) rfl ?_
                  refine V_goto X dX8_parse_195 (tgt := 325) (by decide) ?_
                  refine V_loc [3, 0, 4, 1, 2, 5, 6] rfl ?_
                  exact kj12 (4 : Int32) v2 x11 x31 N h
                refine jn_o h (fun j25 ej25 h => ?_)
                have kj25 : j25 → V p l e rmX8_parse s m args below meth c D G ρ (WA ρ s.heap.size) s.heap 7 0 0 (Qv D G ρ s args below (fun C1 N1 => K N1 ∧ C1 = C)) 187 [(0, .ref (ρ 66)), (1, .int v1), (2, .int v2), (3, .int v3), (4, .int v4), (5, .int x7), (6, .int x11)] [] C N := by
                  intro  h
                  rw [ej25] at h
                  refine V_iconst X (v := 0) (by decide) dX8_parse_187 (n := 188) rfl ?_
                  exact kj26 (0 : Int32) h
                refine V_icmp_le X dX8_parse_161 (tgt := 187) (n := 164) (by decide) rfl (fun c27 => ?_) (fun c27 => ?_)
                · have h := ite_t h c27
                  refine V_loc [1, 2, 3, 4, 5, 6, 0] rfl ?_
                  exact kj25  h
                · have h := ite_f h c27
                  refine V_iload X (q := 0) rfl dX8_parse_164 (n := 166) rfl ?_
                  refine V_aload_n X (q := 1) rfl rfl dX8_parse_166 (n := 167) rfl ?_
                  refine V_getN X (by decide) (by decide) rfl rfl (k := 30) inX8_parse_X8 rfl (by decide) wX8_parse_112 dX8_parse_167 (n := 170) rfl ?_
                  refine V_icmp_ge X dX8_parse_170 (tgt := 187) (n := 173) (by decide) rfl (fun c28 => ?_) (fun c28 => ?_)
                  · have h := ite_t h c28
                    refine V_loc [1, 2, 3, 4, 5, 6, 0] rfl ?_
                    exact kj25  h
                  · have h := ite_f h c28
                    refine V_aload_n X (q := 1) rfl rfl dX8_parse_173 (n := 174) rfl ?_
                    refine V_iload_n X (q := 3) rfl rfl dX8_parse_174 (n := 175) rfl ?_
                    refine V_iload X (q := 0) rfl dX8_parse_175 (n := 177) rfl ?_
                    refine V_calli X (As := [.int v2, .int x11]) (rest := []) (nA := 2) (i := 66) (q := (RX8, TX8, 42)) (TX8_isJoined l D G ρ C N v2 x11 _ h) gX8_parse_X8_isJoined rfl rfl rfl (by decide +kernel) rfl ⟨by decide, by decide⟩ (Nat.le_of_ble_eq_true rfl) ⟨by decide, by decide⟩ (by decide) rfl rfl rfl dX8_parse_177 (n := 180) rfl (fun r29 M1 M0 h => ?_)
                    obtain ⟨h, eo, eo2⟩ := h
                    rw [eo, eo2]
                    refine V_if_ne X dX8_parse_180 (tgt := 187) (n := 183) (by decide) rfl (fun c30 => ?_) (fun c30 => ?_)
                    · have h := ite_f h c30
                      refine V_loc [1, 2, 3, 4, 5, 6, 0] rfl ?_
                      exact kj25  h
                    · have h := ite_t h c30
                      refine V_iconst X (v := 1) (by decide) dX8_parse_183 (n := 184) rfl ?_
                      refine V_goto X dX8_parse_184 (tgt := 188) (by decide) ?_
                      refine V_loc [1, 2, 3, 4, 5, 6, 0] rfl ?_
                      exact kj26 (1 : Int32) h
              · have h := ite_f h c16
                by_cases c17 : v1 = 4
                · have h := ite_t h c17
                  refine V_tableAt X c17 dX8_parse_75 (by decide) (by decide) rfl (tgt := 198) (by decide) ?_
                  refine V_iload X (q := 0) rfl dX8_parse_198 (n := 200) rfl ?_
                  refine jn_o h (fun j32 ej32 h => ?_)
                  have kj32 : ∀ (x34 : Int32), j32 x34 → V p l e rmX8_parse s m args below meth c D G ρ (WA ρ s.heap.size) s.heap 7 0 0 (Qv D G ρ s args below (fun C1 N1 => K N1 ∧ C1 = C)) 208 [(0, .ref (ρ 66)), (1, .int v1), (2, .int v2), (3, .int v3), (4, .int v4), (5, .int x7), (6, .int x11)] [.int x34] C N := by
                    intro x34 h
                    rw [ej32] at h
                    try dsimp only at h
                    refine V_istore X (L2 := [(4, .int x34), (0, .ref (ρ 66)), (1, .int v1), (2, .int v2), (3, .int v3), (5, .int x7), (6, .int x11)]) (by decide) rfl dX8_parse_208 (n := 210) rfl ?_
                    refine V_iload X (q := 0) rfl dX8_parse_210 (n := 212) rfl ?_
                    refine jn_o h (fun j35 ej35 h => ?_)
                    have kj35 : ∀ (N46 : Nm), j35 N46 → V p l e rmX8_parse s m args below meth c D G ρ (WA ρ s.heap.size) s.heap 7 0 0 (Qv D G ρ s args below (fun C1 N1 => K N1 ∧ C1 = C)) 266 [(0, .ref (ρ 66)), (1, .int v1), (2, .int v2), (3, .int v3), (4, .int x34), (5, .int x7), (6, .int x11)] [] C N46 := by
                      intro N46 h
                      rw [ej35] at h
                      try dsimp only at h
                      refine V_iconst X (v := 5) (by decide) dX8_parse_266 (n := 267) rfl ?_
                      refine V_istore_n X (L2 := [(1, .int (5 : Int32)), (0, .ref (ρ 66)), (2, .int v2), (3, .int v3), (4, .int x34), (5, .int x7), (6, .int x11)]) rfl (by decide) rfl dX8_parse_267 (n := 268) rfl ?_
                      refine V_goto X dX8_parse_268 (tgt := 325) (by decide) ?_
                      refine V_loc [1, 0, 2, 3, 4, 5, 6] rfl ?_
                      exact kj12 (5 : Int32) v2 v3 x34 N46 h
                    refine V_if_eq X dX8_parse_212 (tgt := 266) (n := 215) (by decide) rfl (fun c36 => ?_) (fun c36 => ?_)
                    · have h := ite_t h c36
                      refine V_loc [1, 2, 3, 4, 0, 5, 6] rfl ?_
                      exact kj35 N h
                    · have h := ite_f h c36
                      refine V_aload_n X (q := 1) rfl rfl dX8_parse_215 (n := 216) rfl ?_
                      refine V_getR X (by decide) rfl rfl (k := 32) inX8_parse_X8 rfl (by decide) wX8_parse_81 dX8_parse_216 (n := 219) rfl ?_
                      refine V_aload_n X (q := 1) rfl rfl dX8_parse_219 (n := 220) rfl ?_
                      refine V_getN X (by decide) (by decide) rfl rfl (k := 31) inX8_parse_X8 rfl (by decide) wX8_parse_109 dX8_parse_220 (n := 223) rfl ?_
                      refine V_iload_n X (q := 3) rfl rfl dX8_parse_223 (n := 224) rfl ?_
                      obtain ⟨g37, h⟩ := h
                      refine V_istN X (by decide) (by decide) rfl g37 dX8_parse_224 (n := 225) rfl (fun N38 eN38 => ?_)
                      have h := bd_at h eN38
                      refine V_aload_n X (q := 1) rfl rfl dX8_parse_225 (n := 226) rfl ?_
                      refine V_getR X (by decide) rfl rfl (k := 33) inX8_parse_X8 rfl (by decide) wX8_parse_84 dX8_parse_226 (n := 229) rfl ?_
                      refine V_aload_n X (q := 1) rfl rfl dX8_parse_229 (n := 230) rfl ?_
                      refine V_getN X (by decide) (by decide) rfl rfl (k := 31) inX8_parse_X8 rfl (by decide) wX8_parse_109 dX8_parse_230 (n := 233) rfl ?_
                      refine V_iload_n X (q := 4) rfl rfl dX8_parse_233 (n := 234) rfl ?_
                      obtain ⟨g39, h⟩ := h
                      refine V_istN X (by decide) (by decide) rfl g39 dX8_parse_234 (n := 235) rfl (fun N40 eN40 => ?_)
                      have h := bd_at h eN40
                      refine V_aload_n X (q := 1) rfl rfl dX8_parse_235 (n := 236) rfl ?_
                      refine V_getR X (by decide) rfl rfl (k := 34) inX8_parse_X8 rfl (by decide) wX8_parse_87 dX8_parse_236 (n := 239) rfl ?_
                      refine V_aload_n X (q := 1) rfl rfl dX8_parse_239 (n := 240) rfl ?_
                      refine V_getN X (by decide) (by decide) rfl rfl (k := 31) inX8_parse_X8 rfl (by decide) wX8_parse_109 dX8_parse_240 (n := 243) rfl ?_
                      refine V_iload X (q := 6) rfl dX8_parse_243 (n := 245) rfl ?_
                      obtain ⟨g41, h⟩ := h
                      refine V_istN X (by decide) (by decide) rfl g41 dX8_parse_245 (n := 246) rfl (fun N42 eN42 => ?_)
                      have h := bd_at h eN42
                      refine V_aload_n X (q := 1) rfl rfl dX8_parse_246 (n := 247) rfl ?_
                      refine V_getR X (by decide) rfl rfl (k := 35) inX8_parse_X8 rfl (by decide) wX8_parse_90 dX8_parse_247 (n := 250) rfl ?_
                      refine V_aload_n X (q := 1) rfl rfl dX8_parse_250 (n := 251) rfl ?_
                      refine V_getN X (by decide) (by decide) rfl rfl (k := 31) inX8_parse_X8 rfl (by decide) wX8_parse_109 dX8_parse_251 (n := 254) rfl ?_
                      refine V_iconst X (v := 0) (by decide) dX8_parse_254 (n := 255) rfl ?_
                      obtain ⟨g43, h⟩ := h
                      refine V_istN X (by decide) (by decide) rfl g43 dX8_parse_255 (n := 256) rfl (fun N44 eN44 => ?_)
                      have h := bd_at h eN44
                      refine V_aload_n X (q := 1) rfl rfl dX8_parse_256 (n := 257) rfl ?_
                      refine V_dup X rfl dX8_parse_257 (n := 258) rfl ?_
                      refine V_getN X (by decide) (by decide) rfl rfl (k := 31) inX8_parse_X8 rfl (by decide) wX8_parse_109 dX8_parse_258 (n := 261) rfl ?_
                      refine V_iconst X (v := 1) (by decide) dX8_parse_261 (n := 262) rfl ?_
                      refine V_iadd X dX8_parse_262 (n := 263) rfl ?_
                      refine V_putN X (by decide) (by decide) rfl rfl (k := 31) inX8_parse_X8 rfl (by decide) wX8_parse_109 tyX8 tyX8_ok nmX8 rfl (by decide +kernel) dX8_parse_263 (n := 266) rfl (fun N45 eN45 => ?_)
                      have h := bd_at h eN45
                      refine V_loc [1, 2, 3, 4, 0, 5, 6] rfl ?_
                      exact kj35 N45 h
                  refine V_if_le X dX8_parse_200 (tgt := 207) (n := 203) (by decide) rfl (fun c33 => ?_) (fun c33 => ?_)
                  · have h := ite_t h c33
                    refine V_iconst X (v := 0) (by decide) dX8_parse_207 (n := 208) rfl ?_
                    refine V_loc [1, 2, 3, 4, 5, 6, 0] rfl ?_
                    exact kj32 (0 : Int32) h
                  · have h := ite_f h c33
                    refine V_iconst X (v := 1) (by decide) dX8_parse_203 (n := 204) rfl ?_
                    refine V_goto X dX8_parse_204 (tgt := 208) (by decide) ?_
                    refine V_loc [1, 2, 3, 4, 5, 6, 0] rfl ?_
                    exact kj32 (1 : Int32) h
                · have h := ite_f h c17
                  have kd : V p l e rmX8_parse s m args below meth c D G ρ (WA ρ s.heap.size) s.heap 7 0 0 (Qv D G ρ s args below (fun C1 N1 => K N1 ∧ C1 = C)) 271 [(6, .int x11), (0, .ref (ρ 66)), (1, .int v1), (2, .int v2), (3, .int v3), (4, .int v4), (5, .int x7)] [] C N := by
                    refine V_iload_n X (q := 2) rfl rfl dX8_parse_271 (n := 272) rfl ?_
                    refine V_iconst X (v := 5) (by decide) dX8_parse_272 (n := 273) rfl ?_
                    refine jn_o h (fun j47 ej47 h => ?_)
                    have kj47 : j47 → V p l e rmX8_parse s m args below meth c D G ρ (WA ρ s.heap.size) s.heap 7 0 0 (Qv D G ρ s args below (fun C1 N1 => K N1 ∧ C1 = C)) 300 [(0, .ref (ρ 66)), (1, .int v1), (2, .int v2), (3, .int v3), (4, .int v4), (5, .int x7), (6, .int x11)] [] C N := by
                      intro  h
                      rw [ej47] at h
                      refine V_iload X (q := 5) rfl dX8_parse_300 (n := 302) rfl ?_
                      refine V_bipush X (v := 59) (by decide) dX8_parse_302 (n := 304) rfl ?_
                      refine jn_o h (fun j53 ej53 h => ?_)
                      have kj53 : ∀ (x56 : Int32), j53 x56 → V p l e rmX8_parse s m args below meth c D G ρ (WA ρ s.heap.size) s.heap 7 0 0 (Qv D G ρ s args below (fun C1 N1 => K N1 ∧ C1 = C)) 321 [(0, .ref (ρ 66)), (1, .int v1), (2, .int v2), (3, .int v3), (4, .int v4), (5, .int x7), (6, .int x11)] [.int x56] C N := by
                        intro x56 h
                        rw [ej53] at h
                        try dsimp only at h
                        refine V_istore X (L2 := [(4, .int x56), (0, .ref (ρ 66)), (1, .int v1), (2, .int v2), (3, .int v3), (5, .int x7), (6, .int x11)]) (by decide) rfl dX8_parse_321 (n := 323) rfl ?_
                        refine V_iconst X (v := 2) (by decide) dX8_parse_323 (n := 324) rfl ?_
                        refine V_istore_n X (L2 := [(1, .int (2 : Int32)), (4, .int x56), (0, .ref (ρ 66)), (2, .int v2), (3, .int v3), (5, .int x7), (6, .int x11)]) rfl (by decide) rfl dX8_parse_324 (n := 325) rfl ?_
                        refine V_loc [2, 0, 3, 4, 1, 5, 6] rfl ?_
                        exact kj12 (2 : Int32) v2 v3 x56 N h
                      refine jn_o h (fun j52 ej52 h => ?_)
                      have kj52 : j52 → V p l e rmX8_parse s m args below meth c D G ρ (WA ρ s.heap.size) s.heap 7 0 0 (Qv D G ρ s args below (fun C1 N1 => K N1 ∧ C1 = C)) 320 [(0, .ref (ρ 66)), (1, .int v1), (2, .int v2), (3, .int v3), (4, .int v4), (5, .int x7), (6, .int x11)] [] C N := by
                        intro  h
                        rw [ej52] at h
                        refine V_iconst X (v := 0) (by decide) dX8_parse_320 (n := 321) rfl ?_
                        exact kj53 (0 : Int32) h
                      refine V_icmp_ne X dX8_parse_304 (tgt := 320) (n := 307) (by decide) rfl (fun c54 => ?_) (fun c54 => ?_)
                      · have h := ite_f h c54
                        exact kj52  h
                      · have h := ite_t h c54
                        refine V_aload_n X (q := 0) rfl rfl dX8_parse_307 (n := 308) rfl ?_
                        refine V_getN X (by decide) (by decide) rfl rfl (k := 31) inX8_parse_X8 rfl (by decide) wX8_parse_109 dX8_parse_308 (n := 311) rfl ?_
                        refine V_bipush X (v := 12) (by decide) dX8_parse_311 (n := 313) rfl ?_
                        refine V_icmp_ge X dX8_parse_313 (tgt := 320) (n := 316) (by decide) rfl (fun c55 => ?_) (fun c55 => ?_)
                        · have h := ite_t h c55
                          exact kj52  h
                        · have h := ite_f h c55
                          refine V_iconst X (v := 1) (by decide) dX8_parse_316 (n := 317) rfl ?_
                          refine V_goto X dX8_parse_317 (tgt := 321) (by decide) ?_
                          exact kj53 (1 : Int32) h
                    refine V_icmp_ne X dX8_parse_273 (tgt := 300) (n := 276) (by decide) rfl (fun c48 => ?_) (fun c48 => ?_)
                    · have h := ite_f h c48
                      refine V_loc [1, 2, 3, 4, 5, 6, 0] rfl ?_
                      exact kj47  h
                    · have h := ite_t h c48
                      refine V_iload X (q := 0) rfl dX8_parse_276 (n := 278) rfl ?_
                      refine V_iconst X (v := 1) (by decide) dX8_parse_278 (n := 279) rfl ?_
                      refine V_icmp_le X dX8_parse_279 (tgt := 300) (n := 282) (by decide) rfl (fun c49 => ?_) (fun c49 => ?_)
                      · have h := ite_t h c49
                        refine V_loc [1, 2, 3, 4, 5, 6, 0] rfl ?_
                        exact kj47  h
                      · have h := ite_f h c49
                        refine V_aload_n X (q := 1) rfl rfl dX8_parse_282 (n := 283) rfl ?_
                        refine V_getR X (by decide) rfl rfl (k := 35) inX8_parse_X8 rfl (by decide) wX8_parse_90 dX8_parse_283 (n := 286) rfl ?_
                        refine V_aload_n X (q := 1) rfl rfl dX8_parse_286 (n := 287) rfl ?_
                        refine V_getN X (by decide) (by decide) rfl rfl (k := 31) inX8_parse_X8 rfl (by decide) wX8_parse_109 dX8_parse_287 (n := 290) rfl ?_
                        refine V_iconst X (v := 1) (by decide) dX8_parse_290 (n := 291) rfl ?_
                        refine V_isub X dX8_parse_291 (n := 292) rfl ?_
                        refine V_iload X (q := 0) rfl dX8_parse_292 (n := 294) rfl ?_
                        obtain ⟨g50, h⟩ := h
                        refine V_istN X (by decide) (by decide) rfl g50 dX8_parse_294 (n := 295) rfl (fun N51 eN51 => ?_)
                        have h := bd_at h eN51
                        refine V_iconst X (v := 1) (by decide) dX8_parse_295 (n := 296) rfl ?_
                        refine V_istore_n X (L2 := [(1, .int (1 : Int32)), (6, .int x11), (0, .ref (ρ 66)), (2, .int v2), (3, .int v3), (4, .int v4), (5, .int x7)]) rfl (by decide) rfl dX8_parse_296 (n := 297) rfl ?_
                        refine V_goto X dX8_parse_297 (tgt := 325) (by decide) ?_
                        refine V_loc [2, 0, 3, 4, 5, 6, 1] rfl ?_
                        exact kj12 (1 : Int32) v2 v3 v4 N51 h
                  by_cases c14 : v1 = 1
                  · exact V_tableAt X c14 dX8_parse_75 (by decide) (by decide) rfl (tgt := 271) (by decide) kd
                  · exact V_tableOut X dX8_parse_75 (ts_out5 c13 c14 c15 c16 c17) (tgt := 271) (by decide) kd
        refine V_if_eq X dX8_parse_60 (tgt := 71) (n := 63) (by decide) rfl (fun c10 => ?_) (fun c10 => ?_)
        · have h := ite_t h c10
          refine V_iconst X (v := -1) (by decide) dX8_parse_71 (n := 72) rfl ?_
          refine V_loc [1, 2, 3, 4, 5, 0] rfl ?_
          exact kj9 (-1 : Int32) h
        · have h := ite_f h c10
          refine V_iload X (q := 0) rfl dX8_parse_63 (n := 65) rfl ?_
          refine V_bipush X (v := 48) (by decide) dX8_parse_65 (n := 67) rfl ?_
          refine V_isub X dX8_parse_67 (n := 68) rfl ?_
          refine V_goto X dX8_parse_68 (tgt := 72) (by decide) ?_
          refine V_loc [1, 2, 3, 4, 5, 0] rfl ?_
          exact kj9 (x7 - (48 : Int32)) h
set_option maxRecDepth 100000 in
set_option maxHeartbeats 4000000 in
theorem TX8_parse (l : Launch) (D : va_G) (G : Gc) (ρ : Nat → Nat) (C : Xm) (N : Nm)   (K : Nm → Prop) (h : fX8_parse N K) : Kv l yX8_parse wsX8_parse rmX8_parse D G ρ [.ref (ρ 66)] C N (fun C1 N1 => K N1 ∧ C1 = C) := by
  refine Kv.ofV (cc := cX8_parse) (maxL := 7) (ret := none) (by decide +kernel) rfl (Nat.le_of_ble_eq_true rfl) ?_
  intro p e s m args below meth c X hr hlk
  show V p l e rmX8_parse s m args below meth c D G ρ (WA ρ s.heap.size) s.heap 7 0 0 (Qv D G ρ s args below (fun C1 N1 => K N1 ∧ C1 = C)) 0 [(0, .ref (ρ 66))] [] C N
  unfold fX8_parse at h
  refine V_iconst X (v := 0) (by decide) dX8_parse_0 (n := 1) rfl ?_
  refine V_istore_n X (L2 := [(1, .int (0 : Int32)), (0, .ref (ρ 66))]) rfl (by decide) rfl dX8_parse_1 (n := 2) rfl ?_
  refine V_iconst X (v := 0) (by decide) dX8_parse_2 (n := 3) rfl ?_
  refine V_istore_n X (L2 := [(2, .int (0 : Int32)), (1, .int (0 : Int32)), (0, .ref (ρ 66))]) rfl (by decide) rfl dX8_parse_3 (n := 4) rfl ?_
  refine V_iconst X (v := 0) (by decide) dX8_parse_4 (n := 5) rfl ?_
  refine V_istore_n X (L2 := [(3, .int (0 : Int32)), (2, .int (0 : Int32)), (1, .int (0 : Int32)), (0, .ref (ρ 66))]) rfl (by decide) rfl dX8_parse_5 (n := 6) rfl ?_
  refine V_aload_n X (q := 3) rfl rfl dX8_parse_6 (n := 7) rfl ?_
  refine V_iconst X (v := 0) (by decide) dX8_parse_7 (n := 8) rfl ?_
  refine V_putN X (by decide) (by decide) rfl rfl (k := 30) inX8_parse_X8 rfl (by decide) wX8_parse_112 tyX8 tyX8_ok nmX8 rfl (by decide +kernel) dX8_parse_8 (n := 11) rfl (fun N1 eN1 => ?_)
  have h := bd_at h eN1
  refine V_aload_n X (q := 3) rfl rfl dX8_parse_11 (n := 12) rfl ?_
  refine V_iconst X (v := 0) (by decide) dX8_parse_12 (n := 13) rfl ?_
  refine V_putN X (by decide) (by decide) rfl rfl (k := 31) inX8_parse_X8 rfl (by decide) wX8_parse_109 tyX8 tyX8_ok nmX8 rfl (by decide +kernel) dX8_parse_13 (n := 16) rfl (fun N2 eN2 => ?_)
  have h := bd_at h eN2
  refine V_aload_n X (q := 3) rfl rfl dX8_parse_16 (n := 17) rfl ?_
  refine V_iconst X (v := 0) (by decide) dX8_parse_17 (n := 18) rfl ?_
  refine V_putN X (by decide) (by decide) rfl rfl (k := 36) inX8_parse_X8 rfl (by decide) wX8_parse_115 tyX8 tyX8_ok nmX8 rfl (by decide +kernel) dX8_parse_18 (n := 21) rfl (fun N3 eN3 => ?_)
  have h := bd_at h eN3
  refine V_iconst X (v := 1) (by decide) dX8_parse_21 (n := 22) rfl ?_
  refine V_istore X (L2 := [(4, .int (1 : Int32)), (3, .int (0 : Int32)), (2, .int (0 : Int32)), (1, .int (0 : Int32)), (0, .ref (ρ 66))]) (by decide) rfl dX8_parse_22 (n := 24) rfl ?_
  refine jn_o h (fun j66 ej66 h => ?_)
  have kj66 : ∀ (x67 : Int32) (x68 : Int32) (x69 : Int32) (x70 : Int32) (N71 : Nm), j66 x67 x68 x69 x70 N71 → V p l e rmX8_parse s m args below meth c D G ρ (WA ρ s.heap.size) s.heap 7 0 0 (Qv D G ρ s args below (fun C1 N1 => K N1 ∧ C1 = C)) 347 [(0, .ref (ρ 66)), (1, .int x67), (2, .int x68), (3, .int x69), (4, .int x70)] [] C N71 := by
    intro x67 x68 x69 x70 N71 h
    rw [ej66] at h
    try dsimp only at h
    refine V_aload_n X (q := 0) rfl rfl dX8_parse_347 (n := 348) rfl ?_
    refine V_iload X (q := 4) rfl dX8_parse_348 (n := 350) rfl ?_
    refine jn_o h (fun j73 ej73 h => ?_)
    have kj73 : ∀ (x78 : Int32), j73 x78 → V p l e rmX8_parse s m args below meth c D G ρ (WA ρ s.heap.size) s.heap 7 0 0 (Qv D G ρ s args below (fun C1 N1 => K N1 ∧ C1 = C)) 368 [(0, .ref (ρ 66)), (1, .int x67), (2, .int x68), (3, .int x69), (4, .int x70)] [.int x78, .ref (ρ 66)] C N71 := by
      intro x78 h
      rw [ej73] at h
      try dsimp only at h
      obtain ⟨g80, h⟩ := h
      refine V_putB X g80 (by decide) (by decide) rfl rfl (k := 37) inX8_parse_X8 rfl (by decide) wX8_parse_122 tyX8 tyX8_ok nmX8 rfl (by decide +kernel) dX8_parse_368 (n := 371) rfl (fun N79 eN79 => ?_)
      have h := bd_at h eN79
      exact V_vret X hr hlk dX8_parse_371 ⟨h, rfl⟩
    refine jn_o h (fun j72 ej72 h => ?_)
    have kj72 : j72 → V p l e rmX8_parse s m args below meth c D G ρ (WA ρ s.heap.size) s.heap 7 0 0 (Qv D G ρ s args below (fun C1 N1 => K N1 ∧ C1 = C)) 367 [(0, .ref (ρ 66)), (1, .int x67), (2, .int x68), (3, .int x69), (4, .int x70)] [.ref (ρ 66)] C N71 := by
      intro  h
      rw [ej72] at h
      refine V_iconst X (v := 0) (by decide) dX8_parse_367 (n := 368) rfl ?_
      exact kj73 (0 : Int32) h
    refine V_if_eq X dX8_parse_350 (tgt := 367) (n := 353) (by decide) rfl (fun c74 => ?_) (fun c74 => ?_)
    · have h := ite_t h c74
      exact kj72  h
    · have h := ite_f h c74
      refine V_iload_n X (q := 1) rfl rfl dX8_parse_353 (n := 354) rfl ?_
      refine V_iconst X (v := 1) (by decide) dX8_parse_354 (n := 355) rfl ?_
      refine jn_o h (fun j75 ej75 h => ?_)
      have kj75 : j75 → V p l e rmX8_parse s m args below meth c D G ρ (WA ρ s.heap.size) s.heap 7 0 0 (Qv D G ρ s args below (fun C1 N1 => K N1 ∧ C1 = C)) 363 [(0, .ref (ρ 66)), (1, .int x67), (2, .int x68), (3, .int x69), (4, .int x70)] [.ref (ρ 66)] C N71 := by
        intro  h
        rw [ej75] at h
        refine V_iconst X (v := 1) (by decide) dX8_parse_363 (n := 364) rfl ?_
        refine V_goto X dX8_parse_364 (tgt := 368) (by decide) ?_
        exact kj73 (1 : Int32) h
      refine V_icmp_eq X dX8_parse_355 (tgt := 363) (n := 358) (by decide) rfl (fun c76 => ?_) (fun c76 => ?_)
      · have h := ite_t h c76
        exact kj75  h
      · have h := ite_f h c76
        refine V_iload_n X (q := 1) rfl rfl dX8_parse_358 (n := 359) rfl ?_
        refine V_iconst X (v := 5) (by decide) dX8_parse_359 (n := 360) rfl ?_
        refine V_icmp_ne X dX8_parse_360 (tgt := 367) (n := 363) (by decide) rfl (fun c77 => ?_) (fun c77 => ?_)
        · have h := ite_f h c77
          exact kj72  h
        · have h := ite_t h c77
          exact kj75  h
  refine V_loc [4, 3, 2, 1, 0] rfl ?_
  exact TX8_parse_L24 X hr hlk C  (E := j66) (K := K) kj66 200 (0 : Int32) (0 : Int32) (0 : Int32) (1 : Int32) N3 h
abbrev rmX8_errorPosition : Room := { frames := 2, cells := 0, slots := 0, locals := 50 }
theorem wX8_errorPosition_115 : Cond.fieldLink RX8 115 "FloodBusModel" "errorAt" "I" ∈ wsX8_errorPosition := by decide +kernel
theorem inX8_errorPosition_X8 : ∀ w ∈ wsX80, w ∈ wsX8_errorPosition := by decide +kernel
set_option maxRecDepth 100000 in
set_option maxHeartbeats 4000000 in
theorem TX8_errorPosition (l : Launch) (D : va_G) (G : Gc) (ρ : Nat → Nat) (C : Xm) (N : Nm)   (K : Int32 → Nm → Prop) (h : fX8_errorPosition N K) : Ki l yX8_errorPosition wsX8_errorPosition rmX8_errorPosition D G ρ [.ref (ρ 66)] C N (fun r C1 N1 => K r N1 ∧ C1 = C) := by
  refine Ki.ofV (cc := cX8_errorPosition) (maxL := 1) (ret := (some .int)) (by decide +kernel) rfl (Nat.le_of_ble_eq_true rfl) ?_
  intro p e s m args below meth c X hr hlk
  show V p l e rmX8_errorPosition s m args below meth c D G ρ (WA ρ s.heap.size) s.heap 1 0 0 (Qi D G ρ s args below (fun r C1 N1 => K r N1 ∧ C1 = C)) 0 [(0, .ref (ρ 66))] [] C N
  unfold fX8_errorPosition at h
  refine V_aload_n X (q := 0) rfl rfl dX8_errorPosition_0 (n := 1) rfl ?_
  refine V_callv X (As := []) (rest := []) (nA := 0) (i := 66) (q := (RX8, TX8, 42)) (TX8_parse l D G ρ C N  _ h) gX8_errorPosition_X8_parse rfl rfl rfl (by decide +kernel) rfl ⟨by decide, by decide⟩ (Nat.le_of_ble_eq_true rfl) ⟨by decide, by decide⟩ (by decide) rfl rfl rfl dX8_errorPosition_1 (n := 4) rfl (fun M0 N1 h => ?_)
  obtain ⟨h, eo⟩ := h
  rw [eo]
  refine V_aload_n X (q := 0) rfl rfl dX8_errorPosition_4 (n := 5) rfl ?_
  refine V_getN X (by decide) (by decide) rfl rfl (k := 36) inX8_errorPosition_X8 rfl (by decide) wX8_errorPosition_115 dX8_errorPosition_5 (n := 8) rfl ?_
  exact V_iret X hr hlk dX8_errorPosition_8 ⟨h, rfl⟩
abbrev rmX8_forgetFlood : Room := { frames := 0, cells := 0, slots := 0, locals := 0 }
theorem wX8_forgetFlood_29 : Cond.fieldLink RX8 29 "FloodBusModel" "packet" "[I" ∈ wsX8_forgetFlood := by decide +kernel
theorem wX8_forgetFlood_32 : Cond.fieldLink RX8 32 "FloodBusModel" "received" "[I" ∈ wsX8_forgetFlood := by decide +kernel
theorem wX8_forgetFlood_151 : Cond.fieldLink RX8 151 "FloodBusModel" "length" "I" ∈ wsX8_forgetFlood := by decide +kernel
theorem inX8_forgetFlood_X8 : ∀ w ∈ wsX80, w ∈ wsX8_forgetFlood := by decide +kernel
set_option maxRecDepth 100000 in
set_option maxHeartbeats 4000000 in
theorem TX8_forgetFlood_L2 {p : Program} {l : Launch} {e : Env} {s : State} {m : MethodId} {args : Array Value} {below : List Frame} {meth : Method} {c : Code} {D : va_G} {G : Gc} {ρ : Nat → Nat} (X : Cx p s m args c cX8_forgetFlood 2 RX8 wsX8_forgetFlood D G ρ (WA ρ s.heap.size) s.heap) (hr : meth.sig.returnType = none) (hlk : meth.locks = false) (C : Xm)   {E : Int32 → Nm → Prop} {K : Nm → Prop} (hE : ∀ (v1 : Int32) (N : Nm), E v1 N → V p l e rmX8_forgetFlood s m args below meth c D G ρ (WA ρ s.heap.size) s.heap 2 0 0 (Qv D G ρ s args below (fun C1 N1 => K N1 ∧ C1 = C)) 29 [(0, .ref (ρ 66)), (1, .int v1)] [] C N) : ∀ (n : Nat) (v1 : Int32) (N : Nm), fX8_forgetFlood_L2  E K n v1 N → V p l e rmX8_forgetFlood s m args below meth c D G ρ (WA ρ s.heap.size) s.heap 2 0 0 (Qv D G ρ s args below (fun C1 N1 => K N1 ∧ C1 = C)) 2 [(0, .ref (ρ 66)), (1, .int v1)] [] C N := by
  intro n
  induction n with
  | zero => intro v1 N h; exact h.elim
  | succ n ih =>
    intro v1 N h
    unfold fX8_forgetFlood_L2 at h
    refine V_iload_n X (q := 1) rfl rfl dX8_forgetFlood_2 (n := 3) rfl ?_
    refine V_bipush X (v := 8) (by decide) dX8_forgetFlood_3 (n := 5) rfl ?_
    refine V_icmp_ge X dX8_forgetFlood_5 (tgt := 29) (n := 8) (by decide) rfl (fun c1 => ?_) (fun c1 => ?_)
    · have h := ite_t h c1
      exact hE v1 N h
    · have h := ite_f h c1
      refine V_aload_n X (q := 0) rfl rfl dX8_forgetFlood_8 (n := 9) rfl ?_
      refine V_getR X (by decide) rfl rfl (k := 9) inX8_forgetFlood_X8 rfl (by decide) wX8_forgetFlood_29 dX8_forgetFlood_9 (n := 12) rfl ?_
      refine V_iload_n X (q := 1) rfl rfl dX8_forgetFlood_12 (n := 13) rfl ?_
      refine V_iconst X (v := -1) (by decide) dX8_forgetFlood_13 (n := 14) rfl ?_
      obtain ⟨g2, h⟩ := h
      refine V_istN X (by decide) (by decide) rfl g2 dX8_forgetFlood_14 (n := 15) rfl (fun N3 eN3 => ?_)
      have h := bd_at h eN3
      refine V_aload_n X (q := 0) rfl rfl dX8_forgetFlood_15 (n := 16) rfl ?_
      refine V_getR X (by decide) rfl rfl (k := 10) inX8_forgetFlood_X8 rfl (by decide) wX8_forgetFlood_32 dX8_forgetFlood_16 (n := 19) rfl ?_
      refine V_iload_n X (q := 1) rfl rfl dX8_forgetFlood_19 (n := 20) rfl ?_
      refine V_bipush X (v := -2) (by decide) dX8_forgetFlood_20 (n := 22) rfl ?_
      obtain ⟨g4, h⟩ := h
      refine V_istN X (by decide) (by decide) rfl g4 dX8_forgetFlood_22 (n := 23) rfl (fun N5 eN5 => ?_)
      have h := bd_at h eN5
      obtain ⟨x6, ex6⟩ : ∃ z : Int32, z = v1 + (1 : Int32) := ⟨_, rfl⟩
      have h := bd_at h ex6
      refine V_iinc X (q := 1) (d := 1) (L2 := [(1, .int x6), (0, .ref (ρ 66))]) rfl (by decide) (by decide) ex6 rfl dX8_forgetFlood_23 (n := 26) rfl ?_
      refine V_goto X dX8_forgetFlood_26 (tgt := 2) (by decide) ?_
      refine V_loc [1, 0] rfl ?_
      exact ih x6 N5 h
set_option maxRecDepth 100000 in
set_option maxHeartbeats 4000000 in
theorem TX8_forgetFlood (l : Launch) (D : va_G) (G : Gc) (ρ : Nat → Nat) (C : Xm) (N : Nm)   (K : Nm → Prop) (h : fX8_forgetFlood N K) : Kv l yX8_forgetFlood wsX8_forgetFlood rmX8_forgetFlood D G ρ [.ref (ρ 66)] C N (fun C1 N1 => K N1 ∧ C1 = C) := by
  refine Kv.ofV (cc := cX8_forgetFlood) (maxL := 2) (ret := none) (by decide +kernel) rfl (Nat.le_of_ble_eq_true rfl) ?_
  intro p e s m args below meth c X hr hlk
  show V p l e rmX8_forgetFlood s m args below meth c D G ρ (WA ρ s.heap.size) s.heap 2 0 0 (Qv D G ρ s args below (fun C1 N1 => K N1 ∧ C1 = C)) 0 [(0, .ref (ρ 66))] [] C N
  unfold fX8_forgetFlood at h
  refine V_iconst X (v := 0) (by decide) dX8_forgetFlood_0 (n := 1) rfl ?_
  refine V_istore_n X (L2 := [(1, .int (0 : Int32)), (0, .ref (ρ 66))]) rfl (by decide) rfl dX8_forgetFlood_1 (n := 2) rfl ?_
  refine jn_o h (fun j7 ej7 h => ?_)
  have kj7 : ∀ (x8 : Int32) (N9 : Nm), j7 x8 N9 → V p l e rmX8_forgetFlood s m args below meth c D G ρ (WA ρ s.heap.size) s.heap 2 0 0 (Qv D G ρ s args below (fun C1 N1 => K N1 ∧ C1 = C)) 29 [(0, .ref (ρ 66)), (1, .int x8)] [] C N9 := by
    intro x8 N9 h
    rw [ej7] at h
    try dsimp only at h
    refine V_aload_n X (q := 0) rfl rfl dX8_forgetFlood_29 (n := 30) rfl ?_
    refine V_iconst X (v := 0) (by decide) dX8_forgetFlood_30 (n := 31) rfl ?_
    refine V_putN X (by decide) (by decide) rfl rfl (k := 13) inX8_forgetFlood_X8 rfl (by decide) wX8_forgetFlood_151 tyX8 tyX8_ok nmX8 rfl (by decide +kernel) dX8_forgetFlood_31 (n := 34) rfl (fun N10 eN10 => ?_)
    have h := bd_at h eN10
    exact V_vret X hr hlk dX8_forgetFlood_34 ⟨h, rfl⟩
  refine V_loc [1, 0] rfl ?_
  exact TX8_forgetFlood_L2 X hr hlk C  (E := j7) (K := K) kj7 200 (0 : Int32) N h
abbrev rmX8_loadNetwork : Room := { frames := 2, cells := 0, slots := 0, locals := 50 }
theorem wX8_loadNetwork_122 : Cond.fieldLink RX8 122 "FloodBusModel" "isComplete" "Z" ∈ wsX8_loadNetwork := by decide +kernel
theorem wX8_loadNetwork_112 : Cond.fieldLink RX8 112 "FloodBusModel" "readNodes" "I" ∈ wsX8_loadNetwork := by decide +kernel
theorem wX8_loadNetwork_129 : Cond.fieldLink RX8 129 "FloodBusModel" "nodes" "I" ∈ wsX8_loadNetwork := by decide +kernel
theorem wX8_loadNetwork_109 : Cond.fieldLink RX8 109 "FloodBusModel" "readLinks" "I" ∈ wsX8_loadNetwork := by decide +kernel
theorem wX8_loadNetwork_132 : Cond.fieldLink RX8 132 "FloodBusModel" "links" "I" ∈ wsX8_loadNetwork := by decide +kernel
theorem wX8_loadNetwork_13 : Cond.fieldLink RX8 13 "FloodBusModel" "linkA" "[I" ∈ wsX8_loadNetwork := by decide +kernel
theorem wX8_loadNetwork_81 : Cond.fieldLink RX8 81 "FloodBusModel" "readA" "[I" ∈ wsX8_loadNetwork := by decide +kernel
theorem wX8_loadNetwork_16 : Cond.fieldLink RX8 16 "FloodBusModel" "linkB" "[I" ∈ wsX8_loadNetwork := by decide +kernel
theorem wX8_loadNetwork_84 : Cond.fieldLink RX8 84 "FloodBusModel" "readB" "[I" ∈ wsX8_loadNetwork := by decide +kernel
theorem wX8_loadNetwork_19 : Cond.fieldLink RX8 19 "FloodBusModel" "strength" "[I" ∈ wsX8_loadNetwork := by decide +kernel
theorem wX8_loadNetwork_87 : Cond.fieldLink RX8 87 "FloodBusModel" "readStrength" "[I" ∈ wsX8_loadNetwork := by decide +kernel
theorem wX8_loadNetwork_22 : Cond.fieldLink RX8 22 "FloodBusModel" "lossPeriod" "[I" ∈ wsX8_loadNetwork := by decide +kernel
theorem wX8_loadNetwork_90 : Cond.fieldLink RX8 90 "FloodBusModel" "readLoss" "[I" ∈ wsX8_loadNetwork := by decide +kernel
theorem wX8_loadNetwork_25 : Cond.fieldLink RX8 25 "FloodBusModel" "alive" "[Z" ∈ wsX8_loadNetwork := by decide +kernel
theorem wX8_loadNetwork_35 : Cond.fieldLink RX8 35 "FloodBusModel" "sent" "[I" ∈ wsX8_loadNetwork := by decide +kernel
theorem wX8_loadNetwork_38 : Cond.fieldLink RX8 38 "FloodBusModel" "missed" "[I" ∈ wsX8_loadNetwork := by decide +kernel
theorem wX8_loadNetwork_41 : Cond.fieldLink RX8 41 "FloodBusModel" "host" "I" ∈ wsX8_loadNetwork := by decide +kernel
theorem wX8_loadNetwork_138 : Cond.fieldLink RX8 138 "FloodBusModel" "round" "I" ∈ wsX8_loadNetwork := by decide +kernel
theorem wX8_loadNetwork_141 : Cond.fieldLink RX8 141 "FloodBusModel" "streams" "I" ∈ wsX8_loadNetwork := by decide +kernel
theorem wX8_loadNetwork_144 : Cond.fieldLink RX8 144 "FloodBusModel" "entries" "I" ∈ wsX8_loadNetwork := by decide +kernel
theorem wX8_loadNetwork_106 : Cond.fieldLink RX8 106 "FloodBusModel" "bufferLength" "I" ∈ wsX8_loadNetwork := by decide +kernel
theorem inX8_loadNetwork_X8 : ∀ w ∈ wsX80, w ∈ wsX8_loadNetwork := by decide +kernel
set_option maxRecDepth 100000 in
set_option maxHeartbeats 4000000 in
theorem TX8_loadNetwork_L33 {p : Program} {l : Launch} {e : Env} {s : State} {m : MethodId} {args : Array Value} {below : List Frame} {meth : Method} {c : Code} {D : va_G} {G : Gc} {ρ : Nat → Nat} (X : Cx p s m args c cX8_loadNetwork 2 RX8 wsX8_loadNetwork D G ρ (WA ρ s.heap.size) s.heap) (hr : meth.sig.returnType = some .int) (hlk : meth.locks = false) (C : Xm)   {E : Int32 → Nm → Prop} {K : Int32 → Nm → Prop} (hE : ∀ (v1 : Int32) (N : Nm), E v1 N → V p l e rmX8_loadNetwork s m args below meth c D G ρ (WA ρ s.heap.size) s.heap 2 0 0 (Qi D G ρ s args below (fun r C1 N1 => K r N1 ∧ C1 = C)) 95 [(0, .ref (ρ 66)), (1, .int v1)] [] C N) : ∀ (n : Nat) (v1 : Int32) (N : Nm), fX8_loadNetwork_L33  E K n v1 N → V p l e rmX8_loadNetwork s m args below meth c D G ρ (WA ρ s.heap.size) s.heap 2 0 0 (Qi D G ρ s args below (fun r C1 N1 => K r N1 ∧ C1 = C)) 33 [(0, .ref (ρ 66)), (1, .int v1)] [] C N := by
  intro n
  induction n with
  | zero => intro v1 N h; exact h.elim
  | succ n ih =>
    intro v1 N h
    unfold fX8_loadNetwork_L33 at h
    refine V_iload_n X (q := 1) rfl rfl dX8_loadNetwork_33 (n := 34) rfl ?_
    refine V_aload_n X (q := 0) rfl rfl dX8_loadNetwork_34 (n := 35) rfl ?_
    refine V_getN X (by decide) (by decide) rfl rfl (k := 3) inX8_loadNetwork_X8 rfl (by decide) wX8_loadNetwork_132 dX8_loadNetwork_35 (n := 38) rfl ?_
    refine V_icmp_ge X dX8_loadNetwork_38 (tgt := 95) (n := 41) (by decide) rfl (fun c5 => ?_) (fun c5 => ?_)
    · have h := ite_t h c5
      exact hE v1 N h
    · have h := ite_f h c5
      refine V_aload_n X (q := 0) rfl rfl dX8_loadNetwork_41 (n := 42) rfl ?_
      refine V_getR X (by decide) rfl rfl (k := 4) inX8_loadNetwork_X8 rfl (by decide) wX8_loadNetwork_13 dX8_loadNetwork_42 (n := 45) rfl ?_
      refine V_iload_n X (q := 1) rfl rfl dX8_loadNetwork_45 (n := 46) rfl ?_
      refine V_aload_n X (q := 0) rfl rfl dX8_loadNetwork_46 (n := 47) rfl ?_
      refine V_getR X (by decide) rfl rfl (k := 32) inX8_loadNetwork_X8 rfl (by decide) wX8_loadNetwork_81 dX8_loadNetwork_47 (n := 50) rfl ?_
      refine V_iload_n X (q := 1) rfl rfl dX8_loadNetwork_50 (n := 51) rfl ?_
      obtain ⟨g6, h⟩ := h
      refine V_ildN X (by decide) (by decide) rfl g6 dX8_loadNetwork_51 (n := 52) rfl ?_
      obtain ⟨g7, h⟩ := h
      refine V_istN X (by decide) (by decide) rfl g7 dX8_loadNetwork_52 (n := 53) rfl (fun N8 eN8 => ?_)
      have h := bd_at h eN8
      refine V_aload_n X (q := 0) rfl rfl dX8_loadNetwork_53 (n := 54) rfl ?_
      refine V_getR X (by decide) rfl rfl (k := 5) inX8_loadNetwork_X8 rfl (by decide) wX8_loadNetwork_16 dX8_loadNetwork_54 (n := 57) rfl ?_
      refine V_iload_n X (q := 1) rfl rfl dX8_loadNetwork_57 (n := 58) rfl ?_
      refine V_aload_n X (q := 0) rfl rfl dX8_loadNetwork_58 (n := 59) rfl ?_
      refine V_getR X (by decide) rfl rfl (k := 33) inX8_loadNetwork_X8 rfl (by decide) wX8_loadNetwork_84 dX8_loadNetwork_59 (n := 62) rfl ?_
      refine V_iload_n X (q := 1) rfl rfl dX8_loadNetwork_62 (n := 63) rfl ?_
      obtain ⟨g9, h⟩ := h
      refine V_ildN X (by decide) (by decide) rfl g9 dX8_loadNetwork_63 (n := 64) rfl ?_
      obtain ⟨g10, h⟩ := h
      refine V_istN X (by decide) (by decide) rfl g10 dX8_loadNetwork_64 (n := 65) rfl (fun N11 eN11 => ?_)
      have h := bd_at h eN11
      refine V_aload_n X (q := 0) rfl rfl dX8_loadNetwork_65 (n := 66) rfl ?_
      refine V_getR X (by decide) rfl rfl (k := 6) inX8_loadNetwork_X8 rfl (by decide) wX8_loadNetwork_19 dX8_loadNetwork_66 (n := 69) rfl ?_
      refine V_iload_n X (q := 1) rfl rfl dX8_loadNetwork_69 (n := 70) rfl ?_
      refine V_aload_n X (q := 0) rfl rfl dX8_loadNetwork_70 (n := 71) rfl ?_
      refine V_getR X (by decide) rfl rfl (k := 34) inX8_loadNetwork_X8 rfl (by decide) wX8_loadNetwork_87 dX8_loadNetwork_71 (n := 74) rfl ?_
      refine V_iload_n X (q := 1) rfl rfl dX8_loadNetwork_74 (n := 75) rfl ?_
      obtain ⟨g12, h⟩ := h
      refine V_ildN X (by decide) (by decide) rfl g12 dX8_loadNetwork_75 (n := 76) rfl ?_
      obtain ⟨g13, h⟩ := h
      refine V_istN X (by decide) (by decide) rfl g13 dX8_loadNetwork_76 (n := 77) rfl (fun N14 eN14 => ?_)
      have h := bd_at h eN14
      refine V_aload_n X (q := 0) rfl rfl dX8_loadNetwork_77 (n := 78) rfl ?_
      refine V_getR X (by decide) rfl rfl (k := 7) inX8_loadNetwork_X8 rfl (by decide) wX8_loadNetwork_22 dX8_loadNetwork_78 (n := 81) rfl ?_
      refine V_iload_n X (q := 1) rfl rfl dX8_loadNetwork_81 (n := 82) rfl ?_
      refine V_aload_n X (q := 0) rfl rfl dX8_loadNetwork_82 (n := 83) rfl ?_
      refine V_getR X (by decide) rfl rfl (k := 35) inX8_loadNetwork_X8 rfl (by decide) wX8_loadNetwork_90 dX8_loadNetwork_83 (n := 86) rfl ?_
      refine V_iload_n X (q := 1) rfl rfl dX8_loadNetwork_86 (n := 87) rfl ?_
      obtain ⟨g15, h⟩ := h
      refine V_ildN X (by decide) (by decide) rfl g15 dX8_loadNetwork_87 (n := 88) rfl ?_
      obtain ⟨g16, h⟩ := h
      refine V_istN X (by decide) (by decide) rfl g16 dX8_loadNetwork_88 (n := 89) rfl (fun N17 eN17 => ?_)
      have h := bd_at h eN17
      obtain ⟨x18, ex18⟩ : ∃ z : Int32, z = v1 + (1 : Int32) := ⟨_, rfl⟩
      have h := bd_at h ex18
      refine V_iinc X (q := 1) (d := 1) (L2 := [(1, .int x18), (0, .ref (ρ 66))]) rfl (by decide) (by decide) ex18 rfl dX8_loadNetwork_89 (n := 92) rfl ?_
      refine V_goto X dX8_loadNetwork_92 (tgt := 33) (by decide) ?_
      refine V_loc [1, 0] rfl ?_
      exact ih x18 N17 h
set_option maxRecDepth 100000 in
set_option maxHeartbeats 4000000 in
theorem TX8_loadNetwork_L97 {p : Program} {l : Launch} {e : Env} {s : State} {m : MethodId} {args : Array Value} {below : List Frame} {meth : Method} {c : Code} {D : va_G} {G : Gc} {ρ : Nat → Nat} (X : Cx p s m args c cX8_loadNetwork 2 RX8 wsX8_loadNetwork D G ρ (WA ρ s.heap.size) s.heap) (hr : meth.sig.returnType = some .int) (hlk : meth.locks = false) (C : Xm)   {E : Int32 → Nm → Prop} {K : Int32 → Nm → Prop} (hE : ∀ (v1 : Int32) (N : Nm), E v1 N → V p l e rmX8_loadNetwork s m args below meth c D G ρ (WA ρ s.heap.size) s.heap 2 0 0 (Qi D G ρ s args below (fun r C1 N1 => K r N1 ∧ C1 = C)) 130 [(0, .ref (ρ 66)), (1, .int v1)] [] C N) : ∀ (n : Nat) (v1 : Int32) (N : Nm), fX8_loadNetwork_L97  E K n v1 N → V p l e rmX8_loadNetwork s m args below meth c D G ρ (WA ρ s.heap.size) s.heap 2 0 0 (Qi D G ρ s args below (fun r C1 N1 => K r N1 ∧ C1 = C)) 97 [(0, .ref (ρ 66)), (1, .int v1)] [] C N := by
  intro n
  induction n with
  | zero => intro v1 N h; exact h.elim
  | succ n ih =>
    intro v1 N h
    unfold fX8_loadNetwork_L97 at h
    refine V_iload_n X (q := 1) rfl rfl dX8_loadNetwork_97 (n := 98) rfl ?_
    refine V_bipush X (v := 8) (by decide) dX8_loadNetwork_98 (n := 100) rfl ?_
    refine V_icmp_ge X dX8_loadNetwork_100 (tgt := 130) (n := 103) (by decide) rfl (fun c22 => ?_) (fun c22 => ?_)
    · have h := ite_t h c22
      exact hE v1 N h
    · have h := ite_f h c22
      refine V_aload_n X (q := 0) rfl rfl dX8_loadNetwork_103 (n := 104) rfl ?_
      refine V_getR X (by decide) rfl rfl (k := 8) inX8_loadNetwork_X8 rfl (by decide) wX8_loadNetwork_25 dX8_loadNetwork_104 (n := 107) rfl ?_
      refine V_iload_n X (q := 1) rfl rfl dX8_loadNetwork_107 (n := 108) rfl ?_
      refine V_iconst X (v := 1) (by decide) dX8_loadNetwork_108 (n := 109) rfl ?_
      obtain ⟨g23, h⟩ := h
      refine V_zstN X (by decide) (by decide) (by decide) rfl g23 dX8_loadNetwork_109 (n := 110) rfl (fun N24 eN24 => ?_)
      have h := bd_at h eN24
      refine V_aload_n X (q := 0) rfl rfl dX8_loadNetwork_110 (n := 111) rfl ?_
      refine V_getR X (by decide) rfl rfl (k := 11) inX8_loadNetwork_X8 rfl (by decide) wX8_loadNetwork_35 dX8_loadNetwork_111 (n := 114) rfl ?_
      refine V_iload_n X (q := 1) rfl rfl dX8_loadNetwork_114 (n := 115) rfl ?_
      refine V_iconst X (v := 0) (by decide) dX8_loadNetwork_115 (n := 116) rfl ?_
      obtain ⟨g25, h⟩ := h
      refine V_istN X (by decide) (by decide) rfl g25 dX8_loadNetwork_116 (n := 117) rfl (fun N26 eN26 => ?_)
      have h := bd_at h eN26
      refine V_aload_n X (q := 0) rfl rfl dX8_loadNetwork_117 (n := 118) rfl ?_
      refine V_getR X (by decide) rfl rfl (k := 12) inX8_loadNetwork_X8 rfl (by decide) wX8_loadNetwork_38 dX8_loadNetwork_118 (n := 121) rfl ?_
      refine V_iload_n X (q := 1) rfl rfl dX8_loadNetwork_121 (n := 122) rfl ?_
      refine V_iconst X (v := 0) (by decide) dX8_loadNetwork_122 (n := 123) rfl ?_
      obtain ⟨g27, h⟩ := h
      refine V_istN X (by decide) (by decide) rfl g27 dX8_loadNetwork_123 (n := 124) rfl (fun N28 eN28 => ?_)
      have h := bd_at h eN28
      obtain ⟨x29, ex29⟩ : ∃ z : Int32, z = v1 + (1 : Int32) := ⟨_, rfl⟩
      have h := bd_at h ex29
      refine V_iinc X (q := 1) (d := 1) (L2 := [(1, .int x29), (0, .ref (ρ 66))]) rfl (by decide) (by decide) ex29 rfl dX8_loadNetwork_124 (n := 127) rfl ?_
      refine V_goto X dX8_loadNetwork_127 (tgt := 97) (by decide) ?_
      refine V_loc [1, 0] rfl ?_
      exact ih x29 N28 h
set_option maxRecDepth 100000 in
set_option maxHeartbeats 4000000 in
theorem TX8_loadNetwork (l : Launch) (D : va_G) (G : Gc) (ρ : Nat → Nat) (C : Xm) (N : Nm)   (K : Int32 → Nm → Prop) (h : fX8_loadNetwork N K) : Ki l yX8_loadNetwork wsX8_loadNetwork rmX8_loadNetwork D G ρ [.ref (ρ 66)] C N (fun r C1 N1 => K r N1 ∧ C1 = C) := by
  refine Ki.ofV (cc := cX8_loadNetwork) (maxL := 2) (ret := (some .int)) (by decide +kernel) rfl (Nat.le_of_ble_eq_true rfl) ?_
  intro p e s m args below meth c X hr hlk
  show V p l e rmX8_loadNetwork s m args below meth c D G ρ (WA ρ s.heap.size) s.heap 2 0 0 (Qi D G ρ s args below (fun r C1 N1 => K r N1 ∧ C1 = C)) 0 [(0, .ref (ρ 66))] [] C N
  unfold fX8_loadNetwork at h
  refine V_aload_n X (q := 0) rfl rfl dX8_loadNetwork_0 (n := 1) rfl ?_
  refine V_callv X (As := []) (rest := []) (nA := 0) (i := 66) (q := (RX8, TX8, 42)) (TX8_parse l D G ρ C N  _ h) gX8_loadNetwork_X8_parse rfl rfl rfl (by decide +kernel) rfl ⟨by decide, by decide⟩ (Nat.le_of_ble_eq_true rfl) ⟨by decide, by decide⟩ (by decide) rfl rfl rfl dX8_loadNetwork_1 (n := 4) rfl (fun M0 N1 h => ?_)
  obtain ⟨h, eo⟩ := h
  rw [eo]
  refine V_aload_n X (q := 0) rfl rfl dX8_loadNetwork_4 (n := 5) rfl ?_
  refine V_getN X (by decide) (by decide) rfl rfl (k := 37) inX8_loadNetwork_X8 rfl (by decide) wX8_loadNetwork_122 dX8_loadNetwork_5 (n := 8) rfl ?_
  refine V_if_ne X dX8_loadNetwork_8 (tgt := 15) (n := 11) (by decide) rfl (fun c2 => ?_) (fun c2 => ?_)
  · have h := ite_f h c2
    refine V_aload_n X (q := 0) rfl rfl dX8_loadNetwork_15 (n := 16) rfl ?_
    refine V_aload_n X (q := 0) rfl rfl dX8_loadNetwork_16 (n := 17) rfl ?_
    refine V_getN X (by decide) (by decide) rfl rfl (k := 30) inX8_loadNetwork_X8 rfl (by decide) wX8_loadNetwork_112 dX8_loadNetwork_17 (n := 20) rfl ?_
    refine V_putN X (by decide) (by decide) rfl rfl (k := 2) inX8_loadNetwork_X8 rfl (by decide) wX8_loadNetwork_129 tyX8 tyX8_ok nmX8 rfl (by decide +kernel) dX8_loadNetwork_20 (n := 23) rfl (fun N3 eN3 => ?_)
    have h := bd_at h eN3
    refine V_aload_n X (q := 0) rfl rfl dX8_loadNetwork_23 (n := 24) rfl ?_
    refine V_aload_n X (q := 0) rfl rfl dX8_loadNetwork_24 (n := 25) rfl ?_
    refine V_getN X (by decide) (by decide) rfl rfl (k := 31) inX8_loadNetwork_X8 rfl (by decide) wX8_loadNetwork_109 dX8_loadNetwork_25 (n := 28) rfl ?_
    refine V_putN X (by decide) (by decide) rfl rfl (k := 3) inX8_loadNetwork_X8 rfl (by decide) wX8_loadNetwork_132 tyX8 tyX8_ok nmX8 rfl (by decide +kernel) dX8_loadNetwork_28 (n := 31) rfl (fun N4 eN4 => ?_)
    have h := bd_at h eN4
    refine V_iconst X (v := 0) (by decide) dX8_loadNetwork_31 (n := 32) rfl ?_
    refine V_istore_n X (L2 := [(1, .int (0 : Int32)), (0, .ref (ρ 66))]) rfl (by decide) rfl dX8_loadNetwork_32 (n := 33) rfl ?_
    refine jn_o h (fun j19 ej19 h => ?_)
    have kj19 : ∀ (x20 : Int32) (N21 : Nm), j19 x20 N21 → V p l e rmX8_loadNetwork s m args below meth c D G ρ (WA ρ s.heap.size) s.heap 2 0 0 (Qi D G ρ s args below (fun r C1 N1 => K r N1 ∧ C1 = C)) 95 [(0, .ref (ρ 66)), (1, .int x20)] [] C N21 := by
      intro x20 N21 h
      rw [ej19] at h
      try dsimp only at h
      refine V_iconst X (v := 0) (by decide) dX8_loadNetwork_95 (n := 96) rfl ?_
      refine V_istore_n X (L2 := [(1, .int (0 : Int32)), (0, .ref (ρ 66))]) rfl (by decide) rfl dX8_loadNetwork_96 (n := 97) rfl ?_
      refine jn_o h (fun j30 ej30 h => ?_)
      have kj30 : ∀ (x31 : Int32) (N32 : Nm), j30 x31 N32 → V p l e rmX8_loadNetwork s m args below meth c D G ρ (WA ρ s.heap.size) s.heap 2 0 0 (Qi D G ρ s args below (fun r C1 N1 => K r N1 ∧ C1 = C)) 130 [(0, .ref (ρ 66)), (1, .int x31)] [] C N32 := by
        intro x31 N32 h
        rw [ej30] at h
        try dsimp only at h
        refine V_aload_n X (q := 0) rfl rfl dX8_loadNetwork_130 (n := 131) rfl ?_
        refine V_callv X (As := []) (rest := []) (nA := 0) (i := 66) (q := (RX8, TX8, 42)) (TX8_forgetFlood l D G ρ C N32  _ h) gX8_loadNetwork_X8_forgetFlood rfl rfl rfl (by decide +kernel) rfl ⟨by decide, by decide⟩ (Nat.le_of_ble_eq_true rfl) ⟨by decide, by decide⟩ (by decide) rfl rfl rfl dX8_loadNetwork_131 (n := 134) rfl (fun M0 N33 h => ?_)
        obtain ⟨h, eo⟩ := h
        rw [eo]
        refine V_aload_n X (q := 0) rfl rfl dX8_loadNetwork_134 (n := 135) rfl ?_
        refine V_iconst X (v := 0) (by decide) dX8_loadNetwork_135 (n := 136) rfl ?_
        refine V_putN X (by decide) (by decide) rfl rfl (k := 14) inX8_loadNetwork_X8 rfl (by decide) wX8_loadNetwork_41 tyX8 tyX8_ok nmX8 rfl (by decide +kernel) dX8_loadNetwork_136 (n := 139) rfl (fun N34 eN34 => ?_)
        have h := bd_at h eN34
        refine V_aload_n X (q := 0) rfl rfl dX8_loadNetwork_139 (n := 140) rfl ?_
        refine V_iconst X (v := 0) (by decide) dX8_loadNetwork_140 (n := 141) rfl ?_
        refine V_putN X (by decide) (by decide) rfl rfl (k := 15) inX8_loadNetwork_X8 rfl (by decide) wX8_loadNetwork_138 tyX8 tyX8_ok nmX8 rfl (by decide +kernel) dX8_loadNetwork_141 (n := 144) rfl (fun N35 eN35 => ?_)
        have h := bd_at h eN35
        refine V_aload_n X (q := 0) rfl rfl dX8_loadNetwork_144 (n := 145) rfl ?_
        refine V_iconst X (v := 0) (by decide) dX8_loadNetwork_145 (n := 146) rfl ?_
        refine V_putN X (by decide) (by decide) rfl rfl (k := 20) inX8_loadNetwork_X8 rfl (by decide) wX8_loadNetwork_141 tyX8 tyX8_ok nmX8 rfl (by decide +kernel) dX8_loadNetwork_146 (n := 149) rfl (fun N36 eN36 => ?_)
        have h := bd_at h eN36
        refine V_aload_n X (q := 0) rfl rfl dX8_loadNetwork_149 (n := 150) rfl ?_
        refine V_iconst X (v := 0) (by decide) dX8_loadNetwork_150 (n := 151) rfl ?_
        refine V_putN X (by decide) (by decide) rfl rfl (k := 28) inX8_loadNetwork_X8 rfl (by decide) wX8_loadNetwork_144 tyX8 tyX8_ok nmX8 rfl (by decide +kernel) dX8_loadNetwork_151 (n := 154) rfl (fun N37 eN37 => ?_)
        have h := bd_at h eN37
        refine V_aload_n X (q := 0) rfl rfl dX8_loadNetwork_154 (n := 155) rfl ?_
        refine V_iconst X (v := 0) (by decide) dX8_loadNetwork_155 (n := 156) rfl ?_
        refine V_putN X (by decide) (by decide) rfl rfl (k := 0) inX8_loadNetwork_X8 rfl (by decide) wX8_loadNetwork_106 tyX8 tyX8_ok nmX8 rfl (by decide +kernel) dX8_loadNetwork_156 (n := 159) rfl (fun N38 eN38 => ?_)
        have h := bd_at h eN38
        refine V_aload_n X (q := 0) rfl rfl dX8_loadNetwork_159 (n := 160) rfl ?_
        refine V_getN X (by decide) (by decide) rfl rfl (k := 2) inX8_loadNetwork_X8 rfl (by decide) wX8_loadNetwork_129 dX8_loadNetwork_160 (n := 163) rfl ?_
        exact V_iret X hr hlk dX8_loadNetwork_163 ⟨h, rfl⟩
      refine V_loc [1, 0] rfl ?_
      exact TX8_loadNetwork_L97 X hr hlk C  (E := j30) (K := K) kj30 200 (0 : Int32) N21 h
    refine V_loc [1, 0] rfl ?_
    exact TX8_loadNetwork_L33 X hr hlk C  (E := j19) (K := K) kj19 200 (0 : Int32) N4 h
  · have h := ite_t h c2
    refine V_sipush X (v := -1003) (by decide) dX8_loadNetwork_11 (n := 14) rfl ?_
    exact V_iret X hr hlk dX8_loadNetwork_14 ⟨h, rfl⟩
