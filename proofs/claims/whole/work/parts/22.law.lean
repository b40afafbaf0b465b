def fL_law_L18 (L : Nat) (xs : Nat → Int32)  (E : Int32 → Xm → Nm → Prop) (K : Int32 → Prop) : Nat → Int32 → Xm → Nm → Prop
  | 0, _, _, _ => False
  | n + 1, v3, C, N =>
  if ((Int32.ofNat L) - (4 : Int32)) < v3 then
  (E v3 C N)
  else
  (inb v3 L ∧
  jn (α := Xm → Nm → Prop) (fun (C183 : Xm) (N184 : Nm) =>
  bd (v3 + (4 : Int32)) fun x185 =>
  fL_law_L18 L xs E K n x185 C183 N184) fun j3 =>
  if ((xs (Int32.toNatClampNeg v3)) &&& (31 : Int32)) = 0 then
  (inb (v3 + (1 : Int32)) L ∧
  fX7_append C (xs (Int32.toNatClampNeg (v3 + (1 : Int32)))) fun r31 C32 =>
  inb (v3 + (1 : Int32)) L ∧
  fX8_append N (xs (Int32.toNatClampNeg (v3 + (1 : Int32)))) fun r34 N35 =>
  if r31 = r34 then
  (j3 C32 N35)
  else
  (K (0 : Int32)))
  else
  if ((xs (Int32.toNatClampNeg v3)) &&& (31 : Int32)) = 1 then
  (fX7_clearBuffer C fun r37 C38 =>
  fX8_clearBuffer N fun r39 N40 =>
  if r37 = r39 then
  (j3 C38 N40)
  else
  (K (0 : Int32)))
  else
  if ((xs (Int32.toNatClampNeg v3)) &&& (31 : Int32)) = 2 then
  (fX7_errorPosition C fun r42 C43 =>
  fX8_errorPosition N fun r44 N45 =>
  if r42 = r44 then
  (j3 C43 N45)
  else
  (K (0 : Int32)))
  else
  if ((xs (Int32.toNatClampNeg v3)) &&& (31 : Int32)) = 3 then
  (fX7_loadNetwork C fun r47 C48 =>
  fX8_loadNetwork N fun r49 N50 =>
  if r47 = r49 then
  (j3 C48 N50)
  else
  (K (0 : Int32)))
  else
  if ((xs (Int32.toNatClampNeg v3)) &&& (31 : Int32)) = 4 then
  (inb (v3 + (1 : Int32)) L ∧
  fX7_setTransmissionLimit C (xs (Int32.toNatClampNeg (v3 + (1 : Int32)))) fun r53 C54 =>
  inb (v3 + (1 : Int32)) L ∧
  fX8_setTransmissionLimit N (xs (Int32.toNatClampNeg (v3 + (1 : Int32)))) fun r56 N57 =>
  if r53 = r56 then
  (j3 C54 N57)
  else
  (K (0 : Int32)))
  else
  if ((xs (Int32.toNatClampNeg v3)) &&& (31 : Int32)) = 5 then
  (inb (v3 + (1 : Int32)) L ∧
  fX7_setCaptureMargin C (xs (Int32.toNatClampNeg (v3 + (1 : Int32)))) fun r60 C61 =>
  inb (v3 + (1 : Int32)) L ∧
  fX8_setCaptureMargin N (xs (Int32.toNatClampNeg (v3 + (1 : Int32)))) fun r63 N64 =>
  if r60 = r63 then
  (j3 C61 N64)
  else
  (K (0 : Int32)))
  else
  if ((xs (Int32.toNatClampNeg v3)) &&& (31 : Int32)) = 6 then
  (inb (v3 + (1 : Int32)) L ∧
  fX7_setSlotLimit C (xs (Int32.toNatClampNeg (v3 + (1 : Int32)))) fun r67 C68 =>
  inb (v3 + (1 : Int32)) L ∧
  fX8_setSlotLimit N (xs (Int32.toNatClampNeg (v3 + (1 : Int32)))) fun r70 N71 =>
  if r67 = r70 then
  (j3 C68 N71)
  else
  (K (0 : Int32)))
  else
  if ((xs (Int32.toNatClampNeg v3)) &&& (31 : Int32)) = 7 then
  (inb (v3 + (1 : Int32)) L ∧
  fX7_setTakeoverLimit C (xs (Int32.toNatClampNeg (v3 + (1 : Int32)))) fun r74 C75 =>
  inb (v3 + (1 : Int32)) L ∧
  fX8_setTakeoverLimit N (xs (Int32.toNatClampNeg (v3 + (1 : Int32)))) fun r77 N78 =>
  if r74 = r77 then
  (j3 C75 N78)
  else
  (K (0 : Int32)))
  else
  if ((xs (Int32.toNatClampNeg v3)) &&& (31 : Int32)) = 8 then
  (inb (v3 + (1 : Int32)) L ∧
  inb (v3 + (2 : Int32)) L ∧
  jn (α := Int32 → Prop) (fun (x84 : Int32) =>
  fX7_setAlive C (xs (Int32.toNatClampNeg (v3 + (1 : Int32)))) x84 fun r85 C86 =>
  inb (v3 + (1 : Int32)) L ∧
  inb (v3 + (2 : Int32)) L ∧
  jn (α := Int32 → Prop) (fun (x91 : Int32) =>
  fX8_setAlive N (xs (Int32.toNatClampNeg (v3 + (1 : Int32)))) x91 fun r92 N93 =>
  if r85 = r92 then
  (j3 C86 N93)
  else
  (K (0 : Int32))) fun j89 =>
  if (xs (Int32.toNatClampNeg (v3 + (2 : Int32)))) = 0 then
  (j89 (0 : Int32))
  else
  (j89 (1 : Int32))) fun j82 =>
  if (xs (Int32.toNatClampNeg (v3 + (2 : Int32)))) = 0 then
  (j82 (0 : Int32))
  else
  (j82 (1 : Int32)))
  else
  if ((xs (Int32.toNatClampNeg v3)) &&& (31 : Int32)) = 9 then
  (inb (v3 + (1 : Int32)) L ∧
  fX7_flood C (xs (Int32.toNatClampNeg (v3 + (1 : Int32)))) fun r96 C97 =>
  inb (v3 + (1 : Int32)) L ∧
  fX8_flood N (xs (Int32.toNatClampNeg (v3 + (1 : Int32)))) fun r99 N100 =>
  if r96 = r99 then
  (j3 C97 N100)
  else
  (K (0 : Int32)))
  else
  if ((xs (Int32.toNatClampNeg v3)) &&& (31 : Int32)) = 10 then
  (inb (v3 + (1 : Int32)) L ∧
  fX7_packetAt C (xs (Int32.toNatClampNeg (v3 + (1 : Int32)))) fun r103 =>
  inb (v3 + (1 : Int32)) L ∧
  fX8_packetAt N (xs (Int32.toNatClampNeg (v3 + (1 : Int32)))) fun r105 =>
  if r103 = r105 then
  (j3 C N)
  else
  (K (0 : Int32)))
  else
  if ((xs (Int32.toNatClampNeg v3)) &&& (31 : Int32)) = 11 then
  (inb (v3 + (1 : Int32)) L ∧
  fX7_hopCount C (xs (Int32.toNatClampNeg (v3 + (1 : Int32)))) fun r108 =>
  inb (v3 + (1 : Int32)) L ∧
  fX8_hopCount N (xs (Int32.toNatClampNeg (v3 + (1 : Int32)))) fun r110 =>
  if r108 = r110 then
  (j3 C N)
  else
  (K (0 : Int32)))
  else
  if ((xs (Int32.toNatClampNeg v3)) &&& (31 : Int32)) = 12 then
  (fX7_floodLength C fun r112 =>
  fX8_floodLength N fun r113 =>
  if r112 = r113 then
  (j3 C N)
  else
  (K (0 : Int32)))
  else
  if ((xs (Int32.toNatClampNeg v3)) &&& (31 : Int32)) = 13 then
  (inb (v3 + (1 : Int32)) L ∧
  inb (v3 + (2 : Int32)) L ∧
  inb (v3 + (3 : Int32)) L ∧
  fX7_addStream C (xs (Int32.toNatClampNeg (v3 + (1 : Int32)))) (xs (Int32.toNatClampNeg (v3 + (2 : Int32)))) (xs (Int32.toNatClampNeg (v3 + (3 : Int32)))) fun r118 C119 =>
  inb (v3 + (1 : Int32)) L ∧
  inb (v3 + (2 : Int32)) L ∧
  inb (v3 + (3 : Int32)) L ∧
  fX8_addStream N (xs (Int32.toNatClampNeg (v3 + (1 : Int32)))) (xs (Int32.toNatClampNeg (v3 + (2 : Int32)))) (xs (Int32.toNatClampNeg (v3 + (3 : Int32)))) fun r123 N124 =>
  if r118 = r123 then
  (j3 C119 N124)
  else
  (K (0 : Int32)))
  else
  if ((xs (Int32.toNatClampNeg v3)) &&& (31 : Int32)) = 14 then
  (inb (v3 + (1 : Int32)) L ∧
  fX7_removeStream C (xs (Int32.toNatClampNeg (v3 + (1 : Int32)))) fun r127 C128 =>
  inb (v3 + (1 : Int32)) L ∧
  fX8_removeStream N (xs (Int32.toNatClampNeg (v3 + (1 : Int32)))) fun r130 N131 =>
  if r127 = r130 then
  (j3 C128 N131)
  else
  (K (0 : Int32)))
  else
  if ((xs (Int32.toNatClampNeg v3)) &&& (31 : Int32)) = 15 then
  (inb (v3 + (1 : Int32)) L ∧
  fX7_waitingPackets C (xs (Int32.toNatClampNeg (v3 + (1 : Int32)))) fun r134 =>
  inb (v3 + (1 : Int32)) L ∧
  fX8_waitingPackets N (xs (Int32.toNatClampNeg (v3 + (1 : Int32)))) fun r136 =>
  if r134 = r136 then
  (j3 C N)
  else
  (K (0 : Int32)))
  else
  if ((xs (Int32.toNatClampNeg v3)) &&& (31 : Int32)) = 16 then
  (inb (v3 + (1 : Int32)) L ∧
  fX7_deliveredPackets C (xs (Int32.toNatClampNeg (v3 + (1 : Int32)))) fun r139 =>
  inb (v3 + (1 : Int32)) L ∧
  fX8_deliveredPackets N (xs (Int32.toNatClampNeg (v3 + (1 : Int32)))) fun r141 =>
  if r139 = r141 then
  (j3 C N)
  else
  (K (0 : Int32)))
  else
  if ((xs (Int32.toNatClampNeg v3)) &&& (31 : Int32)) = 17 then
  (inb (v3 + (1 : Int32)) L ∧
  fX7_lostPackets C (xs (Int32.toNatClampNeg (v3 + (1 : Int32)))) fun r144 =>
  inb (v3 + (1 : Int32)) L ∧
  fX8_lostPackets N (xs (Int32.toNatClampNeg (v3 + (1 : Int32)))) fun r146 =>
  if r144 = r146 then
  (j3 C N)
  else
  (K (0 : Int32)))
  else
  if ((xs (Int32.toNatClampNeg v3)) &&& (31 : Int32)) = 18 then
  (inb (v3 + (1 : Int32)) L ∧
  fX7_runRounds C (xs (Int32.toNatClampNeg (v3 + (1 : Int32)))) fun r149 C150 =>
  inb (v3 + (1 : Int32)) L ∧
  fX8_runRounds N (xs (Int32.toNatClampNeg (v3 + (1 : Int32)))) fun r152 N153 =>
  if r149 = r152 then
  (j3 C150 N153)
  else
  (K (0 : Int32)))
  else
  if ((xs (Int32.toNatClampNeg v3)) &&& (31 : Int32)) = 19 then
  (inb (v3 + (1 : Int32)) L ∧
  fX7_scheduledStream C (xs (Int32.toNatClampNeg (v3 + (1 : Int32)))) fun r156 =>
  inb (v3 + (1 : Int32)) L ∧
  fX8_scheduledStream N (xs (Int32.toNatClampNeg (v3 + (1 : Int32)))) fun r158 =>
  if r156 = r158 then
  (j3 C N)
  else
  (K (0 : Int32)))
  else
  if ((xs (Int32.toNatClampNeg v3)) &&& (31 : Int32)) = 20 then
  (fX7_scheduleBits C fun r160 =>
  fX8_scheduleBits N fun r161 =>
  if r160 = r161 then
  (j3 C N)
  else
  (K (0 : Int32)))
  else
  if ((xs (Int32.toNatClampNeg v3)) &&& (31 : Int32)) = 21 then
  (fX7_host C fun r163 =>
  fX8_host N fun r164 =>
  if r163 = r164 then
  (j3 C N)
  else
  (K (0 : Int32)))
  else
  if ((xs (Int32.toNatClampNeg v3)) &&& (31 : Int32)) = 22 then
  (inb (v3 + (1 : Int32)) L ∧
  fX7_missedSchedules C (xs (Int32.toNatClampNeg (v3 + (1 : Int32)))) fun r167 =>
  inb (v3 + (1 : Int32)) L ∧
  fX8_missedSchedules N (xs (Int32.toNatClampNeg (v3 + (1 : Int32)))) fun r169 =>
  if r167 = r169 then
  (j3 C N)
  else
  (K (0 : Int32)))
  else
  if ((xs (Int32.toNatClampNeg v3)) &&& (31 : Int32)) = 23 then
  (inb (v3 + (1 : Int32)) L ∧
  fX7_transmissions C (xs (Int32.toNatClampNeg (v3 + (1 : Int32)))) fun r172 =>
  inb (v3 + (1 : Int32)) L ∧
  fX8_transmissions N (xs (Int32.toNatClampNeg (v3 + (1 : Int32)))) fun r174 =>
  if r172 = r174 then
  (j3 C N)
  else
  (K (0 : Int32)))
  else
  if ((xs (Int32.toNatClampNeg v3)) &&& (31 : Int32)) = 24 then
  (fX7_roundNumber C fun r176 =>
  fX8_roundNumber N fun r177 =>
  if r176 = r177 then
  (j3 C N)
  else
  (K (0 : Int32)))
  else
  if ((xs (Int32.toNatClampNeg v3)) &&& (31 : Int32)) = 25 then
  (fX7_digest C fun r179 =>
  fX8_digest N fun r180 N181 =>
  if (lg_cmp r179 r180) = 0 then
  (j3 C N181)
  else
  (K (0 : Int32)))
  else
  j3 C N)
set_option maxRecDepth 100000 in
set_option maxHeartbeats 8000000 in
theorem TL_law_L18 {p : Program} {l : Launch} {e : Env} {s : State} {m : MethodId} {args : Array Value} {below : List Frame} {meth : Method} {c : Code} {D : va_G} {G : Gc} {ρ : Nat → Nat} {A : Nat → Prop} {H0 : Heap} {cells slots : Nat} {Q : State → Prop} {b L : Nat} {xs : Nat → Int32} {K : Int32 → Prop} (X : Cx p s m args c cL_law 4 RL wsL_law D G ρ A H0) (hret : ∀ {pc : Nat} {L2 : List (Nat × Value)} {C : Xm} {N : Nm} {v : Int32}, decode cL_law pc = .ok (.ireturn, 1) → K v → V p l e room_1 s m args below meth c D G ρ A H0 4 cells slots Q pc L2 [.int v] C N) (hX : va_X b L xs s H0) (hbl : b < H0.size) (hbA : ¬ A b) (hcs : cells ≤ room_1.cells ∧ slots ≤ room_1.slots)   {E : Int32 → Xm → Nm → Prop} (hE : ∀ (v3 : Int32) (C : Xm) (N : Nm), E v3 C N → V p l e room_1 s m args below meth c D G ρ A H0 4 cells slots Q 723 [(0, .ref b), (1, .ref (ρ 0)), (2, .ref (ρ 66)), (3, .int v3)] [] C N) : ∀ (n : Nat) (v3 : Int32) (C : Xm) (N : Nm), fL_law_L18 L xs  E K n v3 C N → V p l e room_1 s m args below meth c D G ρ A H0 4 cells slots Q 18 [(0, .ref b), (1, .ref (ρ 0)), (2, .ref (ρ 66)), (3, .int v3)] [] C N := by
  intro n
  induction n with
  | zero => intro v3 C N h; exact h.elim
  | succ n ih =>
    intro v3 C N h
    unfold fL_law_L18 at h
    refine V_iload_n X (q := 3) rfl rfl dL_law_18 (n := 19) rfl ?_
    refine V_aload_n X (q := 0) rfl rfl dL_law_19 (n := 20) rfl ?_
    refine V_slen X hX hbl hbA dL_law_20 (n := 21) rfl ?_
    refine V_iconst X (v := 4) (by decide) dL_law_21 (n := 22) rfl ?_
    refine V_isub X dL_law_22 (n := 23) rfl ?_
    refine V_icmp_gt X dL_law_23 (tgt := 723) (n := 26) (by decide) rfl (fun c1 => ?_) (fun c1 => ?_)
    · have h := ite_t h c1
      exact hE v3 C N h
    · have h := ite_f h c1
      refine V_aload_n X (q := 0) rfl rfl dL_law_26 (n := 27) rfl ?_
      refine V_iload_n X (q := 3) rfl rfl dL_law_27 (n := 28) rfl ?_
      obtain ⟨g2, h⟩ := h
      refine V_sld X hX hbl hbA g2 dL_law_28 (n := 29) rfl ?_
      refine V_bipush X (v := 31) (by decide) dL_law_29 (n := 31) rfl ?_
      refine V_iand X dL_law_31 (n := 32) rfl ?_
      refine jn_o h (fun j3 ej3 h => ?_)
      have kj3 : ∀ (C183 : Xm) (N184 : Nm), j3 C183 N184 → V p l e room_1 s m args below meth c D G ρ A H0 4 cells slots Q 717 [(0, .ref b), (1, .ref (ρ 0)), (2, .ref (ρ 66)), (3, .int v3)] [] C183 N184 := by
        intro C183 N184 h
        rw [ej3] at h
        try dsimp only at h
        obtain ⟨x185, ex185⟩ : ∃ z : Int32, z = v3 + (4 : Int32) := ⟨_, rfl⟩
        have h := bd_at h ex185
        refine V_iinc X (q := 3) (d := 4) (L2 := [(3, .int x185), (0, .ref b), (1, .ref (ρ 0)), (2, .ref (ρ 66))]) rfl (by decide) (by decide) ex185 rfl dL_law_717 (n := 720) rfl ?_
        refine V_goto X dL_law_720 (tgt := 18) (by decide) ?_
        refine V_loc [1, 2, 3, 0] rfl ?_
        exact ih x185 C183 N184 h
      by_cases c4 : ((xs (Int32.toNatClampNeg v3)) &&& (31 : Int32)) = 0
      · have h := ite_t h c4
        refine V_tableAt X c4 dL_law_32 (by decide) (by decide) rfl (tgt := 152) (by decide) ?_
        refine V_aload_n X (q := 1) rfl rfl dL_law_152 (n := 153) rfl ?_
        refine V_aload_n X (q := 0) rfl rfl dL_law_153 (n := 154) rfl ?_
        refine V_iload_n X (q := 3) rfl rfl dL_law_154 (n := 155) rfl ?_
        refine V_iconst X (v := 1) (by decide) dL_law_155 (n := 156) rfl ?_
        refine V_iadd X dL_law_156 (n := 157) rfl ?_
        obtain ⟨g30, h⟩ := h
        refine V_sld X hX hbl hbA g30 dL_law_157 (n := 158) rfl ?_
        refine V_calli X (As := [.int (xs (Int32.toNatClampNeg (v3 + (1 : Int32))))]) (rest := []) (nA := 1) (i := 0) (q := (RX7, TX7, 9)) (TX7_append l D G ρ C N (xs (Int32.toNatClampNeg (v3 + (1 : Int32)))) _ h) gL_law_X7_append rfl rfl rfl (by decide +kernel) rfl ⟨by decide, by decide⟩ (Nat.le_of_ble_eq_true rfl) hcs (by decide) rfl rfl rfl dL_law_158 (n := 161) rfl (fun r31 C32 M0 h => ?_)
        obtain ⟨h, eo⟩ := h
        rw [eo]
        refine V_aload_n X (q := 2) rfl rfl dL_law_161 (n := 162) rfl ?_
        refine V_aload_n X (q := 0) rfl rfl dL_law_162 (n := 163) rfl ?_
        refine V_iload_n X (q := 3) rfl rfl dL_law_163 (n := 164) rfl ?_
        refine V_iconst X (v := 1) (by decide) dL_law_164 (n := 165) rfl ?_
        refine V_iadd X dL_law_165 (n := 166) rfl ?_
        obtain ⟨g33, h⟩ := h
        refine V_sld X hX hbl hbA g33 dL_law_166 (n := 167) rfl ?_
        refine V_calli X (As := [.int (xs (Int32.toNatClampNeg (v3 + (1 : Int32))))]) (rest := [.int r31]) (nA := 1) (i := 66) (q := (RX8, TX8, 42)) (TX8_append l D G ρ C32 N (xs (Int32.toNatClampNeg (v3 + (1 : Int32)))) _ h) gL_law_X8_append rfl rfl rfl (by decide +kernel) rfl ⟨by decide, by decide⟩ (Nat.le_of_ble_eq_true rfl) hcs (by decide) rfl rfl rfl dL_law_167 (n := 170) rfl (fun r34 M0 N35 h => ?_)
        obtain ⟨h, eo⟩ := h
        rw [eo]
        refine V_icmp_eq X dL_law_170 (tgt := 717) (n := 173) (by decide) rfl (fun c36 => ?_) (fun c36 => ?_)
        · have h := ite_t h c36
          exact kj3 C32 N35 h
        · have h := ite_f h c36
          refine V_iconst X (v := 0) (by decide) dL_law_173 (n := 174) rfl ?_
          exact hret (v := (0 : Int32)) dL_law_174 h
      · have h := ite_f h c4
        by_cases c5 : ((xs (Int32.toNatClampNeg v3)) &&& (31 : Int32)) = 1
        · have h := ite_t h c5
          refine V_tableAt X c5 dL_law_32 (by decide) (by decide) rfl (tgt := 175) (by decide) ?_
          refine V_aload_n X (q := 1) rfl rfl dL_law_175 (n := 176) rfl ?_
          refine V_calli X (As := []) (rest := []) (nA := 0) (i := 0) (q := (RX7, TX7, 9)) (TX7_clearBuffer l D G ρ C N  _ h) gL_law_X7_clearBuffer rfl rfl rfl (by decide +kernel) rfl ⟨by decide, by decide⟩ (Nat.le_of_ble_eq_true rfl) hcs (by decide) rfl rfl rfl dL_law_176 (n := 179) rfl (fun r37 C38 M0 h => ?_)
          obtain ⟨h, eo⟩ := h
          rw [eo]
          refine V_aload_n X (q := 2) rfl rfl dL_law_179 (n := 180) rfl ?_
          refine V_calli X (As := []) (rest := [.int r37]) (nA := 0) (i := 66) (q := (RX8, TX8, 42)) (TX8_clearBuffer l D G ρ C38 N  _ h) gL_law_X8_clearBuffer rfl rfl rfl (by decide +kernel) rfl ⟨by decide, by decide⟩ (Nat.le_of_ble_eq_true rfl) hcs (by decide) rfl rfl rfl dL_law_180 (n := 183) rfl (fun r39 M0 N40 h => ?_)
          obtain ⟨h, eo⟩ := h
          rw [eo]
          refine V_icmp_eq X dL_law_183 (tgt := 717) (n := 186) (by decide) rfl (fun c41 => ?_) (fun c41 => ?_)
          · have h := ite_t h c41
            exact kj3 C38 N40 h
          · have h := ite_f h c41
            refine V_iconst X (v := 0) (by decide) dL_law_186 (n := 187) rfl ?_
            exact hret (v := (0 : Int32)) dL_law_187 h
        · have h := ite_f h c5
          by_cases c6 : ((xs (Int32.toNatClampNeg v3)) &&& (31 : Int32)) = 2
          · have h := ite_t h c6
            refine V_tableAt X c6 dL_law_32 (by decide) (by decide) rfl (tgt := 188) (by decide) ?_
            refine V_aload_n X (q := 1) rfl rfl dL_law_188 (n := 189) rfl ?_
            refine V_calli X (As := []) (rest := []) (nA := 0) (i := 0) (q := (RX7, TX7, 9)) (TX7_errorPosition l D G ρ C N  _ h) gL_law_X7_errorPosition rfl rfl rfl (by decide +kernel) rfl ⟨by decide, by decide⟩ (Nat.le_of_ble_eq_true rfl) hcs (by decide) rfl rfl rfl dL_law_189 (n := 192) rfl (fun r42 C43 M0 h => ?_)
            obtain ⟨h, eo⟩ := h
            rw [eo]
            refine V_aload_n X (q := 2) rfl rfl dL_law_192 (n := 193) rfl ?_
            refine V_calli X (As := []) (rest := [.int r42]) (nA := 0) (i := 66) (q := (RX8, TX8, 42)) (TX8_errorPosition l D G ρ C43 N  _ h) gL_law_X8_errorPosition rfl rfl rfl (by decide +kernel) rfl ⟨by decide, by decide⟩ (Nat.le_of_ble_eq_true rfl) hcs (by decide) rfl rfl rfl dL_law_193 (n := 196) rfl (fun r44 M0 N45 h => ?_)
            obtain ⟨h, eo⟩ := h
            rw [eo]
            refine V_icmp_eq X dL_law_196 (tgt := 717) (n := 199) (by decide) rfl (fun c46 => ?_) (fun c46 => ?_)
            · have h := ite_t h c46
              exact kj3 C43 N45 h
            · have h := ite_f h c46
              refine V_iconst X (v := 0) (by decide) dL_law_199 (n := 200) rfl ?_
              exact hret (v := (0 : Int32)) dL_law_200 h
          · have h := ite_f h c6
            by_cases c7 : ((xs (Int32.toNatClampNeg v3)) &&& (31 : Int32)) = 3
            · have h := ite_t h c7
              refine V_tableAt X c7 dL_law_32 (by decide) (by decide) rfl (tgt := 201) (by decide) ?_
              refine V_aload_n X (q := 1) rfl rfl dL_law_201 (n := 202) rfl ?_
              refine V_calli X (As := []) (rest := []) (nA := 0) (i := 0) (q := (RX7, TX7, 9)) (TX7_loadNetwork l D G ρ C N  _ h) gL_law_X7_loadNetwork rfl rfl rfl (by decide +kernel) rfl ⟨by decide, by decide⟩ (Nat.le_of_ble_eq_true rfl) hcs (by decide) rfl rfl rfl dL_law_202 (n := 205) rfl (fun r47 C48 M0 h => ?_)
              obtain ⟨h, eo⟩ := h
              rw [eo]
              refine V_aload_n X (q := 2) rfl rfl dL_law_205 (n := 206) rfl ?_
              refine V_calli X (As := []) (rest := [.int r47]) (nA := 0) (i := 66) (q := (RX8, TX8, 42)) (TX8_loadNetwork l D G ρ C48 N  _ h) gL_law_X8_loadNetwork rfl rfl rfl (by decide +kernel) rfl ⟨by decide, by decide⟩ (Nat.le_of_ble_eq_true rfl) hcs (by decide) rfl rfl rfl dL_law_206 (n := 209) rfl (fun r49 M0 N50 h => ?_)
              obtain ⟨h, eo⟩ := h
              rw [eo]
              refine V_icmp_eq X dL_law_209 (tgt := 717) (n := 212) (by decide) rfl (fun c51 => ?_) (fun c51 => ?_)
              · have h := ite_t h c51
                exact kj3 C48 N50 h
              · have h := ite_f h c51
                refine V_iconst X (v := 0) (by decide) dL_law_212 (n := 213) rfl ?_
                exact hret (v := (0 : Int32)) dL_law_213 h
            · have h := ite_f h c7
              by_cases c8 : ((xs (Int32.toNatClampNeg v3)) &&& (31 : Int32)) = 4
              · have h := ite_t h c8
                refine V_tableAt X c8 dL_law_32 (by decide) (by decide) rfl (tgt := 214) (by decide) ?_
                refine V_aload_n X (q := 1) rfl rfl dL_law_214 (n := 215) rfl ?_
                refine V_aload_n X (q := 0) rfl rfl dL_law_215 (n := 216) rfl ?_
                refine V_iload_n X (q := 3) rfl rfl dL_law_216 (n := 217) rfl ?_
                refine V_iconst X (v := 1) (by decide) dL_law_217 (n := 218) rfl ?_
                refine V_iadd X dL_law_218 (n := 219) rfl ?_
                obtain ⟨g52, h⟩ := h
                refine V_sld X hX hbl hbA g52 dL_law_219 (n := 220) rfl ?_
                refine V_calli X (As := [.int (xs (Int32.toNatClampNeg (v3 + (1 : Int32))))]) (rest := []) (nA := 1) (i := 0) (q := (RX7, TX7, 9)) (TX7_setTransmissionLimit l D G ρ C N (xs (Int32.toNatClampNeg (v3 + (1 : Int32)))) _ h) gL_law_X7_setTransmissionLimit rfl rfl rfl (by decide +kernel) rfl ⟨by decide, by decide⟩ (Nat.le_of_ble_eq_true rfl) hcs (by decide) rfl rfl rfl dL_law_220 (n := 223) rfl (fun r53 C54 M0 h => ?_)
                obtain ⟨h, eo⟩ := h
                rw [eo]
                refine V_aload_n X (q := 2) rfl rfl dL_law_223 (n := 224) rfl ?_
                refine V_aload_n X (q := 0) rfl rfl dL_law_224 (n := 225) rfl ?_
                refine V_iload_n X (q := 3) rfl rfl dL_law_225 (n := 226) rfl ?_
                refine V_iconst X (v := 1) (by decide) dL_law_226 (n := 227) rfl ?_
                refine V_iadd X dL_law_227 (n := 228) rfl ?_
                obtain ⟨g55, h⟩ := h
                refine V_sld X hX hbl hbA g55 dL_law_228 (n := 229) rfl ?_
                refine V_calli X (As := [.int (xs (Int32.toNatClampNeg (v3 + (1 : Int32))))]) (rest := [.int r53]) (nA := 1) (i := 66) (q := (RX8, TX8, 42)) (TX8_setTransmissionLimit l D G ρ C54 N (xs (Int32.toNatClampNeg (v3 + (1 : Int32)))) _ h) gL_law_X8_setTransmissionLimit rfl rfl rfl (by decide +kernel) rfl ⟨by decide, by decide⟩ (Nat.le_of_ble_eq_true rfl) hcs (by decide) rfl rfl rfl dL_law_229 (n := 232) rfl (fun r56 M0 N57 h => ?_)
                obtain ⟨h, eo⟩ := h
                rw [eo]
                refine V_icmp_eq X dL_law_232 (tgt := 717) (n := 235) (by decide) rfl (fun c58 => ?_) (fun c58 => ?_)
                · have h := ite_t h c58
                  exact kj3 C54 N57 h
                · have h := ite_f h c58
                  refine V_iconst X (v := 0) (by decide) dL_law_235 (n := 236) rfl ?_
                  exact hret (v := (0 : Int32)) dL_law_236 h
              · have h := ite_f h c8
                by_cases c9 : ((xs (Int32.toNatClampNeg v3)) &&& (31 : Int32)) = 5
                · have h := ite_t h c9
                  refine V_tableAt X c9 dL_law_32 (by decide) (by decide) rfl (tgt := 237) (by decide) ?_
                  refine V_aload_n X (q := 1) rfl rfl dL_law_237 (n := 238) rfl ?_
                  refine V_aload_n X (q := 0) rfl rfl dL_law_238 (n := 239) rfl ?_
                  refine V_iload_n X (q := 3) rfl rfl dL_law_239 (n := 240) rfl ?_
                  refine V_iconst X (v := 1) (by decide) dL_law_240 (n := 241) rfl ?_
                  refine V_iadd X dL_law_241 (n := 242) rfl ?_
                  obtain ⟨g59, h⟩ := h
                  refine V_sld X hX hbl hbA g59 dL_law_242 (n := 243) rfl ?_
                  refine V_calli X (As := [.int (xs (Int32.toNatClampNeg (v3 + (1 : Int32))))]) (rest := []) (nA := 1) (i := 0) (q := (RX7, TX7, 9)) (TX7_setCaptureMargin l D G ρ C N (xs (Int32.toNatClampNeg (v3 + (1 : Int32)))) _ h) gL_law_X7_setCaptureMargin rfl rfl rfl (by decide +kernel) rfl ⟨by decide, by decide⟩ (Nat.le_of_ble_eq_true rfl) hcs (by decide) rfl rfl rfl dL_law_243 (n := 246) rfl (fun r60 C61 M0 h => ?_)
                  obtain ⟨h, eo⟩ := h
                  rw [eo]
                  refine V_aload_n X (q := 2) rfl rfl dL_law_246 (n := 247) rfl ?_
                  refine V_aload_n X (q := 0) rfl rfl dL_law_247 (n := 248) rfl ?_
                  refine V_iload_n X (q := 3) rfl rfl dL_law_248 (n := 249) rfl ?_
                  refine V_iconst X (v := 1) (by decide) dL_law_249 (n := 250) rfl ?_
                  refine V_iadd X dL_law_250 (n := 251) rfl ?_
                  obtain ⟨g62, h⟩ := h
                  refine V_sld X hX hbl hbA g62 dL_law_251 (n := 252) rfl ?_
                  refine V_calli X (As := [.int (xs (Int32.toNatClampNeg (v3 + (1 : Int32))))]) (rest := [.int r60]) (nA := 1) (i := 66) (q := (RX8, TX8, 42)) (TX8_setCaptureMargin l D G ρ C61 N (xs (Int32.toNatClampNeg (v3 + (1 : Int32)))) _ h) gL_law_X8_setCaptureMargin rfl rfl rfl (by decide +kernel) rfl ⟨by decide, by decide⟩ (Nat.le_of_ble_eq_true rfl) hcs (by decide) rfl rfl rfl dL_law_252 (n := 255) rfl (fun r63 M0 N64 h => ?_)
                  obtain ⟨h, eo⟩ := h
                  rw [eo]
                  refine V_icmp_eq X dL_law_255 (tgt := 717) (n := 258) (by decide) rfl (fun c65 => ?_) (fun c65 => ?_)
                  · have h := ite_t h c65
                    exact kj3 C61 N64 h
                  · have h := ite_f h c65
                    refine V_iconst X (v := 0) (by decide) dL_law_258 (n := 259) rfl ?_
                    exact hret (v := (0 : Int32)) dL_law_259 h
                · have h := ite_f h c9
                  by_cases c10 : ((xs (Int32.toNatClampNeg v3)) &&& (31 : Int32)) = 6
                  · have h := ite_t h c10
                    refine V_tableAt X c10 dL_law_32 (by decide) (by decide) rfl (tgt := 260) (by decide) ?_
                    refine V_aload_n X (q := 1) rfl rfl dL_law_260 (n := 261) rfl ?_
                    refine V_aload_n X (q := 0) rfl rfl dL_law_261 (n := 262) rfl ?_
                    refine V_iload_n X (q := 3) rfl rfl dL_law_262 (n := 263) rfl ?_
                    refine V_iconst X (v := 1) (by decide) dL_law_263 (n := 264) rfl ?_
                    refine V_iadd X dL_law_264 (n := 265) rfl ?_
                    obtain ⟨g66, h⟩ := h
                    refine V_sld X hX hbl hbA g66 dL_law_265 (n := 266) rfl ?_
                    refine V_calli X (As := [.int (xs (Int32.toNatClampNeg (v3 + (1 : Int32))))]) (rest := []) (nA := 1) (i := 0) (q := (RX7, TX7, 9)) (TX7_setSlotLimit l D G ρ C N (xs (Int32.toNatClampNeg (v3 + (1 : Int32)))) _ h) gL_law_X7_setSlotLimit rfl rfl rfl (by decide +kernel) rfl ⟨by decide, by decide⟩ (Nat.le_of_ble_eq_true rfl) hcs (by decide) rfl rfl rfl dL_law_266 (n := 269) rfl (fun r67 C68 M0 h => ?_)
                    obtain ⟨h, eo⟩ := h
                    rw [eo]
                    refine V_aload_n X (q := 2) rfl rfl dL_law_269 (n := 270) rfl ?_
                    refine V_aload_n X (q := 0) rfl rfl dL_law_270 (n := 271) rfl ?_
                    refine V_iload_n X (q := 3) rfl rfl dL_law_271 (n := 272) rfl ?_
                    refine V_iconst X (v := 1) (by decide) dL_law_272 (n := 273) rfl ?_
                    refine V_iadd X dL_law_273 (n := 274) rfl ?_
                    obtain ⟨g69, h⟩ := h
                    refine V_sld X hX hbl hbA g69 dL_law_274 (n := 275) rfl ?_
                    refine V_calli X (As := [.int (xs (Int32.toNatClampNeg (v3 + (1 : Int32))))]) (rest := [.int r67]) (nA := 1) (i := 66) (q := (RX8, TX8, 42)) (TX8_setSlotLimit l D G ρ C68 N (xs (Int32.toNatClampNeg (v3 + (1 : Int32)))) _ h) gL_law_X8_setSlotLimit rfl rfl rfl (by decide +kernel) rfl ⟨by decide, by decide⟩ (Nat.le_of_ble_eq_true rfl) hcs (by decide) rfl rfl rfl dL_law_275 (n := 278) rfl (fun r70 M0 N71 h => ?_)
                    obtain ⟨h, eo⟩ := h
                    rw [eo]
                    refine V_icmp_eq X dL_law_278 (tgt := 717) (n := 281) (by decide) rfl (fun c72 => ?_) (fun c72 => ?_)
                    · have h := ite_t h c72
                      exact kj3 C68 N71 h
                    · have h := ite_f h c72
                      refine V_iconst X (v := 0) (by decide) dL_law_281 (n := 282) rfl ?_
                      exact hret (v := (0 : Int32)) dL_law_282 h
                  · have h := ite_f h c10
                    by_cases c11 : ((xs (Int32.toNatClampNeg v3)) &&& (31 : Int32)) = 7
                    · have h := ite_t h c11
                      refine V_tableAt X c11 dL_law_32 (by decide) (by decide) rfl (tgt := 283) (by decide) ?_
                      refine V_aload_n X (q := 1) rfl rfl dL_law_283 (n := 284) rfl ?_
                      refine V_aload_n X (q := 0) rfl rfl dL_law_284 (n := 285) rfl ?_
                      refine V_iload_n X (q := 3) rfl rfl dL_law_285 (n := 286) rfl ?_
                      refine V_iconst X (v := 1) (by decide) dL_law_286 (n := 287) rfl ?_
                      refine V_iadd X dL_law_287 (n := 288) rfl ?_
                      obtain ⟨g73, h⟩ := h
                      refine V_sld X hX hbl hbA g73 dL_law_288 (n := 289) rfl ?_
                      refine V_calli X (As := [.int (xs (Int32.toNatClampNeg (v3 + (1 : Int32))))]) (rest := []) (nA := 1) (i := 0) (q := (RX7, TX7, 9)) (TX7_setTakeoverLimit l D G ρ C N (xs (Int32.toNatClampNeg (v3 + (1 : Int32)))) _ h) gL_law_X7_setTakeoverLimit rfl rfl rfl (by decide +kernel) rfl ⟨by decide, by decide⟩ (Nat.le_of_ble_eq_true rfl) hcs (by decide) rfl rfl rfl dL_law_289 (n := 292) rfl (fun r74 C75 M0 h => ?_)
                      obtain ⟨h, eo⟩ := h
                      rw [eo]
                      refine V_aload_n X (q := 2) rfl rfl dL_law_292 (n := 293) rfl ?_
                      refine V_aload_n X (q := 0) rfl rfl dL_law_293 (n := 294) rfl ?_
                      refine V_iload_n X (q := 3) rfl rfl dL_law_294 (n := 295) rfl ?_
                      refine V_iconst X (v := 1) (by decide) dL_law_295 (n := 296) rfl ?_
                      refine V_iadd X dL_law_296 (n := 297) rfl ?_
                      obtain ⟨g76, h⟩ := h
                      refine V_sld X hX hbl hbA g76 dL_law_297 (n := 298) rfl ?_
                      refine V_calli X (As := [.int (xs (Int32.toNatClampNeg (v3 + (1 : Int32))))]) (rest := [.int r74]) (nA := 1) (i := 66) (q := (RX8, TX8, 42)) (TX8_setTakeoverLimit l D G ρ C75 N (xs (Int32.toNatClampNeg (v3 + (1 : Int32)))) _ h) gL_law_X8_setTakeoverLimit rfl rfl rfl (by decide +kernel) rfl ⟨by decide, by decide⟩ (Nat.le_of_ble_eq_true rfl) hcs (by decide) rfl rfl rfl dL_law_298 (n := 301) rfl (fun r77 M0 N78 h => ?_)
                      obtain ⟨h, eo⟩ := h
                      rw [eo]
                      refine V_icmp_eq X dL_law_301 (tgt := 717) (n := 304) (by decide) rfl (fun c79 => ?_) (fun c79 => ?_)
                      · have h := ite_t h c79
                        exact kj3 C75 N78 h
                      · have h := ite_f h c79
                        refine V_iconst X (v := 0) (by decide) dL_law_304 (n := 305) rfl ?_
                        exact hret (v := (0 : Int32)) dL_law_305 h
                    · have h := ite_f h c11
                      by_cases c12 : ((xs (Int32.toNatClampNeg v3)) &&& (31 : Int32)) = 8
                      · have h := ite_t h c12
                        refine V_tableAt X c12 dL_law_32 (by decide) (by decide) rfl (tgt := 306) (by decide) ?_
                        refine V_aload_n X (q := 1) rfl rfl dL_law_306 (n := 307) rfl ?_
                        refine V_aload_n X (q := 0) rfl rfl dL_law_307 (n := 308) rfl ?_
                        refine V_iload_n X (q := 3) rfl rfl dL_law_308 (n := 309) rfl ?_
                        refine V_iconst X (v := 1) (by decide) dL_law_309 (n := 310) rfl ?_
                        refine V_iadd X dL_law_310 (n := 311) rfl ?_
                        obtain ⟨g80, h⟩ := h
                        refine V_sld X hX hbl hbA g80 dL_law_311 (n := 312) rfl ?_
                        refine V_aload_n X (q := 0) rfl rfl dL_law_312 (n := 313) rfl ?_
                        refine V_iload_n X (q := 3) rfl rfl dL_law_313 (n := 314) rfl ?_
                        refine V_iconst X (v := 2) (by decide) dL_law_314 (n := 315) rfl ?_
                        refine V_iadd X dL_law_315 (n := 316) rfl ?_
                        obtain ⟨g81, h⟩ := h
                        refine V_sld X hX hbl hbA g81 dL_law_316 (n := 317) rfl ?_
                        refine jn_o h (fun j82 ej82 h => ?_)
                        have kj82 : ∀ (x84 : Int32), j82 x84 → V p l e room_1 s m args below meth c D G ρ A H0 4 cells slots Q 325 [(0, .ref b), (1, .ref (ρ 0)), (2, .ref (ρ 66)), (3, .int v3)] [.int x84, .int (xs (Int32.toNatClampNeg (v3 + (1 : Int32)))), .ref (ρ 0)] C N := by
                          intro x84 h
                          rw [ej82] at h
                          try dsimp only at h
                          refine V_calli X (As := [.int (xs (Int32.toNatClampNeg (v3 + (1 : Int32)))), .int x84]) (rest := []) (nA := 2) (i := 0) (q := (RX7, TX7, 9)) (TX7_setAlive l D G ρ C N (xs (Int32.toNatClampNeg (v3 + (1 : Int32)))) x84 _ h) gL_law_X7_setAlive rfl rfl rfl (by decide +kernel) rfl ⟨by decide, by decide⟩ (Nat.le_of_ble_eq_true rfl) hcs (by decide) rfl rfl rfl dL_law_325 (n := 328) rfl (fun r85 C86 M0 h => ?_)
                          obtain ⟨h, eo⟩ := h
                          rw [eo]
                          refine V_aload_n X (q := 2) rfl rfl dL_law_328 (n := 329) rfl ?_
                          refine V_aload_n X (q := 0) rfl rfl dL_law_329 (n := 330) rfl ?_
                          refine V_iload_n X (q := 3) rfl rfl dL_law_330 (n := 331) rfl ?_
                          refine V_iconst X (v := 1) (by decide) dL_law_331 (n := 332) rfl ?_
                          refine V_iadd X dL_law_332 (n := 333) rfl ?_
                          obtain ⟨g87, h⟩ := h
                          refine V_sld X hX hbl hbA g87 dL_law_333 (n := 334) rfl ?_
                          refine V_aload_n X (q := 0) rfl rfl dL_law_334 (n := 335) rfl ?_
                          refine V_iload_n X (q := 3) rfl rfl dL_law_335 (n := 336) rfl ?_
                          refine V_iconst X (v := 2) (by decide) dL_law_336 (n := 337) rfl ?_
                          refine V_iadd X dL_law_337 (n := 338) rfl ?_
                          obtain ⟨g88, h⟩ := h
                          refine V_sld X hX hbl hbA g88 dL_law_338 (n := 339) rfl ?_
                          refine jn_o h (fun j89 ej89 h => ?_)
                          have kj89 : ∀ (x91 : Int32), j89 x91 → V p l e room_1 s m args below meth c D G ρ A H0 4 cells slots Q 347 [(0, .ref b), (1, .ref (ρ 0)), (2, .ref (ρ 66)), (3, .int v3)] [.int x91, .int (xs (Int32.toNatClampNeg (v3 + (1 : Int32)))), .ref (ρ 66), .int r85] C86 N := by
                            intro x91 h
                            rw [ej89] at h
                            try dsimp only at h
                            refine V_calli X (As := [.int (xs (Int32.toNatClampNeg (v3 + (1 : Int32)))), .int x91]) (rest := [.int r85]) (nA := 2) (i := 66) (q := (RX8, TX8, 42)) (TX8_setAlive l D G ρ C86 N (xs (Int32.toNatClampNeg (v3 + (1 : Int32)))) x91 _ h) gL_law_X8_setAlive rfl rfl rfl (by decide +kernel) rfl ⟨by decide, by decide⟩ (Nat.le_of_ble_eq_true rfl) hcs (by decide) rfl rfl rfl dL_law_347 (n := 350) rfl (fun r92 M0 N93 h => ?_)
                            obtain ⟨h, eo⟩ := h
                            rw [eo]
                            refine V_icmp_eq X dL_law_350 (tgt := 717) (n := 353) (by decide) rfl (fun c94 => ?_) (fun c94 => ?_)
                            · have h := ite_t h c94
                              exact kj3 C86 N93 h
                            · have h := ite_f h c94
                              refine V_iconst X (v := 0) (by decide) dL_law_353 (n := 354) rfl ?_
                              exact hret (v := (0 : Int32)) dL_law_354 h
                          refine V_if_eq X dL_law_339 (tgt := 346) (n := 342) (by decide) rfl (fun c90 => ?_) (fun c90 => ?_)
                          · have h := ite_t h c90
                            refine V_iconst X (v := 0) (by decide) dL_law_346 (n := 347) rfl ?_
                            exact kj89 (0 : Int32) h
                          · have h := ite_f h c90
                            refine V_iconst X (v := 1) (by decide) dL_law_342 (n := 343) rfl ?_
                            refine V_goto X dL_law_343 (tgt := 347) (by decide) ?_
                            exact kj89 (1 : Int32) h
                        refine V_if_eq X dL_law_317 (tgt := 324) (n := 320) (by decide) rfl (fun c83 => ?_) (fun c83 => ?_)
                        · have h := ite_t h c83
                          refine V_iconst X (v := 0) (by decide) dL_law_324 (n := 325) rfl ?_
                          exact kj82 (0 : Int32) h
                        · have h := ite_f h c83
                          refine V_iconst X (v := 1) (by decide) dL_law_320 (n := 321) rfl ?_
                          refine V_goto X dL_law_321 (tgt := 325) (by decide) ?_
                          exact kj82 (1 : Int32) h
                      · have h := ite_f h c12
                        by_cases c13 : ((xs (Int32.toNatClampNeg v3)) &&& (31 : Int32)) = 9
                        · have h := ite_t h c13
                          refine V_tableAt X c13 dL_law_32 (by decide) (by decide) rfl (tgt := 355) (by decide) ?_
                          refine V_aload_n X (q := 1) rfl rfl dL_law_355 (n := 356) rfl ?_
                          refine V_aload_n X (q := 0) rfl rfl dL_law_356 (n := 357) rfl ?_
                          refine V_iload_n X (q := 3) rfl rfl dL_law_357 (n := 358) rfl ?_
                          refine V_iconst X (v := 1) (by decide) dL_law_358 (n := 359) rfl ?_
                          refine V_iadd X dL_law_359 (n := 360) rfl ?_
                          obtain ⟨g95, h⟩ := h
                          refine V_sld X hX hbl hbA g95 dL_law_360 (n := 361) rfl ?_
                          refine V_calli X (As := [.int (xs (Int32.toNatClampNeg (v3 + (1 : Int32))))]) (rest := []) (nA := 1) (i := 0) (q := (RX7, TX7, 9)) (TX7_flood l D G ρ C N (xs (Int32.toNatClampNeg (v3 + (1 : Int32)))) _ h) gL_law_X7_flood rfl rfl rfl (by decide +kernel) rfl ⟨by decide, by decide⟩ (Nat.le_of_ble_eq_true rfl) hcs (by decide) rfl rfl rfl dL_law_361 (n := 364) rfl (fun r96 C97 M0 h => ?_)
                          obtain ⟨h, eo⟩ := h
                          rw [eo]
                          refine V_aload_n X (q := 2) rfl rfl dL_law_364 (n := 365) rfl ?_
                          refine V_aload_n X (q := 0) rfl rfl dL_law_365 (n := 366) rfl ?_
                          refine V_iload_n X (q := 3) rfl rfl dL_law_366 (n := 367) rfl ?_
                          refine V_iconst X (v := 1) (by decide) dL_law_367 (n := 368) rfl ?_
                          refine V_iadd X dL_law_368 (n := 369) rfl ?_
                          obtain ⟨g98, h⟩ := h
                          refine V_sld X hX hbl hbA g98 dL_law_369 (n := 370) rfl ?_
                          refine V_calli X (As := [.int (xs (Int32.toNatClampNeg (v3 + (1 : Int32))))]) (rest := [.int r96]) (nA := 1) (i := 66) (q := (RX8, TX8, 42)) (TX8_flood l D G ρ C97 N (xs (Int32.toNatClampNeg (v3 + (1 : Int32)))) _ h) gL_law_X8_flood rfl rfl rfl (by decide +kernel) rfl ⟨by decide, by decide⟩ (Nat.le_of_ble_eq_true rfl) hcs (by decide) rfl rfl rfl dL_law_370 (n := 373) rfl (fun r99 M0 N100 h => ?_)
                          obtain ⟨h, eo⟩ := h
                          rw [eo]
                          refine V_icmp_eq X dL_law_373 (tgt := 717) (n := 376) (by decide) rfl (fun c101 => ?_) (fun c101 => ?_)
                          · have h := ite_t h c101
                            exact kj3 C97 N100 h
                          · have h := ite_f h c101
                            refine V_iconst X (v := 0) (by decide) dL_law_376 (n := 377) rfl ?_
                            exact hret (v := (0 : Int32)) dL_law_377 h
                        · have h := ite_f h c13
                          by_cases c14 : ((xs (Int32.toNatClampNeg v3)) &&& (31 : Int32)) = 10
                          · have h := ite_t h c14
                            refine V_tableAt X c14 dL_law_32 (by decide) (by decide) rfl (tgt := 378) (by decide) ?_
                            refine V_aload_n X (q := 1) rfl rfl dL_law_378 (n := 379) rfl ?_
                            refine V_aload_n X (q := 0) rfl rfl dL_law_379 (n := 380) rfl ?_
                            refine V_iload_n X (q := 3) rfl rfl dL_law_380 (n := 381) rfl ?_
                            refine V_iconst X (v := 1) (by decide) dL_law_381 (n := 382) rfl ?_
                            refine V_iadd X dL_law_382 (n := 383) rfl ?_
                            obtain ⟨g102, h⟩ := h
                            refine V_sld X hX hbl hbA g102 dL_law_383 (n := 384) rfl ?_
                            refine V_calli X (As := [.int (xs (Int32.toNatClampNeg (v3 + (1 : Int32))))]) (rest := []) (nA := 1) (i := 0) (q := (RX7, TX7, 9)) (TX7_packetAt l D G ρ C N (xs (Int32.toNatClampNeg (v3 + (1 : Int32)))) _ h) gL_law_X7_packetAt rfl rfl rfl (by decide +kernel) rfl ⟨by decide, by decide⟩ (Nat.le_of_ble_eq_true rfl) hcs (by decide) rfl rfl rfl dL_law_384 (n := 387) rfl (fun r103 M1 M0 h => ?_)
                            obtain ⟨h, eo, eo2⟩ := h
                            rw [eo, eo2]
                            refine V_aload_n X (q := 2) rfl rfl dL_law_387 (n := 388) rfl ?_
                            refine V_aload_n X (q := 0) rfl rfl dL_law_388 (n := 389) rfl ?_
                            refine V_iload_n X (q := 3) rfl rfl dL_law_389 (n := 390) rfl ?_
                            refine V_iconst X (v := 1) (by decide) dL_law_390 (n := 391) rfl ?_
                            refine V_iadd X dL_law_391 (n := 392) rfl ?_
                            obtain ⟨g104, h⟩ := h
                            refine V_sld X hX hbl hbA g104 dL_law_392 (n := 393) rfl ?_
                            refine V_calli X (As := [.int (xs (Int32.toNatClampNeg (v3 + (1 : Int32))))]) (rest := [.int r103]) (nA := 1) (i := 66) (q := (RX8, TX8, 42)) (TX8_packetAt l D G ρ C N (xs (Int32.toNatClampNeg (v3 + (1 : Int32)))) _ h) gL_law_X8_packetAt rfl rfl rfl (by decide +kernel) rfl ⟨by decide, by decide⟩ (Nat.le_of_ble_eq_true rfl) hcs (by decide) rfl rfl rfl dL_law_393 (n := 396) rfl (fun r105 M1 M0 h => ?_)
                            obtain ⟨h, eo, eo2⟩ := h
                            rw [eo, eo2]
                            refine V_icmp_eq X dL_law_396 (tgt := 717) (n := 399) (by decide) rfl (fun c106 => ?_) (fun c106 => ?_)
                            · have h := ite_t h c106
                              exact kj3 C N h
                            · have h := ite_f h c106
                              refine V_iconst X (v := 0) (by decide) dL_law_399 (n := 400) rfl ?_
                              exact hret (v := (0 : Int32)) dL_law_400 h
                          · have h := ite_f h c14
                            by_cases c15 : ((xs (Int32.toNatClampNeg v3)) &&& (31 : Int32)) = 11
                            · have h := ite_t h c15
                              refine V_tableAt X c15 dL_law_32 (by decide) (by decide) rfl (tgt := 401) (by decide) ?_
                              refine V_aload_n X (q := 1) rfl rfl dL_law_401 (n := 402) rfl ?_
                              refine V_aload_n X (q := 0) rfl rfl dL_law_402 (n := 403) rfl ?_
                              refine V_iload_n X (q := 3) rfl rfl dL_law_403 (n := 404) rfl ?_
                              refine V_iconst X (v := 1) (by decide) dL_law_404 (n := 405) rfl ?_
                              refine V_iadd X dL_law_405 (n := 406) rfl ?_
                              obtain ⟨g107, h⟩ := h
                              refine V_sld X hX hbl hbA g107 dL_law_406 (n := 407) rfl ?_
                              refine V_calli X (As := [.int (xs (Int32.toNatClampNeg (v3 + (1 : Int32))))]) (rest := []) (nA := 1) (i := 0) (q := (RX7, TX7, 9)) (TX7_hopCount l D G ρ C N (xs (Int32.toNatClampNeg (v3 + (1 : Int32)))) _ h) gL_law_X7_hopCount rfl rfl rfl (by decide +kernel) rfl ⟨by decide, by decide⟩ (Nat.le_of_ble_eq_true rfl) hcs (by decide) rfl rfl rfl dL_law_407 (n := 410) rfl (fun r108 M1 M0 h => ?_)
                              obtain ⟨h, eo, eo2⟩ := h
                              rw [eo, eo2]
                              refine V_aload_n X (q := 2) rfl rfl dL_law_410 (n := 411) rfl ?_
                              refine V_aload_n X (q := 0) rfl rfl dL_law_411 (n := 412) rfl ?_
                              refine V_iload_n X (q := 3) rfl rfl dL_law_412 (n := 413) rfl ?_
                              refine V_iconst X (v := 1) (by decide) dL_law_413 (n := 414) rfl ?_
                              refine V_iadd X dL_law_414 (n := 415) rfl ?_
                              obtain ⟨g109, h⟩ := h
                              refine V_sld X hX hbl hbA g109 dL_law_415 (n := 416) rfl ?_
                              refine V_calli X (As := [.int (xs (Int32.toNatClampNeg (v3 + (1 : Int32))))]) (rest := [.int r108]) (nA := 1) (i := 66) (q := (RX8, TX8, 42)) (TX8_hopCount l D G ρ C N (xs (Int32.toNatClampNeg (v3 + (1 : Int32)))) _ h) gL_law_X8_hopCount rfl rfl rfl (by decide +kernel) rfl ⟨by decide, by decide⟩ (Nat.le_of_ble_eq_true rfl) hcs (by decide) rfl rfl rfl dL_law_416 (n := 419) rfl (fun r110 M1 M0 h => ?_)
                              obtain ⟨h, eo, eo2⟩ := h
                              rw [eo, eo2]
                              refine V_icmp_eq X dL_law_419 (tgt := 717) (n := 422) (by decide) rfl (fun c111 => ?_) (fun c111 => ?_)
                              · have h := ite_t h c111
                                exact kj3 C N h
                              · have h := ite_f h c111
                                refine V_iconst X (v := 0) (by decide) dL_law_422 (n := 423) rfl ?_
                                exact hret (v := (0 : Int32)) dL_law_423 h
                            · have h := ite_f h c15
                              by_cases c16 : ((xs (Int32.toNatClampNeg v3)) &&& (31 : Int32)) = 12
                              · have h := ite_t h c16
                                refine V_tableAt X c16 dL_law_32 (by decide) (by decide) rfl (tgt := 424) (by decide) ?_
                                refine V_aload_n X (q := 1) rfl rfl dL_law_424 (n := 425) rfl ?_
                                refine V_calli X (As := []) (rest := []) (nA := 0) (i := 0) (q := (RX7, TX7, 9)) (TX7_floodLength l D G ρ C N  _ h) gL_law_X7_floodLength rfl rfl rfl (by decide +kernel) rfl ⟨by decide, by decide⟩ (Nat.le_of_ble_eq_true rfl) hcs (by decide) rfl rfl rfl dL_law_425 (n := 428) rfl (fun r112 M1 M0 h => ?_)
                                obtain ⟨h, eo, eo2⟩ := h
                                rw [eo, eo2]
                                refine V_aload_n X (q := 2) rfl rfl dL_law_428 (n := 429) rfl ?_
                                refine V_calli X (As := []) (rest := [.int r112]) (nA := 0) (i := 66) (q := (RX8, TX8, 42)) (TX8_floodLength l D G ρ C N  _ h) gL_law_X8_floodLength rfl rfl rfl (by decide +kernel) rfl ⟨by decide, by decide⟩ (Nat.le_of_ble_eq_true rfl) hcs (by decide) rfl rfl rfl dL_law_429 (n := 432) rfl (fun r113 M1 M0 h => ?_)
                                obtain ⟨h, eo, eo2⟩ := h
                                rw [eo, eo2]
                                refine V_icmp_eq X dL_law_432 (tgt := 717) (n := 435) (by decide) rfl (fun c114 => ?_) (fun c114 => ?_)
                                · have h := ite_t h c114
                                  exact kj3 C N h
                                · have h := ite_f h c114
                                  refine V_iconst X (v := 0) (by decide) dL_law_435 (n := 436) rfl ?_
                                  exact hret (v := (0 : Int32)) dL_law_436 h
                              · have h := ite_f h c16
                                by_cases c17 : ((xs (Int32.toNatClampNeg v3)) &&& (31 : Int32)) = 13
                                · have h := ite_t h c17
                                  refine V_tableAt X c17 dL_law_32 (by decide) (by decide) rfl (tgt := 437) (by decide) ?_
                                  refine V_aload_n X (q := 1) rfl rfl dL_law_437 (n := 438) rfl ?_
                                  refine V_aload_n X (q := 0) rfl rfl dL_law_438 (n := 439) rfl ?_
                                  refine V_iload_n X (q := 3) rfl rfl dL_law_439 (n := 440) rfl ?_
                                  refine V_iconst X (v := 1) (by decide) dL_law_440 (n := 441) rfl ?_
                                  refine V_iadd X dL_law_441 (n := 442) rfl ?_
                                  obtain ⟨g115, h⟩ := h
                                  refine V_sld X hX hbl hbA g115 dL_law_442 (n := 443) rfl ?_
                                  refine V_aload_n X (q := 0) rfl rfl dL_law_443 (n := 444) rfl ?_
                                  refine V_iload_n X (q := 3) rfl rfl dL_law_444 (n := 445) rfl ?_
                                  refine V_iconst X (v := 2) (by decide) dL_law_445 (n := 446) rfl ?_
                                  refine V_iadd X dL_law_446 (n := 447) rfl ?_
                                  obtain ⟨g116, h⟩ := h
                                  refine V_sld X hX hbl hbA g116 dL_law_447 (n := 448) rfl ?_
                                  refine V_aload_n X (q := 0) rfl rfl dL_law_448 (n := 449) rfl ?_
                                  refine V_iload_n X (q := 3) rfl rfl dL_law_449 (n := 450) rfl ?_
                                  refine V_iconst X (v := 3) (by decide) dL_law_450 (n := 451) rfl ?_
                                  refine V_iadd X dL_law_451 (n := 452) rfl ?_
                                  obtain ⟨g117, h⟩ := h
                                  refine V_sld X hX hbl hbA g117 dL_law_452 (n := 453) rfl ?_
                                  refine V_calli X (As := [.int (xs (Int32.toNatClampNeg (v3 + (1 : Int32)))), .int (xs (Int32.toNatClampNeg (v3 + (2 : Int32)))), .int (xs (Int32.toNatClampNeg (v3 + (3 : Int32))))]) (rest := []) (nA := 3) (i := 0) (q := (RX7, TX7, 9)) (TX7_addStream l D G ρ C N (xs (Int32.toNatClampNeg (v3 + (1 : Int32)))) (xs (Int32.toNatClampNeg (v3 + (2 : Int32)))) (xs (Int32.toNatClampNeg (v3 + (3 : Int32)))) _ h) gL_law_X7_addStream rfl rfl rfl (by decide +kernel) rfl ⟨by decide, by decide⟩ (Nat.le_of_ble_eq_true rfl) hcs (by decide) rfl rfl rfl dL_law_453 (n := 456) rfl (fun r118 C119 M0 h => ?_)
                                  obtain ⟨h, eo⟩ := h
                                  rw [eo]
                                  refine V_aload_n X (q := 2) rfl rfl dL_law_456 (n := 457) rfl ?_
                                  refine V_aload_n X (q := 0) rfl rfl dL_law_457 (n := 458) rfl ?_
                                  refine V_iload_n X (q := 3) rfl rfl dL_law_458 (n := 459) rfl ?_
                                  refine V_iconst X (v := 1) (by decide) dL_law_459 (n := 460) rfl ?_
                                  refine V_iadd X dL_law_460 (n := 461) rfl ?_
                                  obtain ⟨g120, h⟩ := h
                                  refine V_sld X hX hbl hbA g120 dL_law_461 (n := 462) rfl ?_
                                  refine V_aload_n X (q := 0) rfl rfl dL_law_462 (n := 463) rfl ?_
                                  refine V_iload_n X (q := 3) rfl rfl dL_law_463 (n := 464) rfl ?_
                                  refine V_iconst X (v := 2) (by decide) dL_law_464 (n := 465) rfl ?_
                                  refine V_iadd X dL_law_465 (n := 466) rfl ?_
                                  obtain ⟨g121, h⟩ := h
                                  refine V_sld X hX hbl hbA g121 dL_law_466 (n := 467) rfl ?_
                                  refine V_aload_n X (q := 0) rfl rfl dL_law_467 (n := 468) rfl ?_
                                  refine V_iload_n X (q := 3) rfl rfl dL_law_468 (n := 469) rfl ?_
                                  refine V_iconst X (v := 3) (by decide) dL_law_469 (n := 470) rfl ?_
                                  refine V_iadd X dL_law_470 (n := 471) rfl ?_
                                  obtain ⟨g122, h⟩ := h
                                  refine V_sld X hX hbl hbA g122 dL_law_471 (n := 472) rfl ?_
                                  refine V_calli X (As := [.int (xs (Int32.toNatClampNeg (v3 + (1 : Int32)))), .int (xs (Int32.toNatClampNeg (v3 + (2 : Int32)))), .int (xs (Int32.toNatClampNeg (v3 + (3 : Int32))))]) (rest := [.int r118]) (nA := 3) (i := 66) (q := (RX8, TX8, 42)) (TX8_addStream l D G ρ C119 N (xs (Int32.toNatClampNeg (v3 + (1 : Int32)))) (xs (Int32.toNatClampNeg (v3 + (2 : Int32)))) (xs (Int32.toNatClampNeg (v3 + (3 : Int32)))) _ h) gL_law_X8_addStream rfl rfl rfl (by decide +kernel) rfl ⟨by decide, by decide⟩ (Nat.le_of_ble_eq_true rfl) hcs (by decide) rfl rfl rfl dL_law_472 (n := 475) rfl (fun r123 M0 N124 h => ?_)
                                  obtain ⟨h, eo⟩ := h
                                  rw [eo]
                                  refine V_icmp_eq X dL_law_475 (tgt := 717) (n := 478) (by decide) rfl (fun c125 => ?_) (fun c125 => ?_)
                                  · have h := ite_t h c125
                                    exact kj3 C119 N124 h
                                  · have h := ite_f h c125
                                    refine V_iconst X (v := 0) (by decide) dL_law_478 (n := 479) rfl ?_
                                    exact hret (v := (0 : Int32)) dL_law_479 h
                                · have h := ite_f h c17
                                  by_cases c18 : ((xs (Int32.toNatClampNeg v3)) &&& (31 : Int32)) = 14
                                  · have h := ite_t h c18
                                    refine V_tableAt X c18 dL_law_32 (by decide) (by decide) rfl (tgt := 480) (by decide) ?_
                                    refine V_aload_n X (q := 1) rfl rfl dL_law_480 (n := 481) rfl ?_
                                    refine V_aload_n X (q := 0) rfl rfl dL_law_481 (n := 482) rfl ?_
                                    refine V_iload_n X (q := 3) rfl rfl dL_law_482 (n := 483) rfl ?_
                                    refine V_iconst X (v := 1) (by decide) dL_law_483 (n := 484) rfl ?_
                                    refine V_iadd X dL_law_484 (n := 485) rfl ?_
                                    obtain ⟨g126, h⟩ := h
                                    refine V_sld X hX hbl hbA g126 dL_law_485 (n := 486) rfl ?_
                                    refine V_calli X (As := [.int (xs (Int32.toNatClampNeg (v3 + (1 : Int32))))]) (rest := []) (nA := 1) (i := 0) (q := (RX7, TX7, 9)) (TX7_removeStream l D G ρ C N (xs (Int32.toNatClampNeg (v3 + (1 : Int32)))) _ h) gL_law_X7_removeStream rfl rfl rfl (by decide +kernel) rfl ⟨by decide, by decide⟩ (Nat.le_of_ble_eq_true rfl) hcs (by decide) rfl rfl rfl dL_law_486 (n := 489) rfl (fun r127 C128 M0 h => ?_)
                                    obtain ⟨h, eo⟩ := h
                                    rw [eo]
                                    refine V_aload_n X (q := 2) rfl rfl dL_law_489 (n := 490) rfl ?_
                                    refine V_aload_n X (q := 0) rfl rfl dL_law_490 (n := 491) rfl ?_
                                    refine V_iload_n X (q := 3) rfl rfl dL_law_491 (n := 492) rfl ?_
                                    refine V_iconst X (v := 1) (by decide) dL_law_492 (n := 493) rfl ?_
                                    refine V_iadd X dL_law_493 (n := 494) rfl ?_
                                    obtain ⟨g129, h⟩ := h
                                    refine V_sld X hX hbl hbA g129 dL_law_494 (n := 495) rfl ?_
                                    refine V_calli X (As := [.int (xs (Int32.toNatClampNeg (v3 + (1 : Int32))))]) (rest := [.int r127]) (nA := 1) (i := 66) (q := (RX8, TX8, 42)) (TX8_removeStream l D G ρ C128 N (xs (Int32.toNatClampNeg (v3 + (1 : Int32)))) _ h) gL_law_X8_removeStream rfl rfl rfl (by decide +kernel) rfl ⟨by decide, by decide⟩ (Nat.le_of_ble_eq_true rfl) hcs (by decide) rfl rfl rfl dL_law_495 (n := 498) rfl (fun r130 M0 N131 h => ?_)
                                    obtain ⟨h, eo⟩ := h
                                    rw [eo]
                                    refine V_icmp_eq X dL_law_498 (tgt := 717) (n := 501) (by decide) rfl (fun c132 => ?_) (fun c132 => ?_)
                                    · have h := ite_t h c132
                                      exact kj3 C128 N131 h
                                    · have h := ite_f h c132
                                      refine V_iconst X (v := 0) (by decide) dL_law_501 (n := 502) rfl ?_
                                      exact hret (v := (0 : Int32)) dL_law_502 h
                                  · have h := ite_f h c18
                                    by_cases c19 : ((xs (Int32.toNatClampNeg v3)) &&& (31 : Int32)) = 15
                                    · have h := ite_t h c19
                                      refine V_tableAt X c19 dL_law_32 (by decide) (by decide) rfl (tgt := 503) (by decide) ?_
                                      refine V_aload_n X (q := 1) rfl rfl dL_law_503 (n := 504) rfl ?_
                                      refine V_aload_n X (q := 0) rfl rfl dL_law_504 (n := 505) rfl ?_
                                      refine V_iload_n X (q := 3) rfl rfl dL_law_505 (n := 506) rfl ?_
                                      refine V_iconst X (v := 1) (by decide) dL_law_506 (n := 507) rfl ?_
                                      refine V_iadd X dL_law_507 (n := 508) rfl ?_
                                      obtain ⟨g133, h⟩ := h
                                      refine V_sld X hX hbl hbA g133 dL_law_508 (n := 509) rfl ?_
                                      refine V_calli X (As := [.int (xs (Int32.toNatClampNeg (v3 + (1 : Int32))))]) (rest := []) (nA := 1) (i := 0) (q := (RX7, TX7, 9)) (TX7_waitingPackets l D G ρ C N (xs (Int32.toNatClampNeg (v3 + (1 : Int32)))) _ h) gL_law_X7_waitingPackets rfl rfl rfl (by decide +kernel) rfl ⟨by decide, by decide⟩ (Nat.le_of_ble_eq_true rfl) hcs (by decide) rfl rfl rfl dL_law_509 (n := 512) rfl (fun r134 M1 M0 h => ?_)
                                      obtain ⟨h, eo, eo2⟩ := h
                                      rw [eo, eo2]
                                      refine V_aload_n X (q := 2) rfl rfl dL_law_512 (n := 513) rfl ?_
                                      refine V_aload_n X (q := 0) rfl rfl dL_law_513 (n := 514) rfl ?_
                                      refine V_iload_n X (q := 3) rfl rfl dL_law_514 (n := 515) rfl ?_
                                      refine V_iconst X (v := 1) (by decide) dL_law_515 (n := 516) rfl ?_
                                      refine V_iadd X dL_law_516 (n := 517) rfl ?_
                                      obtain ⟨g135, h⟩ := h
                                      refine V_sld X hX hbl hbA g135 dL_law_517 (n := 518) rfl ?_
                                      refine V_calli X (As := [.int (xs (Int32.toNatClampNeg (v3 + (1 : Int32))))]) (rest := [.int r134]) (nA := 1) (i := 66) (q := (RX8, TX8, 42)) (TX8_waitingPackets l D G ρ C N (xs (Int32.toNatClampNeg (v3 + (1 : Int32)))) _ h) gL_law_X8_waitingPackets rfl rfl rfl (by decide +kernel) rfl ⟨by decide, by decide⟩ (Nat.le_of_ble_eq_true rfl) hcs (by decide) rfl rfl rfl dL_law_518 (n := 521) rfl (fun r136 M1 M0 h => ?_)
                                      obtain ⟨h, eo, eo2⟩ := h
                                      rw [eo, eo2]
                                      refine V_icmp_eq X dL_law_521 (tgt := 717) (n := 524) (by decide) rfl (fun c137 => ?_) (fun c137 => ?_)
                                      · have h := ite_t h c137
                                        exact kj3 C N h
                                      · have h := ite_f h c137
                                        refine V_iconst X (v := 0) (by decide) dL_law_524 (n := 525) rfl ?_
                                        exact hret (v := (0 : Int32)) dL_law_525 h
                                    · have h := ite_f h c19
                                      by_cases c20 : ((xs (Int32.toNatClampNeg v3)) &&& (31 : Int32)) = 16
                                      · have h := ite_t h c20
                                        refine V_tableAt X c20 dL_law_32 (by decide) (by decide) rfl (tgt := 526) (by decide) ?_
                                        refine V_aload_n X (q := 1) rfl rfl dL_law_526 (n := 527) rfl ?_
                                        refine V_aload_n X (q := 0) rfl rfl dL_law_527 (n := 528) rfl ?_
                                        refine V_iload_n X (q := 3) rfl rfl dL_law_528 (n := 529) rfl ?_
                                        refine V_iconst X (v := 1) (by decide) dL_law_529 (n := 530) rfl ?_
                                        refine V_iadd X dL_law_530 (n := 531) rfl ?_
                                        obtain ⟨g138, h⟩ := h
                                        refine V_sld X hX hbl hbA g138 dL_law_531 (n := 532) rfl ?_
                                        refine V_calli X (As := [.int (xs (Int32.toNatClampNeg (v3 + (1 : Int32))))]) (rest := []) (nA := 1) (i := 0) (q := (RX7, TX7, 9)) (TX7_deliveredPackets l D G ρ C N (xs (Int32.toNatClampNeg (v3 + (1 : Int32)))) _ h) gL_law_X7_deliveredPackets rfl rfl rfl (by decide +kernel) rfl ⟨by decide, by decide⟩ (Nat.le_of_ble_eq_true rfl) hcs (by decide) rfl rfl rfl dL_law_532 (n := 535) rfl (fun r139 M1 M0 h => ?_)
                                        obtain ⟨h, eo, eo2⟩ := h
                                        rw [eo, eo2]
                                        refine V_aload_n X (q := 2) rfl rfl dL_law_535 (n := 536) rfl ?_
                                        refine V_aload_n X (q := 0) rfl rfl dL_law_536 (n := 537) rfl ?_
                                        refine V_iload_n X (q := 3) rfl rfl dL_law_537 (n := 538) rfl ?_
                                        refine V_iconst X (v := 1) (by decide) dL_law_538 (n := 539) rfl ?_
                                        refine V_iadd X dL_law_539 (n := 540) rfl ?_
                                        obtain ⟨g140, h⟩ := h
                                        refine V_sld X hX hbl hbA g140 dL_law_540 (n := 541) rfl ?_
                                        refine V_calli X (As := [.int (xs (Int32.toNatClampNeg (v3 + (1 : Int32))))]) (rest := [.int r139]) (nA := 1) (i := 66) (q := (RX8, TX8, 42)) (TX8_deliveredPackets l D G ρ C N (xs (Int32.toNatClampNeg (v3 + (1 : Int32)))) _ h) gL_law_X8_deliveredPackets rfl rfl rfl (by decide +kernel) rfl ⟨by decide, by decide⟩ (Nat.le_of_ble_eq_true rfl) hcs (by decide) rfl rfl rfl dL_law_541 (n := 544) rfl (fun r141 M1 M0 h => ?_)
                                        obtain ⟨h, eo, eo2⟩ := h
                                        rw [eo, eo2]
                                        refine V_icmp_eq X dL_law_544 (tgt := 717) (n := 547) (by decide) rfl (fun c142 => ?_) (fun c142 => ?_)
                                        · have h := ite_t h c142
                                          exact kj3 C N h
                                        · have h := ite_f h c142
                                          refine V_iconst X (v := 0) (by decide) dL_law_547 (n := 548) rfl ?_
                                          exact hret (v := (0 : Int32)) dL_law_548 h
                                      · have h := ite_f h c20
                                        by_cases c21 : ((xs (Int32.toNatClampNeg v3)) &&& (31 : Int32)) = 17
                                        · have h := ite_t h c21
                                          refine V_tableAt X c21 dL_law_32 (by decide) (by decide) rfl (tgt := 549) (by decide) ?_
                                          refine V_aload_n X (q := 1) rfl rfl dL_law_549 (n := 550) rfl ?_
                                          refine V_aload_n X (q := 0) rfl rfl dL_law_550 (n := 551) rfl ?_
                                          refine V_iload_n X (q := 3) rfl rfl dL_law_551 (n := 552) rfl ?_
                                          refine V_iconst X (v := 1) (by decide) dL_law_552 (n := 553) rfl ?_
                                          refine V_iadd X dL_law_553 (n := 554) rfl ?_
                                          obtain ⟨g143, h⟩ := h
                                          refine V_sld X hX hbl hbA g143 dL_law_554 (n := 555) rfl ?_
                                          refine V_calli X (As := [.int (xs (Int32.toNatClampNeg (v3 + (1 : Int32))))]) (rest := []) (nA := 1) (i := 0) (q := (RX7, TX7, 9)) (TX7_lostPackets l D G ρ C N (xs (Int32.toNatClampNeg (v3 + (1 : Int32)))) _ h) gL_law_X7_lostPackets rfl rfl rfl (by decide +kernel) rfl ⟨by decide, by decide⟩ (Nat.le_of_ble_eq_true rfl) hcs (by decide) rfl rfl rfl dL_law_555 (n := 558) rfl (fun r144 M1 M0 h => ?_)
                                          obtain ⟨h, eo, eo2⟩ := h
                                          rw [eo, eo2]
                                          refine V_aload_n X (q := 2) rfl rfl dL_law_558 (n := 559) rfl ?_
                                          refine V_aload_n X (q := 0) rfl rfl dL_law_559 (n := 560) rfl ?_
                                          refine V_iload_n X (q := 3) rfl rfl dL_law_560 (n := 561) rfl ?_
                                          refine V_iconst X (v := 1) (by decide) dL_law_561 (n := 562) rfl ?_
                                          refine V_iadd X dL_law_562 (n := 563) rfl ?_
                                          obtain ⟨g145, h⟩ := h
                                          refine V_sld X hX hbl hbA g145 dL_law_563 (n := 564) rfl ?_
                                          refine V_calli X (As := [.int (xs (Int32.toNatClampNeg (v3 + (1 : Int32))))]) (rest := [.int r144]) (nA := 1) (i := 66) (q := (RX8, TX8, 42)) (TX8_lostPackets l D G ρ C N (xs (Int32.toNatClampNeg (v3 + (1 : Int32)))) _ h) gL_law_X8_lostPackets rfl rfl rfl (by decide +kernel) rfl ⟨by decide, by decide⟩ (Nat.le_of_ble_eq_true rfl) hcs (by decide) rfl rfl rfl dL_law_564 (n := 567) rfl (fun r146 M1 M0 h => ?_)
                                          obtain ⟨h, eo, eo2⟩ := h
                                          rw [eo, eo2]
                                          refine V_icmp_eq X dL_law_567 (tgt := 717) (n := 570) (by decide) rfl (fun c147 => ?_) (fun c147 => ?_)
                                          · have h := ite_t h c147
                                            exact kj3 C N h
                                          · have h := ite_f h c147
                                            refine V_iconst X (v := 0) (by decide) dL_law_570 (n := 571) rfl ?_
                                            exact hret (v := (0 : Int32)) dL_law_571 h
                                        · have h := ite_f h c21
                                          by_cases c22 : ((xs (Int32.toNatClampNeg v3)) &&& (31 : Int32)) = 18
                                          · have h := ite_t h c22
                                            refine V_tableAt X c22 dL_law_32 (by decide) (by decide) rfl (tgt := 572) (by decide) ?_
                                            refine V_aload_n X (q := 1) rfl rfl dL_law_572 (n := 573) rfl ?_
                                            refine V_aload_n X (q := 0) rfl rfl dL_law_573 (n := 574) rfl ?_
                                            refine V_iload_n X (q := 3) rfl rfl dL_law_574 (n := 575) rfl ?_
                                            refine V_iconst X (v := 1) (by decide) dL_law_575 (n := 576) rfl ?_
                                            refine V_iadd X dL_law_576 (n := 577) rfl ?_
                                            obtain ⟨g148, h⟩ := h
                                            refine V_sld X hX hbl hbA g148 dL_law_577 (n := 578) rfl ?_
                                            refine V_calli X (As := [.int (xs (Int32.toNatClampNeg (v3 + (1 : Int32))))]) (rest := []) (nA := 1) (i := 0) (q := (RX7, TX7, 9)) (TX7_runRounds l D G ρ C N (xs (Int32.toNatClampNeg (v3 + (1 : Int32)))) _ h) gL_law_X7_runRounds rfl rfl rfl (by decide +kernel) rfl ⟨by decide, by decide⟩ (Nat.le_of_ble_eq_true rfl) hcs (by decide) rfl rfl rfl dL_law_578 (n := 581) rfl (fun r149 C150 M0 h => ?_)
                                            obtain ⟨h, eo⟩ := h
                                            rw [eo]
                                            refine V_aload_n X (q := 2) rfl rfl dL_law_581 (n := 582) rfl ?_
                                            refine V_aload_n X (q := 0) rfl rfl dL_law_582 (n := 583) rfl ?_
                                            refine V_iload_n X (q := 3) rfl rfl dL_law_583 (n := 584) rfl ?_
                                            refine V_iconst X (v := 1) (by decide) dL_law_584 (n := 585) rfl ?_
                                            refine V_iadd X dL_law_585 (n := 586) rfl ?_
                                            obtain ⟨g151, h⟩ := h
                                            refine V_sld X hX hbl hbA g151 dL_law_586 (n := 587) rfl ?_
                                            refine V_calli X (As := [.int (xs (Int32.toNatClampNeg (v3 + (1 : Int32))))]) (rest := [.int r149]) (nA := 1) (i := 66) (q := (RX8, TX8, 42)) (TX8_runRounds l D G ρ C150 N (xs (Int32.toNatClampNeg (v3 + (1 : Int32)))) _ h) gL_law_X8_runRounds rfl rfl rfl (by decide +kernel) rfl ⟨by decide, by decide⟩ (Nat.le_of_ble_eq_true rfl) hcs (by decide) rfl rfl rfl dL_law_587 (n := 590) rfl (fun r152 M0 N153 h => ?_)
                                            obtain ⟨h, eo⟩ := h
                                            rw [eo]
                                            refine V_icmp_eq X dL_law_590 (tgt := 717) (n := 593) (by decide) rfl (fun c154 => ?_) (fun c154 => ?_)
                                            · have h := ite_t h c154
                                              exact kj3 C150 N153 h
                                            · have h := ite_f h c154
                                              refine V_iconst X (v := 0) (by decide) dL_law_593 (n := 594) rfl ?_
                                              exact hret (v := (0 : Int32)) dL_law_594 h
                                          · have h := ite_f h c22
                                            by_cases c23 : ((xs (Int32.toNatClampNeg v3)) &&& (31 : Int32)) = 19
                                            · have h := ite_t h c23
                                              refine V_tableAt X c23 dL_law_32 (by decide) (by decide) rfl (tgt := 595) (by decide) ?_
                                              refine V_aload_n X (q := 1) rfl rfl dL_law_595 (n := 596) rfl ?_
                                              refine V_aload_n X (q := 0) rfl rfl dL_law_596 (n := 597) rfl ?_
                                              refine V_iload_n X (q := 3) rfl rfl dL_law_597 (n := 598) rfl ?_
                                              refine V_iconst X (v := 1) (by decide) dL_law_598 (n := 599) rfl ?_
                                              refine V_iadd X dL_law_599 (n := 600) rfl ?_
                                              obtain ⟨g155, h⟩ := h
                                              refine V_sld X hX hbl hbA g155 dL_law_600 (n := 601) rfl ?_
                                              refine V_calli X (As := [.int (xs (Int32.toNatClampNeg (v3 + (1 : Int32))))]) (rest := []) (nA := 1) (i := 0) (q := (RX7, TX7, 9)) (TX7_scheduledStream l D G ρ C N (xs (Int32.toNatClampNeg (v3 + (1 : Int32)))) _ h) gL_law_X7_scheduledStream rfl rfl rfl (by decide +kernel) rfl ⟨by decide, by decide⟩ (Nat.le_of_ble_eq_true rfl) hcs (by decide) rfl rfl rfl dL_law_601 (n := 604) rfl (fun r156 M1 M0 h => ?_)
                                              obtain ⟨h, eo, eo2⟩ := h
                                              rw [eo, eo2]
                                              refine V_aload_n X (q := 2) rfl rfl dL_law_604 (n := 605) rfl ?_
                                              refine V_aload_n X (q := 0) rfl rfl dL_law_605 (n := 606) rfl ?_
                                              refine V_iload_n X (q := 3) rfl rfl dL_law_606 (n := 607) rfl ?_
                                              refine V_iconst X (v := 1) (by decide) dL_law_607 (n := 608) rfl ?_
                                              refine V_iadd X dL_law_608 (n := 609) rfl ?_
                                              obtain ⟨g157, h⟩ := h
                                              refine V_sld X hX hbl hbA g157 dL_law_609 (n := 610) rfl ?_
                                              refine V_calli X (As := [.int (xs (Int32.toNatClampNeg (v3 + (1 : Int32))))]) (rest := [.int r156]) (nA := 1) (i := 66) (q := (RX8, TX8, 42)) (TX8_scheduledStream l D G ρ C N (xs (Int32.toNatClampNeg (v3 + (1 : Int32)))) _ h) gL_law_X8_scheduledStream rfl rfl rfl (by decide +kernel) rfl ⟨by decide, by decide⟩ (Nat.le_of_ble_eq_true rfl) hcs (by decide) rfl rfl rfl dL_law_610 (n := 613) rfl (fun r158 M1 M0 h => ?_)
                                              obtain ⟨h, eo, eo2⟩ := h
                                              rw [eo, eo2]
                                              refine V_icmp_eq X dL_law_613 (tgt := 717) (n := 616) (by decide) rfl (fun c159 => ?_) (fun c159 => ?_)
                                              · have h := ite_t h c159
                                                exact kj3 C N h
                                              · have h := ite_f h c159
                                                refine V_iconst X (v := 0) (by decide) dL_law_616 (n := 617) rfl ?_
                                                exact hret (v := (0 : Int32)) dL_law_617 h
                                            · have h := ite_f h c23
                                              by_cases c24 : ((xs (Int32.toNatClampNeg v3)) &&& (31 : Int32)) = 20
                                              · have h := ite_t h c24
                                                refine V_tableAt X c24 dL_law_32 (by decide) (by decide) rfl (tgt := 618) (by decide) ?_
                                                refine V_aload_n X (q := 1) rfl rfl dL_law_618 (n := 619) rfl ?_
                                                refine V_calli X (As := []) (rest := []) (nA := 0) (i := 0) (q := (RX7, TX7, 9)) (TX7_scheduleBits l D G ρ C N  _ h) gL_law_X7_scheduleBits rfl rfl rfl (by decide +kernel) rfl ⟨by decide, by decide⟩ (Nat.le_of_ble_eq_true rfl) hcs (by decide) rfl rfl rfl dL_law_619 (n := 622) rfl (fun r160 M1 M0 h => ?_)
                                                obtain ⟨h, eo, eo2⟩ := h
                                                rw [eo, eo2]
                                                refine V_aload_n X (q := 2) rfl rfl dL_law_622 (n := 623) rfl ?_
                                                refine V_calli X (As := []) (rest := [.int r160]) (nA := 0) (i := 66) (q := (RX8, TX8, 42)) (TX8_scheduleBits l D G ρ C N  _ h) gL_law_X8_scheduleBits rfl rfl rfl (by decide +kernel) rfl ⟨by decide, by decide⟩ (Nat.le_of_ble_eq_true rfl) hcs (by decide) rfl rfl rfl dL_law_623 (n := 626) rfl (fun r161 M1 M0 h => ?_)
                                                obtain ⟨h, eo, eo2⟩ := h
                                                rw [eo, eo2]
                                                refine V_icmp_eq X dL_law_626 (tgt := 717) (n := 629) (by decide) rfl (fun c162 => ?_) (fun c162 => ?_)
                                                · have h := ite_t h c162
                                                  exact kj3 C N h
                                                · have h := ite_f h c162
                                                  refine V_iconst X (v := 0) (by decide) dL_law_629 (n := 630) rfl ?_
                                                  exact hret (v := (0 : Int32)) dL_law_630 h
                                              · have h := ite_f h c24
                                                by_cases c25 : ((xs (Int32.toNatClampNeg v3)) &&& (31 : Int32)) = 21
                                                · have h := ite_t h c25
                                                  refine V_tableAt X c25 dL_law_32 (by decide) (by decide) rfl (tgt := 631) (by decide) ?_
                                                  refine V_aload_n X (q := 1) rfl rfl dL_law_631 (n := 632) rfl ?_
                                                  refine V_calli X (As := []) (rest := []) (nA := 0) (i := 0) (q := (RX7, TX7, 9)) (TX7_host l D G ρ C N  _ h) gL_law_X7_host rfl rfl rfl (by decide +kernel) rfl ⟨by decide, by decide⟩ (Nat.le_of_ble_eq_true rfl) hcs (by decide) rfl rfl rfl dL_law_632 (n := 635) rfl (fun r163 M1 M0 h => ?_)
                                                  obtain ⟨h, eo, eo2⟩ := h
                                                  rw [eo, eo2]
                                                  refine V_aload_n X (q := 2) rfl rfl dL_law_635 (n := 636) rfl ?_
                                                  refine V_calli X (As := []) (rest := [.int r163]) (nA := 0) (i := 66) (q := (RX8, TX8, 42)) (TX8_host l D G ρ C N  _ h) gL_law_X8_host rfl rfl rfl (by decide +kernel) rfl ⟨by decide, by decide⟩ (Nat.le_of_ble_eq_true rfl) hcs (by decide) rfl rfl rfl dL_law_636 (n := 639) rfl (fun r164 M1 M0 h => ?_)
                                                  obtain ⟨h, eo, eo2⟩ := h
                                                  rw [eo, eo2]
                                                  refine V_icmp_eq X dL_law_639 (tgt := 717) (n := 642) (by decide) rfl (fun c165 => ?_) (fun c165 => ?_)
                                                  · have h := ite_t h c165
                                                    exact kj3 C N h
                                                  · have h := ite_f h c165
                                                    refine V_iconst X (v := 0) (by decide) dL_law_642 (n := 643) rfl ?_
                                                    exact hret (v := (0 : Int32)) dL_law_643 h
                                                · have h := ite_f h c25
                                                  by_cases c26 : ((xs (Int32.toNatClampNeg v3)) &&& (31 : Int32)) = 22
                                                  · have h := ite_t h c26
                                                    refine V_tableAt X c26 dL_law_32 (by decide) (by decide) rfl (tgt := 644) (by decide) ?_
                                                    refine V_aload_n X (q := 1) rfl rfl dL_law_644 (n := 645) rfl ?_
                                                    refine V_aload_n X (q := 0) rfl rfl dL_law_645 (n := 646) rfl ?_
                                                    refine V_iload_n X (q := 3) rfl rfl dL_law_646 (n := 647) rfl ?_
                                                    refine V_iconst X (v := 1) (by decide) dL_law_647 (n := 648) rfl ?_
                                                    refine V_iadd X dL_law_648 (n := 649) rfl ?_
                                                    obtain ⟨g166, h⟩ := h
                                                    refine V_sld X hX hbl hbA g166 dL_law_649 (n := 650) rfl ?_
                                                    refine V_calli X (As := [.int (xs (Int32.toNatClampNeg (v3 + (1 : Int32))))]) (rest := []) (nA := 1) (i := 0) (q := (RX7, TX7, 9)) (TX7_missedSchedules l D G ρ C N (xs (Int32.toNatClampNeg (v3 + (1 : Int32)))) _ h) gL_law_X7_missedSchedules rfl rfl rfl (by decide +kernel) rfl ⟨by decide, by decide⟩ (Nat.le_of_ble_eq_true rfl) hcs (by decide) rfl rfl rfl dL_law_650 (n := 653) rfl (fun r167 M1 M0 h => ?_)
                                                    obtain ⟨h, eo, eo2⟩ := h
                                                    rw [eo, eo2]
                                                    refine V_aload_n X (q := 2) rfl rfl dL_law_653 (n := 654) rfl ?_
                                                    refine V_aload_n X (q := 0) rfl rfl dL_law_654 (n := 655) rfl ?_
                                                    refine V_iload_n X (q := 3) rfl rfl dL_law_655 (n := 656) rfl ?_
                                                    refine V_iconst X (v := 1) (by decide) dL_law_656 (n := 657) rfl ?_
                                                    refine V_iadd X dL_law_657 (n := 658) rfl ?_
                                                    obtain ⟨g168, h⟩ := h
                                                    refine V_sld X hX hbl hbA g168 dL_law_658 (n := 659) rfl ?_
                                                    refine V_calli X (As := [.int (xs (Int32.toNatClampNeg (v3 + (1 : Int32))))]) (rest := [.int r167]) (nA := 1) (i := 66) (q := (RX8, TX8, 42)) (TX8_missedSchedules l D G ρ C N (xs (Int32.toNatClampNeg (v3 + (1 : Int32)))) _ h) gL_law_X8_missedSchedules rfl rfl rfl (by decide +kernel) rfl ⟨by decide, by decide⟩ (Nat.le_of_ble_eq_true rfl) hcs (by decide) rfl rfl rfl dL_law_659 (n := 662) rfl (fun r169 M1 M0 h => ?_)
                                                    obtain ⟨h, eo, eo2⟩ := h
                                                    rw [eo, eo2]
                                                    refine V_icmp_eq X dL_law_662 (tgt := 717) (n := 665) (by decide) rfl (fun c170 => ?_) (fun c170 => ?_)
                                                    · have h := ite_t h c170
                                                      exact kj3 C N h
                                                    · have h := ite_f h c170
                                                      refine V_iconst X (v := 0) (by decide) dL_law_665 (n := 666) rfl ?_
                                                      exact hret (v := (0 : Int32)) dL_law_666 h
                                                  · have h := ite_f h c26
                                                    by_cases c27 : ((xs (Int32.toNatClampNeg v3)) &&& (31 : Int32)) = 23
                                                    · have h := ite_t h c27
                                                      refine V_tableAt X c27 dL_law_32 (by decide) (by decide) rfl (tgt := 667) (by decide) ?_
                                                      refine V_aload_n X (q := 1) rfl rfl dL_law_667 (n := 668) rfl ?_
                                                      refine V_aload_n X (q := 0) rfl rfl dL_law_668 (n := 669) rfl ?_
                                                      refine V_iload_n X (q := 3) rfl rfl dL_law_669 (n := 670) rfl ?_
                                                      refine V_iconst X (v := 1) (by decide) dL_law_670 (n := 671) rfl ?_
                                                      refine V_iadd X dL_law_671 (n := 672) rfl ?_
                                                      obtain ⟨g171, h⟩ := h
                                                      refine V_sld X hX hbl hbA g171 dL_law_672 (n := 673) rfl ?_
                                                      refine V_calli X (As := [.int (xs (Int32.toNatClampNeg (v3 + (1 : Int32))))]) (rest := []) (nA := 1) (i := 0) (q := (RX7, TX7, 9)) (TX7_transmissions l D G ρ C N (xs (Int32.toNatClampNeg (v3 + (1 : Int32)))) _ h) gL_law_X7_transmissions rfl rfl rfl (by decide +kernel) rfl ⟨by decide, by decide⟩ (Nat.le_of_ble_eq_true rfl) hcs (by decide) rfl rfl rfl dL_law_673 (n := 676) rfl (fun r172 M1 M0 h => ?_)
                                                      obtain ⟨h, eo, eo2⟩ := h
                                                      rw [eo, eo2]
                                                      refine V_aload_n X (q := 2) rfl rfl dL_law_676 (n := 677) rfl ?_
                                                      refine V_aload_n X (q := 0) rfl rfl dL_law_677 (n := 678) rfl ?_
                                                      refine V_iload_n X (q := 3) rfl rfl dL_law_678 (n := 679) rfl ?_
                                                      refine V_iconst X (v := 1) (by decide) dL_law_679 (n := 680) rfl ?_
                                                      refine V_iadd X dL_law_680 (n := 681) rfl ?_
                                                      obtain ⟨g173, h⟩ := h
                                                      refine V_sld X hX hbl hbA g173 dL_law_681 (n := 682) rfl ?_
                                                      refine V_calli X (As := [.int (xs (Int32.toNatClampNeg (v3 + (1 : Int32))))]) (rest := [.int r172]) (nA := 1) (i := 66) (q := (RX8, TX8, 42)) (TX8_transmissions l D G ρ C N (xs (Int32.toNatClampNeg (v3 + (1 : Int32)))) _ h) gL_law_X8_transmissions rfl rfl rfl (by decide +kernel) rfl ⟨by decide, by decide⟩ (Nat.le_of_ble_eq_true rfl) hcs (by decide) rfl rfl rfl dL_law_682 (n := 685) rfl (fun r174 M1 M0 h => ?_)
                                                      obtain ⟨h, eo, eo2⟩ := h
                                                      rw [eo, eo2]
                                                      refine V_icmp_eq X dL_law_685 (tgt := 717) (n := 688) (by decide) rfl (fun c175 => ?_) (fun c175 => ?_)
                                                      · have h := ite_t h c175
                                                        exact kj3 C N h
                                                      · have h := ite_f h c175
                                                        refine V_iconst X (v := 0) (by decide) dL_law_688 (n := 689) rfl ?_
                                                        exact hret (v := (0 : Int32)) dL_law_689 h
                                                    · have h := ite_f h c27
                                                      by_cases c28 : ((xs (Int32.toNatClampNeg v3)) &&& (31 : Int32)) = 24
                                                      · have h := ite_t h c28
                                                        refine V_tableAt X c28 dL_law_32 (by decide) (by decide) rfl (tgt := 690) (by decide) ?_
                                                        refine V_aload_n X (q := 1) rfl rfl dL_law_690 (n := 691) rfl ?_
                                                        refine V_calli X (As := []) (rest := []) (nA := 0) (i := 0) (q := (RX7, TX7, 9)) (TX7_roundNumber l D G ρ C N  _ h) gL_law_X7_roundNumber rfl rfl rfl (by decide +kernel) rfl ⟨by decide, by decide⟩ (Nat.le_of_ble_eq_true rfl) hcs (by decide) rfl rfl rfl dL_law_691 (n := 694) rfl (fun r176 M1 M0 h => ?_)
                                                        obtain ⟨h, eo, eo2⟩ := h
                                                        rw [eo, eo2]
                                                        refine V_aload_n X (q := 2) rfl rfl dL_law_694 (n := 695) rfl ?_
                                                        refine V_calli X (As := []) (rest := [.int r176]) (nA := 0) (i := 66) (q := (RX8, TX8, 42)) (TX8_roundNumber l D G ρ C N  _ h) gL_law_X8_roundNumber rfl rfl rfl (by decide +kernel) rfl ⟨by decide, by decide⟩ (Nat.le_of_ble_eq_true rfl) hcs (by decide) rfl rfl rfl dL_law_695 (n := 698) rfl (fun r177 M1 M0 h => ?_)
                                                        obtain ⟨h, eo, eo2⟩ := h
                                                        rw [eo, eo2]
                                                        refine V_icmp_eq X dL_law_698 (tgt := 717) (n := 701) (by decide) rfl (fun c178 => ?_) (fun c178 => ?_)
                                                        · have h := ite_t h c178
                                                          exact kj3 C N h
                                                        · have h := ite_f h c178
                                                          refine V_iconst X (v := 0) (by decide) dL_law_701 (n := 702) rfl ?_
                                                          exact hret (v := (0 : Int32)) dL_law_702 h
                                                      · have h := ite_f h c28
                                                        by_cases c29 : ((xs (Int32.toNatClampNeg v3)) &&& (31 : Int32)) = 25
                                                        · have h := ite_t h c29
                                                          refine V_tableAt X c29 dL_law_32 (by decide) (by decide) rfl (tgt := 703) (by decide) ?_
                                                          refine V_aload_n X (q := 1) rfl rfl dL_law_703 (n := 704) rfl ?_
                                                          refine V_calll X (As := []) (rest := []) (nA := 0) (i := 0) (q := (RX7, TX7, 9)) (TX7_digest l D G ρ C N  _ h) gL_law_X7_digest rfl rfl rfl (by decide +kernel) rfl ⟨by decide, by decide⟩ (Nat.le_of_ble_eq_true rfl) hcs (by decide) rfl rfl rfl dL_law_704 (n := 707) rfl (fun r179 M1 M0 h => ?_)
                                                          obtain ⟨h, eo, eo2⟩ := h
                                                          rw [eo, eo2]
                                                          refine V_aload_n X (q := 2) rfl rfl dL_law_707 (n := 708) rfl ?_
                                                          refine V_calll X (As := []) (rest := [.long r179]) (nA := 0) (i := 66) (q := (RX8, TX8, 42)) (TX8_digest l D G ρ C N  _ h) gL_law_X8_digest rfl rfl rfl (by decide +kernel) rfl ⟨by decide, by decide⟩ (Nat.le_of_ble_eq_true rfl) hcs (by decide) rfl rfl rfl dL_law_708 (n := 711) rfl (fun r180 M0 N181 h => ?_)
                                                          obtain ⟨h, eo⟩ := h
                                                          rw [eo]
                                                          refine V_lcmp X dL_law_711 (n := 712) rfl ?_
                                                          refine V_if_eq X dL_law_712 (tgt := 717) (n := 715) (by decide) rfl (fun c182 => ?_) (fun c182 => ?_)
                                                          · have h := ite_t h c182
                                                            exact kj3 C N181 h
                                                          · have h := ite_f h c182
                                                            refine V_iconst X (v := 0) (by decide) dL_law_715 (n := 716) rfl ?_
                                                            exact hret (v := (0 : Int32)) dL_law_716 h
                                                        · have h := ite_f h c29
                                                          have kd : V p l e room_1 s m args below meth c D G ρ A H0 4 cells slots Q 717 [(0, .ref b), (1, .ref (ρ 0)), (2, .ref (ρ 66)), (3, .int v3)] [] C N := by
                                                            exact kj3 C N h
                                                          exact V_tableOut X dL_law_32 (ts_out26 c4 c5 c6 c7 c8 c9 c10 c11 c12 c13 c14 c15 c16 c17 c18 c19 c20 c21 c22 c23 c24 c25 c26 c27 c28 c29) (tgt := 717) (by decide) kd
