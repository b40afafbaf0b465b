/-! the law's loop: every step answers alike on both sides -/
theorem cmp_self (r : Int64) : lg_cmp r r = 0 := by unfold lg_cmp; simp
theorem law_ok {L : Nat} {xs : Nat → Int32} (hL : L ≤ 2048) {E : Int32 → Xm → Nm → Prop} {K : Int32 → Prop} (hE : ∀ v C N, E v C N) : ∀ (m i : Nat) (C : Xm) (N : Nm), Rel C N → i ≤ L + 3 → L + 4 ≤ i + 4 * m → fL_law_L18 L xs E K m (nI i) C N := by
  intro m
  induction m with
  | zero => intro i C N h h1 h2; omega
  | succ m ih =>
    intro i C N h h1 h2
    have hlt : (Int32.ofNat L - 4 < nI i) ↔ L < i + 4 := by
      have e : (Int32.ofNat L - 4).toInt = (L : Int) - 4 := pk_sub_toInt (a := L) (b := 4) (by omega) (by omega)
      rw [Int32.lt_iff_toInt_lt, e, nI_toInt (by omega)]; omega
    rw [fL_law_L18]
    by_cases z : L < i + 4
    · rw [if_pos (hlt.mpr z)]; exact hE _ _ _
    · rw [if_neg (fun q => z (hlt.mp q))]
      have hJ : ∀ (C' : Xm) (N' : Nm), Rel C' N' → fL_law_L18 L xs E K m (nI i + 4) C' N' := fun C' N' hR => by
        have e4 : nI i + 4 = nI (i + 4) := nI_add i 4
        rw [e4]; exact ih (i + 4) C' N' hR (by omega) (by omega)
      have b1 : inb (nI i + 1) L := by have e : nI i + 1 = nI (i + 1) := nI_1 i; rw [e]; exact inb_nI (by omega) (by omega)
      have b2 : inb (nI i + 2) L := by have e : nI i + 2 = nI (i + 2) := nI_add i 2; rw [e]; exact inb_nI (by omega) (by omega)
      have b3 : inb (nI i + 3) L := by have e : nI i + 3 = nI (i + 3) := nI_add i 3; rw [e]; exact inb_nI (by omega) (by omega)
      refine ⟨inb_nI (by omega) (by omega), ?_⟩
      simp only [jn, bd]
      generalize xs (Int32.toNatClampNeg (nI i)) &&& 31 = k
      generalize xs (Int32.toNatClampNeg (nI i + 1)) = y1
      generalize xs (Int32.toNatClampNeg (nI i + 2)) = y2
      generalize xs (Int32.toNatClampNeg (nI i + 3)) = y3
      by_cases c0 : k = 0
      · rw [if_pos c0]
        obtain ⟨r, C', N', hR, hx, hm⟩ := op_append h y1
        refine ⟨b1, hx _ ⟨b1, hm _ ?_⟩⟩
        rw [if_pos rfl]; exact hJ C' N' hR
      rw [if_neg c0]
      by_cases c1 : k = 1
      · rw [if_pos c1]
        obtain ⟨r, C', N', hR, hx, hm⟩ := op_clearBuffer h 
        refine (hx _ (hm _ ?_))
        rw [if_pos rfl]; exact hJ C' N' hR
      rw [if_neg c1]
      by_cases c2 : k = 2
      · rw [if_pos c2]
        obtain ⟨r, C', N', hR, hx, hm⟩ := op_errorPosition h 
        refine (hx _ (hm _ ?_))
        rw [if_pos rfl]; exact hJ C' N' hR
      rw [if_neg c2]
      by_cases c3 : k = 3
      · rw [if_pos c3]
        obtain ⟨r, C', N', hR, hx, hm⟩ := op_loadNetwork h 
        refine (hx _ (hm _ ?_))
        rw [if_pos rfl]; exact hJ C' N' hR
      rw [if_neg c3]
      by_cases c4 : k = 4
      · rw [if_pos c4]
        obtain ⟨r, C', N', hR, hx, hm⟩ := op_setTransmissionLimit h y1
        refine ⟨b1, hx _ ⟨b1, hm _ ?_⟩⟩
        rw [if_pos rfl]; exact hJ C' N' hR
      rw [if_neg c4]
      by_cases c5 : k = 5
      · rw [if_pos c5]
        obtain ⟨r, C', N', hR, hx, hm⟩ := op_setCaptureMargin h y1
        refine ⟨b1, hx _ ⟨b1, hm _ ?_⟩⟩
        rw [if_pos rfl]; exact hJ C' N' hR
      rw [if_neg c5]
      by_cases c6 : k = 6
      · rw [if_pos c6]
        obtain ⟨r, C', N', hR, hx, hm⟩ := op_setSlotLimit h y1
        refine ⟨b1, hx _ ⟨b1, hm _ ?_⟩⟩
        rw [if_pos rfl]; exact hJ C' N' hR
      rw [if_neg c6]
      by_cases c7 : k = 7
      · rw [if_pos c7]
        obtain ⟨r, C', N', hR, hx, hm⟩ := op_setTakeoverLimit h y1
        refine ⟨b1, hx _ ⟨b1, hm _ ?_⟩⟩
        rw [if_pos rfl]; exact hJ C' N' hR
      rw [if_neg c7]
      by_cases c8 : k = 8
      · rw [if_pos c8]
        refine ⟨b1, b2, ?_⟩
        by_cases w : y2 = 0
        · rw [if_pos w]
          obtain ⟨r, C', N', hR, hx, hm⟩ := op_setAlive h y1 0 (by decide)
          refine hx _ ⟨b1, b2, ?_⟩
          rw [if_pos w]
          refine hm _ ?_
          rw [if_pos rfl]; exact hJ C' N' hR
        · rw [if_neg w]
          obtain ⟨r, C', N', hR, hx, hm⟩ := op_setAlive h y1 1 (by decide)
          refine hx _ ⟨b1, b2, ?_⟩
          rw [if_neg w]
          refine hm _ ?_
          rw [if_pos rfl]; exact hJ C' N' hR
      rw [if_neg c8]
      by_cases c9 : k = 9
      · rw [if_pos c9]
        obtain ⟨r, C', N', hR, hx, hm⟩ := op_flood h y1
        refine ⟨b1, hx _ ⟨b1, hm _ ?_⟩⟩
        rw [if_pos rfl]; exact hJ C' N' hR
      rw [if_neg c9]
      by_cases c10 : k = 10
      · rw [if_pos c10]
        obtain ⟨r, hx, hm⟩ := op_packetAt h y1
        refine ⟨b1, hx _ ⟨b1, hm _ ?_⟩⟩
        rw [if_pos rfl]; exact hJ C N h
      rw [if_neg c10]
      by_cases c11 : k = 11
      · rw [if_pos c11]
        obtain ⟨r, hx, hm⟩ := op_hopCount h y1
        refine ⟨b1, hx _ ⟨b1, hm _ ?_⟩⟩
        rw [if_pos rfl]; exact hJ C N h
      rw [if_neg c11]
      by_cases c12 : k = 12
      · rw [if_pos c12]
        obtain ⟨r, hx, hm⟩ := op_floodLength h 
        refine (hx _ (hm _ ?_))
        rw [if_pos rfl]; exact hJ C N h
      rw [if_neg c12]
      by_cases c13 : k = 13
      · rw [if_pos c13]
        obtain ⟨r, C', N', hR, hx, hm⟩ := op_addStream h y1 y2 y3
        refine ⟨b1, b2, b3, hx _ ⟨b1, b2, b3, hm _ ?_⟩⟩
        rw [if_pos rfl]; exact hJ C' N' hR
      rw [if_neg c13]
      by_cases c14 : k = 14
      · rw [if_pos c14]
        obtain ⟨r, C', N', hR, hx, hm⟩ := op_removeStream h y1
        refine ⟨b1, hx _ ⟨b1, hm _ ?_⟩⟩
        rw [if_pos rfl]; exact hJ C' N' hR
      rw [if_neg c14]
      by_cases c15 : k = 15
      · rw [if_pos c15]
        obtain ⟨r, hx, hm⟩ := op_waitingPackets h y1
        refine ⟨b1, hx _ ⟨b1, hm _ ?_⟩⟩
        rw [if_pos rfl]; exact hJ C N h
      rw [if_neg c15]
      by_cases c16 : k = 16
      · rw [if_pos c16]
        obtain ⟨r, hx, hm⟩ := op_deliveredPackets h y1
        refine ⟨b1, hx _ ⟨b1, hm _ ?_⟩⟩
        rw [if_pos rfl]; exact hJ C N h
      rw [if_neg c16]
      by_cases c17 : k = 17
      · rw [if_pos c17]
        obtain ⟨r, hx, hm⟩ := op_lostPackets h y1
        refine ⟨b1, hx _ ⟨b1, hm _ ?_⟩⟩
        rw [if_pos rfl]; exact hJ C N h
      rw [if_neg c17]
      by_cases c18 : k = 18
      · rw [if_pos c18]
        obtain ⟨r, C', N', hR, hx, hm⟩ := op_runRounds h y1
        refine ⟨b1, hx _ ⟨b1, hm _ ?_⟩⟩
        rw [if_pos rfl]; exact hJ C' N' hR
      rw [if_neg c18]
      by_cases c19 : k = 19
      · rw [if_pos c19]
        obtain ⟨r, hx, hm⟩ := op_scheduledStream h y1
        refine ⟨b1, hx _ ⟨b1, hm _ ?_⟩⟩
        rw [if_pos rfl]; exact hJ C N h
      rw [if_neg c19]
      by_cases c20 : k = 20
      · rw [if_pos c20]
        obtain ⟨r, hx, hm⟩ := op_scheduleBits h 
        refine (hx _ (hm _ ?_))
        rw [if_pos rfl]; exact hJ C N h
      rw [if_neg c20]
      by_cases c21 : k = 21
      · rw [if_pos c21]
        obtain ⟨r, hx, hm⟩ := op_host h 
        refine (hx _ (hm _ ?_))
        rw [if_pos rfl]; exact hJ C N h
      rw [if_neg c21]
      by_cases c22 : k = 22
      · rw [if_pos c22]
        obtain ⟨r, hx, hm⟩ := op_missedSchedules h y1
        refine ⟨b1, hx _ ⟨b1, hm _ ?_⟩⟩
        rw [if_pos rfl]; exact hJ C N h
      rw [if_neg c22]
      by_cases c23 : k = 23
      · rw [if_pos c23]
        obtain ⟨r, hx, hm⟩ := op_transmissions h y1
        refine ⟨b1, hx _ ⟨b1, hm _ ?_⟩⟩
        rw [if_pos rfl]; exact hJ C N h
      rw [if_neg c23]
      by_cases c24 : k = 24
      · rw [if_pos c24]
        obtain ⟨r, hx, hm⟩ := op_roundNumber h 
        refine (hx _ (hm _ ?_))
        rw [if_pos rfl]; exact hJ C N h
      rw [if_neg c24]
      by_cases c25 : k = 25
      · rw [if_pos c25]
        obtain ⟨r, N', hR, hx, hm⟩ := op_digest h
        refine hx _ (hm _ ?_)
        rw [if_pos (cmp_self r)]; exact hJ C N' hR
      rw [if_neg c25]
      exact hJ C N h
