theorem rng (a : Int32) (lo hi : Nat) (h : hi < 2 ^ 31) (hlh : lo ≤ hi) : a < nI lo ∨ nI hi < a ∨ ∃ k : Nat, lo ≤ k ∧ k ≤ hi ∧ a = nI k := by
  by_cases h1 : a < nI lo
  · exact Or.inl h1
  by_cases h2 : nI hi < a
  · exact Or.inr (Or.inl h2)
  refine Or.inr (Or.inr ?_)
  · have h3 : nI lo ≤ a := Int32.not_lt.mp h1
    have h4 : a ≤ nI hi := Int32.not_lt.mp h2
    have h0 : ¬ a < 0 := by
      rw [Int32.lt_iff_toInt_lt]
      rw [Int32.le_iff_toInt_le, nI_toInt (by omega)] at h3
      have : (0 : Int32).toInt = 0 := by decide
      omega
    obtain ⟨k, hk, rfl⟩ := nI_of h0
    exact ⟨k, (nI_leI (by omega) hk).mp h3, (nI_leI hk h).mp h4, rfl⟩
theorem op_setTransmissionLimit {C : Xm} {N : Nm} (h : Rel C N) (a : Int32) : OpI (fX7_setTransmissionLimit C a) (fX8_setTransmissionLimit N a) := by
  have h0 := h
  obtain ⟨hb, ht, hm, hs, hk, hrd, n, hn, hC, hM, hO, hN, hF, hL, hS, hR⟩ := h
  rcases rng a 1 4 (by omega) (by omega) with q | q | ⟨k, h1, h2, rfl⟩
  · have q : a < 1 := q
    refine ⟨-1002, C, N, h0, fun K hK => ?_, fun K hK => ?_⟩
    · simp only [fX7_setTransmissionLimit, jn, bd]; rw [if_pos q]; exact hK
    · simp only [fX8_setTransmissionLimit, jn, bd]; rw [within_eq, if_pos q, if_pos rfl]; exact hK
  · have q : 4 < a := q
    have q2 : ¬ a ≤ 4 := Int32.not_le.mpr q
    refine ⟨-1002, C, N, h0, fun K hK => ?_, fun K hK => ?_⟩
    · simp only [fX7_setTransmissionLimit, jn, bd]; split <;> first | exact hK | (rw [if_neg q2]; exact hK)
    · simp only [fX8_setTransmissionLimit, jn, bd]; rw [within_eq]; split <;> first | exact hK | (rename_i z; exact absurd (by split <;> first | rfl | (rw [if_pos q])) z)
  · have q1 : ¬ nI k < 1 := nI_nlt (b := 1) h1 (by omega)
    have q2 : nI k ≤ 4 := nI_le (b := 4) h2 (by omega)
    refine ⟨C 46 4, wr C 46 4 (nI k), wrN N 66 16 (nI k), ⟨hb, ⟨rfl, k, h1, h2, rfl⟩, hm, hs, hk, hrd, n, hn, hC, hM, hO, hN, hF, hL.off hn (fun a _ _ => wr_off (by omega)), hS.off (fun a _ _ => wr_off (by omega)), hR⟩, fun K hK => ?_, fun K hK => ?_⟩
    · simp only [fX7_setTransmissionLimit, jn, bd]; rw [if_neg q1, if_pos q2]; exact hK
    · simp only [fX8_setTransmissionLimit, jn, bd]; rw [within_eq, if_neg q1, if_neg (Int32.not_lt.mpr q2), if_neg (by decide), ← ht.1]; exact hK
theorem op_setCaptureMargin {C : Xm} {N : Nm} (h : Rel C N) (a : Int32) : OpI (fX7_setCaptureMargin C a) (fX8_setCaptureMargin N a) := by
  have h0 := h
  obtain ⟨hb, ht, hm, hs, hk, hrd, n, hn, hC, hM, hO, hN, hF, hL, hS, hR⟩ := h
  rcases rng a 1 9 (by omega) (by omega) with q | q | ⟨k, h1, h2, rfl⟩
  · have q : a < 1 := q
    refine ⟨-1002, C, N, h0, fun K hK => ?_, fun K hK => ?_⟩
    · simp only [fX7_setCaptureMargin, jn, bd]; rw [if_pos q]; exact hK
    · simp only [fX8_setCaptureMargin, jn, bd]; rw [within_eq, if_pos q, if_pos rfl]; exact hK
  · have q : 9 < a := q
    have q2 : ¬ a ≤ 9 := Int32.not_le.mpr q
    refine ⟨-1002, C, N, h0, fun K hK => ?_, fun K hK => ?_⟩
    · simp only [fX7_setCaptureMargin, jn, bd]; split <;> first | exact hK | (rw [if_neg q2]; exact hK)
    · simp only [fX8_setCaptureMargin, jn, bd]; rw [within_eq]; split <;> first | exact hK | (rename_i z; exact absurd (by split <;> first | rfl | (rw [if_pos q])) z)
  · have q1 : ¬ nI k < 1 := nI_nlt (b := 1) h1 (by omega)
    have q2 : nI k ≤ 9 := nI_le (b := 9) h2 (by omega)
    refine ⟨C 46 5, wr C 46 5 (nI k), wrN N 66 17 (nI k), ⟨hb, ht, ⟨rfl, k, h1, h2, rfl⟩, hs, hk, hrd, n, hn, hC, hM, hO, hN, hF, hL.off hn (fun a _ _ => wr_off (by omega)), hS.off (fun a _ _ => wr_off (by omega)), hR⟩, fun K hK => ?_, fun K hK => ?_⟩
    · simp only [fX7_setCaptureMargin, jn, bd]; rw [if_neg q1, if_pos q2]; exact hK
    · simp only [fX8_setCaptureMargin, jn, bd]; rw [within_eq, if_neg q1, if_neg (Int32.not_lt.mpr q2), if_neg (by decide), ← hm.1]; exact hK
theorem op_setSlotLimit {C : Xm} {N : Nm} (h : Rel C N) (a : Int32) : OpI (fX7_setSlotLimit C a) (fX8_setSlotLimit N a) := by
  have h0 := h
  obtain ⟨hb, ht, hm, hs, hk, hrd, n, hn, hC, hM, hO, hN, hF, hL, hS, hR⟩ := h
  rcases rng a 0 6 (by omega) (by omega) with q | q | ⟨k, h1, h2, rfl⟩
  · have q : a < 0 := q
    refine ⟨-1002, C, N, h0, fun K hK => ?_, fun K hK => ?_⟩
    · simp only [fX7_setSlotLimit, jn, bd]; rw [if_pos q]; exact hK
    · simp only [fX8_setSlotLimit, jn, bd]; rw [within_eq, if_pos q, if_pos rfl]; exact hK
  · have q : 6 < a := q
    have q2 : ¬ a ≤ 6 := Int32.not_le.mpr q
    refine ⟨-1002, C, N, h0, fun K hK => ?_, fun K hK => ?_⟩
    · simp only [fX7_setSlotLimit, jn, bd]; split <;> first | exact hK | (rw [if_neg q2]; exact hK)
    · simp only [fX8_setSlotLimit, jn, bd]; rw [within_eq]; split <;> first | exact hK | (rename_i z; exact absurd (by split <;> first | rfl | (rw [if_pos q])) z)
  · have q1 : ¬ nI k < 0 := nI_nlt (b := 0) h1 (by omega)
    have q2 : nI k ≤ 6 := nI_le (b := 6) h2 (by omega)
    refine ⟨C 0 5, wr C 0 5 (nI k), wrN N 66 18 (nI k), ⟨hb, ht, hm, ⟨rfl, k, h1, h2, rfl⟩, hk, hrd, n, hn, hC, hM, hO, hN, hF, hL.off hn (fun a _ _ => wr_off (by omega)), hS.off (fun a _ _ => wr_off (by omega)), hR⟩, fun K hK => ?_, fun K hK => ?_⟩
    · simp only [fX7_setSlotLimit, jn, bd]; rw [if_neg q1, if_pos q2]; exact hK
    · simp only [fX8_setSlotLimit, jn, bd]; rw [within_eq, if_neg q1, if_neg (Int32.not_lt.mpr q2), if_neg (by decide), ← hs.1]; exact hK
theorem op_setTakeoverLimit {C : Xm} {N : Nm} (h : Rel C N) (a : Int32) : OpI (fX7_setTakeoverLimit C a) (fX8_setTakeoverLimit N a) := by
  have h0 := h
  obtain ⟨hb, ht, hm, hs, hk, hrd, n, hn, hC, hM, hO, hN, hF, hL, hS, hR⟩ := h
  rcases rng a 1 9 (by omega) (by omega) with q | q | ⟨k, h1, h2, rfl⟩
  · have q : a < 1 := q
    refine ⟨-1002, C, N, h0, fun K hK => ?_, fun K hK => ?_⟩
    · simp only [fX7_setTakeoverLimit, jn, bd]; rw [if_pos q]; exact hK
    · simp only [fX8_setTakeoverLimit, jn, bd]; rw [within_eq, if_pos q, if_pos rfl]; exact hK
  · have q : 9 < a := q
    have q2 : ¬ a ≤ 9 := Int32.not_le.mpr q
    refine ⟨-1002, C, N, h0, fun K hK => ?_, fun K hK => ?_⟩
    · simp only [fX7_setTakeoverLimit, jn, bd]; split <;> first | exact hK | (rw [if_neg q2]; exact hK)
    · simp only [fX8_setTakeoverLimit, jn, bd]; rw [within_eq]; split <;> first | exact hK | (rename_i z; exact absurd (by split <;> first | rfl | (rw [if_pos q])) z)
  · have q1 : ¬ nI k < 1 := nI_nlt (b := 1) h1 (by omega)
    have q2 : nI k ≤ 9 := nI_le (b := 9) h2 (by omega)
    refine ⟨C 0 6, wr C 0 6 (nI k), wrN N 66 19 (nI k), ⟨hb, ht, hm, hs, ⟨rfl, k, h1, h2, rfl⟩, hrd, n, hn, hC, hM, hO, hN, hF, hL.off hn (fun a _ _ => wr_off (by omega)), hS.off (fun a _ _ => wr_off (by omega)), hR⟩, fun K hK => ?_, fun K hK => ?_⟩
    · simp only [fX7_setTakeoverLimit, jn, bd]; rw [if_neg q1, if_pos q2]; exact hK
    · simp only [fX8_setTakeoverLimit, jn, bd]; rw [within_eq, if_neg q1, if_neg (Int32.not_lt.mpr q2), if_neg (by decide), ← hk.1]; exact hK
theorem op_packetAt {C : Xm} {N : Nm} (h : Rel C N) (a : Int32) : OpR (fX7_packetAt C a) (fX8_packetAt N a) := by
  obtain ⟨hb, ht, hm, hs, hk, hrd, n, hn, hC, hM, hO, hN, hF, hL, hS, hR⟩ := h
  rcases bnv_cases a (n := n) (by omega) with q | ⟨v, hv, rfl, q⟩
  · refine ⟨-1001, fun K hK => ?_, fun K hK => ?_⟩
    · simp only [fX7_packetAt, jn, bd]; rw [has_eq hC, q, if_pos rfl]; exact hK
    · simp only [fX8_packetAt, jn, bd]; rw [isNode_eq (by omega) hM, q, if_pos rfl]; exact hK
  · refine ⟨C 48 v, fun K hK => ?_, fun K hK => ?_⟩
    · simp only [fX7_packetAt, jn, bd]; rw [has_eq hC, q, if_neg (by decide), tn_nI (by omega)]; exact ⟨inb_nI (by omega) (by omega), hK⟩
    · simp only [fX8_packetAt, jn, bd]; rw [isNode_eq (by omega) hM, q, if_neg (by decide), tn_nI (by omega), ← (hF.2 (by omega) v (by omega)).1]; exact ⟨inb_nI (by omega) (by omega), hK⟩
theorem op_missedSchedules {C : Xm} {N : Nm} (h : Rel C N) (a : Int32) : OpR (fX7_missedSchedules C a) (fX8_missedSchedules N a) := by
  obtain ⟨hb, ht, hm, hs, hk, hrd, n, hn, hC, hM, hO, hN, hF, hL, hS, hR⟩ := h
  rcases bnv_cases a (n := n) (by omega) with q | ⟨v, hv, rfl, q⟩
  · refine ⟨-1001, fun K hK => ?_, fun K hK => ?_⟩
    · simp only [fX7_missedSchedules, jn, bd]; rw [has_eq hC, q, if_pos rfl]; exact hK
    · simp only [fX8_missedSchedules, jn, bd]; rw [isNode_eq (by omega) hM, q, if_pos rfl]; exact hK
  · refine ⟨C 43 v, fun K hK => ?_, fun K hK => ?_⟩
    · simp only [fX7_missedSchedules, jn, bd]; rw [has_eq hC, q, if_neg (by decide), tn_nI (by omega)]; exact ⟨inb_nI (by omega) (by omega), hK⟩
    · simp only [fX8_missedSchedules, jn, bd]; rw [isNode_eq (by omega) hM, q, if_neg (by decide), tn_nI (by omega), ← (hN.2 v hv).1]; exact ⟨inb_nI (by omega) (by omega), hK⟩
theorem op_transmissions {C : Xm} {N : Nm} (h : Rel C N) (a : Int32) : OpR (fX7_transmissions C a) (fX8_transmissions N a) := by
  obtain ⟨hb, ht, hm, hs, hk, hrd, n, hn, hC, hM, hO, hN, hF, hL, hS, hR⟩ := h
  rcases bnv_cases a (n := n) (by omega) with q | ⟨v, hv, rfl, q⟩
  · refine ⟨-1001, fun K hK => ?_, fun K hK => ?_⟩
    · simp only [fX7_transmissions, jn, bd]; rw [has_eq hC, q, if_pos rfl]; exact hK
    · simp only [fX8_transmissions, jn, bd]; rw [isNode_eq (by omega) hM, q, if_pos rfl]; exact hK
  · refine ⟨C 44 v, fun K hK => ?_, fun K hK => ?_⟩
    · simp only [fX7_transmissions, jn, bd]; rw [has_eq hC, q, if_neg (by decide), tn_nI (by omega)]; exact ⟨inb_nI (by omega) (by omega), hK⟩
    · simp only [fX8_transmissions, jn, bd]; rw [isNode_eq (by omega) hM, q, if_neg (by decide), tn_nI (by omega), ← (hN.2 v hv).2.1]; exact ⟨inb_nI (by omega) (by omega), hK⟩
theorem hops_at {N : Nm} {v : Nat} {p h p' : Int32} (hv : v < 8) (hH : RH p h p' (N.1 74 v)) (K : Int32 → Prop) (hK : K h) : fX8_hops N (nI v) K := by
  simp only [fX8_hops, jn]
  rw [tn_nI (by omega)]
  refine ⟨inb_nI hv (by omega), ?_⟩
  rcases hH.2 with ⟨h1, h2, h3⟩ | ⟨q, k, h1, h2, h3, h4, h5⟩
  · rw [h3, if_pos rfl, ← h2]; exact hK
  · have h6 : ¬ nI k - 1 = -2 := by
      intro q2
      have h7 := congrArg Int32.toInt q2
      have h8 := pk_sub_toInt (a := k) (b := 1) (by omega) (by omega)
      have h9 : (nI k - 1).toInt = (k : Int) - 1 := h8
      rw [h9] at h7
      have : (-2 : Int32).toInt = -2 := by decide
      omega
    have h7 : nI k - 1 + 1 = nI k := Int32.sub_add_cancel _ _
    rw [h5, if_neg h6, h7, ← h4]
    exact ⟨inb_nI hv (by omega), hK⟩
theorem op_hopCount {C : Xm} {N : Nm} (h : Rel C N) (a : Int32) : OpR (fX7_hopCount C a) (fX8_hopCount N a) := by
  obtain ⟨hb, ht, hm, hs, hk, hrd, n, hn, hC, hM, hO, hN, hF, hL, hS, hR⟩ := h
  rcases bnv_cases a (n := n) (by omega) with q | ⟨v, hv, rfl, q⟩
  · refine ⟨-1001, fun K hK => ?_, fun K hK => ?_⟩
    · simp only [fX7_hopCount, jn, bd]; rw [has_eq hC, q, if_pos rfl]; exact hK
    · simp only [fX8_hopCount, jn, bd]; rw [isNode_eq (by omega) hM, q, if_pos rfl]; exact hK
  · refine ⟨C 49 v, fun K hK => ?_, fun K hK => ?_⟩
    · simp only [fX7_hopCount, jn, bd]; rw [has_eq hC, q, if_neg (by decide), tn_nI (by omega)]; exact ⟨inb_nI (by omega) (by omega), hK⟩
    · simp only [fX8_hopCount, jn, bd]; rw [isNode_eq (by omega) hM, q, if_neg (by decide)]
      exact hops_at (by omega) (hF.2 (by omega) v (by omega)) _ hK
theorem op_floodLength {C : Xm} {N : Nm} (h : Rel C N) : OpR (fX7_floodLength C) (fX8_floodLength N) := by
  obtain ⟨hb, ht, hm, hs, hk, hrd, n, hn, hC, hM, hO, hN, hF, hL, hS, hR⟩ := h
  exact ⟨C 46 3, fun K hK => hK, fun K hK => by simp only [fX8_floodLength, jn, bd]; rw [← hF.1]; exact hK⟩
theorem op_host {C : Xm} {N : Nm} (h : Rel C N) : OpR (fX7_host C) (fX8_host N) := by
  obtain ⟨hb, ht, hm, hs, hk, hrd, n, hn, hC, hM, hO, hN, hF, hL, hS, hR⟩ := h
  exact ⟨C 0 7, fun K hK => hK, fun K hK => by simp only [fX8_host, jn, bd]; rw [← hO.1]; exact hK⟩
theorem op_roundNumber {C : Xm} {N : Nm} (h : Rel C N) : OpR (fX7_roundNumber C) (fX8_roundNumber N) := by
  obtain ⟨hb, ht, hm, hs, hk, hrd, hr⟩ := h
  exact ⟨C 0 8, fun K hK => hK, fun K hK => by simp only [fX8_roundNumber, jn, bd]; rw [← hrd.1]; exact hK⟩
theorem op_waitingPackets {C : Xm} {N : Nm} (h : Rel C N) (a : Int32) : OpR (fX7_waitingPackets C a) (fX8_waitingPackets N a) := by
  obtain ⟨hb, ht, hm, hs, hk, hrd, n, hn, hC, hM, hO, hN, hF, hL, ⟨π, cnt, hc, hcC, hcN, hπ, hinj, hst⟩, hR⟩ := h
  rcases bnv_cases a (n := cnt) (by omega) with q | ⟨v, hv, rfl, q⟩
  · refine ⟨-1001, fun K hK => ?_, fun K hK => ?_⟩
    · simp only [fX7_waitingPackets, jn, bd]; rw [hasS_eq hcC, q, if_pos rfl]; exact hK
    · simp only [fX8_waitingPackets, jn, bd]; rw [isStream_eq (by omega) hcN, q, if_pos rfl]; exact hK
  · have h1 := hst v hv
    obtain ⟨g1, g2⟩ := hπ v (by omega)
    refine ⟨C (52 + 2 * π v) 4, fun K hK => ?_, fun K hK => ?_⟩
    · simp only [fX7_waitingPackets, jn, bd]; rw [hasS_eq hcC, q, if_neg (by decide), tn_nI (by omega), g2, tn_nI (by omega)]; exact ⟨inb_nI (by omega) (by omega), g1, hK⟩
    · simp only [fX8_waitingPackets, jn, bd]; rw [isStream_eq (by omega) hcN, q, if_neg (by decide), tn_nI (by omega), ← h1.2.2.2.1]; exact ⟨inb_nI (by omega) (by omega), hK⟩
theorem op_deliveredPackets {C : Xm} {N : Nm} (h : Rel C N) (a : Int32) : OpR (fX7_deliveredPackets C a) (fX8_deliveredPackets N a) := by
  obtain ⟨hb, ht, hm, hs, hk, hrd, n, hn, hC, hM, hO, hN, hF, hL, ⟨π, cnt, hc, hcC, hcN, hπ, hinj, hst⟩, hR⟩ := h
  rcases bnv_cases a (n := cnt) (by omega) with q | ⟨v, hv, rfl, q⟩
  · refine ⟨-1001, fun K hK => ?_, fun K hK => ?_⟩
    · simp only [fX7_deliveredPackets, jn, bd]; rw [hasS_eq hcC, q, if_pos rfl]; exact hK
    · simp only [fX8_deliveredPackets, jn, bd]; rw [isStream_eq (by omega) hcN, q, if_pos rfl]; exact hK
  · have h1 := hst v hv
    obtain ⟨g1, g2⟩ := hπ v (by omega)
    refine ⟨C (52 + 2 * π v) 5, fun K hK => ?_, fun K hK => ?_⟩
    · simp only [fX7_deliveredPackets, jn, bd]; rw [hasS_eq hcC, q, if_neg (by decide), tn_nI (by omega), g2, tn_nI (by omega)]; exact ⟨inb_nI (by omega) (by omega), g1, hK⟩
    · simp only [fX8_deliveredPackets, jn, bd]; rw [isStream_eq (by omega) hcN, q, if_neg (by decide), tn_nI (by omega), ← h1.2.2.2.2.1]; exact ⟨inb_nI (by omega) (by omega), hK⟩
theorem op_lostPackets {C : Xm} {N : Nm} (h : Rel C N) (a : Int32) : OpR (fX7_lostPackets C a) (fX8_lostPackets N a) := by
  obtain ⟨hb, ht, hm, hs, hk, hrd, n, hn, hC, hM, hO, hN, hF, hL, ⟨π, cnt, hc, hcC, hcN, hπ, hinj, hst⟩, hR⟩ := h
  rcases bnv_cases a (n := cnt) (by omega) with q | ⟨v, hv, rfl, q⟩
  · refine ⟨-1001, fun K hK => ?_, fun K hK => ?_⟩
    · simp only [fX7_lostPackets, jn, bd]; rw [hasS_eq hcC, q, if_pos rfl]; exact hK
    · simp only [fX8_lostPackets, jn, bd]; rw [isStream_eq (by omega) hcN, q, if_pos rfl]; exact hK
  · have h1 := hst v hv
    obtain ⟨g1, g2⟩ := hπ v (by omega)
    refine ⟨C (52 + 2 * π v) 6, fun K hK => ?_, fun K hK => ?_⟩
    · simp only [fX7_lostPackets, jn, bd]; rw [hasS_eq hcC, q, if_neg (by decide), tn_nI (by omega), g2, tn_nI (by omega)]; exact ⟨inb_nI (by omega) (by omega), g1, hK⟩
    · simp only [fX8_lostPackets, jn, bd]; rw [isStream_eq (by omega) hcN, q, if_neg (by decide), tn_nI (by omega), ← h1.2.2.2.2.2.1]; exact ⟨inb_nI (by omega) (by omega), hK⟩
theorem op_scheduledStream {C : Xm} {N : Nm} (h : Rel C N) (a : Int32) : OpR (fX7_scheduledStream C a) (fX8_scheduledStream N a) := by
  obtain ⟨hb, ht, hm, hs, hk, hrd, n, hn, hC, hM, hO, hN, hF, hL, hS, ⟨z, hz, hzC, hzN, hen⟩⟩ := h
  rcases bnv_cases a (n := z) (by omega) with q | ⟨v, hv, rfl, q⟩
  · refine ⟨-1, fun K hK => ?_, fun K hK => ?_⟩
    · simp only [fX7_scheduledStream, jn, bd]; rw [hzC]
      unfold bnv at q
      split
      · exact hK
      · rename_i q1
        rw [if_neg q1] at q
        by_cases q2 : nI z ≤ a
        · rw [if_pos q2]; exact hK
        · rw [if_neg q2] at q; exact absurd q (by decide)
    · simp only [fX8_scheduledStream, jn, bd]; rw [within_eq, hzN, within_bnv (by omega), q, if_pos rfl]; exact hK
  · refine ⟨C 65 v, fun K hK => ?_, fun K hK => ?_⟩
    · simp only [fX7_scheduledStream, jn, bd]; rw [hzC, if_neg (nI_pos (by omega)), if_neg (nI_ge hv (by omega)), tn_nI (by omega)]; exact ⟨inb_nI (by omega) (by omega), hK⟩
    · simp only [fX8_scheduledStream, jn, bd]; rw [within_eq, hzN, within_bnv (by omega), q, if_neg (by decide), tn_nI (by omega), ← (hen v hv).1]; exact ⟨inb_nI (by omega) (by omega), hK⟩
theorem op_setAlive {C : Xm} {N : Nm} (h : Rel C N) (a b : Int32) (hbl : bl b) : OpI (fX7_setAlive C a b) (fX8_setAlive N a b) := by
  have h0 := h
  obtain ⟨hb, ht, hm, hs, hk, hrd, n, hn, hC, hM, hO, hN, hF, hL, hS, hR⟩ := h
  rcases bnv_cases a (n := n) (by omega) with q | ⟨v, hv, rfl, q⟩
  · refine ⟨-1001, C, N, h0, fun K hK => ?_, fun K hK => ?_⟩
    · simp only [fX7_setAlive, jn, bd]; rw [has_eq hC, q, if_pos rfl]; exact hK
    · simp only [fX8_setAlive, jn, bd]; rw [isNode_eq (by omega) hM, q, if_pos rfl]; exact hK
  · have hv8 : v < 8 := by omega
    obtain ⟨a1, a2⟩ := hN.1 v hv8
    obtain ⟨m1, m2, m3⟩ := hN.2 v hv
    by_cases e : C 42 v = b
    · refine ⟨if C 42 v = 0 then 0 else 1, C, wrN (wrN N 76 v (N.1 76 v)) 72 v b, ⟨hb, ht, hm, hs, hk, hrd, n, hn, hC, hM, hO, ⟨fun u hu => ?_, fun u hu => ?_⟩, hF, hL, hS, hR⟩, fun K hK => ?_, fun K hK => ?_⟩
      · show C 42 u = (wrN (wrN N 76 v (N.1 76 v)) 72 v b).1 72 u ∧ _
        by_cases e2 : u = v
        · subst e2; simp only [wrN, and_self, if_true]; exact ⟨e, a2⟩
        · simp only [wrN, e2, and_false, if_false, Nat.reduceEqDiff, false_and]; exact hN.1 u hu
      · show C 43 u = (wrN (wrN N 76 v (N.1 76 v)) 72 v b).1 76 u ∧ _
        by_cases e2 : u = v
        · subst e2; simp only [wrN, Nat.reduceEqDiff, false_and, if_false, and_self, if_true]; exact hN.2 u hu
        · simp only [wrN, e2, and_false, if_false]; exact hN.2 u hu
      · simp only [fX7_setAlive, jn, bd]; rw [has_eq hC, q, if_neg (by decide), tn_nI (by omega), if_pos e]
        refine ⟨inb_nI hv8 (by omega), ?_⟩
        split <;> rename_i z <;> simp only [z, if_true, if_false] at hK <;> exact hK
      · simp only [fX8_setAlive, jn, bd]; rw [isNode_eq (by omega) hM, q, if_neg (by decide), tn_nI (by omega), if_pos (by rw [← a1]; exact e)]
        refine ⟨inb_nI hv8 (by omega), inb_nI hv8 (by omega), inb_nI hv8 (by omega), inb_nI hv8 (by omega), hbl, ?_⟩
        rw [← a1]
        split <;> rename_i z <;> simp only [z, if_true, if_false] at hK <;> exact hK
    · refine ⟨if C 42 v = 0 then 0 else 1, wr (wr C 42 v b) 43 v 0, wrN (wrN N 76 v 0) 72 v b, ⟨hb, ht, hm, hs, hk, hrd, n, hn, hC, hM, hO, ⟨fun u hu => ?_, fun u hu => ?_⟩, hF, hL.off hn (fun a _ _ => (wr_off (by omega)).trans (wr_off (by omega))), hS.off (fun a _ _ => (wr_off (by omega)).trans (wr_off (by omega))), hR⟩, fun K hK => ?_, fun K hK => ?_⟩
      · show wr (wr C 42 v b) 43 v 0 42 u = (wrN (wrN N 76 v 0) 72 v b).1 72 u ∧ bl (wr (wr C 42 v b) 43 v 0 42 u)
        by_cases e2 : u = v
        · subst e2; simp only [wr, wrN, Nat.reduceEqDiff, false_and, if_false, and_self, if_true]; exact ⟨trivial, hbl⟩
        · simp only [wr, wrN, e2, and_false, if_false]; exact hN.1 u hu
      · show wr (wr C 42 v b) 43 v 0 43 u = (wrN (wrN N 76 v 0) 72 v b).1 76 u ∧ C 44 u = N.1 75 u ∧ (wr (wr C 42 v b) 43 v 0 42 u = 0 → wr (wr C 42 v b) 43 v 0 43 u = 0)
        by_cases e2 : u = v
        · subst e2; simp only [wr, wrN, Nat.reduceEqDiff, false_and, if_false, and_self, if_true]; exact ⟨trivial, m2, fun _ => trivial⟩
        · simp only [wr, wrN, e2, and_false, if_false]; exact hN.2 u hu
      · simp only [fX7_setAlive, jn, bd]; rw [has_eq hC, q, if_neg (by decide), tn_nI (by omega), if_neg e]
        refine ⟨inb_nI hv8 (by omega), inb_nI hv8 (by omega), hbl, inb_nI hv8 (by omega), ?_⟩
        split <;> rename_i z <;> simp only [z, if_true, if_false] at hK <;> exact hK
      · simp only [fX8_setAlive, jn, bd]; rw [isNode_eq (by omega) hM, q, if_neg (by decide), tn_nI (by omega), if_neg (by rw [← a1]; exact e)]
        refine ⟨inb_nI hv8 (by omega), inb_nI hv8 (by omega), inb_nI hv8 (by omega), hbl, ?_⟩
        rw [← a1]
        split <;> rename_i z <;> simp only [z, if_true, if_false] at hK <;> exact hK
