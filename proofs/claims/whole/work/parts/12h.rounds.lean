theorem op_runRounds {C : Xm} {N : Nm} (h : Rel C N) (a : Int32) : OpI (fX7_runRounds C a) (fX8_runRounds N a) := by
  have hR := h
  obtain ⟨n, π, cnt, h0⟩ := h.opn
  have h1 := h0
  obtain ⟨hb, ht, hm, hs, hk, ⟨hrd, r, r0, r9, hr⟩, hn, hC, hM, hO, hN, hF0, hL, hS, hRc⟩ := h0
  by_cases ha : a < 1
  · refine ⟨-1002, C, N, hR, fun K hK => ?_, fun K hK => ?_⟩
    · simp only [fX7_runRounds, jn]; rw [if_pos ha]; exact hK
    · unfold fX8_runRounds; rw [within_eq, if_pos ha, if_pos rfl]; exact hK
  by_cases hb : 20 < a
  · refine ⟨-1002, C, N, hR, fun K hK => ?_, fun K hK => ?_⟩
    · simp only [fX7_runRounds, jn]; rw [if_neg ha, if_neg (Int32.not_le.mpr hb)]; exact hK
    · unfold fX8_runRounds; rw [within_eq, if_neg ha, if_pos hb, if_pos rfl]; exact hK
  have hb' : a ≤ 20 := Int32.not_lt.mp hb
  obtain ⟨k, hk1, hk2⟩ := nI_of2 (x := a) (M := 20) (n := 20) (by decide) (fun q => ha (by rw [Int32.lt_iff_toInt_lt] at q ⊢; exact Int.lt_trans q (by decide))) hb'
  rcases hO with ⟨o1, ⟨o2, o3⟩ | ⟨hh, o2, o3⟩⟩
  · refine ⟨-1003, C, N, hR, fun K hK => ?_, fun K hK => ?_⟩
    · simp only [fX7_runRounds, jn]; rw [if_neg ha, if_pos hb', has_eq hC, o3, if_pos (show bnv n (-1) = 0 by unfold bnv; rw [if_pos (by decide)])]; exact hK
    · unfold fX8_runRounds; rw [within_eq, if_neg ha, if_neg hb, if_neg (by decide), hM, o2, if_pos (show nI 0 = 0 from rfl)]; exact hK
  have hn0 : 0 < n := by omega
  have hbn : ¬ bnv n (nI hh) = 0 := by unfold bnv; rw [if_neg (nI_pos (by omega)), if_neg (nI_ge o2 (by omega))]; decide
  have hM0 : ¬ nI n = 0 := nI_ne0 (by omega) (by omega)
  have es : C 0 8 + a = nI (r + k) := by rw [hr, hk2, nI_add]
  have esN : N.1 66 15 + a = nI (r + k) := by rw [← hrd]; exact es
  by_cases z : r + k ≤ 9999
  · have hz : nI (r + k) ≤ 9999 := (nI_leI (a := r + k) (b := 9999) (by omega) (by omega)).mpr z
    obtain ⟨C', N', s, b1, b2, b3⟩ := roundsB (a := k) (r := r) hn0 hk1 z k 0 C N (by omega) h1 hr
    refine ⟨0 + s, C', N', b1.close, fun K hK => ?_, fun K hK => ?_⟩
    · simp only [fX7_runRounds, jn]; rw [if_neg ha, if_pos hb', has_eq hC, o3, if_neg hbn, es, if_pos hz, hk2]
      exact b2 _ K 200 0 (by omega) hK
    · unfold fX8_runRounds; rw [within_eq, if_neg ha, if_neg hb, if_neg (by decide), hM, if_neg hM0, esN, if_pos hz, hk2]
      exact b3 _ K 200 0 (by omega) hK
  · have hz : ¬ nI (r + k) ≤ 9999 := fun q => z ((nI_leI (a := r + k) (b := 9999) (by omega) (by omega)).mp q)
    refine ⟨-1004, C, N, hR, fun K hK => ?_, fun K hK => ?_⟩
    · simp only [fX7_runRounds, jn]; rw [if_neg ha, if_pos hb', has_eq hC, o3, if_neg hbn, es, if_neg hz]; exact hK
    · unfold fX8_runRounds; rw [within_eq, if_neg ha, if_neg hb, if_neg (by decide), hM, if_neg hM0, esN, if_neg hz]; exact hK
