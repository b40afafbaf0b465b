/-! PART 11: streams -/
/-- calls that touch streams and schedule alone -/
theorem Rel_st {C C' : Xm} {N N' : Nm} (h : Rel C N) (x : ∀ a, a < 50 → C' a = C a) (m : ∀ a, a ≠ 66 → a < 77 → N'.1 a = N.1 a) (m6 : ∀ b, b ≠ 20 → b ≠ 28 → N'.1 66 b = N.1 66 b)
    (hS : ∀ n, n ≤ 8 → C 22 1 = nI n → RS n C (N.1 66 20) (N.1 77) (N.1 78) (N.1 79) (N.1 80) (N.1 81) (N.1 82) (N.1 83) → RS n C' (N'.1 66 20) (N'.1 77) (N'.1 78) (N'.1 79) (N'.1 80) (N'.1 81) (N'.1 82) (N'.1 83))
    (hR : RC (N'.1 66 20) (C' 64 1) (C' 65) (N'.1 66 28) (N'.1 84)) : Rel C' N' := by
  obtain ⟨hb, ht, hm, hs, hk, hrd, n, hn, hC, hM, hO, hN, hF0, hL, hS0, hR0⟩ := h
  unfold Rel
  rw [x 0 (by omega), x 1 (by omega), x 2 (by omega), x 22 (by omega), x 42 (by omega), x 43 (by omega), x 44 (by omega), x 46 (by omega), x 48 (by omega), x 49 (by omega)]
  rw [m 67 (by decide) (by omega), m 68 (by decide) (by omega), m 69 (by decide) (by omega), m 70 (by decide) (by omega), m 71 (by decide) (by omega), m 72 (by decide) (by omega), m 73 (by decide) (by omega), m 74 (by decide) (by omega), m 75 (by decide) (by omega), m 76 (by decide) (by omega)]
  rw [m6 0 (by decide) (by decide), m6 2 (by decide) (by decide), m6 3 (by decide) (by decide), m6 13 (by decide) (by decide), m6 14 (by decide) (by decide), m6 15 (by decide) (by decide), m6 16 (by decide) (by decide), m6 17 (by decide) (by decide), m6 18 (by decide) (by decide), m6 19 (by decide) (by decide)]
  exact ⟨hb, ht, hm, hs, hk, hrd, n, hn, hC, hM, hO, hN, hF0, hL.off hn (fun a a1 a2 => x a (by omega)), hS n hn hC hS0, hR⟩
theorem op_addStream {C : Xm} {N : Nm} (h : Rel C N) (a1 a2 a3 : Int32) : OpI (fX7_addStream C a1 a2 a3) (fX8_addStream N a1 a2 a3) := by
  have h0 := h
  obtain ⟨hb, ht, hm, hs, hk, hrd, n, hn, hC, hM, hO, hN, hF, hL, ⟨π, cnt, hc, hcC, hcN, hπ, hinj, hst⟩, hR⟩ := h
  rcases bnv_cases a1 (n := n) (by omega) with q | ⟨v, hv, rfl, q⟩
  · refine ⟨-1001, C, N, h0, fun K hK => ?_, fun K hK => ?_⟩
    · simp only [fX7_addStream]; rw [has_eq hC, q, if_pos rfl]; exact hK
    · simp only [fX8_addStream]; rw [isNode_eq (by omega) hM, q, if_pos rfl]; exact hK
  have bad : (a2 < 1 ∨ 9 < a2 ∨ a3 < 0 ∨ 99 < a3) → OpI (fX7_addStream C (nI v) a2 a3) (fX8_addStream N (nI v) a2 a3) := fun hbad => by
    refine ⟨-1002, C, N, h0, fun K hK => ?_, fun K hK => ?_⟩
    · simp only [fX7_addStream, jn]; rw [has_eq hC, q, if_neg (show ¬ (1 : Int32) = 0 by decide)]
      by_cases z1 : a2 < 1
      · rw [if_pos z1]; exact hK
      rw [if_neg z1]
      by_cases z2 : 9 < a2
      · rw [if_pos z2]; exact hK
      rw [if_neg z2]
      by_cases z3 : a3 < 0
      · rw [if_pos z3]; exact hK
      rw [if_neg z3]
      by_cases z4 : 99 < a3
      · rw [if_neg (Int32.not_le.mpr z4)]; exact hK
      · rcases hbad with z | z | z | z
        · exact absurd z z1
        · exact absurd z z2
        · exact absurd z z3
        · exact absurd z z4
    · simp only [fX8_addStream, jn]; rw [isNode_eq (by omega) hM, q, if_neg (show ¬ (1 : Int32) = 0 by decide), within_eq]
      by_cases z1 : a2 < 1
      · rw [if_pos z1, if_pos rfl]; exact hK
      rw [if_neg z1]
      by_cases z2 : 9 < a2
      · rw [if_pos z2, if_pos rfl]; exact hK
      rw [if_neg z2, if_neg (show ¬ (1 : Int32) = 0 by decide), within_eq]
      by_cases z3 : a3 < 0
      · rw [if_pos z3, if_pos rfl]; exact hK
      rw [if_neg z3]
      by_cases z4 : 99 < a3
      · rw [if_pos z4, if_pos rfl]; exact hK
      · rcases hbad with z | z | z | z
        · exact absurd z z1
        · exact absurd z z2
        · exact absurd z z3
        · exact absurd z z4
  rcases rng a2 1 9 (by omega) (by omega) with z | z | ⟨p, p1, p2, rfl⟩
  · exact bad (Or.inl z)
  · exact bad (Or.inr (Or.inl z))
  rcases rng a3 0 99 (by omega) (by omega) with z | z | ⟨st, st1, st2, rfl⟩
  · exact bad (Or.inr (Or.inr (Or.inl z)))
  · exact bad (Or.inr (Or.inr (Or.inr z)))
  have y1 : ¬ nI p < 1 := nI_nlt (b := 1) p1 (by omega)
  have y2 : ¬ (9 : Int32) < nI p := nI_nlt (a := 9) p2 (by omega)
  have y3 : ¬ nI st < 0 := nI_pos (by omega)
  have y4 : nI st ≤ 99 := nI_le (b := 99) st2 (by omega)
  have y5 : ¬ (99 : Int32) < nI st := nI_nlt (a := 99) st2 (by omega)
  by_cases hfull : cnt = 6
  · refine ⟨-1004, C, N, h0, fun K hK => ?_, fun K hK => ?_⟩
    · simp only [fX7_addStream, jn, fX6_add]; rw [has_eq hC, q, if_neg (show ¬ (1 : Int32) = 0 by decide), if_neg y1, if_neg y2, if_neg y3, if_pos y4, hcC, hfull, if_neg (show ¬ nI 6 < 6 by decide)]; exact hK
    · simp only [fX8_addStream, jn]; rw [isNode_eq (by omega) hM, q, if_neg (show ¬ (1 : Int32) = 0 by decide), within_eq, if_neg y1, if_neg y2, if_neg (show ¬ (1 : Int32) = 0 by decide), within_eq, if_neg y3, if_neg y5, if_neg (show ¬ (1 : Int32) = 0 by decide), hcN, hfull, if_pos (show nI 6 = 6 by decide)]; exact hK
  have hlt : cnt < 6 := by omega
  obtain ⟨g1, g2⟩ := hπ cnt hlt
  obtain ⟨k0, hk0⟩ : ∃ k0, k0 = 52 + 2 * π cnt := ⟨_, rfl⟩
  obtain ⟨C6, hC6⟩ : ∃ Z, Z = wr (wr (wr (wr (wr (wr C k0 1 (nI v)) k0 2 (nI p)) k0 3 (nI st)) k0 4 0) k0 5 0) k0 6 0 := ⟨_, rfl⟩
  have c6 : ∀ a, a ≠ k0 → C6 a = C a := fun a ha => by rw [hC6, wr_off ha, wr_off ha, wr_off ha, wr_off ha, wr_off ha, wr_off ha]
  have c6k : C6 k0 1 = nI v ∧ C6 k0 2 = nI p ∧ C6 k0 3 = nI st ∧ C6 k0 4 = 0 ∧ C6 k0 5 = 0 ∧ C6 k0 6 = 0 := by rw [hC6]; simp [wr]
  obtain ⟨N6, hN6⟩ : ∃ Z, Z = wrN (wrN (wrN (wrN (wrN (wrN N 77 cnt (nI v)) 78 cnt (nI p)) 79 cnt (nI st)) 80 cnt 0) 82 cnt 0) 83 cnt 0 := ⟨_, rfl⟩
  have n6 : ∀ a b, (a < 77 ∨ a = 81 ∨ a = 84 ∨ b ≠ cnt) → N6.1 a b = N.1 a b := fun a b hab => by
    rw [hN6]
    have : ∀ r, (r = 77 ∨ r = 78 ∨ r = 79 ∨ r = 80 ∨ r = 82 ∨ r = 83) → ¬ (a = r ∧ b = cnt) := fun r hr => by omega
    simp only [wrN, this 77 (by omega), this 78 (by omega), this 79 (by omega), this 80 (by omega), this 82 (by omega), this 83 (by omega), if_false]
  have n6k : N6.1 77 cnt = nI v ∧ N6.1 78 cnt = nI p ∧ N6.1 79 cnt = nI st ∧ N6.1 80 cnt = 0 ∧ N6.1 82 cnt = 0 ∧ N6.1 83 cnt = 0 := by rw [hN6]; simp [wrN]
  refine ⟨nI cnt, wr C6 50 1 (nI (cnt + 1)), wrN N6 66 20 (nI (cnt + 1)), Rel_st h0 (fun a ha => ?_) (fun a h66 ha => ?_) (fun b h20 h28 => ?_) (fun n' hn' hC' _ => ?_) ?_, fun K hK => ?_, fun K hK => ?_⟩
  · rw [wr_off (by omega), c6 a (by omega)]
  · funext b
    have : ¬ (a = 66 ∧ b = 20) := by omega
    simp only [wrN, this, if_false]
    exact n6 a b (by omega)
  · simp only [wrN, h20, and_false, if_false]
    exact n6 66 b (by omega)
  · have en : n' = n := nI_inj (by omega) (by omega) (hC'.symm.trans hC)
    subst en
    refine ⟨π, cnt + 1, by omega, by rw [wr_row]; rfl, by simp [wrN], fun i hi => ?_, hinj, fun i hi => ?_⟩
    · rw [wr_off (by decide), c6 51 (by omega)]; exact hπ i hi
    · have hpi := (hπ i (by omega)).1
      rw [wr_off (by omega), wr_off (by omega)]
      have r : ∀ a b, a ≠ 66 → (wrN N6 66 20 (nI (cnt + 1))).1 a b = N6.1 a b := fun a b ha => by simp only [wrN, ha, false_and, if_false]
      have e77 : (wrN N6 66 20 (nI (cnt + 1))).1 77 = N6.1 77 := funext fun b => r 77 b (by decide)
      have e78 : (wrN N6 66 20 (nI (cnt + 1))).1 78 = N6.1 78 := funext fun b => r 78 b (by decide)
      have e79 : (wrN N6 66 20 (nI (cnt + 1))).1 79 = N6.1 79 := funext fun b => r 79 b (by decide)
      have e80 : (wrN N6 66 20 (nI (cnt + 1))).1 80 = N6.1 80 := funext fun b => r 80 b (by decide)
      have e81 : (wrN N6 66 20 (nI (cnt + 1))).1 81 = N6.1 81 := funext fun b => r 81 b (by decide)
      have e82 : (wrN N6 66 20 (nI (cnt + 1))).1 82 = N6.1 82 := funext fun b => r 82 b (by decide)
      have e83 : (wrN N6 66 20 (nI (cnt + 1))).1 83 = N6.1 83 := funext fun b => r 83 b (by decide)
      rw [e77, e78, e79, e80, e81, e82, e83]
      by_cases e : i = cnt
      · subst e
        rw [← hk0]
        obtain ⟨a1, a2, a3, a4, a5, a6⟩ := c6k
        obtain ⟨b1, b2, b3, b4, b5, b6⟩ := n6k
        exact ⟨by rw [a1, b1], by rw [a2, b2], by rw [a3, b3], by rw [a4, b4], by rw [a5, b5], by rw [a6, b6], ⟨v, hv, a1⟩, ⟨p, p1, p2, a2⟩, ⟨st, st2, a3⟩, 0, by omega, a4, fun j hj => absurd hj (Nat.not_lt_zero j)⟩
      · have hne : π i ≠ π cnt := fun z => e (hinj i cnt (by omega) hlt z)
        rw [c6 (52 + 2 * π i) (by omega), c6 (53 + 2 * π i) (by omega)]
        have hold := hst i (by omega)
        unfold RS1 at hold ⊢
        rw [n6 77 i (by omega), n6 78 i (by omega), n6 79 i (by omega), n6 80 i (by omega), n6 82 i (by omega), n6 83 i (by omega)]
        have e81' : N6.1 81 = N.1 81 := funext fun b => n6 81 b (by omega)
        rw [e81']; exact hold
  · obtain ⟨z, z1, z2, z3, z4⟩ := hR
    refine ⟨z, z1, by rw [wr_off (by decide), c6 64 (by omega)]; exact z2, ?_, fun k hk => ?_⟩
    · have : (wrN N6 66 20 (nI (cnt + 1))).1 66 28 = N6.1 66 28 := rfl
      rw [this, n6 66 28 (by omega)]; exact z3
    · obtain ⟨w1, i, c, w2, w3, w4, w5⟩ := z4 k hk
      have ec : c = cnt := nI_inj (by omega) (by omega) (w2.symm.trans hcN)
      rw [wr_off (by decide), c6 65 (by omega)]
      have : (wrN N6 66 20 (nI (cnt + 1))).1 84 k = N6.1 84 k := rfl
      rw [this, n6 84 k (by omega)]
      exact ⟨w1, i, cnt + 1, by simp [wrN], by omega, by omega, w5⟩
  · simp only [fX7_addStream, jn, fX6_add, fX5_startAnew, bd]
    rw [has_eq hC, q, if_neg (show ¬ (1 : Int32) = 0 by decide), if_neg y1, if_neg y2, if_neg y3, if_pos y4, hcC, if_pos (show nI cnt < 6 from nI_lt (b := 6) hlt (by omega)), tn_nI (show cnt < 2 ^ 31 by omega), g2, tn_nI (show π cnt < 2 ^ 31 by omega), ← hk0, ← hC6]
    refine ⟨inb_nI hlt (by omega), g1, ?_⟩
    have e1 : C6 50 1 + 1 = nI (cnt + 1) := by rw [c6 50 (by omega), hcC]; exact nI_1 cnt
    rw [e1]
    have e2 : wr C6 50 1 (nI (cnt + 1)) 50 1 - 1 = nI cnt := by rw [wr_row]; exact nI_pred cnt
    rw [e2]; exact hK
  · simp only [fX8_addStream, jn, bd]
    rw [isNode_eq (by omega) hM, q, if_neg (show ¬ (1 : Int32) = 0 by decide), within_eq, if_neg y1, if_neg y2, if_neg (show ¬ (1 : Int32) = 0 by decide), within_eq, if_neg y3, if_neg y5, if_neg (show ¬ (1 : Int32) = 0 by decide)]
    have r20 : ∀ (M : Nm) (a : Nat) (b : Nat) (x : Int32), a ≠ 66 → (wrN M a b x).1 66 20 = M.1 66 20 := fun M a b x ha => by
      have : ¬ (66 = a ∧ 20 = b) := by omega
      simp only [wrN, this, if_false]
    rw [r20 _ 83 _ _ (by decide), r20 _ 82 _ _ (by decide), r20 _ 80 _ _ (by decide), r20 _ 79 _ _ (by decide), r20 _ 78 _ _ (by decide), r20 _ 77 _ _ (by decide), hcN, if_neg (show ¬ nI cnt = 6 from fun z => hfull (nI_inj (b := 6) (by omega) (by omega) z)), tn_nI (show cnt < 2 ^ 31 by omega), ← hN6, nI_1]
    have hbi := inb_nI hlt (show 6 < 2 ^ 31 by omega)
    refine ⟨hbi, hbi, hbi, hbi, hbi, hbi, ?_⟩
    have e2 : (wrN N6 66 20 (nI (cnt + 1))).1 66 20 - 1 = nI cnt := by simp only [wrN, and_self, if_true]; exact nI_pred cnt
    rw [e2]; exact hK
