/-- a flood keeps the worlds tied -/
theorem Rel_fl {C C' : Xm} {N N' : Nm} (h : Rel C N) (x : FrX C C') (m : FrN N N') (hF : ∀ n, n ≤ 8 → C 22 1 = nI n → RF n (C' 46 3) (C' 48) (C' 49) (N'.1 66 13) (N'.1 73) (N'.1 74)) (hse : ∀ n v, n ≤ 8 → C 22 1 = nI n → v < n → C' 44 v = N'.1 75 v) : Rel C' N' := by
  obtain ⟨hb, ht, hm, hs, hk, hrd, n, hn, hC, hM, hO, hN, hF0, hL, hS, hR⟩ := h
  have xr : ∀ a, a ≠ 44 → a ≠ 46 → a ≠ 47 → a ≠ 48 → a ≠ 49 → C' a = C a := x.1
  have mr : ∀ a, a ≠ 66 → a ≠ 73 → a ≠ 74 → a ≠ 75 → a ≠ 89 → a ≠ 90 → N'.1 a = N.1 a := fun a a1 a2 a3 a4 a5 a6 => funext fun b => m.1 a b a2 a3 a4 a5 a6 (by omega)
  have m6 : ∀ b, b ≠ 13 → N'.1 66 b = N.1 66 b := fun b hb => m.1 66 b (by omega) (by omega) (by omega) (by omega) (by omega) (by omega)
  unfold Rel
  rw [xr 0 (by decide) (by decide) (by decide) (by decide) (by decide), xr 1 (by decide) (by decide) (by decide) (by decide) (by decide), xr 2 (by decide) (by decide) (by decide) (by decide) (by decide), xr 22 (by decide) (by decide) (by decide) (by decide) (by decide), xr 42 (by decide) (by decide) (by decide) (by decide) (by decide), xr 43 (by decide) (by decide) (by decide) (by decide) (by decide), xr 64 (by decide) (by decide) (by decide) (by decide) (by decide), xr 65 (by decide) (by decide) (by decide) (by decide) (by decide), x.2 4 (by decide), x.2 5 (by decide)]
  rw [mr 67 (by decide) (by decide) (by decide) (by decide) (by decide) (by decide), mr 68 (by decide) (by decide) (by decide) (by decide) (by decide) (by decide), mr 69 (by decide) (by decide) (by decide) (by decide) (by decide) (by decide), mr 70 (by decide) (by decide) (by decide) (by decide) (by decide) (by decide), mr 71 (by decide) (by decide) (by decide) (by decide) (by decide) (by decide), mr 72 (by decide) (by decide) (by decide) (by decide) (by decide) (by decide), mr 76 (by decide) (by decide) (by decide) (by decide) (by decide) (by decide), mr 77 (by decide) (by decide) (by decide) (by decide) (by decide) (by decide), mr 78 (by decide) (by decide) (by decide) (by decide) (by decide) (by decide), mr 79 (by decide) (by decide) (by decide) (by decide) (by decide) (by decide), mr 80 (by decide) (by decide) (by decide) (by decide) (by decide) (by decide), mr 81 (by decide) (by decide) (by decide) (by decide) (by decide) (by decide), mr 82 (by decide) (by decide) (by decide) (by decide) (by decide) (by decide), mr 83 (by decide) (by decide) (by decide) (by decide) (by decide) (by decide), mr 84 (by decide) (by decide) (by decide) (by decide) (by decide) (by decide)]
  rw [m6 0 (by decide), m6 2 (by decide), m6 3 (by decide), m6 14 (by decide), m6 15 (by decide), m6 16 (by decide), m6 17 (by decide), m6 18 (by decide), m6 19 (by decide), m6 20 (by decide), m6 28 (by decide)]
  exact ⟨hb, ht, hm, hs, hk, hrd, n, hn, hC, hM, hO, ⟨hN.1, fun v hv => ⟨(hN.2 v hv).1, hse n v hn hC hv, (hN.2 v hv).2.2⟩⟩, hF n hn hC, hL.off hn (fun a a1 a2 => xr a (by omega) (by omega) (by omega) (by omega) (by omega)), hS.off (fun a a1 a2 => xr a (by omega) (by omega) (by omega) (by omega) (by omega)), hR⟩
/-- a flood of alive initiators, from tied worlds -/
theorem Rel_flood {C : Xm} {N : Nm} (h : Rel C N) {n : Nat} (hn : n ≤ 8) (hC : C 22 1 = nI n) (hn0 : 0 < n) (mask : Int32) (hia : ∀ v, v < n → ib mask v → C 42 v ≠ 0) :
    ∃ (C' : Xm) (N' : Nm), Rel C' N' ∧ FrX C C' ∧ FrN N N' ∧ (∀ v, v < 8 → C' 48 v ≠ -1 → v < n ∧ C 42 v ≠ 0) ∧ (∀ v, v < 8 → C' 48 v = N'.1 73 v) ∧ (∀ K, K C' → fX1_run C mask K) ∧ ∀ K, K (nI (cn (C' 48) 8)) N' → fX8_floodNow N mask K := by
  have h0 := h
  obtain ⟨hb, ⟨ht, t, t1, t4, ht2⟩, hm, hs, hk, hrd, n', hn', hC', hM, hO, hN, hF0, ⟨L, hL, hlk, hLM⟩, hS, hR⟩ := h
  have e : n' = n := nI_inj (by omega) (by omega) (hC'.symm.trans hC)
  subst e
  obtain ⟨C1, N1, x, m, g1, g2, g3, g4, g5⟩ := floodB mask hn hn0 hL hC hM ht2 (ht.symm.trans ht2) t1 t4 hm.1 (fun v hv => (hN.1 v hv).1) hlk hLM (fun v hv => (hN.2 v hv).2.1) hia
  refine ⟨C1, N1, Rel_fl h0 x m (fun n2 _ hC2 => ?_) (fun n2 v _ hC2 hv => ?_), x, m, g3, fun v hv => (g1.2 hn0 v hv).1, g4, g5⟩
  · have e : n2 = n' := nI_inj (by omega) (by omega) (hC2.symm.trans hC)
    rw [e]; exact g1
  · have e : n2 = n' := nI_inj (by omega) (by omega) (hC2.symm.trans hC)
    rw [e] at hv; exact g2 v hv
theorem op_flood {C : Xm} {N : Nm} (h : Rel C N) (a : Int32) : OpI (fX7_flood C a) (fX8_flood N a) := by
  have h0 := h
  obtain ⟨hb, ht, hm, hs, hk, hrd, n, hn, hC, hM, hO, hN, hF, hL, hS, hR⟩ := h
  by_cases ha : a ≤ 0
  · refine ⟨-1002, C, N, h0, fun K hK => ?_, fun K hK => ?_⟩
    · simp only [fX7_flood, jn]; rw [if_pos ha]; exact hK
    · simp only [fX8_flood, jn]; rw [if_pos ha]; exact hK
  obtain ⟨j, hj, rfl⟩ := nI_of (x := a) (fun q => ha (Int32.le_of_lt q))
  obtain ⟨s1, s2⟩ := shr_b n hn
  have e1 : nI j >>> (nI n &&& 31) = nI (j / 2 ^ n) := pk_shrN hj _ n s1
  have hdiv : j / 2 ^ n < 2 ^ 31 := Nat.lt_of_le_of_lt (Nat.div_le_self _ _) hj
  have hpow : 2 ^ n < 2 ^ 31 := Nat.pow_lt_pow_right (by omega) (by omega)
  by_cases hlt : j < 2 ^ n
  · have c1 : nI j >>> (nI n &&& 31) = 0 := by rw [e1, Nat.div_eq_of_lt hlt]; rfl
    have c2 : nI j < 1 <<< (nI n &&& 31) := by rw [s2]; exact nI_lt hlt hpow
    have hj0 : 0 < j := by
      rcases Nat.eq_zero_or_pos j with z | z
      · rw [z] at ha; exact absurd (by decide) ha
      · exact z
    have hn0 : 0 < n := by
      rcases Nat.eq_zero_or_pos n with z | z
      · rw [z] at hlt; omega
      · exact z
    by_cases hd : ∃ v, v < n ∧ ib (nI j) v ∧ C 42 v = 0
    · refine ⟨-1003, C, N, h0, fun K hK => ?_, fun K hK => ?_⟩
      · simp only [fX7_flood, jn]; rw [if_neg ha, hC, if_pos c1]
        exact (areAliveX _ hn hC).2 hd _ hK
      · simp only [fX8_flood, jn]; rw [if_neg ha, hM, if_pos c2]
        refine (areAliveM _ hn hM _ _).2 ?_ hK
        obtain ⟨v, v1, v2, v3⟩ := hd
        exact ⟨v, v1, v2, by rw [← (hN.1 v (by omega)).1]; exact v3⟩
    · have hd : ∀ v, v < n → ib (nI j) v → C 42 v ≠ 0 := fun v v1 v2 v3 => hd ⟨v, v1, v2, v3⟩
      obtain ⟨C', N', g1, g2, g3, g4, g5, g6, g7⟩ := Rel_flood h0 hn hC hn0 (nI j) hd
      refine ⟨nI (cn (C' 48) 8), C', N', g1, fun K hK => ?_, fun K hK => ?_⟩
      · simp only [fX7_flood, jn]; rw [if_neg ha, hC, if_pos c1]
        refine (areAliveX _ hn hC).1 hd _ ?_
        rw [if_neg (show ¬ (1 : Int32) = 0 by decide)]
        exact g6 _ (countX _ hK)
      · simp only [fX8_flood, jn]; rw [if_neg ha, hM, if_pos c2]
        refine (areAliveM _ hn hM _ _).1 (fun v v1 v2 => by rw [← (hN.1 v (by omega)).1]; exact hd v v1 v2) ?_
        rw [if_neg (show ¬ (1 : Int32) = 0 by decide)]
        exact g7 _ hK
  · have c1 : ¬ nI j >>> (nI n &&& 31) = 0 := by
      rw [e1]
      exact nI_ne0 (Nat.div_pos (by omega) (Nat.pow_pos (by omega))) hdiv
    have c2 : ¬ nI j < 1 <<< (nI n &&& 31) := by rw [s2]; exact nI_nlt (by omega) hj
    refine ⟨-1002, C, N, h0, fun K hK => ?_, fun K hK => ?_⟩
    · simp only [fX7_flood, jn]; rw [if_neg ha, hC, if_neg c1]; exact hK
    · simp only [fX8_flood, jn]; rw [if_neg ha, hM, if_neg c2]; exact hK
