theorem removeX {C : Xm} {π : Nat → Nat} {cnt r : Nat} (hc : cnt ≤ 6) (hr : r < cnt) (hcC : C 50 1 = nI cnt) (hπ : ∀ i, i < 6 → π i < 6 ∧ C 51 i = nI (π i)) :
    ∃ C', (∀ a, a ≠ 50 → a ≠ 51 → C' a = C a) ∧ C' 50 1 = nI (cnt - 1) ∧ (∀ i, i < 6 → C' 51 i = nI (if i < r then π i else if i + 1 < cnt then π (i + 1) else if i + 1 = cnt then π r else π i)) ∧ ∀ K, K C' → fX6_remove C (nI r) K := by
  obtain ⟨C1, ⟨h1, h2, h3⟩, h4⟩ := ex_loop (F := fun (t : (Int32 → Xm → Prop) × (Xm → Prop)) m i C' => fX6_remove_L11 (nI r) t.1 t.2 m (nI i) C') (X := fun t C' => t.1 (nI cnt) C')
    (I := fun i C' => r < i ∧ (∀ a, a ≠ 51 → C' a = C a) ∧ ∀ j, j < 6 → C' 51 j = nI (if r ≤ j ∧ j + 1 < i then π (j + 1) else π j)) cnt
    (fun t m C' hI h => by rw [fX6_remove_L11, hI.2.1 50 (by decide), hcC, if_pos (Int32.le_refl _)]; exact h)
    (fun i C' hi hI => by
      obtain ⟨g0, g1, g2⟩ := hI
      have hlt : ¬ C' 50 1 ≤ nI i := by rw [g1 50 (by decide), hcC]; exact nI_ge hi (by omega)
      have e0 := g2 i (by omega)
      rw [if_neg (by omega)] at e0
      refine ⟨wr C' 51 (i - 1) (nI (π i)), ⟨by omega, fun a ha => (wr_off ha).trans (g1 a ha), fun j hj => ?_⟩, fun t m h => ?_⟩
      · rw [wr_row]; unfold upd
        by_cases e : j = i - 1
        · rw [if_pos e, if_pos (by omega)]
          congr 2; omega
        · rw [if_neg e, g2 j hj]
          by_cases z : r ≤ j ∧ j + 1 < i
          · rw [if_pos z, if_pos (by omega)]
          · rw [if_neg z, if_neg (by omega)]
      · show fX6_remove_L11 (nI r) t.1 t.2 (m + 1) (nI i) C'
        rw [fX6_remove_L11, if_neg hlt]
        simp only [bd]
        have e1 : nI i - 1 = nI (i - 1) := pk_sub (a := i) (b := 1) (by omega)
        rw [e1, tn_nI (show i < 2 ^ 31 by omega), tn_nI (show i - 1 < 2 ^ 31 by omega), e0, tn_nI (show π i < 2 ^ 31 by have := (hπ i (by omega)).1; omega), nI_1]
        exact ⟨inb_nI (by omega) (by omega), (hπ i (by omega)).1, inb_nI (by omega) (by omega), h⟩)
    (r + 1) 200 C (by omega) (by omega) ⟨by omega, fun _ _ => rfl, fun j hj => by rw [if_neg (by omega)]; exact (hπ j hj).2⟩
  refine ⟨wr (wr C1 50 1 (nI (cnt - 1))) 51 (cnt - 1) (nI (π r)), fun a a1 a2 => by rw [wr_off a2, wr_off a1, h2 a a2], by rw [wr_off (by decide), wr_row]; rfl, fun i hi => ?_, fun K hK => ?_⟩
  · rw [wr_row]; unfold upd
    by_cases e : i = cnt - 1
    · rw [if_pos e, if_neg (by omega), if_neg (by omega), if_pos (by omega)]
    · rw [if_neg e, wr_off (by decide), h3 i hi]
      by_cases z1 : i < r
      · rw [if_neg (by omega), if_pos z1]
      · rw [if_neg z1]
        by_cases z2 : i + 1 < cnt
        · rw [if_pos (by omega), if_pos z2]
        · rw [if_neg (by omega), if_neg z2, if_neg (by omega)]
  · simp only [fX6_remove, jn, bd]
    have hp := (hπ r (by omega)).1
    rw [tn_nI (show r < 2 ^ 31 by omega), (hπ r (by omega)).2, tn_nI (show π r < 2 ^ 31 by omega), nI_1]
    refine ⟨inb_nI (by omega) (by omega), hp, h4 (fun _ C12 => _, K) ?_⟩
    show inb (wr C1 50 1 (C1 50 1 - 1) 50 1) 6 ∧ K (wr (wr C1 50 1 (C1 50 1 - 1)) 51 (Int32.toNatClampNeg (wr C1 50 1 (C1 50 1 - 1) 50 1)) (nI (π r)))
    have e1 : C1 50 1 - 1 = nI (cnt - 1) := by rw [h2 50 (by decide), hcC]; exact pk_sub (a := cnt) (b := 1) (by omega)
    have e2 : wr C1 50 1 (nI (cnt - 1)) 50 1 = nI (cnt - 1) := by rw [wr_row]; rfl
    rw [e1, e2, tn_nI (show cnt - 1 < 2 ^ 31 by omega)]
    exact ⟨inb_nI (by omega) (by omega), hK⟩
theorem removeM {N : Nm} {cnt r : Nat} (hc : cnt ≤ 6) (hr : r < cnt) (hcN : N.1 66 20 = nI cnt) :
    ∃ N', (∀ a, a ≠ 66 → a < 77 → N'.1 a = N.1 a) ∧ (∀ b, b ≠ 20 → b ≠ 28 → N'.1 66 b = N.1 66 b) ∧ N'.1 66 20 = nI (cnt - 1) ∧ N'.1 66 28 = 0 ∧
      (∀ i, i + 1 < cnt → N'.1 77 i = N.1 77 (if i < r then i else i + 1) ∧ N'.1 78 i = N.1 78 (if i < r then i else i + 1) ∧ N'.1 79 i = N.1 79 (if i < r then i else i + 1) ∧ N'.1 80 i = N.1 80 (if i < r then i else i + 1) ∧ N'.1 82 i = N.1 82 (if i < r then i else i + 1) ∧ N'.1 83 i = N.1 83 (if i < r then i else i + 1) ∧ ∀ j, j < 4 → N'.1 81 (4 * i + j) = N.1 81 (4 * (if i < r then i else i + 1) + j)) ∧
      ∀ K, K (nI (cnt - 1)) N' → (fun K' => bd (wrN N 66 20 (N.1 66 20 - 1)) fun N3 => jn (α := Int32 → Nm → Prop) (fun (x33 : Int32) (N34 : Nm) => bd (wrN N34 66 28 0) fun N35 => K' (N35.1 66 20) N35) fun j32 => fX8_removeStream_L24 (nI r) j32 K' 200 (nI r) N3) K := by
  obtain ⟨N0, hN0⟩ : ∃ Z, Z = wrN N 66 20 (nI (cnt - 1)) := ⟨_, rfl⟩
  have n0 : ∀ a b, a ≠ 66 → N0.1 a b = N.1 a b := fun a b ha => by rw [hN0]; simp only [wrN, ha, false_and, if_false]
  have n06 : ∀ b, b ≠ 20 → N0.1 66 b = N.1 66 b := fun b hb => by rw [hN0]; simp only [wrN, hb, and_false, if_false]
  have n020 : N0.1 66 20 = nI (cnt - 1) := by rw [hN0]; simp [wrN]
  obtain ⟨N1, ⟨h0, h1, h2, h3⟩, h4⟩ := ex_loop (F := fun (t : (Int32 → Nm → Prop) × (Int32 → Nm → Prop)) m i N' => fX8_removeStream_L24 (nI r) t.1 t.2 m (nI i) N') (X := fun t N' => t.1 (nI (cnt - 1)) N')
    (I := fun i N' => r ≤ i ∧ (∀ a b, a < 77 → N'.1 a b = N0.1 a b) ∧ (∀ a b, (a = 77 ∨ a = 78 ∨ a = 79 ∨ a = 80 ∨ a = 82 ∨ a = 83) → N'.1 a b = N0.1 a (if r ≤ b ∧ b < i then b + 1 else b)) ∧ ∀ b, N'.1 81 b = N0.1 81 (if 4 * r ≤ b ∧ b < 4 * i then b + 4 else b)) (cnt - 1)
    (fun t m N' hI h => by rw [fX8_removeStream_L24, hI.2.1 66 20 (by omega), n020, if_pos (Int32.le_refl _)]; exact h)
    (fun i N' hi hI => by
      obtain ⟨g0, g1, g2, g3⟩ := hI
      have hlt : ¬ N'.1 66 20 ≤ nI i := by rw [g1 66 20 (by omega), n020]; exact nI_ge hi (by omega)
      have hb1 := inb_nI (show i < 6 by omega) (show 6 < 2 ^ 31 by omega)
      have hb2 := inb_nI (show i + 1 < 6 by omega) (show 6 < 2 ^ 31 by omega)
      -- the six columns
      have col : ∀ a, (a = 77 ∨ a = 78 ∨ a = 79 ∨ a = 80 ∨ a = 82 ∨ a = 83) → N'.1 a (i + 1) = N0.1 a (i + 1) := fun a ha => by rw [g2 a (i + 1) ha, if_neg (by omega)]
      obtain ⟨N6, hN6⟩ : ∃ Z, Z = wrN (wrN (wrN (wrN (wrN (wrN N' 77 i (N'.1 77 (i + 1))) 78 i (N'.1 78 (i + 1))) 79 i (N'.1 79 (i + 1))) 80 i (N'.1 80 (i + 1))) 82 i (N'.1 82 (i + 1))) 83 i (N'.1 83 (i + 1)) := ⟨_, rfl⟩
      have n6 : ∀ a b, (a < 77 ∨ a = 81) → N6.1 a b = N'.1 a b := fun a b hab => by
        rw [hN6]
        have : ∀ r, (r = 77 ∨ r = 78 ∨ r = 79 ∨ r = 80 ∨ r = 82 ∨ r = 83) → ¬ a = r := fun r hr => by omega
        simp only [wrN, this 77 (by omega), this 78 (by omega), this 79 (by omega), this 80 (by omega), this 82 (by omega), this 83 (by omega), false_and, if_false]
      have n6c : ∀ a b, (a = 77 ∨ a = 78 ∨ a = 79 ∨ a = 80 ∨ a = 82 ∨ a = 83) → N6.1 a b = if b = i then N'.1 a (i + 1) else N'.1 a b := fun a b ha => by
        rw [hN6]
        by_cases e : b = i
        · rw [if_pos e]; subst e
          rcases ha with rfl | rfl | rfl | rfl | rfl | rfl <;> simp [wrN]
        · rw [if_neg e]
          simp only [wrN, e, and_false, if_false]
      -- the four places
      obtain ⟨N7, ⟨k1, k2⟩, k3⟩ := ex_loop (F := fun (t : (Int32 → Nm → Prop) × (Int32 → Nm → Prop)) m j M => fX8_removeStream_L118 (nI r) (nI i) t.1 t.2 m (nI j) M) (X := fun t M => t.1 (nI 4) M)
        (I := fun j M => (∀ a b, a ≠ 81 → M.1 a b = N6.1 a b) ∧ ∀ b, M.1 81 b = N'.1 81 (if 4 * i ≤ b ∧ b < 4 * i + j then b + 4 else b)) 4
        (fun t m M hI h => by rw [fX8_removeStream_L118, if_pos (show (4 : Int32) ≤ nI 4 by decide)]; exact h)
        (fun j M hj hI => by
          obtain ⟨w1, w2⟩ := hI
          have e1 : (4 : Int32) * nI i + 4 + nI j = nI (4 * i + 4 + j) := by
            have a1 : (4 : Int32) * nI i = nI (4 * i) := pk_mul 4 i
            have a2 : nI (4 * i) + 4 = nI (4 * i + 4) := nI_add (4 * i) 4
            rw [a1, a2, nI_add]
          have e2 : (4 : Int32) * nI i + nI j = nI (4 * i + j) := by
            have a1 : (4 : Int32) * nI i = nI (4 * i) := pk_mul 4 i
            rw [a1, nI_add]
          have e3 : M.1 81 (4 * i + 4 + j) = N'.1 81 (4 * i + j + 4) := by rw [w2, if_neg (by omega), show 4 * i + 4 + j = 4 * i + j + 4 by omega]
          refine ⟨wrN M 81 (4 * i + j) (N'.1 81 (4 * i + j + 4)), ⟨fun a b ha => ?_, fun b => ?_⟩, fun t m h => ?_⟩
          · simp only [wrN, ha, false_and, if_false]; exact w1 a b ha
          · by_cases e : b = 4 * i + j
            · simp only [wrN, e, and_self, if_true]; rw [if_pos (by omega)]
            · simp only [wrN, e, and_false, if_false]; rw [w2 b]
              by_cases z : 4 * i ≤ b ∧ b < 4 * i + j
              · rw [if_pos z, if_pos (by omega)]
              · rw [if_neg z, if_neg (by omega)]
          · show fX8_removeStream_L118 (nI r) (nI i) t.1 t.2 (m + 1) (nI j) M
            rw [fX8_removeStream_L118, if_neg (show ¬ (4 : Int32) ≤ nI j from nI_ge (b := 4) hj (by omega)), e1, e2]
            simp only [bd]
            rw [tn_nI (show 4 * i + 4 + j < 2 ^ 31 by omega), tn_nI (show 4 * i + j < 2 ^ 31 by omega), e3, nI_1]
            exact ⟨inb_nI (by omega) (by omega), inb_nI (by omega) (by omega), h⟩)
        0 200 N6 (by omega) (by omega) ⟨fun _ _ _ => rfl, fun b => by rw [if_neg (by omega)]; exact n6 81 b (by omega)⟩
      refine ⟨N7, ⟨by omega, fun a b ha => by rw [k1 a b (by omega), n6 a b (by omega)]; exact g1 a b ha, fun a b ha => ?_, fun b => ?_⟩, fun t m h => ?_⟩
      · rw [k1 a b (by omega), n6c a b ha]
        by_cases e : b = i
        · rw [if_pos e, col a ha, if_pos (by omega), e]
        · rw [if_neg e, g2 a b ha]
          by_cases z : r ≤ b ∧ b < i
          · rw [if_pos z, if_pos (by omega)]
          · rw [if_neg z, if_neg (by omega)]
      · rw [k2 b]
        by_cases z : 4 * i ≤ b ∧ b < 4 * i + 4
        · rw [if_pos z, g3, if_neg (by omega), if_pos (by omega)]
        · rw [if_neg z, g3]
          by_cases z2 : 4 * r ≤ b ∧ b < 4 * i
          · rw [if_pos z2, if_pos (by omega)]
          · rw [if_neg z2, if_neg (by omega)]
      · show fX8_removeStream_L24 (nI r) t.1 t.2 (m + 1) (nI i) N'
        rw [fX8_removeStream_L24, if_neg hlt]
        simp only [jn, bd]
        rw [nI_1, tn_nI (show i < 2 ^ 31 by omega), tn_nI (show i + 1 < 2 ^ 31 by omega)]
        refine ⟨hb2, hb1, hb2, hb1, hb2, hb1, hb2, hb1, hb2, hb1, hb2, hb1, ?_⟩
        rw [hN6] at k3
        exact k3 (fun _ N30 => fX8_removeStream_L24 (nI r) t.1 t.2 m (nI (i + 1)) N30, t.2) h)
    r 200 N0 (by omega) (by omega) ⟨Nat.le_refl r, fun _ _ _ => rfl, fun a b _ => by rw [if_neg (by omega)], fun b => by rw [if_neg (by omega)]⟩
  refine ⟨wrN N1 66 28 0, fun a a1 a2 => ?_, fun b b1 b2 => ?_, ?_, by simp [wrN], fun i hi => ?_, fun K hK => ?_⟩
  · funext b
    have : ¬ (a = 66 ∧ b = 28) := by omega
    simp only [wrN, this, if_false]
    rw [h1 a b a2, n0 a b a1]
  · simp only [wrN, b2, and_false, if_false]
    rw [h1 66 b (by omega), n06 b b1]
  · show N1.1 66 20 = _
    rw [h1 66 20 (by omega), n020]
  · have c : ∀ a, (a = 77 ∨ a = 78 ∨ a = 79 ∨ a = 80 ∨ a = 82 ∨ a = 83) → (wrN N1 66 28 0).1 a i = N.1 a (if i < r then i else i + 1) := fun a ha => by
      have : ¬ (a = 66 ∧ i = 28) := by omega
      simp only [wrN, this, if_false]
      rw [h2 a i ha]
      by_cases z : i < r
      · rw [if_neg (by omega), if_pos z, n0 a i (by omega)]
      · rw [if_pos (by omega), if_neg z, n0 a (i + 1) (by omega)]
    refine ⟨c 77 (by omega), c 78 (by omega), c 79 (by omega), c 80 (by omega), c 82 (by omega), c 83 (by omega), fun j hj => ?_⟩
    show N1.1 81 (4 * i + j) = _
    rw [h3]
    by_cases z : i < r
    · rw [if_neg (by omega), if_pos z, n0 81 _ (by decide)]
    · rw [if_pos (by omega), if_neg z, n0 81 _ (by decide), show 4 * i + j + 4 = 4 * (i + 1) + j by omega]
  · show bd (wrN N 66 20 (N.1 66 20 - 1)) _
    simp only [bd, jn]
    have e1 : N.1 66 20 - 1 = nI (cnt - 1) := by rw [hcN]; exact pk_sub (a := cnt) (b := 1) (by omega)
    rw [e1, ← hN0]
    refine h4 (fun _ N34 => _, K) ?_
    show K ((wrN N1 66 28 0).1 66 20) (wrN N1 66 28 0)
    have e2 : (wrN N1 66 28 0).1 66 20 = nI (cnt - 1) := by show N1.1 66 20 = _; rw [h1 66 20 (by omega), n020]
    rw [e2]; exact hK
theorem op_removeStream {C : Xm} {N : Nm} (h : Rel C N) (a : Int32) : OpI (fX7_removeStream C a) (fX8_removeStream N a) := by
  have h0 := h
  obtain ⟨hb, ht, hm, hs, hk, hrd, n, hn, hC, hM, hO, hN, hF, hL, ⟨π, cnt, hc, hcC, hcN, hπ, hinj, hst⟩, hR⟩ := h
  rcases bnv_cases a (n := cnt) (by omega) with q | ⟨r, hr, rfl, q⟩
  · refine ⟨-1001, C, N, h0, fun K hK => ?_, fun K hK => ?_⟩
    · simp only [fX7_removeStream]; rw [hasS_eq hcC, q, if_pos rfl]; exact hK
    · simp only [fX8_removeStream]; rw [isStream_eq (by omega) hcN, q, if_pos rfl]; exact hK
  obtain ⟨C1, x1, x2, x3, x4⟩ := removeX hc hr hcC hπ
  obtain ⟨N1, m1, m2, m3, m4, m5, m6⟩ := removeM hc hr hcN
  refine ⟨nI (cnt - 1), wr C1 64 1 0, N1, Rel_st h0 (fun a ha => by rw [wr_off (by omega), x1 a (by omega) (by omega)]) m1 m2 (fun n' hn' hC' _ => ?_) ⟨0, by omega, by rw [wr_row]; rfl, m4, fun k hk => absurd hk (Nat.not_lt_zero k)⟩, fun K hK => ?_, fun K hK => ?_⟩
  · have en : n' = n := nI_inj (by omega) (by omega) (hC'.symm.trans hC)
    subst en
    refine ⟨fun i => if i < r then π i else if i + 1 < cnt then π (i + 1) else if i + 1 = cnt then π r else π i, cnt - 1, by omega, by rw [wr_off (by decide)]; exact x2, m3, fun i hi => ⟨?_, by rw [wr_off (by decide)]; exact x3 i hi⟩, fun i j hi hj hij => ?_, fun i hi => ?_⟩
    · show (if i < r then π i else if i + 1 < cnt then π (i + 1) else if i + 1 = cnt then π r else π i) < 6
      split
      · exact (hπ i hi).1
      · split
        · exact (hπ (i + 1) (by omega)).1
        · split
          · exact (hπ r (by omega)).1
          · exact (hπ i hi).1
    · have hij : (if i < r then π i else if i + 1 < cnt then π (i + 1) else if i + 1 = cnt then π r else π i) = (if j < r then π j else if j + 1 < cnt then π (j + 1) else if j + 1 = cnt then π r else π j) := hij
      have key : ∀ i, i < 6 → (if i < r then π i else if i + 1 < cnt then π (i + 1) else if i + 1 = cnt then π r else π i) = π (if i < r then i else if i + 1 < cnt then i + 1 else if i + 1 = cnt then r else i) := fun i _ => by split <;> (try split) <;> (try split) <;> rfl
      rw [key i hi, key j hj] at hij
      have hb : ∀ i, i < 6 → (if i < r then i else if i + 1 < cnt then i + 1 else if i + 1 = cnt then r else i) < 6 := fun i hi => by split <;> (try split) <;> (try split) <;> omega
      have := hinj _ _ (hb i hi) (hb j hj) hij
      revert this
      split <;> (try split) <;> (try split) <;> (try split) <;> (try split) <;> (try split) <;> omega
    · have hii : (if i < r then π i else if i + 1 < cnt then π (i + 1) else if i + 1 = cnt then π r else π i) = π (if i < r then i else i + 1) := by
        by_cases z : i < r
        · rw [if_pos z, if_pos z]
        · rw [if_neg z, if_neg z, if_pos (by omega)]
      have hold := hst (if i < r then i else i + 1) (by split <;> omega)
      have hp := (hπ (if i < r then i else i + 1) (by split <;> omega)).1
      show RS1 n' (wr C1 64 1 0 (52 + 2 * (if i < r then π i else if i + 1 < cnt then π (i + 1) else if i + 1 = cnt then π r else π i))) (wr C1 64 1 0 (53 + 2 * (if i < r then π i else if i + 1 < cnt then π (i + 1) else if i + 1 = cnt then π r else π i))) i _ _ _ _ _ _ _
      rw [hii, wr_off (by omega), wr_off (by omega), x1 _ (by omega) (by omega), x1 _ (by omega) (by omega)]
      obtain ⟨b1, b2, b3, b4, b5, b6, b7⟩ := m5 i (by omega)
      unfold RS1 at hold ⊢
      rw [b1, b2, b3, b4, b5, b6]
      obtain ⟨o1, o2, o3, o4, o5, o6, o7, o8, o9, w, ow1, ow2, ow3⟩ := hold
      exact ⟨o1, o2, o3, o4, o5, o6, o7, o8, o9, w, ow1, ow2, fun j hj => by rw [b7 j (by omega)]; exact ow3 j hj⟩
  · simp only [fX7_removeStream, bd]
    rw [hasS_eq hcC, q, if_neg (show ¬ (1 : Int32) = 0 by decide)]
    refine x4 _ ?_
    have e : wr C1 64 1 0 50 1 = nI (cnt - 1) := by rw [wr_off (by decide)]; exact x2
    rw [e]; exact hK
  · simp only [fX8_removeStream]
    rw [isStream_eq (by omega) hcN, q, if_neg (show ¬ (1 : Int32) = 0 by decide)]
    exact m6 K hK
