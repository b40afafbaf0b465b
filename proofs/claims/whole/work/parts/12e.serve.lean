/-! serving the entries of a schedule -/
theorem nI_p1 (i : Nat) : nI (i + 1) - 1 = nI i := by rw [← nI_1]; grind
theorem ib_one : ∀ h, h < 8 → ∀ v, v < 8 → (ib ((1 : Int32) <<< (nI h &&& 31)) v ↔ v = h) := by unfold ib; decide +kernel
theorem RelP.flood {n : Nat} {π : Nat → Nat} {cnt : Nat} {C : Xm} {N : Nm} (h : RelP n π cnt C N) (hn0 : 0 < n) (mask : Int32) (hia : ∀ v, v < n → ib mask v → C 42 v ≠ 0) :
    ∃ (C' : Xm) (N' : Nm), RelP n π cnt C' N' ∧ FrX C C' ∧ FrN N N' ∧ (∀ v, v < 8 → C' 48 v ≠ -1 → v < n ∧ C 42 v ≠ 0) ∧ (∀ v, v < 8 → C' 48 v = N'.1 73 v) ∧ (∀ K, K C' → fX1_run C mask K) ∧ ∃ r, ∀ K, K r N' → fX8_floodNow N mask K := by
  have h0 := h
  obtain ⟨hb, ht, hm, hs, hk, hrd, hn, hC, hM, hO, hN, hF0, hL, ⟨s1, s2, s3, s4, s5, s6⟩, hR⟩ := h
  obtain ⟨C1, N1, r, x, m, g3, g4, g5, g6⟩ := Rel_flood h0.close hn hC hn0 mask hia
  obtain ⟨hb', ht', hm', hs', hk', hrd', n', hn', hC', hM', hO', hN', hF', hL', hS', hR'⟩ := r
  have x22 : C1 22 1 = C 22 1 := congrFun (x.1 22 (by decide) (by decide) (by decide) (by decide) (by decide)) 1
  have e : n' = n := nI_inj (by omega) (by omega) (hC'.symm.trans (x22.trans hC))
  subst e
  refine ⟨C1, N1, ⟨hb', ht', hm', hs', hk', hrd', hn, hC', hM', hO', hN', hF', hL', ⟨s1, ?_, ?_, fun i hi => ?_, s5, fun i hi => ?_⟩, hR'⟩, x, m, g3, g4, g5, _, g6⟩
  · rw [x.1 50 (by decide) (by decide) (by decide) (by decide) (by decide)]; exact s2
  · rw [m.1 66 20 (by decide) (by decide) (by decide) (by decide) (by decide) (by decide)]; exact s3
  · rw [x.1 51 (by decide) (by decide) (by decide) (by decide) (by decide)]; exact s4 i hi
  · have mr : ∀ a, a ≠ 66 → a ≠ 73 → a ≠ 74 → a ≠ 75 → a ≠ 89 → a ≠ 90 → N1.1 a = N.1 a := fun a a1 a2 a3 a4 a5 a6 => funext fun b => m.1 a b a2 a3 a4 a5 a6 (by omega)
    rw [x.1 (52 + 2 * π i) (by omega) (by omega) (by omega) (by omega) (by omega), x.1 (53 + 2 * π i) (by omega) (by omega) (by omega) (by omega) (by omega)]
    rw [mr 77 (by decide) (by decide) (by decide) (by decide) (by decide) (by decide), mr 78 (by decide) (by decide) (by decide) (by decide) (by decide) (by decide), mr 79 (by decide) (by decide) (by decide) (by decide) (by decide) (by decide), mr 80 (by decide) (by decide) (by decide) (by decide) (by decide) (by decide), mr 81 (by decide) (by decide) (by decide) (by decide) (by decide) (by decide), mr 82 (by decide) (by decide) (by decide) (by decide) (by decide) (by decide), mr 83 (by decide) (by decide) (by decide) (by decide) (by decide) (by decide)]
    exact s6 i hi
theorem takeX {C : Xm} {p w : Nat} (hp : p < 6) (hw1 : 1 ≤ w) (hw4 : w ≤ 4) (hC : C (52 + 2 * p) 4 = nI w) :
    ∃ C', (∀ a, a ≠ 52 + 2 * p → a ≠ 53 + 2 * p → C' a = C a) ∧ (∀ k, k ≠ 4 → C' (52 + 2 * p) k = C (52 + 2 * p) k) ∧ C' (52 + 2 * p) 4 = nI (w - 1) ∧ (∀ j, j < w - 1 → C' (53 + 2 * p) j = C (53 + 2 * p) (j + 1)) ∧ ∀ K, K C' → fX5_removeOldest C (nI p) K := by
  obtain ⟨C1, ⟨h1, h2, h3⟩, h4⟩ := ex_loop (F := fun (t : (Int32 → Xm → Prop) × (Xm → Prop)) m i C' => fX5_removeOldest_L2 (nI p) t.1 t.2 m (nI (i + 1)) C') (X := fun t C' => t.1 (nI w) C')
    (I := fun i C' => (∀ a, a ≠ 53 + 2 * p → C' a = C a) ∧ (∀ j, j < i → C' (53 + 2 * p) j = C (53 + 2 * p) (j + 1)) ∧ ∀ j, i ≤ j → C' (53 + 2 * p) j = C (53 + 2 * p) j) (w - 1)
    (fun t m C' hI h => by
      rw [fX5_removeOldest_L2, tn_nI (show p < 2 ^ 31 by omega), hI.1 (52 + 2 * p) (by omega), hC, show w - 1 + 1 = w by omega, if_pos (Int32.le_refl _)]; exact h)
    (fun i C' hi hI => by
      obtain ⟨g1, g2, g3⟩ := hI
      refine ⟨wr C' (53 + 2 * p) i (C' (53 + 2 * p) (i + 1)), ⟨fun a ha => (wr_off ha).trans (g1 a ha), fun j hj => ?_, fun j hj => ?_⟩, fun t m h => ?_⟩
      · rw [wr_row]; unfold upd
        by_cases e : j = i
        · rw [if_pos e, e]; exact g3 (i + 1) (by omega)
        · rw [if_neg e]; exact g2 j (by omega)
      · rw [wr_row]; unfold upd; rw [if_neg (by omega)]; exact g3 j (by omega)
      · show fX5_removeOldest_L2 (nI p) t.1 t.2 (m + 1) (nI (i + 1)) C'
        rw [fX5_removeOldest_L2, tn_nI (show p < 2 ^ 31 by omega), g1 (52 + 2 * p) (by omega), hC, if_neg (nI_ge (show i + 1 < w by omega) (by omega))]
        simp only [bd]
        rw [nI_p1, nI_1, tn_nI (show i < 2 ^ 31 by omega), tn_nI (show i + 1 < 2 ^ 31 by omega)]
        exact ⟨inb_nI (by omega) (by omega), inb_nI (by omega) (by omega), h⟩)
    0 200 C (by omega) (by omega) ⟨fun _ _ => rfl, fun j hj => absurd hj (Nat.not_lt_zero j), fun _ _ => rfl⟩
  refine ⟨wr C1 (52 + 2 * p) 4 (nI (w - 1)), fun a a1 a2 => (wr_off a1).trans (h1 a a2), fun k hk => ?_, ?_, fun j hj => ?_, fun K hK => ?_⟩
  · rw [wr_row]; unfold upd; rw [if_neg hk, h1 (52 + 2 * p) (by omega)]
  · rw [wr_row]; unfold upd; rw [if_pos rfl]
  · rw [wr_off (by omega)]; exact h2 j hj
  · simp only [fX5_removeOldest, jn, bd]
    refine h4 (_, K) ?_
    show if C1 (52 + 2 * Int32.toNatClampNeg (nI p)) 4 ≤ 0 then _ else _
    have e : nI w - 1 = nI (w - 1) := by have := nI_p1 (w - 1); rwa [show w - 1 + 1 = w by omega] at this
    rw [tn_nI (show p < 2 ^ 31 by omega), h1 (52 + 2 * p) (by omega), hC, e, if_neg (show ¬ nI w ≤ 0 from nI_ge (a := 0) (b := w) (by omega) (by omega))]
    exact hK
theorem takeM {N : Nm} {s w : Nat} (hs : s < 6) (hw1 : 1 ≤ w) (hw4 : w ≤ 4) (hN : N.1 80 s = nI w) :
    ∃ N', (∀ a, a ≠ 80 → a ≠ 81 → N'.1 a = N.1 a) ∧ (∀ j, j ≠ s → N'.1 80 j = N.1 80 j) ∧ N'.1 80 s = nI (w - 1) ∧ (∀ b, ¬ (4 * s ≤ b ∧ b < 4 * s + 4) → N'.1 81 b = N.1 81 b) ∧ (∀ j, j < w - 1 → N'.1 81 (4 * s + j) = N.1 81 (4 * s + (j + 1))) ∧ ∀ K, K N' → fX8_takePacket N (nI s) K := by
  have hb := inb_nI hs (show 6 < 2 ^ 31 by omega)
  obtain ⟨N1, ⟨h1, h2, h3⟩, h4⟩ := ex_loop (F := fun (t : (Int32 → Nm → Prop) × (Nm → Prop)) m i N' => fX8_takePacket_L2 (nI s) t.1 t.2 m (nI (i + 1)) N') (X := fun t N' => t.1 (nI w) N')
    (I := fun i N' => (∀ a, a ≠ 81 → N'.1 a = N.1 a) ∧ (∀ j, j < i → N'.1 81 (4 * s + j) = N.1 81 (4 * s + (j + 1))) ∧ ∀ b, ¬ (4 * s ≤ b ∧ b < 4 * s + i) → N'.1 81 b = N.1 81 b) (w - 1)
    (fun t m N' hI h => by
      rw [fX8_takePacket_L2, tn_nI (show s < 2 ^ 31 by omega), hI.1 80 (by decide), hN, show w - 1 + 1 = w by omega, if_pos (Int32.le_refl _)]; exact ⟨hb, h⟩)
    (fun i N' hi hI => by
      obtain ⟨g1, g2, g3⟩ := hI
      refine ⟨wrN N' 81 (4 * s + i) (N'.1 81 (4 * s + (i + 1))), ⟨fun a ha => ?_, fun j hj => ?_, fun b hb' => ?_⟩, fun t m h => ?_⟩
      · rw [← g1 a ha]; funext b; simp only [wrN, ha, false_and, if_false]
      · by_cases e : j = i
        · subst e; simp only [wrN, and_self, if_true]; exact g3 _ (by omega)
        · have : ¬ 4 * s + j = 4 * s + i := by omega
          simp only [wrN, this, and_false, if_false]; exact g2 j (by omega)
      · have : ¬ b = 4 * s + i := by omega
        simp only [wrN, this, and_false, if_false]; exact g3 b (by omega)
      · show fX8_takePacket_L2 (nI s) t.1 t.2 (m + 1) (nI (i + 1)) N'
        rw [fX8_takePacket_L2, tn_nI (show s < 2 ^ 31 by omega), g1 80 (by decide), hN, if_neg (nI_ge (show i + 1 < w by omega) (by omega))]
        simp only [bd]
        have a1 : (4 : Int32) * nI s = nI (4 * s) := pk_mul 4 s
        have a2 : nI (4 * s + (i + 1)) - 1 = nI (4 * s + i) := nI_p1 (4 * s + i)
        rw [a1, nI_add, a2, nI_1, tn_nI (show 4 * s + i < 2 ^ 31 by omega), tn_nI (show 4 * s + (i + 1) < 2 ^ 31 by omega)]
        exact ⟨hb, inb_nI (by omega) (by omega), inb_nI (by omega) (by omega), h⟩)
    0 200 N (by omega) (by omega) ⟨fun _ _ => rfl, fun j hj => absurd hj (Nat.not_lt_zero j), fun _ _ => rfl⟩
  refine ⟨wrN N1 80 s (nI (w - 1)), fun a a1 a2 => ?_, fun j hj => ?_, ?_, fun b hb' => ?_, fun j hj => ?_, fun K hK => ?_⟩
  · rw [← h1 a a2]; funext b; simp only [wrN, a1, false_and, if_false]
  · simp only [wrN, hj, and_false, if_false]; rw [h1 80 (by decide)]
  · simp only [wrN, and_self, if_true]
  · exact h3 b (by omega)
  · exact h2 j hj
  · simp only [fX8_takePacket, jn, bd]
    refine h4 (_, K) ?_
    have e : nI w - 1 = nI (w - 1) := by have := nI_p1 (w - 1); rwa [show w - 1 + 1 = w by omega] at this
    show inb (nI s) 6 ∧ inb (nI s) 6 ∧ K (wrN N1 80 (Int32.toNatClampNeg (nI s)) (N1.1 80 (Int32.toNatClampNeg (nI s)) - 1))
    rw [tn_nI (show s < 2 ^ 31 by omega), h1 80 (by decide), hN, e]
    exact ⟨hb, hb, hK⟩
theorem take1 {n : Nat} {π : Nat → Nat} {cnt : Nat} {C : Xm} {N : Nm} (h : RelP n π cnt C N) {s w : Nat} (hs : s < cnt) (hw1 : 1 ≤ w) (hw4 : w ≤ 4) (hw : C (52 + 2 * π s) 4 = nI w) :
    ∃ C' N', RelP n π cnt C' N' ∧ (∀ a, a ≠ 52 + 2 * π s → a ≠ 53 + 2 * π s → C' a = C a) ∧ (∀ a, a ≠ 80 → a ≠ 81 → N'.1 a = N.1 a) ∧ (∀ K, K C' → fX5_removeOldest C (nI (π s)) K) ∧ ∀ K, K N' → fX8_takePacket N (nI s) K := by
  have hS := h.2.2.2.2.2.2.2.2.2.2.2.2.2.1
  have hp := (hS.2.2.2.1 s (by have := hS.1; omega)).1
  have h6 : cnt ≤ 6 := hS.1
  obtain ⟨o1, o2, o3, o4, o5, o6, o7, o8, o9, w', ow1, ow2, ow3⟩ := hS.2.2.2.2.2 s hs
  have ew : w' = w := nI_inj (by omega) (by omega) (ow2.symm.trans hw)
  subst ew
  obtain ⟨C1, x1, x2, x3, x4, x5⟩ := takeX hp hw1 hw4 hw
  obtain ⟨N1, m1, m2, m3, m4, m5, m6⟩ := takeM (N := N) (show s < 6 by omega) hw1 hw4 (by rw [← o4]; exact hw)
  refine ⟨C1, N1, h.st1 hs x1 (fun a ha => m1 a (by omega) (by omega)) (fun a j ha hj => ?_) m4 ?_, x1, m1, x5, m6⟩
  · by_cases e : a = 80
    · rw [e]; exact m2 j hj
    · rw [m1 a e (by omega)]
  · unfold RS1
    rw [x2 1 (by decide), x2 2 (by decide), x2 3 (by decide), x2 5 (by decide), x2 6 (by decide), x3, m3, m1 77 (by decide) (by decide), m1 78 (by decide) (by decide), m1 79 (by decide) (by decide), m1 82 (by decide) (by decide), m1 83 (by decide) (by decide)]
    exact ⟨o1, o2, o3, rfl, o5, o6, o7, o8, o9, w' - 1, by omega, rfl, fun j hj => by rw [x4 j hj, m5 j hj]; exact ow3 (j + 1) (by omega)⟩
theorem RelP.cnt2 {n : Nat} {π : Nat → Nat} {cnt : Nat} {C C' : Xm} {N : Nm} (h : RelP n π cnt C N) {s : Nat} (hs : s < cnt) (a b : Int32) (x : ∀ r, r ≠ 52 + 2 * π s → C' r = C r) (xo : ∀ k, k ≠ 5 → k ≠ 6 → C' (52 + 2 * π s) k = C (52 + 2 * π s) k)
    (x5 : C' (52 + 2 * π s) 5 = C (52 + 2 * π s) 5 + a) (x6 : C' (52 + 2 * π s) 6 = C (52 + 2 * π s) 6 + b) : RelP n π cnt C' (wrN (wrN N 82 s (N.1 82 s + a)) 83 s (N.1 83 s + b)) := by
  have hS := h.2.2.2.2.2.2.2.2.2.2.2.2.2.1
  obtain ⟨o1, o2, o3, o4, o5, o6, o7, o8, o9, w, ow1, ow2, ow3⟩ := hS.2.2.2.2.2 s hs
  refine h.st1 hs (fun r r1 _ => x r r1) (fun r hr => ?_) (fun r j hr hj => ?_) (fun b _ => rfl) ?_
  · funext q; have h1 : ¬ r = 83 := by omega
    have h2 : ¬ r = 82 := by omega
    simp only [wrN, h1, h2, false_and, if_false]
  · simp only [wrN, hj, and_false, if_false]
  · unfold RS1
    rw [xo 1 (by decide) (by decide), xo 2 (by decide) (by decide), xo 3 (by decide) (by decide), xo 4 (by decide) (by decide), x5, x6, x (53 + 2 * π s) (by omega)]
    refine ⟨o1, o2, o3, o4, ?_, ?_, o7, o8, o9, w, ow1, ow2, ow3⟩
    · simp [wrN, o5]
    · simp [wrN, o6]
