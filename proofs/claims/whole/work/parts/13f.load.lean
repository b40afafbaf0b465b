theorem cpy8 (f g : Nat → Int32) {j : Nat} (hj : j < 8) : va_cpy f g (Int32.toNatClampNeg 0) (Int32.toNatClampNeg 0) (Int32.toNatClampNeg 8) j = f j := by
  have e0 : Int32.toNatClampNeg 0 = 0 := by decide
  have e8 : Int32.toNatClampNeg 8 = 8 := by decide
  rw [e0, e8]
  show (if 0 ≤ j ∧ j < 0 + 8 then f (0 + (j - 0)) else g j) = f j
  rw [if_pos (by omega), show 0 + (j - 0) = j by omega]
theorem copyX (C : Xm) : ∃ C', (∀ a, ¬ (25 ≤ a ∧ a < 42) → C' a = C a) ∧ (∀ i j, i < 8 → j < 8 → C' (25 + i) j = C (5 + i) j ∧ C' (34 + i) j = C (14 + i) j) ∧ ∀ K, K C' → fX2_copyFrom C K := by
  obtain ⟨C1, ⟨h1, h2⟩, h3⟩ := ex_loop (F := fun (t : (Int32 → Xm → Prop) × (Xm → Prop)) m i C' => fX2_copyFrom_L2 t.1 t.2 m (nI i) C') (X := fun t C' => t.1 (nI 8) C')
    (I := fun i C' => (∀ a, ¬ (25 ≤ a ∧ a < 42) → C' a = C a) ∧ ∀ k j, k < i → j < 8 → C' (25 + k) j = C (5 + k) j ∧ C' (34 + k) j = C (14 + k) j) 8
    (fun t m C' hI h => by rw [fX2_copyFrom_L2, if_pos (show (8 : Int32) ≤ nI 8 from Int32.le_refl _)]; exact h)
    (fun i C' hi hI => by
      obtain ⟨g1, g2⟩ := hI
      have hb := inb_nI (show i < 8 by omega) (show 8 < 2 ^ 31 by omega)
      refine ⟨wrR (wrR C' (25 + i) (va_cpy (C' (5 + i)) (C' (25 + i)) (Int32.toNatClampNeg 0) (Int32.toNatClampNeg 0) (Int32.toNatClampNeg 8))) (34 + i) (va_cpy (wrR C' (25 + i) (va_cpy (C' (5 + i)) (C' (25 + i)) (Int32.toNatClampNeg 0) (Int32.toNatClampNeg 0) (Int32.toNatClampNeg 8)) (14 + i)) (wrR C' (25 + i) (va_cpy (C' (5 + i)) (C' (25 + i)) (Int32.toNatClampNeg 0) (Int32.toNatClampNeg 0) (Int32.toNatClampNeg 8)) (34 + i)) (Int32.toNatClampNeg 0) (Int32.toNatClampNeg 0) (Int32.toNatClampNeg 8)), ⟨fun a ha => ?_, fun k j hk hj => ?_⟩, fun t m h => ?_⟩
      · show (if a = 34 + i then _ else if a = 25 + i then _ else C' a) = C a
        rw [if_neg (by omega), if_neg (by omega)]; exact g1 a ha
      · show (if 25 + k = 34 + i then _ else if 25 + k = 25 + i then _ else C' (25 + k)) j = _ ∧ (if 34 + k = 34 + i then _ else if 34 + k = 25 + i then _ else C' (34 + k)) j = _
        by_cases e : k = i
        · subst e
          rw [if_neg (by omega), if_pos rfl, if_pos rfl, cpy8 _ _ hj, cpy8 _ _ hj, g1 (5 + k) (by omega)]
          refine ⟨rfl, ?_⟩
          show (if 14 + k = 25 + k then _ else C' (14 + k)) j = _
          rw [if_neg (by omega), g1 (14 + k) (by omega)]
        · rw [if_neg (by omega), if_neg (by omega), if_neg (by omega), if_neg (by omega)]; exact g2 k j (by omega) hj
      · show fX2_copyFrom_L2 t.1 t.2 (m + 1) (nI i) C'
        rw [fX2_copyFrom_L2, if_neg (show ¬ (8 : Int32) ≤ nI i from nI_ge (b := 8) hi (by omega))]
        simp only [bd]
        rw [tn_nI (show i < 2 ^ 31 by omega), nI_1]
        exact ⟨hb, hb, hb, hb, h⟩)
    0 200 C (by omega) (by omega) ⟨fun _ _ => rfl, fun k _ hk => absurd hk (Nat.not_lt_zero k)⟩
  refine ⟨C1, h1, fun i j hi hj => h2 i j hi hj, fun K hK => ?_⟩
  simp only [fX2_copyFrom, jn]; exact h3 (fun _ C' => K C', K) hK
theorem anewX (C : Xm) (p1 : Int32) : ∃ C', (∀ a, a ≠ 42 → a ≠ 43 → a ≠ 44 → C' a = C a) ∧ (∀ v, v < 8 → C' 42 v = 1 ∧ C' 43 v = 0 ∧ C' 44 v = 0) ∧ ∀ (E : Int32 → Xm → Prop) (K : Xm → Prop), E 8 C' → fX3_startAnew_L15 p1 E K 200 0 C := by
  obtain ⟨C1, ⟨h1, h2⟩, h3⟩ := ex_loop (F := fun (t : (Int32 → Xm → Prop) × (Xm → Prop)) m i C' => fX3_startAnew_L15 p1 t.1 t.2 m (nI i) C') (X := fun t C' => t.1 (nI 8) C')
    (I := fun i C' => (∀ a, a ≠ 42 → a ≠ 43 → a ≠ 44 → C' a = C a) ∧ ∀ v, v < i → C' 42 v = 1 ∧ C' 43 v = 0 ∧ C' 44 v = 0) 8
    (fun t m C' hI h => by rw [fX3_startAnew_L15, if_pos (show (8 : Int32) ≤ nI 8 from Int32.le_refl _)]; exact h)
    (fun i C' hi hI => by
      obtain ⟨g1, g2⟩ := hI
      have hb := inb_nI (show i < 8 by omega) (show 8 < 2 ^ 31 by omega)
      refine ⟨wr (wr (wr C' 42 i 1) 43 i 0) 44 i 0, ⟨fun a a1 a2 a3 => by rw [wr_off a3, wr_off a2, wr_off a1]; exact g1 a a1 a2 a3, fun v hv => ?_⟩, fun t m h => ?_⟩
      · by_cases e : v = i
        · subst e; simp [wr]
        · simp [wr, e]; exact g2 v (by omega)
      · show fX3_startAnew_L15 p1 t.1 t.2 (m + 1) (nI i) C'
        rw [fX3_startAnew_L15, if_neg (show ¬ (8 : Int32) ≤ nI i from nI_ge (b := 8) hi (by omega))]
        simp only [bd]
        rw [tn_nI (show i < 2 ^ 31 by omega), nI_1]
        exact ⟨hb, hb, hb, h⟩)
    0 200 C (by omega) (by omega) ⟨fun _ _ _ _ => rfl, fun v hv => absurd hv (Nat.not_lt_zero v)⟩
  exact ⟨C1, h1, h2, fun E K hE => h3 (E, K) hE⟩
theorem anewM (N : Nm) : ∃ N', (∀ a, a ≠ 72 → a ≠ 75 → a ≠ 76 → N'.1 a = N.1 a) ∧ (∀ v, v < 8 → N'.1 72 v = 1 ∧ N'.1 75 v = 0 ∧ N'.1 76 v = 0) ∧ ∀ (E : Int32 → Nm → Prop) (K : Int32 → Nm → Prop), E 8 N' → fX8_loadNetwork_L97 E K 200 0 N := by
  obtain ⟨N1, ⟨h1, h2⟩, h3⟩ := ex_loop (F := fun (t : (Int32 → Nm → Prop) × (Int32 → Nm → Prop)) m i N' => fX8_loadNetwork_L97 t.1 t.2 m (nI i) N') (X := fun t N' => t.1 (nI 8) N')
    (I := fun i N' => (∀ a, a ≠ 72 → a ≠ 75 → a ≠ 76 → N'.1 a = N.1 a) ∧ ∀ v, v < i → N'.1 72 v = 1 ∧ N'.1 75 v = 0 ∧ N'.1 76 v = 0) 8
    (fun t m N' hI h => by rw [fX8_loadNetwork_L97, if_pos (show (8 : Int32) ≤ nI 8 from Int32.le_refl _)]; exact h)
    (fun i N' hi hI => by
      obtain ⟨g1, g2⟩ := hI
      have hb := inb_nI (show i < 8 by omega) (show 8 < 2 ^ 31 by omega)
      refine ⟨wrN (wrN (wrN N' 72 i 1) 75 i 0) 76 i 0, ⟨fun a a1 a2 a3 => ?_, fun v hv => ?_⟩, fun t m h => ?_⟩
      · rw [← g1 a a1 a2 a3]; funext b; simp only [wrN, a1, a2, a3, false_and, if_false]
      · by_cases e : v = i
        · subst e; simp [wrN]
        · simp [wrN, e]; exact g2 v (by omega)
      · show fX8_loadNetwork_L97 t.1 t.2 (m + 1) (nI i) N'
        rw [fX8_loadNetwork_L97, if_neg (show ¬ (8 : Int32) ≤ nI i from nI_ge (b := 8) hi (by omega))]
        simp only [bd]
        rw [tn_nI (show i < 2 ^ 31 by omega), nI_1]
        exact ⟨hb, hb, hb, h⟩)
    0 200 N (by omega) (by omega) ⟨fun _ _ _ _ => rfl, fun v hv => absurd hv (Nat.not_lt_zero v)⟩
  exact ⟨N1, h1, h2, fun E K hE => h3 (E, K) hE⟩
theorem copyM {N : Nm} {L : Nat} (hL : L ≤ 12) (h3 : N.1 66 3 = nI L) : ∃ N', (∀ a, a ≠ 68 → a ≠ 69 → a ≠ 70 → a ≠ 71 → N'.1 a = N.1 a) ∧ (∀ k, k < L → N'.1 68 k = N.1 85 k ∧ N'.1 69 k = N.1 86 k ∧ N'.1 70 k = N.1 87 k ∧ N'.1 71 k = N.1 88 k) ∧ ∀ (E : Int32 → Nm → Prop) (K : Int32 → Nm → Prop), E (nI L) N' → fX8_loadNetwork_L33 E K 200 0 N := by
  obtain ⟨N1, ⟨h1, h2⟩, h4⟩ := ex_loop (F := fun (t : (Int32 → Nm → Prop) × (Int32 → Nm → Prop)) m i N' => fX8_loadNetwork_L33 t.1 t.2 m (nI i) N') (X := fun t N' => t.1 (nI L) N')
    (I := fun i N' => (∀ a, a ≠ 68 → a ≠ 69 → a ≠ 70 → a ≠ 71 → N'.1 a = N.1 a) ∧ ∀ k, k < i → N'.1 68 k = N.1 85 k ∧ N'.1 69 k = N.1 86 k ∧ N'.1 70 k = N.1 87 k ∧ N'.1 71 k = N.1 88 k) L
    (fun t m N' hI h => by rw [fX8_loadNetwork_L33, hI.1 66 (by decide) (by decide) (by decide) (by decide), h3, if_pos (Int32.le_refl _)]; exact h)
    (fun i N' hi hI => by
      obtain ⟨g1, g2⟩ := hI
      have hb := inb_nI (show i < 12 by omega) (show 12 < 2 ^ 31 by omega)
      have r85 := congrFun (g1 85 (by decide) (by decide) (by decide) (by decide)) i
      have r86 := congrFun (g1 86 (by decide) (by decide) (by decide) (by decide)) i
      have r87 := congrFun (g1 87 (by decide) (by decide) (by decide) (by decide)) i
      have r88 := congrFun (g1 88 (by decide) (by decide) (by decide) (by decide)) i
      refine ⟨wrN (wrN (wrN (wrN N' 68 i (N'.1 85 i)) 69 i (N'.1 86 i)) 70 i (N'.1 87 i)) 71 i (N'.1 88 i), ⟨fun a a1 a2 a3 a4 => ?_, fun v hv => ?_⟩, fun t m h => ?_⟩
      · rw [← g1 a a1 a2 a3 a4]; funext b; simp only [wrN, a1, a2, a3, a4, false_and, if_false]
      · by_cases e : v = i
        · subst e; simp [wrN]; exact ⟨r85, r86, r87, r88⟩
        · simp [wrN, e]; exact g2 v (by omega)
      · show fX8_loadNetwork_L33 t.1 t.2 (m + 1) (nI i) N'
        rw [fX8_loadNetwork_L33, g1 66 (by decide) (by decide) (by decide) (by decide), h3, if_neg (nI_ge hi (by omega))]
        simp only [bd]
        rw [tn_nI (show i < 2 ^ 31 by omega), nI_1]
        exact ⟨hb, hb, hb, hb, hb, hb, hb, hb, h⟩)
    0 200 N (by omega) (by omega) ⟨fun _ _ _ _ _ => rfl, fun v hv => absurd hv (Nat.not_lt_zero v)⟩
  exact ⟨N1, h1, h2, fun E K hE => h4 (E, K) hE⟩
theorem op_loadNetwork {C : Xm} {N : Nm} (h : Rel C N) : OpI (fX7_loadNetwork C) (fX8_loadNetwork N) := by
  obtain ⟨len, ht⟩ := h.txt
  obtain ⟨C1, N1, p, a1, a2, a3, a4, a5, a6, a7⟩ := findB ht
  have hr := h.parse a1 a2
  have hlen : C1 1 1 = nI len := a1.2.trans ht.2.1
  have hl61 := ht.1
  have bad : N1.1 66 37 = 0 → (∀ K : Int32 → Xm → Prop, K 0 C1 → fX0_isComplete C K) → OpI (fX7_loadNetwork C) (fX8_loadNetwork N) := fun z hx => by
    refine ⟨-1003, C1, N1, hr, fun K hK => ?_, fun K hK => ?_⟩
    · unfold fX7_loadNetwork; refine hx _ ?_; rw [if_pos rfl]; exact hK
    · unfold fX8_loadNetwork; refine a6 _ ?_; rw [if_pos z]; exact hK
  rcases a7 with ⟨e, ⟨s15, z, n, L, n2, n8, h3, h30, hL, h31, hLM⟩ | ⟨s1, s5, z⟩⟩ | ⟨e, z⟩
  · have hx : ∀ K : Int32 → Xm → Prop, K 1 C1 → fX0_isComplete C K := fun K hK => by
      simp only [fX0_isComplete, jn]
      refine a5 _ ?_
      rw [hlen, e, if_pos rfl]
      by_cases q : C1 1 5 = 1
      · rw [if_pos q]; exact ⟨bl_1, hK⟩
      · rw [if_neg q, if_pos (s15.resolve_left q)]; exact ⟨bl_1, hK⟩
    obtain ⟨C2, x1, x2, x3⟩ := copyX C1
    obtain ⟨C3, y1, y2, y3⟩ := anewX (wr C2 22 1 (nI n)) (nI n)
    obtain ⟨N3, m1, m2, m3⟩ := copyM (N := wrN (wrN N1 66 2 (nI n)) 66 3 (nI L)) hL rfl
    obtain ⟨N4, k1, k2, k3⟩ := anewM N3
    obtain ⟨N5, f1, f2, f3, f4, f5⟩ := forgetM N4
    obtain ⟨hb, ht', hm, hs, hk, hrd, n', hn', hC', hM', hO', hN', hF', hL', ⟨π, cnt, s1, s2, s3, s4, s5, s6⟩, hR'⟩ := hr
    have cc : ∀ a, ¬ (25 ≤ a ∧ a < 42) → a ≠ 42 → a ≠ 43 → a ≠ 44 → a ≠ 22 → C3 a = C1 a := fun a b1 b2 b3 b4 b5 => by rw [y1 a b2 b3 b4, wr_off b5, x1 a b1]
    have c22 : C3 22 1 = nI n := by rw [y1 22 (by decide) (by decide) (by decide)]; simp [wr]
    have nn : ∀ b, b ≠ 13 → b ≠ 2 → b ≠ 3 → N5.1 66 b = N1.1 66 b := fun b b1 b2 b3 => by
      rw [f1 66 b (by decide) (by decide) (by omega), k1 66 (by decide) (by decide) (by decide), m1 66 (by decide) (by decide) (by decide) (by decide)]
      simp only [wrN, b2, b3, and_false, if_false]
    have n2' : N5.1 66 2 = nI n := by
      rw [f1 66 2 (by decide) (by decide) (by omega), k1 66 (by decide) (by decide) (by decide), m1 66 (by decide) (by decide) (by decide) (by decide)]; rfl
    have n3' : N5.1 66 3 = nI L := by
      rw [f1 66 3 (by decide) (by decide) (by omega), k1 66 (by decide) (by decide) (by decide), m1 66 (by decide) (by decide) (by decide) (by decide)]; rfl
    have nl : ∀ k, k < L → N5.1 68 k = N1.1 85 k ∧ N5.1 69 k = N1.1 86 k ∧ N5.1 70 k = N1.1 87 k ∧ N5.1 71 k = N1.1 88 k := fun k hk => by
      rw [f1 68 k (by decide) (by decide) (by omega), f1 69 k (by decide) (by decide) (by omega), f1 70 k (by decide) (by decide) (by omega), f1 71 k (by decide) (by decide) (by omega), k1 68 (by decide) (by decide) (by decide), k1 69 (by decide) (by decide) (by decide), k1 70 (by decide) (by decide) (by decide), k1 71 (by decide) (by decide) (by decide)]
      exact m2 k hk
    have na : ∀ v, v < 8 → N5.1 72 v = 1 ∧ N5.1 75 v = 0 ∧ N5.1 76 v = 0 := fun v hv => by
      rw [f1 72 v (by decide) (by decide) (by omega), f1 75 v (by decide) (by decide) (by omega), f1 76 v (by decide) (by decide) (by omega)]; exact k2 v hv
    refine ⟨nI n, wr (wr (wr (wr (wr (flR (flR (wr C3 1 1 0) 48 8 (-1)) 49 8 (-1)) 46 3 0) 50 1 0) 64 1 0) 0 7 0) 0 8 0, wrN (wrN (wrN (wrN (wrN N5 66 14 0) 66 15 0) 66 20 0) 66 28 0) 66 0 0, ?_, fun K hK => ?_, fun K hK => ?_⟩
    · refine ⟨⟨0, by omega, rfl, rfl, fun j hj => absurd hj (Nat.not_lt_zero j)⟩, ?_, ?_, ?_, ?_, ⟨rfl, 0, by omega, by omega, rfl⟩, n, n8, c22, n2', ⟨rfl, Or.inr ⟨0, by omega, rfl⟩⟩, ⟨fun v hv => ?_, fun v hv => ?_⟩, ⟨f3.symm, fun _ v hv => ?_⟩, ⟨L, hL, n3', ?_⟩, ⟨π, 0, by omega, rfl, rfl, fun i hi => ?_, s5, fun i hi => absurd hi (Nat.not_lt_zero i)⟩, ⟨0, by omega, rfl, rfl, fun k hk => absurd hk (Nat.not_lt_zero k)⟩⟩
      · show RT 1 4 (C3 46 4) (N5.1 66 16); rw [cc 46 (by omega) (by decide) (by decide) (by decide) (by decide), nn 16 (by decide) (by decide) (by decide)]; exact ht'
      · show RT 1 9 (C3 46 5) (N5.1 66 17); rw [cc 46 (by omega) (by decide) (by decide) (by decide) (by decide), nn 17 (by decide) (by decide) (by decide)]; exact hm
      · show RT 0 6 (C3 0 5) (N5.1 66 18); rw [cc 0 (by omega) (by decide) (by decide) (by decide) (by decide), nn 18 (by decide) (by decide) (by decide)]; exact hs
      · show RT 1 9 (C3 0 6) (N5.1 66 19); rw [cc 0 (by omega) (by decide) (by decide) (by decide) (by decide), nn 19 (by decide) (by decide) (by decide)]; exact hk
      · show C3 42 v = N5.1 72 v ∧ bl (C3 42 v)
        rw [(y2 v hv).1, (na v hv).1]; exact ⟨rfl, bl_1⟩
      · show C3 43 v = N5.1 76 v ∧ C3 44 v = N5.1 75 v ∧ (C3 42 v = 0 → C3 43 v = 0)
        rw [(y2 v (by omega)).2.1, (y2 v (by omega)).2.2, (na v (by omega)).2.1, (na v (by omega)).2.2]; exact ⟨rfl, rfl, fun _ => rfl⟩
      · show RH (if v < 8 then -1 else _) (if v < 8 then -1 else _) (N5.1 73 v) (N5.1 74 v)
        rw [if_pos hv, if_pos hv, (f4 v hv).1, (f4 v hv).2]; exact ⟨rfl, Or.inl ⟨rfl, rfl, rfl⟩⟩
      · obtain ⟨g1, g2, g3⟩ := hLM
        have r25 : ∀ i j, i < 8 → j < 8 → (wr (wr (wr (wr (wr (flR (flR (wr C3 1 1 0) 48 8 (-1)) 49 8 (-1)) 46 3 0) 50 1 0) 64 1 0) 0 7 0) 0 8 0) (25 + i) j = C1 (5 + i) j := fun i j hi hj => by
          rw [wr_off (by omega), wr_off (by omega), wr_off (by omega), wr_off (by omega), wr_off (by omega)]
          unfold flR wrR
          rw [if_neg (by omega), if_neg (by omega), wr_off (by omega), y1 _ (by omega) (by omega) (by omega), wr_off (by omega)]
          exact (x2 i j hi hj).1
        have r34 : ∀ i j, i < 8 → j < 8 → (wr (wr (wr (wr (wr (flR (flR (wr C3 1 1 0) 48 8 (-1)) 49 8 (-1)) 46 3 0) 50 1 0) 64 1 0) 0 7 0) 0 8 0) (34 + i) j = C1 (14 + i) j := fun i j hi hj => by
          rw [wr_off (by omega), wr_off (by omega), wr_off (by omega), wr_off (by omega), wr_off (by omega)]
          unfold flR wrR
          rw [if_neg (by omega), if_neg (by omega), wr_off (by omega), y1 _ (by omega) (by omega) (by omega), wr_off (by omega)]
          exact (x2 i j hi hj).2
        refine LM.congr (st := fun i j => C1 (5 + i) j) (ls := fun i j => C1 (14 + i) j) n8 ?_ r25 r34
        show LM n _ _ (N5.1 68) (N5.1 69) (N5.1 70) (N5.1 71) L
        refine ⟨fun k hk => ?_, fun k k' hk hk' => ?_, fun i j hi hj hh => g3 i j hi hj (fun k hk => ?_)⟩
        · rw [(nl k hk).1, (nl k hk).2.1, (nl k hk).2.2.1, (nl k hk).2.2.2]; exact g1 k hk
        · rw [(nl k hk).1, (nl k hk).2.1, (nl k' hk').1, (nl k' hk').2.1]; exact g2 k k' hk hk'
        · have := hh k hk; rw [(nl k hk).1, (nl k hk).2.1] at this; exact this
      · show π i < 6 ∧ C3 51 i = nI (π i)
        rw [cc 51 (by omega) (by decide) (by decide) (by decide) (by decide)]; exact s4 i hi
    · unfold fX7_loadNetwork
      refine hx _ ?_
      rw [if_neg (by decide)]
      simp only [fX3_startAnew, fX1_forget, jn, bd]
      refine x3 _ ?_
      rw [h3]
      refine y3 _ _ ?_
      have e22 : (wr (wr (wr (wr (wr (flR (flR (wr C3 1 1 0) 48 8 (-1)) 49 8 (-1)) 46 3 0) 50 1 0) 64 1 0) 0 7 0) 0 8 0) 22 1 = nI n := c22
      rw [e22]; exact hK
    · unfold fX8_loadNetwork
      refine a6 _ ?_
      rw [z, if_neg (by decide)]
      simp only [jn, bd]
      rw [h30, show (wrN N1 66 2 (nI n)).1 66 31 = nI L from h31]
      refine m3 _ _ (k3 _ _ (f5 _ ?_))
      have e2 : (wrN (wrN (wrN (wrN (wrN N5 66 14 0) 66 15 0) 66 20 0) 66 28 0) 66 0 0).1 66 2 = nI n := n2'
      rw [e2]; exact hK
  · refine bad z (fun K hK => ?_)
    simp only [fX0_isComplete, jn]
    refine a5 _ ?_
    rw [hlen, e, if_pos rfl, if_neg s1, if_neg s5]; exact ⟨bl_0, hK⟩
  · refine bad z (fun K hK => ?_)
    simp only [fX0_isComplete, jn]
    refine a5 _ ?_
    rw [hlen, if_neg (fun q => by have := nI_inj (by omega) (by omega) q; omega)]; exact ⟨bl_0, hK⟩
