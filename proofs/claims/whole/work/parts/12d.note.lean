/-- the entries of a schedule just built: streams that wait, each once -/
def Ent (π : Nat → Nat) (cnt : Nat) (C : Xm) (N : Nm) (en : Nat → Nat) (z i : Nat) : Prop :=
  z ≤ 6 ∧ C 64 1 = nI z ∧ N.1 66 28 = nI z ∧ (∀ k, k < z → C 65 k = nI (en k) ∧ N.1 84 k = nI (en k) ∧ en k < cnt) ∧ (∀ k, i ≤ k → k < z → ∃ w, 1 ≤ w ∧ w ≤ 4 ∧ C (52 + 2 * π (en k)) 4 = nI w) ∧ ∀ a b, a < z → b < z → en a = en b → a = b
theorem buildB {n : Nat} {π : Nat → Nat} {cnt : Nat} {C : Xm} {N : Nm} (h : RelP n π cnt C N) :
    ∃ C' N' en z, RelP n π cnt C' N' ∧ Ent π cnt C' N' en z 0 ∧ (∀ a, a ≠ 64 → a ≠ 65 → C' a = C a) ∧ (∀ a, a ≠ 66 → a ≠ 84 → N'.1 a = N.1 a) ∧ (∀ b, b ≠ 28 → N'.1 66 b = N.1 66 b) ∧ (∀ K, K C' → fX4_build C (C 0 5) K) ∧ ∀ K, K N' → fX8_buildSchedule (wrN N 66 28 0) K := by
  have h0 := h
  obtain ⟨hb, ht, hm, ⟨hs, lim, lim0, lim1, lim2⟩, hk, hrd, hn, hC, hM, hO, hN, hF0, hL, ⟨s1, s2, s3, s4, s5, s6⟩, hR⟩ := h
  have hwx : ∀ s, s < cnt → ∃ w, w ≤ 4 ∧ C (52 + 2 * π s) 4 = nI w ∧ N.1 80 s = nI w ∧ (0 < w → C (53 + 2 * π s) 0 = N.1 81 (4 * s)) := fun s hs' => by
    obtain ⟨o1, o2, o3, o4, o5, o6, o7, o8, o9, w, ow1, ow2, ow3⟩ := s6 s hs'
    exact ⟨w, ow1, ow2, by rw [← o4]; exact ow2, fun hw => ow3 0 hw⟩
  have hcl : ∀ s, s < cnt → C (52 + 2 * π s) 4 = nI (Int32.toNatClampNeg (C (52 + 2 * π s) 4)) ∧ Int32.toNatClampNeg (C (52 + 2 * π s) 4) ≤ 4 ∧ N.1 80 s = nI (Int32.toNatClampNeg (C (52 + 2 * π s) 4)) ∧ (0 < Int32.toNatClampNeg (C (52 + 2 * π s) 4) → C (53 + 2 * π s) 0 = N.1 81 (4 * s)) := fun s hs' => by
    obtain ⟨w, w1, w2, w3, w4⟩ := hwx s hs'
    rw [w2, tn_nI (by omega)]
    exact ⟨rfl, w1, w3, w4⟩
  obtain ⟨C1, en, z, x1, x2, x3, x4, x5, x6⟩ := buildX (C := C) (π := π) (R := fun s => N.1 81 (4 * s)) (w := fun s => Int32.toNatClampNeg (C (52 + 2 * π s) 4)) (lim := lim) s1 lim1 s2 s4 (fun s hs' => ⟨(hcl s hs').2.1, (hcl s hs').1⟩) (fun s hs' hw => (hcl s hs').2.2.2 hw)
  have r3 : ∀ a, a ≠ 66 → (wrN N 66 28 0).1 a = N.1 a := fun a ha => by funext b; simp only [wrN, ha, false_and, if_false]
  have r6 : ∀ b, b ≠ 28 → (wrN N 66 28 0).1 66 b = N.1 66 b := fun b hb => by simp only [wrN, hb, and_false, if_false]
  obtain ⟨N1, m1, m2, m3, m4, m5⟩ := buildM (N := wrN N 66 28 0) (R := fun s => N.1 81 (4 * s)) (w := fun s => Int32.toNatClampNeg (C (52 + 2 * π s) 4)) (en := en) (lim := lim) (z := z) s1 lim1 (by rw [r6 20 (by decide)]; exact s3) (by rw [r6 18 (by decide), ← hs]; exact lim2) (fun s hs' => by rw [r3 80 (by decide)]; exact ⟨(hcl s hs').2.1, (hcl s hs').2.2.1⟩) (fun s hs' hw => by rw [r3 81 (by decide)]) x3 x5
  have m1' : ∀ a, a ≠ 66 → a ≠ 84 → N1.1 a = N.1 a := fun a a1 a2 => (m1 a a1 a2).trans (r3 a a1)
  have m2' : ∀ b, b ≠ 28 → N1.1 66 b = N.1 66 b := fun b hb => (m2 b hb).trans (r6 b hb)
  have hz6 : (if lim < z then lim else z) ≤ 6 := by split <;> omega
  have hzz : (if lim < z then lim else z) ≤ z := by split <;> omega
  have hdist : ∀ a b, a < z → b < z → en a = en b → a = b := fun a b ha hb e => by
    rcases Nat.lt_trichotomy a b with q | q | q
    · have := x5.2.1 a b q hb; rw [e] at this; exact (slt_asym this this).elim
    · exact q
    · have := x5.2.1 b a q ha; rw [e] at this; exact (slt_asym this this).elim
  refine ⟨C1, N1, en, (if lim < z then lim else z), ?_, ⟨hz6, x2, m3, fun k hk' => ⟨x4 k (by omega), m4 k hk', (x5.1 k (by omega)).1⟩, fun k _ hk' => ?_, fun a b ha hb' => hdist a b (by omega) (by omega)⟩, x1, m1', m2', fun K hK => by rw [lim2]; exact x6 K hK, m5⟩
  · unfold RelP
    rw [x1 0 (by decide) (by decide), x1 1 (by decide) (by decide), x1 2 (by decide) (by decide), x1 22 (by decide) (by decide), x1 42 (by decide) (by decide), x1 43 (by decide) (by decide), x1 44 (by decide) (by decide), x1 46 (by decide) (by decide), x1 48 (by decide) (by decide), x1 49 (by decide) (by decide)]
    rw [m1' 67 (by decide) (by decide), m1' 68 (by decide) (by decide), m1' 69 (by decide) (by decide), m1' 70 (by decide) (by decide), m1' 71 (by decide) (by decide), m1' 72 (by decide) (by decide), m1' 73 (by decide) (by decide), m1' 74 (by decide) (by decide), m1' 75 (by decide) (by decide), m1' 76 (by decide) (by decide)]
    rw [m2' 0 (by decide), m2' 2 (by decide), m2' 3 (by decide), m2' 13 (by decide), m2' 14 (by decide), m2' 15 (by decide), m2' 16 (by decide), m2' 17 (by decide), m2' 18 (by decide), m2' 19 (by decide), m2' 20 (by decide)]
    refine ⟨hb, ht, hm, ⟨hs, lim, lim0, lim1, lim2⟩, hk, hrd, hn, hC, hM, hO, hN, hF0, hL.off hn (fun a a1 a2 => x1 a (by omega) (by omega)), ⟨s1, by rw [x1 50 (by decide) (by decide)]; exact s2, by rw [m2' 20 (by decide)]; exact s3, fun i hi => by rw [x1 51 (by decide) (by decide)]; exact s4 i hi, s5, fun i hi => ?_⟩, ⟨_, hz6, x2, m3, fun k hk' => ⟨by rw [x4 k (by omega), m4 k hk'], en k, cnt, s3, (x5.1 k (by omega)).1, s1, x4 k (by omega)⟩⟩⟩
    have hp := (s4 i (by omega)).1
    rw [x1 (52 + 2 * π i) (by omega) (by omega), x1 (53 + 2 * π i) (by omega) (by omega), m1' 77 (by decide) (by decide), m1' 78 (by decide) (by decide), m1' 79 (by decide) (by decide), m1' 80 (by decide) (by decide), m1' 81 (by decide) (by decide), m1' 82 (by decide) (by decide), m1' 83 (by decide) (by decide)]
    exact s6 i hi
  · obtain ⟨e1, e2⟩ := x5.1 k (by omega)
    have e2 : 0 < Int32.toNatClampNeg (C (52 + 2 * π (en k)) 4) := e2
    obtain ⟨g1, g2, g3, g4⟩ := hcl (en k) e1
    have hp := (s4 (en k) (by omega)).1
    refine ⟨_, by omega, g2, ?_⟩
    rw [x1 (52 + 2 * π (en k)) (by omega) (by omega)]; exact g1
/-- who has received the schedule, on both sides -/
def Inf (n : Nat) (C : Xm) (N : Nm) : Prop := ∀ v, v < n → C 45 v = N.1 91 v ∧ bl (C 45 v) ∧ (C 45 v ≠ 0 → C 42 v ≠ 0)
/-- the nodes' counters of missed schedules change, and who is informed -/
theorem RelP.mi {n : Nat} {π : Nat → Nat} {cnt : Nat} {C C' : Xm} {N N' : Nm} (h : RelP n π cnt C N) (x : ∀ a, a ≠ 43 → a ≠ 45 → C' a = C a) (m : ∀ a, a ≠ 76 → a ≠ 91 → N'.1 a = N.1 a) (hmi : ∀ v, v < n → C' 43 v = N'.1 76 v ∧ (C 42 v = 0 → C' 43 v = 0)) : RelP n π cnt C' N' := by
  obtain ⟨hb, ht, hm, hs, hk, hrd, hn, hC, hM, hO, hN, hF0, hL, ⟨s1, s2, s3, s4, s5, s6⟩, hR⟩ := h
  unfold RelP
  rw [x 0 (by decide) (by decide), x 1 (by decide) (by decide), x 2 (by decide) (by decide), x 22 (by decide) (by decide), x 42 (by decide) (by decide), x 44 (by decide) (by decide), x 46 (by decide) (by decide), x 48 (by decide) (by decide), x 49 (by decide) (by decide), x 64 (by decide) (by decide), x 65 (by decide) (by decide)]
  rw [m 66 (by decide) (by decide), m 67 (by decide) (by decide), m 68 (by decide) (by decide), m 69 (by decide) (by decide), m 70 (by decide) (by decide), m 71 (by decide) (by decide), m 72 (by decide) (by decide), m 73 (by decide) (by decide), m 74 (by decide) (by decide), m 75 (by decide) (by decide), m 84 (by decide) (by decide)]
  refine ⟨hb, ht, hm, hs, hk, hrd, hn, hC, hM, hO, ⟨hN.1, fun v hv => ⟨(hmi v hv).1, (hN.2 v hv).2.1, (hmi v hv).2⟩⟩, hF0, hL.off hn (fun a a1 a2 => x a (by omega) (by omega)), ⟨s1, by rw [x 50 (by decide) (by decide)]; exact s2, by rw [m 66 (by decide) (by decide)]; exact s3, fun i hi => by rw [x 51 (by decide) (by decide)]; exact s4 i hi, s5, fun i hi => ?_⟩, hR⟩
  have hp := (s4 i (by omega)).1
  rw [x (52 + 2 * π i) (by omega) (by omega), x (53 + 2 * π i) (by omega) (by omega), m 77 (by decide) (by decide), m 78 (by decide) (by decide), m 79 (by decide) (by decide), m 80 (by decide) (by decide), m 81 (by decide) (by decide), m 82 (by decide) (by decide), m 83 (by decide) (by decide)]
  exact s6 i hi
theorem noteX {C : Xm} {n : Nat} (hn : n ≤ 8) (hC : C 22 1 = nI n) : ∃ C', (∀ a, a ≠ 43 → a ≠ 45 → C' a = C a) ∧ (∀ v, v < n → C' 45 v = (if C 48 v = -1 then 0 else 1) ∧ C' 43 v = if C 48 v = -1 then (if C 42 v = 0 then C 43 v else C 43 v + 1) else 0) ∧ ∀ K, K C' → fX3_noteSchedule C K := by
  obtain ⟨C1, ⟨h1, h2⟩, h3⟩ := ex_loop (F := fun (t : (Int32 → Xm → Prop) × (Xm → Prop)) m i C' => fX3_noteSchedule_L2 t.1 t.2 m (nI i) C') (X := fun t C' => t.1 (nI n) C')
    (I := fun i C' => (∀ a, a ≠ 43 → a ≠ 45 → C' a = C a) ∧ ∀ v, (v < i → C' 45 v = (if C 48 v = -1 then 0 else 1) ∧ C' 43 v = if C 48 v = -1 then (if C 42 v = 0 then C 43 v else C 43 v + 1) else 0) ∧ (i ≤ v → C' 43 v = C 43 v)) n
    (fun t m C' hI h => by rw [fX3_noteSchedule_L2, hI.1 22 (by decide) (by decide), hC, if_pos (Int32.le_refl _)]; exact h)
    (fun i C' hi hI => by
      obtain ⟨g1, g2⟩ := hI
      have hb := inb_nI (show i < 8 by omega) (show 8 < 2 ^ 31 by omega)
      have hlt : ¬ C' 22 1 ≤ nI i := by rw [g1 22 (by decide) (by decide), hC]; exact nI_ge hi (by omega)
      have e48 := congrFun (g1 48 (by decide) (by decide)) i
      have e42 := congrFun (g1 42 (by decide) (by decide)) i
      have e43 := (g2 i).2 (Nat.le_refl i)
      obtain ⟨c, hc⟩ : ∃ c : Int32, c = (if C 48 i = -1 then 0 else 1) := ⟨_, rfl⟩
      obtain ⟨y, hy⟩ : ∃ y : Int32, y = (if C 48 i = -1 then (if C 42 i = 0 then C 43 i else C 43 i + 1) else 0) := ⟨_, rfl⟩
      refine ⟨wr (wr C' 45 i c) 43 i y, ⟨fun a a1 a2 => by rw [wr_off a1, wr_off a2, g1 a a1 a2], fun v => ⟨fun hv => ?_, fun hv => ?_⟩⟩, fun t m h => ?_⟩
      · by_cases e : v = i
        · subst e; rw [← hc, ← hy]; simp [wr]
        · have r1 : wr (wr C' 45 i c) 43 i y 45 v = C' 45 v := by simp [wr, e]
          have r2 : wr (wr C' 45 i c) 43 i y 43 v = C' 43 v := by simp [wr, e]
          rw [r1, r2]; exact (g2 v).1 (by omega)
      · have e : v ≠ i := by omega
        have r2 : wr (wr C' 45 i c) 43 i y 43 v = C' 43 v := by simp [wr, e]
        rw [r2]; exact (g2 v).2 (by omega)
      · show fX3_noteSchedule_L2 t.1 t.2 (m + 1) (nI i) C'
        have h : fX3_noteSchedule_L2 t.1 t.2 m (nI (i + 1)) (wr (wr C' 45 i c) 43 i y) := h
        rw [fX3_noteSchedule_L2, if_neg hlt]
        simp only [jn, bd]
        rw [tn_nI (show i < 2 ^ 31 by omega), nI_1, e48]
        refine ⟨hb, ?_⟩
        have r45 : ∀ c, wr C' 45 i c 45 i = c := fun c => by simp [wr]
        have r42 : ∀ c, wr C' 45 i c 42 i = C 42 i := fun c => by show C' 42 i = _; exact e42
        have r43 : ∀ c, wr C' 45 i c 43 i = C 43 i := fun c => by show C' 43 i = _; exact e43
        by_cases z : C 48 i = -1
        · rw [if_pos z] at hc hy ⊢
          rw [hc] at h
          refine ⟨hb, bl_0, hb, ?_⟩
          rw [r45, if_pos rfl, r42, r43]
          refine ⟨hb, ?_⟩
          by_cases z2 : C 42 i = 0
          · rw [if_pos z2] at hy ⊢
            rw [hy] at h
            have e : wr (wr C' 45 i 0) 43 i (C 43 i) = wr C' 45 i 0 := by
              funext a b
              by_cases q : a = 43 ∧ b = i
              · obtain ⟨rfl, rfl⟩ := q; rw [wr_row]; unfold upd; rw [if_pos rfl]; exact (r43 0).symm
              · show (if a = 43 ∧ b = i then _ else _) = _; rw [if_neg q]
            rw [e] at h; exact h
          · rw [if_neg z2] at hy ⊢
            rw [hy] at h
            exact ⟨hb, hb, h⟩
        · rw [if_neg z] at hc hy ⊢
          rw [hc, hy] at h
          refine ⟨hb, bl_1, hb, ?_⟩
          rw [r45, if_neg (show ¬ (1 : Int32) = 0 by decide)]
          exact ⟨hb, h⟩)
    0 200 C (by omega) (by omega) ⟨fun _ _ _ => rfl, fun v => ⟨fun hv => absurd hv (Nat.not_lt_zero v), fun _ => rfl⟩⟩
  refine ⟨C1, h1, fun v hv => (h2 v).1 hv, fun K hK => ?_⟩
  simp only [fX3_noteSchedule, jn]; exact h3 (fun _ C' => K C', K) hK
theorem noteNoX {C : Xm} {n : Nat} (hn : n ≤ 8) (hC : C 22 1 = nI n) : ∃ C', (∀ a, a ≠ 43 → C' a = C a) ∧ (∀ v, v < n → C' 43 v = if C 42 v = 0 then C 43 v else C 43 v + 1) ∧ ∀ K, K C' → fX3_noteNoSchedule C K := by
  obtain ⟨C1, ⟨h1, h2⟩, h3⟩ := ex_loop (F := fun (t : (Int32 → Xm → Prop) × (Xm → Prop)) m i C' => fX3_noteNoSchedule_L2 t.1 t.2 m (nI i) C') (X := fun t C' => t.1 (nI n) C')
    (I := fun i C' => (∀ a, a ≠ 43 → C' a = C a) ∧ ∀ v, C' 43 v = if v < i ∧ C 42 v ≠ 0 then C 43 v + 1 else C 43 v) n
    (fun t m C' hI h => by rw [fX3_noteNoSchedule_L2, hI.1 22 (by decide), hC, if_pos (Int32.le_refl _)]; exact h)
    (fun i C' hi hI => by
      obtain ⟨g1, g2⟩ := hI
      have hb := inb_nI (show i < 8 by omega) (show 8 < 2 ^ 31 by omega)
      have hlt : ¬ C' 22 1 ≤ nI i := by rw [g1 22 (by decide), hC]; exact nI_ge hi (by omega)
      have e42 := congrFun (g1 42 (by decide)) i
      have e43 : C' 43 i = C 43 i := by rw [g2 i, if_neg (by omega)]
      by_cases z : C 42 i = 0
      · refine ⟨C', ⟨g1, fun v => ?_⟩, fun t m h => ?_⟩
        · rw [g2 v]
          by_cases e : v = i
          · rw [e, if_neg (by omega), if_neg (fun q => q.2 z)]
          · by_cases q : v < i ∧ C 42 v ≠ 0
            · rw [if_pos q, if_pos ⟨by omega, q.2⟩]
            · rw [if_neg q, if_neg (fun q2 => q ⟨by omega, q2.2⟩)]
        · show fX3_noteNoSchedule_L2 t.1 t.2 (m + 1) (nI i) C'
          rw [fX3_noteNoSchedule_L2, if_neg hlt]
          simp only [jn, bd]
          rw [tn_nI (show i < 2 ^ 31 by omega), nI_1, e42, if_pos z]
          exact ⟨hb, h⟩
      · refine ⟨wr C' 43 i (C 43 i + 1), ⟨fun a ha => (wr_off ha).trans (g1 a ha), fun v => ?_⟩, fun t m h => ?_⟩
        · rw [wr_row]; unfold upd
          by_cases e : v = i
          · rw [if_pos e, e, if_pos ⟨by omega, z⟩]
          · rw [if_neg e, g2 v]
            by_cases q : v < i ∧ C 42 v ≠ 0
            · rw [if_pos q, if_pos ⟨by omega, q.2⟩]
            · rw [if_neg q, if_neg (fun q2 => q ⟨by omega, q2.2⟩)]
        · show fX3_noteNoSchedule_L2 t.1 t.2 (m + 1) (nI i) C'
          rw [fX3_noteNoSchedule_L2, if_neg hlt]
          simp only [jn, bd]
          rw [tn_nI (show i < 2 ^ 31 by omega), nI_1, e42, if_neg z, e43]
          exact ⟨hb, hb, hb, h⟩)
    0 200 C (by omega) (by omega) ⟨fun _ _ => rfl, fun v => by rw [if_neg (by omega)]⟩
  refine ⟨C1, h1, fun v hv => ?_, fun K hK => ?_⟩
  · rw [h2 v]
    by_cases z : C 42 v = 0
    · rw [if_neg (fun q => q.2 z), if_pos z]
    · rw [if_pos ⟨hv, z⟩, if_neg z]
  · simp only [fX3_noteNoSchedule, jn]; exact h3 (fun _ C' => K C', K) hK
theorem noteM {N : Nm} {n : Nat} (p1 : Int32) (hn : n ≤ 8) (hM : N.1 66 2 = nI n) : ∃ N', (∀ a, a ≠ 76 → a ≠ 91 → N'.1 a = N.1 a) ∧ (∀ v, v < n → N'.1 91 v = (if p1 ≠ 0 ∧ N.1 72 v ≠ 0 ∧ N.1 73 v ≠ -1 then 1 else 0) ∧ N'.1 76 v = if (p1 ≠ 0 ∧ N.1 72 v ≠ 0 ∧ N.1 73 v ≠ -1) ∨ N.1 72 v = 0 then 0 else N.1 76 v + 1) ∧ ∀ (E : Int32 → Nm → Prop) (K : Nm → Prop), E (nI n) N' → fX8_spreadSchedule_L36 p1 E K 200 0 N := by
  obtain ⟨N1, ⟨h1, h2⟩, h3⟩ := ex_loop (F := fun (t : (Int32 → Nm → Prop) × (Nm → Prop)) m i N' => fX8_spreadSchedule_L36 p1 t.1 t.2 m (nI i) N') (X := fun t N' => t.1 (nI n) N')
    (I := fun i N' => (∀ a b, a ≠ 76 → a ≠ 91 → N'.1 a b = N.1 a b) ∧ ∀ v, (v < i → N'.1 91 v = (if p1 ≠ 0 ∧ N.1 72 v ≠ 0 ∧ N.1 73 v ≠ -1 then 1 else 0) ∧ N'.1 76 v = if (p1 ≠ 0 ∧ N.1 72 v ≠ 0 ∧ N.1 73 v ≠ -1) ∨ N.1 72 v = 0 then 0 else N.1 76 v + 1) ∧ (i ≤ v → N'.1 76 v = N.1 76 v)) n
    (fun t m N' hI h => by rw [fX8_spreadSchedule_L36, hI.1 66 2 (by decide) (by decide), hM, if_pos (Int32.le_refl _)]; exact h)
    (fun i N' hi hI => by
      obtain ⟨g1, g2⟩ := hI
      have hb := inb_nI (show i < 8 by omega) (show 8 < 2 ^ 31 by omega)
      have hlt : ¬ N'.1 66 2 ≤ nI i := by rw [g1 66 2 (by decide) (by decide), hM]; exact nI_ge hi (by omega)
      have e72 := g1 72 i (by decide) (by decide)
      have e73 := g1 73 i (by decide) (by decide)
      have e76 := (g2 i).2 (Nat.le_refl i)
      obtain ⟨c, hc⟩ : ∃ c : Int32, c = (if p1 ≠ 0 ∧ N.1 72 i ≠ 0 ∧ N.1 73 i ≠ -1 then 1 else 0) := ⟨_, rfl⟩
      obtain ⟨y, hy⟩ : ∃ y : Int32, y = (if (p1 ≠ 0 ∧ N.1 72 i ≠ 0 ∧ N.1 73 i ≠ -1) ∨ N.1 72 i = 0 then 0 else N.1 76 i + 1) := ⟨_, rfl⟩
      refine ⟨wrN (wrN N' 91 i c) 76 i y, ⟨fun a b a1 a2 => by simp only [wrN, a1, a2, false_and, if_false]; exact g1 a b a1 a2, fun v => ⟨fun hv => ?_, fun hv => ?_⟩⟩, fun t m h => ?_⟩
      · by_cases e : v = i
        · subst e; rw [← hc, ← hy]; simp [wrN]
        · have r1 : (wrN (wrN N' 91 i c) 76 i y).1 91 v = N'.1 91 v := by simp [wrN, e]
          have r2 : (wrN (wrN N' 91 i c) 76 i y).1 76 v = N'.1 76 v := by simp [wrN, e]
          rw [r1, r2]; exact (g2 v).1 (by omega)
      · have e : v ≠ i := by omega
        have r2 : (wrN (wrN N' 91 i c) 76 i y).1 76 v = N'.1 76 v := by simp [wrN, e]
        rw [r2]; exact (g2 v).2 (by omega)
      · show fX8_spreadSchedule_L36 p1 t.1 t.2 (m + 1) (nI i) N'
        have h : fX8_spreadSchedule_L36 p1 t.1 t.2 m (nI (i + 1)) (wrN (wrN N' 91 i c) 76 i y) := h
        rw [fX8_spreadSchedule_L36, if_neg hlt]
        simp only [jn, bd]
        rw [tn_nI (show i < 2 ^ 31 by omega), nI_1, e72, e73]
        have r91 : ∀ c, (wrN N' 91 i c).1 91 i = c := fun c => by simp [wrN]
        have r72 : ∀ c, (wrN N' 91 i c).1 72 i = N.1 72 i := fun c => e72
        have r76 : ∀ c, (wrN N' 91 i c).1 76 i = N.1 76 i := fun c => e76
        by_cases z0 : p1 = 0
        · have hno : ¬ (p1 ≠ 0 ∧ N.1 72 i ≠ 0 ∧ N.1 73 i ≠ -1) := fun q => q.1 z0
          rw [if_neg hno] at hc
          rw [if_pos z0, r91, r72, r76, if_pos rfl]
          rw [hc] at h
          refine ⟨hb, bl_0, hb, hb, ?_⟩
          by_cases z1 : N.1 72 i = 0
          · rw [if_pos (Or.inr z1)] at hy; rw [hy] at h; rw [if_pos z1]; exact ⟨hb, h⟩
          · rw [if_neg (fun q => q.elim hno z1)] at hy; rw [hy] at h; rw [if_neg z1]; exact ⟨hb, hb, h⟩
        · rw [if_neg z0]
          refine ⟨hb, ?_⟩
          by_cases z1 : N.1 72 i = 0
          · have hno : ¬ (p1 ≠ 0 ∧ N.1 72 i ≠ 0 ∧ N.1 73 i ≠ -1) := fun q => q.2.1 z1
            rw [if_neg hno] at hc
            rw [if_pos (Or.inr z1)] at hy
            rw [hc, hy] at h
            rw [if_pos z1, r91, r72, r76, if_pos rfl, if_pos z1]
            exact ⟨hb, bl_0, hb, hb, hb, h⟩
          · rw [if_neg z1]
            refine ⟨hb, ?_⟩
            by_cases z2 : N.1 73 i = -1
            · have hno : ¬ (p1 ≠ 0 ∧ N.1 72 i ≠ 0 ∧ N.1 73 i ≠ -1) := fun q => q.2.2 z2
              rw [if_neg hno] at hc
              rw [if_neg (fun q => q.elim hno z1)] at hy
              rw [hc, hy] at h
              rw [if_pos z2, r91, r72, r76, if_pos rfl, if_neg z1]
              exact ⟨hb, bl_0, hb, hb, hb, hb, h⟩
            · have hyes : p1 ≠ 0 ∧ N.1 72 i ≠ 0 ∧ N.1 73 i ≠ -1 := ⟨z0, z1, z2⟩
              rw [if_pos hyes] at hc
              rw [if_pos (Or.inl hyes)] at hy
              rw [hc, hy] at h
              rw [if_neg z2, r91, if_neg (show ¬ (1 : Int32) = 0 by decide)]
              exact ⟨hb, bl_1, hb, hb, h⟩)
    0 200 N (by omega) (by omega) ⟨fun _ _ _ _ => rfl, fun v => ⟨fun hv => absurd hv (Nat.not_lt_zero v), fun _ => rfl⟩⟩
  exact ⟨N1, fun a a1 a2 => funext fun b => h1 a b a1 a2, fun v hv => (h2 v).1 hv, fun E K hE => h3 (E, K) hE⟩
