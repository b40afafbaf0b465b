/-! one slot of a flood: the reference -/
/-- nothing but rows 73, 74, 75, 89, 90 changes -/
def FrM (N N' : Nm) : Prop := (∀ a b, a ≠ 73 → a ≠ 74 → a ≠ 75 → a ≠ 89 → a ≠ 90 → N'.1 a b = N.1 a b) ∧ N'.2 = N.2
def SameM (N N' : Nm) (v : Nat) : Prop := N'.1 73 v = N.1 73 v ∧ N'.1 74 v = N.1 74 v
def NodeM (n L : Nat) (P H : Nat → Int32) (N N' : Nm) (s v : Nat) : Prop :=
  (Lis n (N.1 72) P v ∧ ∃ lv, MaxOf (SM N P H v (nI s) L) lv ∧ ((capF lv (N.1 66 17) = -1 ∧ SameM N N' v) ∨ (capF lv (N.1 66 17) ≠ -1 ∧ N'.1 73 v = capF lv (N.1 66 17) ∧ N'.1 74 v = nI s))) ∨ (¬ Lis n (N.1 72) P v ∧ SameM N N' v)
theorem RH_m2 {p h p' r : Int32} (hH : RH p h p' r) : r = -2 ↔ p = -1 := by
  rcases hH.2 with ⟨h1, h2, h3⟩ | ⟨q, k, h1, h2, h3, h4, h5⟩
  · exact ⟨fun _ => h1, fun _ => h3⟩
  · exact ⟨fun z => absurd (h5.symm.trans z) (pred_ne2 (by omega)), fun z => absurd (h3.symm.trans z) (nI_nm1 (by omega))⟩
theorem SM_same {N N' : Nm} {P H : Nat → Int32} {v L : Nat} {s : Int32} (hfr : ∀ a b, a ≠ 89 → a ≠ 90 → N'.1 a b = N.1 a b) (q : Nat) (x : Int32) : SM N' P H v s L q x ↔ SM N P H v s L q x := by
  unfold SM
  constructor
  · intro ⟨k, u, z⟩
    refine ⟨k, u, ?_⟩
    rw [hfr 68 k (by decide) (by decide), hfr 69 k (by decide) (by decide), hfr 70 k (by decide) (by decide), hfr 71 k (by decide) (by decide), hfr 66 16 (by decide) (by decide)] at z
    exact z
  · intro ⟨k, u, z⟩
    refine ⟨k, u, ?_⟩
    rw [hfr 68 k (by decide) (by decide), hfr 69 k (by decide) (by decide), hfr 70 k (by decide) (by decide), hfr 71 k (by decide) (by decide), hfr 66 16 (by decide) (by decide)]
    exact z
theorem slotM {N : Nm} {P H : Nat → Int32} {n L s : Nat} (hn : n ≤ 8) (hM : N.1 66 2 = nI n) (hL : L ≤ 12) (hlk : N.1 66 3 = nI L) (hAB : ∀ k, k < L → ∃ a b : Nat, a < b ∧ b < n ∧ N.1 68 k = nI a ∧ N.1 69 k = nI b) (hH : ∀ u, u < 8 → RH (P u) (H u) (N.1 73 u) (N.1 74 u)) (hs : s ≤ 200) :
    ∃ N', FrM N N' ∧ (∀ v, v < 8 → NodeM n L P H N N' s v) ∧ (∀ v, v < n → N'.1 75 v = N.1 75 v + trv (P v) (H v) (nI s) (N.1 66 16)) ∧
      ∀ (p1 : Int32) (E : Int32 → Nm → Prop) (K : Int32 → Nm → Prop) (m : Nat), fX8_floodNow_L45 p1 E K m (nI (s + 1)) N' →
        fX8_floodNow_L55 p1 (nI s) (fun _ N32 => fX8_floodNow_L107 p1 (nI s) (fun _ N44 => fX8_floodNow_L146 p1 (nI s) (fun _ N58 => fX8_floodNow_L45 p1 E K m (nI s + 1) N58) K 200 0 N44) K 200 0 N32) K 200 0 N := by
  -- who hears what
  obtain ⟨N1, ⟨a1, a2, a3⟩, a4⟩ := ex_loop (F := fun (t : Int32 × (Int32 → Nm → Prop) × (Int32 → Nm → Prop)) m i N' => fX8_floodNow_L55 t.1 (nI s) t.2.1 t.2.2 m (nI i) N') (X := fun t N' => t.2.1 (nI n) N')
    (I := fun i N' => (∀ a b, a ≠ 89 → a ≠ 90 → N'.1 a b = N.1 a b) ∧ N'.2 = N.2 ∧ ∀ v, v < i → (Lis n (N.1 72) P v ∧ ∃ lv, MaxOf (SM N P H v (nI s) L) lv ∧ N'.1 90 v = capF lv (N.1 66 17)) ∨ (¬ Lis n (N.1 72) P v ∧ N'.1 90 v = -1)) n
    (fun t m N' hI h => by
      rw [fX8_floodNow_L55, hI.1 66 2 (by decide) (by decide), hM, if_pos (Int32.le_refl _)]; exact h)
    (fun i N' hi hI => by
      obtain ⟨g1, g2, g3⟩ := hI
      have hi8 : i < 8 := by omega
      have hb := inb_nI hi8 (show 8 < 2 ^ 31 by omega)
      have hlt : ¬ N'.1 66 2 ≤ nI i := by rw [g1 66 2 (by decide) (by decide), hM]; exact nI_ge hi (by omega)
      have e72 := g1 72 i (by decide) (by decide)
      have e74 := g1 74 i (by decide) (by decide)
      have e17 := g1 66 17 (by decide) (by decide)
      have hH' : ∀ u, u < 8 → RH (P u) (H u) (N'.1 73 u) (N'.1 74 u) := fun u hu => by rw [g1 73 u (by decide) (by decide), g1 74 u (by decide) (by decide)]; exact hH u hu
      have hm2 := RH_m2 (hH i hi8)
      by_cases z : Lis n (N.1 72) P i
      · obtain ⟨N2, b1, b2, b3, b4⟩ := heardM (N := N') (P := P) (H := H) hi8 (nI s) hn hL (by rw [g1 66 3 (by decide) (by decide)]; exact hlk) (fun k hk => by rw [g1 68 k (by decide) (by decide), g1 69 k (by decide) (by decide)]; exact hAB k hk) hH'
        have b3 : MaxOf (SM N P H i (nI s) L) (N2.1 89) := b3.mono (fun q x _ => SM_same g1 q x)
        rw [e17] at b4
        refine ⟨wrN N2 90 i (capF (N2.1 89) (N.1 66 17)), ⟨fun a b h1 h2 => ?_, b2.trans g2, fun v hv => ?_⟩, fun t m h => ?_⟩
        · simp only [wrN, h2, false_and, if_false]; exact (b1 a b h1).trans (g1 a b h1 h2)
        · by_cases e : v = i
          · subst e; exact Or.inl ⟨z, N2.1 89, b3, by simp only [wrN, and_self, if_true]⟩
          · simp only [wrN, e, and_false, if_false]
            rw [b1 90 v (by decide)]; exact g3 v (by omega)
        · show fX8_floodNow_L55 t.1 (nI s) t.2.1 t.2.2 (m + 1) (nI i) N'
          rw [fX8_floodNow_L55, if_neg hlt]
          simp only [jn, bd]
          rw [tn_nI (show i < 2 ^ 31 by omega), e72, e74, if_neg z.2.1, if_pos (hm2.mpr z.2.2), nI_1]
          exact ⟨hb, hb, b4 _ ⟨hb, h⟩⟩
      · refine ⟨wrN N' 90 i (-1), ⟨fun a b h1 h2 => ?_, g2, fun v hv => ?_⟩, fun t m h => ?_⟩
        · simp only [wrN, h2, false_and, if_false]; exact g1 a b h1 h2
        · by_cases e : v = i
          · subst e; exact Or.inr ⟨z, by simp only [wrN, and_self, if_true]⟩
          · simp only [wrN, e, and_false, if_false]; exact g3 v (by omega)
        · show fX8_floodNow_L55 t.1 (nI s) t.2.1 t.2.2 (m + 1) (nI i) N'
          rw [fX8_floodNow_L55, if_neg hlt]
          simp only [jn, bd]
          rw [tn_nI (show i < 2 ^ 31 by omega), e72, e74, nI_1]
          refine ⟨hb, ?_⟩
          by_cases z1 : N.1 72 i = 0
          · rw [if_pos z1]; exact ⟨hb, h⟩
          · rw [if_neg z1]
            refine ⟨hb, ?_⟩
            rw [if_neg (fun z2 => z ⟨hi, z1, hm2.mp z2⟩)]; exact ⟨hb, h⟩)
    0 200 N (by omega) (by omega) ⟨fun _ _ _ _ => rfl, rfl, fun v hv => absurd hv (Nat.not_lt_zero v)⟩
  -- the counters
  obtain ⟨N2, ⟨b1, b2, b3⟩, b4⟩ := ex_loop (F := fun (t : Int32 × (Int32 → Nm → Prop) × (Int32 → Nm → Prop)) m i N' => fX8_floodNow_L107 t.1 (nI s) t.2.1 t.2.2 m (nI i) N') (X := fun t N' => t.2.1 (nI n) N')
    (I := fun i N' => (∀ a b, a ≠ 75 → N'.1 a b = N1.1 a b) ∧ N'.2 = N1.2 ∧ ∀ v, N'.1 75 v = if v < i then N1.1 75 v + trv (P v) (H v) (nI s) (N.1 66 16) else N1.1 75 v) n
    (fun t m N' hI h => by
      rw [fX8_floodNow_L107, hI.1 66 2 (by decide), a1 66 2 (by decide) (by decide), hM, if_pos (Int32.le_refl _)]; exact h)
    (fun i N' hi hI => by
      obtain ⟨g1, g2, g3⟩ := hI
      have hi8 : i < 8 := by omega
      have hb := inb_nI hi8 (show 8 < 2 ^ 31 by omega)
      have hlt : ¬ N'.1 66 2 ≤ nI i := by rw [g1 66 2 (by decide), a1 66 2 (by decide) (by decide), hM]; exact nI_ge hi (by omega)
      have hRH : RH (P i) (H i) (N'.1 73 i) (N'.1 74 i) := by rw [g1 73 i (by decide), g1 74 i (by decide), a1 73 i (by decide) (by decide), a1 74 i (by decide) (by decide)]; exact hH i hi8
      have e16 : N'.1 66 16 = N.1 66 16 := by rw [g1 66 16 (by decide), a1 66 16 (by decide) (by decide)]
      have e75 : N'.1 75 i = N1.1 75 i := by rw [g3 i, if_neg (by omega)]
      refine ⟨wrN N' 75 i (N1.1 75 i + trv (P i) (H i) (nI s) (N.1 66 16)), ⟨fun a b h1 => ?_, g2, fun v => ?_⟩, fun t m h => ?_⟩
      · simp only [wrN, h1, false_and, if_false]; exact g1 a b h1
      · by_cases e : v = i
        · subst e; simp only [wrN, and_self, if_true]; rw [if_pos (by omega)]
        · simp only [wrN, e, and_false, if_false]; rw [g3 v]
          by_cases z : v < i
          · rw [if_pos z, if_pos (by omega)]
          · rw [if_neg z, if_neg (by omega)]
      · show fX8_floodNow_L107 t.1 (nI s) t.2.1 t.2.2 (m + 1) (nI i) N'
        rw [fX8_floodNow_L107, if_neg hlt, trM_eq hi8 hRH, e16]
        simp only [jn, bd]
        rw [tn_nI (show i < 2 ^ 31 by omega), e75, nI_1]
        refine ⟨hb, ?_⟩
        have h : fX8_floodNow_L107 t.1 (nI s) t.2.1 t.2.2 m (nI (i + 1)) (wrN N' 75 i (N1.1 75 i + trv (P i) (H i) (nI s) (N.1 66 16))) := h
        rcases bl_cases (trv_bl (P i) (H i) (nI s) (N.1 66 16)) with z | z
        · rw [z] at h ⊢; rw [if_pos rfl]; exact ⟨hb, h⟩
        · rw [z] at h ⊢; rw [if_neg (show ¬ (1 : Int32) = 0 by decide)]; exact ⟨hb, h⟩)
    0 200 N1 (by omega) (by omega) ⟨fun _ _ _ => rfl, rfl, fun v => by rw [if_neg (Nat.not_lt_zero v)]⟩
  -- what came is held
  obtain ⟨N3, ⟨c1, c2, c3⟩, c4⟩ := ex_loop (F := fun (t : Int32 × (Int32 → Nm → Prop) × (Int32 → Nm → Prop)) m i N' => fX8_floodNow_L146 t.1 (nI s) t.2.1 t.2.2 m (nI i) N') (X := fun t N' => t.2.1 (nI n) N')
    (I := fun i N' => (∀ a b, a ≠ 73 → a ≠ 74 → N'.1 a b = N2.1 a b) ∧ N'.2 = N2.2 ∧ ∀ v, N'.1 73 v = (if v < i ∧ N1.1 90 v ≠ -1 then N1.1 90 v else N.1 73 v) ∧ N'.1 74 v = (if v < i ∧ N1.1 90 v ≠ -1 then nI s else N.1 74 v)) n
    (fun t m N' hI h => by
      rw [fX8_floodNow_L146, hI.1 66 2 (by decide) (by decide), b1 66 2 (by decide), a1 66 2 (by decide) (by decide), hM, if_pos (Int32.le_refl _)]; exact h)
    (fun i N' hi hI => by
      obtain ⟨g1, g2, g3⟩ := hI
      have hi8 : i < 8 := by omega
      have hb := inb_nI hi8 (show 8 < 2 ^ 31 by omega)
      have hlt : ¬ N'.1 66 2 ≤ nI i := by rw [g1 66 2 (by decide) (by decide), b1 66 2 (by decide), a1 66 2 (by decide) (by decide), hM]; exact nI_ge hi (by omega)
      have e90 : N'.1 90 i = N1.1 90 i := by rw [g1 90 i (by decide) (by decide), b1 90 i (by decide)]
      by_cases z : N1.1 90 i = -1
      · refine ⟨N', ⟨g1, g2, fun v => ?_⟩, fun t m h => ?_⟩
        · by_cases e : v = i
          · subst e
            have := g3 v
            rw [if_neg (by omega), if_neg (by omega)] at this
            rw [if_neg (fun w => w.2 z), if_neg (fun w => w.2 z)]; exact this
          · have := g3 v
            by_cases w : v < i ∧ N1.1 90 v ≠ -1
            · rw [if_pos w, if_pos w] at this
              rw [if_pos ⟨by omega, w.2⟩, if_pos ⟨by omega, w.2⟩]; exact this
            · rw [if_neg w, if_neg w] at this
              rw [if_neg (fun y => w ⟨by omega, y.2⟩), if_neg (fun y => w ⟨by omega, y.2⟩)]; exact this
        · show fX8_floodNow_L146 t.1 (nI s) t.2.1 t.2.2 (m + 1) (nI i) N'
          rw [fX8_floodNow_L146, if_neg hlt]
          simp only [jn, bd]
          rw [tn_nI (show i < 2 ^ 31 by omega), e90, if_pos z, nI_1]
          exact ⟨hb, h⟩
      · refine ⟨wrN (wrN N' 73 i (N1.1 90 i)) 74 i (nI s), ⟨fun a b h1 h2 => ?_, g2, fun v => ?_⟩, fun t m h => ?_⟩
        · simp only [wrN, h1, h2, false_and, if_false]; exact g1 a b h1 h2
        · by_cases e : v = i
          · subst e
            rw [if_pos ⟨by omega, z⟩, if_pos ⟨by omega, z⟩]
            simp [wrN]
          · have := g3 v
            have r1 : (wrN (wrN N' 73 i (N1.1 90 i)) 74 i (nI s)).1 73 v = N'.1 73 v := by simp [wrN, e]
            have r2 : (wrN (wrN N' 73 i (N1.1 90 i)) 74 i (nI s)).1 74 v = N'.1 74 v := by simp [wrN, e]
            rw [r1, r2]
            by_cases w : v < i ∧ N1.1 90 v ≠ -1
            · rw [if_pos w, if_pos w] at this
              rw [if_pos ⟨by omega, w.2⟩, if_pos ⟨by omega, w.2⟩]; exact this
            · rw [if_neg w, if_neg w] at this
              rw [if_neg (fun y => w ⟨by omega, y.2⟩), if_neg (fun y => w ⟨by omega, y.2⟩)]; exact this
        · show fX8_floodNow_L146 t.1 (nI s) t.2.1 t.2.2 (m + 1) (nI i) N'
          rw [fX8_floodNow_L146, if_neg hlt]
          simp only [jn, bd]
          rw [tn_nI (show i < 2 ^ 31 by omega), e90, if_neg z, nI_1]
          exact ⟨hb, hb, hb, hb, h⟩)
    0 200 N2 (by omega) (by omega) ⟨fun _ _ _ _ => rfl, rfl, fun v => by
      rw [if_neg (fun w => Nat.not_lt_zero v w.1), if_neg (fun w => Nat.not_lt_zero v w.1), b1 73 v (by decide), b1 74 v (by decide), a1 73 v (by decide) (by decide), a1 74 v (by decide) (by decide)]; exact ⟨rfl, rfl⟩⟩
  refine ⟨N3, ⟨fun a b h1 h2 h3 h4 h5 => ?_, ?_⟩, fun v hv => ?_, fun v hv => ?_, fun p1 E K m h => ?_⟩
  · rw [c1 a b h1 h2, b1 a b h3, a1 a b h4 h5]
  · rw [c2, b2, a2]
  · obtain ⟨g1, g2⟩ := c3 v
    rcases Nat.lt_or_ge v n with q | q
    · rcases a3 v q with ⟨w1, lv, w2, w3⟩ | ⟨w1, w3⟩
      · refine Or.inl ⟨w1, lv, w2, ?_⟩
        rw [w3] at g1 g2
        by_cases z : capF lv (N.1 66 17) = -1
        · left
          rw [if_neg (fun y => y.2 z)] at g1 g2
          exact ⟨z, g1, g2⟩
        · right
          rw [if_pos ⟨q, z⟩] at g1 g2
          exact ⟨z, g1, g2⟩
      · right
        rw [if_neg (fun y => y.2 w3)] at g1 g2
        exact ⟨w1, g1, g2⟩
    · right
      rw [if_neg (fun y => absurd y.1 (by omega))] at g1 g2
      exact ⟨fun y => absurd y.1 (by omega), g1, g2⟩
  · rw [c1 75 v (by decide) (by decide), b3 v, if_pos hv, a1 75 v (by decide) (by decide)]
  · refine a4 (p1, fun _ N32 => _, K) ?_
    refine b4 (p1, fun _ N44 => _, K) ?_
    refine c4 (p1, fun _ N58 => _, K) ?_
    show fX8_floodNow_L45 p1 E K m (nI s + 1) N3
    rw [nI_1]; exact h
