/-! one slot of a flood: the class -/
theorem holdX {C : Xm} {v t len h : Nat} (hv : v < 8) (ht : C 46 4 = nI t) (hl : C 46 3 = nI len) (hb1 : 1 ≤ t) (hb2 : t ≤ 4) (hb3 : h ≤ 1000) (hb4 : len ≤ 1000) (c : Int32) (K : Xm → Prop)
    (hK : K (wr (wr (wr (wr C 48 v c) 49 v (nI h)) 44 v (C 44 v + nI t)) 46 3 (nI (if len < h + 2 * t - 1 then h + 2 * t - 1 else len)))) : fX1_hold C (nI v) c (nI h) K := by
  have hb := inb_nI hv (show 8 < 2 ^ 31 by omega)
  simp only [fX1_hold, bd]
  rw [tn_nI (show v < 2 ^ 31 by omega)]
  refine ⟨hb, hb, hb, hb, ?_⟩
  have e1 : wr (wr C 48 v c) 49 v (nI h) 44 v = C 44 v := rfl
  have e2 : wr (wr C 48 v c) 49 v (nI h) 46 4 = nI t := ht
  have e3 : ∀ x, wr (wr (wr C 48 v c) 49 v (nI h)) 44 v x 46 3 = nI len := fun x => hl
  have e4 : ∀ x, wr (wr (wr C 48 v c) 49 v (nI h)) 44 v x 46 4 = nI t := fun x => ht
  have e5 : nI h + 2 * nI t - 1 = nI (h + 2 * t - 1) := by
    have a1 : (2 : Int32) * nI t = nI (2 * t) := pk_mul 2 t
    rw [a1, nI_add]
    exact pk_sub (a := h + 2 * t) (b := 1) (by omega)
  rw [e1, e2, e3, e4, e5]
  have e6 : (if nI len < nI (h + 2 * t - 1) then nI (h + 2 * t - 1) else nI len) = nI (if len < h + 2 * t - 1 then h + 2 * t - 1 else len) := by
    by_cases z : len < h + 2 * t - 1
    · rw [if_pos z, if_pos (nI_lt z (by omega))]
    · rw [if_neg z, if_neg (nI_nlt (by omega) (by omega))]
  rw [e6]; exact hK
/-- nothing of node v has changed -/
def Same (C C' : Xm) (v : Nat) : Prop := C' 48 v = C 48 v ∧ C' 49 v = C 49 v ∧ C' 44 v = C 44 v
def Lis (n : Nat) (al p : Nat → Int32) (v : Nat) : Prop := v < n ∧ al v ≠ 0 ∧ p v = -1
/-- what slot s does to node v of the class -/
def NodeX (n : Nat) (C C' : Xm) (s v : Nat) : Prop :=
  (Lis n (C 42) (C 48) v ∧ ∃ lv, MaxOf (SX C v (nI s) 8) lv ∧ ((capF lv (C 46 5) = -1 ∧ Same C C' v) ∨ (capF lv (C 46 5) ≠ -1 ∧ C' 48 v = capF lv (C 46 5) ∧ C' 49 v = nI (s + 1) ∧ C' 44 v = C 44 v + C 46 4))) ∨ (¬ Lis n (C 42) (C 48) v ∧ Same C C' v)
def FrX (C C' : Xm) : Prop := (∀ a, a ≠ 44 → a ≠ 46 → a ≠ 47 → a ≠ 48 → a ≠ 49 → C' a = C a) ∧ ∀ k, k ≠ 3 → C' 46 k = C 46 k
/-- the flood's length behind it -/
def LenX (n : Nat) (C C' : Xm) (s t len : Nat) : Prop := ∃ len', C' 46 3 = nI len' ∧ ((len' = len ∧ ∀ v, v < 8 → C' 48 v = C 48 v) ∨ (len' = (if len < s + 1 + 2 * t - 1 then s + 1 + 2 * t - 1 else len) ∧ ∃ v, v < n ∧ C 48 v = -1 ∧ C' 48 v ≠ -1))
/-- who sends in slot s is not changed by what comes in it -/
theorem tr_same {n : Nat} {C C' : Xm} {s v t : Nat} (ht : C 46 4 = nI t) (ht4 : t ≤ 4) (hs : s ≤ 900) (h : NodeX n C C' s v ∨ Same C C' v) : (trv (C' 48 v) (C' 49 v) (nI s) (C 46 4) = 0 ∧ trv (C 48 v) (C 49 v) (nI s) (C 46 4) = 0) ∨ (C' 48 v = C 48 v ∧ C' 49 v = C 49 v) := by
  rcases h with h | h
  · rcases h with ⟨h1, lv, h2, h3 | h3⟩ | ⟨h1, h3⟩
    · exact Or.inr ⟨h3.2.1, h3.2.2.1⟩
    · left
      obtain ⟨g1, g2, g3, g4⟩ := h3
      rcases capF_rng lv (C 46 5) with z | ⟨q, hq, z⟩
      · exact absurd z g1
      · rw [g2, g3, z, ht, trv_nat hq (by omega) (by omega) ht4, if_neg (by omega)]
        refine ⟨rfl, ?_⟩
        unfold trv; rw [if_pos h1.2.2]
    · exact Or.inr ⟨h3.1, h3.2.1⟩
  · exact Or.inr ⟨h.1, h.2.1⟩
theorem SX_same {C C' : Xm} {s v : Nat} (hfr : ∀ a, 25 ≤ a → a < 42 → C' a = C a) (h46 : C' 46 4 = C 46 4) (h : ∀ u, u < 8 → (trv (C' 48 u) (C' 49 u) (nI s) (C 46 4) = 0 ∧ trv (C 48 u) (C 49 u) (nI s) (C 46 4) = 0) ∨ (C' 48 u = C 48 u ∧ C' 49 u = C 49 u)) (q : Nat) (x : Int32) : SX C' v (nI s) 8 q x ↔ SX C v (nI s) 8 q x := by
  unfold SX
  constructor
  · intro ⟨u, hu, z1, z2, z3⟩
    rw [h46] at z1
    rw [hfr (25 + u) (by omega) (by omega), hfr (34 + u) (by omega) (by omega)] at z3
    rcases h u hu with ⟨w, _⟩ | ⟨w1, w2⟩
    · exact absurd w z1
    · exact ⟨u, hu, by rw [← w1, ← w2]; exact z1, by rw [← w1]; exact z2, z3⟩
  · intro ⟨u, hu, z1, z2, z3⟩
    rcases h u hu with ⟨_, w⟩ | ⟨w1, w2⟩
    · exact absurd w z1
    · refine ⟨u, hu, by rw [h46, w1, w2]; exact z1, by rw [w1]; exact z2, ?_⟩
      rw [hfr (25 + u) (by omega) (by omega), hfr (34 + u) (by omega) (by omega)]; exact z3
theorem slotX {C : Xm} {n t len s : Nat} (hn : n ≤ 8) (hC : C 22 1 = nI n) (ht : C 46 4 = nI t) (ht1 : 1 ≤ t) (ht4 : t ≤ 4) (hs : s ≤ 200) (hl : C 46 3 = nI len) (hlb : len ≤ 200) (hP : ∀ u, u < 8 → C 48 u = -1 ∨ ∃ q, q < 8 ∧ C 48 u = nI q) :
    ∃ C', FrX C C' ∧ (∀ v, v < 8 → NodeX n C C' s v) ∧ LenX n C C' s t len ∧ ∀ K, K C' → fX1_runSlot C (nI s) K := by
  have ns : ∀ u, n ≤ u → ¬ Lis n (C 42) (C 48) u := fun u hu z => absurd z.1 (by omega)
  obtain ⟨C', ⟨h1, h2, h3, h4⟩, h5⟩ := ex_loop (F := fun (t : (Int32 → Xm → Prop) × (Xm → Prop)) n i C' => fX1_runSlot_L2 (nI s) t.1 t.2 n (nI i) C') (X := fun t C' => t.1 (nI n) C')
    (I := fun i C' => FrX C C' ∧ (∀ v, v < i → NodeX n C C' s v) ∧ (∀ v, i ≤ v → v < 8 → Same C C' v) ∧ LenX n C C' s t len) n
    (fun t' m C' hI h => by
      rw [fX1_runSlot_L2, hI.1.1 22 (by decide) (by decide) (by decide) (by decide) (by decide), hC, if_pos (Int32.le_refl _)]; exact h)
    (fun i C' hi hI => by
      obtain ⟨⟨g1, g1b⟩, g2, g3, g4⟩ := hI
      have hi8 : i < 8 := by omega
      have hb := inb_nI hi8 (show 8 < 2 ^ 31 by omega)
      have e22 := g1 22 (by decide) (by decide) (by decide) (by decide) (by decide)
      have e42 := g1 42 (by decide) (by decide) (by decide) (by decide) (by decide)
      have e4 := g1b 4 (by decide)
      have e5 := g1b 5 (by decide)
      obtain ⟨s1, s2, s3⟩ := g3 i (Nat.le_refl i) hi8
      have hlt : ¬ C' 22 1 ≤ nI i := by rw [e22, hC]; exact nI_ge hi (by omega)
      have unf : ∀ (t' : (Int32 → Xm → Prop) × (Xm → Prop)) (m : Nat), (if C 42 i = 0 then fX1_runSlot_L2 (nI s) t'.1 t'.2 m (nI (i + 1)) C' else if C 48 i = -1 then fX1_measureLevels C' (nI i) (nI s) (fun C7 => fX1_capturedPacket C7 (fun r8 => if r8 = -1 then fX1_runSlot_L2 (nI s) t'.1 t'.2 m (nI (i + 1)) C7 else fX1_hold C7 (nI i) r8 (nI (s + 1)) (fun C10 => fX1_runSlot_L2 (nI s) t'.1 t'.2 m (nI (i + 1)) C10))) else fX1_runSlot_L2 (nI s) t'.1 t'.2 m (nI (i + 1)) C') → fX1_runSlot_L2 (nI s) t'.1 t'.2 (m + 1) (nI i) C' := by
        intro t' m h
        rw [fX1_runSlot_L2, if_neg hlt]
        simp only [jn, bd]
        rw [tn_nI (show i < 2 ^ 31 by omega), e42, s1, nI_1, nI_1]
        refine ⟨hb, ?_⟩
        by_cases z1 : C 42 i = 0
        · rw [if_pos z1] at h ⊢; exact h
        · rw [if_neg z1] at h ⊢
          refine ⟨hb, h⟩
      have keep : ¬ Lis n (C 42) (C 48) i → FrX C C' ∧ (∀ v, v < i + 1 → NodeX n C C' s v) ∧ (∀ v, i + 1 ≤ v → v < 8 → Same C C' v) ∧ LenX n C C' s t len := fun z => ⟨⟨g1, g1b⟩, fun v hv => by
        by_cases e : v = i
        · subst e; exact Or.inr ⟨z, s1, s2, s3⟩
        · exact g2 v (by omega), fun v hv hv8 => g3 v (by omega) hv8, g4⟩
      by_cases z1 : C 42 i = 0
      · exact ⟨C', keep (fun z => z.2.1 z1), fun t' m h => unf t' m (by rw [if_pos z1]; exact h)⟩
      by_cases z2 : C 48 i = -1
      · have hlis : Lis n (C 42) (C 48) i := ⟨hi, z1, z2⟩
        have htr : ∀ u, u < 8 → (trv (C' 48 u) (C' 49 u) (nI s) (C 46 4) = 0 ∧ trv (C 48 u) (C 49 u) (nI s) (C 46 4) = 0) ∨ (C' 48 u = C 48 u ∧ C' 49 u = C 49 u) := fun u hu => tr_same ht ht4 (by omega) (by
          rcases Nat.lt_or_ge u i with q | q
          · exact Or.inl (g2 u q)
          · exact Or.inr (g3 u q hu))
        have hP' : ∀ u, u < 8 → C' 48 u = -1 ∨ ∃ q, q < 8 ∧ C' 48 u = nI q := fun u hu => by
          rcases Nat.lt_or_ge u i with q | q
          · rcases g2 u q with ⟨w1, lv, w2, w3 | w3⟩ | ⟨w1, w3⟩
            · rw [w3.2.1]; exact hP u hu
            · rw [w3.2.1]; exact capF_rng lv _
            · rw [w3.1]; exact hP u hu
          · rw [(g3 u q hu).1]; exact hP u hu
        obtain ⟨C7, m1, m2, m3⟩ := measX (C := C') hi8 (nI s) hP'
        have m2 : MaxOf (SX C i (nI s) 8) (C7 47) := m2.mono (fun q x _ => SX_same (fun a h1 h2 => g1 a (by omega) (by omega) (by omega) (by omega) (by omega)) e4 htr q x)
        have c22 := m1 22 (by decide)
        have c46 := m1 46 (by decide)
        have c48 := m1 48 (by decide)
        have c49 := m1 49 (by decide)
        have c44 := m1 44 (by decide)
        by_cases z3 : capF (C7 47) (C 46 5) = -1
        · refine ⟨C7, ⟨⟨fun a a1 a2 a3 a4 a5 => (m1 a a3).trans (g1 a a1 a2 a3 a4 a5), fun k hk => by rw [c46]; exact g1b k hk⟩, fun v hv => ?_, fun v hv hv8 => ?_, ?_⟩, fun t' m h => unf t' m ?_⟩
          · by_cases e : v = i
            · subst e; exact Or.inl ⟨hlis, C7 47, m2, Or.inl ⟨z3, by rw [c48]; exact s1, by rw [c49]; exact s2, by rw [c44]; exact s3⟩⟩
            · have := g2 v (by omega)
              unfold NodeX Same at this ⊢
              rw [c48, c49, c44]; exact this
          · have := g3 v (by omega) hv8
            unfold Same at this ⊢
            rw [c48, c49, c44]; exact this
          · obtain ⟨l', w1, w2⟩ := g4
            refine ⟨l', by rw [c46]; exact w1, ?_⟩
            rw [c48]; exact w2
          · rw [if_neg z1, if_pos z2]
            refine m3 _ (capX _ ?_)
            rw [c46, e5, if_pos z3]; exact h
        · obtain ⟨len', w1, w2⟩ := g4
          have hlb' : len' ≤ 1000 := by
            rcases w2 with ⟨w, _⟩ | ⟨w, _⟩
            · omega
            · rw [w]; split <;> omega
          refine ⟨wr (wr (wr (wr C7 48 i (capF (C7 47) (C 46 5))) 49 i (nI (s + 1))) 44 i (C7 44 i + nI t)) 46 3 (nI (if len' < s + 1 + 2 * t - 1 then s + 1 + 2 * t - 1 else len')), ⟨⟨fun a a1 a2 a3 a4 a5 => ?_, fun k hk => ?_⟩, fun v hv => ?_, fun v hv hv8 => ?_, ?_⟩, fun t' m h => unf t' m ?_⟩
          · rw [wr_off a2, wr_off a1, wr_off a5, wr_off a4]; exact (m1 a a3).trans (g1 a a1 a2 a3 a4 a5)
          · rw [wr_row]; unfold upd; rw [if_neg hk]
            show C7 46 k = _
            rw [c46]; exact g1b k hk
          · have r48 : ∀ x y z, wr (wr (wr (wr C7 48 i x) 49 i y) 44 i z) 46 3 (nI (if len' < s + 1 + 2 * t - 1 then s + 1 + 2 * t - 1 else len')) 48 v = (if v = i then x else C7 48 v) := fun x y z => by
              by_cases e : v = i <;> simp [wr, e]
            have r49 : ∀ x y z, wr (wr (wr (wr C7 48 i x) 49 i y) 44 i z) 46 3 (nI (if len' < s + 1 + 2 * t - 1 then s + 1 + 2 * t - 1 else len')) 49 v = (if v = i then y else C7 49 v) := fun x y z => by
              by_cases e : v = i <;> simp [wr, e]
            have r44 : ∀ x y z, wr (wr (wr (wr C7 48 i x) 49 i y) 44 i z) 46 3 (nI (if len' < s + 1 + 2 * t - 1 then s + 1 + 2 * t - 1 else len')) 44 v = (if v = i then z else C7 44 v) := fun x y z => by
              by_cases e : v = i <;> simp [wr, e]
            by_cases e : v = i
            · subst e
              exact Or.inl ⟨hlis, C7 47, m2, Or.inr ⟨z3, by rw [r48, if_pos rfl], by rw [r49, if_pos rfl], by rw [r44, if_pos rfl, c44, s3, ht]⟩⟩
            · have := g2 v (by omega)
              unfold NodeX Same at this ⊢
              rw [r48, r49, r44, if_neg e, if_neg e, if_neg e, c48, c49, c44]; exact this
          · have e : v ≠ i := by omega
            have := g3 v (by omega) hv8
            unfold Same at this ⊢
            have r : ∀ x y z w, wr (wr (wr (wr C7 48 i x) 49 i y) 44 i z) 46 3 w 48 v = C7 48 v ∧ wr (wr (wr (wr C7 48 i x) 49 i y) 44 i z) 46 3 w 49 v = C7 49 v ∧ wr (wr (wr (wr C7 48 i x) 49 i y) 44 i z) 46 3 w 44 v = C7 44 v := fun x y z w => by simp [wr, e]
            obtain ⟨r1, r2, r3⟩ := r (capF (C7 47) (C 46 5)) (nI (s + 1)) (C7 44 i + nI t) (nI (if len' < s + 1 + 2 * t - 1 then s + 1 + 2 * t - 1 else len'))
            rw [r1, r2, r3, c48, c49, c44]; exact this
          · refine ⟨_, by rw [wr_row]; unfold upd; rw [if_pos rfl], Or.inr ⟨?_, i, hi, z2, ?_⟩⟩
            · rcases w2 with ⟨w, _⟩ | ⟨w, _⟩
              · rw [w]
              · rw [w]; split <;> (try split) <;> omega
            · show wr (wr (wr (wr C7 48 i (capF (C7 47) (C 46 5))) 49 i (nI (s + 1))) 44 i (C7 44 i + nI t)) 46 3 (nI (if len' < s + 1 + 2 * t - 1 then s + 1 + 2 * t - 1 else len')) 48 i ≠ -1
              simp [wr]; exact z3
          · rw [if_neg z1, if_pos z2]
            refine m3 _ (capX _ ?_)
            rw [c46, e5, if_neg z3]
            refine holdX (t := t) (len := len') (h := s + 1) hi8 (by rw [c46, e4]; exact ht) (by rw [c46]; exact w1) ht1 ht4 (by omega) hlb' _ _ h
      · exact ⟨C', keep (fun z => z2 z.2.2), fun t' m h => unf t' m (by rw [if_neg z1, if_neg z2]; exact h)⟩)
    0 200 C (by omega) (by omega) ⟨⟨fun _ _ _ _ _ _ => rfl, fun _ _ => rfl⟩, fun v hv => absurd hv (Nat.not_lt_zero v), fun v _ _ => ⟨rfl, rfl, rfl⟩, len, hl, Or.inl ⟨rfl, fun _ _ => rfl⟩⟩
  refine ⟨C', h1, fun v hv => ?_, h4, fun K hK => ?_⟩
  · rcases Nat.lt_or_ge v n with q | q
    · exact h2 v q
    · exact Or.inr ⟨ns v q, h3 v q hv⟩
  · simp only [fX1_runSlot, jn]
    exact h5 (fun _ C' => K C', K) hK
