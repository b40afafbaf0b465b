theorem isSchedM {N : Nm} {en : Nat → Nat} {j : Nat} (hj : j ≤ 6) (h28 : N.1 66 28 = nI j) (hen : ∀ k, k < j → N.1 84 k = nI (en k) ∧ en k < 6) (s : Nat) (hs : s < 6) (K : Int32 → Prop) : ((∃ k, k < j ∧ en k = s) → K 1 → fX8_isScheduled N (nI s) K) ∧ ((¬ ∃ k, k < j ∧ en k = s) → K 0 → fX8_isScheduled N (nI s) K) := by
  have key : ∀ (d i fu : Nat) (E : Int32 → Int32 → Prop) (fl : Int32), i + d = j → d < fu → ((fl = 1 ∨ fl = 0 ∧ ∃ k, i ≤ k ∧ k < j ∧ en k = s) ∧ E 1 (nI j)) ∨ (fl = 0 ∧ (¬ ∃ k, i ≤ k ∧ k < j ∧ en k = s) ∧ E 0 (nI j)) → fX8_isScheduled_L4 N (nI s) E K fu fl (nI i) := by
    intro d
    induction d with
    | zero =>
      intro i fu E fl hi hf h
      obtain ⟨f, rfl⟩ : ∃ f, fu = f + 1 := ⟨fu - 1, by omega⟩
      obtain rfl : i = j := by omega
      rw [fX8_isScheduled_L4, h28, if_pos (Int32.le_refl _)]
      rcases h with ⟨h | ⟨_, k, h1, h2, _⟩, h3⟩ | ⟨h, _, h3⟩
      · rw [h]; exact h3
      · omega
      · rw [h]; exact h3
    | succ d ih =>
      intro i fu E fl hi hf h
      obtain ⟨f, rfl⟩ : ∃ f, fu = f + 1 := ⟨fu - 1, by omega⟩
      have he := hen i (by omega)
      rw [fX8_isScheduled_L4, h28, if_neg (nI_ge (by omega) (by omega))]
      simp only [jn, bd]
      rw [tn_nI (show i < 2 ^ 31 by omega), nI_1, he.1]
      by_cases z : fl = 0
      · rw [if_pos z]
        refine ⟨inb_nI (by omega) (by omega), ?_⟩
        by_cases y : en i = s
        · rw [if_pos (by rw [y])]
          refine ih (i + 1) f E 1 (by omega) (by omega) (Or.inl ⟨Or.inl rfl, ?_⟩)
          rcases h with ⟨_, h3⟩ | ⟨_, h2, _⟩
          · exact h3
          · exact absurd ⟨i, Nat.le_refl i, by omega, y⟩ h2
        · rw [if_neg (fun q => y (nI_inj (by omega) (by omega) q))]
          refine ih (i + 1) f E 0 (by omega) (by omega) ?_
          rcases h with ⟨h | ⟨_, k, h1, h2, h4⟩, h3⟩ | ⟨_, h2, h3⟩
          · rw [z] at h; exact absurd h (by decide)
          · refine Or.inl ⟨Or.inr ⟨rfl, k, ?_, h2, h4⟩, h3⟩
            rcases Nat.lt_or_ge i k with q | q
            · omega
            · have : k = i := by omega
              rw [this] at h4; exact absurd h4 y
          · exact Or.inr ⟨rfl, fun ⟨k, k1, k2, k3⟩ => h2 ⟨k, by omega, k2, k3⟩, h3⟩
      · rw [if_neg z]
        refine ih (i + 1) f E 1 (by omega) (by omega) (Or.inl ⟨Or.inl rfl, ?_⟩)
        rcases h with ⟨_, h3⟩ | ⟨h1, _⟩
        · exact h3
        · exact absurd h1 z
  refine ⟨fun ⟨k, k1, k2⟩ hK => ?_, fun hno hK => ?_⟩
  · simp only [fX8_isScheduled, jn]
    exact key j 0 200 _ 0 (by omega) (by omega) (Or.inl ⟨Or.inr ⟨rfl, k, Nat.zero_le k, k1, k2⟩, bl_1, hK⟩)
  · simp only [fX8_isScheduled, jn]
    exact key j 0 200 _ 0 (by omega) (by omega) (Or.inr ⟨rfl, fun ⟨k, _, k1, k2⟩ => hno ⟨k, k1, k2⟩, bl_0, hK⟩)
/-- the least candidate that isn't scheduled yet -/
theorem bestM {N : Nm} {en : Nat → Nat} {w : Nat → Nat} {R : Nat → Int32} {j cnt : Nat} (hc : cnt ≤ 6) (hcN : N.1 66 20 = nI cnt) (hj : j ≤ 6) (h28 : N.1 66 28 = nI j) (hen : ∀ k, k < j → N.1 84 k = nI (en k) ∧ en k < 6) (hw : ∀ s, s < cnt → w s ≤ 4 ∧ N.1 80 s = nI (w s)) (hR : ∀ s, s < cnt → 0 < w s → N.1 81 (4 * s) = R s) (p1 : Int32) :
    ∃ best : Int32, ((best = -1 ∧ ∀ s, s < cnt → 0 < w s → ∃ k, k < j ∧ en k = s) ∨ ∃ b, b < cnt ∧ best = nI b ∧ 0 < w b ∧ (¬ ∃ k, k < j ∧ en k = b) ∧ ∀ s, s < cnt → 0 < w s → (¬ ∃ k, k < j ∧ en k = s) → s = b ∨ slt R b s) ∧
      ∀ (E : Int32 → Int32 → Prop) (K : Nm → Prop), E best (nI cnt) → fX8_buildSchedule_L26 N p1 E K 200 (-1) 0 := by
  have key : ∀ (d i fu : Nat) (v : Int32), i + d = cnt → d < fu → ((v = -1 ∧ ∀ s, s < i → 0 < w s → ∃ k, k < j ∧ en k = s) ∨ ∃ b, b < i ∧ v = nI b ∧ 0 < w b ∧ (¬ ∃ k, k < j ∧ en k = b) ∧ ∀ s, s < i → 0 < w s → (¬ ∃ k, k < j ∧ en k = s) → s = b ∨ slt R b s) →
      ∃ best : Int32, ((best = -1 ∧ ∀ s, s < cnt → 0 < w s → ∃ k, k < j ∧ en k = s) ∨ ∃ b, b < cnt ∧ best = nI b ∧ 0 < w b ∧ (¬ ∃ k, k < j ∧ en k = b) ∧ ∀ s, s < cnt → 0 < w s → (¬ ∃ k, k < j ∧ en k = s) → s = b ∨ slt R b s) ∧
      ∀ (E : Int32 → Int32 → Prop) (K : Nm → Prop), E best (nI cnt) → fX8_buildSchedule_L26 N p1 E K fu v (nI i) := by
    intro d
    induction d with
    | zero =>
      intro i fu v hi hf h
      obtain ⟨f, rfl⟩ : ∃ f, fu = f + 1 := ⟨fu - 1, by omega⟩
      obtain rfl : i = cnt := by omega
      refine ⟨v, h, fun E K hE => ?_⟩
      rw [fX8_buildSchedule_L26, hcN, if_pos (Int32.le_refl _)]; exact hE
    | succ d ih =>
      intro i fu v hi hf h
      obtain ⟨f, rfl⟩ : ∃ f, fu = f + 1 := ⟨fu - 1, by omega⟩
      have hwi := hw i (by omega)
      have hsch := fun (K : Int32 → Prop) => isSchedM hj h28 hen i (by omega) K
      have e4 : ∀ s, (4 : Int32) * nI s = nI (4 * s) := fun s => pk_mul 4 s
      have unf : ∀ (E : Int32 → Int32 → Prop) (K : Nm → Prop) (v' : Int32), ((w i = 0 ∨ (∃ k, k < j ∧ en k = i)) ∧ v' = v ∨ (0 < w i ∧ (¬ ∃ k, k < j ∧ en k = i) ∧ ((v = -1 ∧ v' = nI i) ∨ ∃ b, b < 6 ∧ v = nI b ∧ v' = if N.1 81 (4 * b) ≤ N.1 81 (4 * i) then v else nI i))) → fX8_buildSchedule_L26 N p1 E K f v' (nI (i + 1)) → fX8_buildSchedule_L26 N p1 E K (f + 1) v (nI i) := by
        intro E K v' hv hh
        rw [fX8_buildSchedule_L26, hcN, if_neg (nI_ge (by omega) (by omega))]
        simp only [jn, bd]
        rw [tn_nI (show i < 2 ^ 31 by omega), hwi.2, nI_1]
        refine ⟨inb_nI (by omega) (by omega), ?_⟩
        rcases Nat.eq_zero_or_pos (w i) with e0 | e0
        · rw [if_pos (by rw [e0]; decide), if_pos (by trivial)]
          rcases hv with ⟨_, rfl⟩ | ⟨q, _⟩
          · exact hh
          · omega
        · rw [if_neg (nI_nle e0 (by omega))]
          by_cases hx : ∃ k, k < j ∧ en k = i
          · refine (hsch _).1 hx ?_
            rw [if_neg (show ¬ (1 : Int32) = 0 by decide), if_pos (by trivial)]
            rcases hv with ⟨_, rfl⟩ | ⟨_, q, _⟩
            · exact hh
            · exact absurd hx q
          · refine (hsch _).2 hx ?_
            rw [if_pos rfl, if_neg (show ¬ (1 : Int32) = 0 by decide)]
            rcases hv with ⟨q, _⟩ | ⟨_, _, ⟨v1, v2⟩ | ⟨b, b1, b2, b3⟩⟩
            · rcases q with q | q
              · omega
              · exact absurd q hx
            · rw [if_pos v1, ← v2]; exact hh
            · rw [if_neg (show ¬ v = -1 by rw [b2]; exact nI_nm1 (by omega)), b2, e4, e4, tn_nI (show 4 * i < 2 ^ 31 by omega), tn_nI (show 4 * b < 2 ^ 31 by omega)]
              refine ⟨inb_nI (by omega) (by omega), inb_nI (by omega) (by omega), ?_⟩
              by_cases y : N.1 81 (4 * b) ≤ N.1 81 (4 * i)
              · rw [if_pos y] at b3 ⊢; rw [← b2, ← b3]; exact hh
              · rw [if_neg y] at b3 ⊢; rw [← b3]; exact hh
      by_cases hcand : 0 < w i ∧ ¬ ∃ k, k < j ∧ en k = i
      · rcases h with ⟨h1, h2⟩ | ⟨b, b1, b2, b3, b4, b5⟩
        · obtain ⟨best, g1, g2⟩ := ih (i + 1) f (nI i) (by omega) (by omega) (Or.inr ⟨i, by omega, rfl, hcand.1, hcand.2, fun s hs hws hns => by
            by_cases e : s = i
            · exact Or.inl e
            · exact absurd (h2 s (by omega) hws) hns⟩)
          exact ⟨best, g1, fun E K hE => unf E K (nI i) (Or.inr ⟨hcand.1, hcand.2, Or.inl ⟨h1, rfl⟩⟩) (g2 E K hE)⟩
        · have rb := hR b (by omega) b3
          have ri := hR i (by omega) hcand.1
          by_cases y : N.1 81 (4 * b) ≤ N.1 81 (4 * i)
          · obtain ⟨best, g1, g2⟩ := ih (i + 1) f v (by omega) (by omega) (Or.inr ⟨b, by omega, b2, b3, b4, fun s hs hws hns => by
              by_cases e : s = i
              · right
                rw [rb, ri] at y
                rw [e]
                by_cases y2 : R b < R i
                · exact Or.inl y2
                · exact Or.inr ⟨Int32.le_antisymm y (Int32.not_lt.mp y2), b1⟩
              · exact b5 s (by omega) hws hns⟩)
            exact ⟨best, g1, fun E K hE => unf E K v (Or.inr ⟨hcand.1, hcand.2, Or.inr ⟨b, by omega, b2, by rw [if_pos y]⟩⟩) (g2 E K hE)⟩
          · obtain ⟨best, g1, g2⟩ := ih (i + 1) f (nI i) (by omega) (by omega) (Or.inr ⟨i, by omega, rfl, hcand.1, hcand.2, fun s hs hws hns => by
              by_cases e : s = i
              · exact Or.inl e
              · right
                rw [rb, ri] at y
                have hib : slt R i b := Or.inl (Int32.not_le.mp y)
                rcases b5 s (by omega) hws hns with z | z
                · rw [z]; exact hib
                · exact slt_trans hib z⟩)
            exact ⟨best, g1, fun E K hE => unf E K (nI i) (Or.inr ⟨hcand.1, hcand.2, Or.inr ⟨b, by omega, b2, by rw [if_neg y]⟩⟩) (g2 E K hE)⟩
      · have hno : w i = 0 ∨ ∃ k, k < j ∧ en k = i := by
          rcases Nat.eq_zero_or_pos (w i) with q | q
          · exact Or.inl q
          · right
            apply Classical.byContradiction
            exact fun z => hcand ⟨q, z⟩
        obtain ⟨best, g1, g2⟩ := ih (i + 1) f v (by omega) (by omega) (by
          rcases h with ⟨h1, h2⟩ | ⟨b, b1, b2, b3, b4, b5⟩
          · refine Or.inl ⟨h1, fun s hs hws => ?_⟩
            by_cases e : s = i
            · rw [e] at hws ⊢
              rcases hno with q | q
              · omega
              · exact q
            · exact h2 s (by omega) hws
          · refine Or.inr ⟨b, by omega, b2, b3, b4, fun s hs hws hns => ?_⟩
            by_cases e : s = i
            · rw [e] at hws hns
              exact absurd ⟨hws, hns⟩ hcand
            · exact b5 s (by omega) hws hns)
        exact ⟨best, g1, fun E K hE => unf E K v (Or.inl ⟨hno, rfl⟩) (g2 E K hE)⟩
  exact key cnt 0 200 (-1) (by omega) (by omega) (Or.inl ⟨rfl, fun s hs => absurd hs (Nat.not_lt_zero s)⟩)
/-- the reference's schedule is the head of the sorted candidates -/
theorem buildM {N : Nm} {R : Nat → Int32} {w en : Nat → Nat} {cnt lim z : Nat} (hc : cnt ≤ 6) (hlim : lim ≤ 6) (hcN : N.1 66 20 = nI cnt) (hl : N.1 66 18 = nI lim) (hw : ∀ s, s < cnt → w s ≤ 4 ∧ N.1 80 s = nI (w s)) (hR : ∀ s, s < cnt → 0 < w s → N.1 81 (4 * s) = R s) (hz : z ≤ cnt) (hs : Sorted R (fun s => 0 < w s) en z cnt) :
    ∃ N', (∀ a, a ≠ 66 → a ≠ 84 → N'.1 a = N.1 a) ∧ (∀ b, b ≠ 28 → N'.1 66 b = N.1 66 b) ∧ N'.1 66 28 = nI (if lim < z then lim else z) ∧ (∀ k, k < (if lim < z then lim else z) → N'.1 84 k = nI (en k)) ∧ ∀ K, K N' → fX8_buildSchedule N K := by
  have hdist : ∀ a b, a < z → b < z → en a = en b → a = b := fun a b ha hb e => by
    rcases Nat.lt_trichotomy a b with q | q | q
    · have := hs.2.1 a b q hb; rw [e] at this; exact (slt_asym this this).elim
    · exact q
    · have := hs.2.1 b a q ha; rw [e] at this; exact (slt_asym this this).elim
  have key : ∀ (d j fu : Nat) (N1 : Nm), j + d = (if lim < z then lim else z) → d + 1 < fu → (∀ a, a ≠ 66 → a ≠ 84 → N1.1 a = N.1 a) → (∀ b, b ≠ 28 → N1.1 66 b = N.1 66 b) → N1.1 66 28 = nI j → (∀ k, k < j → N1.1 84 k = nI (en k)) →
      ∃ N' v, (∀ a, a ≠ 66 → a ≠ 84 → N'.1 a = N.1 a) ∧ (∀ b, b ≠ 28 → N'.1 66 b = N.1 66 b) ∧ N'.1 66 28 = nI (if lim < z then lim else z) ∧ (∀ k, k < (if lim < z then lim else z) → N'.1 84 k = nI (en k)) ∧ ∀ (E : Int32 → Nm → Prop) (K : Nm → Prop), E v N' → fX8_buildSchedule_L7 E K fu 1 N1 := by
    intro d
    induction d with
    | zero =>
      intro j fu N1 hj hf h1 h2 h3 h4
      obtain ⟨f, rfl⟩ : ∃ f, fu = f + 1 := ⟨fu - 1, by omega⟩
      have hj : j = (if lim < z then lim else z) := by omega
      by_cases q : lim ≤ j
      · refine ⟨N1, 1, h1, h2, by rw [h3, hj], fun k hk => h4 k (by omega), fun E K hE => ?_⟩
        rw [fX8_buildSchedule_L7, if_neg (show ¬ (1 : Int32) = 0 by decide), h2 18 (by decide), hl, h3, if_pos (nI_le q (by split at hj <;> omega))]; exact hE
      · have hjz : j = z := by split at hj <;> omega
        obtain ⟨best, g1, g2⟩ := bestM (N := N1) (en := en) (w := w) (R := R) (j := j) (cnt := cnt) hc (by rw [h2 20 (by decide)]; exact hcN) (by omega) h3 (fun k hk => ⟨h4 k hk, by have := (hs.1 k (by omega)).1; omega⟩) (fun s hs' => by rw [h1 80 (by decide) (by decide)]; exact hw s hs') (fun s hs' hws => by rw [h1 81 (by decide) (by decide)]; exact hR s hs' hws) 1
        have hb : best = -1 := by
          rcases g1 with ⟨q, _⟩ | ⟨b, b1, b2, b3, b4, _⟩
          · exact q
          · obtain ⟨k, k1, k2⟩ := hs.2.2 b b1 b3
            exact absurd ⟨k, by omega, k2⟩ b4
        refine ⟨N1, 0, h1, h2, by rw [h3, hj], fun k hk => h4 k (by omega), fun E K hE => ?_⟩
        rw [fX8_buildSchedule_L7, if_neg (show ¬ (1 : Int32) = 0 by decide), h2 18 (by decide), hl, h3, if_neg (nI_ge (show j < lim by omega) (by omega))]
        simp only [jn, bd]
        refine g2 _ K ?_
        rw [hb, if_pos rfl, if_pos (by trivial)]
        obtain ⟨f, rfl⟩ : ∃ f', f = f' + 1 := ⟨f - 1, by omega⟩
        rw [fX8_buildSchedule_L7, if_pos rfl]; exact hE
    | succ d ih =>
      intro j fu N1 hj hf h1 h2 h3 h4
      obtain ⟨f, rfl⟩ : ∃ f, fu = f + 1 := ⟨fu - 1, by omega⟩
      have hjl : j < lim ∧ j < z := by split at hj <;> omega
      obtain ⟨best, g1, g2⟩ := bestM (N := N1) (en := en) (w := w) (R := R) (j := j) (cnt := cnt) hc (by rw [h2 20 (by decide)]; exact hcN) (by omega) h3 (fun k hk => ⟨h4 k hk, by have := (hs.1 k (by omega)).1; omega⟩) (fun s hs' => by rw [h1 80 (by decide) (by decide)]; exact hw s hs') (fun s hs' hws => by rw [h1 81 (by decide) (by decide)]; exact hR s hs' hws) 1
      have hej := hs.1 j hjl.2
      have hnj : ¬ ∃ k, k < j ∧ en k = en j := fun ⟨k, k1, k2⟩ => by have := hdist k j (by omega) hjl.2 k2; omega
      have hb : best = nI (en j) := by
        rcases g1 with ⟨_, q⟩ | ⟨b, b1, b2, b3, b4, b5⟩
        · exact absurd (q (en j) hej.1 hej.2) hnj
        · obtain ⟨k, k1, k2⟩ := hs.2.2 b b1 b3
          have hkj : j ≤ k := by
            rcases Nat.lt_or_ge k j with q | q
            · exact absurd ⟨k, q, k2⟩ b4
            · exact q
          rcases Nat.lt_or_ge j k with q | q
          · have s1 := hs.2.1 j k q k1
            rw [k2] at s1
            rcases b5 (en j) hej.1 hej.2 hnj with y | y
            · rw [y] at s1; exact (slt_asym s1 s1).elim
            · exact (slt_asym s1 y).elim
          · have : k = j := by omega
            rw [b2, ← k2, this]
      obtain ⟨N', v, k1, k2, k3, k4, k5⟩ := ih (j + 1) f (wrN (wrN N1 84 j (nI (en j))) 66 28 (nI (j + 1))) (by omega) (by omega) (fun a a1 a2 => by
        funext b; simp only [wrN, a1, a2, false_and, if_false]; rw [h1 a a1 a2]) (fun b hb => by
        have q1 : ¬ (66 = 84 ∧ b = j) := by omega
        show (if 66 = 66 ∧ b = 28 then nI (j + 1) else if 66 = 84 ∧ b = j then nI (en j) else N1.1 66 b) = N.1 66 b
        rw [if_neg (by omega), if_neg q1]; exact h2 b hb) (by simp [wrN]) (fun k hk => by
        show (if 84 = 66 ∧ k = 28 then nI (j + 1) else if 84 = 84 ∧ k = j then nI (en j) else N1.1 84 k) = nI (en k)
        rw [if_neg (by omega)]
        by_cases e : k = j
        · rw [if_pos ⟨rfl, e⟩, e]
        · rw [if_neg (by omega)]; exact h4 k (by omega))
      refine ⟨N', v, k1, k2, k3, k4, fun E K hE => ?_⟩
      rw [fX8_buildSchedule_L7, if_neg (show ¬ (1 : Int32) = 0 by decide), h2 18 (by decide), hl, h3, if_neg (nI_ge hjl.1 (by omega))]
      simp only [jn, bd]
      refine g2 _ K ?_
      rw [hb, if_neg (nI_nm1 (show en j ≤ 1000 by omega)), if_neg (show ¬ (1 : Int32) = 0 by decide), tn_nI (show j < 2 ^ 31 by omega)]
      refine ⟨inb_nI (by omega) (by omega), ?_⟩
      have e1 : (wrN N1 84 j (nI (en j))).1 66 28 + 1 = nI (j + 1) := by show N1.1 66 28 + 1 = _; rw [h3]; exact nI_1 j
      rw [e1]
      exact k5 E K hE
  have hz6 : (if lim < z then lim else z) ≤ 6 := by split <;> omega
  obtain ⟨N', v, k1, k2, k3, k4, k5⟩ := key (if lim < z then lim else z) 0 200 (wrN N 66 28 0) (by omega) (by omega) (fun a a1 a2 => by funext b; simp only [wrN, a1, false_and, if_false]) (fun b hb => by simp only [wrN, hb, and_false, if_false]) (by simp [wrN]; rfl) (fun k hk => absurd hk (Nat.not_lt_zero k))
  refine ⟨N', k1, k2, k3, k4, fun K hK => ?_⟩
  simp only [fX8_buildSchedule, jn, bd]
  exact k5 _ K hK
