/-! the schedule -/
/-- the order of candidates: by the round of the oldest packet, then by index -/
def slt (R : Nat → Int32) (a b : Nat) : Prop := R a < R b ∨ (R a = R b ∧ a < b)
theorem slt_asym {R : Nat → Int32} {a b : Nat} (h : slt R a b) (h' : slt R b a) : False := by
  rcases h with h | ⟨h, h2⟩
  · rcases h' with h' | ⟨h', _⟩
    · exact Int32.lt_irrefl (Int32.lt_trans h h')
    · rw [h'] at h; exact Int32.lt_irrefl h
  · rcases h' with h' | ⟨h', h3⟩
    · rw [h] at h'; exact Int32.lt_irrefl h'
    · omega
theorem slt_trans {R : Nat → Int32} {a b c : Nat} (h : slt R a b) (h' : slt R b c) : slt R a c := by
  unfold slt at h h' ⊢
  rcases h with h | ⟨h, h2⟩
  · left
    rcases h' with h' | ⟨h', _⟩
    · exact Int32.lt_trans h h'
    · rw [← h']; exact h
  · rcases h' with h' | ⟨h', h3⟩
    · left; rw [h]; exact h'
    · right; exact ⟨h.trans h', by omega⟩
/-- the first z entries en are the candidates below i, in order -/
def Sorted (R : Nat → Int32) (cd : Nat → Prop) (en : Nat → Nat) (z i : Nat) : Prop :=
  (∀ k, k < z → en k < i ∧ cd (en k)) ∧ (∀ a b, a < b → b < z → slt R (en a) (en b)) ∧ ∀ s, s < i → cd s → ∃ k, k < z ∧ en k = s
theorem insertX {C : Xm} {π : Nat → Nat} {R : Nat → Int32} {cd : Nat → Prop} {en : Nat → Nat} {z i : Nat} (hz : C 64 1 = nI z) (hzi : z ≤ i) (hi : i < 6) (hπ : ∀ i, i < 6 → π i < 6 ∧ C 51 i = nI (π i)) (hen : ∀ k, k < z → C 65 k = nI (en k)) (hs : Sorted R cd en z i) (hR : ∀ s, s ≤ i → cd s → C (53 + 2 * π s) 0 = R s) (hci : cd i) :
    ∃ C' en', (∀ a, a ≠ 64 → a ≠ 65 → C' a = C a) ∧ C' 64 1 = nI (z + 1) ∧ (∀ k, k < z + 1 → C' 65 k = nI (en' k)) ∧ Sorted R cd en' (z + 1) (i + 1) ∧ ∀ K, K C' → fX4_insert C (nI i) K := by
  have hp := hπ i hi
  -- the loop: the entries above the place move up
  have key : ∀ (p : Nat) (C1 : Xm) (fu : Nat), p ≤ z → p < fu → (∀ a, a ≠ 65 → C1 a = C a) → (∀ k, k < p → C1 65 k = nI (en k)) → (∀ k, p < k → k ≤ z → C1 65 k = nI (en (k - 1))) → (∀ k, p ≤ k → k < z → R i < R (en k)) →
      ∃ (C2 : Xm) (q : Nat), q ≤ z ∧ (∀ a, a ≠ 65 → C2 a = C a) ∧ (∀ k, k < q → C2 65 k = nI (en k)) ∧ (∀ k, q < k → k ≤ z → C2 65 k = nI (en (k - 1))) ∧ (∀ k, q ≤ k → k < z → R i < R (en k)) ∧ (q = 0 ∨ R (en (q - 1)) ≤ R i) ∧ ∀ E K, E (nI q) C2 → fX4_insert_L16 (nI i) (R i) E K fu (nI p) C1 := by
    intro p
    induction p with
    | zero =>
      intro C1 fu h1 h2 h3 h4 h5 h6
      obtain ⟨f, rfl⟩ : ∃ f, fu = f + 1 := ⟨fu - 1, by omega⟩
      refine ⟨C1, 0, h1, h3, h4, h5, h6, Or.inl rfl, fun E K hE => ?_⟩
      rw [fX4_insert_L16, if_pos (show nI 0 ≤ 0 by decide)]; exact hE
    | succ p ih =>
      intro C1 fu h1 h2 h3 h4 h5 h6
      obtain ⟨f, rfl⟩ : ∃ f, fu = f + 1 := ⟨fu - 1, by omega⟩
      obtain ⟨e1, e2⟩ := hs.1 p (by omega)
      have hpe := hπ (en p) (by omega)
      have hro : C1 (53 + 2 * π (en p)) 0 = R (en p) := by rw [h3 _ (by omega)]; exact hR (en p) (by omega) e2
      have unf : ∀ (E : Int32 → Xm → Prop) (K : Xm → Prop), (if R (en p) ≤ R i then E (nI (p + 1)) C1 else fX4_insert_L16 (nI i) (R i) E K f (nI p) (wr C1 65 (p + 1) (nI (en p)))) → fX4_insert_L16 (nI i) (R i) E K (f + 1) (nI (p + 1)) C1 := by
        intro E K hh
        rw [fX4_insert_L16, if_neg (show ¬ nI (p + 1) ≤ 0 from nI_nle (by omega) (by omega)), nI_pred]
        simp only [bd, fX5_oldestRound]
        rw [tn_nI (show p < 2 ^ 31 by omega), h4 p (by omega), tn_nI (show en p < 2 ^ 31 by omega), h3 51 (by decide), hpe.2, tn_nI (show π (en p) < 2 ^ 31 by omega), sb_cl0, hro, tn_nI (show p + 1 < 2 ^ 31 by omega)]
        have e3 : nI (p + 1) + (-1) = nI p := pk_m1 p
        rw [e3]
        refine ⟨inb_nI (by omega) (by omega), inb_nI (by omega) (by omega), hpe.1, by decide, ?_⟩
        by_cases w : R (en p) ≤ R i
        · rw [if_pos w] at hh ⊢; exact hh
        · rw [if_neg w] at hh ⊢; exact ⟨inb_nI (by omega) (by omega), inb_nI (by omega) (by omega), hh⟩
      by_cases w : R (en p) ≤ R i
      · refine ⟨C1, p + 1, h1, h3, h4, h5, h6, Or.inr w, fun E K hE => unf E K ?_⟩
        rw [if_pos w]; exact hE
      · obtain ⟨C2, q, g1, g2, g3, g4, g5, g6, g7⟩ := ih (wr C1 65 (p + 1) (nI (en p))) f (by omega) (by omega) (fun a ha => (wr_off ha).trans (h3 a ha)) (fun k hk => by rw [wr_row]; unfold upd; rw [if_neg (by omega)]; exact h4 k (by omega)) (fun k k1 k2 => by
          rw [wr_row]; unfold upd
          by_cases e : k = p + 1
          · rw [if_pos e, e]; rfl
          · rw [if_neg e]; exact h5 k (by omega) k2) (fun k k1 k2 => by
          by_cases e : k = p
          · rw [e]; exact Int32.not_le.mp w
          · exact h6 k (by omega) k2)
        refine ⟨C2, q, g1, g2, g3, g4, g5, g6, fun E K hE => unf E K ?_⟩
        rw [if_neg w]; exact g7 E K hE
  obtain ⟨C2, q, g1, g2, g3, g4, g5, g6, g7⟩ := key z C 200 (Nat.le_refl z) (by omega) (fun _ _ => rfl) hen (fun k k1 k2 => by omega) (fun k k1 k2 => by omega)
  have hbelow : ∀ k, k < q → slt R (en k) i := fun k hk => by
    have h1 : R (en (q - 1)) ≤ R i := by
      rcases g6 with w | w
      · omega
      · exact w
    have h2 : R (en k) ≤ R (en (q - 1)) := by
      by_cases e : k = q - 1
      · rw [e]; exact Int32.le_refl _
      · rcases hs.2.1 k (q - 1) (by omega) (by omega) with w | ⟨w, _⟩
        · exact Int32.le_of_lt w
        · rw [w]; exact Int32.le_refl _
    have h3 := (hs.1 k (by omega)).1
    unfold slt
    by_cases w : R (en k) < R i
    · exact Or.inl w
    · exact Or.inr ⟨Int32.le_antisymm (Int32.le_trans h2 h1) (Int32.not_lt.mp w), h3⟩
  refine ⟨wr (wr C2 65 q (nI i)) 64 1 (nI (z + 1)), fun k => if k < q then en k else if k = q then i else en (k - 1), fun a a1 a2 => by rw [wr_off a1, wr_off a2, g2 a a2], by rw [wr_row]; rfl, fun k hk => ?_, ⟨fun k hk => ?_, fun a b hab hb => ?_, fun s hsi hcs => ?_⟩, fun K hK => ?_⟩
  · show wr (wr C2 65 q (nI i)) 64 1 (nI (z + 1)) 65 k = nI (if k < q then en k else if k = q then i else en (k - 1))
    rw [wr_off (by decide), wr_row]; unfold upd
    by_cases e1 : k < q
    · rw [if_neg (by omega), if_pos e1]; exact g3 k e1
    · rw [if_neg e1]
      by_cases e2 : k = q
      · rw [if_pos e2, if_pos e2]
      · rw [if_neg e2, if_neg e2]; exact g4 k (by omega) (by omega)
  · show (if k < q then en k else if k = q then i else en (k - 1)) < i + 1 ∧ cd (if k < q then en k else if k = q then i else en (k - 1))
    by_cases e1 : k < q
    · rw [if_pos e1]; have := hs.1 k (by omega); exact ⟨by omega, this.2⟩
    · rw [if_neg e1]
      by_cases e2 : k = q
      · rw [if_pos e2]; exact ⟨by omega, hci⟩
      · rw [if_neg e2]; have := hs.1 (k - 1) (by omega); exact ⟨by omega, this.2⟩
  · show slt R (if a < q then en a else if a = q then i else en (a - 1)) (if b < q then en b else if b = q then i else en (b - 1))
    by_cases a1 : a < q
    · rw [if_pos a1]
      by_cases b1 : b < q
      · rw [if_pos b1]; exact hs.2.1 a b hab (by omega)
      · rw [if_neg b1]
        by_cases b2 : b = q
        · rw [if_pos b2]; exact hbelow a a1
        · rw [if_neg b2]; exact hs.2.1 a (b - 1) (by omega) (by omega)
    · rw [if_neg a1, if_neg (show ¬ b < q by omega), if_neg (show ¬ b = q by omega)]
      by_cases a2 : a = q
      · rw [if_pos a2]; exact Or.inl (g5 (b - 1) (by omega) (by omega))
      · rw [if_neg a2]; exact hs.2.1 (a - 1) (b - 1) (by omega) (by omega)
  · by_cases e : s = i
    · exact ⟨q, by omega, by show (if q < q then en q else if q = q then i else en (q - 1)) = s; rw [if_neg (by omega), if_pos rfl, e]⟩
    · obtain ⟨k, k1, k2⟩ := hs.2.2 s (by omega) hcs
      by_cases w : k < q
      · exact ⟨k, by omega, by show (if k < q then en k else _) = s; rw [if_pos w]; exact k2⟩
      · exact ⟨k + 1, by omega, by show (if k + 1 < q then en (k + 1) else if k + 1 = q then i else en (k + 1 - 1)) = s; rw [if_neg (by omega), if_neg (by omega)]; exact k2⟩
  · simp only [fX4_insert, fX5_oldestRound, jn, bd]
    have hro : C (53 + 2 * π i) 0 = R i := hR i (Nat.le_refl i) hci
    rw [tn_nI (show i < 2 ^ 31 by omega), hp.2, tn_nI (show π i < 2 ^ 31 by omega), sb_cl0, hro, hz]
    refine ⟨inb_nI hi (by omega), hp.1, by decide, g7 _ K ?_⟩
    rw [tn_nI (show q < 2 ^ 31 by omega)]
    have e1 : wr C2 65 q (nI i) 64 1 + 1 = nI (z + 1) := by rw [wr_off (by decide), g2 64 (by decide), hz]; exact nI_1 z
    rw [e1]
    exact ⟨inb_nI (by omega) (by omega), hK⟩
/-- the class's schedule -/
theorem buildX {C : Xm} {π : Nat → Nat} {R : Nat → Int32} {w : Nat → Nat} {cnt lim : Nat} (hc : cnt ≤ 6) (hlim : lim ≤ 6) (hcC : C 50 1 = nI cnt) (hπ : ∀ i, i < 6 → π i < 6 ∧ C 51 i = nI (π i)) (hw : ∀ s, s < cnt → w s ≤ 4 ∧ C (52 + 2 * π s) 4 = nI (w s)) (hR : ∀ s, s < cnt → 0 < w s → C (53 + 2 * π s) 0 = R s) :
    ∃ C' en z, (∀ a, a ≠ 64 → a ≠ 65 → C' a = C a) ∧ C' 64 1 = nI (if lim < z then lim else z) ∧ z ≤ cnt ∧ (∀ k, k < z → C' 65 k = nI (en k)) ∧ Sorted R (fun s => 0 < w s) en z cnt ∧ ∀ K, K C' → fX4_build C (nI lim) K := by
  obtain ⟨C1, ⟨z, en, h1, h2, h3, h4, h5⟩, h6⟩ := ex_loop (F := fun (t : (Int32 → Xm → Prop) × (Xm → Prop)) m i C' => fX4_build_L7 (nI lim) t.1 t.2 m (nI i) C') (X := fun t C' => t.1 (nI cnt) C')
    (I := fun i C' => ∃ z en, z ≤ i ∧ (∀ a, a ≠ 64 → a ≠ 65 → C' a = C a) ∧ C' 64 1 = nI z ∧ (∀ k, k < z → C' 65 k = nI (en k)) ∧ Sorted R (fun s => 0 < w s) en z i) cnt
    (fun t m C' hI h => by
      obtain ⟨z, en, g0, g1, _⟩ := hI
      rw [fX4_build_L7, g1 50 (by decide) (by decide), hcC, if_pos (Int32.le_refl _)]; exact h)
    (fun i C' hi hI => by
      obtain ⟨z, en, g0, g1, g2, g3, g4⟩ := hI
      have hi6 : i < 6 := by omega
      have hp := hπ i hi6
      have hlt : ¬ C' 50 1 ≤ nI i := by rw [g1 50 (by decide) (by decide), hcC]; exact nI_ge hi (by omega)
      have hwi := hw i hi
      have unf : ∀ (t : (Int32 → Xm → Prop) × (Xm → Prop)) (m : Nat), (if nI (w i) ≤ 0 then fX4_build_L7 (nI lim) t.1 t.2 m (nI (i + 1)) C' else fX4_insert C' (nI i) (fun C7 => fX4_build_L7 (nI lim) t.1 t.2 m (nI (i + 1)) C7)) → fX4_build_L7 (nI lim) t.1 t.2 (m + 1) (nI i) C' := by
        intro t m hh
        rw [fX4_build_L7, if_neg hlt]
        simp only [jn, bd]
        rw [tn_nI (show i < 2 ^ 31 by omega), g1 51 (by decide) (by decide), hp.2, tn_nI (show π i < 2 ^ 31 by omega), g1 (52 + 2 * π i) (by omega) (by omega), hwi.2, nI_1]
        exact ⟨inb_nI hi6 (by omega), hp.1, hh⟩
      rcases Nat.eq_zero_or_pos (w i) with e | e
      · refine ⟨C', ⟨z, en, by omega, g1, g2, g3, fun k hk => ⟨by have := (g4.1 k hk).1; omega, (g4.1 k hk).2⟩, g4.2.1, fun s hs hcs => ?_⟩, fun t m h => unf t m ?_⟩
        · by_cases e2 : s = i
          · rw [e2] at hcs; have hcs : 0 < w i := hcs; omega
          · exact g4.2.2 s (by omega) hcs
        · rw [if_pos (by rw [e]; decide)]; exact h
      · obtain ⟨C2, en', k1, k2, k3, k4, k5⟩ := insertX (C := C') (π := π) (R := R) (cd := fun s => 0 < w s) (en := en) (z := z) (i := i) g2 g0 hi6 (fun j hj => by rw [g1 51 (by decide) (by decide)]; exact hπ j hj) g3 g4 (fun s hs hcs => by
          have hps := (hπ s (by omega)).1
          rw [g1 (53 + 2 * π s) (by omega) (by omega)]; exact hR s (by omega) hcs) e
        refine ⟨C2, ⟨z + 1, en', by omega, fun a a1 a2 => (k1 a a1 a2).trans (g1 a a1 a2), k2, k3, k4⟩, fun t m h => unf t m ?_⟩
        rw [if_neg (nI_nle e (by omega))]
        exact k5 _ h)
    0 200 (wr C 64 1 0) (by omega) (by omega) ⟨0, fun _ => 0, Nat.le_refl 0, fun a a1 _ => wr_off a1, by rw [wr_row]; rfl, fun k hk => absurd hk (Nat.not_lt_zero k), fun k hk => absurd hk (Nat.not_lt_zero k), fun a b _ hb => absurd hb (Nat.not_lt_zero b), fun s hs => absurd hs (Nat.not_lt_zero s)⟩
  refine ⟨wr C1 64 1 (nI (if lim < z then lim else z)), en, z, fun a a1 a2 => (wr_off a1).trans (h2 a a1 a2), by rw [wr_row]; rfl, h1, fun k hk => by rw [wr_off (by decide)]; exact h4 k hk, h5, fun K hK => ?_⟩
  simp only [fX4_build, jn, bd]
  refine h6 (fun _ C12 => _, K) ?_
  show K (wr C1 64 1 (if nI lim < C1 64 1 then nI lim else C1 64 1))
  rw [h3]
  have e : (if nI lim < nI z then nI lim else nI z) = nI (if lim < z then lim else z) := by
    by_cases q : lim < z
    · rw [if_pos q, if_pos (nI_lt q (by omega))]
    · rw [if_neg q, if_neg (nI_nlt (by omega) (by omega))]
  rw [e]; exact hK
