/-! PART 13: the parser -/
theorem dgx : ∀ c, c < 127 → (48 ≤ c → nI c - 48 = nI (c - 48)) ∧ (32 ≤ c → c < 48 → nI c - 48 < 0) := by decide +kernel
/-- the digit that the reference reads -/
def dg (c : Nat) : Int32 := if 48 ≤ c ∧ c ≤ 57 then nI (c - 48) else -1
theorem le_of_lts {a : Nat} (ha : a < 1000) {x : Int32} (h : x < nI (a + 1)) : x ≤ nI a := by
  rw [Int32.lt_iff_toInt_lt, nI_toInt (by omega)] at h
  rw [Int32.le_iff_toInt_le, nI_toInt (by omega)]; omega
theorem nle_of_ge {a : Nat} (ha : a < 1000) {x : Int32} (h : nI (a + 1) ≤ x) : ¬ x ≤ nI a := by
  rw [Int32.le_iff_toInt_le, nI_toInt (by omega)] at h
  rw [Int32.le_iff_toInt_le, nI_toInt (by omega)]; omega
theorem dg_split {c lo h : Nat} (h1 : 32 ≤ c) (h2 : c ≤ 126) (hh : h ≤ 10) (hl : lo ≤ 10) :
    (∃ d, lo ≤ d ∧ d < h ∧ nI c - 48 = nI d ∧ dg c = nI d) ∨ ((nI c - 48 < nI lo ∨ nI h ≤ nI c - 48) ∧ (dg c < nI lo ∨ (h ≤ 9 ∧ nI h ≤ dg c))) := by
  have hx := dgx c (by omega)
  have hm1 : (-1 : Int32) < nI lo := by rw [Int32.lt_iff_toInt_lt, nI_toInt (by omega)]; exact Int.lt_of_lt_of_le (show Int32.toInt (-1) < 0 by decide) (by omega)
  by_cases q : 48 ≤ c
  · have e := hx.1 q
    by_cases q2 : c ≤ 57
    · have ed : dg c = nI (c - 48) := by unfold dg; rw [if_pos ⟨q, q2⟩]
      by_cases q3 : lo ≤ c - 48
      · by_cases q4 : c - 48 < h
        · exact Or.inl ⟨c - 48, q3, q4, e, ed⟩
        · refine Or.inr ⟨Or.inr ?_, Or.inr ⟨by omega, ?_⟩⟩
          · rw [e]; exact (nI_leI (by omega) (by omega)).mpr (by omega)
          · rw [ed]; exact (nI_leI (by omega) (by omega)).mpr (by omega)
      · refine Or.inr ⟨Or.inl ?_, Or.inl ?_⟩
        · rw [e]; exact nI_lt (by omega) (by omega)
        · rw [ed]; exact nI_lt (by omega) (by omega)
    · have ed : dg c = -1 := by unfold dg; rw [if_neg (fun z => q2 z.2)]
      refine Or.inr ⟨Or.inr ?_, Or.inl (by rw [ed]; exact hm1)⟩
      rw [e]; exact (nI_leI (by omega) (by omega)).mpr (by omega)
  · have ed : dg c = -1 := by unfold dg; rw [if_neg (fun z => q z.1)]
    refine Or.inr ⟨Or.inl ?_, Or.inl (by rw [ed]; exact hm1)⟩
    have := hx.2 h1 (by omega)
    rw [Int32.lt_iff_toInt_lt] at this ⊢
    rw [nI_toInt (by omega)]
    exact Int.lt_of_lt_of_le this (by show (0 : Int) ≤ _; omega)
theorem dgj {c : Nat} (h1 : 32 ≤ c) (h2 : c ≤ 126) (B : Int32 → Prop) (h : B (dg c)) : jn (α := Int32 → Prop) B (fun j9 => if (if nI c < 48 then (0 : Int32) else if 57 < nI c then 0 else 1) = 0 then j9 (-1) else j9 (nI c - 48)) := by
  simp only [jn]
  unfold dg at h
  by_cases q : 48 ≤ c
  · by_cases q2 : c ≤ 57
    · rw [if_pos ⟨q, q2⟩] at h
      rw [if_neg (show ¬ nI c < 48 from nI_nlt (b := 48) q (by omega)), if_neg (show ¬ (57 : Int32) < nI c from nI_nlt (a := 57) q2 (by omega)), if_neg (by decide), (dgx c (by omega)).1 q]; exact h
    · rw [if_neg (fun z => q2 z.2)] at h
      rw [if_neg (show ¬ nI c < 48 from nI_nlt (b := 48) q (by omega)), if_pos (show (57 : Int32) < nI c from nI_lt (a := 57) (by omega) (by omega)), if_pos rfl]; exact h
  · rw [if_neg (fun z => q z.1)] at h
    rw [if_pos (show nI c < 48 from nI_lt (b := 48) (by omega) (by omega)), if_pos rfl]; exact h
theorem LM.zero {n : Nat} {st ls : Nat → Nat → Int32} {A B S P : Nat → Int32} (h : ∀ i j, i < 8 → j < 8 → st i j = 0 ∧ ls i j = 0) : LM n st ls A B S P 0 :=
  ⟨fun k hk => absurd hk (Nat.not_lt_zero k), fun k _ hk => absurd hk (Nat.not_lt_zero k), fun i j hi hj _ => h i j hi hj⟩
theorem LM.push {n L a b s : Nat} {st ls st' : Nat → Nat → Int32} {A B S P A' B' S' P' : Nat → Int32} (h : LM n st ls A B S P L) (hn : n ≤ 8) (hab : a < b) (hb : b < n) (s1 : 1 ≤ s) (s9 : s ≤ 9) (hL : L < 12) (hnew : ∀ k, k < L → ¬ (A k = nI a ∧ B k = nI b))
    (e1 : st' a b = nI s) (e2 : st' b a = nI s) (e3 : ∀ i j, ¬ (i = a ∧ j = b) → ¬ (i = b ∧ j = a) → st' i j = st i j) (hA : A' L = nI a ∧ B' L = nI b ∧ S' L = nI s ∧ P' L = 0) (hold : ∀ k, k < L → A' k = A k ∧ B' k = B k ∧ S' k = S k ∧ P' k = P k) : LM n st' ls A' B' S' P' (L + 1) := by
  obtain ⟨h1, h2, h3⟩ := h
  have hsw : ∀ k, k < L → ¬ (A k = nI b ∧ B k = nI a) := fun k hk q => by
    obtain ⟨a', b', s', p', g1, g2, g3, g4, g5, g6, g7, g8, _⟩ := h1 k hk
    have z1 := nI_inj (by omega) (by omega) (g7.symm.trans q.1)
    have z2 := nI_inj (by omega) (by omega) (g8.symm.trans q.2)
    omega
  refine ⟨fun k hk => ?_, fun k k' hk hk' qa qb => ?_, fun i j hi hj hh => ?_⟩
  · by_cases e : k = L
    · subst e
      obtain ⟨z1, z2⟩ := h3 a b (by omega) (by omega) (fun k hk => ⟨hnew k hk, hsw k hk⟩)
      obtain ⟨z3, z4⟩ := h3 b a (by omega) (by omega) (fun k hk => ⟨hsw k hk, hnew k hk⟩)
      exact ⟨a, b, s, 0, hab, hb, s1, s9, by omega, by omega, hA.1, hA.2.1, hA.2.2.1, hA.2.2.2, e1, e2, z2, z4⟩
    · obtain ⟨a', b', s', p', g1, g2, g3, g4, g5, g6, g7, g8, g9, g10, g11, g12, g13, g14⟩ := h1 k (by omega)
      obtain ⟨o1, o2, o3, o4⟩ := hold k (by omega)
      have hne : ¬ (a' = a ∧ b' = b) := fun q => hnew k (by omega) ⟨by rw [g7, q.1], by rw [g8, q.2]⟩
      exact ⟨a', b', s', p', g1, g2, g3, g4, g5, g6, o1.trans g7, o2.trans g8, o3.trans g9, o4.trans g10, by rw [e3 a' b' hne (by omega)]; exact g11, by rw [e3 b' a' (by omega) (by omega)]; exact g12, g13, g14⟩
  · by_cases e : k = L
    · by_cases e' : k' = L
      · omega
      · exfalso
        obtain ⟨o1, o2, _⟩ := hold k' (by omega)
        rw [e] at qa qb
        exact hnew k' (by omega) ⟨by rw [← o1, ← qa]; exact hA.1, by rw [← o2, ← qb]; exact hA.2.1⟩
    · by_cases e' : k' = L
      · exfalso
        obtain ⟨o1, o2, _⟩ := hold k (by omega)
        rw [e'] at qa qb
        exact hnew k (by omega) ⟨by rw [← o1, qa]; exact hA.1, by rw [← o2, qb]; exact hA.2.1⟩
      · obtain ⟨o1, o2, _⟩ := hold k (by omega)
        obtain ⟨o1', o2', _⟩ := hold k' (by omega)
        exact h2 k k' (by omega) (by omega) (by rw [← o1, ← o1']; exact qa) (by rw [← o2, ← o2']; exact qb)
  · obtain ⟨z1, z2⟩ := hh L (by omega)
    rw [hA.1, hA.2.1] at z1 z2
    rw [e3 i j (fun q => z1 ⟨by rw [q.1], by rw [q.2]⟩) (fun q => z2 ⟨by rw [q.2], by rw [q.1]⟩)]
    refine h3 i j hi hj (fun k hk => ?_)
    obtain ⟨o1, o2, _⟩ := hold k (by omega)
    have := hh k (by omega)
    rw [o1, o2] at this; exact this
theorem LM.loss {n L a b p : Nat} {st ls ls' : Nat → Nat → Int32} {A B S P P' : Nat → Int32} (h : LM n st ls A B S P (L + 1)) (hn : n ≤ 8) (hab : a < b) (hb : b < n) (hA : A L = nI a) (hB : B L = nI b) (p2 : 2 ≤ p) (p9 : p ≤ 9)
    (e1 : ls' a b = nI p) (e2 : ls' b a = nI p) (e3 : ∀ i j, ¬ (i = a ∧ j = b) → ¬ (i = b ∧ j = a) → ls' i j = ls i j) (hP : P' L = nI p) (hold : ∀ k, k < L → P' k = P k) : LM n st ls' A B S P' (L + 1) := by
  obtain ⟨h1, h2, h3⟩ := h
  refine ⟨fun k hk => ?_, h2, fun i j hi hj hh => ?_⟩
  · obtain ⟨a', b', s', p', g1, g2, g3, g4, g5, g6, g7, g8, g9, g10, g11, g12, g13, g14⟩ := h1 k hk
    by_cases e : k = L
    · subst e
      have z1 := nI_inj (by omega) (by omega) (g7.symm.trans hA)
      have z2 := nI_inj (by omega) (by omega) (g8.symm.trans hB)
      subst z1; subst z2
      exact ⟨a', b', s', p, g1, g2, g3, g4, p9, by omega, g7, g8, g9, hP, g11, g12, e1, e2⟩
    · have hne : ¬ (a' = a ∧ b' = b) := fun q => e (h2 k L hk (by omega) (by rw [g7, hA, q.1]) (by rw [g8, hB, q.2]))
      exact ⟨a', b', s', p', g1, g2, g3, g4, g5, g6, g7, g8, g9, (hold k (by omega)).trans g10, g11, g12, by rw [e3 a' b' hne (by omega)]; exact g13, by rw [e3 b' a' (by omega) (by omega)]; exact g14⟩
  · obtain ⟨z1, z2⟩ := hh L (by omega)
    rw [hA, hB] at z1 z2
    rw [e3 i j (fun q => z1 ⟨by rw [q.1], by rw [q.2]⟩) (fun q => z2 ⟨by rw [q.2], by rw [q.1]⟩)]
    exact h3 i j hi hj hh
