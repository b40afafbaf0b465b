/-! PART 12: rounds. Streams one by one -/
def RSp (n : Nat) (π : Nat → Nat) (cnt : Nat) (C : Xm) (N : Nm) : Prop :=
  cnt ≤ 6 ∧ C 50 1 = nI cnt ∧ N.1 66 20 = nI cnt ∧ (∀ i, i < 6 → π i < 6 ∧ C 51 i = nI (π i)) ∧ (∀ i j, i < 6 → j < 6 → π i = π j → i = j) ∧ ∀ i, i < cnt → RS1 n (C (52 + 2 * π i)) (C (53 + 2 * π i)) i (N.1 77) (N.1 78) (N.1 79) (N.1 80) (N.1 81) (N.1 82) (N.1 83)
theorem RSp.upd {n : Nat} {π : Nat → Nat} {cnt : Nat} {C C' : Xm} {N N' : Nm} (h : RSp n π cnt C N) {i : Nat} (hi : i < cnt) (x : ∀ a, 50 ≤ a → a < 64 → a ≠ 52 + 2 * π i → a ≠ 53 + 2 * π i → C' a = C a) (m20 : N'.1 66 20 = N.1 66 20)
    (mc : ∀ a j, (a = 77 ∨ a = 78 ∨ a = 79 ∨ a = 80 ∨ a = 82 ∨ a = 83) → j ≠ i → N'.1 a j = N.1 a j) (mg : ∀ b, ¬ (4 * i ≤ b ∧ b < 4 * i + 4) → N'.1 81 b = N.1 81 b)
    (h1 : RS1 n (C' (52 + 2 * π i)) (C' (53 + 2 * π i)) i (N'.1 77) (N'.1 78) (N'.1 79) (N'.1 80) (N'.1 81) (N'.1 82) (N'.1 83)) : RSp n π cnt C' N' := by
  obtain ⟨a1, a2, a3, a4, a5, a6⟩ := h
  refine ⟨a1, by rw [x 50 (by omega) (by omega) (by omega) (by omega)]; exact a2, by rw [m20]; exact a3, fun j hj => by rw [x 51 (by omega) (by omega) (by omega) (by omega)]; exact a4 j hj, a5, fun j hj => ?_⟩
  by_cases e : j = i
  · subst e; exact h1
  · have hne : π j ≠ π i := fun z => e (a5 j i (by omega) (by omega) z)
    have hp := (a4 j (by omega)).1
    rw [x (52 + 2 * π j) (by omega) (by omega) (by omega) (by omega), x (53 + 2 * π j) (by omega) (by omega) (by omega) (by omega)]
    have hold := a6 j hj
    unfold RS1 at hold ⊢
    rw [mc 77 j (by omega) e, mc 78 j (by omega) e, mc 79 j (by omega) e, mc 80 j (by omega) e, mc 82 j (by omega) e, mc 83 j (by omega) e]
    obtain ⟨o1, o2, o3, o4, o5, o6, o7, o8, o9, w, ow1, ow2, ow3⟩ := hold
    exact ⟨o1, o2, o3, o4, o5, o6, o7, o8, o9, w, ow1, ow2, fun k hk => by rw [mg (4 * j + k) (by omega)]; exact ow3 k hk⟩
/-- Rel with its numbers named -/
def RelP (n : Nat) (π : Nat → Nat) (cnt : Nat) (C : Xm) (N : Nm) : Prop :=
  RB (C 1 1) (C 2) (N.1 66 0) (N.1 67) ∧ RT 1 4 (C 46 4) (N.1 66 16) ∧ RT 1 9 (C 46 5) (N.1 66 17) ∧ RT 0 6 (C 0 5) (N.1 66 18) ∧ RT 1 9 (C 0 6) (N.1 66 19) ∧ RT 0 9999 (C 0 8) (N.1 66 15) ∧
  n ≤ 8 ∧ C 22 1 = nI n ∧ N.1 66 2 = nI n ∧ RO n (C 0 7) (N.1 66 14) ∧ RN n (C 42) (C 43) (C 44) (N.1 72) (N.1 75) (N.1 76) ∧ RF n (C 46 3) (C 48) (C 49) (N.1 66 13) (N.1 73) (N.1 74) ∧ RLk n C (N.1 66 3) (N.1 68) (N.1 69) (N.1 70) (N.1 71) ∧
  RSp n π cnt C N ∧ RC (N.1 66 20) (C 64 1) (C 65) (N.1 66 28) (N.1 84)
theorem Rel.opn {C : Xm} {N : Nm} (h : Rel C N) : ∃ n π cnt, RelP n π cnt C N := by
  obtain ⟨hb, ht, hm, hs, hk, hrd, n, hn, hC, hM, hO, hN, hF0, hL, ⟨π, cnt, h1, h2, h3, h4, h5, h6⟩, hR⟩ := h
  exact ⟨n, π, cnt, hb, ht, hm, hs, hk, hrd, hn, hC, hM, hO, hN, hF0, hL, ⟨h1, h2, h3, h4, h5, h6⟩, hR⟩
theorem RelP.close {n : Nat} {π : Nat → Nat} {cnt : Nat} {C : Xm} {N : Nm} (h : RelP n π cnt C N) : Rel C N := by
  obtain ⟨hb, ht, hm, hs, hk, hrd, hn, hC, hM, hO, hN, hF0, hL, ⟨h1, h2, h3, h4, h5, h6⟩, hR⟩ := h
  exact ⟨hb, ht, hm, hs, hk, hrd, n, hn, hC, hM, hO, hN, hF0, hL, ⟨π, cnt, h1, h2, h3, h4, h5, h6⟩, hR⟩
/-- one stream's object and columns change, nothing else -/
theorem RelP.st1 {n : Nat} {π : Nat → Nat} {cnt : Nat} {C C' : Xm} {N N' : Nm} (h : RelP n π cnt C N) {i : Nat} (hi : i < cnt) (x : ∀ a, a ≠ 52 + 2 * π i → a ≠ 53 + 2 * π i → C' a = C a)
    (m : ∀ a, a < 77 ∨ a = 84 → N'.1 a = N.1 a) (mc : ∀ a j, (a = 77 ∨ a = 78 ∨ a = 79 ∨ a = 80 ∨ a = 82 ∨ a = 83) → j ≠ i → N'.1 a j = N.1 a j) (mg : ∀ b, ¬ (4 * i ≤ b ∧ b < 4 * i + 4) → N'.1 81 b = N.1 81 b)
    (h1 : RS1 n (C' (52 + 2 * π i)) (C' (53 + 2 * π i)) i (N'.1 77) (N'.1 78) (N'.1 79) (N'.1 80) (N'.1 81) (N'.1 82) (N'.1 83)) : RelP n π cnt C' N' := by
  obtain ⟨hb, ht, hm, hs, hk, hrd, hn, hC, hM, hO, hN, hF0, hL, hS, hR⟩ := h
  have hp := (hS.2.2.2.1 i (by have := hS.1; omega)).1
  have hS' := hS.upd (N' := N') hi (fun a _ _ z1 z2 => x a z1 z2) (by rw [m 66 (by omega)]) mc mg h1
  unfold RelP
  rw [x 0 (by omega) (by omega), x 1 (by omega) (by omega), x 2 (by omega) (by omega), x 22 (by omega) (by omega), x 42 (by omega) (by omega), x 43 (by omega) (by omega), x 44 (by omega) (by omega), x 46 (by omega) (by omega), x 48 (by omega) (by omega), x 49 (by omega) (by omega), x 64 (by omega) (by omega), x 65 (by omega) (by omega)]
  rw [m 66 (by omega), m 67 (by omega), m 68 (by omega), m 69 (by omega), m 70 (by omega), m 71 (by omega), m 72 (by omega), m 73 (by omega), m 74 (by omega), m 75 (by omega), m 76 (by omega), m 84 (by omega)]
  exact ⟨hb, ht, hm, hs, hk, hrd, hn, hC, hM, hO, hN, hF0, hL.off hn (fun a a1 a2 => x a (by omega) (by omega)), hS', hR⟩
theorem gen1 {n : Nat} {π : Nat → Nat} {cnt : Nat} {C : Xm} {N : Nm} (h : RelP n π cnt C N) {i : Nat} (hi : i < cnt) :
    ∃ C' N', RelP n π cnt C' N' ∧ C' 0 = C 0 ∧ (∀ a, a < 77 → N'.1 a = N.1 a) ∧ (∀ K, K C' → fX5_generate C (nI (π i)) (C 0 8) K) ∧ ∀ E K m, fX8_generate_L2 E K m (nI (i + 1)) N' → fX8_generate_L2 E K (m + 1) (nI i) N := by
  have h0 := h
  obtain ⟨hb, ht, hm, hs, hk, ⟨hrd, rr, rr0, rr1, rr2⟩, hn, hC, hM, hO, hN, hF0, hL, ⟨s1, s2, s3, s4, s5, s6⟩, hR⟩ := h
  have hp := (s4 i (by omega)).1
  have hold := s6 i hi
  obtain ⟨o1, o2, o3, o4, o5, o6, o7, ⟨pe, pe1, pe2, pe3⟩, ⟨st, st1, st2⟩, w, ow1, ow2, ow3⟩ := hold
  have hbi := inb_nI (show i < 6 by omega) (show 6 < 2 ^ 31 by omega)
  have hlt : ¬ N.1 66 20 ≤ nI i := by rw [s3]; exact nI_ge hi (by omega)
  have hpe : ¬ C (52 + 2 * π i) 2 < 1 := by rw [pe3]; exact nI_nlt (b := 1) pe1 (by omega)
  have hpe0 : ¬ C (52 + 2 * π i) 2 = 0 := by rw [pe3]; exact nI_ne0 (by omega) (by omega)
  have mstep : ∀ (N' : Nm) (E : Int32 → Nm → Prop) (K : Nm → Prop) (m : Nat), (if N.1 66 15 < N.1 79 i then fX8_generate_L2 E K m (nI (i + 1)) N else if irm (N.1 66 15 - N.1 79 i) (N.1 78 i) = 0 then (if N.1 80 i = 4 then fX8_generate_L2 E K m (nI (i + 1)) (wrN N 83 i (N.1 83 i + 1)) else fX8_generate_L2 E K m (nI (i + 1)) (wrN (wrN N 81 (4 * i + w) (N.1 66 15)) 80 i (nI (w + 1)))) else fX8_generate_L2 E K m (nI (i + 1)) N) → fX8_generate_L2 E K (m + 1) (nI i) N := by
    intro _ E K m hh
    rw [fX8_generate_L2, if_neg hlt]
    simp only [jn, bd]
    rw [tn_nI (show i < 2 ^ 31 by omega), nI_1]
    refine ⟨hbi, ?_⟩
    by_cases z1 : N.1 66 15 < N.1 79 i
    · rw [if_pos z1] at hh ⊢; exact hh
    · rw [if_neg z1] at hh ⊢
      refine ⟨hbi, hbi, by rw [← o2]; exact hpe0, ?_⟩
      by_cases z2 : irm (N.1 66 15 - N.1 79 i) (N.1 78 i) = 0
      · rw [if_pos z2] at hh ⊢
        refine ⟨hbi, ?_⟩
        by_cases z3 : N.1 80 i = 4
        · rw [if_pos z3] at hh ⊢; exact ⟨hbi, hbi, hh⟩
        · rw [if_neg z3] at hh ⊢
          have e0 : N.1 80 i = nI w := by rw [← o4]; exact ow2
          have hw4 : w < 4 := by
            rcases Nat.lt_or_ge w 4 with q | q
            · exact q
            · have : w = 4 := by omega
              rw [e0, this] at z3; exact absurd rfl z3
          have e1 : (4 : Int32) * nI i + N.1 80 i = nI (4 * i + w) := by
            have a1 : (4 : Int32) * nI i = nI (4 * i) := pk_mul 4 i
            rw [a1, e0, nI_add]
          rw [e1, tn_nI (show 4 * i + w < 2 ^ 31 by omega)]
          have e2 : (wrN N 81 (4 * i + w) (N.1 66 15)).1 80 i + 1 = nI (w + 1) := by show N.1 80 i + 1 = _; rw [e0]; exact nI_1 w
          rw [e2]
          exact ⟨hbi, inb_nI (by omega) (by omega), hbi, hbi, hh⟩
      · rw [if_neg z2] at hh ⊢; exact hh
  have xnone : ∀ K : Xm → Prop, (C 0 8 < C (52 + 2 * π i) 3 ∨ ¬ irm (C 0 8 - C (52 + 2 * π i) 3) (C (52 + 2 * π i) 2) = 0) → K C → fX5_generate C (nI (π i)) (C 0 8) K := by
    intro K hz hK
    simp only [fX5_generate, jn, bd]
    rw [tn_nI (show π i < 2 ^ 31 by omega)]
    by_cases z1 : C 0 8 < C (52 + 2 * π i) 3
    · rw [if_pos z1]; exact hK
    · rw [if_neg z1, if_neg hpe]
      refine ⟨hpe0, ?_⟩
      rcases hz with z | z
      · exact absurd z z1
      · rw [if_neg z]; exact hK
  by_cases z1 : C 0 8 < C (52 + 2 * π i) 3
  · refine ⟨C, N, h0, rfl, fun _ _ => rfl, fun K hK => xnone K (Or.inl z1) hK, fun E K m hh => mstep N E K m ?_⟩
    rw [if_pos (by rw [← hrd, ← o3]; exact z1)]; exact hh
  have z1' : ¬ N.1 66 15 < N.1 79 i := by rw [← hrd, ← o3]; exact z1
  by_cases z2 : irm (C 0 8 - C (52 + 2 * π i) 3) (C (52 + 2 * π i) 2) = 0
  · have z2' : irm (N.1 66 15 - N.1 79 i) (N.1 78 i) = 0 := by rw [← hrd, ← o3, ← o2]; exact z2
    by_cases z3 : w = 4
    · have z3' : N.1 80 i = 4 := by rw [← o4, ow2, z3]; rfl
      have z3x : ¬ C (52 + 2 * π i) 4 < 4 := by rw [ow2, z3]; decide
      refine ⟨wr C (52 + 2 * π i) 6 (C (52 + 2 * π i) 6 + 1), wrN N 83 i (N.1 83 i + 1), h0.st1 hi (fun a a1 a2 => wr_off a1) (fun a ha => ?_) (fun a j ha hj => ?_) (fun b _ => rfl) ?_, wr_off (by omega), fun a ha => ?_, fun K hK => ?_, fun E K m hh => mstep N E K m ?_⟩
      · funext b; have : ¬ a = 83 := by omega
        simp only [wrN, this, false_and, if_false]
      · simp only [wrN, hj, and_false, if_false]
      · have r : ∀ k, k ≠ 6 → wr C (52 + 2 * π i) 6 (C (52 + 2 * π i) 6 + 1) (52 + 2 * π i) k = C (52 + 2 * π i) k := fun k hk => by simp [wr, hk]
        have r6 : wr C (52 + 2 * π i) 6 (C (52 + 2 * π i) 6 + 1) (52 + 2 * π i) 6 = C (52 + 2 * π i) 6 + 1 := by simp [wr]
        unfold RS1
        rw [r 1 (by decide), r 2 (by decide), r 3 (by decide), r 4 (by decide), r 5 (by decide), r6, wr_off (show 53 + 2 * π i ≠ 52 + 2 * π i by omega)]
        refine ⟨o1, o2, o3, o4, o5, ?_, o7, ⟨pe, pe1, pe2, pe3⟩, ⟨st, st1, st2⟩, w, ow1, ow2, ow3⟩
        show _ = (wrN N 83 i (N.1 83 i + 1)).1 83 i
        simp [wrN, o6]
      · funext b; have : ¬ a = 83 := by omega
        simp only [wrN, this, false_and, if_false]
      · simp only [fX5_generate, jn, bd]
        rw [tn_nI (show π i < 2 ^ 31 by omega), if_neg z1, if_neg hpe, if_pos z2, if_neg z3x]
        exact ⟨hpe0, hK⟩
      · rw [if_neg z1', if_pos z2', if_pos z3']; exact hh
    · have hw4 : w < 4 := by omega
      have z3' : ¬ N.1 80 i = 4 := by rw [← o4, ow2]; exact fun z => z3 (nI_inj (b := 4) (by omega) (by omega) z)
      have z3x : C (52 + 2 * π i) 4 < 4 := by rw [ow2]; exact nI_lt (b := 4) hw4 (by omega)
      refine ⟨wr (wr C (53 + 2 * π i) w (C 0 8)) (52 + 2 * π i) 4 (nI (w + 1)), wrN (wrN N 81 (4 * i + w) (N.1 66 15)) 80 i (nI (w + 1)), h0.st1 hi (fun a a1 a2 => (wr_off a1).trans (wr_off a2)) (fun a ha => ?_) (fun a j ha hj => ?_) (fun b hb => ?_) ?_, (wr_off (by omega)).trans (wr_off (by omega)), fun a ha => ?_, fun K hK => ?_, fun E K m hh => mstep N E K m ?_⟩
      · funext b; have h1 : ¬ a = 80 := by omega
        have h2 : ¬ a = 81 := by omega
        simp only [wrN, h1, h2, false_and, if_false]
      · have h2 : ¬ a = 81 := by omega
        simp only [wrN, hj, h2, and_false, false_and, if_false]
      · have h2 : ¬ b = 4 * i + w := by omega
        simp [wrN, h2]
      · have r : ∀ k, k ≠ 4 → wr (wr C (53 + 2 * π i) w (C 0 8)) (52 + 2 * π i) 4 (nI (w + 1)) (52 + 2 * π i) k = C (52 + 2 * π i) k := fun k hk => by
          rw [wr_row]; unfold upd; rw [if_neg hk, wr_off (by omega)]
        have r4 : wr (wr C (53 + 2 * π i) w (C 0 8)) (52 + 2 * π i) 4 (nI (w + 1)) (52 + 2 * π i) 4 = nI (w + 1) := by rw [wr_row]; unfold upd; rw [if_pos rfl]
        unfold RS1
        rw [r 1 (by decide), r 2 (by decide), r 3 (by decide), r4, r 5 (by decide), r 6 (by decide), wr_off (show 53 + 2 * π i ≠ 52 + 2 * π i by omega)]
        refine ⟨o1, o2, o3, ?_, o5, o6, o7, ⟨pe, pe1, pe2, pe3⟩, ⟨st, st1, st2⟩, w + 1, by omega, rfl, fun j hj => ?_⟩
        · simp [wrN]
        · rw [wr_row]; unfold upd
          by_cases e : j = w
          · rw [if_pos e, e]; simp [wrN, hrd]
          · rw [if_neg e]; simp [wrN, e]; exact ow3 j (by omega)
      · funext b; have h1 : ¬ a = 80 := by omega
        have h2 : ¬ a = 81 := by omega
        simp only [wrN, h1, h2, false_and, if_false]
      · simp only [fX5_generate, jn, bd]
        rw [tn_nI (show π i < 2 ^ 31 by omega), if_neg z1, if_neg hpe, if_pos z2, if_pos z3x, ow2, tn_nI (show w < 2 ^ 31 by omega)]
        have e2 : wr C (53 + 2 * π i) w (C 0 8) (52 + 2 * π i) 4 + 1 = nI (w + 1) := by rw [wr_off (by omega), ow2]; exact nI_1 w
        rw [e2]
        exact ⟨hpe0, inb_nI hw4 (by omega), hK⟩
      · rw [if_neg z1', if_pos z2', if_neg z3']; exact hh
  · have z2' : ¬ irm (N.1 66 15 - N.1 79 i) (N.1 78 i) = 0 := by rw [← hrd, ← o3, ← o2]; exact z2
    refine ⟨C, N, h0, rfl, fun _ _ => rfl, fun K hK => xnone K (Or.inr z2) hK, fun E K m hh => mstep N E K m ?_⟩
    rw [if_neg z1', if_neg z2']; exact hh
theorem genB {n : Nat} {π : Nat → Nat} {cnt : Nat} {C : Xm} {N : Nm} (h : RelP n π cnt C N) :
    ∃ C' N', RelP n π cnt C' N' ∧ C' 0 = C 0 ∧ (∀ a, a < 77 → N'.1 a = N.1 a) ∧ (∀ K, K C' → fX6_generate C (C 0 8) K) ∧ ∀ K, K N' → fX8_generate N K := by
  have key : ∀ (d i : Nat) (C1 : Xm) (N1 : Nm), i + d = cnt → RelP n π cnt C1 N1 → C1 0 = C 0 → (∀ a, a < 77 → N1.1 a = N.1 a) → ∃ C' N', RelP n π cnt C' N' ∧ C' 0 = C 0 ∧ (∀ a, a < 77 → N'.1 a = N.1 a) ∧ (∀ E K m, d < m → E (nI cnt) C' → fX6_generate_L2 (C 0 8) E K m (nI i) C1) ∧ ∀ E K m, d < m → E (nI cnt) N' → fX8_generate_L2 E K m (nI i) N1 := by
    intro d
    induction d with
    | zero =>
      intro i C1 N1 hi h1 h2 h3
      obtain rfl : i = cnt := by omega
      have hS := h1.2.2.2.2.2.2.2.2.2.2.2.2.2.1
      refine ⟨C1, N1, h1, h2, h3, fun E K m hm hE => ?_, fun E K m hm hE => ?_⟩
      · obtain ⟨f, rfl⟩ : ∃ f, m = f + 1 := ⟨m - 1, by omega⟩
        rw [fX6_generate_L2, hS.2.1, if_pos (Int32.le_refl _)]; exact hE
      · obtain ⟨f, rfl⟩ : ∃ f, m = f + 1 := ⟨m - 1, by omega⟩
        rw [fX8_generate_L2, hS.2.2.1, if_pos (Int32.le_refl _)]; exact hE
    | succ d ih =>
      intro i C1 N1 hi h1 h2 h3
      have hS := h1.2.2.2.2.2.2.2.2.2.2.2.2.2.1
      obtain ⟨C2, N2, g1, g2, g3, g4, g5⟩ := gen1 h1 (show i < cnt by omega)
      obtain ⟨C', N', k1, k2, k3, k4, k5⟩ := ih (i + 1) C2 N2 (by omega) g1 (g2.trans h2) (fun a ha => (g3 a ha).trans (h3 a ha))
      refine ⟨C', N', k1, k2, k3, fun E K m hm hE => ?_, fun E K m hm hE => ?_⟩
      · obtain ⟨f, rfl⟩ : ∃ f, m = f + 1 := ⟨m - 1, by omega⟩
        have hp := hS.2.2.2.1 i (by have := hS.1; omega)
        rw [fX6_generate_L2, hS.2.1, if_neg (nI_ge (show i < cnt by omega) (by have := hS.1; omega))]
        simp only [bd]
        rw [tn_nI (show i < 2 ^ 31 by have := hS.1; omega), hp.2, tn_nI (show π i < 2 ^ 31 by omega), nI_1]
        refine ⟨inb_nI (by have := hS.1; omega) (by omega), hp.1, ?_⟩
        rw [← h2]
        refine g4 _ ?_
        rw [h2]
        exact k4 E K f (by omega) hE
      · obtain ⟨f, rfl⟩ : ∃ f, m = f + 1 := ⟨m - 1, by omega⟩
        exact g5 E K f (k5 E K f (by omega) hE)
  have hS := h.2.2.2.2.2.2.2.2.2.2.2.2.2.1
  obtain ⟨C', N', k1, k2, k3, k4, k5⟩ := key cnt 0 C N (by omega) h rfl (fun _ _ => rfl)
  refine ⟨C', N', k1, k2, k3, fun K hK => ?_, fun K hK => ?_⟩
  · simp only [fX6_generate, jn]; exact k4 _ K 200 (by have := hS.1; omega) hK
  · simp only [fX8_generate, jn]; exact k5 _ K 200 (by have := hS.1; omega) hK
