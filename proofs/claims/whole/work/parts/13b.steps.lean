def jf (A B : Nat → Int32) (p1 p2 : Int32) : Nat → Int32
  | 0 => 0
  | i + 1 => if jf A B p1 p2 i = 0 then (if A i = p1 then (if B i = p2 then 1 else 0) else 0) else 1
theorem jf_01 (A B : Nat → Int32) (p1 p2 : Int32) : ∀ i, jf A B p1 p2 i = 0 ∨ jf A B p1 p2 i = 1 := by
  intro i
  induction i with
  | zero => left; rfl
  | succ i ih => rw [jf]; split <;> (try split) <;> (try split) <;> simp
theorem jf_0 (A B : Nat → Int32) (p1 p2 : Int32) : ∀ i, jf A B p1 p2 i = 0 ↔ ∀ k, k < i → ¬ (A k = p1 ∧ B k = p2) := by
  intro i
  induction i with
  | zero => exact ⟨fun _ k hk => absurd hk (Nat.not_lt_zero k), fun _ => rfl⟩
  | succ i ih =>
    rw [jf]
    by_cases z : jf A B p1 p2 i = 0
    · have zz := ih.mp z
      rw [if_pos z]
      by_cases z1 : A i = p1
      · rw [if_pos z1]
        by_cases z2 : B i = p2
        · rw [if_pos z2]; exact ⟨fun q => absurd q (by decide), fun q => absurd ⟨z1, z2⟩ (q i (by omega))⟩
        · rw [if_neg z2]
          refine ⟨fun _ k hk q => ?_, fun _ => rfl⟩
          by_cases e : k = i
          · subst e; exact z2 q.2
          · exact zz k (by omega) q
      · rw [if_neg z1]
        refine ⟨fun _ k hk q => ?_, fun _ => rfl⟩
        by_cases e : k = i
        · subst e; exact z1 q.1
        · exact zz k (by omega) q
    · rw [if_neg z]
      exact ⟨fun q => absurd q (by decide), fun q => absurd (ih.mpr (fun k hk => q k (by omega))) z⟩
theorem joinM {N : Nm} {L : Nat} (hL : L ≤ 12) (h31 : N.1 66 31 = nI L) (p1 p2 : Int32) (K : Int32 → Prop) (hK : K (jf (N.1 85) (N.1 86) p1 p2 L)) : fX8_isJoined N p1 p2 K := by
  have key : ∀ (d i : Nat) (E : Int32 → Int32 → Prop) (m : Nat), i + d = L → d < m → E (jf (N.1 85) (N.1 86) p1 p2 L) (nI L) → fX8_isJoined_L5 N p1 p2 E K m (jf (N.1 85) (N.1 86) p1 p2 i) (nI i) := by
    intro d
    induction d with
    | zero =>
      intro i E m hi hm hE
      obtain rfl : i = L := by omega
      obtain ⟨f, rfl⟩ : ∃ f, m = f + 1 := ⟨m - 1, by omega⟩
      rw [fX8_isJoined_L5, h31, if_pos (Int32.le_refl _)]; exact hE
    | succ d ih =>
      intro i E m hi hm hE
      obtain ⟨f, rfl⟩ : ∃ f, m = f + 1 := ⟨m - 1, by omega⟩
      have hb := inb_nI (show i < 12 by omega) (show 12 < 2 ^ 31 by omega)
      have hh := ih (i + 1) E f (by omega) (by omega) hE
      rw [jf] at hh
      rw [fX8_isJoined_L5, h31, if_neg (nI_ge (show i < L by omega) (by omega))]
      simp only [jn, bd]
      rw [tn_nI (show i < 2 ^ 31 by omega), nI_1]
      by_cases z : jf (N.1 85) (N.1 86) p1 p2 i = 0
      · rw [if_pos z] at hh ⊢
        refine ⟨hb, ?_⟩
        by_cases z1 : N.1 85 i = p1
        · rw [if_pos z1] at hh ⊢
          refine ⟨hb, ?_⟩
          by_cases z2 : N.1 86 i = p2
          · rw [if_pos z2] at hh ⊢; exact hh
          · rw [if_neg z2] at hh ⊢; exact hh
        · rw [if_neg z1] at hh ⊢; exact hh
      · rw [if_neg z] at hh ⊢; exact hh
  simp only [fX8_isJoined, jn]
  refine key L 0 _ 200 (by omega) (by omega) ⟨?_, hK⟩
  rcases jf_01 (N.1 85) (N.1 86) p1 p2 L with q | q <;> rw [q] <;> decide
/-- both parsers at one place of the text -/
def PB (i : Nat) (st : Int32) (n L lc : Nat) (C : Xm) (N : Nm) : Prop :=
  N.1 66 36 = nI i ∧ C 1 5 = st ∧ n ≤ 8 ∧ L ≤ 12 ∧ N.1 66 31 = nI L ∧ C 1 4 = nI lc ∧ LM n (fun i j => C (5 + i) j) (fun i j => C (14 + i) j) (N.1 85) (N.1 86) (N.1 87) (N.1 88) L
def PN (n : Nat) (C : Xm) (N : Nm) : Prop := 2 ≤ n ∧ C 1 3 = nI n ∧ N.1 66 30 = nI n
def PI (i : Nat) (st v2 v3 : Int32) (C : Xm) (N : Nm) : Prop :=
  (st = 0 ∧ PB i 0 8 0 0 C N) ∨ (st = 1 ∧ ∃ n L, PB i 1 n L L C N ∧ PN n C N) ∨ (st = 2 ∧ ∃ n L, L < 12 ∧ PB i 2 n L (L + 1) C N ∧ PN n C N) ∨
  (st = 3 ∧ ∃ n L a, L < 12 ∧ PB i 3 n L (L + 1) C N ∧ PN n C N ∧ C 1 6 = nI a ∧ a < n ∧ v2 = nI a) ∨
  (st = 4 ∧ ∃ n L a b, L < 12 ∧ PB i 4 n L (L + 1) C N ∧ PN n C N ∧ C 1 6 = nI a ∧ C 1 7 = nI b ∧ a < b ∧ b < n ∧ v2 = nI a ∧ v3 = nI b ∧ ∀ k, k < L → ¬ (N.1 85 k = nI a ∧ N.1 86 k = nI b)) ∨
  (st = 5 ∧ ∃ n L a b, PB i 5 n (L + 1) (L + 1) C N ∧ PN n C N ∧ C 1 6 = nI a ∧ C 1 7 = nI b ∧ a < b ∧ b < n ∧ N.1 85 L = nI a ∧ N.1 86 L = nI b)
def PFx (C C' : Xm) : Prop := (∀ a, a ≠ 1 → ¬ (5 ≤ a ∧ a < 22) → C' a = C a) ∧ C' 1 1 = C 1 1
def PFn (N N' : Nm) : Prop := (∀ a, a ≠ 66 → ¬ (85 ≤ a ∧ a < 89) → N'.1 a = N.1 a) ∧ ∀ b, ¬ (30 ≤ b ∧ b < 38) → N'.1 66 b = N.1 66 b
/-- one character: taken on both sides, or refused on both -/
def PStp (i : Nat) (st v2 v3 : Int32) (c : Nat) (C : Xm) (N : Nm) : Prop :=
  (∃ st' v2' v3' C' N', PI (i + 1) st' v2' v3' C' N' ∧ PFx C C' ∧ PFn N N' ∧ (∀ K, K 1 C' → fX0_accepts C (nI c) K) ∧ ∀ E K m, fX8_parse_L24 E K m st' v2' v3' 1 N' → fX8_parse_L24 E K (m + 1) st v2 v3 1 N) ∨
  ∃ w1 w2 w3 N', PFn N N' ∧ N'.1 66 36 = nI i ∧ (∀ K, K 0 C → fX0_accepts C (nI c) K) ∧ ∀ E K m, fX8_parse_L24 E K m w1 w2 w3 0 N' → fX8_parse_L24 E K (m + 1) st v2 v3 1 N
theorem PFn.w6 (N : Nm) {b : Nat} (hb : 30 ≤ b ∧ b < 38) (x : Int32) : PFn N (wrN N 66 b x) := by
  refine ⟨fun a a1 _ => ?_, fun b' hb' => ?_⟩
  · funext q; simp only [wrN, a1, false_and, if_false]
  · have : ¬ b' = b := by omega
    simp only [wrN, this, and_false, if_false]
theorem PFn.w8 (N : Nm) {a k : Nat} (ha : 85 ≤ a ∧ a < 89) (x : Int32) : PFn N (wrN N a k x) := by
  refine ⟨fun a' a1 a2 => ?_, fun b' hb' => ?_⟩
  · have : ¬ a' = a := by omega
    funext q; simp only [wrN, this, false_and, if_false]
  · have : ¬ 66 = a := by omega
    simp only [wrN, this, false_and, if_false]
theorem PFn.trans {N N' N'' : Nm} (h : PFn N N') (h' : PFn N' N'') : PFn N N'' := ⟨fun a a1 a2 => (h'.1 a a1 a2).trans (h.1 a a1 a2), fun b hb => (h'.2 b hb).trans (h.2 b hb)⟩
theorem PFx.w1 (C : Xm) {k : Nat} (hk : k ≠ 1) (x : Int32) : PFx C (wr C 1 k x) := ⟨fun a a1 _ => wr_off a1, by simp [wr, Ne.symm hk]⟩
theorem PFx.w5 (C : Xm) {a k : Nat} (ha : 5 ≤ a ∧ a < 22) (x : Int32) : PFx C (wr C a k x) := ⟨fun a' a1 a2 => wr_off (by omega), by rw [wr_off (by omega)]⟩
theorem PFx.trans {C C' C'' : Xm} (h : PFx C C') (h' : PFx C' C'') : PFx C C'' := ⟨fun a a1 a2 => (h'.1 a a1 a2).trans (h.1 a a1 a2), h'.2.trans h.2⟩
theorem wr1_row {C : Xm} {k : Nat} {x : Int32} (i : Nat) : (wr C 1 k x) (5 + i) = C (5 + i) ∧ (wr C 1 k x) (14 + i) = C (14 + i) := ⟨wr_off (by omega), wr_off (by omega)⟩
theorem st0 {i c len : Nat} {v2 v3 : Int32} {C : Xm} {N : Nm} (hp : PI i 0 v2 v3 C N) (hi : i < len) (hl : len ≤ 61) (h66 : N.1 66 0 = nI len) (hc : N.1 67 i = nI c) (c1 : 32 ≤ c) (c2 : c ≤ 126) : PStp i 0 v2 v3 c C N := by
  obtain ⟨_, h36, h5, hn, hL, h31, h4, hLM⟩ : (0 : Int32) = 0 ∧ PB i 0 8 0 0 C N := by
    rcases hp with q | q | q | q | q | q
    · exact q
    all_goals exact absurd q.1 (by decide)
  have hpos : ¬ N.1 66 0 ≤ N.1 66 36 := by rw [h66, h36]; exact nI_ge hi (by omega)
  have hbi := inb_nI (show i < 61 by omega) (show 61 < 2 ^ 31 by omega)
  have mstep : ∀ (E : Int32 → Int32 → Int32 → Int32 → Nm → Prop) (K : Nm → Prop) (m : Nat), (if dg c < 2 then fX8_parse_L24 E K m 1 v2 v3 0 (wrN (wrN N 66 30 (dg c)) 66 36 (nI i)) else if 8 < dg c then fX8_parse_L24 E K m 1 v2 v3 0 (wrN (wrN N 66 30 (dg c)) 66 36 (nI i)) else fX8_parse_L24 E K m 1 v2 v3 1 (wrN (wrN N 66 30 (dg c)) 66 36 (nI (i + 1)))) → fX8_parse_L24 E K (m + 1) 0 v2 v3 1 N := by
    intro E K m hh
    rw [fX8_parse_L24, if_neg (by decide), if_neg hpos]
    simp only [bd]
    rw [h36, tn_nI (show i < 2 ^ 31 by omega), hc, within_eq]
    refine ⟨hbi, dgj c1 c2 _ ?_⟩
    simp only [jn, within_eq, ↓reduceIte]
    have e36 : (wrN N 66 30 (dg c)).1 66 36 = nI i := h36
    rw [e36]
    by_cases z1 : dg c < 2
    · rw [if_pos z1] at hh ⊢; rw [if_pos rfl, Int32.add_zero]; exact hh
    · rw [if_neg z1] at hh ⊢
      by_cases z2 : 8 < dg c
      · rw [if_pos z2] at hh ⊢; rw [if_pos rfl, Int32.add_zero]; exact hh
      · rw [if_neg z2] at hh ⊢; rw [if_neg (by decide), nI_1]; exact hh
  rcases dg_split c1 c2 (lo := 2) (h := 9) (by omega) (by omega) with ⟨d, d1, d2, ex, em⟩ | ⟨ex, em⟩
  · left
    refine ⟨1, v2, v3, wr (wr C 1 3 (nI d)) 1 5 1, wrN (wrN N 66 30 (dg c)) 66 36 (nI (i + 1)), ?_, (PFx.w1 C (by decide) _).trans (PFx.w1 _ (by decide) _), (PFn.w6 N (by omega) _).trans (PFn.w6 _ (by omega) _), fun K hK => ?_, fun E K m hh => mstep E K m ?_⟩
    · right; left
      refine ⟨rfl, d, 0, ⟨rfl, rfl, by omega, by omega, h31, h4, LM.zero (fun a b ha hb => ?_)⟩, by omega, rfl, em⟩
      show wr (wr C 1 3 (nI d)) 1 5 1 (5 + a) b = 0 ∧ wr (wr C 1 3 (nI d)) 1 5 1 (14 + a) b = 0
      rw [(wr1_row a).1, (wr1_row a).1, (wr1_row a).2, (wr1_row a).2]
      exact hLM.2.2 a b ha hb (fun k hk => absurd hk (Nat.not_lt_zero k))
    · unfold fX0_accepts
      rw [h5, if_pos rfl, ex]
      simp only [fX0_acceptsNodeCount, jn, bd]
      rw [if_neg (show ¬ nI d < 2 from nI_nlt (b := 2) d1 (by omega)), if_pos (show nI d ≤ 8 from (nI_leI (b := 8) (by omega) (by omega)).mpr (by omega))]
      exact ⟨bl_1, hK⟩
    · rw [if_neg (show ¬ dg c < 2 from by rw [em]; exact nI_nlt (b := 2) d1 (by omega)), if_neg (show ¬ 8 < dg c from by rw [em]; exact nI_nlt (a := 8) (by omega) (by omega))]; exact hh
  · right
    refine ⟨1, v2, v3, wrN (wrN N 66 30 (dg c)) 66 36 (nI i), (PFn.w6 N (by omega) _).trans (PFn.w6 _ (by omega) _), rfl, fun K hK => ?_, fun E K m hh => mstep E K m ?_⟩
    · unfold fX0_accepts
      rw [h5, if_pos rfl]
      simp only [fX0_acceptsNodeCount, jn, bd]
      rcases ex with q | q
      · rw [if_pos (show nI c - 48 < 2 from q)]; exact ⟨bl_0, hK⟩
      · by_cases z : nI c - 48 < 2
        · rw [if_pos z]; exact ⟨bl_0, hK⟩
        · rw [if_neg z, if_neg (show ¬ nI c - 48 ≤ 8 from nle_of_ge (a := 8) (by omega) q)]; exact ⟨bl_0, hK⟩
    · rcases em with q | ⟨_, q⟩
      · rw [if_pos (show dg c < 2 from q)]; exact hh
      · by_cases z : dg c < 2
        · rw [if_pos z]; exact hh
        · rw [if_neg z, if_pos (show 8 < dg c from Int32.not_le.mp (nle_of_ge (a := 8) (by omega) q))]; exact hh
