/-! PART 14: the size of the schedule, the digest -/
theorem mk_or : ∀ w, w < 256 → ∀ t, t < 8 → (nI w ||| ((1 : Int32) <<< (nI t &&& 31))) = nI (w ||| 2 ^ t) ∧ w ||| 2 ^ t < 256 := by decide +kernel
theorem mk_and : ∀ w, w < 256 → ∀ t, t < 8 → ((nI w &&& ((1 : Int32) <<< (nI t &&& 31))) = 0 ↔ Nat.testBit w t = false) := by decide +kernel
/-- two entries with one source, among the first i -/
def Rpt (src : Nat → Nat) (i : Nat) : Prop := ∃ j k, j < k ∧ k < i ∧ src j = src k
/-- the entries and their sources, on both sides -/
def Srcs (C : Xm) (N : Nm) (src : Nat → Nat) (z : Nat) : Prop := z ≤ 6 ∧ C 64 1 = nI z ∧ N.1 66 28 = nI z ∧ ∀ k, k < z → src k < 8 ∧ ∃ e p, e < 6 ∧ p < 6 ∧ C 65 k = nI e ∧ N.1 84 k = nI e ∧ C 51 e = nI p ∧ C (52 + 2 * p) 1 = nI (src k) ∧ N.1 77 e = nI (src k)
theorem Rel.srcs {C : Xm} {N : Nm} (h : Rel C N) : ∃ src z, Srcs C N src z := by
  obtain ⟨hb, ht, hm, hs, hk, hrd, n, hn, hC, hM, hO, hN, hF0, hL, ⟨π, cnt, s1, s2, s3, s4, s5, s6⟩, ⟨z, z6, r1, r2, r3⟩⟩ := h
  have key : ∀ k, ∃ s, k < z → s < 8 ∧ ∃ e p, e < 6 ∧ p < 6 ∧ C 65 k = nI e ∧ N.1 84 k = nI e ∧ C 51 e = nI p ∧ C (52 + 2 * p) 1 = nI s ∧ N.1 77 e = nI s := fun k => by
    by_cases hk : k < z
    · obtain ⟨e1, i, c, e2, e3, e4, e5⟩ := r3 k hk
      have ec : c = cnt := nI_inj (by omega) (by omega) (e2.symm.trans s3)
      obtain ⟨o1, _, _, _, _, _, ⟨v, v1, v2⟩, _⟩ := s6 i (by omega)
      exact ⟨v, fun _ => ⟨by omega, i, π i, by omega, (s4 i (by omega)).1, e5, e1.symm.trans e5, (s4 i (by omega)).2, v2, o1.symm.trans v2⟩⟩
    · exact ⟨0, fun q => absurd q hk⟩
  exact ⟨fun k => Classical.choose (key k), z, z6, r1, r2, fun k hk => Classical.choose_spec (key k) hk⟩
theorem reptX {C : Xm} {N : Nm} {src : Nat → Nat} {z : Nat} (h : Srcs C N src z) (K : Int32 → Prop) : (Rpt src z → K 1 → fX4_hasRepeatedSource C K) ∧ (¬ Rpt src z → K 0 → fX4_hasRepeatedSource C K) := by
  obtain ⟨z6, h1, h2, h3⟩ := h
  have key : ∀ (d i w : Nat), i + d = z → w < 256 → (∀ s, s < 8 → (Nat.testBit w s = true ↔ ∃ k, k < i ∧ src k = s)) → ¬ Rpt src i →
      (Rpt src z → K 1 → ∀ (E : Int32 → Int32 → Prop) m, d < m → fX4_hasRepeatedSource_L4 C E K m (nI w) (nI i)) ∧ (¬ Rpt src z → ∀ (E : Int32 → Int32 → Prop) m, d < m → (∀ x y, E x y) → fX4_hasRepeatedSource_L4 C E K m (nI w) (nI i)) := by
    intro d
    induction d with
    | zero =>
      intro i w hi hw hb hr
      obtain rfl : i = z := by omega
      refine ⟨fun q => absurd q hr, fun _ E m hm hE => ?_⟩
      obtain ⟨f, rfl⟩ : ∃ f, m = f + 1 := ⟨m - 1, by omega⟩
      rw [fX4_hasRepeatedSource_L4, h1, if_pos (Int32.le_refl _)]; exact hE _ _
    | succ d ih =>
      intro i w hi hw hb hr
      obtain ⟨s8, e, p, e6, p6, g1, g2, g3, g4, g5⟩ := h3 i (by omega)
      have unf : ∀ (E : Int32 → Int32 → Prop) (f : Nat), (if Nat.testBit w (src i) = false then fX4_hasRepeatedSource_L4 C E K f (nI (w ||| 2 ^ src i)) (nI (i + 1)) else K 1) → fX4_hasRepeatedSource_L4 C E K (f + 1) (nI w) (nI i) := fun E f hh => by
        rw [fX4_hasRepeatedSource_L4, h1, if_neg (nI_ge (show i < z by omega) (by omega))]
        simp only [bd]
        rw [tn_nI (show i < 2 ^ 31 by omega), g1, tn_nI (show e < 2 ^ 31 by omega), g3, tn_nI (show p < 2 ^ 31 by omega), g4, nI_1, (mk_or w hw (src i) s8).1]
        refine ⟨inb_nI (by omega) (by omega), inb_nI e6 (by omega), p6, ?_⟩
        by_cases q : Nat.testBit w (src i) = false
        · rw [if_pos q] at hh; rw [if_pos ((mk_and w hw (src i) s8).mpr q)]; exact hh
        · rw [if_neg q] at hh; rw [if_neg (fun q' => q ((mk_and w hw (src i) s8).mp q'))]; exact hh
      by_cases q : Nat.testBit w (src i) = false
      · have hno : ¬ ∃ k, k < i ∧ src k = src i := fun q' => by rw [(hb (src i) s8).mpr q'] at q; exact absurd q (by decide)
        have hr' : ¬ Rpt src (i + 1) := fun ⟨j, k, q1, q2, q3⟩ => by
          by_cases e : k = i
          · subst e; exact hno ⟨j, q1, q3⟩
          · exact hr ⟨j, k, q1, by omega, q3⟩
        obtain ⟨i1, i2⟩ := ih (i + 1) (w ||| 2 ^ src i) (by omega) (mk_or w hw (src i) s8).2 (fun s hs => by
          rw [Nat.testBit_or, Nat.testBit_two_pow, Bool.or_eq_true, hb s hs, decide_eq_true_eq]
          constructor
          · rintro (⟨k, k1, k2⟩ | k)
            · exact ⟨k, by omega, k2⟩
            · exact ⟨i, by omega, k⟩
          · rintro ⟨k, k1, k2⟩
            by_cases e : k = i
            · subst e; exact Or.inr k2
            · exact Or.inl ⟨k, by omega, k2⟩) hr'
        refine ⟨fun a b E m hm => ?_, fun a E m hm hE => ?_⟩
        · obtain ⟨f, rfl⟩ : ∃ f, m = f + 1 := ⟨m - 1, by omega⟩
          refine unf E f ?_; rw [if_pos q]; exact i1 a b E f (by omega)
        · obtain ⟨f, rfl⟩ : ∃ f, m = f + 1 := ⟨m - 1, by omega⟩
          refine unf E f ?_; rw [if_pos q]; exact i2 a E f (by omega) hE
      · have hyes : ∃ k, k < i ∧ src k = src i := (hb (src i) s8).mp (by
          cases hq : Nat.testBit w (src i) with
          | true => rfl
          | false => exact absurd hq q)
        obtain ⟨k, k1, k2⟩ := hyes
        have hR : Rpt src z := ⟨k, i, k1, by omega, k2⟩
        refine ⟨fun a b E m hm => ?_, fun a => absurd hR a⟩
        obtain ⟨f, rfl⟩ : ∃ f, m = f + 1 := ⟨m - 1, by omega⟩
        refine unf E f ?_; rw [if_neg q]; exact b
  obtain ⟨k1, k2⟩ := key z 0 0 (by omega) (by omega) (fun s _ => by rw [Nat.zero_testBit]; exact ⟨fun q => absurd q (by decide), fun ⟨k, q, _⟩ => absurd q (Nat.not_lt_zero k)⟩) (fun ⟨j, k, q1, q2, _⟩ => absurd q2 (Nat.not_lt_zero k))
  refine ⟨fun a b => ?_, fun a b => ?_⟩
  · simp only [fX4_hasRepeatedSource, jn]; exact k1 a b _ 200 (by omega)
  · simp only [fX4_hasRepeatedSource, jn]; exact k2 a _ 200 (by omega) (fun _ _ => b)
theorem diffI {C : Xm} {N : Nm} {src : Nat → Nat} {z k : Nat} (h : Srcs C N src z) (hk : k < z) : ∀ (d i : Nat) (f : Int32), i + d = k → (f = 0 ∨ f = 1) →
    ∃ f' : Int32, (f' = 0 ∨ f' = 1) ∧ (f' = 1 ↔ f = 1 ∧ ∀ j, i ≤ j → j < k → src j ≠ src k) ∧ ∀ (E : Int32 → Int32 → Prop) (K : Int32 → Prop) m, d < m → E f' (nI k) → fX8_areSourcesDifferent_L14 N (nI k) E K m f (nI i) := by
  obtain ⟨z6, h1, h2, h3⟩ := h
  obtain ⟨sk8, ek, pk, ek6, pk6, gk1, gk2, gk3, gk4, gk5⟩ := h3 k hk
  intro d
  induction d with
  | zero =>
    intro i f hi hf
    obtain rfl : i = k := by omega
    refine ⟨f, hf, ⟨fun q => ⟨q, fun j _ _ => by omega⟩, fun q => q.1⟩, fun E K m hm hE => ?_⟩
    obtain ⟨g, rfl⟩ : ∃ g, m = g + 1 := ⟨m - 1, by omega⟩
    rw [fX8_areSourcesDifferent_L14, if_pos (Int32.le_refl _)]; exact hE
  | succ d ih =>
    intro i f hi hf
    obtain ⟨s8, e, p, e6, p6, g1, g2, g3, g4, g5⟩ := h3 i (by omega)
    have unf : ∀ (E : Int32 → Int32 → Prop) (K : Int32 → Prop) (g : Nat), fX8_areSourcesDifferent_L14 N (nI k) E K g (if f = 0 then 0 else if nI (src k) = nI (src i) then 0 else 1) (nI (i + 1)) → fX8_areSourcesDifferent_L14 N (nI k) E K (g + 1) f (nI i) := fun E K g hh => by
      rw [fX8_areSourcesDifferent_L14, if_neg (nI_ge (show i < k by omega) (by omega))]
      simp only [jn, bd]
      rw [nI_1]
      by_cases zf : f = 0
      · rw [if_pos zf] at hh ⊢; exact hh
      · rw [if_neg zf] at hh ⊢
        rw [tn_nI (show k < 2 ^ 31 by omega), gk2, tn_nI (show ek < 2 ^ 31 by omega), gk5, tn_nI (show i < 2 ^ 31 by omega), g2, tn_nI (show e < 2 ^ 31 by omega), g5]
        refine ⟨inb_nI (by omega) (by omega), inb_nI ek6 (by omega), inb_nI (by omega) (by omega), inb_nI e6 (by omega), ?_⟩
        by_cases zs : nI (src k) = nI (src i)
        · rw [if_pos zs] at hh ⊢; exact hh
        · rw [if_neg zs] at hh ⊢; exact hh
    obtain ⟨f', a1, a2, a3⟩ := ih (i + 1) (if f = 0 then 0 else if nI (src k) = nI (src i) then 0 else 1) (by omega) (by split <;> (try split) <;> simp)
    refine ⟨f', a1, a2.trans ?_, fun E K m hm hE => ?_⟩
    · have hf1 : (if f = 0 then (0 : Int32) else if nI (src k) = nI (src i) then 0 else 1) = 1 ↔ f = 1 ∧ src i ≠ src k := by
        rcases hf with rfl | rfl
        · rw [if_pos rfl]; exact ⟨fun q => absurd q (by decide), fun q => absurd q.1 (by decide)⟩
        · rw [if_neg (by decide)]
          by_cases zs : src i = src k
          · rw [zs, if_pos rfl]; exact ⟨fun q => absurd q (by decide), fun q => absurd rfl q.2⟩
          · rw [if_neg (fun q => zs (nI_inj (by omega) (by omega) q).symm)]; exact ⟨fun _ => ⟨rfl, zs⟩, fun _ => rfl⟩
      rw [hf1]
      constructor
      · rintro ⟨⟨q1, q2⟩, q3⟩
        refine ⟨q1, fun j hj hj2 => ?_⟩
        by_cases e : j = i
        · subst e; exact q2
        · exact q3 j (by omega) hj2
      · rintro ⟨q1, q2⟩
        exact ⟨⟨q1, q2 i (by omega) (by omega)⟩, fun j hj hj2 => q2 j (by omega) hj2⟩
    · obtain ⟨g, rfl⟩ : ∃ g, m = g + 1 := ⟨m - 1, by omega⟩
      exact unf E K g (a3 E K g (by omega) hE)
theorem diffM {C : Xm} {N : Nm} {src : Nat → Nat} {z : Nat} (h : Srcs C N src z) (K : Int32 → Prop) : (Rpt src z → K 0 → fX8_areSourcesDifferent N K) ∧ (¬ Rpt src z → K 1 → fX8_areSourcesDifferent N K) := by
  have h0 := h
  obtain ⟨z6, h1, h2, h3⟩ := h
  have key : ∀ (d i : Nat) (f : Int32), i + d = z → (f = 0 ∨ f = 1) → ∃ f' : Int32, (f' = 0 ∨ f' = 1) ∧ (f' = 1 ↔ f = 1 ∧ ∀ k j, i ≤ k → k < z → j < k → src j ≠ src k) ∧ ∀ (E : Int32 → Int32 → Prop) m, d < m → E f' (nI z) → fX8_areSourcesDifferent_L4 N E K m f (nI i) := by
    intro d
    induction d with
    | zero =>
      intro i f hi hf
      obtain rfl : i = z := by omega
      refine ⟨f, hf, ⟨fun q => ⟨q, fun k j _ _ _ => by omega⟩, fun q => q.1⟩, fun E m hm hE => ?_⟩
      obtain ⟨g, rfl⟩ : ∃ g, m = g + 1 := ⟨m - 1, by omega⟩
      rw [fX8_areSourcesDifferent_L4, h2, if_pos (Int32.le_refl _)]; exact hE
    | succ d ih =>
      intro i f hi hf
      obtain ⟨f1, a1, a2, a3⟩ := diffI h0 (show i < z by omega) i 0 f (by omega) hf
      obtain ⟨f', b1, b2, b3⟩ := ih (i + 1) f1 (by omega) a1
      refine ⟨f', b1, b2.trans ?_, fun E m hm hE => ?_⟩
      · rw [a2]
        constructor
        · rintro ⟨⟨q1, q2⟩, q3⟩
          refine ⟨q1, fun k j hk hk2 hj => ?_⟩
          by_cases e : k = i
          · subst e; exact q2 j (by omega) hj
          · exact q3 k j (by omega) hk2 hj
        · rintro ⟨q1, q2⟩
          exact ⟨⟨q1, fun j _ hj => q2 i j (by omega) (by omega) hj⟩, fun k j hk hk2 hj => q2 k j (by omega) hk2 hj⟩
      · obtain ⟨g, rfl⟩ : ∃ g, m = g + 1 := ⟨m - 1, by omega⟩
        rw [fX8_areSourcesDifferent_L4, h2, if_neg (nI_ge (show i < z by omega) (by omega))]
        simp only [jn, bd]
        refine a3 _ K 200 (by omega) ?_
        rw [nI_1]; exact b3 E g (by omega) hE
  obtain ⟨f', b1, b2, b3⟩ := key z 0 1 (by omega) (Or.inr rfl)
  refine ⟨fun a b => ?_, fun a b => ?_⟩
  · have e : f' = 0 := b1.resolve_right (fun q => by
      obtain ⟨j, k, q1, q2, q3⟩ := a
      exact (b2.mp q).2 k j (by omega) q2 q1 q3)
    simp only [fX8_areSourcesDifferent, jn]
    exact b3 _ 200 (by omega) (by rw [e]; exact ⟨bl_0, b⟩)
  · have e : f' = 1 := b2.mpr ⟨rfl, fun k j _ hk hj q => a ⟨j, k, hj, hk, q⟩⟩
    simp only [fX8_areSourcesDifferent, jn]
    exact b3 _ 200 (by omega) (by rw [e]; exact ⟨bl_1, b⟩)
theorem bitsB {C : Xm} {N : Nm} (h : Rel C N) : ∃ r : Int32, (∀ K, K r → fX4_encodedSize C K) ∧ ∀ K, K r → fX8_scheduleBits N K := by
  obtain ⟨src, z, hs⟩ := h.srcs
  have hz := hs.1
  have e3 : (3 : Int32) * nI z = nI (3 * z) := pk_mul 3 z
  by_cases hR : Rpt src z
  · refine ⟨8 + nI (3 * z), fun K hK => ?_, fun K hK => ?_⟩
    · simp only [fX4_encodedSize, jn, bd]
      refine (reptX hs _).1 hR ?_
      rw [if_neg (by decide), hs.2.1, e3]; exact hK
    · simp only [fX8_scheduleBits, jn, bd]
      rw [hs.2.2.1, e3]
      by_cases q : nI (3 * z) ≤ 8
      · rw [if_pos q]; exact hK
      · rw [if_neg q]
        refine (diffM hs _).1 hR ?_
        rw [if_pos (by trivial)]; exact hK
  · refine ⟨8 + (if (8 : Int32) < nI (3 * z) then 8 else nI (3 * z)), fun K hK => ?_, fun K hK => ?_⟩
    · simp only [fX4_encodedSize, jn, bd]
      refine (reptX hs _).2 hR ?_
      rw [if_pos (by trivial), hs.2.1, e3]; exact hK
    · simp only [fX8_scheduleBits, jn, bd]
      rw [hs.2.2.1, e3]
      by_cases q : nI (3 * z) ≤ 8
      · rw [if_neg (Int32.not_lt.mpr q)] at hK; rw [if_pos q]; exact hK
      · rw [if_pos (Int32.not_le.mp q)] at hK; rw [if_neg q]
        refine (diffM hs _).2 hR ?_
        rw [if_neg (by decide)]; exact hK
theorem op_scheduleBits {C : Xm} {N : Nm} (h : Rel C N) : OpR (fX7_scheduleBits C) (fX8_scheduleBits N) := by
  obtain ⟨r, h1, h2⟩ := bitsB h
  exact ⟨r, fun K hK => by unfold fX7_scheduleBits; exact h1 _ hK, h2⟩
