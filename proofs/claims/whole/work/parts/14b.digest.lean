theorem t64_0 : Int32.toInt64 0 = 0 := by decide
theorem t64_1 : Int32.toInt64 1 = 1 := by decide
theorem digN {C : Xm} {N : Nm} {n : Nat} (hn : n ≤ 8) (hC : C 22 1 = nI n) (hM : N.1 66 2 = nI n) (hN : RN n (C 42) (C 43) (C 44) (N.1 72) (N.1 75) (N.1 76)) (hF : RF n (C 46 3) (C 48) (C 49) (N.1 66 13) (N.1 73) (N.1 74)) (p1 : Int64) :
    ∀ (d i : Nat) (acc : Int64), i + d = n → ∃ acc' : Int64, (∀ (E : Int64 → Int32 → Prop) K m, d < m → E acc' (nI n) → fX7_digestNodes_L5 C p1 E K m acc (nI i)) ∧ ∀ (E : Int32 → Nm → Prop) K m, d < m → E (nI n) (N.1, acc') → fX8_digest_L9 E K m (nI i) (N.1, acc) := by
  intro d
  induction d with
  | zero =>
    intro i acc hi
    obtain rfl : i = n := by omega
    refine ⟨acc, fun E K m hm hE => ?_, fun E K m hm hE => ?_⟩
    · obtain ⟨f, rfl⟩ : ∃ f, m = f + 1 := ⟨m - 1, by omega⟩
      rw [fX7_digestNodes_L5, hC, if_pos (Int32.le_refl _)]; exact hE
    · obtain ⟨f, rfl⟩ : ∃ f, m = f + 1 := ⟨m - 1, by omega⟩
      rw [fX8_digest_L9]
      show if N.1 66 2 ≤ nI i then _ else _
      rw [hM, if_pos (Int32.le_refl _)]; exact hE
  | succ d ih =>
    intro i acc hi
    have hb := inb_nI (show i < 8 by omega) (show 8 < 2 ^ 31 by omega)
    obtain ⟨q1, q2⟩ := hN.1 i (by omega)
    obtain ⟨q3, q4, q5⟩ := hN.2 i (by omega)
    have hH := hF.2 (by omega) i (by omega)
    obtain ⟨a4, ha4⟩ : ∃ a4 : Int64, a4 = 31 * (31 * (31 * (31 * acc + Int32.toInt64 (C 48 i)) + Int32.toInt64 (C 49 i)) + Int32.toInt64 (C 43 i)) + Int32.toInt64 (C 44 i) := ⟨_, rfl⟩
    obtain ⟨acc', b1, b2⟩ := ih (i + 1) (31 * a4 + (if C 42 i = 0 then 0 else 1)) (by omega)
    refine ⟨acc', fun E K m hm hE => ?_, fun E K m hm hE => ?_⟩
    · obtain ⟨f, rfl⟩ : ∃ f, m = f + 1 := ⟨m - 1, by omega⟩
      have hh := b1 E K f (by omega) hE
      rw [fX7_digestNodes_L5, hC, if_neg (nI_ge (show i < n by omega) (by omega))]
      simp only [jn, bd]
      rw [tn_nI (show i < 2 ^ 31 by omega), nI_1, ← ha4, t64_0, t64_1]
      refine ⟨hb, hb, hb, hb, hb, ?_⟩
      by_cases z : C 42 i = 0
      · rw [if_pos z] at hh ⊢; exact hh
      · rw [if_neg z] at hh ⊢; exact hh
    · obtain ⟨f, rfl⟩ : ∃ f, m = f + 1 := ⟨m - 1, by omega⟩
      have hh := b2 E K f (by omega) hE
      rw [fX8_digest_L9]
      show if N.1 66 2 ≤ nI i then _ else _
      rw [hM, if_neg (nI_ge (show i < n by omega) (by omega))]
      simp only [fX8_mix, jn, bd]
      refine ⟨hb, hops_at (p := C 48 i) (p' := N.1 73 i) (by omega) hH _ ⟨hb, hb, hb, ?_⟩⟩
      rw [tn_nI (show i < 2 ^ 31 by omega), nI_1, ← hH.1, ← q3, ← q4, ← q1, ← ha4]
      by_cases z : C 42 i = 0
      · rw [if_pos z] at hh ⊢; exact hh
      · rw [if_neg z] at hh ⊢; exact hh
theorem digS {n : Nat} {π : Nat → Nat} {cnt : Nat} {C : Xm} {N : Nm} (hS : RSp n π cnt C N) (p1 : Int64) :
    ∀ (d i : Nat) (acc : Int64), i + d = cnt → ∃ acc' : Int64, (∀ (E : Int64 → Int32 → Prop) K m, d < m → E acc' (nI cnt) → fX7_digestStreams_L5 C p1 E K m acc (nI i)) ∧ ∀ (E : Int32 → Nm → Prop) K m, d < m → E (nI cnt) (N.1, acc') → fX8_digest_L95 E K m (nI i) (N.1, acc) := by
  obtain ⟨s1, s2, s3, s4, s5, s6⟩ := hS
  intro d
  induction d with
  | zero =>
    intro i acc hi
    obtain rfl : i = cnt := by omega
    refine ⟨acc, fun E K m hm hE => ?_, fun E K m hm hE => ?_⟩
    · obtain ⟨f, rfl⟩ : ∃ f, m = f + 1 := ⟨m - 1, by omega⟩
      rw [fX7_digestStreams_L5, s2, if_pos (Int32.le_refl _)]; exact hE
    · obtain ⟨f, rfl⟩ : ∃ f, m = f + 1 := ⟨m - 1, by omega⟩
      rw [fX8_digest_L95]
      show if N.1 66 20 ≤ nI i then _ else _
      rw [s3, if_pos (Int32.le_refl _)]; exact hE
  | succ d ih =>
    intro i acc hi
    have hb := inb_nI (show i < 6 by omega) (show 6 < 2 ^ 31 by omega)
    obtain ⟨hp, hπ⟩ := s4 i (by omega)
    obtain ⟨o1, o2, o3, o4, o5, o6, _⟩ := s6 i (by omega)
    obtain ⟨acc', b1, b2⟩ := ih (i + 1) (31 * (31 * (31 * acc + Int32.toInt64 (C (52 + 2 * π i) 4)) + Int32.toInt64 (C (52 + 2 * π i) 5)) + Int32.toInt64 (C (52 + 2 * π i) 6)) (by omega)
    refine ⟨acc', fun E K m hm hE => ?_, fun E K m hm hE => ?_⟩
    · obtain ⟨f, rfl⟩ : ∃ f, m = f + 1 := ⟨m - 1, by omega⟩
      have hh := b1 E K f (by omega) hE
      rw [fX7_digestStreams_L5, s2, if_neg (nI_ge (show i < cnt by omega) (by omega))]
      simp only [bd]
      rw [tn_nI (show i < 2 ^ 31 by omega), nI_1, hπ, tn_nI (show π i < 2 ^ 31 by omega)]
      exact ⟨hb, hp, hh⟩
    · obtain ⟨f, rfl⟩ : ∃ f, m = f + 1 := ⟨m - 1, by omega⟩
      have hh := b2 E K f (by omega) hE
      rw [fX8_digest_L95]
      show if N.1 66 20 ≤ nI i then _ else _
      rw [s3, if_neg (nI_ge (show i < cnt by omega) (by omega))]
      simp only [fX8_mix, bd]
      rw [tn_nI (show i < 2 ^ 31 by omega), nI_1, ← o4, ← o5, ← o6]
      exact ⟨hb, hb, hb, hh⟩
theorem digC {C : Xm} {N : Nm} {z : Nat} (z6 : z ≤ 6) (r1 : C 64 1 = nI z) (r2 : N.1 66 28 = nI z) (r3 : ∀ k, k < z → C 65 k = N.1 84 k) :
    ∀ (d i : Nat) (acc : Int64), i + d = z → ∃ acc' : Int64, (∀ (E : Int64 → Int32 → Prop) K m, d < m → E acc' (nI z) → fX7_digest_L31 C E K m acc (nI i)) ∧ ∀ (E : Int32 → Nm → Prop) K m, d < m → E (nI z) (N.1, acc') → fX8_digest_L144 E K m (nI i) (N.1, acc) := by
  intro d
  induction d with
  | zero =>
    intro i acc hi
    obtain rfl : i = z := by omega
    refine ⟨acc, fun E K m hm hE => ?_, fun E K m hm hE => ?_⟩
    · obtain ⟨f, rfl⟩ : ∃ f, m = f + 1 := ⟨m - 1, by omega⟩
      rw [fX7_digest_L31, r1, if_pos (Int32.le_refl _)]; exact hE
    · obtain ⟨f, rfl⟩ : ∃ f, m = f + 1 := ⟨m - 1, by omega⟩
      rw [fX8_digest_L144]
      show if N.1 66 28 ≤ nI i then _ else _
      rw [r2, if_pos (Int32.le_refl _)]; exact hE
  | succ d ih =>
    intro i acc hi
    have hb := inb_nI (show i < 6 by omega) (show 6 < 2 ^ 31 by omega)
    obtain ⟨acc', b1, b2⟩ := ih (i + 1) (31 * acc + Int32.toInt64 (C 65 i)) (by omega)
    refine ⟨acc', fun E K m hm hE => ?_, fun E K m hm hE => ?_⟩
    · obtain ⟨f, rfl⟩ : ∃ f, m = f + 1 := ⟨m - 1, by omega⟩
      have hh := b1 E K f (by omega) hE
      rw [fX7_digest_L31, r1, if_neg (nI_ge (show i < z by omega) (by omega))]
      simp only [bd]
      rw [tn_nI (show i < 2 ^ 31 by omega), nI_1]
      exact ⟨hb, hh⟩
    · obtain ⟨f, rfl⟩ : ∃ f, m = f + 1 := ⟨m - 1, by omega⟩
      have hh := b2 E K f (by omega) hE
      rw [fX8_digest_L144]
      show if N.1 66 28 ≤ nI i then _ else _
      rw [r2, if_neg (nI_ge (show i < z by omega) (by omega))]
      simp only [fX8_mix, bd]
      rw [tn_nI (show i < 2 ^ 31 by omega), nI_1, ← r3 i (by omega)]
      exact ⟨hb, hh⟩
theorem digT {C : Xm} {N : Nm} {z : Nat} (z6 : z ≤ 61) (r1 : C 1 1 = nI z) (r2 : N.1 66 0 = nI z) (r3 : ∀ k, k < z → C 2 k = N.1 67 k) :
    ∀ (d i : Nat) (acc : Int64), i + d = z → ∃ acc' : Int64, (∀ (E : Int64 → Int32 → Prop) K m, d < m → E acc' (nI z) → fX7_digest_L110 C E K m acc (nI i)) ∧ ∀ (E : Int32 → Nm → Prop) K m, d < m → E (nI z) (N.1, acc') → fX8_digest_L198 E K m (nI i) (N.1, acc) := by
  intro d
  induction d with
  | zero =>
    intro i acc hi
    obtain rfl : i = z := by omega
    refine ⟨acc, fun E K m hm hE => ?_, fun E K m hm hE => ?_⟩
    · obtain ⟨f, rfl⟩ : ∃ f, m = f + 1 := ⟨m - 1, by omega⟩
      rw [fX7_digest_L110, r1, if_pos (Int32.le_refl _)]; exact hE
    · obtain ⟨f, rfl⟩ : ∃ f, m = f + 1 := ⟨m - 1, by omega⟩
      rw [fX8_digest_L198]
      show if N.1 66 0 ≤ nI i then _ else _
      rw [r2, if_pos (Int32.le_refl _)]; exact hE
  | succ d ih =>
    intro i acc hi
    have hb := inb_nI (show i < 61 by omega) (show 61 < 2 ^ 31 by omega)
    obtain ⟨acc', b1, b2⟩ := ih (i + 1) (31 * acc + Int32.toInt64 (C 2 i)) (by omega)
    refine ⟨acc', fun E K m hm hE => ?_, fun E K m hm hE => ?_⟩
    · obtain ⟨f, rfl⟩ : ∃ f, m = f + 1 := ⟨m - 1, by omega⟩
      have hh := b1 E K f (by omega) hE
      rw [fX7_digest_L110, r1, if_neg (nI_ge (show i < z by omega) (by omega))]
      simp only [bd]
      rw [tn_nI (show i < 2 ^ 31 by omega), nI_1]
      exact ⟨hb, hh⟩
    · obtain ⟨f, rfl⟩ : ∃ f, m = f + 1 := ⟨m - 1, by omega⟩
      have hh := b2 E K f (by omega) hE
      rw [fX8_digest_L198]
      show if N.1 66 0 ≤ nI i then _ else _
      rw [r2, if_neg (nI_ge (show i < z by omega) (by omega))]
      simp only [fX8_mix, bd]
      rw [tn_nI (show i < 2 ^ 31 by omega), nI_1, ← r3 i (by omega)]
      exact ⟨hb, hh⟩
theorem dig_x {C : Xm} {n cnt z len : Nat} {a1 a2 a3 a4 c0 : Int64} {r : Int32} (hc0 : c0 = 1753) (hn : n < 200) (hc : cnt < 200) (hz : z < 200) (hl : len < 200)
    (x1 : ∀ (E : Int64 → Int32 → Prop) K m, n < m → E a1 (nI n) → fX7_digestNodes_L5 C c0 E K m c0 (nI 0))
    (x2 : ∀ (E : Int64 → Int32 → Prop) K m, cnt < m → E a2 (nI cnt) → fX7_digestStreams_L5 C (31 * a1 + Int32.toInt64 (C 46 3)) E K m (31 * a1 + Int32.toInt64 (C 46 3)) (nI 0))
    (x3 : ∀ (E : Int64 → Int32 → Prop) K m, z < m → E a3 (nI z) → fX7_digest_L31 C E K m a2 (nI 0)) (xb : ∀ K, K r → fX4_encodedSize C K)
    (x4 : ∀ (E : Int64 → Int32 → Prop) K m, len < m → E a4 (nI len) → fX7_digest_L110 C E K m (31 * (31 * (31 * a3 + Int32.toInt64 r) + Int32.toInt64 (C 0 7)) + Int32.toInt64 (C 0 8)) (nI 0)) (K : Int64 → Prop) (hK : K (31 * a4 + Int32.toInt64 (C 1 1))) : fX7_digest C K := by
  unfold fX7_digest fX7_digestNodes
  rw [← hc0]
  refine x1 _ _ 200 hn ?_
  unfold fX7_digestStreams
  refine x2 _ _ 200 hc ?_
  refine x3 _ _ 200 hz ?_
  refine xb _ ?_
  exact x4 _ _ 200 hl hK
theorem mixI {N : Nm} {a b : Int64} {K : Nm → Prop} (e : b = 31 * N.2 + a) (h : K (N.1, b)) : fX8_mix N a K := by subst e; exact h
theorem dig_m {N : Nm} {n cnt z len : Nat} {a1 a2 a3 a4 c0 b1 b2 b3 b4 b5 b6 : Int64} {r : Int32} (hc0 : c0 = 1753) (hn : n < 200) (hc : cnt < 200) (hz : z < 200) (hl : len < 200)
    (m1 : ∀ (E : Int32 → Nm → Prop) K m, n < m → E (nI n) (N.1, a1) → fX8_digest_L9 E K m (nI 0) (N.1, c0)) (e1 : b1 = 31 * a1 + Int32.toInt64 (N.1 66 13))
    (m2 : ∀ (E : Int32 → Nm → Prop) K m, cnt < m → E (nI cnt) (N.1, a2) → fX8_digest_L95 E K m (nI 0) (N.1, b1))
    (m3 : ∀ (E : Int32 → Nm → Prop) K m, z < m → E (nI z) (N.1, a3) → fX8_digest_L144 E K m (nI 0) (N.1, a2)) (mb : ∀ K, K r → fX8_scheduleBits (N.1, a3) K) (e5 : b5 = 31 * a3 + Int32.toInt64 r) (e6 : b6 = 31 * b5 + Int32.toInt64 (N.1 66 14)) (e3 : b3 = 31 * b6 + Int32.toInt64 (N.1 66 15))
    (m4 : ∀ (E : Int32 → Nm → Prop) K m, len < m → E (nI len) (N.1, a4) → fX8_digest_L198 E K m (nI 0) (N.1, b3)) (e4 : b4 = 31 * a4 + Int32.toInt64 (N.1 66 0)) (K : Int64 → Nm → Prop) (hK : K b4 (N.1, b4)) : fX8_digest N K := by
  unfold fX8_digest
  rw [← hc0]
  refine m1 _ _ 200 hn ?_
  refine mixI e1 ?_
  simp only [jn]
  refine m2 _ _ 200 hc ?_
  refine m3 _ _ 200 hz ?_
  refine mb _ ?_
  refine mixI e5 ?_
  refine mixI e6 ?_
  refine mixI e3 ?_
  simp only []
  refine m4 _ _ 200 hl ?_
  refine mixI e4 ?_
  exact hK
theorem op_digest {C : Xm} {N : Nm} (h : Rel C N) : OpL (fX7_digest C) (fX8_digest N) C := by
  have h0 := h
  obtain ⟨n, π, cnt, hb, ht, hm, hs, hk, hrd, hn, hC, hM, hO, hN, hF0, hL, hS, ⟨z, z6, r1, r2, r3⟩⟩ := h.opn
  obtain ⟨len, l1, l2, l3, l4⟩ := hb
  have s6 := hS.1
  obtain ⟨c0, hc0⟩ : ∃ c0 : Int64, c0 = 1753 := ⟨_, rfl⟩
  obtain ⟨a1, x1, m1⟩ := digN hn hC hM hN hF0 c0 n 0 c0 (by omega)
  obtain ⟨a2, x2, m2⟩ := digS hS (31 * a1 + Int32.toInt64 (C 46 3)) cnt 0 (31 * a1 + Int32.toInt64 (C 46 3)) (by omega)
  obtain ⟨a3, x3, m3⟩ := digC (C := C) (N := N) z6 r1 r2 (fun k hk => (r3 k hk).1) z 0 a2 (by omega)
  have h3 : Rel C (N.1, a3) := h0
  obtain ⟨r, xb, mb⟩ := bitsB h3
  obtain ⟨a4, x4, m4⟩ := digT (C := C) (N := N) l1 l2 l3 (fun k hk => (l4 k hk).1) len 0 (31 * (31 * (31 * a3 + Int32.toInt64 r) + Int32.toInt64 (C 0 7)) + Int32.toInt64 (C 0 8)) (by omega)
  refine ⟨31 * a4 + Int32.toInt64 (C 1 1), (N.1, 31 * a4 + Int32.toInt64 (C 1 1)), h0, fun K hK => dig_x hc0 (by omega) (by omega) (by omega) (by omega) x1 x2 x3 xb x4 K hK, fun K hK => dig_m (b2 := 0) hc0 (by omega) (by omega) (by omega) (by omega) m1 ?_ m2 m3 mb rfl rfl ?_ m4 ?_ K hK⟩
  · rw [hF0.1]
  · rw [hO.1, hrd.1]
  · rw [l3, ← l2]
