theorem FrX.rfl' (C : Xm) : FrX C C := ⟨fun _ _ _ _ _ _ => rfl, fun _ _ => rfl⟩
theorem FrN.rfl' (N : Nm) : FrN N N := ⟨fun _ _ _ _ _ _ _ _ => rfl, rfl⟩
theorem i10 : ((1 : Int32) = 0) = False := by decide
theorem serve1 {n : Nat} {π : Nat → Nat} {cnt : Nat} {C : Xm} {N : Nm} (h : RelP n π cnt C N) (hn0 : 0 < n) (inf : Inf n C N) {en : Nat → Nat} {z k : Nat} (he : Ent π cnt C N en z k) (hk : k < z) :
    ∃ C' N' r, RelP n π cnt C' N' ∧ Inf n C' N' ∧ Ent π cnt C' N' en z (k + 1) ∧ (C' 42 = C 42 ∧ C' 0 = C 0) ∧ N'.1 66 14 = N.1 66 14 ∧ N'.1 72 = N.1 72 ∧
      (∀ E K m v1, fX7_serveSchedule_L4 E K m (v1 + r) (nI (k + 1)) C' → fX7_serveSchedule_L4 E K (m + 1) v1 (nI k) C) ∧ ∀ E K m v1, fX8_runRound_L12 E K m (v1 + r) (nI (k + 1)) N' → fX8_runRound_L12 E K (m + 1) v1 (nI k) N := by
  have hn : n ≤ 8 := h.2.2.2.2.2.2.1
  have hO := h.2.2.2.2.2.2.2.2.2.1
  have hS := h.2.2.2.2.2.2.2.2.2.2.2.2.2.1
  have h6 : cnt ≤ 6 := hS.1
  obtain ⟨z6, e64, e28, een, ew, edist⟩ := he
  obtain ⟨en1, en2, en3⟩ := een k hk
  obtain ⟨w, w1, w4, hw⟩ := ew k (Nat.le_refl k) hk
  obtain ⟨C1, N1, r1, x1, m1, fx1, fm1⟩ := take1 h en3 w1 w4 hw
  obtain ⟨hp, hπ⟩ := hS.2.2.2.1 (en k) (by omega)
  have hπd := hS.2.2.2.2.1
  have hpl : ∀ i, i < 6 → π i < 6 := fun i hi => (hS.2.2.2.1 i hi).1
  obtain ⟨o1, o2, o3, o4, o5, o6, ⟨v, vn, hv⟩, _⟩ := r1.2.2.2.2.2.2.2.2.2.2.2.2.2.1.2.2.2.2.2 (en k) en3
  have hv7 : N1.1 77 (en k) = nI v := o1.symm.trans hv
  obtain ⟨hh, hhn, hC7, hN14⟩ : ∃ hh, hh < n ∧ C 0 7 = nI hh ∧ N.1 66 14 = nI hh := by
    obtain ⟨q, q1 | ⟨hh, q1, q2⟩⟩ := hO
    · exact absurd q1.1 (by omega)
    · exact ⟨hh, q1, q2, q.symm.trans q2⟩
  have fin : ∀ (C2 : Xm) (N2 : Nm) (a b : Int32) (C' : Xm), RelP n π cnt C2 N2 → FrX C1 C2 → FrN N1 N2 → (∀ r, r ≠ 52 + 2 * π (en k) → C' r = C2 r) → (∀ q, q ≠ 5 → q ≠ 6 → C' (52 + 2 * π (en k)) q = C2 (52 + 2 * π (en k)) q) → C' (52 + 2 * π (en k)) 5 = C2 (52 + 2 * π (en k)) 5 + a → C' (52 + 2 * π (en k)) 6 = C2 (52 + 2 * π (en k)) 6 + b →
      ∃ N', N' = wrN (wrN N2 82 (en k) (N2.1 82 (en k) + a)) 83 (en k) (N2.1 83 (en k) + b) ∧ RelP n π cnt C' N' ∧ Inf n C' N' ∧ Ent π cnt C' N' en z (k + 1) ∧ (C' 42 = C 42 ∧ C' 0 = C 0) ∧ N'.1 66 14 = N.1 66 14 ∧ N'.1 72 = N.1 72 := by
    intro C2 N2 a b C' r2 fx fm x xo x5 x6
    have r3 := r2.cnt2 en3 a b x xo x5 x6
    have mm : ∀ r, r ≠ 73 → r ≠ 74 → r ≠ 75 → r ≠ 89 → r ≠ 90 → r ≠ 80 → r ≠ 81 → r ≠ 82 → r ≠ 83 → ∀ b', ¬ (r = 66 ∧ b' = 13) → (wrN (wrN N2 82 (en k) (N2.1 82 (en k) + a)) 83 (en k) (N2.1 83 (en k) + b)).1 r b' = N.1 r b' := fun r a1 a2 a3 a4 a5 a6 a7 a8 a9 b' hb' => by
      simp only [wrN, a8, a9, false_and, if_false]
      rw [fm.1 r b' a1 a2 a3 a4 a5 hb', m1 r a6 a7]
    have xx : ∀ r, r ≠ 44 → r ≠ 46 → r ≠ 47 → r ≠ 48 → r ≠ 49 → r ≠ 52 + 2 * π (en k) → r ≠ 53 + 2 * π (en k) → C' r = C r := fun r a1 a2 a3 a4 a5 a6 a7 => by
      rw [x r a6, fx.1 r a1 a2 a3 a4 a5, x1 r a6 a7]
    refine ⟨_, rfl, r3, fun u hu => ?_, ⟨z6, ?_, ?_, fun q hq => ?_, fun q hq hq2 => ?_, edist⟩, ?_, ?_, ?_⟩
    · rw [mm 91 (by decide) (by decide) (by decide) (by decide) (by decide) (by decide) (by decide) (by decide) (by decide) u (by omega), xx 45 (by decide) (by decide) (by decide) (by decide) (by decide) (by omega) (by omega), xx 42 (by decide) (by decide) (by decide) (by decide) (by decide) (by omega) (by omega)]
      exact inf u hu
    · rw [xx 64 (by decide) (by decide) (by decide) (by decide) (by decide) (by omega) (by omega)]; exact e64
    · rw [mm 66 (by decide) (by decide) (by decide) (by decide) (by decide) (by decide) (by decide) (by decide) (by decide) 28 (by omega)]; exact e28
    · rw [mm 84 (by decide) (by decide) (by decide) (by decide) (by decide) (by decide) (by decide) (by decide) (by decide) q (by omega), xx 65 (by decide) (by decide) (by decide) (by decide) (by decide) (by omega) (by omega)]
      exact een q hq
    · have hne : π (en q) ≠ π (en k) := fun e => by
        have := edist q k hq2 hk (hπd (en q) (en k) (by have := (een q hq2).2.2; omega) (by omega) e)
        omega
      rw [xx (52 + 2 * π (en q)) (by omega) (by omega) (by omega) (by omega) (by omega) (by omega) (by omega)]
      exact ew q (by omega) hq2
    · exact ⟨xx 42 (by decide) (by decide) (by decide) (by decide) (by decide) (by omega) (by omega), xx 0 (by decide) (by decide) (by decide) (by decide) (by decide) (by omega) (by omega)⟩
    · exact mm 66 (by decide) (by decide) (by decide) (by decide) (by decide) (by decide) (by decide) (by decide) (by decide) 14 (by omega)
    · funext u; exact mm 72 (by decide) (by decide) (by decide) (by decide) (by decide) (by decide) (by decide) (by decide) (by decide) u (by omega)
  obtain ⟨i1, i2, i3⟩ := inf v vn
  have hbv := inb_nI (show v < 8 by omega) (show 8 < 2 ^ 31 by omega)
  have hbh := inb_nI (show hh < 8 by omega) (show 8 < 2 ^ 31 by omega)
  have hbs := inb_nI (show en k < 6 by omega) (show 6 < 2 ^ 31 by omega)
  have hbk := inb_nI (show k < 6 by omega) (show 6 < 2 ^ 31 by omega)
  have hkc : ¬ C 64 1 ≤ nI k := by rw [e64]; exact nI_ge hk (by omega)
  have hkn : ¬ N.1 66 28 ≤ nI k := by rw [e28]; exact nI_ge hk (by omega)
  have c45 : C1 45 = C 45 := x1 45 (by omega) (by omega)
  have c0 : C1 0 = C 0 := x1 0 (by omega) (by omega)
  have n72 : N1.1 72 = N.1 72 := m1 72 (by decide) (by decide)
  have n91 : N1.1 91 = N.1 91 := m1 91 (by decide) (by decide)
  have n66 : N1.1 66 = N.1 66 := m1 66 (by decide) (by decide)
  have al : C 42 v = N.1 72 v := (h.2.2.2.2.2.2.2.2.2.2.1.1 v (by omega)).1
  have w5 : ∀ (C2 : Xm) (b q : Nat) (y : Int32), q ≠ b → wr C2 (52 + 2 * π (en k)) b y (52 + 2 * π (en k)) q = C2 (52 + 2 * π (en k)) q := fun C2 b q y hq => by rw [wr_row]; unfold upd; rw [if_neg hq]
  have w6 : ∀ (C2 : Xm) (b : Nat) (y : Int32), wr C2 (52 + 2 * π (en k)) b y (52 + 2 * π (en k)) b = y := fun C2 b y => by rw [wr_row]; unfold upd; rw [if_pos rfl]
  by_cases zi : C 45 v = 0
  · have zm : N.1 91 v = 0 := i1.symm.trans zi
    obtain ⟨N', eN, f1, f2, f3, f4, f5, f6⟩ := fin C1 N1 0 1 (wr C1 (52 + 2 * π (en k)) 6 (C1 (52 + 2 * π (en k)) 6 + 1)) r1 (FrX.rfl' C1) (FrN.rfl' N1) (fun r hr => wr_off hr) (fun q _ hq => w5 C1 6 q _ hq) (by rw [w5 C1 6 5 _ (by decide), Int32.add_zero]) (w6 C1 6 _)
    refine ⟨_, N', 0, f1, f2, f3, f4, f5, f6, fun E K m v1 hE => ?_, fun E K m v1 hE => ?_⟩
    · rw [Int32.add_zero] at hE
      rw [fX7_serveSchedule_L4, if_neg hkc]
      simp only [jn, bd]
      rw [tn_nI (show k < 2 ^ 31 by omega), en1, tn_nI (show en k < 2 ^ 31 by omega), hπ, tn_nI (show π (en k) < 2 ^ 31 by omega)]
      refine ⟨hbk, hbs, hp, fx1 _ ?_⟩
      rw [hv, tn_nI (show v < 2 ^ 31 by omega), c45, if_pos zi, if_pos zi, nI_1]
      exact ⟨hbv, hE⟩
    · rw [fX8_runRound_L12, if_neg hkn]
      simp only [fX8_serve, jn, bd, ↓reduceIte, i10]
      rw [tn_nI (show k < 2 ^ 31 by omega), en2]
      refine ⟨hbk, fm1 _ ?_⟩
      rw [tn_nI (show en k < 2 ^ 31 by omega), hv7, tn_nI (show v < 2 ^ 31 by omega), n72, n91, zm, nI_1]
      rw [eN] at hE
      refine ⟨hbs, hbv, ?_⟩
      by_cases za : N.1 72 v = 0
      · rw [if_pos za]; exact ⟨hbs, hbs, hbs, hbs, hE⟩
      · rw [if_neg za, if_pos rfl]; exact ⟨hbv, hbs, hbs, hbs, hbs, hE⟩
  · have zm : ¬ N.1 91 v = 0 := fun e => zi (i1.trans e)
    have za : ¬ N.1 72 v = 0 := by rw [← al]; exact i3 zi
    have c42 : C1 42 = C 42 := x1 42 (by omega) (by omega)
    obtain ⟨C2, N2, r2, fx, fm, g3, g4, g5, rr, g6⟩ := r1.flood hn0 ((1 : Int32) <<< (nI v &&& 31)) (fun u hu hi => by rw [(ib_one v (by omega) u (by omega)).mp hi, c42]; exact i3 zi)
    have c07 : C2 0 7 = nI hh := by rw [fx.1 0 (by decide) (by decide) (by decide) (by decide) (by decide), c0]; exact hC7
    have n14 : N2.1 66 14 = nI hh := by rw [fm.1 66 14 (by decide) (by decide) (by decide) (by decide) (by decide) (by decide), n66]; exact hN14
    have g48 : C2 48 hh = N2.1 73 hh := g4 hh (by omega)
    by_cases zd : C2 48 hh = -1
    · obtain ⟨N', eN, f1, f2, f3, f4, f5, f6⟩ := fin C2 N2 0 1 (wr C2 (52 + 2 * π (en k)) 6 (C2 (52 + 2 * π (en k)) 6 + 1)) r2 fx fm (fun r hr => wr_off hr) (fun q _ hq => w5 C2 6 q _ hq) (by rw [w5 C2 6 5 _ (by decide), Int32.add_zero]) (w6 C2 6 _)
      refine ⟨_, N', 0, f1, f2, f3, f4, f5, f6, fun E K m v1 hE => ?_, fun E K m v1 hE => ?_⟩
      · rw [Int32.add_zero] at hE
        rw [fX7_serveSchedule_L4, if_neg hkc]
        simp only [jn, bd]
        rw [tn_nI (show k < 2 ^ 31 by omega), en1, tn_nI (show en k < 2 ^ 31 by omega), hπ, tn_nI (show π (en k) < 2 ^ 31 by omega)]
        refine ⟨hbk, hbs, hp, fx1 _ ?_⟩
        rw [hv, tn_nI (show v < 2 ^ 31 by omega), c45, if_neg zi]
        refine ⟨hbv, g5 _ ?_⟩
        rw [if_neg zi, c07, tn_nI (show hh < 2 ^ 31 by omega), if_pos zd, nI_1]
        exact ⟨hbh, hE⟩
      · rw [fX8_runRound_L12, if_neg hkn]
        simp only [fX8_serve, jn, bd, ↓reduceIte, i10]
        rw [tn_nI (show k < 2 ^ 31 by omega), en2]
        refine ⟨hbk, fm1 _ ?_⟩
        rw [tn_nI (show en k < 2 ^ 31 by omega), hv7, tn_nI (show v < 2 ^ 31 by omega), n72, n91, nI_1, if_neg za, if_neg zm]
        rw [eN] at hE
        refine ⟨hbs, hbv, hbv, g6 _ ?_⟩
        rw [n14, tn_nI (show hh < 2 ^ 31 by omega), ← g48, if_pos zd]
        exact ⟨hbh, hbs, hbs, hbs, hbs, hE⟩
    · obtain ⟨N', eN, f1, f2, f3, f4, f5, f6⟩ := fin C2 N2 1 0 (wr C2 (52 + 2 * π (en k)) 5 (C2 (52 + 2 * π (en k)) 5 + 1)) r2 fx fm (fun r hr => wr_off hr) (fun q hq _ => w5 C2 5 q _ hq) (w6 C2 5 _) (by rw [w5 C2 5 6 _ (by decide), Int32.add_zero])
      refine ⟨_, N', 1, f1, f2, f3, f4, f5, f6, fun E K m v1 hE => ?_, fun E K m v1 hE => ?_⟩
      · rw [fX7_serveSchedule_L4, if_neg hkc]
        simp only [jn, bd]
        rw [tn_nI (show k < 2 ^ 31 by omega), en1, tn_nI (show en k < 2 ^ 31 by omega), hπ, tn_nI (show π (en k) < 2 ^ 31 by omega)]
        refine ⟨hbk, hbs, hp, fx1 _ ?_⟩
        rw [hv, tn_nI (show v < 2 ^ 31 by omega), c45, if_neg zi]
        refine ⟨hbv, g5 _ ?_⟩
        rw [if_neg zi, c07, tn_nI (show hh < 2 ^ 31 by omega), if_neg zd, nI_1]
        exact ⟨hbh, hE⟩
      · rw [fX8_runRound_L12, if_neg hkn]
        simp only [fX8_serve, jn, bd, ↓reduceIte, i10]
        rw [tn_nI (show k < 2 ^ 31 by omega), en2]
        refine ⟨hbk, fm1 _ ?_⟩
        rw [tn_nI (show en k < 2 ^ 31 by omega), hv7, tn_nI (show v < 2 ^ 31 by omega), n72, n91, nI_1, if_neg za, if_neg zm]
        rw [eN] at hE
        refine ⟨hbs, hbv, hbv, g6 _ ?_⟩
        rw [n14, tn_nI (show hh < 2 ^ 31 by omega), ← g48, if_neg zd]
        exact ⟨hbh, hbs, hbs, hbs, hbs, hE⟩
theorem serveB {n : Nat} {π : Nat → Nat} {cnt : Nat} {en : Nat → Nat} {z : Nat} (hn0 : 0 < n) : ∀ (d k : Nat) (C : Xm) (N : Nm), k + d = z → RelP n π cnt C N → Inf n C N → Ent π cnt C N en z k →
    ∃ C' N' r, RelP n π cnt C' N' ∧ (C' 42 = C 42 ∧ C' 0 = C 0) ∧ N'.1 66 14 = N.1 66 14 ∧ N'.1 72 = N.1 72 ∧
      (∀ E K m v1, d < m → E (v1 + r) (nI z) C' → fX7_serveSchedule_L4 E K m v1 (nI k) C) ∧ ∀ E K m v1, d < m → E (v1 + r) (nI z) N' → fX8_runRound_L12 E K m v1 (nI k) N := by
  intro d
  induction d with
  | zero =>
    intro k C N hk h inf he
    obtain rfl : k = z := by omega
    refine ⟨C, N, 0, h, ⟨rfl, rfl⟩, rfl, rfl, fun E K m v1 hm hE => ?_, fun E K m v1 hm hE => ?_⟩
    · obtain ⟨f, rfl⟩ : ∃ f, m = f + 1 := ⟨m - 1, by omega⟩
      rw [Int32.add_zero] at hE
      rw [fX7_serveSchedule_L4, he.2.1, if_pos (Int32.le_refl _)]; exact hE
    · obtain ⟨f, rfl⟩ : ∃ f, m = f + 1 := ⟨m - 1, by omega⟩
      rw [Int32.add_zero] at hE
      rw [fX8_runRound_L12, he.2.2.1, if_pos (Int32.le_refl _)]; exact hE
  | succ d ih =>
    intro k C N hk h inf he
    obtain ⟨C1, N1, r1, a1, a2, a3, a4, a5, a6, a7, a8⟩ := serve1 h hn0 inf he (show k < z by omega)
    obtain ⟨C', N', r, b1, b2, b3, b4, b5, b6⟩ := ih (k + 1) C1 N1 (by omega) a1 a2 a3
    refine ⟨C', N', r1 + r, b1, ⟨b2.1.trans a4.1, b2.2.trans a4.2⟩, b3.trans a5, b4.trans a6, fun E K m v1 hm hE => ?_, fun E K m v1 hm hE => ?_⟩
    · obtain ⟨f, rfl⟩ : ∃ f, m = f + 1 := ⟨m - 1, by omega⟩
      exact a7 E K f v1 (b5 E K f (v1 + r1) (by omega) (by rw [Int32.add_assoc]; exact hE))
    · obtain ⟨f, rfl⟩ : ∃ f, m = f + 1 := ⟨m - 1, by omega⟩
      exact a8 E K f v1 (b6 E K f (v1 + r1) (by omega) (by rw [Int32.add_assoc]; exact hE))
