/-! the takeover, one round, rounds -/
theorem RelP.host {n : Nat} {π : Nat → Nat} {cnt : Nat} {C : Xm} {N : Nm} (h : RelP n π cnt C N) {i : Nat} (hi : i < n) : RelP n π cnt (wr C 0 7 (nI i)) (wrN N 66 14 (nI i)) := by
  obtain ⟨hb, ht, hm, hs, hk, hrd, hn, hC, hM, hO, hN, hF0, hL, ⟨s1, s2, s3, s4, s5, s6⟩, hR⟩ := h
  refine ⟨hb, ht, hm, hs, hk, hrd, hn, hC, hM, ⟨rfl, Or.inr ⟨i, hi, rfl⟩⟩, hN, hF0, hL.off hn (fun a _ _ => wr_off (by omega)), ⟨s1, s2, s3, s4, s5, fun j hj => ?_⟩, hR⟩
  rw [wr_off (by omega), wr_off (by omega)]; exact s6 j hj
theorem RelP.rnd {n : Nat} {π : Nat → Nat} {cnt : Nat} {C : Xm} {N : Nm} (h : RelP n π cnt C N) {r : Nat} (hr : r ≤ 9999) : RelP n π cnt (wr C 0 8 (nI r)) (wrN N 66 15 (nI r)) := by
  obtain ⟨hb, ht, hm, hs, hk, hrd, hn, hC, hM, hO, hN, hF0, hL, ⟨s1, s2, s3, s4, s5, s6⟩, hR⟩ := h
  refine ⟨hb, ht, hm, hs, hk, ⟨rfl, r, by omega, hr, rfl⟩, hn, hC, hM, hO, hN, hF0, hL.off hn (fun a _ _ => wr_off (by omega)), ⟨s1, s2, s3, s4, s5, fun j hj => ?_⟩, hR⟩
  rw [wr_off (by omega), wr_off (by omega)]; exact s6 j hj
theorem RelP.nos {n : Nat} {π : Nat → Nat} {cnt : Nat} {C : Xm} {N : Nm} (h : RelP n π cnt C N) : RelP n π cnt (wr C 64 1 0) (wrN N 66 28 0) := by
  obtain ⟨hb, ht, hm, hs, hk, hrd, hn, hC, hM, hO, hN, hF0, hL, ⟨s1, s2, s3, s4, s5, s6⟩, hR⟩ := h
  refine ⟨hb, ht, hm, hs, hk, hrd, hn, hC, hM, hO, hN, hF0, hL.off hn (fun a _ _ => wr_off (by omega)), ⟨s1, s2, s3, s4, s5, fun j hj => ?_⟩, ⟨0, by omega, rfl, rfl, fun k hk' => absurd hk' (Nat.not_lt_zero k)⟩⟩
  have := (s4 j (by omega)).1
  rw [wr_off (by omega), wr_off (by omega)]; exact s6 j hj
theorem overB {n : Nat} {π : Nat → Nat} {cnt : Nat} {C : Xm} {N : Nm} (h : RelP n π cnt C N) {hh : Nat} (hhn : hh < n) (hC7 : C 0 7 = nI hh) (hd : C 42 hh = 0) :
    ∃ C' N', RelP n π cnt C' N' ∧ C' 0 8 = C 0 8 ∧ (∀ K, K C' → fX7_takeOver C K) ∧ ∀ K, K N' → fX8_takeOver N K := by
  have h0 := h
  obtain ⟨hb, ht, hm, hs, hk, hrd, hn, hC, hM, hO, hN, hF0, hL, hS, hR⟩ := h
  have hN14 : N.1 66 14 = nI hh := hO.1.symm.trans hC7
  have hbh := inb_nI (show hh < 8 by omega) (show 8 < 2 ^ 31 by omega)
  have hdN : N.1 72 hh = 0 := (hN.1 hh (by omega)).1.symm.trans hd
  have key : ∀ (d i : Nat), i + d = n → ∃ C' N', RelP n π cnt C' N' ∧ C' 0 8 = C 0 8 ∧ (∀ (K : Xm → Prop) m, d < m → K C' → fX7_takeOver_L2 (fun _ C13 => K C13) K m (nI i) C) ∧ ∀ (K : Nm → Prop) m, d + 1 < m → K N' → fX8_takeOver_L2 (fun _ N16 => K N16) K m (nI i) N := by
    intro d
    induction d with
    | zero =>
      intro i hi
      obtain rfl : i = n := by omega
      refine ⟨C, N, h0, rfl, fun K m hm hK => ?_, fun K m hm hK => ?_⟩
      · obtain ⟨f, rfl⟩ : ∃ f, m = f + 1 := ⟨m - 1, by omega⟩
        rw [fX7_takeOver_L2, hC, if_pos (Int32.le_refl _)]; exact hK
      · obtain ⟨f, rfl⟩ : ∃ f, m = f + 1 := ⟨m - 1, by omega⟩
        rw [fX8_takeOver_L2, hM, if_pos (Int32.le_refl _)]; exact hK
    | succ d ih =>
      intro i hi
      have hin : i < n := by omega
      have hbi := inb_nI (show i < 8 by omega) (show 8 < 2 ^ 31 by omega)
      obtain ⟨q1, q2⟩ := hN.1 i (by omega)
      obtain ⟨q3, q4, q5⟩ := hN.2 i hin
      by_cases z1 : C 42 i = 0
      · obtain ⟨C', N', g1, g2, g3, g4⟩ := ih (i + 1) (by omega)
        refine ⟨C', N', g1, g2, fun K m hm hK => ?_, fun K m hm hK => ?_⟩
        · obtain ⟨f, rfl⟩ : ∃ f, m = f + 1 := ⟨m - 1, by omega⟩
          rw [fX7_takeOver_L2, hC, if_neg (nI_ge hin (by omega))]
          simp only [jn, bd]
          rw [tn_nI (show i < 2 ^ 31 by omega), nI_1, if_pos z1]
          exact ⟨hbi, g3 K f (by omega) hK⟩
        · obtain ⟨f, rfl⟩ : ∃ f, m = f + 1 := ⟨m - 1, by omega⟩
          rw [fX8_takeOver_L2, hM, if_neg (nI_ge hin (by omega)), hN14]
          simp only [jn, bd]
          rw [tn_nI (show hh < 2 ^ 31 by omega), if_pos hdN, tn_nI (show i < 2 ^ 31 by omega), nI_1, if_pos (q1.symm.trans z1)]
          exact ⟨hbh, hbi, g4 K f (by omega) hK⟩
      · have z1' : ¬ N.1 72 i = 0 := by rw [← q1]; exact z1
        by_cases z2 : C 43 i < C 0 6
        · obtain ⟨C', N', g1, g2, g3, g4⟩ := ih (i + 1) (by omega)
          have z2' : N.1 76 i < N.1 66 19 := by rw [← q3, ← hk.1]; exact z2
          refine ⟨C', N', g1, g2, fun K m hm hK => ?_, fun K m hm hK => ?_⟩
          · obtain ⟨f, rfl⟩ : ∃ f, m = f + 1 := ⟨m - 1, by omega⟩
            rw [fX7_takeOver_L2, hC, if_neg (nI_ge hin (by omega))]
            simp only [jn, bd]
            rw [tn_nI (show i < 2 ^ 31 by omega), nI_1, if_neg z1, if_pos z2]
            exact ⟨hbi, hbi, g3 K f (by omega) hK⟩
          · obtain ⟨f, rfl⟩ : ∃ f, m = f + 1 := ⟨m - 1, by omega⟩
            rw [fX8_takeOver_L2, hM, if_neg (nI_ge hin (by omega)), hN14]
            simp only [jn, bd]
            rw [tn_nI (show hh < 2 ^ 31 by omega), if_pos hdN, tn_nI (show i < 2 ^ 31 by omega), nI_1, if_neg z1', if_pos z2']
            exact ⟨hbh, hbi, hbi, g4 K f (by omega) hK⟩
        · have z2' : ¬ N.1 76 i < N.1 66 19 := by rw [← q3, ← hk.1]; exact z2
          refine ⟨wr (wr C 0 7 (nI i)) 43 i 0, wrN (wrN N 66 14 (nI i)) 76 i 0, (h0.host hin).mi (fun a a1 _ => wr_off a1) (fun a a1 _ => ?_) (fun v hv => ?_), rfl, fun K m hm hK => ?_, fun K m hm hK => ?_⟩
          · funext b
            show (if a = 76 ∧ b = i then _ else _) = _
            rw [if_neg (fun q => a1 q.1)]
          · show (if 43 = 43 ∧ v = i then (0 : Int32) else C 43 v) = (if 76 = 76 ∧ v = i then (0 : Int32) else N.1 76 v) ∧ (C 42 v = 0 → (if 43 = 43 ∧ v = i then (0 : Int32) else C 43 v) = 0)
            by_cases e : v = i
            · simp [e]
            · simp only [e, and_false, if_false]; exact ⟨(hN.2 v hv).1, (hN.2 v hv).2.2⟩
          · obtain ⟨f, rfl⟩ : ∃ f, m = f + 1 := ⟨m - 1, by omega⟩
            rw [fX7_takeOver_L2, hC, if_neg (nI_ge hin (by omega))]
            simp only [jn, bd]
            rw [tn_nI (show i < 2 ^ 31 by omega), if_neg z1, if_neg z2]
            exact ⟨hbi, hbi, hbi, hK⟩
          · obtain ⟨f, rfl⟩ : ∃ f, m = f + 1 := ⟨m - 1, by omega⟩
            rw [fX8_takeOver_L2, hM, if_neg (nI_ge hin (by omega)), hN14]
            simp only [jn, bd]
            rw [tn_nI (show hh < 2 ^ 31 by omega), if_pos hdN, tn_nI (show i < 2 ^ 31 by omega), nI_1, if_neg z1', if_neg z2']
            refine ⟨hbh, hbi, hbi, hbi, ?_⟩
            obtain ⟨f', rfl⟩ : ∃ f', f = f' + 1 := ⟨f - 1, by omega⟩
            rw [fX8_takeOver_L2]
            by_cases zl : (wrN (wrN N 66 14 (nI i)) 76 i 0).1 66 2 ≤ nI (i + 1)
            · rw [if_pos zl]; exact hK
            · rw [if_neg zl]
              have e14 : (wrN (wrN N 66 14 (nI i)) 76 i 0).1 66 14 = nI i := rfl
              rw [e14, tn_nI (show i < 2 ^ 31 by omega)]
              rw [if_neg (show ¬ (wrN (wrN N 66 14 (nI i)) 76 i 0).1 72 i = 0 from z1')]
              exact ⟨hbi, hK⟩
  obtain ⟨C', N', g1, g2, g3, g4⟩ := key n 0 (by omega)
  exact ⟨C', N', g1, g2, fun K hK => by simp only [fX7_takeOver, jn]; exact g3 K 200 (by omega) hK, fun K hK => by simp only [fX8_takeOver, jn]; exact g4 K 200 (by omega) hK⟩
theorem overM {N : Nm} {n hh : Nat} (hn : n ≤ 8) (hn0 : 0 < n) (hM : N.1 66 2 = nI n) (hhn : hh < n) (h14 : N.1 66 14 = nI hh) (ha : ¬ N.1 72 hh = 0) (K : Nm → Prop) (hK : K N) : fX8_takeOver N K := by
  simp only [fX8_takeOver, jn]
  rw [fX8_takeOver_L2, hM, if_neg (show ¬ nI n ≤ 0 from nI_ge (a := 0) hn0 (by omega)), h14, tn_nI (show hh < 2 ^ 31 by omega), if_neg ha]
  exact ⟨inb_nI (by omega) (by omega), hK⟩
theorem oneRound {n : Nat} {π : Nat → Nat} {cnt : Nat} {C : Xm} {N : Nm} (h : RelP n π cnt C N) (hn0 : 0 < n) {r : Nat} (hr : C 0 8 = nI r) (hr9 : r < 9999) :
    ∃ C' N' d, RelP n π cnt C' N' ∧ C' 0 8 = nI (r + 1) ∧ (∀ K, K d C' → fX7_runOneRound C K) ∧ ∀ K, K d N' → fX8_runRound N K := by
  have hn : n ≤ 8 := h.2.2.2.2.2.2.1
  obtain ⟨C1, N1, a1, a2, a3, a4, a5⟩ := genB h
  obtain ⟨hh, hhn, hC7, hN14⟩ : ∃ hh, hh < n ∧ C1 0 7 = nI hh ∧ N1.1 66 14 = nI hh := by
    obtain ⟨q, q1 | ⟨hh, q1, q2⟩⟩ := a1.2.2.2.2.2.2.2.2.2.1
    · exact absurd q1.1 (by omega)
    · exact ⟨hh, q1, q2, q.symm.trans q2⟩
  have hbh := inb_nI (show hh < 8 by omega) (show 8 < 2 ^ 31 by omega)
  have hC1 : C1 22 1 = nI n := a1.2.2.2.2.2.2.2.1
  have hM1 : N1.1 66 2 = nI n := a1.2.2.2.2.2.2.2.2.1
  have hal := fun v hv => (a1.2.2.2.2.2.2.2.2.2.2.1.1 v hv)
  have bump : ∀ (C2 : Xm) (N2 : Nm), RelP n π cnt C2 N2 → C2 0 8 = nI r → wr C2 0 8 (C2 0 8 + 1) = wr C2 0 8 (nI (r + 1)) ∧ wrN N2 66 15 (N2.1 66 15 + 1) = wrN N2 66 15 (nI (r + 1)) := fun C2 N2 h2 e2 => by
    have e3 : N2.1 66 15 = nI r := h2.2.2.2.2.2.1.1.symm.trans e2
    rw [e2, e3, nI_1]; exact ⟨rfl, rfl⟩
  by_cases zd : C1 42 hh = 0
  · have zd' : N1.1 72 hh = 0 := (hal hh (by omega)).1.symm.trans zd
    have b0 := a1.nos
    obtain ⟨C2, x1, x2, x3⟩ := noteNoX (C := wr C1 64 1 0) hn hC1
    obtain ⟨N2, m1, m2, m3⟩ := noteM (N := wrN N1 66 28 0) 0 hn hM1
    have b1 : RelP n π cnt C2 N2 := b0.mi (fun a q1 _ => x1 a q1) m1 (fun v hv => by
      obtain ⟨w1, w2, w3⟩ := a1.2.2.2.2.2.2.2.2.2.2.1.2 v hv
      have ea := (hal v (by omega)).1
      rw [x2 v hv, (m2 v hv).2]
      show (if C1 42 v = 0 then C1 43 v else C1 43 v + 1) = (if ((0 : Int32) ≠ 0 ∧ N1.1 72 v ≠ 0 ∧ N1.1 73 v ≠ -1) ∨ N1.1 72 v = 0 then 0 else N1.1 76 v + 1) ∧ (C1 42 v = 0 → (if C1 42 v = 0 then C1 43 v else C1 43 v + 1) = 0)
      by_cases z : C1 42 v = 0
      · rw [if_pos z, if_pos (Or.inr (ea.symm.trans z))]; exact ⟨w3 z, w3⟩
      · rw [if_neg z, if_neg (fun q => q.elim (fun q => q.1 rfl) (fun q => z (ea.trans q))), w1]; exact ⟨rfl, fun q => absurd q z⟩)
    have e0 : C2 0 = C1 0 := x1 0 (by decide)
    have e42 : C2 42 = C1 42 := x1 42 (by decide)
    obtain ⟨C3, N3, c1, c2, c3, c4⟩ := overB b1 hhn (by rw [e0]; exact hC7) (by rw [e42]; exact zd)
    have e8 : C3 0 8 = nI r := by rw [c2, e0, a2]; exact hr
    obtain ⟨u1, u2⟩ := bump C3 N3 c1 e8
    refine ⟨_, _, 0, c1.rnd (r := r + 1) (by omega), rfl, fun K hK => ?_, fun K hK => ?_⟩
    · simp only [fX7_runOneRound, jn, bd]
      refine a4 _ ⟨by rw [hC7]; exact hbh, ?_⟩
      rw [hC7, tn_nI (show hh < 2 ^ 31 by omega), if_pos zd]
      refine x3 _ (c3 _ ?_)
      rw [u1]; exact hK
    · simp only [fX8_runRound, fX8_spreadSchedule, jn, bd]
      refine a5 _ ⟨by rw [hN14]; exact hbh, ?_⟩
      rw [hN14, tn_nI (show hh < 2 ^ 31 by omega), zd', if_pos rfl]
      refine m3 _ _ ?_
      rw [fX8_runRound_L12, m1 66 (by decide) (by decide), if_pos (show (wrN N1 66 28 0).1 66 28 ≤ 0 from Int32.le_refl 0)]
      refine c4 _ ?_
      rw [u2]; exact hK
  · have zd' : ¬ N1.1 72 hh = 0 := fun q => zd ((hal hh (by omega)).1.trans q)
    obtain ⟨C2, N2, en, z, b1, b2, b3, b4, b5, b6, b7⟩ := buildB a1
    have e0 : C2 0 = C1 0 := b3 0 (by decide) (by decide)
    have e42 : C2 42 = C1 42 := b3 42 (by decide) (by decide)
    have e14 : N2.1 66 14 = nI hh := (b5 14 (by decide)).trans hN14
    obtain ⟨C3, N3, c1, fx, fm, g3, g4, g5, rr, g6⟩ := b1.flood hn0 ((1 : Int32) <<< (nI hh &&& 31)) (fun u hu hi => by rw [(ib_one hh (by omega) u (by omega)).mp hi, e42]; exact zd)
    have x42 : C3 42 = C1 42 := (fx.1 42 (by decide) (by decide) (by decide) (by decide) (by decide)).trans e42
    have x0 : C3 0 = C1 0 := (fx.1 0 (by decide) (by decide) (by decide) (by decide) (by decide)).trans e0
    have hC3 : C3 22 1 = nI n := c1.2.2.2.2.2.2.2.1
    have hM3 : N3.1 66 2 = nI n := c1.2.2.2.2.2.2.2.2.1
    obtain ⟨C4, p1, p2, p3⟩ := noteX (C := C3) hn hC3
    obtain ⟨N4, m1, m2, m3⟩ := noteM (N := N3) (N1.1 72 hh) hn hM3
    have hal3 := fun v hv => (c1.2.2.2.2.2.2.2.2.2.2.1.1 v hv)
    have key : ∀ v, v < n → (C3 48 v = -1 ↔ ¬ (N1.1 72 hh ≠ 0 ∧ N3.1 72 v ≠ 0 ∧ N3.1 73 v ≠ -1)) ∧ (C3 48 v ≠ -1 → C3 42 v ≠ 0) := fun v hv => by
      have q1 := g3 v (by omega)
      have q2 := g4 v (by omega)
      have q3 := (hal3 v (by omega)).1
      have q4 : C3 48 v ≠ -1 → C3 42 v ≠ 0 := fun q => by rw [x42, ← e42]; exact (q1 q).2
      refine ⟨⟨fun q w => w.2.2 (q2.symm.trans q), fun q => ?_⟩, q4⟩
      refine Classical.byContradiction fun w => q ⟨zd', ?_, ?_⟩
      · rw [← q3]; exact q4 w
      · rw [← q2]; exact w
    have d1 : RelP n π cnt C4 N4 := c1.mi p1 m1 (fun v hv => by
      obtain ⟨w1, w2, w3⟩ := c1.2.2.2.2.2.2.2.2.2.2.1.2 v hv
      have ea := (hal3 v (by omega)).1
      rw [(p2 v hv).2, (m2 v hv).2]
      by_cases zz : C3 48 v = -1
      · have nn := (key v hv).1.mp zz
        rw [if_pos zz]
        by_cases z : C3 42 v = 0
        · rw [if_pos z, if_pos (Or.inr (ea.symm.trans z))]; exact ⟨w3 z, w3⟩
        · rw [if_neg z, if_neg (fun q => q.elim nn (fun q => z (ea.trans q))), w1]; exact ⟨rfl, fun q => absurd q z⟩
      · have nn := Classical.byContradiction fun q => zz ((key v hv).1.mpr q)
        rw [if_neg zz, if_pos (Or.inl nn)]; exact ⟨rfl, fun _ => rfl⟩)
    have d2 : Inf n C4 N4 := fun v hv => by
      rw [(p2 v hv).1, (m2 v hv).1, p1 42 (by decide) (by decide)]
      by_cases zz : C3 48 v = -1
      · rw [if_pos zz, if_neg ((key v hv).1.mp zz)]; exact ⟨rfl, bl_0, fun q => absurd rfl q⟩
      · rw [if_neg zz, if_pos (Classical.byContradiction fun q => zz ((key v hv).1.mpr q))]; exact ⟨rfl, bl_1, fun _ => (key v hv).2 zz⟩
    have d3 : Ent π cnt C4 N4 en z 0 := by
      obtain ⟨q1, q2, q3, q4, q5, q6⟩ := b2
      have hS := c1.2.2.2.2.2.2.2.2.2.2.2.2.2.1
      have s6 := hS.1
      refine ⟨q1, ?_, ?_, fun k hk => ?_, fun k k0 hk => ?_, q6⟩
      · rw [p1 64 (by decide) (by decide), fx.1 64 (by decide) (by decide) (by decide) (by decide) (by decide)]; exact q2
      · rw [m1 66 (by decide) (by decide), fm.1 66 28 (by decide) (by decide) (by decide) (by decide) (by decide) (by decide)]; exact q3
      · rw [p1 65 (by decide) (by decide), fx.1 65 (by decide) (by decide) (by decide) (by decide) (by decide), m1 84 (by decide) (by decide), fm.1 84 k (by decide) (by decide) (by decide) (by decide) (by decide) (by omega)]; exact q4 k hk
      · rw [p1 (52 + 2 * π (en k)) (by omega) (by omega), fx.1 (52 + 2 * π (en k)) (by omega) (by omega) (by omega) (by omega) (by omega)]; exact q5 k k0 hk
    obtain ⟨C5, N5, s, k1, k2, k3, k4, k5, k6⟩ := serveB hn0 z 0 C4 N4 (by omega) d1 d2 d3
    have z6 : z ≤ 6 := b2.1
    have e8 : C5 0 8 = nI r := by rw [k2.2, p1 0 (by decide) (by decide), x0, a2]; exact hr
    obtain ⟨u1, u2⟩ := bump C5 N5 k1 e8
    refine ⟨_, _, 0 + s, k1.rnd (r := r + 1) (by omega), rfl, fun K hK => ?_, fun K hK => ?_⟩
    · simp only [fX7_runOneRound, fX7_serveSchedule, jn, bd]
      refine a4 _ ⟨by rw [hC7]; exact hbh, ?_⟩
      rw [hC7, tn_nI (show hh < 2 ^ 31 by omega), if_neg zd]
      refine b6 _ ?_
      rw [e0, hC7]
      refine g5 _ (p3 _ (k5 _ _ 200 0 (by omega) ?_))
      rw [u1]; exact hK
    · simp only [fX8_runRound, fX8_spreadSchedule, jn, bd]
      refine a5 _ ⟨by rw [hN14]; exact hbh, ?_⟩
      rw [hN14, tn_nI (show hh < 2 ^ 31 by omega), if_neg zd']
      refine b7 _ ?_
      rw [e14]
      refine g6 _ (m3 _ _ (k6 _ _ 200 0 (by omega) ?_))
      refine overM (n := n) (hh := hh) hn hn0 k1.2.2.2.2.2.2.2.2.1 hhn ?_ ?_ _ ?_
      · rw [k3, m1 66 (by decide) (by decide), fm.1 66 14 (by decide) (by decide) (by decide) (by decide) (by decide) (by decide)]; exact e14
      · rw [k4, m1 72 (by decide) (by decide), ← (hal3 hh (by omega)).1, x42]; exact zd
      · rw [u2]; exact hK
theorem roundsB {n : Nat} {π : Nat → Nat} {cnt a r : Nat} (hn0 : 0 < n) (ha : a ≤ 20) (hra : r + a ≤ 9999) : ∀ (d i : Nat) (C : Xm) (N : Nm), i + d = a → RelP n π cnt C N → C 0 8 = nI (r + i) →
    ∃ C' N' s, RelP n π cnt C' N' ∧ (∀ E K m v, d < m → E (v + s) (nI a) C' → fX7_runRounds_L53 (nI a) E K m v (nI i) C) ∧ ∀ E K m v, d < m → E (v + s) (nI a) N' → fX8_runRounds_L45 (nI a) E K m v (nI i) N := by
  intro d
  induction d with
  | zero =>
    intro i C N hi h h8
    obtain rfl : i = a := by omega
    refine ⟨C, N, 0, h, fun E K m v hm hE => ?_, fun E K m v hm hE => ?_⟩
    · obtain ⟨f, rfl⟩ : ∃ f, m = f + 1 := ⟨m - 1, by omega⟩
      rw [Int32.add_zero] at hE
      rw [fX7_runRounds_L53, if_pos (Int32.le_refl _)]; exact hE
    · obtain ⟨f, rfl⟩ : ∃ f, m = f + 1 := ⟨m - 1, by omega⟩
      rw [Int32.add_zero] at hE
      rw [fX8_runRounds_L45, if_pos (Int32.le_refl _)]; exact hE
  | succ d ih =>
    intro i C N hi h h8
    obtain ⟨C1, N1, d1, a1, a2, a3, a4⟩ := oneRound h hn0 h8 (by omega)
    obtain ⟨C', N', s, b1, b2, b3⟩ := ih (i + 1) C1 N1 (by omega) a1 a2
    refine ⟨C', N', d1 + s, b1, fun E K m v hm hE => ?_, fun E K m v hm hE => ?_⟩
    · obtain ⟨f, rfl⟩ : ∃ f, m = f + 1 := ⟨m - 1, by omega⟩
      rw [fX7_runRounds_L53, if_neg (nI_ge (show i < a by omega) (by omega))]
      simp only [bd]
      refine a3 _ ?_
      rw [nI_1]
      exact b2 E K f (v + d1) (by omega) (by rw [Int32.add_assoc]; exact hE)
    · obtain ⟨f, rfl⟩ : ∃ f, m = f + 1 := ⟨m - 1, by omega⟩
      rw [fX8_runRounds_L45, if_neg (nI_ge (show i < a by omega) (by omega))]
      simp only [bd]
      refine a4 _ ?_
      rw [nI_1]
      exact b3 E K f (v + d1) (by omega) (by rw [Int32.add_assoc]; exact hE)
