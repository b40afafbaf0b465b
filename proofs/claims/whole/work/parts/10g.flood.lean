theorem FrX.trans {C C' C'' : Xm} (h : FrX C C') (h' : FrX C' C'') : FrX C C'' := ⟨fun a a1 a2 a3 a4 a5 => (h'.1 a a1 a2 a3 a4 a5).trans (h.1 a a1 a2 a3 a4 a5), fun k hk => (h'.2 k hk).trans (h.2 k hk)⟩
theorem FrM.trans {N N' N'' : Nm} (h : FrM N N') (h' : FrM N' N'') : FrM N N'' := ⟨fun a b a1 a2 a3 a4 a5 => (h'.1 a b a1 a2 a3 a4 a5).trans (h.1 a b a1 a2 a3 a4 a5), h'.2.trans h.2⟩
theorem floodLoop {n L t : Nat} {b : Nat → Int32} (hn : n ≤ 8) (hL : L ≤ 12) (ht1 : 1 ≤ t) (ht4 : t ≤ 4) : ∀ (d s len : Nat) (C : Xm) (N : Nm), 57 - s ≤ d → s ≤ len → FR n L t b s len C N →
    ∃ (S : Nat) (C' : Xm) (N' : Nm), S ≤ 56 ∧ FR n L t b S S C' N' ∧ FrX C C' ∧ FrM N N' ∧ (∀ p2 E K m, 57 - s < m → E (nI S) C' → fX1_run_L39 p2 E K m (nI s) C) ∧ (∀ p1 E K m, 57 - s < m → E (nI S) N' → fX8_floodNow_L45 p1 E K m (nI s) N) := by
  intro d
  induction d with
  | zero => intro s len C N hd hs h; have := len_b ht4 h; omega
  | succ d ih =>
    intro s len C N hd hs h
    have hlb := len_b ht4 h
    have h0 := h
    obtain ⟨⟨f1, f1b⟩, ⟨f2, f2b⟩, f3, f4, ⟨f5, f5b⟩, f6, ⟨f7, f7b, f7c⟩, f8⟩ := h
    have hRH : ∀ v, v < 8 → RH (C 48 v) (C 49 v) (N.1 73 v) (N.1 74 v) := fun v hv => (f6 v hv).1
    have h64 : ¬ (64 : Int32) ≤ nI s := nI_ge (b := 64) (by omega) (by omega)
    by_cases e : s = len
    · subst e
      refine ⟨s, C, N, hlb, h0, ⟨fun _ _ _ _ _ _ => rfl, fun _ _ => rfl⟩, ⟨fun _ _ _ _ _ _ _ => rfl, rfl⟩, fun p2 E K m hm hE => ?_, fun p1 E K m hm hE => ?_⟩
      · obtain ⟨m, rfl⟩ : ∃ k, m = k + 1 := ⟨m - 1, by omega⟩
        rw [fX1_run_L39, if_neg h64, f7, if_pos (Int32.le_refl _)]; exact hE
      · obtain ⟨m, rfl⟩ : ∃ k, m = k + 1 := ⟨m - 1, by omega⟩
        rw [fX8_floodNow_L45]
        refine lastM (P := C 48) (H := C 49) hn f1b f2b ht1 ht4 (by omega) hRH f7b _ ?_
        have hlt : nI s - 1 < nI s := by
          rw [Int32.lt_iff_toInt_lt, nI_toInt (by omega)]
          have : (nI s - 1).toInt = (s : Int) - 1 := pk_sub_toInt (a := s) (b := 1) (by omega) (by omega)
          omega
        rw [if_pos hlt]; exact hE
    · have hP : ∀ u, u < 8 → C 48 u = -1 ∨ ∃ q, q < 8 ∧ C 48 u = nI q := fun u hu => by
        rcases (hRH u hu).2 with ⟨z, _⟩ | ⟨q, _, z, _, z2, _⟩
        · exact Or.inl z
        · exact Or.inr ⟨q, z, z2⟩
      obtain ⟨C1, x1, x2, x3, x4⟩ := slotX (C := C) (s := s) hn f1 f2 ht1 ht4 (by omega) f7 (by omega) hP
      obtain ⟨N1, m1, m2, m3, m4⟩ := slotM (N := N) (P := C 48) (H := C 49) (s := s) hn f1b hL f5 (fun k hk => by
        obtain ⟨a, b, _, _, g1, g2, _, _, _, _, g7, g8, _⟩ := f5b.1 k hk
        exact ⟨a, b, g1, g2, g7, g8⟩) hRH (by omega)
      obtain ⟨len', hl', h1⟩ := FR_step hn hL ht1 ht4 (by omega) h0 x1 x2 x3 m1 m2 m3
      obtain ⟨S, C', N', g1, g2, g3, g4, g5, g6⟩ := ih (s + 1) len' C1 N1 (by omega) (by omega) h1
      refine ⟨S, C', N', g1, g2, x1.trans g3, m1.trans g4, fun p2 E K m hm hE => ?_, fun p1 E K m hm hE => ?_⟩
      · obtain ⟨m, rfl⟩ : ∃ k, m = k + 1 := ⟨m - 1, by omega⟩
        rw [fX1_run_L39, if_neg h64, f7, if_neg (nI_ge (show s < len by omega) (by omega))]
        refine x4 _ ?_
        simp only [bd]
        rw [nI_1]
        exact g5 p2 E K m (by omega) hE
      · obtain ⟨m, rfl⟩ : ∃ k, m = k + 1 := ⟨m - 1, by omega⟩
        rw [fX8_floodNow_L45]
        refine lastM (P := C 48) (H := C 49) hn f1b f2b ht1 ht4 (by omega) hRH f7b _ ?_
        have hlt : ¬ nI len - 1 < nI s := by
          rw [Int32.lt_iff_toInt_lt, nI_toInt (by omega)]
          have : (nI len - 1).toInt = (len : Int) - 1 := pk_sub_toInt (a := len) (b := 1) (by omega) (by omega)
          omega
        rw [if_neg hlt]
        simp only [jn, bd]
        exact m4 p1 E K m (g6 p1 E K m (by omega) hE)
/-- bit v of the initiators -/
def ib (mask : Int32) (v : Nat) : Prop := ((mask >>> (nI v &&& 31)) &&& 1) = 1
theorem initX {C : Xm} {n t : Nat} (mask : Int32) (hn : n ≤ 8) (hC : C 22 1 = nI n) (ht : C 46 4 = nI t) (ht1 : 1 ≤ t) (ht4 : t ≤ 4) :
    ∃ C' len, FrX C C' ∧ C' 46 3 = nI len ∧ ((len = 0 ∧ ∀ v, v < n → ¬ ib mask v) ∨ (len = 2 * t - 1 ∧ ∃ v, v < n ∧ ib mask v)) ∧
      (∀ v, v < 8 → (v < n ∧ ib mask v ∧ C' 48 v = nI v ∧ C' 49 v = nI 0 ∧ C' 44 v = C 44 v + nI t) ∨ (¬ (v < n ∧ ib mask v) ∧ C' 48 v = -1 ∧ C' 49 v = -1 ∧ C' 44 v = C 44 v)) ∧
      ∀ K, fX1_run_L39 mask (fun _ C17 => K C17) K 200 0 C' → fX1_run C mask K := by
  obtain ⟨C0, hC0⟩ : ∃ Z, Z = wr (flR (flR C 48 8 (-1)) 49 8 (-1)) 46 3 0 := ⟨_, rfl⟩
  have c1 : FrX C C0 := ⟨fun a a1 a2 a3 a4 a5 => by rw [hC0, wr_off a2]; unfold flR wrR; rw [if_neg a5, if_neg a4], fun k hk => by rw [hC0, wr_row]; unfold upd; rw [if_neg hk]; rfl⟩
  have c2 : ∀ v, v < 8 → C0 48 v = -1 ∧ C0 49 v = -1 ∧ C0 44 v = C 44 v := fun v hv => by
    rw [hC0]
    refine ⟨?_, ?_, rfl⟩
    · show (flR (flR C 48 8 (-1)) 49 8 (-1)) 48 v = -1
      unfold flR wrR; simp [hv]
    · show (flR (flR C 48 8 (-1)) 49 8 (-1)) 49 v = -1
      unfold flR wrR; simp [hv]
  have c3 : C0 46 3 = nI 0 := by rw [hC0, wr_row]; rfl
  obtain ⟨C', ⟨⟨len, l1, l2⟩, h1, h2⟩, h3⟩ := ex_loop (F := fun (t : (Int32 → Xm → Prop) × (Xm → Prop)) m i C' => fX1_run_L6 mask t.1 t.2 m (nI i) C') (X := fun t C' => t.1 (nI n) C')
    (I := fun i C' => (∃ len, C' 46 3 = nI len ∧ ((len = 0 ∧ ∀ v, v < i → ¬ ib mask v) ∨ (len = 2 * t - 1 ∧ ∃ v, v < i ∧ ib mask v))) ∧ FrX C C' ∧
      (∀ v, v < 8 → (v < i ∧ ib mask v ∧ C' 48 v = nI v ∧ C' 49 v = nI 0 ∧ C' 44 v = C 44 v + nI t) ∨ (¬ (v < i ∧ ib mask v) ∧ C' 48 v = -1 ∧ C' 49 v = -1 ∧ C' 44 v = C 44 v))) n
    (fun t' m C' hI h => by
      rw [fX1_run_L6, hI.2.1.1 22 (by decide) (by decide) (by decide) (by decide) (by decide), hC, if_pos (Int32.le_refl _)]; exact h)
    (fun i C' hi hI => by
      obtain ⟨⟨len, l1, l2⟩, g1, g2⟩ := hI
      have hi8 : i < 8 := by omega
      have hlt : ¬ C' 22 1 ≤ nI i := by rw [g1.1 22 (by decide) (by decide) (by decide) (by decide) (by decide), hC]; exact nI_ge hi (by omega)
      by_cases z : ib mask i
      · have hlen : len ≤ 1000 := by omega
        have hold44 : C' 44 i = C 44 i := by
          rcases g2 i hi8 with ⟨w, _⟩ | ⟨_, _, _, w⟩
          · omega
          · exact w
        refine ⟨wr (wr (wr (wr C' 48 i (nI i)) 49 i (nI 0)) 44 i (C' 44 i + nI t)) 46 3 (nI (if len < 0 + 2 * t - 1 then 0 + 2 * t - 1 else len)), ⟨⟨_, by rw [wr_row]; unfold upd; rw [if_pos rfl], Or.inr ⟨?_, i, by omega, z⟩⟩, ?_, fun v hv => ?_⟩, fun t' m h => ?_⟩
        · rcases l2 with ⟨w, _⟩ | ⟨w, _⟩
          · rw [w]; split <;> omega
          · rw [w]; split <;> omega
        · refine g1.trans ⟨fun a a1 a2 a3 a4 a5 => by rw [wr_off a2, wr_off a1, wr_off a5, wr_off a4], fun k hk => by rw [wr_row]; unfold upd; rw [if_neg hk]; rfl⟩
        · by_cases e : v = i
          · subst e
            left
            refine ⟨by omega, z, ?_, ?_, ?_⟩
            · simp [wr]
            · simp [wr]
            · simp [wr]; rw [hold44]
          · have r : ∀ w, wr (wr (wr (wr C' 48 i (nI i)) 49 i (nI 0)) 44 i (C' 44 i + nI t)) 46 3 w 48 v = C' 48 v ∧ wr (wr (wr (wr C' 48 i (nI i)) 49 i (nI 0)) 44 i (C' 44 i + nI t)) 46 3 w 49 v = C' 49 v ∧ wr (wr (wr (wr C' 48 i (nI i)) 49 i (nI 0)) 44 i (C' 44 i + nI t)) 46 3 w 44 v = C' 44 v := fun w => by simp [wr, e]
            obtain ⟨r1, r2, r3⟩ := r (nI (if len < 0 + 2 * t - 1 then 0 + 2 * t - 1 else len))
            rw [r1, r2, r3]
            rcases g2 v hv with ⟨w1, w2⟩ | ⟨w1, w2⟩
            · exact Or.inl ⟨by omega, w2⟩
            · exact Or.inr ⟨fun y => w1 ⟨by omega, y.2⟩, w2⟩
        · show fX1_run_L6 mask t'.1 t'.2 (m + 1) (nI i) C'
          rw [fX1_run_L6, if_neg hlt]
          simp only [jn, bd]
          unfold ib at z
          rw [if_pos z, nI_1]
          exact holdX (t := t) (len := len) (h := 0) hi8 (by rw [g1.2 4 (by decide)]; exact ht) l1 ht1 ht4 (by omega) hlen (nI i) _ h
      · refine ⟨C', ⟨⟨len, l1, ?_⟩, g1, fun v hv => ?_⟩, fun t' m h => ?_⟩
        · rcases l2 with ⟨w1, w2⟩ | ⟨w1, v, w2, w3⟩
          · refine Or.inl ⟨w1, fun v hv => ?_⟩
            by_cases e : v = i
            · rw [e]; exact z
            · exact w2 v (by omega)
          · exact Or.inr ⟨w1, v, by omega, w3⟩
        · rcases g2 v hv with ⟨w1, w2⟩ | ⟨w1, w2⟩
          · exact Or.inl ⟨by omega, w2⟩
          · refine Or.inr ⟨fun y => ?_, w2⟩
            by_cases e : v = i
            · rw [e] at y; exact z y.2
            · exact w1 ⟨by omega, y.2⟩
        · show fX1_run_L6 mask t'.1 t'.2 (m + 1) (nI i) C'
          rw [fX1_run_L6, if_neg hlt]
          simp only [jn, bd]
          unfold ib at z
          rw [if_neg z, nI_1]; exact h)
    0 200 C0 (by omega) (by omega) ⟨⟨0, c3, Or.inl ⟨rfl, fun v hv => absurd hv (Nat.not_lt_zero v)⟩⟩, c1, fun v hv => Or.inr ⟨fun y => absurd y.1 (Nat.not_lt_zero v), c2 v hv⟩⟩
  refine ⟨C', len, h1, l1, l2, h2, fun K hK => ?_⟩
  simp only [fX1_run, fX1_forget, jn, bd]
  rw [← hC0]
  exact h3 (fun _ C10 => _, K) hK
/-- the reference's rows: nothing but 66/13, 73, 74, 75, 89, 90 changes -/
def FrN (N N' : Nm) : Prop := (∀ a b, a ≠ 73 → a ≠ 74 → a ≠ 75 → a ≠ 89 → a ≠ 90 → ¬ (a = 66 ∧ b = 13) → N'.1 a b = N.1 a b) ∧ N'.2 = N.2
theorem forgetM (N : Nm) : ∃ N', (∀ a b, a ≠ 73 → a ≠ 74 → ¬ (a = 66 ∧ b = 13) → N'.1 a b = N.1 a b) ∧ N'.2 = N.2 ∧ N'.1 66 13 = 0 ∧ (∀ v, v < 8 → N'.1 73 v = -1 ∧ N'.1 74 v = -2) ∧ ∀ K, K N' → fX8_forgetFlood N K := by
  obtain ⟨N', ⟨h1, h2, h3⟩, h4⟩ := ex_loop (F := fun (t : (Int32 → Nm → Prop) × (Nm → Prop)) m i N' => fX8_forgetFlood_L2 t.1 t.2 m (nI i) N') (X := fun t N' => t.1 (nI 8) N')
    (I := fun i N' => (∀ a b, a ≠ 73 → a ≠ 74 → N'.1 a b = N.1 a b) ∧ N'.2 = N.2 ∧ ∀ v, v < i → N'.1 73 v = -1 ∧ N'.1 74 v = -2) 8
    (fun t m N' hI h => by rw [fX8_forgetFlood_L2, if_pos (show (8 : Int32) ≤ nI 8 by decide)]; exact h)
    (fun i N' hi hI => by
      obtain ⟨g1, g2, g3⟩ := hI
      have hb := inb_nI hi (show 8 < 2 ^ 31 by omega)
      refine ⟨wrN (wrN N' 73 i (-1)) 74 i (-2), ⟨fun a b a1 a2 => ?_, g2, fun v hv => ?_⟩, fun t m h => ?_⟩
      · simp only [wrN, a1, a2, false_and, if_false]; exact g1 a b a1 a2
      · by_cases e : v = i
        · subst e; simp [wrN]
        · have := g3 v (by omega)
          simp [wrN, e]; exact this
      · show fX8_forgetFlood_L2 t.1 t.2 (m + 1) (nI i) N'
        rw [fX8_forgetFlood_L2, if_neg (show ¬ (8 : Int32) ≤ nI i from nI_ge (b := 8) hi (by omega))]
        simp only [bd]
        rw [tn_nI (show i < 2 ^ 31 by omega), nI_1]
        exact ⟨hb, hb, h⟩)
    0 200 N (by omega) (by omega) ⟨fun _ _ _ _ => rfl, rfl, fun v hv => absurd hv (Nat.not_lt_zero v)⟩
  refine ⟨wrN N' 66 13 0, fun a b a1 a2 a3 => ?_, h2, by simp [wrN], fun v hv => ?_, fun K hK => ?_⟩
  · simp only [wrN, a3, if_false]; exact h1 a b a1 a2
  · have := h3 v hv
    simp [wrN]; exact this
  · simp only [fX8_forgetFlood, jn, bd]
    exact h4 (fun _ N9 => _, K) hK
theorem initM {N : Nm} {n : Nat} (mask : Int32) (hn : n ≤ 8) (hM : N.1 66 2 = nI n) :
    ∃ N', FrN N N' ∧ (∀ v, N'.1 75 v = N.1 75 v) ∧ (∀ v, v < 8 → (v < n ∧ ib mask v ∧ N'.1 73 v = nI v ∧ N'.1 74 v = -1) ∨ (¬ (v < n ∧ ib mask v) ∧ N'.1 73 v = -1 ∧ N'.1 74 v = -2)) ∧
      ∀ K, fX8_floodNow_L45 mask (fun x61 N62 => fX8_holders (wrN N62 66 13 x61) (fun r64 => K r64 (wrN N62 66 13 x61))) K 200 0 N' → fX8_floodNow N mask K := by
  obtain ⟨N0, a1, a2, a3, a4, a5⟩ := forgetM N
  obtain ⟨N', ⟨h1, h2, h3⟩, h4⟩ := ex_loop (F := fun (t : (Int32 → Nm → Prop) × (Int32 → Nm → Prop)) m i N' => fX8_floodNow_L6 mask t.1 t.2 m (nI i) N') (X := fun t N' => t.1 (nI n) N')
    (I := fun i N' => (∀ a b, a ≠ 73 → a ≠ 74 → N'.1 a b = N0.1 a b) ∧ N'.2 = N0.2 ∧ (∀ v, v < 8 → (v < i ∧ ib mask v ∧ N'.1 73 v = nI v ∧ N'.1 74 v = -1) ∨ (¬ (v < i ∧ ib mask v) ∧ N'.1 73 v = -1 ∧ N'.1 74 v = -2))) n
    (fun t m N' hI h => by
      rw [fX8_floodNow_L6, hI.1 66 2 (by decide) (by decide), a1 66 2 (by decide) (by decide) (by decide), hM, if_pos (Int32.le_refl _)]; exact h)
    (fun i N' hi hI => by
      obtain ⟨g1, g2, g3⟩ := hI
      have hi8 : i < 8 := by omega
      have hb := inb_nI hi8 (show 8 < 2 ^ 31 by omega)
      have hlt : ¬ N'.1 66 2 ≤ nI i := by rw [g1 66 2 (by decide) (by decide), a1 66 2 (by decide) (by decide) (by decide), hM]; exact nI_ge hi (by omega)
      by_cases z : ib mask i
      · refine ⟨wrN (wrN N' 73 i (nI i)) 74 i (-1), ⟨fun a b b1 b2 => ?_, g2, fun v hv => ?_⟩, fun t m h => ?_⟩
        · simp only [wrN, b1, b2, false_and, if_false]; exact g1 a b b1 b2
        · by_cases e : v = i
          · subst e; left; refine ⟨by omega, z, ?_, ?_⟩ <;> simp [wrN]
          · have r1 : (wrN (wrN N' 73 i (nI i)) 74 i (-1)).1 73 v = N'.1 73 v := by simp [wrN, e]
            have r2 : (wrN (wrN N' 73 i (nI i)) 74 i (-1)).1 74 v = N'.1 74 v := by simp [wrN, e]
            rw [r1, r2]
            rcases g3 v hv with ⟨w1, w2⟩ | ⟨w1, w2⟩
            · exact Or.inl ⟨by omega, w2⟩
            · exact Or.inr ⟨fun y => w1 ⟨by omega, y.2⟩, w2⟩
        · show fX8_floodNow_L6 mask t.1 t.2 (m + 1) (nI i) N'
          rw [fX8_floodNow_L6, if_neg hlt]
          simp only [jn, bd]
          unfold ib at z
          rw [if_pos z, tn_nI (show i < 2 ^ 31 by omega), nI_1]
          exact ⟨hb, hb, h⟩
      · refine ⟨N', ⟨g1, g2, fun v hv => ?_⟩, fun t m h => ?_⟩
        · rcases g3 v hv with ⟨w1, w2⟩ | ⟨w1, w2⟩
          · exact Or.inl ⟨by omega, w2⟩
          · refine Or.inr ⟨fun y => ?_, w2⟩
            by_cases e : v = i
            · rw [e] at y; exact z y.2
            · exact w1 ⟨by omega, y.2⟩
        · show fX8_floodNow_L6 mask t.1 t.2 (m + 1) (nI i) N'
          rw [fX8_floodNow_L6, if_neg hlt]
          simp only [jn, bd]
          unfold ib at z
          rw [if_neg z, nI_1]; exact h)
    0 200 N0 (by omega) (by omega) ⟨fun _ _ _ _ => rfl, rfl, fun v hv => Or.inr ⟨fun y => absurd y.1 (Nat.not_lt_zero v), a4 v hv⟩⟩
  refine ⟨N', ⟨fun a b b1 b2 b3 b4 b5 b6 => (h1 a b b1 b2).trans (a1 a b b1 b2 b6), h2.trans a2⟩, fun v => (h1 75 v (by decide) (by decide)).trans (a1 75 v (by decide) (by decide) (by omega)), h3, fun K hK => ?_⟩
  simp only [fX8_floodNow, jn, bd]
  refine a5 _ ?_
  exact h4 (fun _ N13 => _, K) hK
