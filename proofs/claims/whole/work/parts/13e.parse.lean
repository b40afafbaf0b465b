/-- the text that both sides read -/
def Txt (len : Nat) (C : Xm) (N : Nm) : Prop := len ≤ 61 ∧ C 1 1 = nI len ∧ N.1 66 0 = nI len ∧ ∀ j, j < len → ∃ c : Nat, 32 ≤ c ∧ c ≤ 126 ∧ C 2 j = nI c ∧ N.1 67 j = nI c
theorem Txt.off {len : Nat} {C C' : Xm} {N N' : Nm} (h : Txt len C N) (x : PFx C C') (m : PFn N N') : Txt len C' N' := by
  obtain ⟨h1, h2, h3, h4⟩ := h
  refine ⟨h1, x.2.trans h2, (m.2 0 (by omega)).trans h3, fun j hj => ?_⟩
  rw [x.1 2 (by decide) (by omega), m.1 67 (by decide) (by omega)]; exact h4 j hj
theorem PFx.rfl' (C : Xm) : PFx C C := ⟨fun _ _ _ => rfl, rfl⟩
theorem PFn.rfl' (N : Nm) : PFn N N := ⟨fun _ _ _ => rfl, fun _ _ => rfl⟩
theorem parseL {len : Nat} : ∀ (d i : Nat) (st v2 v3 : Int32) (C : Xm) (N : Nm), i + d = len → Txt len C N → PI i st v2 v3 C N →
    ∃ C' N' p, PFx C C' ∧ PFn N N' ∧ p ≤ len ∧ N'.1 66 36 = nI p ∧
      ((p = len ∧ ∃ st' v2' v3', PI len st' v2' v3' C' N' ∧ (∀ E K m, d < m → E (nI len) C' → fX0_findError_L19 E K m (nI i) C) ∧ ∀ E K m, d < m → E st' v2' v3' 1 N' → fX8_parse_L24 E K m st v2 v3 1 N) ∨
       (p < len ∧ ∃ w1 w2 w3, (∀ E K m, d < m → K (nI p) C' → fX0_findError_L19 E K m (nI i) C) ∧ ∀ E K m, d + 1 < m → E w1 w2 w3 0 N' → fX8_parse_L24 E K m st v2 v3 1 N)) := by
  intro d
  induction d with
  | zero =>
    intro i st v2 v3 C N hi ht hp
    obtain rfl : i = len := by omega
    have h36 : N.1 66 36 = nI i := by
      rcases hp with ⟨_, q⟩ | ⟨_, _, _, q, _⟩ | ⟨_, _, _, _, q, _⟩ | ⟨_, _, _, _, _, q, _⟩ | ⟨_, _, _, _, _, _, q, _⟩ | ⟨_, _, _, _, _, q, _⟩ <;> exact q.1
    refine ⟨C, N, i, PFx.rfl' C, PFn.rfl' N, Nat.le_refl i, h36, Or.inl ⟨rfl, st, v2, v3, hp, fun E K m hm hE => ?_, fun E K m hm hE => ?_⟩⟩
    · obtain ⟨f, rfl⟩ : ∃ f, m = f + 1 := ⟨m - 1, by omega⟩
      rw [fX0_findError_L19, ht.2.1, if_pos (Int32.le_refl _)]; exact hE
    · obtain ⟨f, rfl⟩ : ∃ f, m = f + 1 := ⟨m - 1, by omega⟩
      rw [fX8_parse_L24, if_neg (by decide), ht.2.2.1, h36, if_pos (Int32.le_refl _)]; exact hE
  | succ d ih =>
    intro i st v2 v3 C N hi ht hp
    obtain ⟨t1, t2, t3, t4⟩ := ht
    obtain ⟨c, c1, c2, cx, cn⟩ := t4 i (by omega)
    have hbi := inb_nI (show i < 61 by omega) (show 61 < 2 ^ 31 by omega)
    have hxs : ∀ (E : Int32 → Xm → Prop) (K : Int32 → Xm → Prop) (m : Nat), (fX0_accepts C (nI c) fun r6 C7 => if r6 = 0 then K (nI i) C7 else fX0_findError_L19 E K m (nI (i + 1)) C7) → fX0_findError_L19 E K (m + 1) (nI i) C := fun E K m hh => by
      rw [fX0_findError_L19, t2, if_neg (nI_ge (show i < len by omega) (by omega))]
      simp only [bd]
      rw [tn_nI (show i < 2 ^ 31 by omega), cx, nI_1]
      exact ⟨hbi, hh⟩
    rcases stp hp (show i < len by omega) t1 t3 cn c1 c2 with ⟨st', v2', v3', C1, N1, a1, a2, a3, a4, a5⟩ | ⟨w1, w2, w3, N1, a1, a2, a3, a4⟩
    · have ht1 : Txt len C N := ⟨t1, t2, t3, t4⟩
      obtain ⟨C', N', p, b1, b2, b3, b4, b5⟩ := ih (i + 1) st' v2' v3' C1 N1 (by omega) (ht1.off a2 a3) a1
      refine ⟨C', N', p, a2.trans b1, a3.trans b2, b3, b4, ?_⟩
      rcases b5 with ⟨e1, s1, s2, s3, e2, e3, e4⟩ | ⟨e1, s1, s2, s3, e3, e4⟩
      · refine Or.inl ⟨e1, s1, s2, s3, e2, fun E K m hm hE => ?_, fun E K m hm hE => ?_⟩
        · obtain ⟨f, rfl⟩ : ∃ f, m = f + 1 := ⟨m - 1, by omega⟩
          refine hxs E K f (a4 _ ?_)
          rw [if_neg (by decide)]; exact e3 E K f (by omega) hE
        · obtain ⟨f, rfl⟩ : ∃ f, m = f + 1 := ⟨m - 1, by omega⟩
          exact a5 E K f (e4 E K f (by omega) hE)
      · refine Or.inr ⟨e1, s1, s2, s3, fun E K m hm hE => ?_, fun E K m hm hE => ?_⟩
        · obtain ⟨f, rfl⟩ : ∃ f, m = f + 1 := ⟨m - 1, by omega⟩
          refine hxs E K f (a4 _ ?_)
          rw [if_neg (by decide)]; exact e3 E K f (by omega) hE
        · obtain ⟨f, rfl⟩ : ∃ f, m = f + 1 := ⟨m - 1, by omega⟩
          exact a5 E K f (e4 E K f (by omega) hE)
    · refine ⟨C, N1, i, PFx.rfl' C, a1, by omega, a2, Or.inr ⟨by omega, w1, w2, w3, fun E K m hm hE => ?_, fun E K m hm hE => ?_⟩⟩
      · obtain ⟨f, rfl⟩ : ∃ f, m = f + 1 := ⟨m - 1, by omega⟩
        refine hxs E K f (a3 _ ?_)
        rw [if_pos rfl]; exact hE
      · obtain ⟨f, rfl⟩ : ∃ f, m = f + 2 := ⟨m - 2, by omega⟩
        refine a4 E K (f + 1) ?_
        rw [fX8_parse_L24, if_pos rfl]; exact hE
theorem clearX (C : Xm) : ∃ C', (∀ a, ¬ (5 ≤ a ∧ a < 22) → C' a = C a) ∧ (∀ i j, i < 8 → j < 8 → C' (5 + i) j = 0 ∧ C' (14 + i) j = 0) ∧ ∀ K, K C' → fX2_clear C K := by
  obtain ⟨C1, ⟨h1, h2⟩, h3⟩ := ex_loop (F := fun (t : (Int32 → Xm → Prop) × (Xm → Prop)) m i C' => fX2_clear_L2 t.1 t.2 m (nI i) C') (X := fun t C' => t.1 (nI 8) C')
    (I := fun i C' => (∀ a, ¬ (5 ≤ a ∧ a < 22) → C' a = C a) ∧ ∀ k j, k < i → j < 8 → C' (5 + k) j = 0 ∧ C' (14 + k) j = 0) 8
    (fun t m C' hI h => by rw [fX2_clear_L2, if_pos (show (8 : Int32) ≤ nI 8 from Int32.le_refl _)]; exact h)
    (fun i C' hi hI => by
      obtain ⟨g1, g2⟩ := hI
      have hb := inb_nI (show i < 8 by omega) (show 8 < 2 ^ 31 by omega)
      refine ⟨flR (flR C' (5 + i) 8 0) (14 + i) 8 0, ⟨fun a ha => ?_, fun k j hk hj => ?_⟩, fun t m h => ?_⟩
      · unfold flR wrR; rw [if_neg (by omega), if_neg (by omega)]; exact g1 a ha
      · unfold flR wrR
        by_cases e : k = i
        · subst e
          refine ⟨?_, ?_⟩
          · rw [if_neg (by omega), if_pos rfl, if_pos hj]
          · rw [if_pos rfl, if_pos hj]
        · refine ⟨?_, ?_⟩
          · rw [if_neg (by omega), if_neg (by omega)]; exact (g2 k j (by omega) hj).1
          · rw [if_neg (by omega), if_neg (by omega)]; exact (g2 k j (by omega) hj).2
      · show fX2_clear_L2 t.1 t.2 (m + 1) (nI i) C'
        rw [fX2_clear_L2, if_neg (show ¬ (8 : Int32) ≤ nI i from nI_ge (b := 8) hi (by omega))]
        simp only [bd]
        rw [tn_nI (show i < 2 ^ 31 by omega), nI_1]
        exact ⟨hb, hb, h⟩)
    0 200 C (by omega) (by omega) ⟨fun _ _ => rfl, fun k _ hk => absurd hk (Nat.not_lt_zero k)⟩
  refine ⟨C1, h1, fun i j hi hj => h2 i j hi hj, fun K hK => ?_⟩
  simp only [fX2_clear, jn]; exact h3 (fun _ C' => K C', K) hK
/-- a whole network read on both sides -/
def Cmp (C : Xm) (N : Nm) : Prop := ∃ n L, 2 ≤ n ∧ n ≤ 8 ∧ C 1 3 = nI n ∧ N.1 66 30 = nI n ∧ L ≤ 12 ∧ N.1 66 31 = nI L ∧ LM n (fun i j => C (5 + i) j) (fun i j => C (14 + i) j) (N.1 85) (N.1 86) (N.1 87) (N.1 88) L
theorem findB {len : Nat} {C : Xm} {N : Nm} (ht : Txt len C N) :
    ∃ C' N' p, PFx C C' ∧ PFn N N' ∧ p ≤ len ∧ N'.1 66 36 = nI p ∧ (∀ K, K (nI p) C' → fX0_findError C K) ∧ (∀ K, K N' → fX8_parse N K) ∧
      ((p = len ∧ (((C' 1 5 = 1 ∨ C' 1 5 = 5) ∧ N'.1 66 37 = 1 ∧ Cmp C' N') ∨ (C' 1 5 ≠ 1 ∧ C' 1 5 ≠ 5 ∧ N'.1 66 37 = 0))) ∨ (p < len ∧ N'.1 66 37 = 0)) := by
  obtain ⟨C1, x1, x2, x3⟩ := clearX C
  have fx : PFx C (wr (wr C1 1 4 0) 1 5 0) := by
    refine ⟨fun a a1 a2 => ?_, ?_⟩
    · rw [wr_off a1, wr_off a1]; exact x1 a a2
    · show C1 1 1 = C 1 1; rw [x1 1 (by omega)]
  have fm : PFn N (wrN (wrN (wrN N 66 30 0) 66 31 0) 66 36 0) := ((PFn.w6 N (by omega) _).trans (PFn.w6 _ (by omega) _)).trans (PFn.w6 _ (by omega) _)
  have hp : PI 0 0 0 0 (wr (wr C1 1 4 0) 1 5 0) (wrN (wrN (wrN N 66 30 0) 66 31 0) 66 36 0) := by
    left
    refine ⟨rfl, rfl, rfl, by omega, by omega, rfl, rfl, LM.zero (fun i j hi hj => ?_)⟩
    show wr (wr C1 1 4 0) 1 5 0 (5 + i) j = 0 ∧ wr (wr C1 1 4 0) 1 5 0 (14 + i) j = 0
    rw [(wr1_row i).1, (wr1_row i).1, (wr1_row i).2, (wr1_row i).2]; exact x2 i j hi hj
  have hl : len ≤ 61 := ht.1
  obtain ⟨C', N', p, b1, b2, b3, b4, b5⟩ := parseL len 0 0 0 0 _ _ (by omega) (ht.off fx fm) hp
  rcases b5 with ⟨e1, s1, s2, s3, e2, e3, e4⟩ | ⟨e1, s1, s2, s3, e3, e4⟩
  · have hf : ∀ K, K (nI p) C' → fX0_findError C K := fun K hK => by
      simp only [fX0_findError, jn, bd]
      refine x3 _ (e3 _ K 200 (by omega) ?_)
      rw [(b1.2.trans fx.2).trans ht.2.1, ← e1]; exact hK
    have hs : C' 1 5 = s1 := by
      rcases e2 with ⟨rfl, q⟩ | ⟨rfl, _, _, q, _⟩ | ⟨rfl, _, _, _, q, _⟩ | ⟨rfl, _, _, _, _, q, _⟩ | ⟨rfl, _, _, _, _, _, q, _⟩ | ⟨rfl, _, _, _, _, q, _⟩ <;> exact q.2.1
    by_cases z : s1 = 1 ∨ s1 = 5
    · refine ⟨C', wrN N' 66 37 1, p, fx.trans b1, (fm.trans b2).trans (PFn.w6 _ (by omega) _), b3, b4, hf, fun K hK => ?_, Or.inl ⟨e1, Or.inl ⟨by rw [hs]; exact z, rfl, ?_⟩⟩⟩
      · simp only [fX8_parse, jn, bd]
        refine e4 _ K 200 (by omega) ?_
        rw [if_neg (by decide)]
        rcases z with z | z
        · rw [if_pos z]; exact ⟨bl_1, hK⟩
        · by_cases z1 : s1 = 1
          · rw [if_pos z1]; exact ⟨bl_1, hK⟩
          · rw [if_neg z1, if_pos z]; exact ⟨bl_1, hK⟩
      · rcases e2 with ⟨rfl, q⟩ | ⟨rfl, n, L, q, qn⟩ | ⟨rfl, _, _, _, q, _⟩ | ⟨rfl, _, _, _, _, q, _⟩ | ⟨rfl, _, _, _, _, _, q, _⟩ | ⟨rfl, n, L, _, _, q, qn, _⟩
        · rcases z with z | z <;> exact absurd z (by decide)
        · exact ⟨n, L, qn.1, q.2.2.1, qn.2.1, qn.2.2, q.2.2.2.1, q.2.2.2.2.1, q.2.2.2.2.2.2⟩
        · rcases z with z | z <;> exact absurd z (by decide)
        · rcases z with z | z <;> exact absurd z (by decide)
        · rcases z with z | z <;> exact absurd z (by decide)
        · exact ⟨n, L + 1, qn.1, q.2.2.1, qn.2.1, qn.2.2, q.2.2.2.1, q.2.2.2.2.1, q.2.2.2.2.2.2⟩
    · refine ⟨C', wrN N' 66 37 0, p, fx.trans b1, (fm.trans b2).trans (PFn.w6 _ (by omega) _), b3, b4, hf, fun K hK => ?_, Or.inl ⟨e1, Or.inr ⟨by rw [hs]; exact fun q => z (Or.inl q), by rw [hs]; exact fun q => z (Or.inr q), rfl⟩⟩⟩
      simp only [fX8_parse, jn, bd]
      refine e4 _ K 200 (by omega) ?_
      rw [if_neg (by decide), if_neg (fun q => z (Or.inl q)), if_neg (fun q => z (Or.inr q))]; exact ⟨bl_0, hK⟩
  · refine ⟨C', wrN N' 66 37 0, p, fx.trans b1, (fm.trans b2).trans (PFn.w6 _ (by omega) _), b3, b4, fun K hK => ?_, fun K hK => ?_, Or.inr ⟨e1, rfl⟩⟩
    · simp only [fX0_findError, jn, bd]
      exact x3 _ (e3 _ K 200 (by omega) hK)
    · simp only [fX8_parse, jn, bd]
      refine e4 _ K 200 (by omega) ?_
      rw [if_pos (by trivial)]; exact ⟨bl_0, hK⟩
theorem Rel.txt {C : Xm} {N : Nm} (h : Rel C N) : ∃ len, Txt len C N := by
  obtain ⟨⟨len, h1, h2, h3, h4⟩, _⟩ := h
  refine ⟨len, h1, h2, h3, fun j hj => ?_⟩
  obtain ⟨e, c, c1, c2, c3⟩ := h4 j hj
  exact ⟨c, c1, c2, c3, e ▸ c3⟩
theorem Rel.parse {C C' : Xm} {N N' : Nm} (h : Rel C N) (x : PFx C C') (m : PFn N N') : Rel C' N' := by
  obtain ⟨hb, ht, hm, hs, hk, hrd, n, hn, hC, hM, hO, hN, hF0, hL, hS, hR⟩ := h
  have xr : ∀ a, a ≠ 1 → ¬ (5 ≤ a ∧ a < 22) → C' a = C a := x.1
  have mr : ∀ a, a ≠ 66 → ¬ (85 ≤ a ∧ a < 89) → N'.1 a = N.1 a := m.1
  have m6 : ∀ b, ¬ (30 ≤ b ∧ b < 38) → N'.1 66 b = N.1 66 b := m.2
  unfold Rel
  rw [xr 0 (by omega) (by omega), x.2, xr 2 (by omega) (by omega), xr 22 (by omega) (by omega), xr 42 (by omega) (by omega), xr 43 (by omega) (by omega), xr 44 (by omega) (by omega), xr 46 (by omega) (by omega), xr 48 (by omega) (by omega), xr 49 (by omega) (by omega), xr 64 (by omega) (by omega), xr 65 (by omega) (by omega)]
  rw [mr 67 (by omega) (by omega), mr 68 (by omega) (by omega), mr 69 (by omega) (by omega), mr 70 (by omega) (by omega), mr 71 (by omega) (by omega), mr 72 (by omega) (by omega), mr 73 (by omega) (by omega), mr 74 (by omega) (by omega), mr 75 (by omega) (by omega), mr 76 (by omega) (by omega), mr 77 (by omega) (by omega), mr 78 (by omega) (by omega), mr 79 (by omega) (by omega), mr 80 (by omega) (by omega), mr 81 (by omega) (by omega), mr 82 (by omega) (by omega), mr 83 (by omega) (by omega), mr 84 (by omega) (by omega)]
  rw [m6 0 (by omega), m6 2 (by omega), m6 3 (by omega), m6 13 (by omega), m6 14 (by omega), m6 15 (by omega), m6 16 (by omega), m6 17 (by omega), m6 18 (by omega), m6 19 (by omega), m6 20 (by omega), m6 28 (by omega)]
  exact ⟨hb, ht, hm, hs, hk, hrd, n, hn, hC, hM, hO, hN, hF0, hL.off hn (fun a a1 a2 => xr a (by omega) (by omega)), hS.off (fun a a1 a2 => xr a (by omega) (by omega)), hR⟩
theorem op_errorPosition {C : Xm} {N : Nm} (h : Rel C N) : OpI (fX7_errorPosition C) (fX8_errorPosition N) := by
  obtain ⟨len, ht⟩ := h.txt
  obtain ⟨C', N', p, a1, a2, a3, a4, a5, a6, _⟩ := findB ht
  refine ⟨nI p, C', N', h.parse a1 a2, fun K hK => ?_, fun K hK => ?_⟩
  · unfold fX7_errorPosition; exact a5 _ hK
  · unfold fX8_errorPosition; refine a6 _ ?_; rw [a4]; exact hK
