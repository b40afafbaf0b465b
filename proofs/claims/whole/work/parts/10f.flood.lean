/-! a whole flood: both sides slot by slot -/
theorem SXM {C : Xm} {N : Nm} {n L v s : Nat} (hn : n ≤ 8) (hv : v < 8) (ht : C 46 4 = N.1 66 16) (hLM : LM n (fun i j => C (25 + i) j) (fun i j => C (34 + i) j) (N.1 68) (N.1 69) (N.1 70) (N.1 71) L) :
    ∀ q x, q < 8 → 0 < x → (SX C v (nI s) 8 q x ↔ SM N (C 48) (C 49) v (nI s) L q x) := by
  obtain ⟨l1, l2, l3⟩ := hLM
  intro q x _ hx
  constructor
  · intro ⟨u, hu, z1, z2, z3⟩
    have hst : C (25 + u) v ≠ 0 := by
      intro e
      rw [e] at z3
      have : x = 0 := by rw [z3]; unfold sgv; split <;> (try split) <;> rfl
      rw [this] at hx
      exact absurd hx (by decide)
    have hex : ∃ k, k < L ∧ ((N.1 68 k = nI u ∧ N.1 69 k = nI v) ∨ (N.1 68 k = nI v ∧ N.1 69 k = nI u)) := by
      apply Classical.byContradiction
      intro hno
      exact hst (l3 u v hu hv (fun k hk => ⟨fun w => hno ⟨k, hk, Or.inl w⟩, fun w => hno ⟨k, hk, Or.inr w⟩⟩)).1
    obtain ⟨k, hk, hkk⟩ := hex
    obtain ⟨a, b, s', p, g1, g2, g3, g4, g5, g6, g7, g8, g9, g10, g11, g12, g13, g14⟩ := l1 k hk
    have hfin : C (25 + u) v = N.1 70 k ∧ C (34 + u) v = N.1 71 k ∧ ((N.1 68 k = nI v ∧ N.1 69 k = nI u) ∨ (N.1 68 k ≠ nI v ∧ N.1 69 k = nI v ∧ N.1 68 k = nI u)) := by
      rcases hkk with ⟨w1, w2⟩ | ⟨w1, w2⟩
      · have e1 : a = u := nI_inj (by omega) (by omega) (g7.symm.trans w1)
        have e2 : b = v := nI_inj (by omega) (by omega) (g8.symm.trans w2)
        subst e1; subst e2
        refine ⟨by rw [g9]; exact g11, by rw [g10]; exact g13, Or.inr ⟨fun w => ?_, w2, w1⟩⟩
        have := nI_inj (by omega) (by omega) (w1.symm.trans w)
        omega
      · have e1 : a = v := nI_inj (by omega) (by omega) (g7.symm.trans w1)
        have e2 : b = u := nI_inj (by omega) (by omega) (g8.symm.trans w2)
        subst e1; subst e2
        exact ⟨by rw [g9]; exact g12, by rw [g10]; exact g14, Or.inl ⟨w1, w2⟩⟩
    obtain ⟨f1, f2, f3⟩ := hfin
    rw [f1, f2] at z3
    have hnl : ¬ (0 < N.1 71 k ∧ irm (nI s + 1) (N.1 71 k) = 0) := by
      intro ⟨w1, w2⟩
      have : x = 0 := by rw [z3]; unfold sgv; rw [if_neg (Int32.not_le.mpr w1), if_pos w2]
      rw [this] at hx
      exact absurd hx (by decide)
    refine ⟨k, u, hk, hu, f3, hnl, by rw [← ht]; exact z1, z2, ?_⟩
    rw [z3]; unfold sgv
    split
    · rfl
    · rename_i w1
      rw [if_neg (fun w2 => hnl ⟨Int32.not_le.mp w1, w2⟩)]
  · intro ⟨k, u, hk, hu, f3, hnl, z1, z2, z3⟩
    obtain ⟨a, b, s', p, g1, g2, g3, g4, g5, g6, g7, g8, g9, g10, g11, g12, g13, g14⟩ := l1 k hk
    refine ⟨u, hu, by rw [ht]; exact z1, z2, ?_⟩
    have hfin : C (25 + u) v = N.1 70 k ∧ C (34 + u) v = N.1 71 k := by
      rcases f3 with ⟨w1, w2⟩ | ⟨_, w2, w1⟩
      · have e1 : a = v := nI_inj (by omega) (by omega) (g7.symm.trans w1)
        have e2 : b = u := nI_inj (by omega) (by omega) (g8.symm.trans w2)
        subst e1; subst e2
        exact ⟨by rw [g9]; exact g12, by rw [g10]; exact g14⟩
      · have e1 : a = u := nI_inj (by omega) (by omega) (g7.symm.trans w1)
        have e2 : b = v := nI_inj (by omega) (by omega) (g8.symm.trans w2)
        subst e1; subst e2
        exact ⟨by rw [g9]; exact g11, by rw [g10]; exact g13⟩
    rw [hfin.1, hfin.2, z3]; unfold sgv
    split
    · rfl
    · rename_i w1
      rw [if_neg (fun w2 => hnl ⟨Int32.not_le.mp w1, w2⟩)]
/-- every holder ends within the length, one of them ends it -/
def LenOK (n t : Nat) (P H : Nat → Int32) (len : Nat) : Prop := (∀ v k, v < n → P v ≠ -1 → k ≤ 1000 → H v = nI k → k + 2 * t - 1 ≤ len) ∧ (len = 0 ∨ ∃ v k, v < n ∧ P v ≠ -1 ∧ k ≤ 1000 ∧ H v = nI k ∧ k + 2 * t - 1 = len)
theorem lastM {N : Nm} {P H : Nat → Int32} {n t len : Nat} (hn : n ≤ 8) (hM : N.1 66 2 = nI n) (ht : N.1 66 16 = nI t) (ht1 : 1 ≤ t) (ht4 : t ≤ 4) (hlb : len ≤ 200) (hH : ∀ u, u < 8 → RH (P u) (H u) (N.1 73 u) (N.1 74 u)) (hl : LenOK n t P H len) (K : Int32 → Prop) (hK : K (nI len - 1)) : fX8_lastSlot N K := by
  have key : ∀ (d i m : Nat) (E : Int32 → Int32 → Prop) (fu : Nat), i + d = n → d < fu → m ≤ len → (∀ v k, v < i → P v ≠ -1 → k ≤ 1000 → H v = nI k → k + 2 * t - 1 ≤ m) → E (nI len - 1) (nI n) → fX8_lastSlot_L4 N E K fu (nI m - 1) (nI i) := by
    intro d
    induction d with
    | zero =>
      intro i m E fu hi hf hm hall hE
      obtain ⟨f, rfl⟩ : ∃ f, fu = f + 1 := ⟨fu - 1, by omega⟩
      obtain rfl : i = n := by omega
      have : m = len := by
        rcases hl.2 with z | ⟨v, k, z1, z2, z3, z4, z5⟩
        · omega
        · have := hall v k z1 z2 z3 z4; omega
      subst this
      rw [fX8_lastSlot_L4, hM, if_pos (Int32.le_refl _)]; exact hE
    | succ d ih =>
      intro i m E fu hi hf hm hall hE
      obtain ⟨f, rfl⟩ : ∃ f, fu = f + 1 := ⟨fu - 1, by omega⟩
      have hi8 : i < 8 := by omega
      have hb := inb_nI hi8 (show 8 < 2 ^ 31 by omega)
      rw [fX8_lastSlot_L4, hM, if_neg (nI_ge (by omega) (by omega))]
      simp only [jn, bd]
      rw [tn_nI (show i < 2 ^ 31 by omega), nI_1]
      refine ⟨hb, ?_⟩
      rcases (hH i hi8).2 with ⟨h1, h2, h3⟩ | ⟨q, k, h1, h2, h3, h4, h5⟩
      · rw [if_pos h3]
        have hle : (-1 : Int32) ≤ nI m - 1 := by
          rw [Int32.le_iff_toInt_le]
          have : (nI m - 1).toInt = (m : Int) - 1 := pk_sub_toInt (a := m) (b := 1) (by omega) (by omega)
          rw [this]
          have : (-1 : Int32).toInt = -1 := by decide
          omega
        rw [if_pos hle]
        exact ih (i + 1) m E f (by omega) (by omega) hm (fun v k' hv z1 z2 z3 => by
          by_cases e : v = i
          · subst e; exact absurd h1 z1
          · exact hall v k' (by omega) z1 z2 z3) hE
      · have hne : P i ≠ -1 := by rw [h3]; exact nI_nm1 (by omega)
        have hkl := hl.1 i k (by omega) hne (by omega) h4
        rw [h5, if_neg (pred_ne2 (k := k) (by omega)), ht]
        refine ⟨hb, ?_⟩
        have e1 : nI k - 1 + 2 * nI t - 1 = nI (k + 2 * t - 1) - 1 := by
          have a1 : (2 : Int32) * nI t = nI (2 * t) := pk_mul 2 t
          have a2 : nI (k + 2 * t - 1) = nI k + nI (2 * t) - 1 := by rw [nI_add]; exact (pk_sub (a := k + 2 * t) (b := 1) (by omega)).symm
          rw [a1, a2]; grind
        rw [e1]
        have t1 : (nI (k + 2 * t - 1) - 1).toInt = ((k + 2 * t - 1 : Nat) : Int) - 1 := pk_sub_toInt (a := k + 2 * t - 1) (b := 1) (by omega) (by omega)
        have t2 : (nI m - 1).toInt = (m : Int) - 1 := pk_sub_toInt (a := m) (b := 1) (by omega) (by omega)
        by_cases z : k + 2 * t - 1 ≤ m
        · rw [if_pos (by rw [Int32.le_iff_toInt_le, t1, t2]; omega)]
          exact ih (i + 1) m E f (by omega) (by omega) hm (fun v k' hv z1 z2 z3 => by
            by_cases e : v = i
            · subst e
              have := nI_inj (by omega) (by omega) (h4.symm.trans z3)
              omega
            · exact hall v k' (by omega) z1 z2 z3) hE
        · rw [if_neg (by rw [Int32.le_iff_toInt_le, t1, t2]; omega)]
          exact ih (i + 1) (k + 2 * t - 1) E f (by omega) (by omega) hkl (fun v k' hv z1 z2 z3 => by
            by_cases e : v = i
            · subst e
              have := nI_inj (by omega) (by omega) (h4.symm.trans z3)
              omega
            · have := hall v k' (by omega) z1 z2 z3; omega) hE
  simp only [fX8_lastSlot, jn]
  exact key n 0 0 _ 200 (by omega) (by omega) (by omega) (fun v k hv => absurd hv (Nat.not_lt_zero v)) hK
def one (p : Int32) : Nat := if p = -1 then 0 else 1
def hcnt (P : Nat → Int32) : Nat := one (P 0) + one (P 1) + one (P 2) + one (P 3) + one (P 4) + one (P 5) + one (P 6) + one (P 7)
theorem one_le (p : Int32) : one p ≤ 1 := by unfold one; split <;> omega
theorem hcnt_le (P : Nat → Int32) : hcnt P ≤ 8 := by
  unfold hcnt
  have := one_le (P 0); have := one_le (P 1); have := one_le (P 2); have := one_le (P 3); have := one_le (P 4); have := one_le (P 5); have := one_le (P 6); have := one_le (P 7)
  omega
theorem hcnt_same {P P' : Nat → Int32} (h : ∀ v, v < 8 → P' v = P v) : hcnt P' = hcnt P := by
  unfold hcnt
  rw [h 0 (by omega), h 1 (by omega), h 2 (by omega), h 3 (by omega), h 4 (by omega), h 5 (by omega), h 6 (by omega), h 7 (by omega)]
theorem hcnt_more {P P' : Nat → Int32} (h : ∀ v, v < 8 → P v ≠ -1 → P' v ≠ -1) {v0 : Nat} (hv : v0 < 8) (h0 : P v0 = -1) (h1 : P' v0 ≠ -1) : hcnt P + 1 ≤ hcnt P' := by
  have le : ∀ v, v < 8 → one (P v) ≤ one (P' v) := fun v hv => by
    unfold one
    by_cases z : P v = -1
    · rw [if_pos z]; exact Nat.zero_le _
    · rw [if_neg z, if_neg (h v hv z)]; exact Nat.le_refl 1
  have lt : one (P v0) + 1 ≤ one (P' v0) := by unfold one; rw [if_pos h0, if_neg h1]; exact Nat.le_refl 1
  have l0 := le 0 (by omega); have l1 := le 1 (by omega); have l2 := le 2 (by omega); have l3 := le 3 (by omega); have l4 := le 4 (by omega); have l5 := le 5 (by omega); have l6 := le 6 (by omega); have l7 := le 7 (by omega)
  unfold hcnt
  rcases (show v0 = 0 ∨ v0 = 1 ∨ v0 = 2 ∨ v0 = 3 ∨ v0 = 4 ∨ v0 = 5 ∨ v0 = 6 ∨ v0 = 7 by omega) with rfl | rfl | rfl | rfl | rfl | rfl | rfl | rfl <;> omega
/-- THE TWO FLOODS at the beginning of slot s; b: the counters before the flood -/
def FR (n L t : Nat) (b : Nat → Int32) (s len : Nat) (C : Xm) (N : Nm) : Prop :=
  (C 22 1 = nI n ∧ N.1 66 2 = nI n) ∧ (C 46 4 = nI t ∧ N.1 66 16 = nI t) ∧ C 46 5 = N.1 66 17 ∧ (∀ v, v < 8 → C 42 v = N.1 72 v) ∧ (N.1 66 3 = nI L ∧ LM n (fun i j => C (25 + i) j) (fun i j => C (34 + i) j) (N.1 68) (N.1 69) (N.1 70) (N.1 71) L) ∧
  (∀ v, v < 8 → RH (C 48 v) (C 49 v) (N.1 73 v) (N.1 74 v) ∧ (C 48 v ≠ -1 → v < n ∧ C 42 v ≠ 0 ∧ ∃ k, k ≤ s ∧ C 49 v = nI k)) ∧
  (C 46 3 = nI len ∧ LenOK n t (C 48) (C 49) len ∧ len ≤ hcnt (C 48) * (2 * t - 1)) ∧
  (∀ v, v < n → (C 48 v = -1 ∧ C 44 v = b v ∧ N.1 75 v = b v) ∨ (C 48 v ≠ -1 ∧ C 44 v = b v + nI t ∧ ∃ k, C 49 v = nI k ∧ k ≤ s ∧ N.1 75 v = b v + nI (min t ((s + 1 - k) / 2))))
theorem len_b {n L t s len : Nat} {b : Nat → Int32} {C : Xm} {N : Nm} (ht4 : t ≤ 4) (h : FR n L t b s len C N) : len ≤ 56 := by
  obtain ⟨_, _, _, _, _, _, ⟨_, _, h1⟩, _⟩ := h
  have h2 := hcnt_le (C 48)
  have : hcnt (C 48) * (2 * t - 1) ≤ 8 * 7 := Nat.mul_le_mul h2 (by omega)
  omega
theorem FR_step {n L t s len : Nat} {b : Nat → Int32} {C C' : Xm} {N N' : Nm} (hn : n ≤ 8) (hL : L ≤ 12) (ht1 : 1 ≤ t) (ht4 : t ≤ 4) (hs : s < len) (h : FR n L t b s len C N)
    (x1 : FrX C C') (x2 : ∀ v, v < 8 → NodeX n C C' s v) (x3 : LenX n C C' s t len) (m1 : FrM N N') (m2 : ∀ v, v < 8 → NodeM n L (C 48) (C 49) N N' s v) (m3 : ∀ v, v < n → N'.1 75 v = N.1 75 v + trv (C 48 v) (C 49 v) (nI s) (N.1 66 16)) :
    ∃ len', s < len' ∧ FR n L t b (s + 1) len' C' N' := by
  have hlb := len_b ht4 h
  obtain ⟨⟨f1, f1b⟩, ⟨f2, f2b⟩, f3, f4, ⟨f5, f5b⟩, f6, ⟨f7, f7b, f7c⟩, f8⟩ := h
  obtain ⟨x1, x1b⟩ := x1
  obtain ⟨m1, m1b⟩ := m1
  have xr : ∀ a, (a < 44 ∨ a = 45) → C' a = C a := fun a ha => x1 a (by omega) (by omega) (by omega) (by omega) (by omega)
  have mr : ∀ a b, a < 73 → N'.1 a b = N.1 a b := fun a b ha => m1 a b (by omega) (by omega) (by omega) (by omega) (by omega)
  -- both sides capture the same
  have hcap : ∀ v, v < 8 → (Same C C' v ∧ SameM N N' v) ∨ (Lis n (C 42) (C 48) v ∧ ∃ q, q < 8 ∧ C' 48 v = nI q ∧ N'.1 73 v = nI q ∧ C' 49 v = nI (s + 1) ∧ N'.1 74 v = nI s ∧ C' 44 v = C 44 v + C 46 4) := by
    intro v hv
    have hlis : Lis n (C 42) (C 48) v ↔ Lis n (N.1 72) (C 48) v := by unfold Lis; rw [f4 v hv]
    rcases x2 v hv with ⟨w1, lv, w2, w3⟩ | ⟨w1, w3⟩
    · rcases m2 v hv with ⟨y1, lv', y2, y3⟩ | ⟨y1, _⟩
      · have he := w2.same y2 (SXM hn hv (f2.trans f2b.symm) f5b)
        have hc : capF lv (C 46 5) = capF lv' (N.1 66 17) := by rw [capF_congr he, f3]
        rcases w3 with ⟨w3, w4⟩ | ⟨w3, w4, w5, w6⟩
        · rcases y3 with ⟨y3, y4⟩ | ⟨y3, _⟩
          · exact Or.inl ⟨w4, y4⟩
          · exact absurd (hc.symm.trans w3) y3
        · rcases y3 with ⟨y3, _⟩ | ⟨y3, y4, y5⟩
          · exact absurd (hc.trans y3) w3
          · rcases capF_rng lv (C 46 5) with z | ⟨q, hq, z⟩
            · exact absurd z w3
            · exact Or.inr ⟨w1, q, hq, by rw [w4, z], by rw [y4, ← hc, z], w5, y5, w6⟩
      · exact absurd (hlis.mp w1) y1
    · rcases m2 v hv with ⟨y1, _⟩ | ⟨_, y3⟩
      · exact absurd (hlis.mpr y1) w1
      · exact Or.inl ⟨w3, y3⟩
  obtain ⟨len', l1, l2⟩ := x3
  have hcase : (len' = len ∧ ∀ v, v < 8 → C' 48 v = C 48 v) ∨ (len ≤ len' ∧ s + 2 * t ≤ len' ∧ (len' = len ∨ len' = s + 2 * t) ∧ len' ≤ len + (2 * t - 1) ∧ ∃ v, v < n ∧ C 48 v = -1 ∧ C' 48 v ≠ -1) := by
    rcases l2 with z | ⟨z1, z2⟩
    · exact Or.inl z
    · right
      by_cases w : len < s + 1 + 2 * t - 1
      · rw [if_pos w] at z1; exact ⟨by omega, by omega, by omega, by omega, z2⟩
      · rw [if_neg w] at z1; exact ⟨by omega, by omega, by omega, by omega, z2⟩
  have held : ∀ v, v < 8 → C 48 v ≠ -1 → C' 48 v = C 48 v ∧ C' 49 v = C 49 v := fun v hv z => by
    rcases hcap v hv with ⟨w, _⟩ | ⟨w, _⟩
    · exact ⟨w.1, w.2.1⟩
    · exact absurd w.2.2 z
  refine ⟨len', by rcases hcase with ⟨z, _⟩ | ⟨z, _⟩ <;> omega, ⟨by rw [xr 22 (by omega)]; exact f1, by rw [mr 66 2 (by omega)]; exact f1b⟩, ⟨by rw [x1b 4 (by decide)]; exact f2, by rw [mr 66 16 (by omega)]; exact f2b⟩, by rw [x1b 5 (by decide), mr 66 17 (by omega)]; exact f3, fun v hv => by rw [xr 42 (by omega), mr 72 v (by omega)]; exact f4 v hv, ⟨by rw [mr 66 3 (by omega)]; exact f5, ?_⟩, fun v hv => ?_, ⟨l1, ⟨fun v k hv z1 z2 z3 => ?_, ?_⟩, ?_⟩, fun v hv => ?_⟩
  · have e68 : N'.1 68 = N.1 68 := funext fun b => mr 68 b (by omega)
    have e69 : N'.1 69 = N.1 69 := funext fun b => mr 69 b (by omega)
    have e70 : N'.1 70 = N.1 70 := funext fun b => mr 70 b (by omega)
    have e71 : N'.1 71 = N.1 71 := funext fun b => mr 71 b (by omega)
    rw [e68, e69, e70, e71]
    exact LM.congr hn f5b (fun i j hi _ => by rw [xr (25 + i) (by omega)]) (fun i j hi _ => by rw [xr (34 + i) (by omega)])
  · obtain ⟨g1, g2⟩ := f6 v hv
    rcases hcap v hv with ⟨w1, w2⟩ | ⟨w1, q, w2, w3, w4, w5, w6, w7⟩
    · rw [w1.1, w1.2.1, w2.1, w2.2, xr 42 (by omega)]
      refine ⟨g1, fun z => ?_⟩
      obtain ⟨y1, y2, k, y3, y4⟩ := g2 z
      exact ⟨y1, y2, k, by omega, y4⟩
    · rw [w3, w4, w5, w6, xr 42 (by omega)]
      exact ⟨⟨rfl, Or.inr ⟨q, s + 1, w2, by omega, rfl, rfl, (nI_pred s).symm⟩⟩, fun _ => ⟨w1.1, w1.2.1, s + 1, by omega, rfl⟩⟩
  · rcases hcap v (by omega) with ⟨w1, _⟩ | ⟨w1, q, w2, w3, w4, w5, w6, w7⟩
    · rw [w1.1] at z1
      rw [w1.2.1] at z3
      have := f7b.1 v k hv z1 z2 z3
      rcases hcase with ⟨y, _⟩ | ⟨y, _⟩ <;> omega
    · have := nI_inj (by omega) (by omega) (z3.symm.trans w5)
      rcases hcase with ⟨_, y⟩ | ⟨_, y, _⟩
      · rw [y v (by omega)] at z1; exact absurd w1.2.2 z1
      · omega
  · right
    rcases hcase with ⟨y1, y2⟩ | ⟨y1, y2, y3, _, v0, y4, y5, y6⟩
    · rcases f7b.2 with z | ⟨v, k, z1, z2, z3, z4, z5⟩
      · omega
      · obtain ⟨h1, h2⟩ := held v (by omega) z2
        exact ⟨v, k, z1, by rw [h1]; exact z2, z3, by rw [h2]; exact z4, by omega⟩
    · rcases y3 with y3 | y3
      · rcases f7b.2 with z | ⟨v, k, z1, z2, z3, z4, z5⟩
        · omega
        · obtain ⟨h1, h2⟩ := held v (by omega) z2
          exact ⟨v, k, z1, by rw [h1]; exact z2, z3, by rw [h2]; exact z4, by omega⟩
      · rcases hcap v0 (by omega) with ⟨w1, _⟩ | ⟨w1, q, w2, w3, w4, w5, w6, w7⟩
        · rw [w1.1] at y6; exact absurd y5 y6
        · exact ⟨v0, s + 1, y4, y6, by omega, w5, by omega⟩
  · rcases hcase with ⟨y1, y2⟩ | ⟨y1, y2, y3, y3b, v0, y4, y5, y6⟩
    · rw [hcnt_same y2, y1]; exact f7c
    · have hm := hcnt_more (P := C 48) (P' := C' 48) (fun v hv z => by rw [(held v hv z).1]; exact z) (show v0 < 8 by omega) y5 y6
      have h2 : (hcnt (C 48) + 1) * (2 * t - 1) ≤ hcnt (C' 48) * (2 * t - 1) := Nat.mul_le_mul hm (Nat.le_refl _)
      rw [Nat.add_mul, Nat.one_mul] at h2
      omega
  · have hv8 : v < 8 := by omega
    rw [m3 v hv]
    rcases f8 v hv with ⟨y1, y2, y3⟩ | ⟨y1, y2, k, y3, y4, y5⟩
    · have htr0 : trv (C 48 v) (C 49 v) (nI s) (N.1 66 16) = 0 := by unfold trv; rw [if_pos y1]
      rw [htr0, y3, Int32.add_zero]
      rcases hcap v hv8 with ⟨w1, w2⟩ | ⟨w1, q, w2, w3, w4, w5, w6, w7⟩
      · left; rw [w1.1, w1.2.2]; exact ⟨y1, y2, rfl⟩
      · right
        refine ⟨by rw [w3]; exact nI_nm1 (by omega), by rw [w7, y2, f2], s + 1, w5, by omega, ?_⟩
        have : min t ((s + 1 + 1 - (s + 1)) / 2) = 0 := by rw [show (s + 1 + 1 - (s + 1)) / 2 = 0 by omega]; exact Nat.min_zero t
        rw [this, nI_0, Int32.add_zero]
    · right
      obtain ⟨h1, h2⟩ := held v hv8 y1
      have h3 : C' 44 v = C 44 v := by
        rcases hcap v hv8 with ⟨w1, _⟩ | ⟨w1, _⟩
        · exact w1.2.2
        · exact absurd w1.2.2 y1
      refine ⟨by rw [h1]; exact y1, by rw [h3]; exact y2, k, by rw [h2]; exact y3, by omega, ?_⟩
      have hq : ∃ q, q < 8 ∧ C 48 v = nI q := by
        rcases (f6 v hv8).1.2 with ⟨z, _⟩ | ⟨q, _, z, _, z2, _⟩
        · exact absurd z y1
        · exact ⟨q, z, z2⟩
      obtain ⟨q, hq, hpq⟩ := hq
      rw [hpq, y3, f2b, trv_nat hq (by omega) (by omega) ht4, y5]
      by_cases z : k ≤ s ∧ (s - k) % 2 = 0 ∧ (s - k) / 2 < t
      · rw [if_pos z, Int32.add_assoc, nI_1]
        congr 2; omega
      · rw [if_neg z, Int32.add_zero]
        congr 2; omega
