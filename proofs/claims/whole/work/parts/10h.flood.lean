def cn (P : Nat → Int32) : Nat → Nat
  | 0 => 0
  | i + 1 => cn P i + one (P i)
theorem cn_le (P : Nat → Int32) : ∀ i, cn P i ≤ i := by
  intro i
  induction i with
  | zero => exact Nat.le_refl 0
  | succ i ih => have := one_le (P i); unfold cn; omega
theorem cn_same {P : Nat → Int32} {n : Nat} (h : ∀ v, n ≤ v → v < 8 → P v = -1) : ∀ d, n + d ≤ 8 → cn P (n + d) = cn P n := by
  intro d
  induction d with
  | zero => intro _; rfl
  | succ d ih =>
    intro hd
    show cn P (n + d) + one (P (n + d)) = cn P n
    rw [ih (by omega), h (n + d) (by omega) (by omega)]
    unfold one; rw [if_pos rfl]; rfl
theorem cn_congr {P P' : Nat → Int32} : ∀ i, (∀ v, v < i → P v = P' v) → cn P i = cn P' i := by
  intro i
  induction i with
  | zero => intro _; rfl
  | succ i ih => intro h; unfold cn; rw [ih (fun v hv => h v (by omega)), h i (by omega)]
theorem countX {C : Xm} (K : Int32 → Prop) (hK : K (nI (cn (C 48) 8))) : fX1_countHolders C K := by
  have key : ∀ (d i fu : Nat) (E : Int32 → Int32 → Prop), i + d = 8 → d < fu → E (nI (cn (C 48) 8)) (nI 8) → fX1_countHolders_L4 C E K fu (nI (cn (C 48) i)) (nI i) := by
    intro d
    induction d with
    | zero =>
      intro i fu E hi hf hE
      obtain ⟨f, rfl⟩ : ∃ f, fu = f + 1 := ⟨fu - 1, by omega⟩
      obtain rfl : i = 8 := by omega
      rw [fX1_countHolders_L4, if_pos (show (8 : Int32) ≤ nI 8 by decide)]; exact hE
    | succ d ih =>
      intro i fu E hi hf hE
      obtain ⟨f, rfl⟩ : ∃ f, fu = f + 1 := ⟨fu - 1, by omega⟩
      have h := ih (i + 1) f E (by omega) (by omega) hE
      rw [fX1_countHolders_L4, if_neg (show ¬ (8 : Int32) ≤ nI i from nI_ge (b := 8) (by omega) (by omega))]
      simp only [jn, bd]
      rw [tn_nI (show i < 2 ^ 31 by omega), nI_1]
      refine ⟨inb_nI (by omega) (by omega), ?_⟩
      unfold cn one at h
      by_cases z : C 48 i = -1
      · rw [if_pos z] at h ⊢; exact h
      · rw [if_neg z] at h ⊢; rw [nI_1]; exact h
  simp only [fX1_countHolders, jn]
  exact key 8 0 200 _ (by omega) (by omega) hK
theorem countM {N : Nm} {n : Nat} (hn : n ≤ 8) (hM : N.1 66 2 = nI n) (K : Int32 → Prop) (hK : K (nI (cn (N.1 73) n))) : fX8_holders N K := by
  have key : ∀ (d i fu : Nat) (E : Int32 → Int32 → Prop), i + d = n → d < fu → E (nI (cn (N.1 73) n)) (nI n) → fX8_holders_L4 N E K fu (nI (cn (N.1 73) i)) (nI i) := by
    intro d
    induction d with
    | zero =>
      intro i fu E hi hf hE
      obtain ⟨f, rfl⟩ : ∃ f, fu = f + 1 := ⟨fu - 1, by omega⟩
      obtain rfl : i = n := by omega
      rw [fX8_holders_L4, hM, if_pos (Int32.le_refl _)]; exact hE
    | succ d ih =>
      intro i fu E hi hf hE
      obtain ⟨f, rfl⟩ : ∃ f, fu = f + 1 := ⟨fu - 1, by omega⟩
      have h := ih (i + 1) f E (by omega) (by omega) hE
      rw [fX8_holders_L4, hM, if_neg (nI_ge (by omega) (by omega))]
      simp only [jn, bd]
      rw [tn_nI (show i < 2 ^ 31 by omega), nI_1]
      refine ⟨inb_nI (by omega) (by omega), ?_⟩
      unfold cn one at h
      by_cases z : N.1 73 i = -1
      · rw [if_pos z] at h ⊢; rw [Int32.add_zero]; exact h
      · rw [if_neg z] at h ⊢; rw [nI_1]; exact h
  simp only [fX8_holders, jn]
  exact key n 0 200 _ (by omega) (by omega) hK
/-- A FLOOD ON BOTH SIDES -/
theorem floodB {C : Xm} {N : Nm} {n L t : Nat} (mask : Int32) (hn : n ≤ 8) (hn0 : 0 < n) (hL : L ≤ 12) (hC : C 22 1 = nI n) (hM : N.1 66 2 = nI n) (ht : C 46 4 = nI t) (htN : N.1 66 16 = nI t) (ht1 : 1 ≤ t) (ht4 : t ≤ 4) (hmg : C 46 5 = N.1 66 17) (hal : ∀ v, v < 8 → C 42 v = N.1 72 v) (hlk : N.1 66 3 = nI L)
    (hLM : LM n (fun i j => C (25 + i) j) (fun i j => C (34 + i) j) (N.1 68) (N.1 69) (N.1 70) (N.1 71) L) (hse : ∀ v, v < n → C 44 v = N.1 75 v) (hia : ∀ v, v < n → ib mask v → C 42 v ≠ 0) :
    ∃ (C' : Xm) (N' : Nm), FrX C C' ∧ FrN N N' ∧ RF n (C' 46 3) (C' 48) (C' 49) (N'.1 66 13) (N'.1 73) (N'.1 74) ∧ (∀ v, v < n → C' 44 v = N'.1 75 v) ∧ (∀ v, v < 8 → C' 48 v ≠ -1 → v < n ∧ C 42 v ≠ 0) ∧
      (∀ K, K C' → fX1_run C mask K) ∧ ∀ K, K (nI (cn (C' 48) 8)) N' → fX8_floodNow N mask K := by
  obtain ⟨C1, len, x1, x2, x3, x4, x5⟩ := initX mask hn hC ht ht1 ht4
  obtain ⟨N1, m1, m2, m3, m4⟩ := initM mask hn hM
  have xr : ∀ a, (a < 44 ∨ a = 45) → C1 a = C a := fun a ha => x1.1 a (by omega) (by omega) (by omega) (by omega) (by omega)
  have mr : ∀ a b, a < 73 → ¬ (a = 66 ∧ b = 13) → N1.1 a b = N.1 a b := fun a b ha hb => m1.1 a b (by omega) (by omega) (by omega) (by omega) (by omega) hb
  have hFR : FR n L t (C 44) 0 len C1 N1 := by
    refine ⟨⟨by rw [xr 22 (by omega)]; exact hC, by rw [mr 66 2 (by omega) (by omega)]; exact hM⟩, ⟨by rw [x1.2 4 (by decide)]; exact ht, by rw [mr 66 16 (by omega) (by omega)]; exact htN⟩, by rw [x1.2 5 (by decide), mr 66 17 (by omega) (by omega)]; exact hmg, fun v hv => by rw [xr 42 (by omega), mr 72 v (by omega) (by omega)]; exact hal v hv, ⟨by rw [mr 66 3 (by omega) (by omega)]; exact hlk, ?_⟩, fun v hv => ?_, ⟨x2, ⟨fun v k hv z1 z2 z3 => ?_, ?_⟩, ?_⟩, fun v hv => ?_⟩
    · have e68 : N1.1 68 = N.1 68 := funext fun b => mr 68 b (by omega) (by omega)
      have e69 : N1.1 69 = N.1 69 := funext fun b => mr 69 b (by omega) (by omega)
      have e70 : N1.1 70 = N.1 70 := funext fun b => mr 70 b (by omega) (by omega)
      have e71 : N1.1 71 = N.1 71 := funext fun b => mr 71 b (by omega) (by omega)
      rw [e68, e69, e70, e71]
      exact LM.congr hn hLM (fun i j hi _ => by rw [xr (25 + i) (by omega)]) (fun i j hi _ => by rw [xr (34 + i) (by omega)])
    · rcases x4 v hv with ⟨w1, w2, w3, w4, w5⟩ | ⟨w1, w3, w4, w5⟩
      · rcases m3 v hv with ⟨_, _, y3, y4⟩ | ⟨y1, _⟩
        · rw [w3, w4, y3, y4, xr 42 (by omega)]
          exact ⟨⟨rfl, Or.inr ⟨v, 0, hv, by omega, rfl, rfl, by decide⟩⟩, fun _ => ⟨w1, hia v w1 w2, 0, Nat.le_refl 0, rfl⟩⟩
        · exact absurd ⟨w1, w2⟩ y1
      · rcases m3 v hv with ⟨y1, y2, _⟩ | ⟨_, y3, y4⟩
        · exact absurd ⟨y1, y2⟩ w1
        · rw [w3, w4, y3, y4]
          exact ⟨⟨rfl, Or.inl ⟨rfl, rfl, rfl⟩⟩, fun z => absurd rfl z⟩
    · rcases x4 v (by omega) with ⟨w1, w2, w3, w4, w5⟩ | ⟨w1, w3, w4, w5⟩
      · have := nI_inj (by omega) (by omega) (z3.symm.trans w4)
        rcases x3 with ⟨_, y⟩ | ⟨y, _⟩
        · exact absurd w2 (y v w1)
        · omega
      · exact absurd w3 z1
    · rcases x3 with ⟨y, _⟩ | ⟨y, v, y1, y2⟩
      · exact Or.inl y
      · right
        rcases x4 v (by omega) with ⟨w1, w2, w3, w4, w5⟩ | ⟨w1, _⟩
        · exact ⟨v, 0, y1, by rw [w3]; exact nI_nm1 (by omega), by omega, w4, by omega⟩
        · exact absurd ⟨y1, y2⟩ w1
    · rcases x3 with ⟨y, _⟩ | ⟨y, v, y1, y2⟩
      · rw [y]; exact Nat.zero_le _
      · rcases x4 v (by omega) with ⟨w1, w2, w3, w4, w5⟩ | ⟨w1, _⟩
        · have h1 := hcnt_more (P := fun _ => -1) (P' := C1 48) (fun v _ z => absurd rfl z) (show v < 8 by omega) rfl (by rw [w3]; exact nI_nm1 (by omega))
          have h2 : 1 * (2 * t - 1) ≤ hcnt (C1 48) * (2 * t - 1) := Nat.mul_le_mul (by omega) (Nat.le_refl _)
          omega
        · exact absurd ⟨y1, y2⟩ w1
    · have h75 : N1.1 75 v = C 44 v := by rw [m2 v]; exact (hse v hv).symm
      rcases x4 v (by omega) with ⟨w1, w2, w3, w4, w5⟩ | ⟨w1, w3, w4, w5⟩
      · right
        refine ⟨by rw [w3]; exact nI_nm1 (by omega), w5, 0, w4, Nat.le_refl 0, ?_⟩
        have : min t ((0 + 1 - 0) / 2) = 0 := by rw [show (0 + 1 - 0) / 2 = 0 by omega]; exact Nat.min_zero t
        rw [this, h75, nI_0, Int32.add_zero]
      · exact Or.inl ⟨w3, w5, h75⟩
  obtain ⟨S, C', N', g1, g2, g3, g4, g5, g6⟩ := floodLoop hn hL ht1 ht4 57 0 len C1 N1 (by omega) (Nat.zero_le _) hFR
  obtain ⟨⟨f1, f1b⟩, ⟨f2, f2b⟩, f3, f4, ⟨f5, f5b⟩, f6, ⟨f7, f7b, f7c⟩, f8⟩ := g2
  refine ⟨C', wrN N' 66 13 (nI S), x1.trans g3, ⟨fun a b b1 b2 b3 b4 b5 b6 => ?_, g4.2.trans m1.2⟩, ⟨?_, fun _ v hv => (f6 v hv).1⟩, fun v hv => ?_, fun v hv z => ?_, fun K hK => ?_, fun K hK => ?_⟩
  · simp only [wrN, b6, if_false]
    exact (g4.1 a b b1 b2 b3 b4 b5).trans (m1.1 a b b1 b2 b3 b4 b5 b6)
  · rw [f7]; simp [wrN]
  · show C' 44 v = N'.1 75 v
    rcases f8 v hv with ⟨_, y2, y3⟩ | ⟨y1, y2, k, y3, y4, y5⟩
    · rw [y2, y3]
    · have hk := f7b.1 v k hv y1 (by omega) y3
      have : min t ((S + 1 - k) / 2) = t := by rw [Nat.min_def, if_pos (by omega)]
      rw [y2, y5, this]
  · obtain ⟨y1, y2, _⟩ := (f6 v hv).2 z
    have e42 : C' 42 = C 42 := (g3.1 42 (by decide) (by decide) (by decide) (by decide) (by decide)).trans (xr 42 (by omega))
    rw [e42] at y2
    exact ⟨y1, y2⟩
  · exact x5 K (g5 mask _ K 200 (by omega) hK)
  · refine m4 K (g6 mask _ K 200 (by omega) ?_)
    refine countM hn (by show N'.1 66 2 = nI n; exact f1b) _ ?_
    have e1 : cn ((wrN N' 66 13 (nI S)).1 73) n = cn (C' 48) 8 := by
      have e2 : cn ((wrN N' 66 13 (nI S)).1 73) n = cn (C' 48) n := cn_congr n (fun v hv => ((f6 v (by omega)).1.1).symm)
      have e3 := cn_same (P := C' 48) (n := n) (fun v hv hv8 => by
        apply Classical.byContradiction
        intro z
        have := ((f6 v hv8).2 z).1
        omega) (8 - n) (by omega)
      rw [show n + (8 - n) = 8 by omega] at e3
      rw [e2, e3]
    rw [e1]; exact hK
/-! the call 'flood' -/
theorem shr_b : ∀ n, n ≤ 8 → ((nI n &&& 31).toBitVec.smod 32).toNat = n ∧ (1 : Int32) <<< (nI n &&& 31) = nI (2 ^ n) := by decide +kernel
theorem and1 (x : Int32) : x &&& 1 = 0 ∨ x &&& 1 = 1 := by
  obtain ⟨j, hj, h⟩ := pk_andE x (m := 1) 1 (by decide)
  rcases (show j = 0 ∨ j = 1 by omega) with rfl | rfl
  · left; rw [h]; rfl
  · right; rw [h]; rfl
theorem areAliveX {C : Xm} {n : Nat} (a : Int32) (hn : n ≤ 8) (hC : C 22 1 = nI n) : ((∀ v, v < n → ib a v → C 42 v ≠ 0) → ∀ K : Int32 → Prop, K 1 → fX3_areAlive C a K) ∧ ((∃ v, v < n ∧ ib a v ∧ C 42 v = 0) → ∀ K : Int32 → Prop, K 0 → fX3_areAlive C a K) := by
  have key : ∀ (d i fu : Nat) (E K : Int32 → Prop), i + d = n → d < fu → ((∀ v, i ≤ v → v < n → ib a v → C 42 v ≠ 0) ∧ E (nI n)) ∨ ((∃ v, i ≤ v ∧ v < n ∧ ib a v ∧ C 42 v = 0) ∧ K 0) → fX3_areAlive_L2 C a E K fu (nI i) := by
    intro d
    induction d with
    | zero =>
      intro i fu E K hi hf h
      obtain ⟨f, rfl⟩ : ∃ f, fu = f + 1 := ⟨fu - 1, by omega⟩
      obtain rfl : i = n := by omega
      rw [fX3_areAlive_L2, hC, if_pos (Int32.le_refl _)]
      rcases h with ⟨_, h⟩ | ⟨⟨v, h1, h2, _⟩, _⟩
      · exact h
      · omega
    | succ d ih =>
      intro i fu E K hi hf h
      obtain ⟨f, rfl⟩ : ∃ f, fu = f + 1 := ⟨fu - 1, by omega⟩
      rw [fX3_areAlive_L2, hC, if_neg (nI_ge (by omega) (by omega))]
      simp only [jn, bd]
      rw [tn_nI (show i < 2 ^ 31 by omega), nI_1]
      by_cases z : ib a i
      · have z' := z
        unfold ib at z'
        rw [if_pos z']
        refine ⟨inb_nI (by omega) (by omega), ?_⟩
        by_cases y : C 42 i = 0
        · rw [if_pos y]
          rcases h with ⟨h, _⟩ | ⟨_, h⟩
          · exact absurd y (h i (Nat.le_refl i) (by omega) z)
          · exact h
        · rw [if_neg y]
          refine ih (i + 1) f E K (by omega) (by omega) ?_
          rcases h with ⟨h1, h2⟩ | ⟨⟨v, h1, h2, h3, h4⟩, h5⟩
          · exact Or.inl ⟨fun v hv => h1 v (by omega), h2⟩
          · refine Or.inr ⟨⟨v, ?_, h2, h3, h4⟩, h5⟩
            rcases Nat.lt_or_ge i v with q | q
            · omega
            · have : v = i := by omega
              rw [this] at h4; exact absurd h4 y
      · have z' := z
        unfold ib at z'
        rw [if_neg z']
        refine ih (i + 1) f E K (by omega) (by omega) ?_
        rcases h with ⟨h1, h2⟩ | ⟨⟨v, h1, h2, h3, h4⟩, h5⟩
        · exact Or.inl ⟨fun v hv => h1 v (by omega), h2⟩
        · refine Or.inr ⟨⟨v, ?_, h2, h3, h4⟩, h5⟩
          rcases Nat.lt_or_ge i v with q | q
          · omega
          · have : v = i := by omega
            rw [this] at h3; exact absurd h3 z
  refine ⟨fun h K hK => ?_, fun ⟨v, h1, h2, h3⟩ K hK => ?_⟩
  · simp only [fX3_areAlive, jn]
    exact key n 0 200 _ K (by omega) (by omega) (Or.inl ⟨fun v _ => h v, hK⟩)
  · simp only [fX3_areAlive, jn]
    exact key n 0 200 _ K (by omega) (by omega) (Or.inr ⟨⟨v, Nat.zero_le v, h1, h2, h3⟩, hK⟩)
theorem areAliveM {N : Nm} {n : Nat} (a : Int32) (hn : n ≤ 8) (hM : N.1 66 2 = nI n) (E : Int32 → Int32 → Prop) (K : Int32 → Nm → Prop) : ((∀ v, v < n → ib a v → N.1 72 v ≠ 0) → E 1 (nI n) → fX8_flood_L22 N a E K 200 1 0) ∧ ((∃ v, v < n ∧ ib a v ∧ N.1 72 v = 0) → E 0 (nI n) → fX8_flood_L22 N a E K 200 1 0) := by
  have key : ∀ (d i fu : Nat) (fl : Int32), i + d = n → d < fu → ((fl = 1 ∧ (∀ v, i ≤ v → v < n → ib a v → N.1 72 v ≠ 0) ∧ E 1 (nI n)) ∨ ((fl = 0 ∨ fl = 1 ∧ ∃ v, i ≤ v ∧ v < n ∧ ib a v ∧ N.1 72 v = 0) ∧ E 0 (nI n))) → fX8_flood_L22 N a E K fu fl (nI i) := by
    intro d
    induction d with
    | zero =>
      intro i fu fl hi hf h
      obtain ⟨f, rfl⟩ : ∃ f, fu = f + 1 := ⟨fu - 1, by omega⟩
      obtain rfl : i = n := by omega
      rw [fX8_flood_L22, hM, if_pos (Int32.le_refl _)]
      rcases h with ⟨h1, _, h⟩ | ⟨h1 | ⟨_, v, h1, h2, _⟩, h⟩
      · rw [h1]; exact h
      · rw [h1]; exact h
      · omega
    | succ d ih =>
      intro i fu fl hi hf h
      obtain ⟨f, rfl⟩ : ∃ f, fu = f + 1 := ⟨fu - 1, by omega⟩
      rw [fX8_flood_L22, hM, if_neg (nI_ge (by omega) (by omega))]
      simp only [jn, bd]
      rw [tn_nI (show i < 2 ^ 31 by omega), nI_1]
      by_cases hf0 : fl = 0
      · rw [if_pos hf0]
        refine ih (i + 1) f 0 (by omega) (by omega) ?_
        rcases h with ⟨h1, _⟩ | ⟨_, h⟩
        · rw [hf0] at h1; exact absurd h1 (by decide)
        · exact Or.inr ⟨Or.inl rfl, h⟩
      · rw [if_neg hf0]
        by_cases z : ib a i
        · have z' : ¬ (a >>> (nI i &&& 31)) &&& 1 = 0 := fun y => by
            unfold ib at z; rw [y] at z; exact absurd z (by decide)
          rw [if_neg z']
          refine ⟨inb_nI (by omega) (by omega), ?_⟩
          by_cases y : N.1 72 i = 0
          · rw [if_pos y]
            refine ih (i + 1) f 0 (by omega) (by omega) ?_
            rcases h with ⟨_, h, _⟩ | ⟨_, h⟩
            · exact absurd y (h i (Nat.le_refl i) (by omega) z)
            · exact Or.inr ⟨Or.inl rfl, h⟩
          · rw [if_neg y]
            refine ih (i + 1) f 1 (by omega) (by omega) ?_
            rcases h with ⟨_, h1, h2⟩ | ⟨h1 | ⟨_, v, h1, h2, h3, h4⟩, h5⟩
            · exact Or.inl ⟨rfl, fun v hv => h1 v (by omega), h2⟩
            · exact absurd h1 hf0
            · refine Or.inr ⟨Or.inr ⟨rfl, v, ?_, h2, h3, h4⟩, h5⟩
              rcases Nat.lt_or_ge i v with q | q
              · omega
              · have : v = i := by omega
                rw [this] at h4; exact absurd h4 y
        · have z' : (a >>> (nI i &&& 31)) &&& 1 = 0 := (and1 _).resolve_right z
          rw [if_pos z']
          refine ih (i + 1) f 1 (by omega) (by omega) ?_
          rcases h with ⟨_, h1, h2⟩ | ⟨h1 | ⟨_, v, h1, h2, h3, h4⟩, h5⟩
          · exact Or.inl ⟨rfl, fun v hv => h1 v (by omega), h2⟩
          · exact absurd h1 hf0
          · refine Or.inr ⟨Or.inr ⟨rfl, v, ?_, h2, h3, h4⟩, h5⟩
            rcases Nat.lt_or_ge i v with q | q
            · omega
            · have : v = i := by omega
              rw [this] at h3; exact absurd h3 z
  exact ⟨fun h hE => key n 0 200 1 (by omega) (by omega) (Or.inl ⟨rfl, fun v _ => h v, hE⟩), fun ⟨v, h1, h2, h3⟩ hE => key n 0 200 1 (by omega) (by omega) (Or.inr ⟨Or.inr ⟨rfl, v, Nat.zero_le v, h1, h2, h3⟩, hE⟩)⟩
