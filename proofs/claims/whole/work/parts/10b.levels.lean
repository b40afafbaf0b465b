/-! what a node hears in a slot, on both sides -/
theorem MaxOf.add {S S' : Nat → Int32 → Prop} {lv lv' : Nat → Int32} {q0 : Nat} {y : Int32} (h : MaxOf S lv) (hq0 : q0 < 8) (hS : ∀ q x, q < 8 → (S' q x ↔ S q x ∨ (q = q0 ∧ x = y))) (h0 : lv' q0 = if y ≤ lv q0 then lv q0 else y) (hne : ∀ q, q < 8 → q ≠ q0 → lv' q = lv q) : MaxOf S' lv' := by
  intro q hq
  obtain ⟨a1, a2, a3⟩ := h q hq
  by_cases e : q = q0
  · subst e
    rw [h0]
    by_cases hy : y ≤ lv q
    · rw [if_pos hy]
      refine ⟨a1.imp id (fun z => (hS q _ hq).mpr (Or.inl z)), fun x hx => ?_, a3⟩
      rcases (hS q x hq).mp hx with z | ⟨_, z⟩
      · exact a2 x z
      · rw [z]; exact hy
    · rw [if_neg hy]
      have hy2 : lv q < y := Int32.not_le.mp hy
      refine ⟨Or.inr ((hS q _ hq).mpr (Or.inr ⟨rfl, rfl⟩)), fun x hx => ?_, Int32.le_trans a3 (Int32.le_of_lt hy2)⟩
      rcases (hS q x hq).mp hx with z | ⟨_, z⟩
      · exact Int32.le_trans (a2 x z) (Int32.le_of_lt hy2)
      · rw [z]; exact Int32.le_refl y
  · rw [hne q hq e]
    refine ⟨a1.imp id (fun z => (hS q _ hq).mpr (Or.inl z)), fun x hx => ?_, a3⟩
    rcases (hS q x hq).mp hx with z | ⟨z, _⟩
    · exact a2 x z
    · exact absurd z e
theorem MaxOf.zero {S : Nat → Int32 → Prop} {lv : Nat → Int32} (h : ∀ q x, ¬ S q x) (h0 : ∀ q, q < 8 → lv q = 0) : MaxOf S lv := fun q hq => ⟨Or.inl (h0 q hq), fun x hx => absurd hx (h q x), by rw [h0 q hq]; decide⟩
/-- what comes to node v of the class's in a slot, from the nodes below i -/
def SX (C : Xm) (v : Nat) (s : Int32) (i : Nat) (q : Nat) (x : Int32) : Prop := ∃ u, u < i ∧ trv (C 48 u) (C 49 u) s (C 46 4) ≠ 0 ∧ C 48 u = nI q ∧ x = sgv (C (25 + u) v) (C (34 + u) v) s
theorem nI_inj {a b : Nat} (ha : a < 2 ^ 31) (hb : b < 2 ^ 31) (h : nI a = nI b) : a = b := (nI_eq ha hb).mp h
theorem measX {C : Xm} {v : Nat} (hv : v < 8) (s : Int32) (hP : ∀ u, u < 8 → C 48 u = -1 ∨ ∃ q, q < 8 ∧ C 48 u = nI q) :
    ∃ C', (∀ a, a ≠ 47 → C' a = C a) ∧ MaxOf (SX C v s 8) (C' 47) ∧ ∀ K, K C' → fX1_measureLevels C (nI v) s K := by
  obtain ⟨C', ⟨h1, h2⟩, h3⟩ := ex_loop (F := fun (t : (Int32 → Xm → Prop) × (Xm → Prop)) n i C' => fX1_measureLevels_L11 (nI v) s t.1 t.2 n (nI i) C') (X := fun t C' => t.1 (nI 8) C')
    (I := fun i C' => (∀ a, a ≠ 47 → C' a = C a) ∧ MaxOf (SX C v s i) (C' 47)) 8
    (fun t n C' _ h => by
      rw [fX1_measureLevels_L11, if_pos (show (8 : Int32) ≤ nI 8 by decide)]; exact h)
    (fun i C' hi hI => by
      obtain ⟨g1, g2⟩ := hI
      have e48 := g1 48 (by decide)
      have e49 := g1 49 (by decide)
      have e46 := g1 46 (by decide)
      have hlt : ¬ (8 : Int32) ≤ nI i := nI_ge (b := 8) hi (by omega)
      have hsame : ∀ q x, q < 8 → trv (C 48 i) (C 49 i) s (C 46 4) = 0 → (SX C v s i q x ↔ SX C v s (i + 1) q x) := fun q x _ h0 => ⟨fun ⟨u, hu, z⟩ => ⟨u, by omega, z⟩, fun ⟨u, hu, z1, z⟩ => by
        by_cases e : u = i
        · subst e; exact absurd h0 z1
        · exact ⟨u, by omega, z1, z⟩⟩
      by_cases htr : trv (C 48 i) (C 49 i) s (C 46 4) = 0
      · refine ⟨C', ⟨g1, g2.mono (fun q x hq => hsame q x hq htr)⟩, fun t n h => ?_⟩
        show fX1_measureLevels_L11 (nI v) s t.1 t.2 (n + 1) (nI i) C'
        rw [fX1_measureLevels_L11, if_neg hlt, trX_eq hi, e48, e49, e46, htr]
        simp only [jn, bd, if_true]
        rw [nI_1]; exact h
      · have hp : ∃ q, q < 8 ∧ C 48 i = nI q := by
          rcases hP i hi with z | z
          · exact absurd (by unfold trv; rw [if_pos z]) htr
          · exact z
        obtain ⟨q0, hq0, hp⟩ := hp
        refine ⟨wr C' 47 q0 (if C' 47 q0 < sgv (C (25 + i) v) (C (34 + i) v) s then sgv (C (25 + i) v) (C (34 + i) v) s else C' 47 q0), ⟨fun a ha => (wr_off ha).trans (g1 a ha), ?_⟩, fun t n h => ?_⟩
        · refine g2.add (q0 := q0) (y := sgv (C (25 + i) v) (C (34 + i) v) s) hq0 (fun q x hq => ⟨fun ⟨u, hu, z1, z2, z3⟩ => ?_, fun z => ?_⟩) ?_ (fun q hq hne => ?_)
          · by_cases e : u = i
            · subst e; exact Or.inr ⟨nI_inj (by omega) (by omega) (z2.symm.trans hp), z3⟩
            · exact Or.inl ⟨u, by omega, z1, z2, z3⟩
          · rcases z with ⟨u, hu, z⟩ | ⟨z1, z2⟩
            · exact ⟨u, by omega, z⟩
            · exact ⟨i, by omega, htr, by rw [z1]; exact hp, z2⟩
          · rw [wr_row]; unfold upd; rw [if_pos rfl]
            by_cases z : C' 47 q0 < sgv (C (25 + i) v) (C (34 + i) v) s
            · rw [if_pos z, if_neg (Int32.not_le.mpr z)]
            · rw [if_neg z, if_pos (Int32.not_lt.mp z)]
          · rw [wr_row]; unfold upd; rw [if_neg hne]
        · show fX1_measureLevels_L11 (nI v) s t.1 t.2 (n + 1) (nI i) C'
          rw [fX1_measureLevels_L11, if_neg hlt, trX_eq hi, e48, e49, e46]
          simp only [jn, bd, htr, if_false]
          rw [tn_nI (show i < 2 ^ 31 by omega), sg_eq hi hv, g1 (25 + i) (by omega), g1 (34 + i) (by omega), hp, tn_nI (show q0 < 2 ^ 31 by omega), nI_1]
          exact ⟨inb_nI hi (by omega), inb_nI hq0 (by omega), inb_nI hq0 (by omega), h⟩)
    0 200 (flR C 47 8 0) (by omega) (by omega)
    ⟨fun a ha => by unfold flR wrR; rw [if_neg ha], MaxOf.zero (fun q x ⟨u, hu, _⟩ => absurd hu (Nat.not_lt_zero u)) (fun q hq => by unfold flR wrR; rw [if_pos rfl, if_pos hq])⟩
  refine ⟨C', h1, h2, fun K hK => ?_⟩
  simp only [fX1_measureLevels, jn, bd]
  exact h3 (fun _ C' => K C', K) hK
theorem capX_L (C : Xm) (E : Int32 → Int32 → Int32 → Int32 → Prop) (K : Int32 → Prop) (z : Int32 × Int32 × Int32) (hz : capS (C 47) 8 = z) (hE : E z.1 z.2.1 z.2.2 (nI 8)) :
    ∀ (d i n : Nat), i + d = 8 → d < n → fX1_capturedPacket_L9 C E K n (capS (C 47) i).1 (capS (C 47) i).2.1 (capS (C 47) i).2.2 (nI i) := by
  intro d
  induction d with
  | zero =>
    intro i n hi hn
    obtain ⟨m, rfl⟩ : ∃ m, n = m + 1 := ⟨n - 1, by omega⟩
    obtain rfl : i = 8 := by omega
    rw [fX1_capturedPacket_L9, if_pos (show (8 : Int32) ≤ nI 8 by decide), hz]; exact hE
  | succ d ih =>
    intro i n hi hn
    obtain ⟨m, rfl⟩ : ∃ m, n = m + 1 := ⟨n - 1, by omega⟩
    have h := ih (i + 1) m (by omega) (by omega)
    have hb := inb_nI (show i < 8 by omega) (show 8 < 2 ^ 31 by omega)
    rw [fX1_capturedPacket_L9, if_neg (show ¬ (8 : Int32) ≤ nI i from nI_ge (b := 8) (by omega) (by omega))]
    simp only [jn, bd]
    rw [tn_nI (show i < 2 ^ 31 by omega), nI_1]
    refine ⟨hb, ?_⟩
    unfold capS at h
    by_cases h1 : C 47 i ≤ (capS (C 47) i).2.1
    · rw [if_pos h1] at h ⊢
      by_cases h2 : C 47 i ≤ (capS (C 47) i).2.2
      · rw [if_pos h2] at h ⊢; exact ⟨hb, h⟩
      · rw [if_neg h2] at h ⊢; exact ⟨hb, hb, h⟩
    · rw [if_neg h1] at h ⊢; exact ⟨hb, h⟩
theorem capX {C : Xm} (K : Int32 → Prop) (hK : K (capF (C 47) (C 46 5))) : fX1_capturedPacket C K := by
  obtain ⟨z, hz⟩ : ∃ z, capS (C 47) 8 = z := ⟨_, rfl⟩
  unfold capF at hK
  rw [hz] at hK
  simp only [fX1_capturedPacket, jn]
  refine capX_L C _ K z hz ?_ 8 0 200 (by omega) (by omega)
  by_cases h1 : z.2.2 = 0
  · rw [if_pos h1] at hK
    rw [if_pos h1, if_neg (show ¬ (1 : Int32) = 0 by decide)]; exact hK
  · rw [if_neg h1] at hK
    rw [if_neg h1, if_pos (by trivial)]
    by_cases h2 : z.2.1 - z.2.2 < C 46 5
    · rw [if_pos h2] at hK ⊢; exact hK
    · rw [if_neg h2] at hK ⊢; exact hK
theorem capM_L (N : Nm) (p1 p2 : Int32) (E : Int32 → Int32 → Int32 → Int32 → Prop) (K : Int32 → Nm → Prop) (z : Int32 × Int32 × Int32) (hz : capS (N.1 89) 8 = z) (hE : E z.1 z.2.1 z.2.2 (nI 8)) :
    ∀ (d i n : Nat), i + d = 8 → d < n → fX8_heard_L187 N p1 p2 E K n (capS (N.1 89) i).1 (capS (N.1 89) i).2.1 (capS (N.1 89) i).2.2 (nI i) := by
  intro d
  induction d with
  | zero =>
    intro i n hi hn
    obtain ⟨m, rfl⟩ : ∃ m, n = m + 1 := ⟨n - 1, by omega⟩
    obtain rfl : i = 8 := by omega
    rw [fX8_heard_L187, if_pos (show (8 : Int32) ≤ nI 8 by decide), hz]; exact hE
  | succ d ih =>
    intro i n hi hn
    obtain ⟨m, rfl⟩ : ∃ m, n = m + 1 := ⟨n - 1, by omega⟩
    have h := ih (i + 1) m (by omega) (by omega)
    have hb := inb_nI (show i < 8 by omega) (show 8 < 2 ^ 31 by omega)
    rw [fX8_heard_L187, if_neg (show ¬ (8 : Int32) ≤ nI i from nI_ge (b := 8) (by omega) (by omega))]
    simp only [jn, bd]
    rw [tn_nI (show i < 2 ^ 31 by omega), nI_1]
    refine ⟨hb, ?_⟩
    unfold capS at h
    by_cases h1 : N.1 89 i ≤ (capS (N.1 89) i).2.1
    · rw [if_pos h1] at h ⊢
      by_cases h2 : N.1 89 i ≤ (capS (N.1 89) i).2.2
      · rw [if_pos h2] at h ⊢; exact ⟨hb, h⟩
      · rw [if_neg h2] at h ⊢; exact ⟨hb, hb, h⟩
    · rw [if_neg h1] at h ⊢; exact ⟨hb, h⟩
