/-- what comes to node v of the reference's in a slot, over the links below i -/
def SM (N : Nm) (P H : Nat → Int32) (v : Nat) (s : Int32) (i : Nat) (q : Nat) (x : Int32) : Prop :=
  ∃ k u, k < i ∧ u < 8 ∧ ((N.1 68 k = nI v ∧ N.1 69 k = nI u) ∨ (N.1 68 k ≠ nI v ∧ N.1 69 k = nI v ∧ N.1 68 k = nI u)) ∧ ¬ (0 < N.1 71 k ∧ irm (s + 1) (N.1 71 k) = 0) ∧ trv (P u) (H u) s (N.1 66 16) ≠ 0 ∧ P u = nI q ∧ x = N.1 70 k
theorem heardM {N : Nm} {P H : Nat → Int32} {v n L : Nat} (hv : v < 8) (s : Int32) (hn : n ≤ 8) (hL : L ≤ 12) (hlk : N.1 66 3 = nI L) (hAB : ∀ k, k < L → ∃ a b : Nat, a < b ∧ b < n ∧ N.1 68 k = nI a ∧ N.1 69 k = nI b) (hH : ∀ u, u < 8 → RH (P u) (H u) (N.1 73 u) (N.1 74 u)) :
    ∃ N', (∀ a b, a ≠ 89 → N'.1 a b = N.1 a b) ∧ N'.2 = N.2 ∧ MaxOf (SM N P H v s L) (N'.1 89) ∧ ∀ K, K (capF (N'.1 89) (N.1 66 17)) N' → fX8_heard N (nI v) s K := by
  obtain ⟨N1, ⟨f1, f2, f3⟩, h1⟩ := ex_loop (F := fun (t : (Int32 → Nm → Prop) × (Int32 → Nm → Prop)) n i N' => fX8_heard_L2 (nI v) s t.1 t.2 n (nI i) N') (X := fun t N' => t.1 (nI 8) N')
    (I := fun i N' => (∀ a b, a ≠ 89 → N'.1 a b = N.1 a b) ∧ N'.2 = N.2 ∧ ∀ b, b < i → N'.1 89 b = 0) 8
    (fun t n N' _ h => by rw [fX8_heard_L2, if_pos (show (8 : Int32) ≤ nI 8 by decide)]; exact h)
    (fun i N' hi hI => by
      obtain ⟨g1, g2, g3⟩ := hI
      refine ⟨wrN N' 89 i 0, ⟨fun a b ha => ?_, g2, fun b hb => ?_⟩, fun t n h => ?_⟩
      · simp only [wrN, ha, false_and, if_false]; exact g1 a b ha
      · by_cases e : b = i
        · simp only [wrN, e, and_self, if_true]
        · simp only [wrN, e, and_false, if_false]; exact g3 b (by omega)
      · show fX8_heard_L2 (nI v) s t.1 t.2 (n + 1) (nI i) N'
        rw [fX8_heard_L2, if_neg (show ¬ (8 : Int32) ≤ nI i from nI_ge (b := 8) hi (by omega))]
        simp only [bd]
        rw [tn_nI (show i < 2 ^ 31 by omega), nI_1]
        exact ⟨inb_nI hi (by omega), h⟩)
    0 200 N (by omega) (by omega) ⟨fun _ _ _ => rfl, rfl, fun b hb => absurd hb (Nat.not_lt_zero b)⟩
  obtain ⟨N2, ⟨g1, g2, g3⟩, h2⟩ := ex_loop (F := fun (t : (Int32 → Nm → Prop) × (Int32 → Nm → Prop)) n i N' => fX8_heard_L23 (nI v) s t.1 t.2 n (nI i) N') (X := fun t N' => t.1 (nI L) N')
    (I := fun i N' => (∀ a b, a ≠ 89 → N'.1 a b = N.1 a b) ∧ N'.2 = N.2 ∧ MaxOf (SM N P H v s i) (N'.1 89)) L
    (fun t n N' hI h => by
      rw [fX8_heard_L23, hI.1 66 3 (by decide), hlk, if_pos (Int32.le_refl _)]; exact h)
    (fun i N' hi hI => by
      obtain ⟨g1, g2, g3⟩ := hI
      obtain ⟨a, b, hab, hbn, hA, hB⟩ := hAB i hi
      have hb12 := inb_nI (show i < 12 by omega) (show 12 < 2 ^ 31 by omega)
      have e3 := g1 66 3 (by decide)
      have e68 := g1 68 i (by decide)
      have e69 := g1 69 i (by decide)
      have e70 := g1 70 i (by decide)
      have e71 := g1 71 i (by decide)
      have e16 := g1 66 16 (by decide)
      have hlt : ¬ N'.1 66 3 ≤ nI i := by rw [e3, hlk]; exact nI_ge hi (by omega)
      -- which node the link leads to, whether it loses in this slot
      obtain ⟨lost, hlost⟩ : ∃ z, z = (if N.1 71 i ≤ 0 then (0 : Int32) else if irm (s + 1) (N.1 71 i) = 0 then 1 else 0) := ⟨_, rfl⟩
      have hl1 : lost = 0 ↔ ¬ (0 < N.1 71 i ∧ irm (s + 1) (N.1 71 i) = 0) := by
        rw [hlost]
        by_cases z1 : N.1 71 i ≤ 0
        · rw [if_pos z1]; exact ⟨fun _ z => absurd z1 (Int32.not_le.mpr z.1), fun _ => rfl⟩
        · rw [if_neg z1]
          by_cases z2 : irm (s + 1) (N.1 71 i) = 0
          · rw [if_pos z2]; exact ⟨fun z => absurd z (by decide), fun z => absurd ⟨Int32.not_le.mp z1, z2⟩ z⟩
          · rw [if_neg z2]; exact ⟨fun _ z => z2 z.2, fun _ => rfl⟩
      -- the step in the loop's own words
      have step : ∀ (t : (Int32 → Nm → Prop) × (Int32 → Nm → Prop)) (n : Nat) (o : Int32), o = (if N.1 68 i = nI v then N.1 69 i else if N.1 69 i = nI v then N.1 68 i else -1) →
          (if o = -1 then fX8_heard_L23 (nI v) s t.1 t.2 n (nI (i + 1)) N' else if lost = 0 then fX8_transmits N' o s (fun r28 => if r28 = 0 then fX8_heard_L23 (nI v) s t.1 t.2 n (nI (i + 1)) N' else inb o 8 ∧ inb (nI i) 12 ∧ inb (N'.1 73 (Int32.toNatClampNeg o)) 8 ∧ (if N.1 70 i ≤ N'.1 89 (Int32.toNatClampNeg (N'.1 73 (Int32.toNatClampNeg o))) then fX8_heard_L23 (nI v) s t.1 t.2 n (nI (i + 1)) (wrN N' 89 (Int32.toNatClampNeg (N'.1 73 (Int32.toNatClampNeg o))) (N'.1 89 (Int32.toNatClampNeg (N'.1 73 (Int32.toNatClampNeg o))))) else fX8_heard_L23 (nI v) s t.1 t.2 n (nI (i + 1)) (wrN N' 89 (Int32.toNatClampNeg (N'.1 73 (Int32.toNatClampNeg o))) (N.1 70 i)))) else fX8_heard_L23 (nI v) s t.1 t.2 n (nI (i + 1)) N') →
          fX8_heard_L23 (nI v) s t.1 t.2 (n + 1) (nI i) N' := by
        intro t n o ho h
        rw [fX8_heard_L23, if_neg hlt]
        simp only [jn, bd]
        rw [tn_nI (show i < 2 ^ 31 by omega), nI_1, e68, e69, e70, e71]
        refine ⟨hb12, ?_⟩
        -- the end of the step for a given end of the link
        have fin : ∀ L0 : Int32, L0 = lost → (if o = -1 then fX8_heard_L23 (nI v) s t.1 t.2 n (nI (i + 1)) N' else if L0 = 0 then fX8_transmits N' o s (fun r28 => if r28 = 0 then fX8_heard_L23 (nI v) s t.1 t.2 n (nI (i + 1)) N' else inb o 8 ∧ inb (nI i) 12 ∧ inb (N'.1 73 (Int32.toNatClampNeg o)) 8 ∧ (if N.1 70 i ≤ N'.1 89 (Int32.toNatClampNeg (N'.1 73 (Int32.toNatClampNeg o))) then inb (N'.1 73 (Int32.toNatClampNeg o)) 8 ∧ inb (N'.1 73 (Int32.toNatClampNeg o)) 8 ∧ fX8_heard_L23 (nI v) s t.1 t.2 n (nI (i + 1)) (wrN N' 89 (Int32.toNatClampNeg (N'.1 73 (Int32.toNatClampNeg o))) (N'.1 89 (Int32.toNatClampNeg (N'.1 73 (Int32.toNatClampNeg o))))) else inb (nI i) 12 ∧ inb (N'.1 73 (Int32.toNatClampNeg o)) 8 ∧ fX8_heard_L23 (nI v) s t.1 t.2 n (nI (i + 1)) (wrN N' 89 (Int32.toNatClampNeg (N'.1 73 (Int32.toNatClampNeg o))) (N.1 70 i)))) else fX8_heard_L23 (nI v) s t.1 t.2 n (nI (i + 1)) N') := by
          intro L0 hL0
          rw [hL0]
          by_cases z1 : o = -1
          · rw [if_pos z1] at h ⊢; exact h
          · rw [if_neg z1] at h ⊢
            by_cases z2 : lost = 0
            · rw [if_pos z2] at h ⊢
              have hmono : ∀ (A B : Int32 → Prop), (∀ r, A r → B r) → fX8_transmits N' o s A → fX8_transmits N' o s B := by
                intro A B hAB' hA'
                simp only [fX8_transmits, jn, bd] at hA' ⊢
                refine ⟨hA'.1, hA'.2.1, ?_⟩
                have := hA'.2.2
                revert this
                split
                · exact fun z => ⟨z.1, hAB' _ z.2⟩
                · split
                  · exact fun z => ⟨z.1, hAB' _ z.2⟩
                  · split
                    · split
                      · exact fun z => ⟨z.1, hAB' _ z.2⟩
                      · exact fun z => ⟨z.1, hAB' _ z.2⟩
                    · exact fun z => ⟨z.1, hAB' _ z.2⟩
              refine hmono _ _ (fun r hr => ?_) h
              by_cases z3 : r = 0
              · rw [if_pos z3] at hr ⊢; exact hr
              · rw [if_neg z3] at hr ⊢
                obtain ⟨w1, w2, w3, w4⟩ := hr
                refine ⟨w1, w2, w3, ?_⟩
                revert w4
                split
                · exact fun w4 => ⟨w3, w3, w4⟩
                · exact fun w4 => ⟨w2, w3, w4⟩
            · rw [if_neg z2] at h ⊢; exact h
        by_cases y1 : N.1 68 i = nI v
        · rw [if_pos y1]
          rw [if_pos y1] at ho
          rw [← ho]
          refine ⟨hb12, hb12, ?_⟩
          by_cases z1 : N.1 71 i ≤ 0
          · rw [if_pos z1]; exact fin 0 (by rw [hlost, if_pos z1])
          · rw [if_neg z1]
            refine ⟨hb12, fun q => z1 (by rw [q]; decide), ?_⟩
            by_cases z2 : irm (s + 1) (N.1 71 i) = 0
            · rw [if_pos z2]; exact fin 1 (by rw [hlost, if_neg z1, if_pos z2])
            · rw [if_neg z2]; exact fin 0 (by rw [hlost, if_neg z1, if_neg z2])
        · rw [if_neg y1]
          rw [if_neg y1] at ho
          refine ⟨hb12, ?_⟩
          by_cases y2 : N.1 69 i = nI v
          · rw [if_pos y2]
            rw [if_pos y2] at ho
            rw [← ho]
            refine ⟨hb12, hb12, ?_⟩
            by_cases z1 : N.1 71 i ≤ 0
            · rw [if_pos z1]; exact fin 0 (by rw [hlost, if_pos z1])
            · rw [if_neg z1]
              refine ⟨hb12, fun q => z1 (by rw [q]; decide), ?_⟩
              by_cases z2 : irm (s + 1) (N.1 71 i) = 0
              · rw [if_pos z2]; exact fin 1 (by rw [hlost, if_neg z1, if_pos z2])
              · rw [if_neg z2]; exact fin 0 (by rw [hlost, if_neg z1, if_neg z2])
          · rw [if_neg y2]
            rw [if_neg y2] at ho
            rw [if_pos ho] at h
            refine ⟨hb12, ?_⟩
            by_cases z1 : N.1 71 i ≤ 0
            · rw [if_pos z1]; exact h
            · rw [if_neg z1]
              refine ⟨hb12, fun q => z1 (by rw [q]; decide), ?_⟩
              by_cases z2 : irm (s + 1) (N.1 71 i) = 0
              · rw [if_pos z2]; exact h
              · rw [if_neg z2]; exact h
      -- nothing new comes over link i
      have stay : (∀ u, u < 8 → ((N.1 68 i = nI v ∧ N.1 69 i = nI u) ∨ (N.1 68 i ≠ nI v ∧ N.1 69 i = nI v ∧ N.1 68 i = nI u)) → ¬ (0 < N.1 71 i ∧ irm (s + 1) (N.1 71 i) = 0) → trv (P u) (H u) s (N.1 66 16) = 0) → MaxOf (SM N P H v s (i + 1)) (N'.1 89) := by
        intro hno
        refine g3.mono (fun q x _ => ⟨fun ⟨k, u, hk, z⟩ => ⟨k, u, by omega, z⟩, fun ⟨k, u, hk, hu, z1, z2, z3, z⟩ => ?_⟩)
        by_cases e : k = i
        · subst e; exact absurd (hno u hu z1 z2) z3
        · exact ⟨k, u, by omega, hu, z1, z2, z3, z⟩
      by_cases hinc : ∃ u, u < 8 ∧ ((N.1 68 i = nI v ∧ N.1 69 i = nI u) ∨ (N.1 68 i ≠ nI v ∧ N.1 69 i = nI v ∧ N.1 68 i = nI u))
      · obtain ⟨u, hu, hu2⟩ := hinc
        have ho : nI u = (if N.1 68 i = nI v then N.1 69 i else if N.1 69 i = nI v then N.1 68 i else -1) := by
          rcases hu2 with ⟨z1, z2⟩ | ⟨z1, z2, z3⟩
          · rw [if_pos z1, z2]
          · rw [if_neg z1, if_pos z2, z3]
        have huni : ∀ u', u' < 8 → ((N.1 68 i = nI v ∧ N.1 69 i = nI u') ∨ (N.1 68 i ≠ nI v ∧ N.1 69 i = nI v ∧ N.1 68 i = nI u')) → u' = u := by
          intro u' hu' z
          have : nI u' = nI u := by
            rw [ho]
            rcases z with ⟨z1, z2⟩ | ⟨z1, z2, z3⟩
            · rw [if_pos z1, z2]
            · rw [if_neg z1, if_pos z2, z3]
          exact nI_inj (by omega) (by omega) this
        have hne : ¬ nI u = (-1 : Int32) := nI_nm1 (by omega)
        have hRH : RH (P u) (H u) (N'.1 73 u) (N'.1 74 u) := by rw [g1 73 u (by decide), g1 74 u (by decide)]; exact hH u hu
        by_cases hl0 : lost = 0
        · by_cases htr : trv (P u) (H u) s (N.1 66 16) = 0
          · refine ⟨N', ⟨g1, g2, stay (fun u' hu' z1 _ => by rw [huni u' hu' z1]; exact htr)⟩, fun t n h => step t n (nI u) ho ?_⟩
            rw [if_neg hne, if_pos hl0, trM_eq hu hRH, e16, htr, if_pos rfl]; exact h
          · have hp : ∃ q, q < 8 ∧ P u = nI q := by
              rcases (hH u hu).2 with ⟨z, _⟩ | ⟨q, k, z1, _, z2, _⟩
              · exact absurd (by unfold trv; rw [if_pos z]) htr
              · exact ⟨q, z1, z2⟩
            obtain ⟨q0, hq0, hp⟩ := hp
            have hp' : N'.1 73 u = nI q0 := by rw [← hRH.1]; exact hp
            refine ⟨wrN N' 89 q0 (if N.1 70 i ≤ N'.1 89 q0 then N'.1 89 q0 else N.1 70 i), ⟨fun a b ha => ?_, g2, ?_⟩, fun t n h => step t n (nI u) ho ?_⟩
            · simp only [wrN, ha, false_and, if_false]; exact g1 a b ha
            · refine g3.add (q0 := q0) (y := N.1 70 i) hq0 (fun q x _ => ⟨fun ⟨k, u', hk, hu', z1, z2, z3, z4, z5⟩ => ?_, fun z => ?_⟩) ?_ (fun q hq hne => ?_)
              · by_cases e : k = i
                · subst e
                  have := huni u' hu' z1
                  subst this
                  exact Or.inr ⟨nI_inj (by omega) (by omega) (z4.symm.trans hp), z5⟩
                · exact Or.inl ⟨k, u', by omega, hu', z1, z2, z3, z4, z5⟩
              · rcases z with ⟨k, u', hk, z⟩ | ⟨z1, z2⟩
                · exact ⟨k, u', by omega, z⟩
                · exact ⟨i, u, by omega, hu, hu2, hl1.mp hl0, htr, by rw [z1]; exact hp, z2⟩
              · simp only [wrN, and_self, if_true]
              · simp only [wrN, hne, and_false, if_false]
            · rw [if_neg hne, if_pos hl0, trM_eq hu hRH, e16, if_neg htr, tn_nI (show u < 2 ^ 31 by omega), hp', tn_nI (show q0 < 2 ^ 31 by omega)]
              refine ⟨inb_nI hu (by omega), hb12, inb_nI hq0 (by omega), ?_⟩
              have h : fX8_heard_L23 (nI v) s t.1 t.2 n (nI (i + 1)) (wrN N' 89 q0 (if N.1 70 i ≤ N'.1 89 q0 then N'.1 89 q0 else N.1 70 i)) := h
              by_cases z : N.1 70 i ≤ N'.1 89 q0
              · rw [if_pos z] at h ⊢; exact h
              · rw [if_neg z] at h ⊢; exact h
        · refine ⟨N', ⟨g1, g2, stay (fun u' hu' _ z => absurd (hl1.mpr z) hl0)⟩, fun t n h => step t n (nI u) ho ?_⟩
          rw [if_neg hne, if_neg hl0]; exact h
      · have ho : (-1 : Int32) = (if N.1 68 i = nI v then N.1 69 i else if N.1 69 i = nI v then N.1 68 i else -1) := by
          by_cases z1 : N.1 68 i = nI v
          · exact absurd ⟨b, by omega, Or.inl ⟨z1, hB⟩⟩ hinc
          · rw [if_neg z1]
            by_cases z2 : N.1 69 i = nI v
            · exact absurd ⟨a, by omega, Or.inr ⟨z1, z2, hA⟩⟩ hinc
            · rw [if_neg z2]
        refine ⟨N', ⟨g1, g2, stay (fun u' hu' z1 _ => absurd ⟨u', hu', z1⟩ hinc)⟩, fun t n h => step t n (-1) ho ?_⟩
        rw [if_pos rfl]; exact h)
    0 200 N1 (by omega) (by omega) ⟨f1, f2, MaxOf.zero (fun q x ⟨k, u, hk, _⟩ => absurd hk (Nat.not_lt_zero k)) (fun q hq => f3 q hq)⟩
  refine ⟨N2, g1, g2, g3, fun K hK => ?_⟩
  simp only [fX8_heard, jn]
  refine h1 (fun _ N7 => _, K) ?_
  refine h2 (fun _ N45 => _, K) ?_
  obtain ⟨z, hz⟩ : ∃ z, capS (N2.1 89) 8 = z := ⟨_, rfl⟩
  refine capM_L N2 (nI v) s _ K z hz ?_ 8 0 200 (by omega) (by omega)
  have hrng := (capS_rng (N2.1 89) 8 (by omega)).1
  rw [hz] at hrng
  unfold capF at hK
  rw [hz] at hK
  show if z.1 = -1 then K (-1) N2 else if z.2.2 = 0 then K z.1 N2 else if z.2.1 - z.2.2 < N2.1 66 17 then K (-1) N2 else K z.1 N2
  rw [g1 66 17 (by decide)]
  by_cases y1 : z.1 = -1
  · rw [if_pos y1]
    rw [y1] at hK
    revert hK
    split
    · exact id
    · split <;> exact id
  · rw [if_neg y1]
    by_cases y2 : z.2.2 = 0
    · rw [if_pos y2] at hK ⊢; exact hK
    · rw [if_neg y2] at hK ⊢
      by_cases y3 : z.2.1 - z.2.2 < N.1 66 17
      · rw [if_pos y3] at hK ⊢; exact hK
      · rw [if_neg y3] at hK ⊢; exact hK
