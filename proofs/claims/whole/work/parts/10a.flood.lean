/-! PART 10: A FLOOD. First: who sends, what is heard, what is captured -/
/-- does a node with packet p and hop count h send in slot s, with limit t -/
def trv (p h s t : Int32) : Int32 := if p = -1 then 0 else if s - h < 0 then 0 else if irm (s - h) 2 = 0 then (if t ≤ (s - h) / 2 then 0 else 1) else 0
theorem trv_bl (p h s t : Int32) : bl (trv p h s t) := by
  unfold trv
  split
  · decide
  · split
    · decide
    · split
      · split <;> decide
      · decide
theorem trX_eq {C : Xm} {u : Nat} (hu : u < 8) (s : Int32) (K : Int32 → Prop) : fX1_transmits C (nI u) s K = K (trv (C 48 u) (C 49 u) s (C 46 4)) := by
  simp only [fX1_transmits, jn, bd, trv]
  rw [tn_nI (by omega)]
  have hb := inb_nI hu (by omega)
  apply propext
  by_cases h1 : C 48 u = -1
  · rw [if_pos h1, if_pos h1]; exact ⟨fun h => h.2, fun h => ⟨hb, h⟩⟩
  · rw [if_neg h1, if_neg h1]
    by_cases h2 : s - C 49 u < 0
    · rw [if_pos h2, if_pos h2]; exact ⟨fun h => h.2.2.2, fun h => ⟨hb, hb, bl_0, h⟩⟩
    · rw [if_neg h2, if_neg h2]
      by_cases h3 : irm (s - C 49 u) 2 = 0
      · rw [if_pos h3, if_pos h3]
        by_cases h4 : C 46 4 ≤ (s - C 49 u) / 2
        · rw [if_pos h4, if_pos h4]; exact ⟨fun h => h.2.2.2, fun h => ⟨hb, hb, bl_0, h⟩⟩
        · rw [if_neg h4, if_neg h4]; exact ⟨fun h => h.2.2.2, fun h => ⟨hb, hb, bl_1, h⟩⟩
      · rw [if_neg h3, if_neg h3]; exact ⟨fun h => h.2.2.2, fun h => ⟨hb, hb, bl_0, h⟩⟩
theorem sub_pred (a b : Int32) : a - (b - 1) - 1 = a - b := by grind
theorem pred_ne2 {k : Nat} (hk : k ≤ 1000) : ¬ nI k - 1 = (-2 : Int32) := by
  intro q2
  have h7 := congrArg Int32.toInt q2
  have h9 : (nI k - 1).toInt = (k : Int) - 1 := pk_sub_toInt (a := k) (b := 1) (by omega) (by omega)
  rw [h9] at h7
  have : (-2 : Int32).toInt = -2 := by decide
  omega
theorem nI_nm1 {k : Nat} (hk : k ≤ 1000) : ¬ nI k = (-1 : Int32) := by
  intro q2
  have h7 := congrArg Int32.toInt q2
  rw [nI_toInt (by omega)] at h7
  have : (-1 : Int32).toInt = -1 := by decide
  omega
theorem trM_eq {N : Nm} {u : Nat} (hu : u < 8) {p h p' : Int32} (hH : RH p h p' (N.1 74 u)) (s : Int32) (K : Int32 → Prop) : fX8_transmits N (nI u) s K = K (trv p h s (N.1 66 16)) := by
  simp only [fX8_transmits, jn, bd, trv]
  rw [tn_nI (by omega)]
  have hb := inb_nI hu (by omega)
  apply propext
  rcases hH.2 with ⟨h1, h2, h3⟩ | ⟨q, k, h1, h2, h3, h4, h5⟩
  · rw [h3, if_pos rfl, if_pos h1]; exact ⟨fun h => h.2.2.2, fun h => ⟨hb, hb, bl_0, h⟩⟩
  · rw [h5, sub_pred, if_neg (pred_ne2 (k := k) (by omega)), h3, if_neg (nI_nm1 (by omega)), ← h4]
    by_cases h6 : s - h < 0
    · rw [if_pos h6, if_pos h6]; exact ⟨fun h => h.2.2.2, fun h => ⟨hb, hb, bl_0, h⟩⟩
    · rw [if_neg h6, if_neg h6]
      by_cases h7 : irm (s - h) 2 = 0
      · rw [if_pos h7, if_pos h7]
        by_cases h8 : N.1 66 16 ≤ (s - h) / 2
        · rw [if_pos h8, if_pos h8]; exact ⟨fun h => h.2.2.2, fun h => ⟨hb, hb, bl_0, h⟩⟩
        · rw [if_neg h8, if_neg h8]; exact ⟨fun h => h.2.2.2, fun h => ⟨hb, hb, bl_1, h⟩⟩
      · rw [if_neg h7, if_neg h7]; exact ⟨fun h => h.2.2.2, fun h => ⟨hb, hb, bl_0, h⟩⟩
/-- in plain numbers -/
theorem trv_nat {q k s t : Nat} (hq : q < 8) (hk : k ≤ 1000) (hs : s ≤ 1000) (ht : t ≤ 4) : trv (nI q) (nI k) (nI s) (nI t) = if k ≤ s ∧ (s - k) % 2 = 0 ∧ (s - k) / 2 < t then 1 else 0 := by
  unfold trv
  rw [if_neg (nI_nm1 (by omega))]
  by_cases h1 : k ≤ s
  · have e1 : nI s - nI k = nI (s - k) := pk_sub h1
    have e2 : irm (nI (s - k)) 2 = nI ((s - k) % 2) := pk_rem (a := s - k) (d := 2) (by omega) (by omega) (by omega)
    have e3 : nI (s - k) / 2 = nI ((s - k) / 2) := pk_div (a := s - k) (d := 2) (by omega) (by omega) (by omega)
    rw [e1, if_neg (nI_pos (by omega)), e2, e3]
    by_cases h2 : (s - k) % 2 = 0
    · rw [h2, if_pos (show nI 0 = 0 from nI_0)]
      by_cases h3 : (s - k) / 2 < t
      · rw [if_neg (nI_ge h3 (by omega)), if_pos ⟨h1, rfl, h3⟩]
      · rw [if_pos (nI_le (by omega) (by omega)), if_neg (fun z => h3 z.2.2)]
    · rw [if_neg (nI_ne0 (by omega) (by omega)), if_neg (fun z => h2 z.2.1)]
  · rw [if_pos (pk_sneg (by omega) (by omega)), if_neg (fun z => h1 z.1)]
/-- the signal over a link in a slot -/
def sgv (st ls s : Int32) : Int32 := if ls ≤ 0 then st else if irm (s + 1) ls = 0 then 0 else st
theorem sg_eq {C : Xm} {u v : Nat} (hu : u < 8) (hv : v < 8) (s : Int32) (K : Int32 → Prop) : fX2_signal C (nI u) (nI v) s K = K (sgv (C (25 + u) v) (C (34 + u) v) s) := by
  simp only [fX2_signal, jn, bd, sgv]
  rw [tn_nI (by omega), tn_nI (by omega)]
  have hb := inb_nI hu (by omega)
  have hb2 := inb_nI hv (by omega)
  apply propext
  by_cases h1 : C (34 + u) v ≤ 0
  · rw [if_pos h1, if_pos h1]; exact ⟨fun h => h.2.2.2.2, fun h => ⟨hb, hb2, hb, hb2, h⟩⟩
  · have h0 : ¬ C (34 + u) v = 0 := fun q => h1 (by rw [q]; decide)
    rw [if_neg h1, if_neg h1]
    by_cases h2 : irm (s + 1) (C (34 + u) v) = 0
    · rw [if_pos h2, if_pos h2]; exact ⟨fun h => h.2.2.2, fun h => ⟨hb, hb2, h0, h⟩⟩
    · rw [if_neg h2, if_neg h2]; exact ⟨fun h => h.2.2.2.2.2, fun h => ⟨hb, hb2, h0, hb, hb2, h⟩⟩
/-- levels: for each packet the greatest of what comes, 0 where nothing does -/
def MaxOf (S : Nat → Int32 → Prop) (lv : Nat → Int32) : Prop := ∀ q, q < 8 → (lv q = 0 ∨ S q (lv q)) ∧ (∀ x, S q x → x ≤ lv q) ∧ 0 ≤ lv q
theorem MaxOf.same {S S' : Nat → Int32 → Prop} {lv lv' : Nat → Int32} (h : MaxOf S lv) (h' : MaxOf S' lv') (hS : ∀ q x, q < 8 → 0 < x → (S q x ↔ S' q x)) : ∀ q, q < 8 → lv q = lv' q := by
  intro q hq
  obtain ⟨a1, a2, a3⟩ := h q hq
  obtain ⟨b1, b2, b3⟩ := h' q hq
  have le1 : lv q ≤ lv' q := by
    rcases a1 with e | e
    · rw [e]; exact b3
    · by_cases hp : 0 < lv q
      · exact b2 _ ((hS q _ hq hp).mp e)
      · exact Int32.le_trans (Int32.not_lt.mp hp) b3
  have le2 : lv' q ≤ lv q := by
    rcases b1 with e | e
    · rw [e]; exact a3
    · by_cases hp : 0 < lv' q
      · exact a2 _ ((hS q _ hq hp).mpr e)
      · exact Int32.le_trans (Int32.not_lt.mp hp) a3
  exact Int32.le_antisymm le1 le2
theorem MaxOf.mono {S S' : Nat → Int32 → Prop} {lv : Nat → Int32} (h : MaxOf S lv) (hS : ∀ q x, q < 8 → (S q x ↔ S' q x)) : MaxOf S' lv := fun q hq => by
  obtain ⟨a1, a2, a3⟩ := h q hq
  exact ⟨a1.imp id (fun e => (hS q _ hq).mp e), fun x hx => a2 x ((hS q x hq).mpr hx), a3⟩
/-- the scan for the strongest: (packet, its level, the next level) -/
def capS (lv : Nat → Int32) : Nat → Int32 × Int32 × Int32
  | 0 => (-1, 0, 0)
  | i + 1 => if lv i ≤ (capS lv i).2.1 then (if lv i ≤ (capS lv i).2.2 then capS lv i else ((capS lv i).1, (capS lv i).2.1, lv i)) else (nI i, lv i, (capS lv i).2.1)
def capF (lv : Nat → Int32) (mg : Int32) : Int32 := if (capS lv 8).2.2 = 0 then (capS lv 8).1 else if (capS lv 8).2.1 - (capS lv 8).2.2 < mg then -1 else (capS lv 8).1
theorem capS_congr {lv lv' : Nat → Int32} (h : ∀ q, q < 8 → lv q = lv' q) : ∀ i, i ≤ 8 → capS lv i = capS lv' i := by
  intro i
  induction i with
  | zero => intro _; rfl
  | succ i ih => intro hi; unfold capS; rw [ih (by omega), h i (by omega)]
theorem capF_congr {lv lv' : Nat → Int32} (h : ∀ q, q < 8 → lv q = lv' q) (mg : Int32) : capF lv mg = capF lv' mg := by
  unfold capF; rw [capS_congr h 8 (by omega)]
theorem capS_rng (lv : Nat → Int32) : ∀ i, i ≤ 8 → ((capS lv i).1 = -1 ∧ (capS lv i).2.1 = 0 ∨ ∃ q, q < 8 ∧ (capS lv i).1 = nI q) ∧ ((capS lv i).1 = -1 → (capS lv i).2.2 = 0 ∨ 0 < (capS lv i).2.2) := by
  intro i
  induction i with
  | zero => intro _; exact ⟨Or.inl ⟨rfl, rfl⟩, fun _ => Or.inl rfl⟩
  | succ i ih =>
    intro hi
    obtain ⟨h1, h2⟩ := ih (by omega)
    unfold capS
    split
    · split
      · exact ⟨h1, h2⟩
      · rename_i a b
        refine ⟨h1, fun hm => ?_⟩
        have hm : (capS lv i).1 = -1 := hm
        rcases h2 hm with e | e
        · right; show 0 < lv i; rw [e] at b; exact Int32.not_le.mp b
        · right; show 0 < lv i; exact Int32.lt_trans e (Int32.not_le.mp b)
    · exact ⟨Or.inr ⟨i, by omega, rfl⟩, fun hm => absurd hm (nI_nm1 (by omega))⟩
theorem capF_rng (lv : Nat → Int32) (mg : Int32) : capF lv mg = -1 ∨ ∃ q, q < 8 ∧ capF lv mg = nI q := by
  have h := (capS_rng lv 8 (by omega)).1
  unfold capF
  split
  · rcases h with ⟨h, _⟩ | h
    · exact Or.inl h
    · exact Or.inr h
  · split
    · exact Or.inl rfl
    · rcases h with ⟨h, _⟩ | h
      · exact Or.inl h
      · exact Or.inr h
