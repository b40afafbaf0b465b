/-! PART 08: PLAIN FACTS on the functions of part 06: no machine from here on -/
theorem inb_nI {j n : Nat} (h : j < n) (hn : n < 2 ^ 31) : inb (nI j) n := vp_in_iff.mp (vp_in_nI h hn)
theorem tn_nI {j : Nat} (h : j < 2 ^ 31) : Int32.toNatClampNeg (nI j) = j := nI_clamp h
theorem bl_0 : bl 0 := by decide
theorem bl_1 : bl 1 := by decide
/-- a loop that counts up to e, its end e known beforehand: the state behind it, whatever comes then -/
theorem ex_loop {σ τ : Type} (F : τ → Nat → Nat → σ → Prop) (X : τ → σ → Prop) (I : Nat → σ → Prop) (e : Nat)
    (hx : ∀ t n s, I e s → X t s → F t (n + 1) e s)
    (hs : ∀ i s, i < e → I i s → ∃ s', I (i + 1) s' ∧ ∀ t n, F t n (i + 1) s' → F t (n + 1) i s) :
    ∀ (i n : Nat) (s : σ), i ≤ e → e - i < n → I i s → ∃ s', I e s' ∧ ∀ t, X t s' → F t n i s := by
  have key : ∀ (d i n : Nat) (s : σ), i + d = e → d < n → I i s → ∃ s', I e s' ∧ ∀ t, X t s' → F t n i s := by
    intro d
    induction d with
    | zero =>
      intro i n s hi hn hI
      have e1 : i = e := by omega
      subst e1
      obtain ⟨m, rfl⟩ : ∃ m, n = m + 1 := ⟨n - 1, by omega⟩
      exact ⟨s, hI, fun t h => hx t m s hI h⟩
    | succ d ih =>
      intro i n s hi hn hI
      obtain ⟨m, rfl⟩ : ∃ m, n = m + 1 := ⟨n - 1, by omega⟩
      obtain ⟨s1, hI1, h1⟩ := hs i s (by omega) hI
      obtain ⟨s2, hI2, h2⟩ := ih (i + 1) m s1 (by omega) (by omega) hI1
      exact ⟨s2, hI2, fun t h => h1 t m (h2 t h)⟩
  intro i n s hi hn hI
  exact key (e - i) i n s (by omega) hn hI
/-- what the small tests answer -/
def bnv (n : Nat) (a : Int32) : Int32 := if a < 0 then 0 else if nI n ≤ a then 0 else 1
theorem bnv_cases (a : Int32) {n : Nat} (hn : n < 2 ^ 31) : bnv n a = 0 ∨ ∃ j, j < n ∧ a = nI j ∧ bnv n a = 1 := by
  unfold bnv
  rcases pk_ix a hn with h | h | ⟨j, hj, rfl⟩
  · left; rw [if_pos h]
  · left; rw [if_pos h]; split <;> rfl
  · right; exact ⟨j, hj, rfl, by rw [if_neg (nI_pos (by omega)), if_neg (nI_ge hj hn)]⟩
theorem within_eq (a lo hi : Int32) (K : Int32 → Prop) : fX8_within a lo hi K = K (if a < lo then 0 else if hi < a then 0 else 1) := by
  unfold fX8_within jn
  split
  · exact propext ⟨fun h => h.2, fun h => ⟨bl_0, h⟩⟩
  · split
    · exact propext ⟨fun h => h.2, fun h => ⟨bl_0, h⟩⟩
    · exact propext ⟨fun h => h.2, fun h => ⟨bl_1, h⟩⟩
theorem has_eq {C : Xm} {n : Nat} (hn : C 22 1 = nI n) (a : Int32) (K : Int32 → Prop) : fX3_has C a K = K (bnv n a) := by
  unfold fX3_has jn bnv
  rw [hn]
  split
  · exact propext ⟨fun h => h.2, fun h => ⟨bl_0, h⟩⟩
  · split
    · exact propext ⟨fun h => h.2, fun h => ⟨bl_0, h⟩⟩
    · exact propext ⟨fun h => h.2, fun h => ⟨bl_1, h⟩⟩
theorem hasS_eq {C : Xm} {n : Nat} (hn : C 50 1 = nI n) (a : Int32) (K : Int32 → Prop) : fX6_has C a K = K (bnv n a) := by
  unfold fX6_has jn bnv
  rw [hn]
  split
  · exact propext ⟨fun h => h.2, fun h => ⟨bl_0, h⟩⟩
  · split
    · exact propext ⟨fun h => h.2, fun h => ⟨bl_0, h⟩⟩
    · exact propext ⟨fun h => h.2, fun h => ⟨bl_1, h⟩⟩
theorem pred_lt {n : Nat} (hn : n ≤ 100) (a : Int32) : nI n - 1 < a ↔ nI n ≤ a := by
  have h1 : (nI n - 1).toInt = (n : Int) - 1 := by
    have := pk_sub_toInt (a := n) (b := 1) (by omega) (by omega)
    exact this
  rw [Int32.lt_iff_toInt_lt, Int32.le_iff_toInt_le, h1, nI_toInt (by omega)]
  omega
theorem within_bnv {n : Nat} (hn : n ≤ 100) (a : Int32) : (if a < 0 then (0 : Int32) else if nI n - 1 < a then 0 else 1) = bnv n a := by
  unfold bnv
  split
  · rfl
  · by_cases h : nI n ≤ a
    · rw [if_pos ((pred_lt hn a).mpr h), if_pos h]
    · rw [if_neg (fun q => h ((pred_lt hn a).mp q)), if_neg h]
theorem isNode_eq {N : Nm} {n : Nat} (hn : n ≤ 100) (h : N.1 66 2 = nI n) (a : Int32) (K : Int32 → Prop) : fX8_isNode N a K = K (bnv n a) := by
  unfold fX8_isNode
  rw [within_eq, h, within_bnv hn]
  refine propext ⟨fun h => h.2, fun h => ⟨?_, h⟩⟩
  rcases bnv_cases a (show n < 2 ^ 31 by omega) with q | ⟨_, _, _, q⟩ <;> rw [q] <;> decide
theorem isStream_eq {N : Nm} {n : Nat} (hn : n ≤ 100) (h : N.1 66 20 = nI n) (a : Int32) (K : Int32 → Prop) : fX8_isStream N a K = K (bnv n a) := by
  unfold fX8_isStream
  rw [within_eq, h, within_bnv hn]
  refine propext ⟨fun h => h.2, fun h => ⟨?_, h⟩⟩
  rcases bnv_cases a (show n < 2 ^ 31 by omega) with q | ⟨_, _, _, q⟩ <;> rw [q] <;> decide
/-! ## what ties the class's world to the reference's -/
/-- the buffer -/
def RB (l : Int32) (b : Nat → Int32) (l' : Int32) (b' : Nat → Int32) : Prop := ∃ len : Nat, len ≤ 61 ∧ l = nI len ∧ l' = nI len ∧ ∀ j, j < len → b j = b' j ∧ ∃ c : Nat, 32 ≤ c ∧ c ≤ 126 ∧ b j = nI c
/-- a setting in its range -/
def RT (lo hi : Nat) (x y : Int32) : Prop := x = y ∧ ∃ k : Nat, lo ≤ k ∧ k ≤ hi ∧ x = nI k
/-- links: rows of strengths and loss periods against the list -/
def LM (n : Nat) (st ls : Nat → Nat → Int32) (A B S P : Nat → Int32) (L : Nat) : Prop :=
  (∀ k, k < L → ∃ a b s p : Nat, a < b ∧ b < n ∧ 1 ≤ s ∧ s ≤ 9 ∧ p ≤ 9 ∧ p ≠ 1 ∧ A k = nI a ∧ B k = nI b ∧ S k = nI s ∧ P k = nI p ∧ st a b = nI s ∧ st b a = nI s ∧ ls a b = nI p ∧ ls b a = nI p) ∧
  (∀ k k', k < L → k' < L → A k = A k' → B k = B k' → k = k') ∧
  (∀ i j, i < 8 → j < 8 → (∀ k, k < L → ¬ (A k = nI i ∧ B k = nI j) ∧ ¬ (A k = nI j ∧ B k = nI i)) → st i j = 0 ∧ ls i j = 0)
def RLk (n : Nat) (C : Xm) (lk : Int32) (A B S P : Nat → Int32) : Prop := ∃ L : Nat, L ≤ 12 ∧ lk = nI L ∧ LM n (fun i j => C (25 + i) j) (fun i j => C (34 + i) j) A B S P L
/-- nodes: alive, missed, sent -/
def RN (n : Nat) (al mi se al' se' mi' : Nat → Int32) : Prop := (∀ v, v < 8 → al v = al' v ∧ bl (al v)) ∧ ∀ v, v < n → mi v = mi' v ∧ se v = se' v ∧ (al v = 0 → mi v = 0)
/-- what a node holds -/
def RH (p h p' r' : Int32) : Prop := p = p' ∧ ((p = -1 ∧ h = -1 ∧ r' = -2) ∨ ∃ q k : Nat, q < 8 ∧ k ≤ 57 ∧ p = nI q ∧ h = nI k ∧ r' = nI k - 1)
def RF (n : Nat) (le : Int32) (p h : Nat → Int32) (le' : Int32) (p' r' : Nat → Int32) : Prop := le = le' ∧ (0 < n → ∀ v, v < 8 → RH (p v) (h v) (p' v) (r' v))
/-- the host -/
def RO (n : Nat) (x y : Int32) : Prop := x = y ∧ ((n = 0 ∧ x = -1) ∨ ∃ h, h < n ∧ x = nI h)
/-- one stream: the class's object at row k, the reference's columns at i -/
def RS1 (n : Nat) (o g : Nat → Int32) (i : Nat) (so pe sta wa ge de lo : Nat → Int32) : Prop :=
  o 1 = so i ∧ o 2 = pe i ∧ o 3 = sta i ∧ o 4 = wa i ∧ o 5 = de i ∧ o 6 = lo i ∧ (∃ v, v < n ∧ o 1 = nI v) ∧ (∃ v : Nat, 1 ≤ v ∧ v ≤ 9 ∧ o 2 = nI v) ∧ (∃ v : Nat, v ≤ 99 ∧ o 3 = nI v) ∧ ∃ w : Nat, w ≤ 4 ∧ o 4 = nI w ∧ ∀ j, j < w → g j = ge (4 * i + j)
/-- the streams: the rows name the six objects, each once -/
def RS (n : Nat) (C : Xm) (cn : Int32) (so pe sta wa ge de lo : Nat → Int32) : Prop :=
  ∃ (π : Nat → Nat) (cnt : Nat), cnt ≤ 6 ∧ C 50 1 = nI cnt ∧ cn = nI cnt ∧ (∀ i, i < 6 → π i < 6 ∧ C 51 i = nI (π i)) ∧ (∀ i j, i < 6 → j < 6 → π i = π j → i = j) ∧ ∀ i, i < cnt → RS1 n (C (52 + 2 * π i)) (C (53 + 2 * π i)) i so pe sta wa ge de lo
/-- the schedule -/
def RC (cn : Int32) (sz : Int32) (en : Nat → Int32) (sz' : Int32) (en' : Nat → Int32) : Prop := ∃ z : Nat, z ≤ 6 ∧ sz = nI z ∧ sz' = nI z ∧ ∀ k, k < z → en k = en' k ∧ ∃ i c : Nat, cn = nI c ∧ i < c ∧ c ≤ 6 ∧ en k = nI i
/-- THE RELATION of the two worlds between calls -/
def Rel (C : Xm) (N : Nm) : Prop :=
  RB (C 1 1) (C 2) (N.1 66 0) (N.1 67) ∧ RT 1 4 (C 46 4) (N.1 66 16) ∧ RT 1 9 (C 46 5) (N.1 66 17) ∧ RT 0 6 (C 0 5) (N.1 66 18) ∧ RT 1 9 (C 0 6) (N.1 66 19) ∧ RT 0 9999 (C 0 8) (N.1 66 15) ∧
  ∃ n : Nat, n ≤ 8 ∧ C 22 1 = nI n ∧ N.1 66 2 = nI n ∧ RO n (C 0 7) (N.1 66 14) ∧ RN n (C 42) (C 43) (C 44) (N.1 72) (N.1 75) (N.1 76) ∧ RF n (C 46 3) (C 48) (C 49) (N.1 66 13) (N.1 73) (N.1 74) ∧ RLk n C (N.1 66 3) (N.1 68) (N.1 69) (N.1 70) (N.1 71) ∧
  RS n C (N.1 66 20) (N.1 77) (N.1 78) (N.1 79) (N.1 80) (N.1 81) (N.1 82) (N.1 83) ∧ RC (N.1 66 20) (C 64 1) (C 65) (N.1 66 28) (N.1 84)
/-- a call of both sides: one answer, and the worlds go on tied -/
def OpI (fx : (Int32 → Xm → Prop) → Prop) (fm : (Int32 → Nm → Prop) → Prop) : Prop := ∃ (r : Int32) (C' : Xm) (N' : Nm), Rel C' N' ∧ (∀ K, K r C' → fx K) ∧ ∀ K, K r N' → fm K
def OpR (fx : (Int32 → Prop) → Prop) (fm : (Int32 → Prop) → Prop) : Prop := ∃ r : Int32, (∀ K, K r → fx K) ∧ ∀ K, K r → fm K
def OpL (fx : (Int64 → Prop) → Prop) (fm : (Int64 → Nm → Prop) → Prop) (C : Xm) : Prop := ∃ (r : Int64) (N' : Nm), Rel C N' ∧ (∀ K, K r → fx K) ∧ ∀ K, K r N' → fm K
theorem LM.congr {n : Nat} {st ls st' ls' : Nat → Nat → Int32} {A B S P : Nat → Int32} {L : Nat} (hn : n ≤ 8) (h : LM n st ls A B S P L) (h1 : ∀ i j, i < 8 → j < 8 → st' i j = st i j) (h2 : ∀ i j, i < 8 → j < 8 → ls' i j = ls i j) : LM n st' ls' A B S P L := by
  obtain ⟨a1, a2, a3⟩ := h
  refine ⟨fun k hk => ?_, a2, fun i j hi hj hh => ?_⟩
  · obtain ⟨a, b, s, p, g1, g2, g3, g4, g5, g6, g7, g8, g9, g10, g11, g12, g13, g14⟩ := a1 k hk
    exact ⟨a, b, s, p, g1, g2, g3, g4, g5, g6, g7, g8, g9, g10, by rw [h1 a b (by omega) (by omega)]; exact g11, by rw [h1 b a (by omega) (by omega)]; exact g12, by rw [h2 a b (by omega) (by omega)]; exact g13, by rw [h2 b a (by omega) (by omega)]; exact g14⟩
  · rw [h1 i j hi hj, h2 i j hi hj]; exact a3 i j hi hj hh
theorem RLk.off {n : Nat} {C C' : Xm} {lk : Int32} {A B S P : Nat → Int32} (hn : n ≤ 8) (h : RLk n C lk A B S P) (hC : ∀ a, 25 ≤ a → a < 42 → C' a = C a) : RLk n C' lk A B S P := by
  obtain ⟨L, h1, h2, h3⟩ := h
  exact ⟨L, h1, h2, LM.congr hn h3 (fun i j hi _ => by rw [hC (25 + i) (by omega) (by omega)]) (fun i j hi _ => by rw [hC (34 + i) (by omega) (by omega)])⟩
theorem RS.off {n : Nat} {C C' : Xm} {cn : Int32} {so pe sta wa ge de lo : Nat → Int32} (h : RS n C cn so pe sta wa ge de lo) (hC : ∀ a, 50 ≤ a → a < 64 → C' a = C a) : RS n C' cn so pe sta wa ge de lo := by
  obtain ⟨π, cnt, h1, h2, h3, h4, h5, h6⟩ := h
  refine ⟨π, cnt, h1, by rw [hC 50 (by omega) (by omega)]; exact h2, h3, fun i hi => by rw [hC 51 (by omega) (by omega)]; exact h4 i hi, h5, fun i hi => ?_⟩
  have := (h4 i (by omega)).1
  rw [hC (52 + 2 * π i) (by omega) (by omega), hC (53 + 2 * π i) (by omega) (by omega)]
  exact h6 i hi
/-! ## the small calls -/
theorem op_clearBuffer {C : Xm} {N : Nm} (h : Rel C N) : OpI (fX7_clearBuffer C) (fX8_clearBuffer N) := by
  obtain ⟨⟨len, h1, h2, h3, h4⟩, ht, hm, hs, hk, hrd, n, hn, hC, hM, hO, hN, hF, hL, hS, hR⟩ := h
  refine ⟨nI len, wr C 1 1 0, wrN N 66 0 0, ⟨⟨0, by omega, rfl, rfl, fun j hj => absurd hj (Nat.not_lt_zero j)⟩, ht, hm, hs, hk, hrd, n, hn, hC, hM, hO, hN, hF, hL.off hn (fun a _ _ => wr_off (by omega)), hS.off (fun a _ _ => wr_off (by omega)), hR⟩, fun K hK => ?_, fun K hK => ?_⟩
  · simp only [fX7_clearBuffer, bd]; rw [h2]; exact hK
  · simp only [fX8_clearBuffer, bd]; rw [h3]; exact hK
theorem op_append {C : Xm} {N : Nm} (h : Rel C N) (a : Int32) : OpI (fX7_append C a) (fX8_append N a) := by
  have h0 := h
  obtain ⟨⟨len, h1, h2, h3, h4⟩, ht, hm, hs, hk, hrd, n, hn, hC, hM, hO, hN, hF, hL, hS, hR⟩ := h
  by_cases ha : a < 32
  · refine ⟨-1002, C, N, h0, fun K hK => ?_, fun K hK => ?_⟩
    · simp only [fX7_append, jn]; rw [if_pos ha]; exact hK
    · unfold fX8_append; rw [within_eq, if_pos ha, if_pos rfl]; exact hK
  by_cases hb : 126 < a
  · refine ⟨-1002, C, N, h0, fun K hK => ?_, fun K hK => ?_⟩
    · simp only [fX7_append, jn]; rw [if_neg ha, if_neg (Int32.not_le.mpr hb)]; exact hK
    · unfold fX8_append; rw [within_eq, if_neg ha, if_pos hb, if_pos rfl]; exact hK
  have hb' : a ≤ 126 := Int32.not_lt.mp hb
  have ha' : (32 : Int32) ≤ a := Int32.not_lt.mp ha
  obtain ⟨c, hc1, hc2⟩ := nI_of2 (x := a) (M := 126) (n := 126) (by decide) (fun q => ha (by rw [Int32.lt_iff_toInt_lt] at q ⊢; exact Int.lt_trans q (by decide))) hb'
  have hc3 : 32 ≤ c := by
    rw [hc2] at ha'
    exact (nI_leI (a := 32) (by omega) (by omega)).mp ha'
  by_cases hl : len = 61
  · refine ⟨-1004, C, N, h0, fun K hK => ?_, fun K hK => ?_⟩
    · simp only [fX7_append, jn, fX0_add, bd]; rw [if_neg ha, if_pos hb', h2, if_neg (by rw [hl]; decide)]; exact hK
    · unfold fX8_append; rw [within_eq, if_neg ha, if_neg hb, if_neg (by decide), h3, if_pos (by rw [hl]; decide)]; exact hK
  · have hlt : len < 61 := by omega
    refine ⟨nI (len + 1), wr (wr C 2 len a) 1 1 (nI (len + 1)), wrN (wrN N 67 len a) 66 0 (nI (len + 1)), ⟨⟨len + 1, by omega, rfl, rfl, fun j hj => ?_⟩, ht, hm, hs, hk, hrd, n, hn, hC, hM, hO, hN, hF, hL.off hn (fun a _ _ => (wr_off (by omega)).trans (wr_off (by omega))), hS.off (fun a _ _ => (wr_off (by omega)).trans (wr_off (by omega))), hR⟩, fun K hK => ?_, fun K hK => ?_⟩
    · show wr C 2 len a 2 j = (wrN N 67 len a).1 67 j ∧ ∃ c : Nat, 32 ≤ c ∧ c ≤ 126 ∧ wr C 2 len a 2 j = nI c
      by_cases e : j = len
      · subst e
        simp only [wr, wrN, and_self, if_true]
        exact ⟨trivial, c, hc3, hc1, hc2⟩
      · have := h4 j (by omega)
        simp only [wr, wrN, e, and_false, if_false]
        exact this
    · simp only [fX7_append, jn, fX0_add, bd]
      rw [if_neg ha, if_pos hb', h2, if_pos (show nI len < 61 from nI_lt (b := 61) hlt (by omega)), tn_nI (by omega)]
      refine ⟨inb_nI hlt (by omega), ?_⟩
      have e1 : wr C 2 len a 1 1 + 1 = nI (len + 1) := by show C 1 1 + 1 = _; rw [h2]; exact nI_1 len
      rw [e1]; exact hK
    · simp only [fX8_append, bd]
      rw [within_eq, if_neg ha, if_neg hb, if_neg (by decide), h3, if_neg (show ¬ nI len = 61 from fun q => hl ((nI_eq (a := len) (b := 61) (by omega) (by omega)).mp q)), tn_nI (by omega)]
      refine ⟨inb_nI hlt (by omega), ?_⟩
      have e1 : (wrN N 67 len a).1 66 0 + 1 = nI (len + 1) := by show N.1 66 0 + 1 = _; rw [h3]; exact nI_1 len
      rw [e1]; exact hK
