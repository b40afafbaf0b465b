theorem i12 : ((1 : Int32) = 2) = False := by decide
theorem i13 : ((1 : Int32) = 3) = False := by decide
theorem i14 : ((1 : Int32) = 4) = False := by decide
theorem i15 : ((1 : Int32) = 5) = False := by decide
theorem i20 : ((2 : Int32) = 0) = False := by decide
theorem i30 : ((3 : Int32) = 0) = False := by decide
theorem i32 : ((3 : Int32) = 2) = False := by decide
theorem i40 : ((4 : Int32) = 0) = False := by decide
theorem i42 : ((4 : Int32) = 2) = False := by decide
theorem i43 : ((4 : Int32) = 3) = False := by decide
theorem i50 : ((5 : Int32) = 0) = False := by decide
theorem i52 : ((5 : Int32) = 2) = False := by decide
theorem i53 : ((5 : Int32) = 3) = False := by decide
theorem i54 : ((5 : Int32) = 4) = False := by decide
theorem mark {i c : Nat} {v2 v3 : Int32} {C : Xm} {N : Nm} {n L : Nat} {st : Int32} (hb : PB i st n L L C N) (hN : PN n C N) (c2 : c ≤ 126)
    (fx : ∀ K : Int32 → Xm → Prop, (fX0_acceptsLinkMark C (nI c) fun r C' => bl r ∧ K r C') → fX0_accepts C (nI c) K)
    (fm : ∀ (E : Int32 → Int32 → Int32 → Int32 → Nm → Prop) (K : Nm → Prop) (m : Nat), (if nI c = 59 then (if 12 ≤ N.1 66 31 then fX8_parse_L24 E K m 2 v2 v3 0 (wrN N 66 36 (nI i)) else fX8_parse_L24 E K m 2 v2 v3 1 (wrN N 66 36 (nI (i + 1)))) else fX8_parse_L24 E K m 2 v2 v3 0 (wrN N 66 36 (nI i))) → fX8_parse_L24 E K (m + 1) st v2 v3 1 N) : PStp i st v2 v3 c C N := by
  obtain ⟨h36, h5, hn, hL, h31, h4, hLM⟩ := hb
  by_cases z : nI c = 59
  · by_cases zL : L = 12
    · right
      refine ⟨2, v2, v3, wrN N 66 36 (nI i), PFn.w6 N (by omega) _, rfl, fun K hK => fx K ?_, fun E K m hh => fm E K m ?_⟩
      · simp only [fX0_acceptsLinkMark, jn, bd]; rw [if_pos z, h4, zL, if_neg (by decide)]; exact ⟨bl_0, hK⟩
      · rw [if_pos z, h31, zL, if_pos (by decide)]; exact hh
    · left
      have e4 : C 1 4 + 1 = nI (L + 1) := by rw [h4]; exact nI_1 L
      refine ⟨2, v2, v3, wr (wr C 1 4 (nI (L + 1))) 1 5 2, wrN N 66 36 (nI (i + 1)), ?_, (PFx.w1 C (by decide) _).trans (PFx.w1 _ (by decide) _), PFn.w6 N (by omega) _, fun K hK => fx K ?_, fun E K m hh => fm E K m ?_⟩
      · right; right; left
        refine ⟨rfl, n, L, by omega, ⟨rfl, rfl, hn, hL, h31, rfl, hLM.congr hn (fun a b _ _ => ?_) (fun a b _ _ => ?_)⟩, hN⟩
        · show wr (wr C 1 4 (nI (L + 1))) 1 5 2 (5 + a) b = _; rw [(wr1_row a).1, (wr1_row a).1]
        · show wr (wr C 1 4 (nI (L + 1))) 1 5 2 (14 + a) b = _; rw [(wr1_row a).2, (wr1_row a).2]
      · simp only [fX0_acceptsLinkMark, jn, bd]
        rw [if_pos z, e4, h4, if_pos (show nI L < 12 from nI_lt (b := 12) (by omega) (by omega))]; exact ⟨bl_1, hK⟩
      · rw [if_pos z, h31, if_neg (show ¬ 12 ≤ nI L from nI_ge (b := 12) (by omega) (by omega))]; exact hh
  · right
    refine ⟨2, v2, v3, wrN N 66 36 (nI i), PFn.w6 N (by omega) _, rfl, fun K hK => fx K ?_, fun E K m hh => fm E K m ?_⟩
    · simp only [fX0_acceptsLinkMark, jn, bd]; rw [if_neg z]; exact ⟨bl_0, hK⟩
    · rw [if_neg z]; exact hh
theorem st1 {i c len : Nat} {v2 v3 : Int32} {C : Xm} {N : Nm} (hp : PI i 1 v2 v3 C N) (hi : i < len) (hl : len ≤ 61) (h66 : N.1 66 0 = nI len) (hc : N.1 67 i = nI c) (c1 : 32 ≤ c) (c2 : c ≤ 126) : PStp i 1 v2 v3 c C N := by
  obtain ⟨n, L, hb, hN⟩ : ∃ n L, PB i 1 n L L C N ∧ PN n C N := by
    rcases hp with q | q | q | q | q | q
    · exact absurd q.1 (by decide)
    · exact q.2
    all_goals exact absurd q.1 (by decide)
  have hb0 := hb
  obtain ⟨h36, h5, hn, hL, h31, h4, hLM⟩ := hb
  have hpos : ¬ N.1 66 0 ≤ N.1 66 36 := by rw [h66, h36]; exact nI_ge hi (by omega)
  have hbi := inb_nI (show i < 61 by omega) (show 61 < 2 ^ 31 by omega)
  refine mark hb0 hN c2 (fun K hK => ?_) (fun E K m hh => ?_)
  · unfold fX0_accepts; rw [h5, if_neg (by decide), if_pos rfl]; exact hK
  · rw [fX8_parse_L24, if_neg (by decide), if_neg hpos]
    simp only [bd]
    rw [h36, tn_nI (show i < 2 ^ 31 by omega), hc, within_eq]
    refine ⟨hbi, dgj c1 c2 _ ?_⟩
    simp only [jn, ↓reduceIte, i10, i12, i13, i14, i15, i20, i30, i32, i40, i42, i43, i50, i52, i53, i54, h36, Int32.add_zero, nI_1]; exact hh
theorem st2 {i c len : Nat} {v2 v3 : Int32} {C : Xm} {N : Nm} (hp : PI i 2 v2 v3 C N) (hi : i < len) (hl : len ≤ 61) (h66 : N.1 66 0 = nI len) (hc : N.1 67 i = nI c) (c1 : 32 ≤ c) (c2 : c ≤ 126) : PStp i 2 v2 v3 c C N := by
  obtain ⟨n, L, hL12, ⟨h36, h5, hn, hL, h31, h4, hLM⟩, n2, h3, h30⟩ : ∃ n L, L < 12 ∧ PB i 2 n L (L + 1) C N ∧ PN n C N := by
    rcases hp with q | q | q | q | q | q
    · exact absurd q.1 (by decide)
    · exact absurd q.1 (by decide)
    · exact q.2
    all_goals exact absurd q.1 (by decide)
  have hpos : ¬ N.1 66 0 ≤ N.1 66 36 := by rw [h66, h36]; exact nI_ge hi (by omega)
  have hbi := inb_nI (show i < 61 by omega) (show 61 < 2 ^ 31 by omega)
  have mstep : ∀ (E : Int32 → Int32 → Int32 → Int32 → Nm → Prop) (K : Nm → Prop) (m : Nat), (if dg c < 0 then fX8_parse_L24 E K m 3 (dg c) v3 0 (wrN N 66 36 (nI i)) else if nI n ≤ dg c then fX8_parse_L24 E K m 3 (dg c) v3 0 (wrN N 66 36 (nI i)) else fX8_parse_L24 E K m 3 (dg c) v3 1 (wrN N 66 36 (nI (i + 1)))) → fX8_parse_L24 E K (m + 1) 2 v2 v3 1 N := by
    intro E K m hh
    rw [fX8_parse_L24, if_neg (by decide), if_neg hpos]
    simp only [bd]
    rw [h36, tn_nI (show i < 2 ^ 31 by omega), hc, within_eq]
    refine ⟨hbi, dgj c1 c2 _ ?_⟩
    simp only [jn, ↓reduceIte, i10, i12, i13, i14, i15, i20, i30, i32, i40, i42, i43, i50, i52, i53, i54, h36, Int32.add_zero, nI_1, h30]; exact hh
  rcases dg_split c1 c2 (lo := 0) (h := n) (by omega) (by omega) with ⟨d, d1, d2, ex, em⟩ | ⟨ex, em⟩
  · left
    refine ⟨3, nI d, v3, wr (wr C 1 6 (nI d)) 1 5 3, wrN N 66 36 (nI (i + 1)), ?_, (PFx.w1 C (by decide) _).trans (PFx.w1 _ (by decide) _), PFn.w6 N (by omega) _, fun K hK => ?_, fun E K m hh => mstep E K m ?_⟩
    · right; right; right; left
      refine ⟨rfl, n, L, d, hL12, ⟨rfl, rfl, hn, hL, h31, h4, hLM.congr hn (fun a b _ _ => ?_) (fun a b _ _ => ?_)⟩, ⟨n2, h3, h30⟩, rfl, d2, rfl⟩
      · show wr (wr C 1 6 (nI d)) 1 5 3 (5 + a) b = _; rw [(wr1_row a).1, (wr1_row a).1]
      · show wr (wr C 1 6 (nI d)) 1 5 3 (14 + a) b = _; rw [(wr1_row a).2, (wr1_row a).2]
    · unfold fX0_accepts
      rw [h5, if_neg (by decide), if_neg (by decide), if_pos rfl, ex]
      simp only [fX0_acceptsFirstNode, jn, bd]
      rw [if_neg (nI_pos (by omega)), h3, if_pos (nI_lt d2 (by omega))]
      exact ⟨bl_1, hK⟩
    · rw [em, if_neg (nI_pos (by omega)), if_neg (nI_ge d2 (by omega))]; exact hh
  · right
    refine ⟨3, dg c, v3, wrN N 66 36 (nI i), PFn.w6 N (by omega) _, rfl, fun K hK => ?_, fun E K m hh => mstep E K m ?_⟩
    · unfold fX0_accepts
      rw [h5, if_neg (by decide), if_neg (by decide), if_pos rfl]
      simp only [fX0_acceptsFirstNode, jn, bd]
      rw [h3]
      by_cases z : nI c - 48 < 0
      · rw [if_pos z]; exact ⟨bl_0, hK⟩
      · rcases ex with q | q
        · exact absurd q z
        · rw [if_neg z, if_neg (Int32.not_lt.mpr q)]; exact ⟨bl_0, hK⟩
    · by_cases z : dg c < 0
      · rw [if_pos z]; exact hh
      · rcases em with q | ⟨_, q⟩
        · exact absurd q z
        · rw [if_neg z, if_pos q]; exact hh
theorem st3 {i c len : Nat} {v2 v3 : Int32} {C : Xm} {N : Nm} (hp : PI i 3 v2 v3 C N) (hi : i < len) (hl : len ≤ 61) (h66 : N.1 66 0 = nI len) (hc : N.1 67 i = nI c) (c1 : 32 ≤ c) (c2 : c ≤ 126) : PStp i 3 v2 v3 c C N := by
  obtain ⟨n, L, a, hL12, ⟨h36, h5, hn, hL, h31, h4, hLM⟩, ⟨n2, h3, h30⟩, h6, han, rfl⟩ : ∃ n L a, L < 12 ∧ PB i 3 n L (L + 1) C N ∧ PN n C N ∧ C 1 6 = nI a ∧ a < n ∧ v2 = nI a := by
    rcases hp with q | q | q | q | q | q
    · exact absurd q.1 (by decide)
    · exact absurd q.1 (by decide)
    · exact absurd q.1 (by decide)
    · exact q.2
    all_goals exact absurd q.1 (by decide)
  have hpos : ¬ N.1 66 0 ≤ N.1 66 36 := by rw [h66, h36]; exact nI_ge hi (by omega)
  have hbi := inb_nI (show i < 61 by omega) (show 61 < 2 ^ 31 by omega)
  have mstep : ∀ (E : Int32 → Int32 → Int32 → Int32 → Nm → Prop) (K : Nm → Prop) (m : Nat), (if dg c ≤ nI a then fX8_parse_L24 E K m 4 (nI a) (dg c) 0 (wrN N 66 36 (nI i)) else if nI n ≤ dg c then fX8_parse_L24 E K m 4 (nI a) (dg c) 0 (wrN N 66 36 (nI i)) else fX8_isJoined N (nI a) (dg c) fun r => if r = 0 then fX8_parse_L24 E K m 4 (nI a) (dg c) 1 (wrN N 66 36 (nI (i + 1))) else fX8_parse_L24 E K m 4 (nI a) (dg c) 0 (wrN N 66 36 (nI i))) → fX8_parse_L24 E K (m + 1) 3 (nI a) v3 1 N := by
    intro E K m hh
    rw [fX8_parse_L24, if_neg (by decide), if_neg hpos]
    simp only [bd]
    rw [h36, tn_nI (show i < 2 ^ 31 by omega), hc, within_eq]
    refine ⟨hbi, dgj c1 c2 _ ?_⟩
    simp only [jn, ↓reduceIte, i10, i12, i13, i14, i15, i20, i30, i32, i40, i42, i43, i50, i52, i53, i54, h36, Int32.add_zero, nI_1, h30]; exact hh
  rcases dg_split c1 c2 (lo := a + 1) (h := n) (by omega) (by omega) with ⟨d, d1, d2, ex, em⟩ | ⟨ex, em⟩
  · have e0 : C (5 + a) d = 0 ↔ ∀ k, k < L → ¬ (N.1 85 k = nI a ∧ N.1 86 k = nI d) := by
      refine ⟨fun q k hk w => ?_, fun q => ?_⟩
      · obtain ⟨a', b', s', p', g1, g2, g3, g4, g5, g6, g7, g8, g9, g10, g11, g12, g13, g14⟩ := hLM.1 k hk
        have z1 := nI_inj (by omega) (by omega) (g7.symm.trans w.1)
        have z2 := nI_inj (by omega) (by omega) (g8.symm.trans w.2)
        subst z1; subst z2
        exact nI_ne0 (n := s') (by omega) (by omega) (g11.symm.trans q)
      · refine (hLM.2.2 a d (by omega) (by omega) (fun k hk => ⟨q k hk, fun w => ?_⟩)).1
        obtain ⟨a', b', s', p', g1, g2, g3, g4, g5, g6, g7, g8, _⟩ := hLM.1 k hk
        have z1 := nI_inj (by omega) (by omega) (g7.symm.trans w.1)
        have z2 := nI_inj (by omega) (by omega) (g8.symm.trans w.2)
        omega
    have hx : ∀ K : Int32 → Xm → Prop, (if C (5 + a) d = 0 then K 1 (wr (wr C 1 7 (nI d)) 1 5 4) else K 0 C) → fX0_accepts C (nI c) K := fun K hK => by
      unfold fX0_accepts
      rw [h5, if_neg (by decide), if_neg (by decide), if_neg (by decide), if_pos rfl, ex]
      simp only [fX0_acceptsSecondNode, fX2_join, jn, bd]
      rw [h6, h3, if_neg (show ¬ nI d ≤ nI a from nI_ge (by omega) (by omega)), if_neg (show ¬ nI n ≤ nI d from nI_ge d2 (by omega)), tn_nI (show a < 2 ^ 31 by omega), tn_nI (show d < 2 ^ 31 by omega)]
      refine ⟨inb_nI (by omega) (by omega), inb_nI (by omega) (by omega), ?_⟩
      by_cases z : C (5 + a) d = 0
      · rw [if_pos z] at hK ⊢; rw [if_pos (by trivial)]; exact ⟨bl_0, bl_1, hK⟩
      · rw [if_neg z] at hK ⊢; rw [if_neg (by decide)]; exact ⟨bl_1, bl_0, hK⟩
    have hm : ∀ (E : Int32 → Int32 → Int32 → Int32 → Nm → Prop) (K : Nm → Prop) (m : Nat), (if jf (N.1 85) (N.1 86) (nI a) (nI d) L = 0 then fX8_parse_L24 E K m 4 (nI a) (nI d) 1 (wrN N 66 36 (nI (i + 1))) else fX8_parse_L24 E K m 4 (nI a) (nI d) 0 (wrN N 66 36 (nI i))) → fX8_parse_L24 E K (m + 1) 3 (nI a) v3 1 N := fun E K m hh => mstep E K m (by
      rw [em, if_neg (show ¬ nI d ≤ nI a from nI_ge (by omega) (by omega)), if_neg (show ¬ nI n ≤ nI d from nI_ge d2 (by omega))]
      exact joinM hL h31 _ _ _ hh)
    by_cases z : C (5 + a) d = 0
    · left
      have zj := (jf_0 (N.1 85) (N.1 86) (nI a) (nI d) L).mpr (e0.mp z)
      refine ⟨4, nI a, nI d, wr (wr C 1 7 (nI d)) 1 5 4, wrN N 66 36 (nI (i + 1)), ?_, (PFx.w1 C (by decide) _).trans (PFx.w1 _ (by decide) _), PFn.w6 N (by omega) _, fun K hK => hx K (by rw [if_pos z]; exact hK), fun E K m hh => hm E K m (by rw [if_pos zj]; exact hh)⟩
      right; right; right; right; left
      refine ⟨rfl, n, L, a, d, hL12, ⟨rfl, rfl, hn, hL, h31, h4, hLM.congr hn (fun a b _ _ => ?_) (fun a b _ _ => ?_)⟩, ⟨n2, h3, h30⟩, h6, rfl, by omega, d2, rfl, rfl, e0.mp z⟩
      · show wr (wr C 1 7 (nI d)) 1 5 4 (5 + a) b = _; rw [(wr1_row a).1, (wr1_row a).1]
      · show wr (wr C 1 7 (nI d)) 1 5 4 (14 + a) b = _; rw [(wr1_row a).2, (wr1_row a).2]
    · right
      have zj : ¬ jf (N.1 85) (N.1 86) (nI a) (nI d) L = 0 := fun q => z (e0.mpr ((jf_0 (N.1 85) (N.1 86) (nI a) (nI d) L).mp q))
      exact ⟨4, nI a, nI d, wrN N 66 36 (nI i), PFn.w6 N (by omega) _, rfl, fun K hK => hx K (by rw [if_neg z]; exact hK), fun E K m hh => hm E K m (by rw [if_neg zj]; exact hh)⟩
  · right
    refine ⟨4, nI a, dg c, wrN N 66 36 (nI i), PFn.w6 N (by omega) _, rfl, fun K hK => ?_, fun E K m hh => mstep E K m ?_⟩
    · unfold fX0_accepts
      rw [h5, if_neg (by decide), if_neg (by decide), if_neg (by decide), if_pos rfl]
      simp only [fX0_acceptsSecondNode, jn, bd]
      rw [h3, h6]
      by_cases z : nI c - 48 ≤ nI a
      · rw [if_pos z]; exact ⟨bl_0, hK⟩
      · rcases ex with q | q
        · exact absurd (le_of_lts (by omega) q) z
        · rw [if_neg z, if_pos q]; exact ⟨bl_0, hK⟩
    · by_cases z : dg c ≤ nI a
      · rw [if_pos z]; exact hh
      · rcases em with q | ⟨_, q⟩
        · exact absurd (le_of_lts (by omega) q) z
        · rw [if_neg z, if_pos q]; exact hh
