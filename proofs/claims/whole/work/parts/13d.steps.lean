def psh (N : Nm) (L : Nat) (a b s : Int32) : Nm := wrN (wrN (wrN (wrN (wrN N 85 L a) 86 L b) 87 L s) 88 L 0) 66 31 (nI (L + 1))
theorem w85 (N : Nm) (k b : Nat) (x : Int32) : (wrN N 85 k x).1 66 b = N.1 66 b := rfl
theorem w86 (N : Nm) (k b : Nat) (x : Int32) : (wrN N 86 k x).1 66 b = N.1 66 b := rfl
theorem w87 (N : Nm) (k b : Nat) (x : Int32) : (wrN N 87 k x).1 66 b = N.1 66 b := rfl
theorem w88 (N : Nm) (k b : Nat) (x : Int32) : (wrN N 88 k x).1 66 b = N.1 66 b := rfl
theorem w6631 (N : Nm) (x : Int32) : (wrN N 66 31 x).1 66 36 = N.1 66 36 := rfl
theorem st4 {i c len : Nat} {v2 v3 : Int32} {C : Xm} {N : Nm} (hp : PI i 4 v2 v3 C N) (hi : i < len) (hl : len ≤ 61) (h66 : N.1 66 0 = nI len) (hc : N.1 67 i = nI c) (c1 : 32 ≤ c) (c2 : c ≤ 126) : PStp i 4 v2 v3 c C N := by
  obtain ⟨n, L, a, b, hL12, ⟨h36, h5, hn, hL, h31, h4, hLM⟩, ⟨n2, h3, h30⟩, h6, h7, hab, hbn, rfl, rfl, hnew⟩ : ∃ n L a b, L < 12 ∧ PB i 4 n L (L + 1) C N ∧ PN n C N ∧ C 1 6 = nI a ∧ C 1 7 = nI b ∧ a < b ∧ b < n ∧ v2 = nI a ∧ v3 = nI b ∧ ∀ k, k < L → ¬ (N.1 85 k = nI a ∧ N.1 86 k = nI b) := by
    rcases hp with q | q | q | q | q | q
    · exact absurd q.1 (by decide)
    · exact absurd q.1 (by decide)
    · exact absurd q.1 (by decide)
    · exact absurd q.1 (by decide)
    · exact q.2
    · exact absurd q.1 (by decide)
  have hpos : ¬ N.1 66 0 ≤ N.1 66 36 := by rw [h66, h36]; exact nI_ge hi (by omega)
  have hbi := inb_nI (show i < 61 by omega) (show 61 < 2 ^ 31 by omega)
  have hbL := inb_nI (show L < 12 by omega) (show 12 < 2 ^ 31 by omega)
  have ht : Int32.toNatClampNeg (nI L) = L := tn_nI (by omega)
  have mstep : ∀ (E : Int32 → Int32 → Int32 → Int32 → Nm → Prop) (K : Nm → Prop) (m : Nat), (if dg c ≤ 0 then fX8_parse_L24 E K m 5 (nI a) (nI b) 0 (wrN N 66 36 (nI i)) else fX8_parse_L24 E K m 5 (nI a) (nI b) 1 (wrN (psh N L (nI a) (nI b) (dg c)) 66 36 (nI (i + 1)))) → fX8_parse_L24 E K (m + 1) 4 (nI a) (nI b) 1 N := by
    intro E K m hh
    rw [fX8_parse_L24, if_neg (by decide), if_neg hpos]
    simp only [bd]
    rw [h36, tn_nI (show i < 2 ^ 31 by omega), hc, within_eq]
    refine ⟨hbi, dgj c1 c2 _ ?_⟩
    simp only [jn, ↓reduceIte, i10, i40, i42, i43, w85, w86, w87, w88, w6631, h36, h31, ht, Int32.add_zero, nI_1]
    by_cases z : dg c ≤ 0
    · rw [if_pos z] at hh ⊢; exact hh
    · rw [if_neg z] at hh ⊢; exact ⟨hbL, hbL, hbL, hbL, hh⟩
  rcases dg_split c1 c2 (lo := 1) (h := 10) (by omega) (by omega) with ⟨d, d1, d2, ex, em⟩ | ⟨ex, em⟩
  · left
    refine ⟨5, nI a, nI b, wr (wr (wr C (5 + a) b (nI d)) (5 + b) a (nI d)) 1 5 5, wrN (psh N L (nI a) (nI b) (nI d)) 66 36 (nI (i + 1)), ?_, ((PFx.w5 C (by omega) _).trans (PFx.w5 _ (by omega) _)).trans (PFx.w1 _ (by decide) _), (((((PFn.w8 N (by omega) _).trans (PFn.w8 _ (by omega) _)).trans (PFn.w8 _ (by omega) _)).trans (PFn.w8 _ (by omega) _)).trans (PFn.w6 _ (by omega) _)).trans (PFn.w6 _ (by omega) _), fun K hK => ?_, fun E K m hh => mstep E K m ?_⟩
    · right; right; right; right; right
      have r1 : ∀ k, wr (wr (wr C (5 + a) b (nI d)) (5 + b) a (nI d)) 1 5 5 1 k = if k = 5 then 5 else C 1 k := fun k => by
        rw [wr_row]; unfold upd; rw [wr_off (by omega), wr_off (by omega)]
      have r5 : ∀ u v, wr (wr (wr C (5 + a) b (nI d)) (5 + b) a (nI d)) 1 5 5 (5 + u) v = if u = b ∧ v = a then nI d else if u = a ∧ v = b then nI d else C (5 + u) v := fun u v => by
        rw [(wr1_row u).1]
        show (if 5 + u = 5 + b ∧ v = a then nI d else if 5 + u = 5 + a ∧ v = b then nI d else C (5 + u) v) = _
        simp only [Nat.add_left_cancel_iff]
      have r14 : ∀ u v, u < 8 → wr (wr (wr C (5 + a) b (nI d)) (5 + b) a (nI d)) 1 5 5 (14 + u) v = C (14 + u) v := fun u v hu => by
        rw [(wr1_row u).2, wr_off (by omega), wr_off (by omega)]
      have q85 : ∀ k, (wrN (psh N L (nI a) (nI b) (nI d)) 66 36 (nI (i + 1))).1 85 k = if k = L then nI a else N.1 85 k := fun k => by simp [wrN, psh]
      have q86 : ∀ k, (wrN (psh N L (nI a) (nI b) (nI d)) 66 36 (nI (i + 1))).1 86 k = if k = L then nI b else N.1 86 k := fun k => by simp [wrN, psh]
      have q87 : ∀ k, (wrN (psh N L (nI a) (nI b) (nI d)) 66 36 (nI (i + 1))).1 87 k = if k = L then nI d else N.1 87 k := fun k => by simp [wrN, psh]
      have q88 : ∀ k, (wrN (psh N L (nI a) (nI b) (nI d)) 66 36 (nI (i + 1))).1 88 k = if k = L then 0 else N.1 88 k := fun k => by simp [wrN, psh]
      refine ⟨rfl, n, L, a, b, ⟨rfl, by rw [r1, if_pos rfl], hn, by omega, rfl, by rw [r1, if_neg (by decide)]; exact h4, ?_⟩, ⟨n2, by rw [r1, if_neg (by decide)]; exact h3, h30⟩, by rw [r1, if_neg (by decide)]; exact h6, by rw [r1, if_neg (by decide)]; exact h7, hab, hbn, by rw [q85, if_pos rfl], by rw [q86, if_pos rfl]⟩
      have hLM' := hLM.congr (ls' := fun i j => wr (wr (wr C (5 + a) b (nI d)) (5 + b) a (nI d)) 1 5 5 (14 + i) j) hn (fun _ _ _ _ => rfl) (fun u v hu _ => r14 u v hu)
      refine LM.push hLM' hn hab hbn d1 (by omega) hL12 hnew ?_ ?_ (fun u v z1 z2 => ?_) ⟨by rw [q85, if_pos rfl], by rw [q86, if_pos rfl], by rw [q87, if_pos rfl], by rw [q88, if_pos rfl]⟩ (fun k hk => ?_)
      · show wr (wr (wr C (5 + a) b (nI d)) (5 + b) a (nI d)) 1 5 5 (5 + a) b = _
        rw [r5, if_neg (by omega), if_pos ⟨rfl, rfl⟩]
      · show wr (wr (wr C (5 + a) b (nI d)) (5 + b) a (nI d)) 1 5 5 (5 + b) a = _
        rw [r5, if_pos ⟨rfl, rfl⟩]
      · show wr (wr (wr C (5 + a) b (nI d)) (5 + b) a (nI d)) 1 5 5 (5 + u) v = _
        rw [r5, if_neg z2, if_neg z1]
      · have hk' : ¬ k = L := by omega
        rw [q85, q86, q87, q88, if_neg hk', if_neg hk', if_neg hk', if_neg hk']; exact ⟨rfl, rfl, rfl, rfl⟩
    · unfold fX0_accepts
      rw [h5, if_neg (by decide), if_neg (by decide), if_neg (by decide), if_neg (by decide), if_pos rfl, ex]
      simp only [fX0_acceptsStrength, fX2_setStrength, jn, bd]
      rw [if_neg (show ¬ nI d < 1 from nI_nlt (b := 1) d1 (by omega)), if_pos (show nI d ≤ 9 from (nI_leI (b := 9) (by omega) (by omega)).mpr (by omega)), h6, h7, tn_nI (show a < 2 ^ 31 by omega), tn_nI (show b < 2 ^ 31 by omega)]
      have hba := inb_nI (show a < 8 by omega) (show 8 < 2 ^ 31 by omega)
      have hbb := inb_nI (show b < 8 by omega) (show 8 < 2 ^ 31 by omega)
      exact ⟨hba, hbb, hbb, hba, bl_1, hK⟩
    · rw [em, if_neg (show ¬ nI d ≤ 0 from nI_ge (a := 0) (by omega) (by omega))]; exact hh
  · right
    refine ⟨5, nI a, nI b, wrN N 66 36 (nI i), PFn.w6 N (by omega) _, rfl, fun K hK => ?_, fun E K m hh => mstep E K m ?_⟩
    · unfold fX0_accepts
      rw [h5, if_neg (by decide), if_neg (by decide), if_neg (by decide), if_neg (by decide), if_pos rfl]
      simp only [fX0_acceptsStrength, jn, bd]
      by_cases z : nI c - 48 < 1
      · rw [if_pos z]; exact ⟨bl_0, hK⟩
      · rcases ex with q | q
        · exact absurd q z
        · rw [if_neg z, if_neg (show ¬ nI c - 48 ≤ 9 from nle_of_ge (a := 9) (by omega) q)]; exact ⟨bl_0, hK⟩
    · rcases em with q | ⟨q, _⟩
      · rw [if_pos (show dg c ≤ 0 from le_of_lts (a := 0) (by omega) q)]; exact hh
      · omega
theorem st5 {i c len : Nat} {v2 v3 : Int32} {C : Xm} {N : Nm} (hp : PI i 5 v2 v3 C N) (hi : i < len) (hl : len ≤ 61) (h66 : N.1 66 0 = nI len) (hc : N.1 67 i = nI c) (c1 : 32 ≤ c) (c2 : c ≤ 126) : PStp i 5 v2 v3 c C N := by
  obtain ⟨n, L, a, b, hb0, hN0, h6, h7, hab, hbn, hA, hB⟩ : ∃ n L a b, PB i 5 n (L + 1) (L + 1) C N ∧ PN n C N ∧ C 1 6 = nI a ∧ C 1 7 = nI b ∧ a < b ∧ b < n ∧ N.1 85 L = nI a ∧ N.1 86 L = nI b := by
    rcases hp with q | q | q | q | q | q
    · exact absurd q.1 (by decide)
    · exact absurd q.1 (by decide)
    · exact absurd q.1 (by decide)
    · exact absurd q.1 (by decide)
    · exact absurd q.1 (by decide)
    · exact q.2
  obtain ⟨h36, h5, hn, hL, h31, h4, hLM⟩ := hb0
  obtain ⟨n2, h3, h30⟩ := hN0
  have hpos : ¬ N.1 66 0 ≤ N.1 66 36 := by rw [h66, h36]; exact nI_ge hi (by omega)
  have hbi := inb_nI (show i < 61 by omega) (show 61 < 2 ^ 31 by omega)
  have hbL := inb_nI (show L < 12 by omega) (show 12 < 2 ^ 31 by omega)
  have ht : Int32.toNatClampNeg (nI L) = L := tn_nI (by omega)
  have hL1 : nI (L + 1) - 1 = nI L := nI_p1 L
  have mstep : ∀ (E : Int32 → Int32 → Int32 → Int32 → Nm → Prop) (K : Nm → Prop) (m : Nat), (if dg c ≤ 1 then (if nI c = 59 then (if 12 ≤ nI (L + 1) then fX8_parse_L24 E K m 2 v2 v3 0 (wrN N 66 36 (nI i)) else fX8_parse_L24 E K m 2 v2 v3 1 (wrN N 66 36 (nI (i + 1)))) else fX8_parse_L24 E K m 2 v2 v3 0 (wrN N 66 36 (nI i))) else fX8_parse_L24 E K m 1 v2 v3 1 (wrN (wrN N 88 L (dg c)) 66 36 (nI (i + 1)))) → fX8_parse_L24 E K (m + 1) 5 v2 v3 1 N := by
    intro E K m hh
    rw [fX8_parse_L24, if_neg (by decide), if_neg hpos]
    simp only [bd]
    rw [h36, tn_nI (show i < 2 ^ 31 by omega), hc, within_eq]
    refine ⟨hbi, dgj c1 c2 _ ?_⟩
    simp only [jn, ↓reduceIte, i10, i50, i52, i53, i54, w88, h36, h31, hL1, ht, Int32.add_zero, nI_1]
    by_cases z : dg c ≤ 1
    · rw [if_pos z] at hh ⊢; exact hh
    · rw [if_neg z] at hh ⊢; exact ⟨hbL, hh⟩
  rcases dg_split c1 c2 (lo := 2) (h := 10) (by omega) (by omega) with ⟨d, d1, d2, ex, em⟩ | ⟨ex, em⟩
  · left
    refine ⟨1, v2, v3, wr (wr (wr C (14 + a) b (nI d)) (14 + b) a (nI d)) 1 5 1, wrN (wrN N 88 L (nI d)) 66 36 (nI (i + 1)), ?_, ((PFx.w5 C (by omega) _).trans (PFx.w5 _ (by omega) _)).trans (PFx.w1 _ (by decide) _), (PFn.w8 N (by omega) _).trans (PFn.w6 _ (by omega) _), fun K hK => ?_, fun E K m hh => mstep E K m ?_⟩
    · right; left
      have r1 : ∀ k, wr (wr (wr C (14 + a) b (nI d)) (14 + b) a (nI d)) 1 5 1 1 k = if k = 5 then 1 else C 1 k := fun k => by
        rw [wr_row]; unfold upd; rw [wr_off (by omega), wr_off (by omega)]
      have r14 : ∀ u v, wr (wr (wr C (14 + a) b (nI d)) (14 + b) a (nI d)) 1 5 1 (14 + u) v = if u = b ∧ v = a then nI d else if u = a ∧ v = b then nI d else C (14 + u) v := fun u v => by
        rw [(wr1_row u).2]
        show (if 14 + u = 14 + b ∧ v = a then nI d else if 14 + u = 14 + a ∧ v = b then nI d else C (14 + u) v) = _
        simp only [Nat.add_left_cancel_iff]
      have r5 : ∀ u v, u < 8 → wr (wr (wr C (14 + a) b (nI d)) (14 + b) a (nI d)) 1 5 1 (5 + u) v = C (5 + u) v := fun u v hu => by
        rw [(wr1_row u).1, wr_off (by omega), wr_off (by omega)]
      have q88 : ∀ k, (wrN (wrN N 88 L (nI d)) 66 36 (nI (i + 1))).1 88 k = if k = L then nI d else N.1 88 k := fun k => by simp [wrN]
      refine ⟨rfl, n, L + 1, ⟨rfl, by rw [r1, if_pos rfl], hn, hL, h31, by rw [r1, if_neg (by decide)]; exact h4, ?_⟩, n2, by rw [r1, if_neg (by decide)]; exact h3, h30⟩
      have hLM' := hLM.congr (st' := fun i j => wr (wr (wr C (14 + a) b (nI d)) (14 + b) a (nI d)) 1 5 1 (5 + i) j) hn (fun u v hu _ => r5 u v hu) (fun _ _ _ _ => rfl)
      refine LM.loss hLM' hn hab hbn hA hB d1 (by omega) ?_ ?_ (fun u v z1 z2 => ?_) (by rw [q88, if_pos rfl]) (fun k hk => by rw [q88, if_neg (by omega)])
      · show wr (wr (wr C (14 + a) b (nI d)) (14 + b) a (nI d)) 1 5 1 (14 + a) b = _
        rw [r14, if_neg (by omega), if_pos ⟨rfl, rfl⟩]
      · show wr (wr (wr C (14 + a) b (nI d)) (14 + b) a (nI d)) 1 5 1 (14 + b) a = _
        rw [r14, if_pos ⟨rfl, rfl⟩]
      · show wr (wr (wr C (14 + a) b (nI d)) (14 + b) a (nI d)) 1 5 1 (14 + u) v = _
        rw [r14, if_neg z2, if_neg z1]
    · unfold fX0_accepts
      rw [h5, if_neg (by decide), if_neg (by decide), if_neg (by decide), if_neg (by decide), if_neg (by decide), ex]
      simp only [fX0_acceptsLossPeriod, fX2_setLossPeriod, jn, bd]
      rw [if_neg (show ¬ nI d < 2 from nI_nlt (b := 2) d1 (by omega)), if_pos (show nI d ≤ 9 from (nI_leI (b := 9) (by omega) (by omega)).mpr (by omega)), h6, h7, tn_nI (show a < 2 ^ 31 by omega), tn_nI (show b < 2 ^ 31 by omega), if_neg (by decide)]
      have hba := inb_nI (show a < 8 by omega) (show 8 < 2 ^ 31 by omega)
      have hbb := inb_nI (show b < 8 by omega) (show 8 < 2 ^ 31 by omega)
      exact ⟨hba, hbb, hbb, hba, bl_1, hK⟩
    · rw [em, if_neg (show ¬ nI d ≤ 1 from nI_ge (a := 1) (by omega) (by omega))]; exact hh
  · refine mark (L := L + 1) ⟨h36, h5, hn, hL, h31, h4, hLM⟩ ⟨n2, h3, h30⟩ c2 (fun K hK => ?_) (fun E K m hh => mstep E K m ?_)
    · unfold fX0_accepts
      rw [h5, if_neg (by decide), if_neg (by decide), if_neg (by decide), if_neg (by decide), if_neg (by decide)]
      have rej : ∀ Q : Int32 → Xm → Prop, Q 0 C → fX0_acceptsLossPeriod C (nI c - 48) Q := fun Q hQ => by
        simp only [fX0_acceptsLossPeriod, jn, bd]
        by_cases z : nI c - 48 < 2
        · rw [if_pos z]; exact hQ
        · rcases ex with q | q
          · exact absurd q z
          · rw [if_neg z, if_neg (show ¬ nI c - 48 ≤ 9 from nle_of_ge (a := 9) (by omega) q)]; exact hQ
      refine rej _ ?_
      simp only [fX0_acceptsLinkMark, jn, bd, ↓reduceIte, i10] at hK ⊢
      exact hK
    · rcases em with q | ⟨q, _⟩
      · rw [if_pos (show dg c ≤ 1 from le_of_lts (a := 1) (by omega) q)]; rw [h31] at hh; exact hh
      · omega
theorem stp {i c len : Nat} {st v2 v3 : Int32} {C : Xm} {N : Nm} (hp : PI i st v2 v3 C N) (hi : i < len) (hl : len ≤ 61) (h66 : N.1 66 0 = nI len) (hc : N.1 67 i = nI c) (c1 : 32 ≤ c) (c2 : c ≤ 126) : PStp i st v2 v3 c C N := by
  have h0 := hp
  rcases hp with q | q | q | q | q | q <;> (obtain ⟨rfl, _⟩ := q)
  · exact st0 h0 hi hl h66 hc c1 c2
  · exact st1 h0 hi hl h66 hc c1 c2
  · exact st2 h0 hi hl h66 hc c1 c2
  · exact st3 h0 hi hl h66 hc c1 c2
  · exact st4 h0 hi hl h66 hc c1 c2
  · exact st5 h0 hi hl h66 hc c1 c2
