/-! Arrays.fill over a row of the class -/
abbrev rmfill : Room := { frames := 0, cells := 0, slots := 0, locals := 0 }
theorem flR_step {C C1 : Xm} {i n0 j : Nat} {v : Int32} (hj : j < n0) (e : C1 = wr C i j v) : flR C1 i n0 v = flR C i n0 v := by
  subst e
  unfold flR wrR
  funext a b
  by_cases ha : a = i
  · subst ha
    simp only [if_true]
    by_cases hb : b < n0
    · rw [if_pos hb, if_pos hb]
    · rw [if_neg hb, if_neg hb]
      unfold wr
      rw [if_neg (by omega)]
  · rw [if_neg ha, if_neg ha]
    unfold wr
    rw [if_neg (fun q => ha q.1)]
set_option maxRecDepth 100000 in
set_option maxHeartbeats 4000000 in
theorem Tfill_L {p : Program} {l : Launch} {e : Env} {s : State} {m : MethodId} {args : Array Value} {below : List Frame} {meth : Method} {c : Code} {D : va_G} {G : Gc} {ρ : Nat → Nat} (X : Cx p s m args c cJ7_fill_53178 4 RJ7 wsJ7_fill_53178 D G ρ (WA ρ s.heap.size) s.heap) (hr : meth.sig.returnType = none) (hlk : meth.locks = false) (C0 : Xm) (N : Nm) {i n0 : Nat} (hi : i < 66) (hs : shp i = .inr (0, n0)) (hn0 : n0 < 100) (v : Int32) :
    ∀ (k j : Nat) (C : Xm), j + k = n0 → flR C i n0 v = flR C0 i n0 v → (∀ b, b < j → C i b = v) → V p l e rmfill s m args below meth c D G ρ (WA ρ s.heap.size) s.heap 4 0 0 (Qv D G ρ s args below (fun C1 N1 => C1 = flR C0 i n0 v ∧ N1 = N)) 5 [(0, .ref (ρ i)), (1, .int v), (2, .int (nI j)), (3, .int (nI n0))] [] C N := by
  intro k
  induction k with
  | zero =>
    intro j C hj hfl hlo
    refine V_iload_n X (q := 2) rfl rfl dJ7_fill_53178_5 (n := 6) rfl ?_
    refine V_iload_n X (q := 3) rfl rfl dJ7_fill_53178_6 (n := 7) rfl ?_
    refine V_icmp_ge X dJ7_fill_53178_7 (tgt := 20) (n := 10) (by decide) rfl (fun c1 => ?_) (fun c1 => ?_)
    · refine V_vret X hr hlk dJ7_fill_53178_20 ⟨?_, rfl⟩
      rw [← hfl]
      unfold flR wrR
      funext a b
      by_cases ha : a = i
      · subst ha
        simp only [if_true]
        by_cases hb : b < n0
        · rw [if_pos hb, hlo b (by omega)]
        · rw [if_neg hb]
      · rw [if_neg ha]
    · exact absurd (nI_le (by omega) (by omega)) c1
  | succ k ih =>
    intro j C hj hfl hlo
    refine V_iload_n X (q := 2) rfl rfl dJ7_fill_53178_5 (n := 6) rfl ?_
    refine V_iload_n X (q := 3) rfl rfl dJ7_fill_53178_6 (n := 7) rfl ?_
    refine V_icmp_ge X dJ7_fill_53178_7 (tgt := 20) (n := 10) (by decide) rfl (fun c1 => ?_) (fun c1 => ?_)
    · exact absurd c1 (nI_ge (by omega) (by omega))
    · have hb : inb (nI j) n0 := vp_in_iff.mp (vp_in_nI (by omega) (by omega))
      refine V_aload_n X (q := 0) rfl rfl dJ7_fill_53178_10 (n := 11) rfl ?_
      refine V_iload_n X (q := 2) rfl rfl dJ7_fill_53178_11 (n := 12) rfl ?_
      refine V_iload_n X (q := 1) rfl rfl dJ7_fill_53178_12 (n := 13) rfl ?_
      refine V_istX X hi hs hb dJ7_fill_53178_13 (n := 14) rfl (fun C1 e1 => ?_)
      refine V_iinc X (q := 2) (d := 1) (y := nI (j + 1)) (L2 := [(2, .int (nI (j + 1))), (0, .ref (ρ i)), (1, .int v), (3, .int (nI n0))]) rfl (by decide) (by decide) (nI_1 j).symm rfl dJ7_fill_53178_14 (n := 17) rfl ?_
      refine V_goto X dJ7_fill_53178_17 (tgt := 5) (by decide) ?_
      refine V_loc [1, 2, 0, 3] rfl ?_
      rw [nI_clamp (by omega)] at e1
      refine ih (j + 1) C1 (by omega) ((flR_step (by omega) e1).trans hfl) (fun b hb => ?_)
      rw [e1, wr_row]
      unfold upd
      by_cases hbj : b = j
      · rw [if_pos hbj]
      · rw [if_neg hbj]; exact hlo b (by omega)
set_option maxRecDepth 100000 in
set_option maxHeartbeats 4000000 in
theorem T_fill (l : Launch) (D : va_G) (G : Gc) (ρ : Nat → Nat) (C : Xm) (N : Nm) {i n0 : Nat} (hi : i < 66) (hs : shp i = .inr (0, n0)) (hn0 : n0 < 100) (v : Int32) : Kv l yJ7_fill_53178 wsJ7_fill_53178 rmfill D G ρ [.ref (ρ i), .int v] C N (fun C1 N1 => C1 = flR C i n0 v ∧ N1 = N) := by
  refine Kv.ofV (cc := cJ7_fill_53178) (maxL := 4) (ret := none) (by decide +kernel) rfl (Nat.le_of_ble_eq_true rfl) ?_
  intro p e s m args below meth c X hr hlk
  show V p l e rmfill s m args below meth c D G ρ (WA ρ s.heap.size) s.heap 4 0 0 (Qv D G ρ s args below (fun C1 N1 => C1 = flR C i n0 v ∧ N1 = N)) 0 [(0, .ref (ρ i)), (1, .int v)] [] C N
  refine V_iconst X (v := 0) (by decide) dJ7_fill_53178_0 (n := 1) rfl ?_
  refine V_istore_n X (L2 := [(2, .int 0), (0, .ref (ρ i)), (1, .int v)]) rfl (by decide) rfl dJ7_fill_53178_1 (n := 2) rfl ?_
  refine V_aload_n X (q := 1) rfl rfl dJ7_fill_53178_2 (n := 3) rfl ?_
  refine V_alenX X hi hs (v := nI n0) rfl dJ7_fill_53178_3 (n := 4) rfl ?_
  refine V_istore_n X (L2 := [(3, .int (nI n0)), (2, .int 0), (0, .ref (ρ i)), (1, .int v)]) rfl (by decide) rfl dJ7_fill_53178_4 (n := 5) rfl ?_
  refine V_loc [2, 3, 1, 0] rfl ?_
  exact Tfill_L X hr hlk C N hi hs hn0 v n0 0 C (by omega) rfl (fun b hb => absurd hb (Nat.not_lt_zero b))
