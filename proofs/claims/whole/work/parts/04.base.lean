theorem bl_cases {x : Int32} (h : x &&& 1 = x) : x = 0 ∨ x = 1 := by
  have h1 : x.toBitVec &&& 1#32 = x.toBitVec := congrArg Int32.toBitVec h
  have h2 : x.toBitVec = 0#32 ∨ x.toBitVec = 1#32 := by
    have h3 : (x.toBitVec &&& 1#32).toNat ≤ 1 := by rw [BitVec.toNat_and]; exact Nat.and_le_right
    rw [h1] at h3
    rcases (show x.toBitVec.toNat = 0 ∨ x.toBitVec.toNat = 1 by omega) with q | q
    · exact Or.inl (BitVec.eq_of_toNat_eq (by rw [q]; rfl))
    · exact Or.inr (BitVec.eq_of_toNat_eq (by rw [q]; rfl))
  rcases h2 with q | q
  · exact Or.inl (Int32.toBitVec_inj.mp q)
  · exact Or.inr (Int32.toBitVec_inj.mp q)
theorem bl_fits {x : Int32} (h : x &&& 1 = x) : fits .boolean (.int x) = true := by
  rcases bl_cases h with rfl | rfl <;> decide +kernel
theorem bl_nar {x : Int32} (h : x &&& 1 = x) : vp_nar .boolean x = x := by
  rcases bl_cases h with rfl | rfl <;> decide +kernel

/-! PART 02: THE FIXED WORLD. Both constructors make 92 cells, no call makes one more: the cells bear the numbers 0 .. 91 (0 .. 65 the class's, 66 .. 91 the reference's), cell i lies at ρ i. What changes is numbers alone: C i k (class), N.1 i k (reference), N.2 (the reference's long h). -/
abbrev Xm : Type := Nat → Nat → Int32
abbrev Nm : Type := (Nat → Nat → Int32) × Int64
/-- the array kinds' identities: int, boolean, Stream, int[] -/
abbrev Gc : Type := ClassId × ClassId × ClassId × ClassId
/-- shapes: an object (its kind in vwCl, its fields: 0 int, 1 long, j+2 a reference to cell j), an array (0 int, 1 boolean, 2 of Streams, b+3 of int rows from cell b on; length) -/
def shL : List ((Nat × List Nat) ⊕ (Nat × Nat)) := [.inl (7, [3, 24, 48, 52, 66, 0, 0, 0, 0]), .inl (0, [4, 0, 5, 0, 0, 0, 0, 0]), .inr (0, 61), .inl (2, [6, 15]), .inr (8, 8), .inr (0, 8), .inr (0, 8), .inr (0, 8), .inr (0, 8), .inr (0, 8), .inr (0, 8), .inr (0, 8), .inr (0, 8), .inr (17, 8), .inr (0, 8), .inr (0, 8), .inr (0, 8), .inr (0, 8), .inr (0, 8), .inr (0, 8), .inr (0, 8), .inr (0, 8), .inl (3, [25, 0, 44, 45, 46, 47]), .inl (2, [26, 35]), .inr (28, 8), .inr (0, 8), .inr (0, 8), .inr (0, 8), .inr (0, 8), .inr (0, 8), .inr (0, 8), .inr (0, 8), .inr (0, 8), .inr (37, 8), .inr (0, 8), .inr (0, 8), .inr (0, 8), .inr (0, 8), .inr (0, 8), .inr (0, 8), .inr (0, 8), .inr (0, 8), .inr (1, 8), .inr (0, 8), .inr (0, 8), .inr (1, 8), .inl (1, [49, 50, 51, 0, 0, 0]), .inr (0, 8), .inr (0, 8), .inr (0, 8), .inl (6, [53, 0]), .inr (2, 6), .inl (5, [55, 0, 0, 0, 0, 0, 0]), .inr (0, 4), .inl (5, [57, 0, 0, 0, 0, 0, 0]), .inr (0, 4), .inl (5, [59, 0, 0, 0, 0, 0, 0]), .inr (0, 4), .inl (5, [61, 0, 0, 0, 0, 0, 0]), .inr (0, 4), .inl (5, [63, 0, 0, 0, 0, 0, 0]), .inr (0, 4), .inl (5, [65, 0, 0, 0, 0, 0, 0]), .inr (0, 4), .inl (4, [67, 0]), .inr (0, 6), .inl (8, [0, 69, 0, 0, 70, 71, 72, 73, 74, 75, 76, 77, 78, 0, 0, 0, 0, 0, 0, 0, 0, 79, 80, 81, 82, 83, 84, 85, 0, 86, 0, 0, 87, 88, 89, 90, 0, 0, 91, 92, 93, 1]), .inr (0, 61), .inr (0, 12), .inr (0, 12), .inr (0, 12), .inr (0, 12), .inr (1, 8), .inr (0, 8), .inr (0, 8), .inr (0, 8), .inr (0, 8), .inr (0, 6), .inr (0, 6), .inr (0, 6), .inr (0, 6), .inr (0, 24), .inr (0, 6), .inr (0, 6), .inr (0, 6), .inr (0, 12), .inr (0, 12), .inr (0, 12), .inr (0, 12), .inr (0, 8), .inr (0, 8), .inr (1, 8)]
def shp (i : Nat) : (Nat × List Nat) ⊕ (Nat × Nat) := shL.getD i (.inr (0, 0))
def rd (C : Xm) (N : Nm) (i : Nat) : Nat → Int32 := if i < 66 then C i else N.1 i
def fv (ρ : Nat → Nat) (f : Nat → Int32) (h : Int64) (k : Nat) (code : Nat) : Value := match code with
  | 0 => .int (f k)
  | 1 => .long h
  | j + 2 => .ref (ρ j)
def fvs (ρ : Nat → Nat) (f : Nat → Int32) (h : Int64) (fc : List Nat) : List Value := fc.zipIdx.map (fun q => fv ρ f h q.2 q.1)
def arE (G : Gc) (ρ : Nat → Nat) (f : Nat → Int32) (t n : Nat) : va_E := match t with
  | 0 => .inl (G.1, n, .inl f)
  | 1 => .inl (G.2.1, n, .inl f)
  | 2 => .inl (G.2.2.1, n, .inr (.inr (.inr (.inr (fun j => some (ρ (52 + 2 * (f j).toNatClampNeg)))))))
  | b + 3 => .inl (G.2.2.2, n, .inr (.inr (.inr (.inr (fun j => if j < n then some (ρ (b + j)) else none)))))
def ceE (G : Gc) (ρ : Nat → Nat) (f : Nat → Int32) (h : Int64) (i : Nat) : va_E := match shp i with
  | .inl q => .inr (q.1, fvs ρ f h q.2)
  | .inr q => arE G ρ f q.1 q.2
def wld (G : Gc) (ρ : Nat → Nat) (C : Xm) (N : Nm) : va_W := (List.range 92).map (fun i => (ρ i, ceE G ρ (rd C N i) N.2 i))
def tyG (G : Gc) : List (ClassId × FieldType) := [(G.1, .int), (G.2.1, .boolean), (G.2.2.1, .object RX5), (G.2.2.2, .array .int)]
def wr (C : Xm) (i k : Nat) (v : Int32) : Xm := fun a b => if a = i ∧ b = k then v else C a b
def wrN (N : Nm) (i k : Nat) (v : Int32) : Nm := (fun a b => if a = i ∧ b = k then v else N.1 a b, N.2)
theorem wld_at {G : Gc} {ρ : Nat → Nat} {C : Xm} {N : Nm} {i : Nat} (hi : i < 92) : (wld G ρ C N)[i]? = some (ρ i, ceE G ρ (rd C N i) N.2 i) := by
  unfold wld
  rw [List.getElem?_map, List.getElem?_range hi]
  rfl
theorem wld_obj {G : Gc} {ρ : Nat → Nat} {C : Xm} {N : Nm} {i : Nat} {ci : Nat} {fc : List Nat} (hi : i < 92) (hs : shp i = .inl (ci, fc)) : (wld G ρ C N)[i]? = some (ρ i, .inr (ci, fvs ρ (rd C N i) N.2 fc)) := by
  rw [wld_at hi]; unfold ceE; rw [hs]
theorem wld_arr {G : Gc} {ρ : Nat → Nat} {C : Xm} {N : Nm} {i : Nat} {t n : Nat} (hi : i < 92) (hs : shp i = .inr (t, n)) : (wld G ρ C N)[i]? = some (ρ i, arE G ρ (rd C N i) t n) := by
  rw [wld_at hi]; unfold ceE; rw [hs]
theorem wld_len {G : Gc} {ρ : Nat → Nat} {C : Xm} {N : Nm} : (wld G ρ C N).length = 92 := by simp [wld]
theorem wld_set {G : Gc} {ρ : Nat → Nat} {C C' : Xm} {N N' : Nm} {i : Nat} {e : va_E} (hi : i < 92) (he : ceE G ρ (rd C' N' i) N'.2 i = e) (ho : ∀ j, j < 92 → j ≠ i → ceE G ρ (rd C' N' j) N'.2 j = ceE G ρ (rd C N j) N.2 j) : (wld G ρ C N).set i (ρ i, e) = wld G ρ C' N' := by
  apply List.ext_getElem?
  intro k
  rw [List.getElem?_set]
  by_cases hk : k < 92
  · by_cases e1 : i = k
    · subst e1
      rw [if_pos rfl, if_pos (by rw [wld_len]; exact hi), wld_at hi, he]
    · rw [if_neg e1, wld_at hk, wld_at hk, ho k hk (fun q => e1 q.symm)]
  · rw [if_neg (by omega)]
    rw [List.getElem?_eq_none (by rw [wld_len]; omega), List.getElem?_eq_none (by rw [wld_len]; omega)]
theorem wr_row {C : Xm} {i k : Nat} {v : Int32} : wr C i k v i = upd (C i) k v := by
  funext b; unfold wr upd; simp
theorem wr_off {C : Xm} {i k j : Nat} {v : Int32} (h : j ≠ i) : wr C i k v j = C j := by
  funext b; unfold wr; simp [h]
theorem rd_x {C : Xm} {N : Nm} {i : Nat} (h : i < 66) : rd C N i = C i := if_pos h
theorem rd_n {C : Xm} {N : Nm} {i : Nat} (h : 66 ≤ i) : rd C N i = N.1 i := if_neg (by omega)
theorem rd_wx {C : Xm} {N : Nm} {i k : Nat} {v : Int32} (h : i < 66) : rd (wr C i k v) N i = upd (rd C N i) k v := by rw [rd_x h, rd_x h, wr_row]
theorem rd_wx_off {C : Xm} {N : Nm} {i k j : Nat} {v : Int32} (h : j ≠ i) : rd (wr C i k v) N j = rd C N j := by unfold rd; rw [wr_off h]
theorem rd_wn {C : Xm} {N : Nm} {i k : Nat} {v : Int32} (h : 66 ≤ i) : rd C (wrN N i k v) i = upd (rd C N i) k v := by
  rw [rd_n h, rd_n h]; funext b; unfold wrN upd; simp
theorem rd_wn_off {C : Xm} {N : Nm} {i k j : Nat} {v : Int32} (h : j ≠ i) : rd C (wrN N i k v) j = rd C N j := by
  unfold rd wrN; split
  · rfl
  · funext b; simp [h]
theorem fvs_at {ρ : Nat → Nat} {f : Nat → Int32} {h : Int64} {fc : List Nat} {k code : Nat} (hk : fc[k]? = some code) : (fvs ρ f h fc)[k]? = some (fv ρ f h k code) := by
  unfold fvs
  rw [List.getElem?_map, List.getElem?_zipIdx, hk]
  simp
theorem fvs_len {ρ : Nat → Nat} {f : Nat → Int32} {h : Int64} {fc : List Nat} : (fvs ρ f h fc).length = fc.length := by simp [fvs]
theorem fvs_upd {ρ : Nat → Nat} {f : Nat → Int32} {h : Int64} {fc : List Nat} {k : Nat} {v : Int32} (hk : fc[k]? = some 0) : fvs ρ (upd f k v) h fc = (fvs ρ f h fc).set k (.int v) := by
  apply List.ext_getElem?
  intro j
  rw [List.getElem?_set]
  by_cases e : k = j
  · subst e
    rw [if_pos rfl, if_pos (by rw [fvs_len]; exact (List.getElem?_eq_some_iff.mp hk).1), fvs_at hk]
    simp [fv, upd]
  · rw [if_neg e]
    cases hj : fc[j]? with
    | none =>
      rw [List.getElem?_eq_none (by rw [fvs_len]; exact List.getElem?_eq_none_iff.mp hj), List.getElem?_eq_none (by rw [fvs_len]; exact List.getElem?_eq_none_iff.mp hj)]
    | some code =>
      rw [fvs_at hj, fvs_at hj]
      unfold fv
      split
      · have e2 : ¬ j = k := fun q => e q.symm
        simp [upd, e2]
      · rfl
      · rfl
theorem fvs_long {ρ : Nat → Nat} {f : Nat → Int32} {h h' : Int64} {fc : List Nat} {k : Nat} (hk : fc[k]? = some 1) (ho : ∀ j, j ≠ k → fc[j]? ≠ some 1) : fvs ρ f h' fc = (fvs ρ f h fc).set k (.long h') := by
  apply List.ext_getElem?
  intro j
  rw [List.getElem?_set]
  by_cases e : k = j
  · subst e
    rw [if_pos rfl, if_pos (by rw [fvs_len]; exact (List.getElem?_eq_some_iff.mp hk).1), fvs_at hk]
    rfl
  · rw [if_neg e]
    cases hj : fc[j]? with
    | none =>
      rw [List.getElem?_eq_none (by rw [fvs_len]; exact List.getElem?_eq_none_iff.mp hj), List.getElem?_eq_none (by rw [fvs_len]; exact List.getElem?_eq_none_iff.mp hj)]
    | some code =>
      rw [fvs_at hj, fvs_at hj]
      have h1 := ho j (fun q => e q.symm)
      rw [hj] at h1
      match code, h1 with
      | 0, _ => rfl
      | 1, h1 => exact absurd rfl h1
      | _ + 2, _ => rfl
theorem wld_putX {G : Gc} {ρ : Nat → Nat} {C : Xm} {N : Nm} {i k ci : Nat} {fc : List Nat} {v : Int32} (hi : i < 66) (hs : shp i = .inl (ci, fc)) (hk : fc[k]? = some 0) : (wld G ρ C N).set i (ρ i, .inr (ci, (fvs ρ (rd C N i) N.2 fc).set k (.int v))) = wld G ρ (wr C i k v) N :=
  wld_set (by omega) (by unfold ceE; rw [hs]; show Sum.inr (ci, fvs ρ (rd (wr C i k v) N i) N.2 fc) = _; rw [rd_wx hi, fvs_upd hk]) (fun j _ hj => by rw [rd_wx_off hj])
theorem wld_putN {G : Gc} {ρ : Nat → Nat} {C : Xm} {N : Nm} {i k ci : Nat} {fc : List Nat} {v : Int32} (hi : 66 ≤ i) (hi2 : i < 92) (hs : shp i = .inl (ci, fc)) (hk : fc[k]? = some 0) : (wld G ρ C N).set i (ρ i, .inr (ci, (fvs ρ (rd C N i) N.2 fc).set k (.int v))) = wld G ρ C (wrN N i k v) :=
  wld_set hi2 (by unfold ceE; rw [hs]; show Sum.inr (ci, fvs ρ (rd C (wrN N i k v) i) N.2 fc) = _; rw [rd_wn hi, fvs_upd hk]) (fun j _ hj => by rw [rd_wn_off hj]; rfl)
theorem no_long : ∀ i, i < 92 → i ≠ 66 → (match shp i with | .inl q => q.2.all (fun c => !(c == 1)) | .inr _ => true) = true := by decide +kernel
theorem fvs_nolong {ρ : Nat → Nat} {f : Nat → Int32} {h h' : Int64} {fc : List Nat} (ha : fc.all (fun c => !(c == 1)) = true) : fvs ρ f h' fc = fvs ρ f h fc := by
  apply List.ext_getElem?
  intro j
  cases hj : fc[j]? with
  | none => rw [List.getElem?_eq_none (by rw [fvs_len]; exact List.getElem?_eq_none_iff.mp hj), List.getElem?_eq_none (by rw [fvs_len]; exact List.getElem?_eq_none_iff.mp hj)]
  | some code =>
    rw [fvs_at hj, fvs_at hj]
    have h1 := List.all_eq_true.mp ha code (List.mem_of_getElem? hj)
    match code, h1 with
    | 0, _ => rfl
    | 1, h1 => simp at h1
    | _ + 2, _ => rfl
theorem wld_long {G : Gc} {ρ : Nat → Nat} {C : Xm} {N : Nm} {k ci : Nat} {fc : List Nat} {v : Int64} (hs : shp 66 = .inl (ci, fc)) (hk : fc[k]? = some 1) (ho : ∀ j, j ≠ k → fc[j]? ≠ some 1) : (wld G ρ C N).set 66 (ρ 66, .inr (ci, (fvs ρ (rd C N 66) N.2 fc).set k (.long v))) = wld G ρ C (N.1, v) :=
  wld_set (by omega) (by unfold ceE; rw [hs]; show Sum.inr (ci, fvs ρ (rd C (N.1, v) 66) v fc) = _; rw [fvs_long (h := N.2) hk ho]; rfl) (fun j hj h6 => by
    have h1 := no_long j hj h6
    show ceE G ρ (rd C N j) v j = _
    unfold ceE
    cases hsj : shp j with
    | inl q => rw [hsj] at h1; simp only; rw [fvs_nolong (h := N.2) h1]
    | inr q => rfl)
theorem wld_setX {G : Gc} {ρ : Nat → Nat} {C : Xm} {N : Nm} {i k n t : Nat} {v : Int32} {e : va_E} (hi : i < 66) (hs : shp i = .inr (t, n)) (he : arE G ρ (upd (rd C N i) k v) t n = e) : (wld G ρ C N).set i (ρ i, e) = wld G ρ (wr C i k v) N :=
  wld_set (by omega) (by unfold ceE; rw [hs]; show arE G ρ (rd (wr C i k v) N i) t n = _; rw [rd_wx hi, he]) (fun j _ hj => by rw [rd_wx_off hj])
theorem wld_setN {G : Gc} {ρ : Nat → Nat} {C : Xm} {N : Nm} {i k n t : Nat} {v : Int32} {e : va_E} (hi : 66 ≤ i) (hi2 : i < 92) (hs : shp i = .inr (t, n)) (he : arE G ρ (upd (rd C N i) k v) t n = e) : (wld G ρ C N).set i (ρ i, e) = wld G ρ C (wrN N i k v) :=
  wld_set hi2 (by unfold ceE; rw [hs]; show arE G ρ (rd C (wrN N i k v) i) t n = _; rw [rd_wn hi, he]) (fun j _ hj => by rw [rd_wn_off hj]; rfl)
/-- a whole row of the class's copied or filled -/
def wrR (C : Xm) (i : Nat) (g : Nat → Int32) : Xm := fun a => if a = i then g else C a
theorem wld_rowX {G : Gc} {ρ : Nat → Nat} {C : Xm} {N : Nm} {i n t : Nat} {g : Nat → Int32} {e : va_E} (hi : i < 66) (hs : shp i = .inr (t, n)) (he : arE G ρ g t n = e) : (wld G ρ C N).set i (ρ i, e) = wld G ρ (wrR C i g) N :=
  wld_set (by omega) (by unfold ceE; rw [hs]; show arE G ρ (rd (wrR C i g) N i) t n = _; rw [rd_x hi]; unfold wrR; rw [if_pos rfl, he]) (fun j _ hj => by
    have : rd (wrR C i g) N j = rd C N j := by unfold rd wrR; rw [if_neg hj]
    rw [this])
def Inj (ρ : Nat → Nat) : Prop := ∀ i j, i < 92 → j < 92 → ρ i = ρ j → i = j
theorem wld_D {G : Gc} {ρ : Nat → Nat} {C : Xm} {N : Nm} {A : Nat → Prop} (hI : Inj ρ) (hA : ∀ i, i < 92 → A (ρ i)) : va_D A (wld G ρ C N) := by
  have lt : ∀ (k : Nat) (q : Nat × va_E), (wld G ρ C N)[k]? = some q → k < 92 ∧ q.1 = ρ k := by
    intro k q h
    have h1 : k < 92 := by rw [← wld_len (G := G) (ρ := ρ) (C := C) (N := N)]; exact (List.getElem?_eq_some_iff.mp h).1
    rw [wld_at h1] at h
    exact ⟨h1, by rw [← Option.some.inj h]⟩
  refine ⟨fun i j a b hi hj hab => ?_, fun k q h => ?_⟩
  · obtain ⟨h1, h2⟩ := lt i a hi
    obtain ⟨h3, h4⟩ := lt j b hj
    exact hI i j h1 h3 (by rw [← h2, ← h4]; exact hab)
  · obtain ⟨h1, h2⟩ := lt k q h
    rw [h2]; exact hA k h1
/-- which cells a method may change: the world's, and later ones -/
def WA (ρ : Nat → Nat) (sz : Nat) : Nat → Prop := fun q => (∃ i, i < 92 ∧ q = ρ i) ∨ sz ≤ q
def Bw (D : va_G) (G : Gc) (ρ : Nat → Nat) (C : Xm) (N : Nm) (t : State) : Prop := va_P D vwCl (wld G ρ C N) t.heap ∧ va_K D vwCl (tyG G) t
def Pw (D : va_G) (G : Gc) (ρ : Nat → Nat) (sz : Nat) (C : Xm) (N : Nm) (U : State) : Prop := U.heap.size = sz ∧ va_P D vwCl (wld G ρ C N) U.heap ∧ va_K D vwCl (tyG G) U ∧ Inj ρ
/-- THE CONTRACTS: called with these values in the world (C, N), y returns r (a long, nothing) in a world (C', N') with P -/
def Ki (l : Launch) (y : MethodName) (ws : List Cond) (rm : Room) (D : va_G) (G : Gc) (ρ : Nat → Nat) (vals : List Value) (C : Xm) (N : Nm) (P : Int32 → Xm → Nm → Prop) : Prop := ∀ sz, Met l y ws rm (va_Pc vals (Pw D G ρ sz C N)) (va_Qi (fun r (u : Xm × Nm) => P r u.1 u.2) (fun u t => Bw D G ρ u.1 u.2 t) (WA ρ sz)) 0 0 (WA ρ sz)
def Kl (l : Launch) (y : MethodName) (ws : List Cond) (rm : Room) (D : va_G) (G : Gc) (ρ : Nat → Nat) (vals : List Value) (C : Xm) (N : Nm) (P : Int64 → Xm → Nm → Prop) : Prop := ∀ sz, Met l y ws rm (va_Pc vals (Pw D G ρ sz C N)) (va_Ql (fun r (u : Xm × Nm) => P r u.1 u.2) (fun u t => Bw D G ρ u.1 u.2 t) (WA ρ sz)) 0 0 (WA ρ sz)
def Kv (l : Launch) (y : MethodName) (ws : List Cond) (rm : Room) (D : va_G) (G : Gc) (ρ : Nat → Nat) (vals : List Value) (C : Xm) (N : Nm) (P : Xm → Nm → Prop) : Prop := ∀ sz, Met l y ws rm (va_Pc vals (Pw D G ρ sz C N)) (va_Qv (fun (u : Xm × Nm) => P u.1 u.2) (fun u t => Bw D G ρ u.1 u.2 t) (WA ρ sz)) 0 0 (WA ρ sz)
theorem Pw_blind {D : va_G} {G : Gc} {ρ : Nat → Nat} {sz : Nat} {C : Xm} {N : Nm} {vals : List Value} : FrameBlind (va_Pc vals (Pw D G ρ sz C N)) := fun a U g mk q => by
  obtain ⟨q0, q1, qP, qK, qD⟩ := q
  exact ⟨q0, q1, qP, va_K.moved (u := U) (U := U.calling g mk a) (Vm.Alike.refl U.vm) qK, qD⟩
def Qi (D : va_G) (G : Gc) (ρ : Nat → Nat) (s : State) (args : Array Value) (below : List Frame) (P : Int32 → Xm → Nm → Prop) : State → Prop := MQ below (va_Qi (fun r (u : Xm × Nm) => P r u.1 u.2) (fun u t => Bw D G ρ u.1 u.2 t) (WA ρ s.heap.size)) args s 0 0 (WA ρ s.heap.size)
def Ql (D : va_G) (G : Gc) (ρ : Nat → Nat) (s : State) (args : Array Value) (below : List Frame) (P : Int64 → Xm → Nm → Prop) : State → Prop := MQ below (va_Ql (fun r (u : Xm × Nm) => P r u.1 u.2) (fun u t => Bw D G ρ u.1 u.2 t) (WA ρ s.heap.size)) args s 0 0 (WA ρ s.heap.size)
def Qv (D : va_G) (G : Gc) (ρ : Nat → Nat) (s : State) (args : Array Value) (below : List Frame) (P : Xm → Nm → Prop) : State → Prop := MQ below (va_Qv (fun (u : Xm × Nm) => P u.1 u.2) (fun u t => Bw D G ρ u.1 u.2 t) (WA ρ s.heap.size)) args s 0 0 (WA ρ s.heap.size)
/-- THE JUDGEMENT: at pc, with locals L, stack st, in the world (C, N), the machine comes to a state with Q -/
def V (p : Program) (l : Launch) (e : Env) (R : Room) (s : State) (m : MethodId) (args : Array Value) (below : List Frame) (meth : Method) (c : Code) (D : va_G) (G : Gc) (ρ : Nat → Nat) (A : Nat → Prop) (H0 : Heap) (nL cells slots : Nat) (Q : State → Prop) (pc : Nat) (L : List (Nat × Value)) (st : List Value) (C : Xm) (N : Nm) : Prop :=
  ∀ (H : Heap) (locs : List Loc) (ls : Array Slot), va_P D vwCl (wld G ρ C N) H → va_S A H0 H locs → lv_has ls nL L → W p l e R s m args below meth c H locs cells slots Q (F0 m pc ls st)
/-- what stands fast in a method's body -/
def Cx (p : Program) (s : State) (m : MethodId) (args : Array Value) (c : Code) (cc : ByteArray) (nL : Nat) (own : String) (Ts : List Cond) (D : va_G) (G : Gc) (ρ : Nat → Nat) (A : Nat → Prop) (H0 : Heap) : Prop :=
  p.tables.exec = Jvm.exec ∧ c.code = cc ∧ c.maxLocals = nL ∧ s.vm.findClass own = some m.cls ∧ (∀ w ∈ Ts, w.before args s = true) ∧ va_K D vwCl (tyG G) s ∧ Inj ρ ∧ (∀ i, i < 92 → A (ρ i)) ∧ (∀ q, H0.size ≤ q → A q)
/-- the words of the functions that are read off the bytecode: a name for a value, a place where ways meet, an index in its row, a boolean -/
def bd {α : Type} (x : α) (f : α → Prop) : Prop := f x
theorem bd_at {α : Type} {x y : α} {f : α → Prop} (h : bd x f) (e : y = x) : f y := by subst e; exact h
def jn {α : Type} (J : α) (b : α → Prop) : Prop := b J
theorem jn_o {α : Type} {J : α} {b : α → Prop} {P : Prop} (h : jn J b) (k : ∀ j, j = J → b j → P) : P := k J rfl h
theorem ite_t {c : Prop} {hd : Decidable c} {A B : Prop} (h : if c then A else B) (hc : c) : A := by rwa [if_pos hc] at h
theorem ite_f {c : Prop} {hd : Decidable c} {A B : Prop} (h : if c then A else B) (hc : ¬ c) : B := by rwa [if_neg hc] at h
abbrev inb (x : Int32) (n : Nat) : Prop := 0 ≤ x.toInt ∧ x.toInt < n
theorem inb_in {x : Int32} {n : Nat} (h : inb x n) : vp_in x n := vp_in_iff.mpr h
abbrev bl (x : Int32) : Prop := x &&& 1 = x
def irm (x y : Int32) : Int32 := x - x / y * y

section VB
variable {p : Program} {l : Launch} {e : Env} {R : Room} {s : State} {m : MethodId} {args : Array Value} {below : List Frame} {meth : Method} {c : Code} {cells slots : Nat} {Q : State → Prop}
variable {cc : ByteArray} {nL : Nat} {own : String} {Ts : List Cond} {D : va_G} {G : Gc} {ρ : Nat → Nat} {A : Nat → Prop} {H0 : Heap}
variable {pc n tgt : Nat} {L L2 : List (Nat × Value)} {st : List Value} {C : Xm} {N : Nm}
theorem V_iconst (X : Cx p s m args c cc nL own Ts D G ρ A H0) {i : Int} {v : Int32} (hv : Int32.ofInt i = v) (hd : decode cc pc = .ok (.iconst i, 1)) (hn : pc + 1 = n) (k : V p l e R s m args below meth c D G ρ A H0 nL cells slots Q n L (.int v :: st) C N) : V p l e R s m args below meth c D G ρ A H0 nL cells slots Q pc L st C N := by
  subst hn; exact fun H locs ls hP hS hl => lv_iconst X.1 X.2.1 hd hv (k H locs ls hP hS hl)
theorem V_bipush (X : Cx p s m args c cc nL own Ts D G ρ A H0) {i : Int} {v : Int32} (hv : (Int8.ofInt i).toInt32 = v) (hd : decode cc pc = .ok (.bipush i, 2)) (hn : pc + 2 = n) (k : V p l e R s m args below meth c D G ρ A H0 nL cells slots Q n L (.int v :: st) C N) : V p l e R s m args below meth c D G ρ A H0 nL cells slots Q pc L st C N := by
  subst hn; exact fun H locs ls hP hS hl => lv_bipush X.1 X.2.1 hd hv (k H locs ls hP hS hl)
theorem V_sipush (X : Cx p s m args c cc nL own Ts D G ρ A H0) {i : Int} {v : Int32} (hv : (Int16.ofInt i).toInt32 = v) (hd : decode cc pc = .ok (.sipush i, 3)) (hn : pc + 3 = n) (k : V p l e R s m args below meth c D G ρ A H0 nL cells slots Q n L (.int v :: st) C N) : V p l e R s m args below meth c D G ρ A H0 nL cells slots Q pc L st C N := by
  subst hn; exact fun H locs ls hP hS hl => lv_sipush X.1 X.2.1 hd hv (k H locs ls hP hS hl)
theorem V_lconst (X : Cx p s m args c cc nL own Ts D G ρ A H0) {i : Fin 2} {v : Int64} (hv : Int64.ofNat (i : Nat) = v) (hd : decode cc pc = .ok (.lconst i, 1)) (hn : pc + 1 = n) (k : V p l e R s m args below meth c D G ρ A H0 nL cells slots Q n L (.long v :: st) C N) : V p l e R s m args below meth c D G ρ A H0 nL cells slots Q pc L st C N := by
  subst hn; exact fun H locs ls hP hS hl => lv_lconst X.1 X.2.1 hd hv (k H locs ls hP hS hl)
theorem V_iload_n (X : Cx p s m args c cc nL own Ts D G ρ A H0) {i : Fin 4} {j q : Nat} {x : Int32} (hj : (i : Nat) = j) (hq : L[q]? = some (j, .int x)) (hd : decode cc pc = .ok (.iload_n i, 1)) (hn : pc + 1 = n) (k : V p l e R s m args below meth c D G ρ A H0 nL cells slots Q n L (.int x :: st) C N) : V p l e R s m args below meth c D G ρ A H0 nL cells slots Q pc L st C N := by
  subst hn; exact fun H locs ls hP hS hl => lv_iload_n X.1 X.2.1 hd hj (lv_at hl q hq) (k H locs ls hP hS hl)
theorem V_iload (X : Cx p s m args c cc nL own Ts D G ρ A H0) {j q : Nat} {x : Int32} (hq : L[q]? = some (j, .int x)) (hd : decode cc pc = .ok (.iload j, 2)) (hn : pc + 2 = n) (k : V p l e R s m args below meth c D G ρ A H0 nL cells slots Q n L (.int x :: st) C N) : V p l e R s m args below meth c D G ρ A H0 nL cells slots Q pc L st C N := by
  subst hn; exact fun H locs ls hP hS hl => lv_iload X.1 X.2.1 hd (lv_at hl q hq) (k H locs ls hP hS hl)
theorem V_aload_n (X : Cx p s m args c cc nL own Ts D G ρ A H0) {i : Fin 4} {j q : Nat} {x : Nat} (hj : (i : Nat) = j) (hq : L[q]? = some (j, .ref x)) (hd : decode cc pc = .ok (.aload_n i, 1)) (hn : pc + 1 = n) (k : V p l e R s m args below meth c D G ρ A H0 nL cells slots Q n L (.ref x :: st) C N) : V p l e R s m args below meth c D G ρ A H0 nL cells slots Q pc L st C N := by
  subst hn; exact fun H locs ls hP hS hl => lv_aload_n X.1 X.2.1 hd hj (lv_at hl q hq) (k H locs ls hP hS hl)
theorem V_aload (X : Cx p s m args c cc nL own Ts D G ρ A H0) {j q : Nat} {x : Nat} (hq : L[q]? = some (j, .ref x)) (hd : decode cc pc = .ok (.aload j, 2)) (hn : pc + 2 = n) (k : V p l e R s m args below meth c D G ρ A H0 nL cells slots Q n L (.ref x :: st) C N) : V p l e R s m args below meth c D G ρ A H0 nL cells slots Q pc L st C N := by
  subst hn; exact fun H locs ls hP hS hl => lv_aload X.1 X.2.1 hd (lv_at hl q hq) (k H locs ls hP hS hl)
theorem V_lload_n (X : Cx p s m args c cc nL own Ts D G ρ A H0) {i : Fin 4} {j q : Nat} {x : Int64} (hj : (i : Nat) = j) (hq : L[q]? = some (j, .long x)) (hd : decode cc pc = .ok (.lload_n i, 1)) (hn : pc + 1 = n) (k : V p l e R s m args below meth c D G ρ A H0 nL cells slots Q n L (.long x :: st) C N) : V p l e R s m args below meth c D G ρ A H0 nL cells slots Q pc L st C N := by
  subst hn; exact fun H locs ls hP hS hl => lv_lload_n X.1 X.2.1 hd hj (lv_at hl q hq) (k H locs ls hP hS hl)
theorem V_lload (X : Cx p s m args c cc nL own Ts D G ρ A H0) {j q : Nat} {x : Int64} (hq : L[q]? = some (j, .long x)) (hd : decode cc pc = .ok (.lload j, 2)) (hn : pc + 2 = n) (k : V p l e R s m args below meth c D G ρ A H0 nL cells slots Q n L (.long x :: st) C N) : V p l e R s m args below meth c D G ρ A H0 nL cells slots Q pc L st C N := by
  subst hn; exact fun H locs ls hP hS hl => lv_lload X.1 X.2.1 hd (lv_at hl q hq) (k H locs ls hP hS hl)
theorem V_istore_n (X : Cx p s m args c cc nL own Ts D G ρ A H0) {i : Fin 4} {j : Nat} {x : Int32} (hj : (i : Nat) = j) (hlt : j < nL) (hL : (j, Value.int x) :: L.filter (fun q => !(q.1 == j) && !(q.1 + 1 == j && q.2.category == 2)) = L2) (hd : decode cc pc = .ok (.istore_n i, 1)) (hn : pc + 1 = n) (k : V p l e R s m args below meth c D G ρ A H0 nL cells slots Q n L2 st C N) : V p l e R s m args below meth c D G ρ A H0 nL cells slots Q pc L (.int x :: st) C N := by
  subst hn; exact fun H locs ls hP hS hl => lv_istore_n X.1 X.2.1 hd hj hl hlt hL (fun ls hl => k H locs ls hP hS hl)
theorem V_istore (X : Cx p s m args c cc nL own Ts D G ρ A H0) {j : Nat} {x : Int32} (hlt : j < nL) (hL : (j, Value.int x) :: L.filter (fun q => !(q.1 == j) && !(q.1 + 1 == j && q.2.category == 2)) = L2) (hd : decode cc pc = .ok (.istore j, 2)) (hn : pc + 2 = n) (k : V p l e R s m args below meth c D G ρ A H0 nL cells slots Q n L2 st C N) : V p l e R s m args below meth c D G ρ A H0 nL cells slots Q pc L (.int x :: st) C N := by
  subst hn; exact fun H locs ls hP hS hl => lv_istore X.1 X.2.1 hd hl hlt hL (fun ls hl => k H locs ls hP hS hl)
theorem V_astore_n (X : Cx p s m args c cc nL own Ts D G ρ A H0) {i : Fin 4} {j : Nat} {x : Nat} (hj : (i : Nat) = j) (hlt : j < nL) (hL : (j, Value.ref x) :: L.filter (fun q => !(q.1 == j) && !(q.1 + 1 == j && q.2.category == 2)) = L2) (hd : decode cc pc = .ok (.astore_n i, 1)) (hn : pc + 1 = n) (k : V p l e R s m args below meth c D G ρ A H0 nL cells slots Q n L2 st C N) : V p l e R s m args below meth c D G ρ A H0 nL cells slots Q pc L (.ref x :: st) C N := by
  subst hn; exact fun H locs ls hP hS hl => lv_astore_n X.1 X.2.1 hd hj hl hlt hL (fun ls hl => k H locs ls hP hS hl)
theorem V_astore (X : Cx p s m args c cc nL own Ts D G ρ A H0) {j : Nat} {x : Nat} (hlt : j < nL) (hL : (j, Value.ref x) :: L.filter (fun q => !(q.1 == j) && !(q.1 + 1 == j && q.2.category == 2)) = L2) (hd : decode cc pc = .ok (.astore j, 2)) (hn : pc + 2 = n) (k : V p l e R s m args below meth c D G ρ A H0 nL cells slots Q n L2 st C N) : V p l e R s m args below meth c D G ρ A H0 nL cells slots Q pc L (.ref x :: st) C N := by
  subst hn; exact fun H locs ls hP hS hl => lv_astore X.1 X.2.1 hd hl hlt hL (fun ls hl => k H locs ls hP hS hl)
theorem V_lstore_n (X : Cx p s m args c cc nL own Ts D G ρ A H0) {i : Fin 4} {j : Nat} {x : Int64} (hj : (i : Nat) = j) (hlt : j + 1 < nL) (hL : (j, Value.long x) :: L.filter (fun q => !(q.1 == j) && (!(q.1 == j + 1) && !(q.1 + 1 == j && q.2.category == 2))) = L2) (hd : decode cc pc = .ok (.lstore_n i, 1)) (hn : pc + 1 = n) (k : V p l e R s m args below meth c D G ρ A H0 nL cells slots Q n L2 st C N) : V p l e R s m args below meth c D G ρ A H0 nL cells slots Q pc L (.long x :: st) C N := by
  subst hn; exact fun H locs ls hP hS hl => lv_lstore_n X.1 X.2.1 hd hj hl hlt hL (fun ls hl => k H locs ls hP hS hl)
theorem V_lstore (X : Cx p s m args c cc nL own Ts D G ρ A H0) {j : Nat} {x : Int64} (hlt : j + 1 < nL) (hL : (j, Value.long x) :: L.filter (fun q => !(q.1 == j) && (!(q.1 == j + 1) && !(q.1 + 1 == j && q.2.category == 2))) = L2) (hd : decode cc pc = .ok (.lstore j, 2)) (hn : pc + 2 = n) (k : V p l e R s m args below meth c D G ρ A H0 nL cells slots Q n L2 st C N) : V p l e R s m args below meth c D G ρ A H0 nL cells slots Q pc L (.long x :: st) C N := by
  subst hn; exact fun H locs ls hP hS hl => lv_lstore X.1 X.2.1 hd hl hlt hL (fun ls hl => k H locs ls hP hS hl)
theorem V_topi {x : Int32} (k : ∀ y, y = x → V p l e R s m args below meth c D G ρ A H0 nL cells slots Q pc L (.int y :: st) C N) : V p l e R s m args below meth c D G ρ A H0 nL cells slots Q pc L (.int x :: st) C N := k x rfl
theorem V_topl {x : Int64} (k : ∀ y, y = x → V p l e R s m args below meth c D G ρ A H0 nL cells slots Q pc L (.long y :: st) C N) : V p l e R s m args below meth c D G ρ A H0 nL cells slots Q pc L (.long x :: st) C N := k x rfl
theorem V_iinc (X : Cx p s m args c cc nL own Ts D G ρ A H0) {j q : Nat} {i : Int} {x d : Int32} (hq : L[q]? = some (j, .int x)) (hv : Int32.ofInt i = d) (hlt : j < nL) {y : Int32} (hy : y = x + d) (hL : (j, Value.int y) :: L.filter (fun q => !(q.1 == j) && !(q.1 + 1 == j && q.2.category == 2)) = L2) (hd : decode cc pc = .ok (.iinc j i, 3)) (hn : pc + 3 = n) (k : V p l e R s m args below meth c D G ρ A H0 nL cells slots Q n L2 st C N) : V p l e R s m args below meth c D G ρ A H0 nL cells slots Q pc L st C N := by
  subst hn; exact fun H locs ls hP hS hl => lv_iinc X.1 X.2.1 hd hl hq (by rw [hv, hy]) hlt hL (fun ls hl => k H locs ls hP hS hl)
theorem V_iadd (X : Cx p s m args c cc nL own Ts D G ρ A H0) {x y : Int32} (hd : decode cc pc = .ok (.iadd, 1)) (hn : pc + 1 = n) (k : V p l e R s m args below meth c D G ρ A H0 nL cells slots Q n L (.int (x + y) :: st) C N) : V p l e R s m args below meth c D G ρ A H0 nL cells slots Q pc L (.int y :: .int x :: st) C N := by
  subst hn; exact fun H locs ls hP hS hl => lv_iadd X.1 X.2.1 hd  (k H locs ls hP hS hl)
theorem V_isub (X : Cx p s m args c cc nL own Ts D G ρ A H0) {x y : Int32} (hd : decode cc pc = .ok (.isub, 1)) (hn : pc + 1 = n) (k : V p l e R s m args below meth c D G ρ A H0 nL cells slots Q n L (.int (x - y) :: st) C N) : V p l e R s m args below meth c D G ρ A H0 nL cells slots Q pc L (.int y :: .int x :: st) C N := by
  subst hn; exact fun H locs ls hP hS hl => lv_isub X.1 X.2.1 hd  (k H locs ls hP hS hl)
theorem V_imul (X : Cx p s m args c cc nL own Ts D G ρ A H0) {x y : Int32} (hd : decode cc pc = .ok (.imul, 1)) (hn : pc + 1 = n) (k : V p l e R s m args below meth c D G ρ A H0 nL cells slots Q n L (.int (x * y) :: st) C N) : V p l e R s m args below meth c D G ρ A H0 nL cells slots Q pc L (.int y :: .int x :: st) C N := by
  subst hn; exact fun H locs ls hP hS hl => lv_imul X.1 X.2.1 hd  (k H locs ls hP hS hl)
theorem V_ishl (X : Cx p s m args c cc nL own Ts D G ρ A H0) {x y : Int32} (hd : decode cc pc = .ok (.ishl, 1)) (hn : pc + 1 = n) (k : V p l e R s m args below meth c D G ρ A H0 nL cells slots Q n L (.int (x <<< (y &&& 31)) :: st) C N) : V p l e R s m args below meth c D G ρ A H0 nL cells slots Q pc L (.int y :: .int x :: st) C N := by
  subst hn; exact fun H locs ls hP hS hl => lv_ishl X.1 X.2.1 hd  (k H locs ls hP hS hl)
theorem V_ishr (X : Cx p s m args c cc nL own Ts D G ρ A H0) {x y : Int32} (hd : decode cc pc = .ok (.ishr, 1)) (hn : pc + 1 = n) (k : V p l e R s m args below meth c D G ρ A H0 nL cells slots Q n L (.int (x >>> (y &&& 31)) :: st) C N) : V p l e R s m args below meth c D G ρ A H0 nL cells slots Q pc L (.int y :: .int x :: st) C N := by
  subst hn; exact fun H locs ls hP hS hl => lv_ishr X.1 X.2.1 hd  (k H locs ls hP hS hl)
theorem V_iand (X : Cx p s m args c cc nL own Ts D G ρ A H0) {x y : Int32} (hd : decode cc pc = .ok (.iand, 1)) (hn : pc + 1 = n) (k : V p l e R s m args below meth c D G ρ A H0 nL cells slots Q n L (.int (x &&& y) :: st) C N) : V p l e R s m args below meth c D G ρ A H0 nL cells slots Q pc L (.int y :: .int x :: st) C N := by
  subst hn; exact fun H locs ls hP hS hl => lv_iand X.1 X.2.1 hd  (k H locs ls hP hS hl)
theorem V_ior (X : Cx p s m args c cc nL own Ts D G ρ A H0) {x y : Int32} (hd : decode cc pc = .ok (.ior, 1)) (hn : pc + 1 = n) (k : V p l e R s m args below meth c D G ρ A H0 nL cells slots Q n L (.int (x ||| y) :: st) C N) : V p l e R s m args below meth c D G ρ A H0 nL cells slots Q pc L (.int y :: .int x :: st) C N := by
  subst hn; exact fun H locs ls hP hS hl => lv_ior X.1 X.2.1 hd  (k H locs ls hP hS hl)
theorem V_irem (X : Cx p s m args c cc nL own Ts D G ρ A H0) {x y : Int32} (hne : ¬ y = 0) (hd : decode cc pc = .ok (.irem, 1)) (hn : pc + 1 = n) (k : V p l e R s m args below meth c D G ρ A H0 nL cells slots Q n L (.int (irm x y) :: st) C N) : V p l e R s m args below meth c D G ρ A H0 nL cells slots Q pc L (.int y :: .int x :: st) C N := by
  subst hn; exact fun H locs ls hP hS hl => lv_irem X.1 X.2.1 hd hne (k H locs ls hP hS hl)
theorem V_idiv (X : Cx p s m args c cc nL own Ts D G ρ A H0) {x y : Int32} (hne : ¬ y = 0) (hd : decode cc pc = .ok (.idiv, 1)) (hn : pc + 1 = n) (k : V p l e R s m args below meth c D G ρ A H0 nL cells slots Q n L (.int (x / y) :: st) C N) : V p l e R s m args below meth c D G ρ A H0 nL cells slots Q pc L (.int y :: .int x :: st) C N := by
  subst hn; exact fun H locs ls hP hS hl => lv_idiv X.1 X.2.1 hd hne (k H locs ls hP hS hl)
theorem V_i2l (X : Cx p s m args c cc nL own Ts D G ρ A H0) {x : Int32} (hd : decode cc pc = .ok (.i2l, 1)) (hn : pc + 1 = n) (k : V p l e R s m args below meth c D G ρ A H0 nL cells slots Q n L (.long x.toInt64 :: st) C N) : V p l e R s m args below meth c D G ρ A H0 nL cells slots Q pc L (.int x :: st) C N := by
  subst hn; exact fun H locs ls hP hS hl => lv_i2l X.1 X.2.1 hd rfl (k H locs ls hP hS hl)
theorem V_ladd (X : Cx p s m args c cc nL own Ts D G ρ A H0) {x y : Int64} (hd : decode cc pc = .ok (.ladd, 1)) (hn : pc + 1 = n) (k : V p l e R s m args below meth c D G ρ A H0 nL cells slots Q n L (.long (x + y) :: st) C N) : V p l e R s m args below meth c D G ρ A H0 nL cells slots Q pc L (.long y :: .long x :: st) C N := by
  subst hn; exact fun H locs ls hP hS hl => lv_ladd X.1 X.2.1 hd  (k H locs ls hP hS hl)
theorem V_lmul (X : Cx p s m args c cc nL own Ts D G ρ A H0) {x y : Int64} (hd : decode cc pc = .ok (.lmul, 1)) (hn : pc + 1 = n) (k : V p l e R s m args below meth c D G ρ A H0 nL cells slots Q n L (.long (x * y) :: st) C N) : V p l e R s m args below meth c D G ρ A H0 nL cells slots Q pc L (.long y :: .long x :: st) C N := by
  subst hn; exact fun H locs ls hP hS hl => lv_lmul X.1 X.2.1 hd  (k H locs ls hP hS hl)
theorem V_lcmp (X : Cx p s m args c cc nL own Ts D G ρ A H0) {x y : Int64} (hd : decode cc pc = .ok (.lcmp, 1)) (hn : pc + 1 = n) (k : V p l e R s m args below meth c D G ρ A H0 nL cells slots Q n L (.int (lg_cmp x y) :: st) C N) : V p l e R s m args below meth c D G ρ A H0 nL cells slots Q pc L (.long y :: .long x :: st) C N := by
  subst hn; exact fun H locs ls hP hS hl => W.lcmp X.1 X.2.1 hd  (k H locs ls hP hS hl)
theorem V_dup (X : Cx p s m args c cc nL own Ts D G ρ A H0) {v : Value} (hv : v.category = 1) (hd : decode cc pc = .ok (.dup, 1)) (hn : pc + 1 = n) (k : V p l e R s m args below meth c D G ρ A H0 nL cells slots Q n L (v :: v :: st) C N) : V p l e R s m args below meth c D G ρ A H0 nL cells slots Q pc L (v :: st) C N := by
  subst hn; exact fun H locs ls hP hS hl => lv_dup X.1 X.2.1 hd hv (k H locs ls hP hS hl)
theorem V_dup2 (X : Cx p s m args c cc nL own Ts D G ρ A H0) {v u : Value} (hv : v.category = 1) (hu : u.category = 1) (hd : decode cc pc = .ok (.dup2, 1)) (hn : pc + 1 = n) (k : V p l e R s m args below meth c D G ρ A H0 nL cells slots Q n L (v :: u :: v :: u :: st) C N) : V p l e R s m args below meth c D G ρ A H0 nL cells slots Q pc L (v :: u :: st) C N := by
  subst hn; exact fun H locs ls hP hS hl => lv_dup2_11 X.1 X.2.1 hd hv hu (k H locs ls hP hS hl)
theorem V_pop (X : Cx p s m args c cc nL own Ts D G ρ A H0) {v : Value} (hv : v.category = 1) (hd : decode cc pc = .ok (.pop, 1)) (hn : pc + 1 = n) (k : V p l e R s m args below meth c D G ρ A H0 nL cells slots Q n L st C N) : V p l e R s m args below meth c D G ρ A H0 nL cells slots Q pc L (v :: st) C N := by
  subst hn; exact fun H locs ls hP hS hl => lv_pop X.1 X.2.1 hd hv (k H locs ls hP hS hl)
theorem V_goto (X : Cx p s m args c cc nL own Ts D G ρ A H0) {off : Int} (hd : decode cc pc = .ok (.goto off, 3)) (ht : (pc : Int) + off = (tgt : Int)) (k : V p l e R s m args below meth c D G ρ A H0 nL cells slots Q tgt L st C N) : V p l e R s m args below meth c D G ρ A H0 nL cells slots Q pc L st C N :=
  fun H locs ls hP hS hl => lv_goto X.1 X.2.1 hd ht (k H locs ls hP hS hl)
theorem V_if_eq (X : Cx p s m args c cc nL own Ts D G ρ A H0) {x : Int32} {off : Int} (hd : decode cc pc = .ok (.ifCond .eq off, 3)) (ht : (pc : Int) + off = (tgt : Int)) (hn : pc + 3 = n) (kt : x = 0 → V p l e R s m args below meth c D G ρ A H0 nL cells slots Q tgt L st C N) (kf : ¬ x = 0 → V p l e R s m args below meth c D G ρ A H0 nL cells slots Q n L st C N) : V p l e R s m args below meth c D G ρ A H0 nL cells slots Q pc L (.int x :: st) C N := by
  subst hn; exact fun H locs ls hP hS hl => lv_if_eq X.1 X.2.1 hd ht (fun h => kt h H locs ls hP hS hl) (fun h => kf h H locs ls hP hS hl)
theorem V_if_ne (X : Cx p s m args c cc nL own Ts D G ρ A H0) {x : Int32} {off : Int} (hd : decode cc pc = .ok (.ifCond .ne off, 3)) (ht : (pc : Int) + off = (tgt : Int)) (hn : pc + 3 = n) (kt : ¬ x = 0 → V p l e R s m args below meth c D G ρ A H0 nL cells slots Q tgt L st C N) (kf : x = 0 → V p l e R s m args below meth c D G ρ A H0 nL cells slots Q n L st C N) : V p l e R s m args below meth c D G ρ A H0 nL cells slots Q pc L (.int x :: st) C N := by
  subst hn; exact fun H locs ls hP hS hl => lv_if_ne X.1 X.2.1 hd ht (fun h => kt h H locs ls hP hS hl) (fun h => kf h H locs ls hP hS hl)
theorem V_if_lt (X : Cx p s m args c cc nL own Ts D G ρ A H0) {x : Int32} {off : Int} (hd : decode cc pc = .ok (.ifCond .lt off, 3)) (ht : (pc : Int) + off = (tgt : Int)) (hn : pc + 3 = n) (kt : x < 0 → V p l e R s m args below meth c D G ρ A H0 nL cells slots Q tgt L st C N) (kf : ¬ x < 0 → V p l e R s m args below meth c D G ρ A H0 nL cells slots Q n L st C N) : V p l e R s m args below meth c D G ρ A H0 nL cells slots Q pc L (.int x :: st) C N := by
  subst hn; exact fun H locs ls hP hS hl => lv_if_lt X.1 X.2.1 hd ht (fun h => kt h H locs ls hP hS hl) (fun h => kf h H locs ls hP hS hl)
theorem V_if_ge (X : Cx p s m args c cc nL own Ts D G ρ A H0) {x : Int32} {off : Int} (hd : decode cc pc = .ok (.ifCond .ge off, 3)) (ht : (pc : Int) + off = (tgt : Int)) (hn : pc + 3 = n) (kt : 0 ≤ x → V p l e R s m args below meth c D G ρ A H0 nL cells slots Q tgt L st C N) (kf : ¬ 0 ≤ x → V p l e R s m args below meth c D G ρ A H0 nL cells slots Q n L st C N) : V p l e R s m args below meth c D G ρ A H0 nL cells slots Q pc L (.int x :: st) C N := by
  subst hn; exact fun H locs ls hP hS hl => lv_if_ge X.1 X.2.1 hd ht (fun h => kt h H locs ls hP hS hl) (fun h => kf h H locs ls hP hS hl)
theorem V_if_gt (X : Cx p s m args c cc nL own Ts D G ρ A H0) {x : Int32} {off : Int} (hd : decode cc pc = .ok (.ifCond .gt off, 3)) (ht : (pc : Int) + off = (tgt : Int)) (hn : pc + 3 = n) (kt : 0 < x → V p l e R s m args below meth c D G ρ A H0 nL cells slots Q tgt L st C N) (kf : ¬ 0 < x → V p l e R s m args below meth c D G ρ A H0 nL cells slots Q n L st C N) : V p l e R s m args below meth c D G ρ A H0 nL cells slots Q pc L (.int x :: st) C N := by
  subst hn; exact fun H locs ls hP hS hl => lv_if_gt X.1 X.2.1 hd ht (fun h => kt h H locs ls hP hS hl) (fun h => kf h H locs ls hP hS hl)
theorem V_if_le (X : Cx p s m args c cc nL own Ts D G ρ A H0) {x : Int32} {off : Int} (hd : decode cc pc = .ok (.ifCond .le off, 3)) (ht : (pc : Int) + off = (tgt : Int)) (hn : pc + 3 = n) (kt : x ≤ 0 → V p l e R s m args below meth c D G ρ A H0 nL cells slots Q tgt L st C N) (kf : ¬ x ≤ 0 → V p l e R s m args below meth c D G ρ A H0 nL cells slots Q n L st C N) : V p l e R s m args below meth c D G ρ A H0 nL cells slots Q pc L (.int x :: st) C N := by
  subst hn; exact fun H locs ls hP hS hl => lv_if_le X.1 X.2.1 hd ht (fun h => kt h H locs ls hP hS hl) (fun h => kf h H locs ls hP hS hl)
theorem V_icmp_eq (X : Cx p s m args c cc nL own Ts D G ρ A H0) {x y : Int32} {off : Int} (hd : decode cc pc = .ok (.if_icmp .eq off, 3)) (ht : (pc : Int) + off = (tgt : Int)) (hn : pc + 3 = n) (kt : x = y → V p l e R s m args below meth c D G ρ A H0 nL cells slots Q tgt L st C N) (kf : ¬ x = y → V p l e R s m args below meth c D G ρ A H0 nL cells slots Q n L st C N) : V p l e R s m args below meth c D G ρ A H0 nL cells slots Q pc L (.int y :: .int x :: st) C N := by
  subst hn; exact fun H locs ls hP hS hl => lv_icmp_eq X.1 X.2.1 hd ht (fun h => kt h H locs ls hP hS hl) (fun h => kf h H locs ls hP hS hl)
theorem V_icmp_ne (X : Cx p s m args c cc nL own Ts D G ρ A H0) {x y : Int32} {off : Int} (hd : decode cc pc = .ok (.if_icmp .ne off, 3)) (ht : (pc : Int) + off = (tgt : Int)) (hn : pc + 3 = n) (kt : ¬ x = y → V p l e R s m args below meth c D G ρ A H0 nL cells slots Q tgt L st C N) (kf : x = y → V p l e R s m args below meth c D G ρ A H0 nL cells slots Q n L st C N) : V p l e R s m args below meth c D G ρ A H0 nL cells slots Q pc L (.int y :: .int x :: st) C N := by
  subst hn; exact fun H locs ls hP hS hl => lv_icmp_ne X.1 X.2.1 hd ht (fun h => kt h H locs ls hP hS hl) (fun h => kf h H locs ls hP hS hl)
theorem V_icmp_lt (X : Cx p s m args c cc nL own Ts D G ρ A H0) {x y : Int32} {off : Int} (hd : decode cc pc = .ok (.if_icmp .lt off, 3)) (ht : (pc : Int) + off = (tgt : Int)) (hn : pc + 3 = n) (kt : x < y → V p l e R s m args below meth c D G ρ A H0 nL cells slots Q tgt L st C N) (kf : ¬ x < y → V p l e R s m args below meth c D G ρ A H0 nL cells slots Q n L st C N) : V p l e R s m args below meth c D G ρ A H0 nL cells slots Q pc L (.int y :: .int x :: st) C N := by
  subst hn; exact fun H locs ls hP hS hl => lv_icmp_lt X.1 X.2.1 hd ht (fun h => kt h H locs ls hP hS hl) (fun h => kf h H locs ls hP hS hl)
theorem V_icmp_ge (X : Cx p s m args c cc nL own Ts D G ρ A H0) {x y : Int32} {off : Int} (hd : decode cc pc = .ok (.if_icmp .ge off, 3)) (ht : (pc : Int) + off = (tgt : Int)) (hn : pc + 3 = n) (kt : y ≤ x → V p l e R s m args below meth c D G ρ A H0 nL cells slots Q tgt L st C N) (kf : ¬ y ≤ x → V p l e R s m args below meth c D G ρ A H0 nL cells slots Q n L st C N) : V p l e R s m args below meth c D G ρ A H0 nL cells slots Q pc L (.int y :: .int x :: st) C N := by
  subst hn; exact fun H locs ls hP hS hl => lv_icmp_ge X.1 X.2.1 hd ht (fun h => kt h H locs ls hP hS hl) (fun h => kf h H locs ls hP hS hl)
theorem V_icmp_gt (X : Cx p s m args c cc nL own Ts D G ρ A H0) {x y : Int32} {off : Int} (hd : decode cc pc = .ok (.if_icmp .gt off, 3)) (ht : (pc : Int) + off = (tgt : Int)) (hn : pc + 3 = n) (kt : y < x → V p l e R s m args below meth c D G ρ A H0 nL cells slots Q tgt L st C N) (kf : ¬ y < x → V p l e R s m args below meth c D G ρ A H0 nL cells slots Q n L st C N) : V p l e R s m args below meth c D G ρ A H0 nL cells slots Q pc L (.int y :: .int x :: st) C N := by
  subst hn; exact fun H locs ls hP hS hl => lv_icmp_gt X.1 X.2.1 hd ht (fun h => kt h H locs ls hP hS hl) (fun h => kf h H locs ls hP hS hl)
theorem V_icmp_le (X : Cx p s m args c cc nL own Ts D G ρ A H0) {x y : Int32} {off : Int} (hd : decode cc pc = .ok (.if_icmp .le off, 3)) (ht : (pc : Int) + off = (tgt : Int)) (hn : pc + 3 = n) (kt : x ≤ y → V p l e R s m args below meth c D G ρ A H0 nL cells slots Q tgt L st C N) (kf : ¬ x ≤ y → V p l e R s m args below meth c D G ρ A H0 nL cells slots Q n L st C N) : V p l e R s m args below meth c D G ρ A H0 nL cells slots Q pc L (.int y :: .int x :: st) C N := by
  subst hn; exact fun H locs ls hP hS hl => lv_icmp_le X.1 X.2.1 hd ht (fun h => kt h H locs ls hP hS hl) (fun h => kf h H locs ls hP hS hl)
theorem V_tableIn (X : Cx p s m args c cc nL own Ts D G ρ A H0) {dflt lo hi : Int} {offs : Array Int} {len : Nat} {x : Int32} {off : Int} (hd : decode cc pc = .ok (.tableswitch dflt lo hi offs, len)) (h1 : ¬ x.toInt < lo) (h2 : ¬ hi < x.toInt) (ho : offs[(x.toInt - lo).toNat]? = some off) (ht : (pc : Int) + off = (tgt : Int)) (k : V p l e R s m args below meth c D G ρ A H0 nL cells slots Q tgt L st C N) : V p l e R s m args below meth c D G ρ A H0 nL cells slots Q pc L (.int x :: st) C N :=
  fun H locs ls hP hS hl => lv_tableIn X.1 X.2.1 hd h1 h2 ho ht (k H locs ls hP hS hl)
theorem V_tableOut (X : Cx p s m args c cc nL own Ts D G ρ A H0) {dflt lo hi : Int} {offs : Array Int} {len : Nat} {x : Int32} (hd : decode cc pc = .ok (.tableswitch dflt lo hi offs, len)) (h : x.toInt < lo ∨ hi < x.toInt) (ht : (pc : Int) + dflt = (tgt : Int)) (k : V p l e R s m args below meth c D G ρ A H0 nL cells slots Q tgt L st C N) : V p l e R s m args below meth c D G ρ A H0 nL cells slots Q pc L (.int x :: st) C N :=
  fun H locs ls hP hS hl => lv_tableOut X.1 X.2.1 hd h ht (k H locs ls hP hS hl)
theorem V_ldc2 (X : Cx p s m args c cc nL own Ts D G ρ A H0) {index : Nat} {v : Int64} (hw : Cond.constantLong own index v ∈ Ts) (hd : decode cc pc = .ok (.ldc2_w index, 3)) (hn : pc + 3 = n) (k : V p l e R s m args below meth c D G ρ A H0 nL cells slots Q n L (.long v :: st) C N) : V p l e R s m args below meth c D G ρ A H0 nL cells slots Q pc L st C N := by
  subst hn; exact fun H locs ls hP hS hl => lv_ldc2 X.1 X.2.1 X.2.2.2.1 (X.2.2.2.2.1 _ hw) hd (k H locs ls hP hS hl)
theorem V_getX (X : Cx p s m args c cc nL own Ts D G ρ A H0) {index i k ci : Nat} {fc : List Nat} {Cn : String} {T : u_T} {NF : Nat} (hi : i < 66) (hs : shp i = .inl (ci, fc)) (hf : fc[k]? = some 0) (hin : ∀ w ∈ u_ws Cn T NF, w ∈ Ts) (hc : vwCl[ci]? = some (Cn, T, NF)) (hk : k < NF) (hw : Cond.fieldLink own index (T k).1 (T k).2.1 (T k).2.2.1 ∈ Ts) (hd : decode cc pc = .ok (.getfield index, 3)) (hn : pc + 3 = n) (kk : V p l e R s m args below meth c D G ρ A H0 nL cells slots Q n L (.int (C i k) :: st) C N) : V p l e R s m args below meth c D G ρ A H0 nL cells slots Q pc L (.ref (ρ i) :: st) C N := by
  subst hn; exact fun H locs ls hP hS hl => va_get X.1 X.2.1 X.2.2.2.2.1 hin X.2.2.2.1 X.2.2.2.2.2.1 hP i (wld_obj (by omega) hs) hc k hk (X.2.2.2.2.1 _ hw) (fun _ h => h) (fvs_at hf) hd (by show W p l e R s m args below meth c H locs cells slots Q (F0 m (pc + 3) ls (.int (rd C N i k) :: st)); rw [rd_x hi]; exact kk H locs ls hP hS hl)
theorem V_getN (X : Cx p s m args c cc nL own Ts D G ρ A H0) {index i k ci : Nat} {fc : List Nat} {Cn : String} {T : u_T} {NF : Nat} (hi : 66 ≤ i) (hi2 : i < 92) (hs : shp i = .inl (ci, fc)) (hf : fc[k]? = some 0) (hin : ∀ w ∈ u_ws Cn T NF, w ∈ Ts) (hc : vwCl[ci]? = some (Cn, T, NF)) (hk : k < NF) (hw : Cond.fieldLink own index (T k).1 (T k).2.1 (T k).2.2.1 ∈ Ts) (hd : decode cc pc = .ok (.getfield index, 3)) (hn : pc + 3 = n) (kk : V p l e R s m args below meth c D G ρ A H0 nL cells slots Q n L (.int (N.1 i k) :: st) C N) : V p l e R s m args below meth c D G ρ A H0 nL cells slots Q pc L (.ref (ρ i) :: st) C N := by
  subst hn; exact fun H locs ls hP hS hl => va_get X.1 X.2.1 X.2.2.2.2.1 hin X.2.2.2.1 X.2.2.2.2.2.1 hP i (wld_obj hi2 hs) hc k hk (X.2.2.2.2.1 _ hw) (fun _ h => h) (fvs_at hf) hd (by show W p l e R s m args below meth c H locs cells slots Q (F0 m (pc + 3) ls (.int (rd C N i k) :: st)); rw [rd_n hi]; exact kk H locs ls hP hS hl)
theorem V_getR (X : Cx p s m args c cc nL own Ts D G ρ A H0) {index i k ci : Nat} {fc : List Nat} {Cn : String} {T : u_T} {NF : Nat} {j : Nat} (hi : i < 92) (hs : shp i = .inl (ci, fc)) (hf : fc[k]? = some (j + 2)) (hin : ∀ w ∈ u_ws Cn T NF, w ∈ Ts) (hc : vwCl[ci]? = some (Cn, T, NF)) (hk : k < NF) (hw : Cond.fieldLink own index (T k).1 (T k).2.1 (T k).2.2.1 ∈ Ts) (hd : decode cc pc = .ok (.getfield index, 3)) (hn : pc + 3 = n) (kk : V p l e R s m args below meth c D G ρ A H0 nL cells slots Q n L (.ref (ρ j) :: st) C N) : V p l e R s m args below meth c D G ρ A H0 nL cells slots Q pc L (.ref (ρ i) :: st) C N := by
  subst hn; exact fun H locs ls hP hS hl => va_get X.1 X.2.1 X.2.2.2.2.1 hin X.2.2.2.1 X.2.2.2.2.2.1 hP i (wld_obj hi hs) hc k hk (X.2.2.2.2.1 _ hw) (fun _ h => h) (fvs_at hf) hd (kk H locs ls hP hS hl)
theorem V_getL (X : Cx p s m args c cc nL own Ts D G ρ A H0) {index i k ci : Nat} {fc : List Nat} {Cn : String} {T : u_T} {NF : Nat} (hi : i < 92) (hs : shp i = .inl (ci, fc)) (hf : fc[k]? = some 1) (hin : ∀ w ∈ u_ws Cn T NF, w ∈ Ts) (hc : vwCl[ci]? = some (Cn, T, NF)) (hk : k < NF) (hw : Cond.fieldLink own index (T k).1 (T k).2.1 (T k).2.2.1 ∈ Ts) (hd : decode cc pc = .ok (.getfield index, 3)) (hn : pc + 3 = n) (kk : V p l e R s m args below meth c D G ρ A H0 nL cells slots Q n L (.long N.2 :: st) C N) : V p l e R s m args below meth c D G ρ A H0 nL cells slots Q pc L (.ref (ρ i) :: st) C N := by
  subst hn; exact fun H locs ls hP hS hl => va_get X.1 X.2.1 X.2.2.2.2.1 hin X.2.2.2.1 X.2.2.2.2.2.1 hP i (wld_obj hi hs) hc k hk (X.2.2.2.2.1 _ hw) (fun _ h => h) (fvs_at hf) hd (kk H locs ls hP hS hl)
theorem V_putX (X : Cx p s m args c cc nL own Ts D G ρ A H0) {index i k ci : Nat} {fc : List Nat} {Cn : String} {T : u_T} {NF : Nat} {x : Int32} (hi : i < 66) (hs : shp i = .inl (ci, fc)) (hf : fc[k]? = some 0) (hin : ∀ w ∈ u_ws Cn T NF, w ∈ Ts) (hc : vwCl[ci]? = some (Cn, T, NF)) (hk : k < NF) (hw : Cond.fieldLink own index (T k).1 (T k).2.1 (T k).2.2.1 ∈ Ts) (ty0 : Nat → FieldType) (hty : ∀ k, k < NF → parseFieldDescriptor (T k).2.2.1 = some (ty0 k)) (hnm : ∀ a, a < NF → ∀ b, b < NF → a ≠ b → (T a).2.1 ≠ (T b).2.1) (hfin : (T k).2.2.2 = false) (hd0 : parseFieldDescriptor (T k).2.2.1 = some .int) (hd : decode cc pc = .ok (.putfield index, 3)) (hn : pc + 3 = n) (kk : ∀ C1, C1 = wr C i k x → V p l e R s m args below meth c D G ρ A H0 nL cells slots Q n L st C1 N) : V p l e R s m args below meth c D G ρ A H0 nL cells slots Q pc L (.int x :: .ref (ρ i) :: st) C N := by
  subst hn; exact fun H locs ls hP hS hl => va_put (ty := .int) (v := .int x) X.1 X.2.1 X.2.2.2.2.1 hin ty0 hty hnm X.2.2.2.1 X.2.2.2.2.2.1 hP (wld_D X.2.2.2.2.2.2.1 X.2.2.2.2.2.2.2.1) hS i (wld_obj (by omega) hs) hc k hk (X.2.2.2.2.1 _ hw) (fun _ h => h) hfin hd0 rfl rfl (by rw [fvs_len]; exact (List.getElem?_eq_some_iff.mp hf).1) hd (fun H1 locs1 hP1 _ hS1 => kk _ rfl H1 locs1 ls (by rw [wld_putX hi hs hf] at hP1; exact hP1) hS1 hl)
theorem V_putN (X : Cx p s m args c cc nL own Ts D G ρ A H0) {index i k ci : Nat} {fc : List Nat} {Cn : String} {T : u_T} {NF : Nat} {x : Int32} (hi : 66 ≤ i) (hi2 : i < 92) (hs : shp i = .inl (ci, fc)) (hf : fc[k]? = some 0) (hin : ∀ w ∈ u_ws Cn T NF, w ∈ Ts) (hc : vwCl[ci]? = some (Cn, T, NF)) (hk : k < NF) (hw : Cond.fieldLink own index (T k).1 (T k).2.1 (T k).2.2.1 ∈ Ts) (ty0 : Nat → FieldType) (hty : ∀ k, k < NF → parseFieldDescriptor (T k).2.2.1 = some (ty0 k)) (hnm : ∀ a, a < NF → ∀ b, b < NF → a ≠ b → (T a).2.1 ≠ (T b).2.1) (hfin : (T k).2.2.2 = false) (hd0 : parseFieldDescriptor (T k).2.2.1 = some .int) (hd : decode cc pc = .ok (.putfield index, 3)) (hn : pc + 3 = n) (kk : ∀ N1, N1 = wrN N i k x → V p l e R s m args below meth c D G ρ A H0 nL cells slots Q n L st C N1) : V p l e R s m args below meth c D G ρ A H0 nL cells slots Q pc L (.int x :: .ref (ρ i) :: st) C N := by
  subst hn; exact fun H locs ls hP hS hl => va_put (ty := .int) (v := .int x) X.1 X.2.1 X.2.2.2.2.1 hin ty0 hty hnm X.2.2.2.1 X.2.2.2.2.2.1 hP (wld_D X.2.2.2.2.2.2.1 X.2.2.2.2.2.2.2.1) hS i (wld_obj hi2 hs) hc k hk (X.2.2.2.2.1 _ hw) (fun _ h => h) hfin hd0 rfl rfl (by rw [fvs_len]; exact (List.getElem?_eq_some_iff.mp hf).1) hd (fun H1 locs1 hP1 _ hS1 => kk _ rfl H1 locs1 ls (by rw [wld_putN hi hi2 hs hf] at hP1; exact hP1) hS1 hl)
theorem V_putB (X : Cx p s m args c cc nL own Ts D G ρ A H0) {index i k ci : Nat} {fc : List Nat} {Cn : String} {T : u_T} {NF : Nat} {x : Int32} (hx : bl x) (hi : 66 ≤ i) (hi2 : i < 92) (hs : shp i = .inl (ci, fc)) (hf : fc[k]? = some 0) (hin : ∀ w ∈ u_ws Cn T NF, w ∈ Ts) (hc : vwCl[ci]? = some (Cn, T, NF)) (hk : k < NF) (hw : Cond.fieldLink own index (T k).1 (T k).2.1 (T k).2.2.1 ∈ Ts) (ty0 : Nat → FieldType) (hty : ∀ k, k < NF → parseFieldDescriptor (T k).2.2.1 = some (ty0 k)) (hnm : ∀ a, a < NF → ∀ b, b < NF → a ≠ b → (T a).2.1 ≠ (T b).2.1) (hfin : (T k).2.2.2 = false) (hd0 : parseFieldDescriptor (T k).2.2.1 = some .boolean) (hd : decode cc pc = .ok (.putfield index, 3)) (hn : pc + 3 = n) (kk : ∀ N1, N1 = wrN N i k x → V p l e R s m args below meth c D G ρ A H0 nL cells slots Q n L st C N1) : V p l e R s m args below meth c D G ρ A H0 nL cells slots Q pc L (.int x :: .ref (ρ i) :: st) C N := by
  subst hn; exact fun H locs ls hP hS hl => va_put (ty := .boolean) (v := .int x) X.1 X.2.1 X.2.2.2.2.1 hin ty0 hty hnm X.2.2.2.1 X.2.2.2.2.2.1 hP (wld_D X.2.2.2.2.2.2.1 X.2.2.2.2.2.2.2.1) hS i (wld_obj hi2 hs) hc k hk (X.2.2.2.2.1 _ hw) (fun _ h => h) hfin hd0 (congrArg Value.int hx) (bl_fits hx) (by rw [fvs_len]; exact (List.getElem?_eq_some_iff.mp hf).1) hd (fun H1 locs1 hP1 _ hS1 => kk _ rfl H1 locs1 ls (by rw [wld_putN hi hi2 hs hf] at hP1; exact hP1) hS1 hl)
theorem V_putL (X : Cx p s m args c cc nL own Ts D G ρ A H0) {index i k ci : Nat} {fc : List Nat} {Cn : String} {T : u_T} {NF : Nat} {x : Int64} (hi : i = 66) (hs : shp i = .inl (ci, fc)) (hf : fc[k]? = some 1) (ho : ∀ j, j ≠ k → fc[j]? ≠ some 1) (hin : ∀ w ∈ u_ws Cn T NF, w ∈ Ts) (hc : vwCl[ci]? = some (Cn, T, NF)) (hk : k < NF) (hw : Cond.fieldLink own index (T k).1 (T k).2.1 (T k).2.2.1 ∈ Ts) (ty0 : Nat → FieldType) (hty : ∀ k, k < NF → parseFieldDescriptor (T k).2.2.1 = some (ty0 k)) (hnm : ∀ a, a < NF → ∀ b, b < NF → a ≠ b → (T a).2.1 ≠ (T b).2.1) (hfin : (T k).2.2.2 = false) (hd0 : parseFieldDescriptor (T k).2.2.1 = some .long) (hd : decode cc pc = .ok (.putfield index, 3)) (hn : pc + 3 = n) (kk : ∀ N1, N1 = (N.1, x) → V p l e R s m args below meth c D G ρ A H0 nL cells slots Q n L st C N1) : V p l e R s m args below meth c D G ρ A H0 nL cells slots Q pc L (.long x :: .ref (ρ i) :: st) C N := by
  subst hn; subst hi; exact fun H locs ls hP hS hl => va_put (ty := .long) (v := .long x) X.1 X.2.1 X.2.2.2.2.1 hin ty0 hty hnm X.2.2.2.1 X.2.2.2.2.2.1 hP (wld_D X.2.2.2.2.2.2.1 X.2.2.2.2.2.2.2.1) hS 66 (wld_obj (by omega) hs) hc k hk (X.2.2.2.2.1 _ hw) (fun _ h => h) hfin hd0 rfl rfl (by rw [fvs_len]; exact (List.getElem?_eq_some_iff.mp hf).1) hd (fun H1 locs1 hP1 _ hS1 => kk _ rfl H1 locs1 ls (by rw [wld_long hs hf ho] at hP1; exact hP1) hS1 hl)
theorem V_ildX (X : Cx p s m args c cc nL own Ts D G ρ A H0) {i n0 : Nat} {x : Int32} (hi : i < 66) (hs : shp i = .inr (0, n0)) (hb : inb x n0) (hd : decode cc pc = .ok (.iaload, 1)) (hn : pc + 1 = n) (kk : V p l e R s m args below meth c D G ρ A H0 nL cells slots Q n L (.int (C i x.toNatClampNeg) :: st) C N) : V p l e R s m args below meth c D G ρ A H0 nL cells slots Q pc L (.int x :: .ref (ρ i) :: st) C N := by
  subst hn; exact fun H locs ls hP hS hl => va_iald (f := rd C N i) X.1 X.2.1 X.2.2.2.2.2.1 hP i 0 (wld_arr (by omega) hs) rfl (inb_in hb) hd (by rw [rd_x hi]; exact kk H locs ls hP hS hl)
theorem V_ildN (X : Cx p s m args c cc nL own Ts D G ρ A H0) {i n0 : Nat} {x : Int32} (hi : 66 ≤ i) (hi2 : i < 92) (hs : shp i = .inr (0, n0)) (hb : inb x n0) (hd : decode cc pc = .ok (.iaload, 1)) (hn : pc + 1 = n) (kk : V p l e R s m args below meth c D G ρ A H0 nL cells slots Q n L (.int (N.1 i x.toNatClampNeg) :: st) C N) : V p l e R s m args below meth c D G ρ A H0 nL cells slots Q pc L (.int x :: .ref (ρ i) :: st) C N := by
  subst hn; exact fun H locs ls hP hS hl => va_iald (f := rd C N i) X.1 X.2.1 X.2.2.2.2.2.1 hP i 0 (wld_arr hi2 hs) rfl (inb_in hb) hd (by rw [rd_n hi]; exact kk H locs ls hP hS hl)
theorem V_zldX (X : Cx p s m args c cc nL own Ts D G ρ A H0) {i n0 : Nat} {x : Int32} (hi : i < 66) (hs : shp i = .inr (1, n0)) (hb : inb x n0) (hd : decode cc pc = .ok (.baload, 1)) (hn : pc + 1 = n) (kk : V p l e R s m args below meth c D G ρ A H0 nL cells slots Q n L (.int (C i x.toNatClampNeg) :: st) C N) : V p l e R s m args below meth c D G ρ A H0 nL cells slots Q pc L (.int x :: .ref (ρ i) :: st) C N := by
  subst hn; exact fun H locs ls hP hS hl => va_zald (f := rd C N i) X.1 X.2.1 X.2.2.2.2.2.1 hP i 1 (wld_arr (by omega) hs) rfl (inb_in hb) hd (by rw [rd_x hi]; exact kk H locs ls hP hS hl)
theorem V_zldN (X : Cx p s m args c cc nL own Ts D G ρ A H0) {i n0 : Nat} {x : Int32} (hi : 66 ≤ i) (hi2 : i < 92) (hs : shp i = .inr (1, n0)) (hb : inb x n0) (hd : decode cc pc = .ok (.baload, 1)) (hn : pc + 1 = n) (kk : V p l e R s m args below meth c D G ρ A H0 nL cells slots Q n L (.int (N.1 i x.toNatClampNeg) :: st) C N) : V p l e R s m args below meth c D G ρ A H0 nL cells slots Q pc L (.int x :: .ref (ρ i) :: st) C N := by
  subst hn; exact fun H locs ls hP hS hl => va_zald (f := rd C N i) X.1 X.2.1 X.2.2.2.2.2.1 hP i 1 (wld_arr hi2 hs) rfl (inb_in hb) hd (by rw [rd_n hi]; exact kk H locs ls hP hS hl)
theorem V_istX (X : Cx p s m args c cc nL own Ts D G ρ A H0) {i n0 : Nat} {x v : Int32}  (hi : i < 66) (hs : shp i = .inr (0, n0)) (hb : inb x n0) (hd : decode cc pc = .ok (.iastore, 1)) (hn : pc + 1 = n) (kk : ∀ C1, C1 = wr C i x.toNatClampNeg v → V p l e R s m args below meth c D G ρ A H0 nL cells slots Q n L st C1 N) : V p l e R s m args below meth c D G ρ A H0 nL cells slots Q pc L (.int v :: .int x :: .ref (ρ i) :: st) C N := by
  subst hn; exact fun H locs ls hP hS hl => va_iast (f := rd C N i) X.1 X.2.1 X.2.2.2.2.2.1 hP (wld_D X.2.2.2.2.2.2.1 X.2.2.2.2.2.2.2.1) hS i 0 (wld_arr (by omega) hs) rfl (inb_in hb) hd (fun H1 locs1 hP1 _ hS1 => kk _ rfl H1 locs1 ls (by rw [wld_setX (k := x.toNatClampNeg) (v := v) (e := Sum.inl (G.1, n0, Sum.inl (upd (rd C N i) x.toNatClampNeg v))) hi hs rfl] at hP1; exact hP1) hS1 hl)
theorem V_istN (X : Cx p s m args c cc nL own Ts D G ρ A H0) {i n0 : Nat} {x v : Int32}  (hi : 66 ≤ i) (hi2 : i < 92) (hs : shp i = .inr (0, n0)) (hb : inb x n0) (hd : decode cc pc = .ok (.iastore, 1)) (hn : pc + 1 = n) (kk : ∀ N1, N1 = wrN N i x.toNatClampNeg v → V p l e R s m args below meth c D G ρ A H0 nL cells slots Q n L st C N1) : V p l e R s m args below meth c D G ρ A H0 nL cells slots Q pc L (.int v :: .int x :: .ref (ρ i) :: st) C N := by
  subst hn; exact fun H locs ls hP hS hl => va_iast (f := rd C N i) X.1 X.2.1 X.2.2.2.2.2.1 hP (wld_D X.2.2.2.2.2.2.1 X.2.2.2.2.2.2.2.1) hS i 0 (wld_arr hi2 hs) rfl (inb_in hb) hd (fun H1 locs1 hP1 _ hS1 => kk _ rfl H1 locs1 ls (by rw [wld_setN (k := x.toNatClampNeg) (v := v) (e := Sum.inl (G.1, n0, Sum.inl (upd (rd C N i) x.toNatClampNeg v))) hi hi2 hs rfl] at hP1; exact hP1) hS1 hl)
theorem V_zstX (X : Cx p s m args c cc nL own Ts D G ρ A H0) {i n0 : Nat} {x v : Int32} (hx : bl v) (hi : i < 66) (hs : shp i = .inr (1, n0)) (hb : inb x n0) (hd : decode cc pc = .ok (.bastore, 1)) (hn : pc + 1 = n) (kk : ∀ C1, C1 = wr C i x.toNatClampNeg v → V p l e R s m args below meth c D G ρ A H0 nL cells slots Q n L st C1 N) : V p l e R s m args below meth c D G ρ A H0 nL cells slots Q pc L (.int v :: .int x :: .ref (ρ i) :: st) C N := by
  subst hn; exact fun H locs ls hP hS hl => va_zast (f := rd C N i) X.1 X.2.1 X.2.2.2.2.2.1 hP (wld_D X.2.2.2.2.2.2.1 X.2.2.2.2.2.2.2.1) hS i 1 (wld_arr (by omega) hs) rfl (inb_in hb) hd (fun H1 locs1 hP1 _ hS1 => kk _ rfl H1 locs1 ls (by rw [bl_nar hx] at hP1; rw [wld_setX (k := x.toNatClampNeg) (v := v) (e := Sum.inl (G.2.1, n0, Sum.inl (upd (rd C N i) x.toNatClampNeg v))) hi hs rfl] at hP1; exact hP1) hS1 hl)
theorem V_zstN (X : Cx p s m args c cc nL own Ts D G ρ A H0) {i n0 : Nat} {x v : Int32} (hx : bl v) (hi : 66 ≤ i) (hi2 : i < 92) (hs : shp i = .inr (1, n0)) (hb : inb x n0) (hd : decode cc pc = .ok (.bastore, 1)) (hn : pc + 1 = n) (kk : ∀ N1, N1 = wrN N i x.toNatClampNeg v → V p l e R s m args below meth c D G ρ A H0 nL cells slots Q n L st C N1) : V p l e R s m args below meth c D G ρ A H0 nL cells slots Q pc L (.int v :: .int x :: .ref (ρ i) :: st) C N := by
  subst hn; exact fun H locs ls hP hS hl => va_zast (f := rd C N i) X.1 X.2.1 X.2.2.2.2.2.1 hP (wld_D X.2.2.2.2.2.2.1 X.2.2.2.2.2.2.2.1) hS i 1 (wld_arr hi2 hs) rfl (inb_in hb) hd (fun H1 locs1 hP1 _ hS1 => kk _ rfl H1 locs1 ls (by rw [bl_nar hx] at hP1; rw [wld_setN (k := x.toNatClampNeg) (v := v) (e := Sum.inl (G.2.1, n0, Sum.inl (upd (rd C N i) x.toNatClampNeg v))) hi hi2 hs rfl] at hP1; exact hP1) hS1 hl)
theorem V_aaR (X : Cx p s m args c cc nL own Ts D G ρ A H0) {i n0 b : Nat} {x : Int32} (hi : i < 92) (hs : shp i = .inr (b + 3, n0)) (hb : inb x n0) (hd : decode cc pc = .ok (.aaload, 1)) (hn : pc + 1 = n) (kk : V p l e R s m args below meth c D G ρ A H0 nL cells slots Q n L (.ref (ρ (b + x.toNatClampNeg)) :: st) C N) : V p l e R s m args below meth c D G ρ A H0 nL cells slots Q pc L (.int x :: .ref (ρ i) :: st) C N := by
  subst hn
  intro H locs ls hP hS hl
  have hin := inb_in hb
  have hlt : x.toNatClampNeg < n0 := Nat.not_le.mp fun q => hin (Or.inr q)
  refine W.aald (v := .ref (ρ (b + x.toNatClampNeg))) (ty := .array .int) X.1 X.2.1 (hP i _ (wld_arr hi hs)) ((X.2.2.2.2.2.1.2 3 _ rfl).1 n0 (fun j => va_rf (if j < n0 then some (ρ (b + j)) else none))) rfl (fun q => by cases q) (by show ¬ (x < 0 ∨ (arrV _ _ _).slots.size ≤ _); rw [arrV_size]; exact hin) (by show (arrV _ _ _).slots[_]? = _; rw [arrV_read _ _ hlt]; simp [hlt, va_rf]) rfl rfl hd (kk H locs ls hP hS hl)
theorem V_aaS (X : Cx p s m args c cc nL own Ts D G ρ A H0) {i n0 : Nat} {x : Int32} (hi : i < 66) (hs : shp i = .inr (2, n0)) (hb : inb x n0) (hd : decode cc pc = .ok (.aaload, 1)) (hn : pc + 1 = n) (kk : V p l e R s m args below meth c D G ρ A H0 nL cells slots Q n L (.ref (ρ (52 + 2 * (C i x.toNatClampNeg).toNatClampNeg)) :: st) C N) : V p l e R s m args below meth c D G ρ A H0 nL cells slots Q pc L (.int x :: .ref (ρ i) :: st) C N := by
  subst hn; exact fun H locs ls hP hS hl => va_aldq (C := RX5) X.1 X.2.1 X.2.2.2.2.2.1 hP i 2 (wld_arr (by omega) hs) rfl (inb_in hb) hd (by show W p l e R s m args below meth c H locs cells slots Q (F0 m (pc + 1) ls (.ref (ρ (52 + 2 * (rd C N i x.toNatClampNeg).toNatClampNeg)) :: st)); rw [rd_x hi]; exact kk H locs ls hP hS hl)
theorem shp_S : ∀ k, k < 6 → shp (52 + 2 * k) = .inl (5, [53 + 2 * k + 2, 0, 0, 0, 0, 0, 0]) := by decide +kernel
theorem shp_SG : ∀ k, k < 6 → shp (53 + 2 * k) = .inr (0, 4) := by decide +kernel
theorem V_aastS (X : Cx p s m args c cc nL own Ts D G ρ A H0) {i n0 : Nat} {x v : Int32} (hi : i < 66) (hs : shp i = .inr (2, n0)) (hb : inb x n0) (hv : v.toNatClampNeg < 6) (hd : decode cc pc = .ok (.aastore, 1)) (hn : pc + 1 = n) (kk : ∀ C1, C1 = wr C i x.toNatClampNeg v → V p l e R s m args below meth c D G ρ A H0 nL cells slots Q n L st C1 N) : V p l e R s m args below meth c D G ρ A H0 nL cells slots Q pc L (.ref (ρ (52 + 2 * v.toNatClampNeg)) :: .int x :: .ref (ρ i) :: st) C N := by
  subst hn
  exact fun H locs ls hP hS hl => va_astq (r := (RX5, TX5, 7)) X.1 X.2.1 X.2.2.2.2.2.1 hP (wld_D X.2.2.2.2.2.2.1 X.2.2.2.2.2.2.2.1) hS i 2 (52 + 2 * v.toNatClampNeg) 5 (wld_arr (by omega) hs) rfl (wld_obj (by omega) (shp_S _ hv)) rfl (inb_in hb) hd (fun H1 locs1 hP1 _ hS1 => kk _ rfl H1 locs1 ls (by
    rw [wld_setX (k := x.toNatClampNeg) (v := v) hi hs ?_] at hP1
    · exact hP1
    · show Sum.inl (G.2.2.1, n0, _) = _
      congr 7
      funext j
      unfold va_up upd
      split
      · rfl
      · rfl) hS1 hl)
theorem V_iret (X : Cx p s m args c cc nL own Ts D G ρ (WA ρ s.heap.size) s.heap) (hr : meth.sig.returnType = some .int) (hlk : meth.locks = false) {v : Int32} {P : Int32 → Xm → Nm → Prop} (hd : decode cc pc = .ok (.ireturn, 1)) (hk : P v C N) : V p l e R s m args below meth c D G ρ (WA ρ s.heap.size) s.heap nL 0 0 (Qi D G ρ s args below P) pc L [.int v] C N :=
  fun H locs ls hP hS hl => W.iret X.1 X.2.1 hr (fun t ht hW => ⟨⟨v, (C, N), rfl, hk, by rw [ht]; exact hP, va_K.moved hW.alike X.2.2.2.2.2.1⟩, hS.F ht⟩) hS.2.2 hd hlk
theorem V_zret (X : Cx p s m args c cc nL own Ts D G ρ (WA ρ s.heap.size) s.heap) (hr : meth.sig.returnType = some .boolean) (hlk : meth.locks = false) {v : Int32} (hv : bl v) {P : Int32 → Xm → Nm → Prop} (hd : decode cc pc = .ok (.ireturn, 1)) (hk : P v C N) : V p l e R s m args below meth c D G ρ (WA ρ s.heap.size) s.heap nL 0 0 (Qi D G ρ s args below P) pc L [.int v] C N :=
  fun H locs ls hP hS hl => W.zret X.1 X.2.1 hr (congrArg Value.int hv) (fun t ht hW => ⟨⟨v, (C, N), rfl, hk, by rw [ht]; exact hP, va_K.moved hW.alike X.2.2.2.2.2.1⟩, hS.F ht⟩) hS.2.2 hd hlk
theorem V_lret (X : Cx p s m args c cc nL own Ts D G ρ (WA ρ s.heap.size) s.heap) (hr : meth.sig.returnType = some .long) (hlk : meth.locks = false) {v : Int64} {P : Int64 → Xm → Nm → Prop} (hd : decode cc pc = .ok (.lreturn, 1)) (hk : P v C N) : V p l e R s m args below meth c D G ρ (WA ρ s.heap.size) s.heap nL 0 0 (Ql D G ρ s args below P) pc L [.long v] C N :=
  fun H locs ls hP hS hl => W.lret X.1 X.2.1 hr (fun t ht hW => ⟨⟨v, (C, N), rfl, hk, by rw [ht]; exact hP, va_K.moved hW.alike X.2.2.2.2.2.1⟩, hS.F ht⟩) hS.2.2 hd hlk
theorem V_vret (X : Cx p s m args c cc nL own Ts D G ρ (WA ρ s.heap.size) s.heap) (hr : meth.sig.returnType = none) (hlk : meth.locks = false) {P : Xm → Nm → Prop} (hd : decode cc pc = .ok (.return_, 1)) (hk : P C N) : V p l e R s m args below meth c D G ρ (WA ρ s.heap.size) s.heap nL 0 0 (Qv D G ρ s args below P) pc L [] C N :=
  fun H locs ls hP hS hl => W.vret X.1 X.2.1 hr (fun t ht hW => ⟨⟨(C, N), rfl, hk, by rw [ht]; exact hP, va_K.moved hW.alike X.2.2.2.2.2.1⟩, hS.F ht⟩) hS.2.2 hd hlk
theorem WA_to {H : Heap} {locs : List Loc} (X : Cx p s m args c cc nL own Ts D G ρ A H0) (hS : va_S A H0 H locs) {q : Nat} (h : WA ρ H.size q) : A q := by
  rcases h with ⟨i, hi, rfl⟩ | h
  · exact X.2.2.2.2.2.2.2.1 i hi
  · exact X.2.2.2.2.2.2.2.2 q (Nat.le_trans hS.1 h)
theorem V_calli (X : Cx p s m args c cc nL own Ts D G ρ A H0) {y : MethodName} {bytes : ByteArray} {maxL : Nat} {ret : Option FieldType} {ws ws' : List Cond} {rm : Room} {index : Nat} {As rest : List Value} {nA : Nat} {i ci : Nat} {fc : List Nat} {q : vw_C} {P : Int32 → Xm → Nm → Prop} (hM : Ki l y ws rm D G ρ (.ref (ρ i) :: As) C N P) (hg : GoodIn Ts (wsV own index q.1 y ws)) (hw : ws = Cond.code y bytes maxL ret :: ws') (hrc : rm.cells = 0) (hrs : rm.slots = 0) (hy : y.cls = q.1 ∧ y.cls ≠ "java/lang/invoke/MethodHandle" ∧ y.cls ≠ "java/lang/invoke/VarHandle" ∧ (parseMethodDescriptor y.desc).map (fun d => d.parameters.length) = some nA) (hA : As.length = nA) (hR : rm.frames + 1 ≤ R.frames ∧ 8 + (maxL + 11) + rm.locals ≤ R.locals) (hroom : (rest.map fun v => v.category).sum ≤ 8) (hcs : cells ≤ R.cells ∧ slots ≤ R.slots) (hi : i < 92) (hs : shp i = .inl (ci, fc)) (hc : vwCl[ci]? = some q) (hst : st = As.reverse ++ .ref (ρ i) :: rest) (hd : decode cc pc = .ok (.invokevirtual index, 3)) (hn : pc + 3 = n) (k : ∀ r C1 N1, P r C1 N1 → V p l e R s m args below meth c D G ρ A H0 nL cells slots Q n L (.int r :: rest) C1 N1) : V p l e R s m args below meth c D G ρ A H0 nL cells slots Q pc L st C N := by
  subst hn; subst hst; exact fun H locs ls hP hS hl => va_calli (va_runV (As := As) (rest := rest) ⟨X.1, X.2.1, X.2.2.1, X.2.2.2.1, X.2.2.2.2.1⟩ (hM H.size) (cwV nA X.2.2.2.2.1 hg hw hrc hrs hy hR) ⟨Pw_blind, va_recv X.2.2.2.2.2.1 hP hc (wld_obj hi hs), fun U hU hW => ⟨rfl, by rw [hU], by rw [hU]; exact hP, va_K.moved hW.alike X.2.2.2.2.2.1, X.2.2.2.2.2.2.1⟩⟩ rfl hA hl.1 rfl (lv_room hroom) hd hcs) hS (fun q _ h => WA_to X hS h) (fun q h => WA_to X hS h) (fun r u t H1 locs1 ht hvm hw1 hB hz1 hk1 hS1 => k r u.1 u.2 hw1 H1 locs1 ls (by rw [← ht]; exact hB.1) hS1 hl)
theorem V_callsi (X : Cx p s m args c cc nL own Ts D G ρ A H0) {y : MethodName} {bytes : ByteArray} {maxL : Nat} {ret : Option FieldType} {ws ws' : List Cond} {rm : Room} {index : Nat} {As rest : List Value} {nA : Nat} {P : Int32 → Xm → Nm → Prop} (hM : Ki l y ws rm D G ρ As C N P) (hg : GoodIn Ts (va_wsS own index y ws)) (hw : ws = Cond.code y bytes maxL ret :: ws') (hrc : rm.cells = 0) (hrs : rm.slots = 0) (hy : y.cls ≠ "java/lang/invoke/MethodHandle" ∧ y.cls ≠ "java/lang/invoke/VarHandle" ∧ (parseMethodDescriptor y.desc).map (fun d => d.parameters.length) = some nA) (hA : As.length = nA) (hR : rm.frames + 1 ≤ R.frames ∧ 8 + (maxL + 11) + rm.locals ≤ R.locals) (hroom : (rest.map fun v => v.category).sum ≤ 8) (hcs : cells ≤ R.cells ∧ slots ≤ R.slots) (hst : st = As.reverse ++ rest) (hd : decode cc pc = .ok (.invokestatic index, 3)) (hn : pc + 3 = n) (k : ∀ r C1 N1, P r C1 N1 → V p l e R s m args below meth c D G ρ A H0 nL cells slots Q n L (.int r :: rest) C1 N1) : V p l e R s m args below meth c D G ρ A H0 nL cells slots Q pc L st C N := by
  subst hn; subst hst; exact fun H locs ls hP hS hl => va_calli (va_runS (As := As) (rest := rest) ⟨X.1, X.2.1, X.2.2.1, X.2.2.2.1, X.2.2.2.2.1⟩ (hM H.size) (va_cwS nA X.2.2.2.2.1 hg hw hrc hrs hy hR) ⟨Pw_blind, fun U hU hW => ⟨rfl, by rw [hU], by rw [hU]; exact hP, va_K.moved hW.alike X.2.2.2.2.2.1, X.2.2.2.2.2.2.1⟩⟩ rfl hA hl.1 rfl (lv_room hroom) hd hcs) hS (fun q _ h => WA_to X hS h) (fun q h => WA_to X hS h) (fun r u t H1 locs1 ht hvm hw1 hB hz1 hk1 hS1 => k r u.1 u.2 hw1 H1 locs1 ls (by rw [← ht]; exact hB.1) hS1 hl)
theorem V_calll (X : Cx p s m args c cc nL own Ts D G ρ A H0) {y : MethodName} {bytes : ByteArray} {maxL : Nat} {ret : Option FieldType} {ws ws' : List Cond} {rm : Room} {index : Nat} {As rest : List Value} {nA : Nat} {i ci : Nat} {fc : List Nat} {q : vw_C} {P : Int64 → Xm → Nm → Prop} (hM : Kl l y ws rm D G ρ (.ref (ρ i) :: As) C N P) (hg : GoodIn Ts (wsV own index q.1 y ws)) (hw : ws = Cond.code y bytes maxL ret :: ws') (hrc : rm.cells = 0) (hrs : rm.slots = 0) (hy : y.cls = q.1 ∧ y.cls ≠ "java/lang/invoke/MethodHandle" ∧ y.cls ≠ "java/lang/invoke/VarHandle" ∧ (parseMethodDescriptor y.desc).map (fun d => d.parameters.length) = some nA) (hA : As.length = nA) (hR : rm.frames + 1 ≤ R.frames ∧ 8 + (maxL + 11) + rm.locals ≤ R.locals) (hroom : (rest.map fun v => v.category).sum ≤ 8) (hcs : cells ≤ R.cells ∧ slots ≤ R.slots) (hi : i < 92) (hs : shp i = .inl (ci, fc)) (hc : vwCl[ci]? = some q) (hst : st = As.reverse ++ .ref (ρ i) :: rest) (hd : decode cc pc = .ok (.invokevirtual index, 3)) (hn : pc + 3 = n) (k : ∀ r C1 N1, P r C1 N1 → V p l e R s m args below meth c D G ρ A H0 nL cells slots Q n L (.long r :: rest) C1 N1) : V p l e R s m args below meth c D G ρ A H0 nL cells slots Q pc L st C N := by
  subst hn; subst hst; exact fun H locs ls hP hS hl => va_calll (va_runV (As := As) (rest := rest) ⟨X.1, X.2.1, X.2.2.1, X.2.2.2.1, X.2.2.2.2.1⟩ (hM H.size) (cwV nA X.2.2.2.2.1 hg hw hrc hrs hy hR) ⟨Pw_blind, va_recv X.2.2.2.2.2.1 hP hc (wld_obj hi hs), fun U hU hW => ⟨rfl, by rw [hU], by rw [hU]; exact hP, va_K.moved hW.alike X.2.2.2.2.2.1, X.2.2.2.2.2.2.1⟩⟩ rfl hA hl.1 rfl (lv_room hroom) hd hcs) hS (fun q _ h => WA_to X hS h) (fun q h => WA_to X hS h) (fun r u t H1 locs1 ht hvm hw1 hB hz1 hk1 hS1 => k r u.1 u.2 hw1 H1 locs1 ls (by rw [← ht]; exact hB.1) hS1 hl)
theorem V_callsl (X : Cx p s m args c cc nL own Ts D G ρ A H0) {y : MethodName} {bytes : ByteArray} {maxL : Nat} {ret : Option FieldType} {ws ws' : List Cond} {rm : Room} {index : Nat} {As rest : List Value} {nA : Nat} {P : Int64 → Xm → Nm → Prop} (hM : Kl l y ws rm D G ρ As C N P) (hg : GoodIn Ts (va_wsS own index y ws)) (hw : ws = Cond.code y bytes maxL ret :: ws') (hrc : rm.cells = 0) (hrs : rm.slots = 0) (hy : y.cls ≠ "java/lang/invoke/MethodHandle" ∧ y.cls ≠ "java/lang/invoke/VarHandle" ∧ (parseMethodDescriptor y.desc).map (fun d => d.parameters.length) = some nA) (hA : As.length = nA) (hR : rm.frames + 1 ≤ R.frames ∧ 8 + (maxL + 11) + rm.locals ≤ R.locals) (hroom : (rest.map fun v => v.category).sum ≤ 8) (hcs : cells ≤ R.cells ∧ slots ≤ R.slots) (hst : st = As.reverse ++ rest) (hd : decode cc pc = .ok (.invokestatic index, 3)) (hn : pc + 3 = n) (k : ∀ r C1 N1, P r C1 N1 → V p l e R s m args below meth c D G ρ A H0 nL cells slots Q n L (.long r :: rest) C1 N1) : V p l e R s m args below meth c D G ρ A H0 nL cells slots Q pc L st C N := by
  subst hn; subst hst; exact fun H locs ls hP hS hl => va_calll (va_runS (As := As) (rest := rest) ⟨X.1, X.2.1, X.2.2.1, X.2.2.2.1, X.2.2.2.2.1⟩ (hM H.size) (va_cwS nA X.2.2.2.2.1 hg hw hrc hrs hy hR) ⟨Pw_blind, fun U hU hW => ⟨rfl, by rw [hU], by rw [hU]; exact hP, va_K.moved hW.alike X.2.2.2.2.2.1, X.2.2.2.2.2.2.1⟩⟩ rfl hA hl.1 rfl (lv_room hroom) hd hcs) hS (fun q _ h => WA_to X hS h) (fun q h => WA_to X hS h) (fun r u t H1 locs1 ht hvm hw1 hB hz1 hk1 hS1 => k r u.1 u.2 hw1 H1 locs1 ls (by rw [← ht]; exact hB.1) hS1 hl)
theorem V_callv (X : Cx p s m args c cc nL own Ts D G ρ A H0) {y : MethodName} {bytes : ByteArray} {maxL : Nat} {ret : Option FieldType} {ws ws' : List Cond} {rm : Room} {index : Nat} {As rest : List Value} {nA : Nat} {i ci : Nat} {fc : List Nat} {q : vw_C} {P : Xm → Nm → Prop} (hM : Kv l y ws rm D G ρ (.ref (ρ i) :: As) C N P) (hg : GoodIn Ts (wsV own index q.1 y ws)) (hw : ws = Cond.code y bytes maxL ret :: ws') (hrc : rm.cells = 0) (hrs : rm.slots = 0) (hy : y.cls = q.1 ∧ y.cls ≠ "java/lang/invoke/MethodHandle" ∧ y.cls ≠ "java/lang/invoke/VarHandle" ∧ (parseMethodDescriptor y.desc).map (fun d => d.parameters.length) = some nA) (hA : As.length = nA) (hR : rm.frames + 1 ≤ R.frames ∧ 8 + (maxL + 11) + rm.locals ≤ R.locals) (hroom : (rest.map fun v => v.category).sum ≤ 8) (hcs : cells ≤ R.cells ∧ slots ≤ R.slots) (hi : i < 92) (hs : shp i = .inl (ci, fc)) (hc : vwCl[ci]? = some q) (hst : st = As.reverse ++ .ref (ρ i) :: rest) (hd : decode cc pc = .ok (.invokevirtual index, 3)) (hn : pc + 3 = n) (k : ∀ C1 N1, P C1 N1 → V p l e R s m args below meth c D G ρ A H0 nL cells slots Q n L rest C1 N1) : V p l e R s m args below meth c D G ρ A H0 nL cells slots Q pc L st C N := by
  subst hn; subst hst; exact fun H locs ls hP hS hl => va_callv (va_runV (As := As) (rest := rest) ⟨X.1, X.2.1, X.2.2.1, X.2.2.2.1, X.2.2.2.2.1⟩ (hM H.size) (cwV nA X.2.2.2.2.1 hg hw hrc hrs hy hR) ⟨Pw_blind, va_recv X.2.2.2.2.2.1 hP hc (wld_obj hi hs), fun U hU hW => ⟨rfl, by rw [hU], by rw [hU]; exact hP, va_K.moved hW.alike X.2.2.2.2.2.1, X.2.2.2.2.2.2.1⟩⟩ rfl hA hl.1 rfl (lv_room hroom) hd hcs) hS (fun q _ h => WA_to X hS h) (fun q h => WA_to X hS h) (fun u t H1 locs1 ht hvm hw1 hB hz1 hk1 hS1 => k u.1 u.2 hw1 H1 locs1 ls (by rw [← ht]; exact hB.1) hS1 hl)
theorem V_callsv (X : Cx p s m args c cc nL own Ts D G ρ A H0) {y : MethodName} {bytes : ByteArray} {maxL : Nat} {ret : Option FieldType} {ws ws' : List Cond} {rm : Room} {index : Nat} {As rest : List Value} {nA : Nat} {P : Xm → Nm → Prop} (hM : Kv l y ws rm D G ρ As C N P) (hg : GoodIn Ts (va_wsS own index y ws)) (hw : ws = Cond.code y bytes maxL ret :: ws') (hrc : rm.cells = 0) (hrs : rm.slots = 0) (hy : y.cls ≠ "java/lang/invoke/MethodHandle" ∧ y.cls ≠ "java/lang/invoke/VarHandle" ∧ (parseMethodDescriptor y.desc).map (fun d => d.parameters.length) = some nA) (hA : As.length = nA) (hR : rm.frames + 1 ≤ R.frames ∧ 8 + (maxL + 11) + rm.locals ≤ R.locals) (hroom : (rest.map fun v => v.category).sum ≤ 8) (hcs : cells ≤ R.cells ∧ slots ≤ R.slots) (hst : st = As.reverse ++ rest) (hd : decode cc pc = .ok (.invokestatic index, 3)) (hn : pc + 3 = n) (k : ∀ C1 N1, P C1 N1 → V p l e R s m args below meth c D G ρ A H0 nL cells slots Q n L rest C1 N1) : V p l e R s m args below meth c D G ρ A H0 nL cells slots Q pc L st C N := by
  subst hn; subst hst; exact fun H locs ls hP hS hl => va_callv (va_runS (As := As) (rest := rest) ⟨X.1, X.2.1, X.2.2.1, X.2.2.2.1, X.2.2.2.2.1⟩ (hM H.size) (va_cwS nA X.2.2.2.2.1 hg hw hrc hrs hy hR) ⟨Pw_blind, fun U hU hW => ⟨rfl, by rw [hU], by rw [hU]; exact hP, va_K.moved hW.alike X.2.2.2.2.2.1, X.2.2.2.2.2.2.1⟩⟩ rfl hA hl.1 rfl (lv_room hroom) hd hcs) hS (fun q _ h => WA_to X hS h) (fun q h => WA_to X hS h) (fun u t H1 locs1 ht hvm hw1 hB hz1 hk1 hS1 => k u.1 u.2 hw1 H1 locs1 ls (by rw [← ht]; exact hB.1) hS1 hl)
theorem V_mmax (X : Cx p s m args c cc nL own Ts D G ρ A H0) {index : Nat} {x y : Int32} (h1 : Cond.methodLink own index Lib.Math.max.name ∈ Ts) (h2 : Cond.static Lib.Math.max.name ∈ Ts) (h3 : Cond.initialized "java/lang/Math" ∈ Ts) (h4 : Cond.code Lib.Math.max.name Lib.Math.max.code 2 (some .int) ∈ Ts) (hfr : 1 ≤ R.frames) (hlo : (st.map fun v => v.category).sum + 13 ≤ R.locals) (hcs : cells ≤ R.cells ∧ slots ≤ R.slots) (hd : decode cc pc = .ok (.invokestatic index, 3)) (hn : pc + 3 = n) (k : V p l e R s m args below meth c D G ρ A H0 nL cells slots Q n L (.int (if x < y then y else x) :: st) C N) : V p l e R s m args below meth c D G ρ A H0 nL cells slots Q pc L (.int y :: .int x :: st) C N := by
  subst hn; exact fun H locs ls hP hS hl => va_mmax X.1 X.2.1 (X.2.2.1.trans hl.1.symm) X.2.2.2.1 (X.2.2.2.2.1 _ h1) (X.2.2.2.2.1 _ h2) (X.2.2.2.2.1 _ h3) (X.2.2.2.2.1 _ h4) hfr hlo hcs.1 hcs.2 hd (k H locs ls hP hS hl)
theorem V_mmin (X : Cx p s m args c cc nL own Ts D G ρ A H0) {index : Nat} {x y : Int32} (h1 : Cond.methodLink own index Lib.Math.min.name ∈ Ts) (h2 : Cond.static Lib.Math.min.name ∈ Ts) (h3 : Cond.initialized "java/lang/Math" ∈ Ts) (h4 : Cond.code Lib.Math.min.name Lib.Math.min.code 2 (some .int) ∈ Ts) (hfr : 1 ≤ R.frames) (hlo : (st.map fun v => v.category).sum + 13 ≤ R.locals) (hcs : cells ≤ R.cells ∧ slots ≤ R.slots) (hd : decode cc pc = .ok (.invokestatic index, 3)) (hn : pc + 3 = n) (k : V p l e R s m args below meth c D G ρ A H0 nL cells slots Q n L (.int (if y < x then y else x) :: st) C N) : V p l e R s m args below meth c D G ρ A H0 nL cells slots Q pc L (.int y :: .int x :: st) C N := by
  subst hn; exact fun H locs ls hP hS hl => va_mmin X.1 X.2.1 (X.2.2.1.trans hl.1.symm) X.2.2.2.1 (X.2.2.2.2.1 _ h1) (X.2.2.2.2.1 _ h2) (X.2.2.2.2.1 _ h3) (X.2.2.2.2.1 _ h4) hfr hlo hcs.1 hcs.2 hd (k H locs ls hP hS hl)
theorem V_copy (X : Cx p s m args c cc nL own Ts D G ρ A H0) {index i j n0 n1 : Nat} {sp dp len : Int32} (h1 : Cond.methodLink own index arraycopyName ∈ Ts) (h2 : Cond.native arraycopyName ∈ Ts) (h3 : Cond.static arraycopyName ∈ Ts) (h4 : Cond.initialized "java/lang/System" ∈ Ts) (hi : i < 66) (hj : j < 66) (hsi : shp i = .inr (0, n0)) (hsj : shp j = .inr (0, n1)) (g1 : ¬ sp < 0) (g2 : ¬ dp < 0) (g3 : ¬ len < 0) (g4 : sp.toNatClampNeg + len.toNatClampNeg ≤ n0) (g5 : dp.toNatClampNeg + len.toNatClampNeg ≤ n1) (hfr : 1 ≤ R.frames) (hlo : (st.map fun v => v.category).sum + (nativeFrameWords "java/lang/System" "arraycopy" 5 + 11) ≤ R.locals) (hd : decode cc pc = .ok (.invokestatic index, 3)) (hn : pc + 3 = n) (kk : ∀ C1, C1 = wrR C j (va_cpy (C i) (C j) sp.toNatClampNeg dp.toNatClampNeg len.toNatClampNeg) → V p l e R s m args below meth c D G ρ A H0 nL cells slots Q n L st C1 N) : V p l e R s m args below meth c D G ρ A H0 nL cells slots Q pc L (.int len :: .int dp :: .ref (ρ j) :: .int sp :: .ref (ρ i) :: st) C N := by
  subst hn; exact fun H locs ls hP hS hl => va_copyi (f := rd C N i) (g := rd C N j) (ty := .int) X.1 X.2.1 (X.2.2.1.trans hl.1.symm) X.2.2.2.1 (X.2.2.2.2.1 _ h1) (X.2.2.2.2.1 _ h2) (X.2.2.2.2.1 _ h3) (X.2.2.2.2.1 _ h4) X.2.2.2.2.2.1 hP (wld_D X.2.2.2.2.2.2.1 X.2.2.2.2.2.2.2.1) hS i j 0 0 (wld_arr (by omega) hsi) (wld_arr (by omega) hsj) rfl rfl rfl g1 g2 g3 g4 g5 (fun _ _ => rfl) hfr hlo hd (fun H1 locs1 hP1 _ hS1 => kk _ rfl H1 locs1 ls (by rw [wld_rowX (g := va_cpy (rd C N i) (rd C N j) sp.toNatClampNeg dp.toNatClampNeg len.toNatClampNeg) (e := Sum.inl (G.1, n1, Sum.inl (va_cpy (rd C N i) (rd C N j) sp.toNatClampNeg dp.toNatClampNeg len.toNatClampNeg))) hj hsj rfl, rd_x hi, rd_x hj] at hP1; exact hP1) hS1 hl)
theorem V_alenX (X : Cx p s m args c cc nL own Ts D G ρ A H0) {i n0 : Nat} {v : Int32} (hi : i < 66) (hs : shp i = .inr (0, n0)) (hv : Int32.ofNat n0 = v) (hd : decode cc pc = .ok (.arraylength, 1)) (hn : pc + 1 = n) (kk : V p l e R s m args below meth c D G ρ A H0 nL cells slots Q n L (.int v :: st) C N) : V p l e R s m args below meth c D G ρ A H0 nL cells slots Q pc L (.ref (ρ i) :: st) C N := by
  subst hn; exact fun H locs ls hP hS hl => va_alen X.1 X.2.1 X.2.2.2.2.2.1 hP i 0 (wld_arr (by omega) hs) rfl hv hd (kk H locs ls hP hS hl)
theorem V_loc (ks : List Nat) (hL : lv_pick L ks = L2) (k : V p l e R s m args below meth c D G ρ A H0 nL cells slots Q pc L2 st C N) : V p l e R s m args below meth c D G ρ A H0 nL cells slots Q pc L st C N := fun H locs ls hP hS hl => k H locs ls hP hS (lv_sub hl ks hL)
theorem V_tableAt (X : Cx p s m args c cc nL own Ts D G ρ A H0) {dflt lo hi : Int} {offs : Array Int} {len : Nat} {x v : Int32} {off : Int} (hx : x = v) (hd : decode cc pc = .ok (.tableswitch dflt lo hi offs, len)) (h1 : ¬ v.toInt < lo) (h2 : ¬ hi < v.toInt) (ho : offs[(v.toInt - lo).toNat]? = some off) (ht : (pc : Int) + off = (tgt : Int)) (k : V p l e R s m args below meth c D G ρ A H0 nL cells slots Q tgt L st C N) : V p l e R s m args below meth c D G ρ A H0 nL cells slots Q pc L (.int x :: st) C N := by
  subst hx; exact V_tableIn X hd h1 h2 ho ht k
theorem V_sld (X : Cx p s m args c cc nL own Ts D G ρ A H0) {b Ln : Nat} {xs : Nat → Int32} (hX : va_X b Ln xs s H0) (hbl : b < H0.size) (hbA : ¬ A b) {x : Int32} (hb : inb x Ln) (hd : decode cc pc = .ok (.iaload, 1)) (hn : pc + 1 = n) (kk : V p l e R s m args below meth c D G ρ A H0 nL cells slots Q n L (.int (xs x.toNatClampNeg) :: st) C N) : V p l e R s m args below meth c D G ρ A H0 nL cells slots Q pc L (.int x :: .ref b :: st) C N := by
  subst hn; exact fun H locs ls hP hS hl => va_sld X.1 X.2.1 hX hbl hbA hS (inb_in hb) hd (kk H locs ls hP hS hl)
theorem V_slen (X : Cx p s m args c cc nL own Ts D G ρ A H0) {b Ln : Nat} {xs : Nat → Int32} (hX : va_X b Ln xs s H0) (hbl : b < H0.size) (hbA : ¬ A b) (hd : decode cc pc = .ok (.arraylength, 1)) (hn : pc + 1 = n) (kk : V p l e R s m args below meth c D G ρ A H0 nL cells slots Q n L (.int (Int32.ofNat Ln) :: st) C N) : V p l e R s m args below meth c D G ρ A H0 nL cells slots Q pc L (.ref b :: st) C N := by
  subst hn; exact fun H locs ls hP hS hl => va_slen X.1 X.2.1 hX hbl hbA hS hd (kk H locs ls hP hS hl)
end VB
theorem inb_nat {x : Int32} {n : Nat} (h : inb x n) : x.toNatClampNeg < n := Nat.not_le.mp fun q => inb_in h (Or.inr q)
theorem row_lt {x : Int32} {b : Nat} (h : inb x 8) (hb : b + 8 ≤ 66) : b + x.toNatClampNeg < 66 := by have := inb_nat h; omega
theorem row_s5 : ∀ k, k < 8 → shp (5 + k) = .inr (0, 8) := by decide +kernel
theorem row_sh5 {x : Int32} (h : inb x 8) : shp (5 + x.toNatClampNeg) = .inr (0, 8) := row_s5 _ (inb_nat h)
theorem row_s14 : ∀ k, k < 8 → shp (14 + k) = .inr (0, 8) := by decide +kernel
theorem row_sh14 {x : Int32} (h : inb x 8) : shp (14 + x.toNatClampNeg) = .inr (0, 8) := row_s14 _ (inb_nat h)
theorem row_s25 : ∀ k, k < 8 → shp (25 + k) = .inr (0, 8) := by decide +kernel
theorem row_sh25 {x : Int32} (h : inb x 8) : shp (25 + x.toNatClampNeg) = .inr (0, 8) := row_s25 _ (inb_nat h)
theorem row_s34 : ∀ k, k < 8 → shp (34 + k) = .inr (0, 8) := by decide +kernel
theorem row_sh34 {x : Int32} (h : inb x 8) : shp (34 + x.toNatClampNeg) = .inr (0, 8) := row_s34 _ (inb_nat h)
theorem only41a : ∀ j, j < 42 → j ≠ 41 → ([0, 69, 0, 0, 70, 71, 72, 73, 74, 75, 76, 77, 78, 0, 0, 0, 0, 0, 0, 0, 0, 79, 80, 81, 82, 83, 84, 85, 0, 86, 0, 0, 87, 88, 89, 90, 0, 0, 91, 92, 93, 1] : List Nat)[j]? ≠ some 1 := by decide +kernel
theorem only41 : ∀ j, j ≠ 41 → ([0, 69, 0, 0, 70, 71, 72, 73, 74, 75, 76, 77, 78, 0, 0, 0, 0, 0, 0, 0, 0, 79, 80, 81, 82, 83, 84, 85, 0, 86, 0, 0, 87, 88, 89, 90, 0, 0, 91, 92, 93, 1] : List Nat)[j]? ≠ some 1 := fun j h => by
  rcases Nat.lt_or_ge j 42 with q | q
  · exact only41a j q h
  · rw [List.getElem?_eq_none (by simpa using q)]; exact fun z => by cases z
theorem ts_out5 {x : Int32} (c0 : ¬ x = 0) (c1 : ¬ x = 1) (c2 : ¬ x = 2) (c3 : ¬ x = 3) (c4 : ¬ x = 4) : x.toInt < 0 ∨ 4 < x.toInt := by
  have d0 : x.toInt ≠ 0 := fun q => c0 (Int32.toInt_inj.mp (q.trans (by decide)))
  have d1 : x.toInt ≠ 1 := fun q => c1 (Int32.toInt_inj.mp (q.trans (by decide)))
  have d2 : x.toInt ≠ 2 := fun q => c2 (Int32.toInt_inj.mp (q.trans (by decide)))
  have d3 : x.toInt ≠ 3 := fun q => c3 (Int32.toInt_inj.mp (q.trans (by decide)))
  have d4 : x.toInt ≠ 4 := fun q => c4 (Int32.toInt_inj.mp (q.trans (by decide)))
  omega
theorem ts_out26 {x : Int32} (c0 : ¬ x = 0) (c1 : ¬ x = 1) (c2 : ¬ x = 2) (c3 : ¬ x = 3) (c4 : ¬ x = 4) (c5 : ¬ x = 5) (c6 : ¬ x = 6) (c7 : ¬ x = 7) (c8 : ¬ x = 8) (c9 : ¬ x = 9) (c10 : ¬ x = 10) (c11 : ¬ x = 11) (c12 : ¬ x = 12) (c13 : ¬ x = 13) (c14 : ¬ x = 14) (c15 : ¬ x = 15) (c16 : ¬ x = 16) (c17 : ¬ x = 17) (c18 : ¬ x = 18) (c19 : ¬ x = 19) (c20 : ¬ x = 20) (c21 : ¬ x = 21) (c22 : ¬ x = 22) (c23 : ¬ x = 23) (c24 : ¬ x = 24) (c25 : ¬ x = 25) : x.toInt < 0 ∨ 25 < x.toInt := by
  have d0 : x.toInt ≠ 0 := fun q => c0 (Int32.toInt_inj.mp (q.trans (by decide)))
  have d1 : x.toInt ≠ 1 := fun q => c1 (Int32.toInt_inj.mp (q.trans (by decide)))
  have d2 : x.toInt ≠ 2 := fun q => c2 (Int32.toInt_inj.mp (q.trans (by decide)))
  have d3 : x.toInt ≠ 3 := fun q => c3 (Int32.toInt_inj.mp (q.trans (by decide)))
  have d4 : x.toInt ≠ 4 := fun q => c4 (Int32.toInt_inj.mp (q.trans (by decide)))
  have d5 : x.toInt ≠ 5 := fun q => c5 (Int32.toInt_inj.mp (q.trans (by decide)))
  have d6 : x.toInt ≠ 6 := fun q => c6 (Int32.toInt_inj.mp (q.trans (by decide)))
  have d7 : x.toInt ≠ 7 := fun q => c7 (Int32.toInt_inj.mp (q.trans (by decide)))
  have d8 : x.toInt ≠ 8 := fun q => c8 (Int32.toInt_inj.mp (q.trans (by decide)))
  have d9 : x.toInt ≠ 9 := fun q => c9 (Int32.toInt_inj.mp (q.trans (by decide)))
  have d10 : x.toInt ≠ 10 := fun q => c10 (Int32.toInt_inj.mp (q.trans (by decide)))
  have d11 : x.toInt ≠ 11 := fun q => c11 (Int32.toInt_inj.mp (q.trans (by decide)))
  have d12 : x.toInt ≠ 12 := fun q => c12 (Int32.toInt_inj.mp (q.trans (by decide)))
  have d13 : x.toInt ≠ 13 := fun q => c13 (Int32.toInt_inj.mp (q.trans (by decide)))
  have d14 : x.toInt ≠ 14 := fun q => c14 (Int32.toInt_inj.mp (q.trans (by decide)))
  have d15 : x.toInt ≠ 15 := fun q => c15 (Int32.toInt_inj.mp (q.trans (by decide)))
  have d16 : x.toInt ≠ 16 := fun q => c16 (Int32.toInt_inj.mp (q.trans (by decide)))
  have d17 : x.toInt ≠ 17 := fun q => c17 (Int32.toInt_inj.mp (q.trans (by decide)))
  have d18 : x.toInt ≠ 18 := fun q => c18 (Int32.toInt_inj.mp (q.trans (by decide)))
  have d19 : x.toInt ≠ 19 := fun q => c19 (Int32.toInt_inj.mp (q.trans (by decide)))
  have d20 : x.toInt ≠ 20 := fun q => c20 (Int32.toInt_inj.mp (q.trans (by decide)))
  have d21 : x.toInt ≠ 21 := fun q => c21 (Int32.toInt_inj.mp (q.trans (by decide)))
  have d22 : x.toInt ≠ 22 := fun q => c22 (Int32.toInt_inj.mp (q.trans (by decide)))
  have d23 : x.toInt ≠ 23 := fun q => c23 (Int32.toInt_inj.mp (q.trans (by decide)))
  have d24 : x.toInt ≠ 24 := fun q => c24 (Int32.toInt_inj.mp (q.trans (by decide)))
  have d25 : x.toInt ≠ 25 := fun q => c25 (Int32.toInt_inj.mp (q.trans (by decide)))
  omega
/-- a row of the class filled with v -/
def flR (C : Xm) (i n : Nat) (v : Int32) : Xm := wrR C i (fun j => if j < n then v else C i j)
theorem Ki.ofV {l : Launch} {y : MethodName} {ws ws' : List Cond} {rm : Room} {D : va_G} {G : Gc} {ρ : Nat → Nat} {vals : List Value} {C : Xm} {N : Nm} {P : Int32 → Xm → Nm → Prop} {cc : ByteArray} {maxL : Nat} {ret : Option FieldType} (hy : plainName y.cls = true) (hw : ws = Cond.code y cc maxL ret :: ws') (hlen : (lg_sl vals).length ≤ maxL)
    (body : ∀ (p : Program) (e : Env) (s : State) (m : MethodId) (args : Array Value) (below : List Frame) (meth : Method) (c : Code), Cx p s m args c cc maxL y.cls ws D G ρ (WA ρ s.heap.size) s.heap → meth.sig.returnType = ret → meth.locks = false → V p l e rm s m args below meth c D G ρ (WA ρ s.heap.size) s.heap maxL 0 0 (Qi D G ρ s args below P) 0 (lv_args 0 vals) [] C N) : Ki l y ws rm D G ρ vals C N P := by
  intro sz
  refine Met.ofW (cc := cc) (maxL := maxL) (ret := ret) hy hw ?_
  intro p e s m args below meth c s₁ B hml hv
  obtain ⟨rfl, hsz, hP, hK, hI⟩ := hv
  subst hsz
  have X : Cx p s m vals.toArray c cc maxL y.cls ws D G ρ (WA ρ s.heap.size) s.heap := ⟨B.exec, B.bytes, hml, findClass_of_methodNamed B.named, atoms_spec (ws := ws) B.pre, hK, hI, fun i hi => Or.inl ⟨i, hi, rfl⟩, fun q h => Or.inr h⟩
  have k := body p e s m vals.toArray below meth c X B.returns B.notSynchronized
  have hl := lv_entry vals (n := maxL) hlen
  rw [lg_entry_eq]
  exact k s.heap [] _ hP va_S.rf hl
theorem Kl.ofV {l : Launch} {y : MethodName} {ws ws' : List Cond} {rm : Room} {D : va_G} {G : Gc} {ρ : Nat → Nat} {vals : List Value} {C : Xm} {N : Nm} {P : Int64 → Xm → Nm → Prop} {cc : ByteArray} {maxL : Nat} {ret : Option FieldType} (hy : plainName y.cls = true) (hw : ws = Cond.code y cc maxL ret :: ws') (hlen : (lg_sl vals).length ≤ maxL)
    (body : ∀ (p : Program) (e : Env) (s : State) (m : MethodId) (args : Array Value) (below : List Frame) (meth : Method) (c : Code), Cx p s m args c cc maxL y.cls ws D G ρ (WA ρ s.heap.size) s.heap → meth.sig.returnType = ret → meth.locks = false → V p l e rm s m args below meth c D G ρ (WA ρ s.heap.size) s.heap maxL 0 0 (Ql D G ρ s args below P) 0 (lv_args 0 vals) [] C N) : Kl l y ws rm D G ρ vals C N P := by
  intro sz
  refine Met.ofW (cc := cc) (maxL := maxL) (ret := ret) hy hw ?_
  intro p e s m args below meth c s₁ B hml hv
  obtain ⟨rfl, hsz, hP, hK, hI⟩ := hv
  subst hsz
  have X : Cx p s m vals.toArray c cc maxL y.cls ws D G ρ (WA ρ s.heap.size) s.heap := ⟨B.exec, B.bytes, hml, findClass_of_methodNamed B.named, atoms_spec (ws := ws) B.pre, hK, hI, fun i hi => Or.inl ⟨i, hi, rfl⟩, fun q h => Or.inr h⟩
  have k := body p e s m vals.toArray below meth c X B.returns B.notSynchronized
  have hl := lv_entry vals (n := maxL) hlen
  rw [lg_entry_eq]
  exact k s.heap [] _ hP va_S.rf hl
theorem Kv.ofV {l : Launch} {y : MethodName} {ws ws' : List Cond} {rm : Room} {D : va_G} {G : Gc} {ρ : Nat → Nat} {vals : List Value} {C : Xm} {N : Nm} {P : Xm → Nm → Prop} {cc : ByteArray} {maxL : Nat} {ret : Option FieldType} (hy : plainName y.cls = true) (hw : ws = Cond.code y cc maxL ret :: ws') (hlen : (lg_sl vals).length ≤ maxL)
    (body : ∀ (p : Program) (e : Env) (s : State) (m : MethodId) (args : Array Value) (below : List Frame) (meth : Method) (c : Code), Cx p s m args c cc maxL y.cls ws D G ρ (WA ρ s.heap.size) s.heap → meth.sig.returnType = ret → meth.locks = false → V p l e rm s m args below meth c D G ρ (WA ρ s.heap.size) s.heap maxL 0 0 (Qv D G ρ s args below P) 0 (lv_args 0 vals) [] C N) : Kv l y ws rm D G ρ vals C N P := by
  intro sz
  refine Met.ofW (cc := cc) (maxL := maxL) (ret := ret) hy hw ?_
  intro p e s m args below meth c s₁ B hml hv
  obtain ⟨rfl, hsz, hP, hK, hI⟩ := hv
  subst hsz
  have X : Cx p s m vals.toArray c cc maxL y.cls ws D G ρ (WA ρ s.heap.size) s.heap := ⟨B.exec, B.bytes, hml, findClass_of_methodNamed B.named, atoms_spec (ws := ws) B.pre, hK, hI, fun i hi => Or.inl ⟨i, hi, rfl⟩, fun q h => Or.inr h⟩
  have k := body p e s m vals.toArray below meth c X B.returns B.notSynchronized
  have hl := lv_entry vals (n := maxL) hlen
  rw [lg_entry_eq]
  exact k s.heap [] _ hP va_S.rf hl
