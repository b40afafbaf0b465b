/-! a theorem a cell (gen/mk26c.py) -/
def Cok (D : va_G) (G : Gc) (u : SX7) (v : SX8) (H : Heap) (k : Nat) : Prop := va_at D vwCl (rho G u v k, ceE G (rho G u v) (rd C0 N0 k) N0.2 k) H
theorem Cok.of {D : va_G} {G : Gc} {u : SX7} {v : SX8} {H : Heap} {k a : Nat} {e : va_E} (h : va_P D vwCl (ShX7 G u ++ ShX8 G v) H) (hf : (fla G u v)[k]? = some (a, e)) (he : ceE G (rho G u v) (rd C0 N0 k) N0.2 k = e) : Cok D G u v H k := by
  rw [fla_eq] at h
  unfold Cok
  rw [ro_of hf, he]
  exact h k _ hf
theorem lt_step {Q : Nat → Prop} {n : Nat} (h : ∀ k, k < n → Q k) (hn : Q n) : ∀ k, k < n + 1 → Q k := fun k hk => by
  by_cases e : k = n
  · subst e; exact hn
  · exact h k (by omega)
theorem rz {k : Nat} (h : k ≠ 0 ∧ k ≠ 46 ∧ k ≠ 51 ∧ (k < 52 ∨ 64 ≤ k ∨ k % 2 = 1) ∧ k ≠ 66) : rd C0 N0 k = fun _ => 0 := by
  funext b
  by_cases h6 : k < 66
  · rw [rd_x h6]
    unfold C0
    rw [if_neg (by omega), if_neg (by omega), if_neg (by omega), if_neg (by omega), if_neg (by omega), if_neg (by omega), if_neg (by omega)]
  · rw [rd_n (by omega)]
    show (if k = 66 ∧ b = 14 then (-1 : Int32) else if k = 66 ∧ b = 16 then 2 else if k = 66 ∧ b = 17 then 3 else if k = 66 ∧ b = 18 then 3 else if k = 66 ∧ b = 19 then 2 else 0) = 0
    rw [if_neg (by omega), if_neg (by omega), if_neg (by omega), if_neg (by omega), if_neg (by omega)]
theorem ce_int {G : Gc} {ρ : Nat → Nat} {h : Int64} {k n : Nat} (hs : shp k = .inr (0, n)) (hz : rd C0 N0 k = fun _ => 0) : ceE G ρ (rd C0 N0 k) h k = intR G n := by
  unfold ceE; rw [hs, hz]; rfl
theorem ce_boo {G : Gc} {ρ : Nat → Nat} {h : Int64} {k n : Nat} (hs : shp k = .inr (1, n)) (hz : rd C0 N0 k = fun _ => 0) : ceE G ρ (rd C0 N0 k) h k = booR G n := by
  unfold ceE; rw [hs, hz]; rfl
theorem ce_out {G : Gc} {ρ : Nat → Nat} {f : Nat → Int32} {h : Int64} {k b : Nat} {r : Nat → Nat} (hs : shp k = .inr (b + 3, 8)) (hr : ∀ i, i < 8 → ρ (b + i) = r i) : ceE G ρ f h k = outR G r := by
  unfold ceE; rw [hs]
  show (Sum.inl (G.2.2.2, 8, .inr (.inr (.inr (.inr (fun j => if j < 8 then some (ρ (b + j)) else none))))) : va_E) = outR G r
  exact congrArg (fun g : Nat → Option Nat => (Sum.inl (G.2.2.2, 8, .inr (.inr (.inr (.inr g)))) : va_E)) (out8 (r := fun j => ρ (b + j)) (q := r) hr)
theorem ce_obj {G : Gc} {ρ : Nat → Nat} {f : Nat → Int32} {h : Int64} {k ci : Nat} {fc : List Nat} {vs : List Value} (hs : shp k = .inl (ci, fc)) (he : fvs ρ f h fc = vs) : ceE G ρ f h k = .inr (ci, vs) := by
  unfold ceE; rw [hs]; show (Sum.inr (ci, fvs ρ f h fc) : va_E) = _; rw [he]
theorem fs0 (ρ : Nat → Nat) (f : Nat → Int32) (h : Int64) : fvs ρ f h [3, 24, 48, 52, 66, 0, 0, 0, 0] = [.ref (ρ 1), .ref (ρ 22), .ref (ρ 46), .ref (ρ 50), .ref (ρ 64), .int (f 5), .int (f 6), .int (f 7), .int (f 8)] := rfl
theorem nu0_5 : rd C0 N0 0 5 = 3 := by decide +kernel
theorem nu0_6 : rd C0 N0 0 6 = 2 := by decide +kernel
theorem nu0_7 : rd C0 N0 0 7 = (-1) := by decide +kernel
theorem nu0_8 : rd C0 N0 0 8 = 0 := by decide +kernel
theorem cok0 {D : va_G} {G : Gc} {u : SX7} {v : SX8} {H : Heap} (h : va_P D vwCl (ShX7 G u ++ ShX8 G v) H) : Cok D G u v H 0 := Cok.of h (fl0 G u v) (ce_obj (ci := 7) (fc := [3, 24, 48, 52, 66, 0, 0, 0, 0]) rfl (by rw [fs0, ro1 G u v, ro22 G u v, ro46 G u v, ro50 G u v, ro64 G u v, nu0_5, nu0_6, nu0_7, nu0_8]))
theorem fs1 (ρ : Nat → Nat) (f : Nat → Int32) (h : Int64) : fvs ρ f h [4, 0, 5, 0, 0, 0, 0, 0] = [.ref (ρ 2), .int (f 1), .ref (ρ 3), .int (f 3), .int (f 4), .int (f 5), .int (f 6), .int (f 7)] := rfl
theorem nu1_1 : rd C0 N0 1 1 = 0 := by decide +kernel
theorem nu1_3 : rd C0 N0 1 3 = 0 := by decide +kernel
theorem nu1_4 : rd C0 N0 1 4 = 0 := by decide +kernel
theorem nu1_5 : rd C0 N0 1 5 = 0 := by decide +kernel
theorem nu1_6 : rd C0 N0 1 6 = 0 := by decide +kernel
theorem nu1_7 : rd C0 N0 1 7 = 0 := by decide +kernel
theorem cok1 {D : va_G} {G : Gc} {u : SX7} {v : SX8} {H : Heap} (h : va_P D vwCl (ShX7 G u ++ ShX8 G v) H) : Cok D G u v H 1 := Cok.of h (fl1 G u v) (ce_obj (ci := 0) (fc := [4, 0, 5, 0, 0, 0, 0, 0]) rfl (by rw [fs1, ro2 G u v, nu1_1, ro3 G u v, nu1_3, nu1_4, nu1_5, nu1_6, nu1_7]))
theorem cok2 {D : va_G} {G : Gc} {u : SX7} {v : SX8} {H : Heap} (h : va_P D vwCl (ShX7 G u ++ ShX8 G v) H) : Cok D G u v H 2 := Cok.of h (fl2 G u v) (ce_int (n := 61) rfl (rz (by omega)))
theorem fs3 (ρ : Nat → Nat) (f : Nat → Int32) (h : Int64) : fvs ρ f h [6, 15] = [.ref (ρ 4), .ref (ρ 13)] := rfl
theorem cok3 {D : va_G} {G : Gc} {u : SX7} {v : SX8} {H : Heap} (h : va_P D vwCl (ShX7 G u ++ ShX8 G v) H) : Cok D G u v H 3 := Cok.of h (fl3 G u v) (ce_obj (ci := 2) (fc := [6, 15]) rfl (by rw [fs3, ro4 G u v, ro13 G u v]))
theorem cok4 {D : va_G} {G : Gc} {u : SX7} {v : SX8} {H : Heap} (h : va_P D vwCl (ShX7 G u ++ ShX8 G v) H) : Cok D G u v H 4 := Cok.of h (fl4 G u v) (ce_out (b := 5) rfl (fun i hi => match i, hi with | 0, _ => ro5 G u v | 1, _ => ro6 G u v | 2, _ => ro7 G u v | 3, _ => ro8 G u v | 4, _ => ro9 G u v | 5, _ => ro10 G u v | 6, _ => ro11 G u v | 7, _ => ro12 G u v | i + 8, z => absurd z (by omega)))
theorem cok5 {D : va_G} {G : Gc} {u : SX7} {v : SX8} {H : Heap} (h : va_P D vwCl (ShX7 G u ++ ShX8 G v) H) : Cok D G u v H 5 := Cok.of h (fl5 G u v) (ce_int (n := 8) rfl (rz (by omega)))
theorem cok6 {D : va_G} {G : Gc} {u : SX7} {v : SX8} {H : Heap} (h : va_P D vwCl (ShX7 G u ++ ShX8 G v) H) : Cok D G u v H 6 := Cok.of h (fl6 G u v) (ce_int (n := 8) rfl (rz (by omega)))
theorem cok7 {D : va_G} {G : Gc} {u : SX7} {v : SX8} {H : Heap} (h : va_P D vwCl (ShX7 G u ++ ShX8 G v) H) : Cok D G u v H 7 := Cok.of h (fl7 G u v) (ce_int (n := 8) rfl (rz (by omega)))
theorem cok8 {D : va_G} {G : Gc} {u : SX7} {v : SX8} {H : Heap} (h : va_P D vwCl (ShX7 G u ++ ShX8 G v) H) : Cok D G u v H 8 := Cok.of h (fl8 G u v) (ce_int (n := 8) rfl (rz (by omega)))
theorem cok9 {D : va_G} {G : Gc} {u : SX7} {v : SX8} {H : Heap} (h : va_P D vwCl (ShX7 G u ++ ShX8 G v) H) : Cok D G u v H 9 := Cok.of h (fl9 G u v) (ce_int (n := 8) rfl (rz (by omega)))
theorem cok10 {D : va_G} {G : Gc} {u : SX7} {v : SX8} {H : Heap} (h : va_P D vwCl (ShX7 G u ++ ShX8 G v) H) : Cok D G u v H 10 := Cok.of h (fl10 G u v) (ce_int (n := 8) rfl (rz (by omega)))
theorem cok11 {D : va_G} {G : Gc} {u : SX7} {v : SX8} {H : Heap} (h : va_P D vwCl (ShX7 G u ++ ShX8 G v) H) : Cok D G u v H 11 := Cok.of h (fl11 G u v) (ce_int (n := 8) rfl (rz (by omega)))
theorem cok12 {D : va_G} {G : Gc} {u : SX7} {v : SX8} {H : Heap} (h : va_P D vwCl (ShX7 G u ++ ShX8 G v) H) : Cok D G u v H 12 := Cok.of h (fl12 G u v) (ce_int (n := 8) rfl (rz (by omega)))
theorem cok13 {D : va_G} {G : Gc} {u : SX7} {v : SX8} {H : Heap} (h : va_P D vwCl (ShX7 G u ++ ShX8 G v) H) : Cok D G u v H 13 := Cok.of h (fl13 G u v) (ce_out (b := 14) rfl (fun i hi => match i, hi with | 0, _ => ro14 G u v | 1, _ => ro15 G u v | 2, _ => ro16 G u v | 3, _ => ro17 G u v | 4, _ => ro18 G u v | 5, _ => ro19 G u v | 6, _ => ro20 G u v | 7, _ => ro21 G u v | i + 8, z => absurd z (by omega)))
theorem cok14 {D : va_G} {G : Gc} {u : SX7} {v : SX8} {H : Heap} (h : va_P D vwCl (ShX7 G u ++ ShX8 G v) H) : Cok D G u v H 14 := Cok.of h (fl14 G u v) (ce_int (n := 8) rfl (rz (by omega)))
theorem cok15 {D : va_G} {G : Gc} {u : SX7} {v : SX8} {H : Heap} (h : va_P D vwCl (ShX7 G u ++ ShX8 G v) H) : Cok D G u v H 15 := Cok.of h (fl15 G u v) (ce_int (n := 8) rfl (rz (by omega)))
theorem cok16 {D : va_G} {G : Gc} {u : SX7} {v : SX8} {H : Heap} (h : va_P D vwCl (ShX7 G u ++ ShX8 G v) H) : Cok D G u v H 16 := Cok.of h (fl16 G u v) (ce_int (n := 8) rfl (rz (by omega)))
theorem cok17 {D : va_G} {G : Gc} {u : SX7} {v : SX8} {H : Heap} (h : va_P D vwCl (ShX7 G u ++ ShX8 G v) H) : Cok D G u v H 17 := Cok.of h (fl17 G u v) (ce_int (n := 8) rfl (rz (by omega)))
theorem cok18 {D : va_G} {G : Gc} {u : SX7} {v : SX8} {H : Heap} (h : va_P D vwCl (ShX7 G u ++ ShX8 G v) H) : Cok D G u v H 18 := Cok.of h (fl18 G u v) (ce_int (n := 8) rfl (rz (by omega)))
theorem cok19 {D : va_G} {G : Gc} {u : SX7} {v : SX8} {H : Heap} (h : va_P D vwCl (ShX7 G u ++ ShX8 G v) H) : Cok D G u v H 19 := Cok.of h (fl19 G u v) (ce_int (n := 8) rfl (rz (by omega)))
theorem cok20 {D : va_G} {G : Gc} {u : SX7} {v : SX8} {H : Heap} (h : va_P D vwCl (ShX7 G u ++ ShX8 G v) H) : Cok D G u v H 20 := Cok.of h (fl20 G u v) (ce_int (n := 8) rfl (rz (by omega)))
theorem cok21 {D : va_G} {G : Gc} {u : SX7} {v : SX8} {H : Heap} (h : va_P D vwCl (ShX7 G u ++ ShX8 G v) H) : Cok D G u v H 21 := Cok.of h (fl21 G u v) (ce_int (n := 8) rfl (rz (by omega)))
theorem fs22 (ρ : Nat → Nat) (f : Nat → Int32) (h : Int64) : fvs ρ f h [25, 0, 44, 45, 46, 47] = [.ref (ρ 23), .int (f 1), .ref (ρ 42), .ref (ρ 43), .ref (ρ 44), .ref (ρ 45)] := rfl
theorem nu22_1 : rd C0 N0 22 1 = 0 := by decide +kernel
theorem cok22 {D : va_G} {G : Gc} {u : SX7} {v : SX8} {H : Heap} (h : va_P D vwCl (ShX7 G u ++ ShX8 G v) H) : Cok D G u v H 22 := Cok.of h (fl22 G u v) (ce_obj (ci := 3) (fc := [25, 0, 44, 45, 46, 47]) rfl (by rw [fs22, ro23 G u v, nu22_1, ro42 G u v, ro43 G u v, ro44 G u v, ro45 G u v]))
theorem fs23 (ρ : Nat → Nat) (f : Nat → Int32) (h : Int64) : fvs ρ f h [26, 35] = [.ref (ρ 24), .ref (ρ 33)] := rfl
theorem cok23 {D : va_G} {G : Gc} {u : SX7} {v : SX8} {H : Heap} (h : va_P D vwCl (ShX7 G u ++ ShX8 G v) H) : Cok D G u v H 23 := Cok.of h (fl23 G u v) (ce_obj (ci := 2) (fc := [26, 35]) rfl (by rw [fs23, ro24 G u v, ro33 G u v]))
theorem cok24 {D : va_G} {G : Gc} {u : SX7} {v : SX8} {H : Heap} (h : va_P D vwCl (ShX7 G u ++ ShX8 G v) H) : Cok D G u v H 24 := Cok.of h (fl24 G u v) (ce_out (b := 25) rfl (fun i hi => match i, hi with | 0, _ => ro25 G u v | 1, _ => ro26 G u v | 2, _ => ro27 G u v | 3, _ => ro28 G u v | 4, _ => ro29 G u v | 5, _ => ro30 G u v | 6, _ => ro31 G u v | 7, _ => ro32 G u v | i + 8, z => absurd z (by omega)))
theorem cok25 {D : va_G} {G : Gc} {u : SX7} {v : SX8} {H : Heap} (h : va_P D vwCl (ShX7 G u ++ ShX8 G v) H) : Cok D G u v H 25 := Cok.of h (fl25 G u v) (ce_int (n := 8) rfl (rz (by omega)))
theorem cok26 {D : va_G} {G : Gc} {u : SX7} {v : SX8} {H : Heap} (h : va_P D vwCl (ShX7 G u ++ ShX8 G v) H) : Cok D G u v H 26 := Cok.of h (fl26 G u v) (ce_int (n := 8) rfl (rz (by omega)))
theorem cok27 {D : va_G} {G : Gc} {u : SX7} {v : SX8} {H : Heap} (h : va_P D vwCl (ShX7 G u ++ ShX8 G v) H) : Cok D G u v H 27 := Cok.of h (fl27 G u v) (ce_int (n := 8) rfl (rz (by omega)))
theorem cok28 {D : va_G} {G : Gc} {u : SX7} {v : SX8} {H : Heap} (h : va_P D vwCl (ShX7 G u ++ ShX8 G v) H) : Cok D G u v H 28 := Cok.of h (fl28 G u v) (ce_int (n := 8) rfl (rz (by omega)))
theorem cok29 {D : va_G} {G : Gc} {u : SX7} {v : SX8} {H : Heap} (h : va_P D vwCl (ShX7 G u ++ ShX8 G v) H) : Cok D G u v H 29 := Cok.of h (fl29 G u v) (ce_int (n := 8) rfl (rz (by omega)))
theorem cok30 {D : va_G} {G : Gc} {u : SX7} {v : SX8} {H : Heap} (h : va_P D vwCl (ShX7 G u ++ ShX8 G v) H) : Cok D G u v H 30 := Cok.of h (fl30 G u v) (ce_int (n := 8) rfl (rz (by omega)))
theorem cok31 {D : va_G} {G : Gc} {u : SX7} {v : SX8} {H : Heap} (h : va_P D vwCl (ShX7 G u ++ ShX8 G v) H) : Cok D G u v H 31 := Cok.of h (fl31 G u v) (ce_int (n := 8) rfl (rz (by omega)))
theorem cok32 {D : va_G} {G : Gc} {u : SX7} {v : SX8} {H : Heap} (h : va_P D vwCl (ShX7 G u ++ ShX8 G v) H) : Cok D G u v H 32 := Cok.of h (fl32 G u v) (ce_int (n := 8) rfl (rz (by omega)))
theorem cok33 {D : va_G} {G : Gc} {u : SX7} {v : SX8} {H : Heap} (h : va_P D vwCl (ShX7 G u ++ ShX8 G v) H) : Cok D G u v H 33 := Cok.of h (fl33 G u v) (ce_out (b := 34) rfl (fun i hi => match i, hi with | 0, _ => ro34 G u v | 1, _ => ro35 G u v | 2, _ => ro36 G u v | 3, _ => ro37 G u v | 4, _ => ro38 G u v | 5, _ => ro39 G u v | 6, _ => ro40 G u v | 7, _ => ro41 G u v | i + 8, z => absurd z (by omega)))
theorem cok34 {D : va_G} {G : Gc} {u : SX7} {v : SX8} {H : Heap} (h : va_P D vwCl (ShX7 G u ++ ShX8 G v) H) : Cok D G u v H 34 := Cok.of h (fl34 G u v) (ce_int (n := 8) rfl (rz (by omega)))
theorem cok35 {D : va_G} {G : Gc} {u : SX7} {v : SX8} {H : Heap} (h : va_P D vwCl (ShX7 G u ++ ShX8 G v) H) : Cok D G u v H 35 := Cok.of h (fl35 G u v) (ce_int (n := 8) rfl (rz (by omega)))
theorem cok36 {D : va_G} {G : Gc} {u : SX7} {v : SX8} {H : Heap} (h : va_P D vwCl (ShX7 G u ++ ShX8 G v) H) : Cok D G u v H 36 := Cok.of h (fl36 G u v) (ce_int (n := 8) rfl (rz (by omega)))
theorem cok37 {D : va_G} {G : Gc} {u : SX7} {v : SX8} {H : Heap} (h : va_P D vwCl (ShX7 G u ++ ShX8 G v) H) : Cok D G u v H 37 := Cok.of h (fl37 G u v) (ce_int (n := 8) rfl (rz (by omega)))
theorem cok38 {D : va_G} {G : Gc} {u : SX7} {v : SX8} {H : Heap} (h : va_P D vwCl (ShX7 G u ++ ShX8 G v) H) : Cok D G u v H 38 := Cok.of h (fl38 G u v) (ce_int (n := 8) rfl (rz (by omega)))
theorem cok39 {D : va_G} {G : Gc} {u : SX7} {v : SX8} {H : Heap} (h : va_P D vwCl (ShX7 G u ++ ShX8 G v) H) : Cok D G u v H 39 := Cok.of h (fl39 G u v) (ce_int (n := 8) rfl (rz (by omega)))
theorem cok40 {D : va_G} {G : Gc} {u : SX7} {v : SX8} {H : Heap} (h : va_P D vwCl (ShX7 G u ++ ShX8 G v) H) : Cok D G u v H 40 := Cok.of h (fl40 G u v) (ce_int (n := 8) rfl (rz (by omega)))
theorem cok41 {D : va_G} {G : Gc} {u : SX7} {v : SX8} {H : Heap} (h : va_P D vwCl (ShX7 G u ++ ShX8 G v) H) : Cok D G u v H 41 := Cok.of h (fl41 G u v) (ce_int (n := 8) rfl (rz (by omega)))
theorem cok42 {D : va_G} {G : Gc} {u : SX7} {v : SX8} {H : Heap} (h : va_P D vwCl (ShX7 G u ++ ShX8 G v) H) : Cok D G u v H 42 := Cok.of h (fl42 G u v) (ce_boo (n := 8) rfl (rz (by omega)))
theorem cok43 {D : va_G} {G : Gc} {u : SX7} {v : SX8} {H : Heap} (h : va_P D vwCl (ShX7 G u ++ ShX8 G v) H) : Cok D G u v H 43 := Cok.of h (fl43 G u v) (ce_int (n := 8) rfl (rz (by omega)))
theorem cok44 {D : va_G} {G : Gc} {u : SX7} {v : SX8} {H : Heap} (h : va_P D vwCl (ShX7 G u ++ ShX8 G v) H) : Cok D G u v H 44 := Cok.of h (fl44 G u v) (ce_int (n := 8) rfl (rz (by omega)))
theorem cok45 {D : va_G} {G : Gc} {u : SX7} {v : SX8} {H : Heap} (h : va_P D vwCl (ShX7 G u ++ ShX8 G v) H) : Cok D G u v H 45 := Cok.of h (fl45 G u v) (ce_boo (n := 8) rfl (rz (by omega)))
theorem fs46 (ρ : Nat → Nat) (f : Nat → Int32) (h : Int64) : fvs ρ f h [49, 50, 51, 0, 0, 0] = [.ref (ρ 47), .ref (ρ 48), .ref (ρ 49), .int (f 3), .int (f 4), .int (f 5)] := rfl
theorem nu46_3 : rd C0 N0 46 3 = 0 := by decide +kernel
theorem nu46_4 : rd C0 N0 46 4 = 2 := by decide +kernel
theorem nu46_5 : rd C0 N0 46 5 = 3 := by decide +kernel
theorem cok46 {D : va_G} {G : Gc} {u : SX7} {v : SX8} {H : Heap} (h : va_P D vwCl (ShX7 G u ++ ShX8 G v) H) : Cok D G u v H 46 := Cok.of h (fl46 G u v) (ce_obj (ci := 1) (fc := [49, 50, 51, 0, 0, 0]) rfl (by rw [fs46, ro47 G u v, ro48 G u v, ro49 G u v, nu46_3, nu46_4, nu46_5]))
theorem cok47 {D : va_G} {G : Gc} {u : SX7} {v : SX8} {H : Heap} (h : va_P D vwCl (ShX7 G u ++ ShX8 G v) H) : Cok D G u v H 47 := Cok.of h (fl47 G u v) (ce_int (n := 8) rfl (rz (by omega)))
theorem cok48 {D : va_G} {G : Gc} {u : SX7} {v : SX8} {H : Heap} (h : va_P D vwCl (ShX7 G u ++ ShX8 G v) H) : Cok D G u v H 48 := Cok.of h (fl48 G u v) (ce_int (n := 8) rfl (rz (by omega)))
theorem cok49 {D : va_G} {G : Gc} {u : SX7} {v : SX8} {H : Heap} (h : va_P D vwCl (ShX7 G u ++ ShX8 G v) H) : Cok D G u v H 49 := Cok.of h (fl49 G u v) (ce_int (n := 8) rfl (rz (by omega)))
theorem fs50 (ρ : Nat → Nat) (f : Nat → Int32) (h : Int64) : fvs ρ f h [53, 0] = [.ref (ρ 51), .int (f 1)] := rfl
theorem nu50_1 : rd C0 N0 50 1 = 0 := by decide +kernel
theorem cok50 {D : va_G} {G : Gc} {u : SX7} {v : SX8} {H : Heap} (h : va_P D vwCl (ShX7 G u ++ ShX8 G v) H) : Cok D G u v H 50 := Cok.of h (fl50 G u v) (ce_obj (ci := 6) (fc := [53, 0]) rfl (by rw [fs50, ro51 G u v, nu50_1]))
theorem tk0 : Int32.toNatClampNeg 0 = 0 := by decide +kernel
theorem tk1 : Int32.toNatClampNeg 1 = 1 := by decide +kernel
theorem tk2 : Int32.toNatClampNeg 2 = 2 := by decide +kernel
theorem tk3 : Int32.toNatClampNeg 3 = 3 := by decide +kernel
theorem tk4 : Int32.toNatClampNeg 4 = 4 := by decide +kernel
theorem tk5 : Int32.toNatClampNeg 5 = 5 := by decide +kernel
theorem tc0 : 52 + 2 * (rd C0 N0 51 0).toNatClampNeg = 52 := by decide +kernel
theorem tc1 : 52 + 2 * (rd C0 N0 51 1).toNatClampNeg = 54 := by decide +kernel
theorem tc2 : 52 + 2 * (rd C0 N0 51 2).toNatClampNeg = 56 := by decide +kernel
theorem tc3 : 52 + 2 * (rd C0 N0 51 3).toNatClampNeg = 58 := by decide +kernel
theorem tc4 : 52 + 2 * (rd C0 N0 51 4).toNatClampNeg = 60 := by decide +kernel
theorem tc5 : 52 + 2 * (rd C0 N0 51 5).toNatClampNeg = 62 := by decide +kernel
theorem up6 {a0 a1 a2 a3 a4 a5 : Nat} {g : Nat → Option Nat} (h0 : g 0 = some a0) (h1 : g 1 = some a1) (h2 : g 2 = some a2) (h3 : g 3 = some a3) (h4 : g 4 = some a4) (h5 : g 5 = some a5) : ∀ i, i < 6 → va_up (va_up (va_up (va_up (va_up (va_up (fun _ => none) (Int32.toNatClampNeg 0) (some a0)) (Int32.toNatClampNeg 1) (some a1)) (Int32.toNatClampNeg 2) (some a2)) (Int32.toNatClampNeg 3) (some a3)) (Int32.toNatClampNeg 4) (some a4)) (Int32.toNatClampNeg 5) (some a5) i = g i := fun i hi => by
  rw [tk0, tk1, tk2, tk3, tk4, tk5]
  match i, hi with
  | 0, _ => rw [h0]; simp [va_up]
  | 1, _ => rw [h1]; simp [va_up]
  | 2, _ => rw [h2]; simp [va_up]
  | 3, _ => rw [h3]; simp [va_up]
  | 4, _ => rw [h4]; simp [va_up]
  | 5, _ => rw [h5]; simp [va_up]
  | i + 6, z => exact absurd z (by omega)
theorem ce_str {G : Gc} {ρ : Nat → Nat} {f : Nat → Int32} {h : Int64} {k : Nat} (hs : shp k = .inr (2, 6)) : ceE G ρ f h k = .inl (G.2.2.1, 6, .inr (.inr (.inr (.inr (fun j => some (ρ (52 + 2 * (f j).toNatClampNeg))))))) := by
  unfold ceE; rw [hs]; rfl
theorem cok51 {D : va_G} {G : Gc} {u : SX7} {v : SX8} {H : Heap} (h : va_P D vwCl (ShX7 G u ++ ShX8 G v) H) : Cok D G u v H 51 := by
  rw [fla_eq] at h
  have hh : H[u.2.2.2.2.1.2.1]? = some (vp_cell G.2.2.1 _) := h 51 _ (fl51 G u v)
  have e := arr6 (c := G.2.2.1) (up6 (g := fun j => some (rho G u v (52 + 2 * (rd C0 N0 51 j).toNatClampNeg))) ((congrArg (fun z => some (rho G u v z)) tc0).trans (congrArg some (ro52 G u v))) ((congrArg (fun z => some (rho G u v z)) tc1).trans (congrArg some (ro54 G u v))) ((congrArg (fun z => some (rho G u v z)) tc2).trans (congrArg some (ro56 G u v))) ((congrArg (fun z => some (rho G u v z)) tc3).trans (congrArg some (ro58 G u v))) ((congrArg (fun z => some (rho G u v z)) tc4).trans (congrArg some (ro60 G u v))) ((congrArg (fun z => some (rho G u v z)) tc5).trans (congrArg some (ro62 G u v))))
  unfold Cok
  rw [ro51, ce_str rfl]
  exact hh.trans (congrArg some e)
theorem fs52 (ρ : Nat → Nat) (f : Nat → Int32) (h : Int64) : fvs ρ f h [55, 0, 0, 0, 0, 0, 0] = [.ref (ρ 53), .int (f 1), .int (f 2), .int (f 3), .int (f 4), .int (f 5), .int (f 6)] := rfl
theorem nu52_1 : rd C0 N0 52 1 = 0 := by decide +kernel
theorem nu52_2 : rd C0 N0 52 2 = 1 := by decide +kernel
theorem nu52_3 : rd C0 N0 52 3 = 0 := by decide +kernel
theorem nu52_4 : rd C0 N0 52 4 = 0 := by decide +kernel
theorem nu52_5 : rd C0 N0 52 5 = 0 := by decide +kernel
theorem nu52_6 : rd C0 N0 52 6 = 0 := by decide +kernel
theorem cok52 {D : va_G} {G : Gc} {u : SX7} {v : SX8} {H : Heap} (h : va_P D vwCl (ShX7 G u ++ ShX8 G v) H) : Cok D G u v H 52 := Cok.of h (fl52 G u v) (ce_obj (ci := 5) (fc := [55, 0, 0, 0, 0, 0, 0]) rfl (by rw [fs52, ro53 G u v, nu52_1, nu52_2, nu52_3, nu52_4, nu52_5, nu52_6]))
theorem cok53 {D : va_G} {G : Gc} {u : SX7} {v : SX8} {H : Heap} (h : va_P D vwCl (ShX7 G u ++ ShX8 G v) H) : Cok D G u v H 53 := Cok.of h (fl53 G u v) (ce_int (n := 4) rfl (rz (by omega)))
theorem fs54 (ρ : Nat → Nat) (f : Nat → Int32) (h : Int64) : fvs ρ f h [57, 0, 0, 0, 0, 0, 0] = [.ref (ρ 55), .int (f 1), .int (f 2), .int (f 3), .int (f 4), .int (f 5), .int (f 6)] := rfl
theorem nu54_1 : rd C0 N0 54 1 = 0 := by decide +kernel
theorem nu54_2 : rd C0 N0 54 2 = 1 := by decide +kernel
theorem nu54_3 : rd C0 N0 54 3 = 0 := by decide +kernel
theorem nu54_4 : rd C0 N0 54 4 = 0 := by decide +kernel
theorem nu54_5 : rd C0 N0 54 5 = 0 := by decide +kernel
theorem nu54_6 : rd C0 N0 54 6 = 0 := by decide +kernel
theorem cok54 {D : va_G} {G : Gc} {u : SX7} {v : SX8} {H : Heap} (h : va_P D vwCl (ShX7 G u ++ ShX8 G v) H) : Cok D G u v H 54 := Cok.of h (fl54 G u v) (ce_obj (ci := 5) (fc := [57, 0, 0, 0, 0, 0, 0]) rfl (by rw [fs54, ro55 G u v, nu54_1, nu54_2, nu54_3, nu54_4, nu54_5, nu54_6]))
theorem cok55 {D : va_G} {G : Gc} {u : SX7} {v : SX8} {H : Heap} (h : va_P D vwCl (ShX7 G u ++ ShX8 G v) H) : Cok D G u v H 55 := Cok.of h (fl55 G u v) (ce_int (n := 4) rfl (rz (by omega)))
theorem fs56 (ρ : Nat → Nat) (f : Nat → Int32) (h : Int64) : fvs ρ f h [59, 0, 0, 0, 0, 0, 0] = [.ref (ρ 57), .int (f 1), .int (f 2), .int (f 3), .int (f 4), .int (f 5), .int (f 6)] := rfl
theorem nu56_1 : rd C0 N0 56 1 = 0 := by decide +kernel
theorem nu56_2 : rd C0 N0 56 2 = 1 := by decide +kernel
theorem nu56_3 : rd C0 N0 56 3 = 0 := by decide +kernel
theorem nu56_4 : rd C0 N0 56 4 = 0 := by decide +kernel
theorem nu56_5 : rd C0 N0 56 5 = 0 := by decide +kernel
theorem nu56_6 : rd C0 N0 56 6 = 0 := by decide +kernel
theorem cok56 {D : va_G} {G : Gc} {u : SX7} {v : SX8} {H : Heap} (h : va_P D vwCl (ShX7 G u ++ ShX8 G v) H) : Cok D G u v H 56 := Cok.of h (fl56 G u v) (ce_obj (ci := 5) (fc := [59, 0, 0, 0, 0, 0, 0]) rfl (by rw [fs56, ro57 G u v, nu56_1, nu56_2, nu56_3, nu56_4, nu56_5, nu56_6]))
theorem cok57 {D : va_G} {G : Gc} {u : SX7} {v : SX8} {H : Heap} (h : va_P D vwCl (ShX7 G u ++ ShX8 G v) H) : Cok D G u v H 57 := Cok.of h (fl57 G u v) (ce_int (n := 4) rfl (rz (by omega)))
theorem fs58 (ρ : Nat → Nat) (f : Nat → Int32) (h : Int64) : fvs ρ f h [61, 0, 0, 0, 0, 0, 0] = [.ref (ρ 59), .int (f 1), .int (f 2), .int (f 3), .int (f 4), .int (f 5), .int (f 6)] := rfl
theorem nu58_1 : rd C0 N0 58 1 = 0 := by decide +kernel
theorem nu58_2 : rd C0 N0 58 2 = 1 := by decide +kernel
theorem nu58_3 : rd C0 N0 58 3 = 0 := by decide +kernel
theorem nu58_4 : rd C0 N0 58 4 = 0 := by decide +kernel
theorem nu58_5 : rd C0 N0 58 5 = 0 := by decide +kernel
theorem nu58_6 : rd C0 N0 58 6 = 0 := by decide +kernel
theorem cok58 {D : va_G} {G : Gc} {u : SX7} {v : SX8} {H : Heap} (h : va_P D vwCl (ShX7 G u ++ ShX8 G v) H) : Cok D G u v H 58 := Cok.of h (fl58 G u v) (ce_obj (ci := 5) (fc := [61, 0, 0, 0, 0, 0, 0]) rfl (by rw [fs58, ro59 G u v, nu58_1, nu58_2, nu58_3, nu58_4, nu58_5, nu58_6]))
theorem cok59 {D : va_G} {G : Gc} {u : SX7} {v : SX8} {H : Heap} (h : va_P D vwCl (ShX7 G u ++ ShX8 G v) H) : Cok D G u v H 59 := Cok.of h (fl59 G u v) (ce_int (n := 4) rfl (rz (by omega)))
theorem fs60 (ρ : Nat → Nat) (f : Nat → Int32) (h : Int64) : fvs ρ f h [63, 0, 0, 0, 0, 0, 0] = [.ref (ρ 61), .int (f 1), .int (f 2), .int (f 3), .int (f 4), .int (f 5), .int (f 6)] := rfl
theorem nu60_1 : rd C0 N0 60 1 = 0 := by decide +kernel
theorem nu60_2 : rd C0 N0 60 2 = 1 := by decide +kernel
theorem nu60_3 : rd C0 N0 60 3 = 0 := by decide +kernel
theorem nu60_4 : rd C0 N0 60 4 = 0 := by decide +kernel
theorem nu60_5 : rd C0 N0 60 5 = 0 := by decide +kernel
theorem nu60_6 : rd C0 N0 60 6 = 0 := by decide +kernel
theorem cok60 {D : va_G} {G : Gc} {u : SX7} {v : SX8} {H : Heap} (h : va_P D vwCl (ShX7 G u ++ ShX8 G v) H) : Cok D G u v H 60 := Cok.of h (fl60 G u v) (ce_obj (ci := 5) (fc := [63, 0, 0, 0, 0, 0, 0]) rfl (by rw [fs60, ro61 G u v, nu60_1, nu60_2, nu60_3, nu60_4, nu60_5, nu60_6]))
theorem cok61 {D : va_G} {G : Gc} {u : SX7} {v : SX8} {H : Heap} (h : va_P D vwCl (ShX7 G u ++ ShX8 G v) H) : Cok D G u v H 61 := Cok.of h (fl61 G u v) (ce_int (n := 4) rfl (rz (by omega)))
theorem fs62 (ρ : Nat → Nat) (f : Nat → Int32) (h : Int64) : fvs ρ f h [65, 0, 0, 0, 0, 0, 0] = [.ref (ρ 63), .int (f 1), .int (f 2), .int (f 3), .int (f 4), .int (f 5), .int (f 6)] := rfl
theorem nu62_1 : rd C0 N0 62 1 = 0 := by decide +kernel
theorem nu62_2 : rd C0 N0 62 2 = 1 := by decide +kernel
theorem nu62_3 : rd C0 N0 62 3 = 0 := by decide +kernel
theorem nu62_4 : rd C0 N0 62 4 = 0 := by decide +kernel
theorem nu62_5 : rd C0 N0 62 5 = 0 := by decide +kernel
theorem nu62_6 : rd C0 N0 62 6 = 0 := by decide +kernel
theorem cok62 {D : va_G} {G : Gc} {u : SX7} {v : SX8} {H : Heap} (h : va_P D vwCl (ShX7 G u ++ ShX8 G v) H) : Cok D G u v H 62 := Cok.of h (fl62 G u v) (ce_obj (ci := 5) (fc := [65, 0, 0, 0, 0, 0, 0]) rfl (by rw [fs62, ro63 G u v, nu62_1, nu62_2, nu62_3, nu62_4, nu62_5, nu62_6]))
theorem cok63 {D : va_G} {G : Gc} {u : SX7} {v : SX8} {H : Heap} (h : va_P D vwCl (ShX7 G u ++ ShX8 G v) H) : Cok D G u v H 63 := Cok.of h (fl63 G u v) (ce_int (n := 4) rfl (rz (by omega)))
theorem fs64 (ρ : Nat → Nat) (f : Nat → Int32) (h : Int64) : fvs ρ f h [67, 0] = [.ref (ρ 65), .int (f 1)] := rfl
theorem nu64_1 : rd C0 N0 64 1 = 0 := by decide +kernel
theorem cok64 {D : va_G} {G : Gc} {u : SX7} {v : SX8} {H : Heap} (h : va_P D vwCl (ShX7 G u ++ ShX8 G v) H) : Cok D G u v H 64 := Cok.of h (fl64 G u v) (ce_obj (ci := 4) (fc := [67, 0]) rfl (by rw [fs64, ro65 G u v, nu64_1]))
theorem cok65 {D : va_G} {G : Gc} {u : SX7} {v : SX8} {H : Heap} (h : va_P D vwCl (ShX7 G u ++ ShX8 G v) H) : Cok D G u v H 65 := Cok.of h (fl65 G u v) (ce_int (n := 6) rfl (rz (by omega)))
theorem fs66 (ρ : Nat → Nat) (f : Nat → Int32) (h : Int64) : fvs ρ f h [0, 69, 0, 0, 70, 71, 72, 73, 74, 75, 76, 77, 78, 0, 0, 0, 0, 0, 0, 0, 0, 79, 80, 81, 82, 83, 84, 85, 0, 86, 0, 0, 87, 88, 89, 90, 0, 0, 91, 92, 93, 1] = [.int (f 0), .ref (ρ 67), .int (f 2), .int (f 3), .ref (ρ 68), .ref (ρ 69), .ref (ρ 70), .ref (ρ 71), .ref (ρ 72), .ref (ρ 73), .ref (ρ 74), .ref (ρ 75), .ref (ρ 76), .int (f 13), .int (f 14), .int (f 15), .int (f 16), .int (f 17), .int (f 18), .int (f 19), .int (f 20), .ref (ρ 77), .ref (ρ 78), .ref (ρ 79), .ref (ρ 80), .ref (ρ 81), .ref (ρ 82), .ref (ρ 83), .int (f 28), .ref (ρ 84), .int (f 30), .int (f 31), .ref (ρ 85), .ref (ρ 86), .ref (ρ 87), .ref (ρ 88), .int (f 36), .int (f 37), .ref (ρ 89), .ref (ρ 90), .ref (ρ 91), .long h] := rfl
theorem nu66_0 : rd C0 N0 66 0 = 0 := by decide +kernel
theorem nu66_2 : rd C0 N0 66 2 = 0 := by decide +kernel
theorem nu66_3 : rd C0 N0 66 3 = 0 := by decide +kernel
theorem nu66_13 : rd C0 N0 66 13 = 0 := by decide +kernel
theorem nu66_14 : rd C0 N0 66 14 = (-1) := by decide +kernel
theorem nu66_15 : rd C0 N0 66 15 = 0 := by decide +kernel
theorem nu66_16 : rd C0 N0 66 16 = 2 := by decide +kernel
theorem nu66_17 : rd C0 N0 66 17 = 3 := by decide +kernel
theorem nu66_18 : rd C0 N0 66 18 = 3 := by decide +kernel
theorem nu66_19 : rd C0 N0 66 19 = 2 := by decide +kernel
theorem nu66_20 : rd C0 N0 66 20 = 0 := by decide +kernel
theorem nu66_28 : rd C0 N0 66 28 = 0 := by decide +kernel
theorem nu66_30 : rd C0 N0 66 30 = 0 := by decide +kernel
theorem nu66_31 : rd C0 N0 66 31 = 0 := by decide +kernel
theorem nu66_36 : rd C0 N0 66 36 = 0 := by decide +kernel
theorem nu66_37 : rd C0 N0 66 37 = 0 := by decide +kernel
theorem cok66 {D : va_G} {G : Gc} {u : SX7} {v : SX8} {H : Heap} (h : va_P D vwCl (ShX7 G u ++ ShX8 G v) H) : Cok D G u v H 66 := Cok.of h (fl66 G u v) (ce_obj (ci := 8) (fc := [0, 69, 0, 0, 70, 71, 72, 73, 74, 75, 76, 77, 78, 0, 0, 0, 0, 0, 0, 0, 0, 79, 80, 81, 82, 83, 84, 85, 0, 86, 0, 0, 87, 88, 89, 90, 0, 0, 91, 92, 93, 1]) rfl (by rw [fs66, nu66_0, ro67 G u v, nu66_2, nu66_3, ro68 G u v, ro69 G u v, ro70 G u v, ro71 G u v, ro72 G u v, ro73 G u v, ro74 G u v, ro75 G u v, ro76 G u v, nu66_13, nu66_14, nu66_15, nu66_16, nu66_17, nu66_18, nu66_19, nu66_20, ro77 G u v, ro78 G u v, ro79 G u v, ro80 G u v, ro81 G u v, ro82 G u v, ro83 G u v, nu66_28, ro84 G u v, nu66_30, nu66_31, ro85 G u v, ro86 G u v, ro87 G u v, ro88 G u v, nu66_36, nu66_37, ro89 G u v, ro90 G u v, ro91 G u v] <;> rfl))
theorem cok67 {D : va_G} {G : Gc} {u : SX7} {v : SX8} {H : Heap} (h : va_P D vwCl (ShX7 G u ++ ShX8 G v) H) : Cok D G u v H 67 := Cok.of h (fl67 G u v) (ce_int (n := 61) rfl (rz (by omega)))
theorem cok68 {D : va_G} {G : Gc} {u : SX7} {v : SX8} {H : Heap} (h : va_P D vwCl (ShX7 G u ++ ShX8 G v) H) : Cok D G u v H 68 := Cok.of h (fl68 G u v) (ce_int (n := 12) rfl (rz (by omega)))
theorem cok69 {D : va_G} {G : Gc} {u : SX7} {v : SX8} {H : Heap} (h : va_P D vwCl (ShX7 G u ++ ShX8 G v) H) : Cok D G u v H 69 := Cok.of h (fl69 G u v) (ce_int (n := 12) rfl (rz (by omega)))
theorem cok70 {D : va_G} {G : Gc} {u : SX7} {v : SX8} {H : Heap} (h : va_P D vwCl (ShX7 G u ++ ShX8 G v) H) : Cok D G u v H 70 := Cok.of h (fl70 G u v) (ce_int (n := 12) rfl (rz (by omega)))
theorem cok71 {D : va_G} {G : Gc} {u : SX7} {v : SX8} {H : Heap} (h : va_P D vwCl (ShX7 G u ++ ShX8 G v) H) : Cok D G u v H 71 := Cok.of h (fl71 G u v) (ce_int (n := 12) rfl (rz (by omega)))
theorem cok72 {D : va_G} {G : Gc} {u : SX7} {v : SX8} {H : Heap} (h : va_P D vwCl (ShX7 G u ++ ShX8 G v) H) : Cok D G u v H 72 := Cok.of h (fl72 G u v) (ce_boo (n := 8) rfl (rz (by omega)))
theorem cok73 {D : va_G} {G : Gc} {u : SX7} {v : SX8} {H : Heap} (h : va_P D vwCl (ShX7 G u ++ ShX8 G v) H) : Cok D G u v H 73 := Cok.of h (fl73 G u v) (ce_int (n := 8) rfl (rz (by omega)))
theorem cok74 {D : va_G} {G : Gc} {u : SX7} {v : SX8} {H : Heap} (h : va_P D vwCl (ShX7 G u ++ ShX8 G v) H) : Cok D G u v H 74 := Cok.of h (fl74 G u v) (ce_int (n := 8) rfl (rz (by omega)))
theorem cok75 {D : va_G} {G : Gc} {u : SX7} {v : SX8} {H : Heap} (h : va_P D vwCl (ShX7 G u ++ ShX8 G v) H) : Cok D G u v H 75 := Cok.of h (fl75 G u v) (ce_int (n := 8) rfl (rz (by omega)))
theorem cok76 {D : va_G} {G : Gc} {u : SX7} {v : SX8} {H : Heap} (h : va_P D vwCl (ShX7 G u ++ ShX8 G v) H) : Cok D G u v H 76 := Cok.of h (fl76 G u v) (ce_int (n := 8) rfl (rz (by omega)))
theorem cok77 {D : va_G} {G : Gc} {u : SX7} {v : SX8} {H : Heap} (h : va_P D vwCl (ShX7 G u ++ ShX8 G v) H) : Cok D G u v H 77 := Cok.of h (fl77 G u v) (ce_int (n := 6) rfl (rz (by omega)))
theorem cok78 {D : va_G} {G : Gc} {u : SX7} {v : SX8} {H : Heap} (h : va_P D vwCl (ShX7 G u ++ ShX8 G v) H) : Cok D G u v H 78 := Cok.of h (fl78 G u v) (ce_int (n := 6) rfl (rz (by omega)))
theorem cok79 {D : va_G} {G : Gc} {u : SX7} {v : SX8} {H : Heap} (h : va_P D vwCl (ShX7 G u ++ ShX8 G v) H) : Cok D G u v H 79 := Cok.of h (fl79 G u v) (ce_int (n := 6) rfl (rz (by omega)))
theorem cok80 {D : va_G} {G : Gc} {u : SX7} {v : SX8} {H : Heap} (h : va_P D vwCl (ShX7 G u ++ ShX8 G v) H) : Cok D G u v H 80 := Cok.of h (fl80 G u v) (ce_int (n := 6) rfl (rz (by omega)))
theorem cok81 {D : va_G} {G : Gc} {u : SX7} {v : SX8} {H : Heap} (h : va_P D vwCl (ShX7 G u ++ ShX8 G v) H) : Cok D G u v H 81 := Cok.of h (fl81 G u v) (ce_int (n := 24) rfl (rz (by omega)))
theorem cok82 {D : va_G} {G : Gc} {u : SX7} {v : SX8} {H : Heap} (h : va_P D vwCl (ShX7 G u ++ ShX8 G v) H) : Cok D G u v H 82 := Cok.of h (fl82 G u v) (ce_int (n := 6) rfl (rz (by omega)))
theorem cok83 {D : va_G} {G : Gc} {u : SX7} {v : SX8} {H : Heap} (h : va_P D vwCl (ShX7 G u ++ ShX8 G v) H) : Cok D G u v H 83 := Cok.of h (fl83 G u v) (ce_int (n := 6) rfl (rz (by omega)))
theorem cok84 {D : va_G} {G : Gc} {u : SX7} {v : SX8} {H : Heap} (h : va_P D vwCl (ShX7 G u ++ ShX8 G v) H) : Cok D G u v H 84 := Cok.of h (fl84 G u v) (ce_int (n := 6) rfl (rz (by omega)))
theorem cok85 {D : va_G} {G : Gc} {u : SX7} {v : SX8} {H : Heap} (h : va_P D vwCl (ShX7 G u ++ ShX8 G v) H) : Cok D G u v H 85 := Cok.of h (fl85 G u v) (ce_int (n := 12) rfl (rz (by omega)))
theorem cok86 {D : va_G} {G : Gc} {u : SX7} {v : SX8} {H : Heap} (h : va_P D vwCl (ShX7 G u ++ ShX8 G v) H) : Cok D G u v H 86 := Cok.of h (fl86 G u v) (ce_int (n := 12) rfl (rz (by omega)))
theorem cok87 {D : va_G} {G : Gc} {u : SX7} {v : SX8} {H : Heap} (h : va_P D vwCl (ShX7 G u ++ ShX8 G v) H) : Cok D G u v H 87 := Cok.of h (fl87 G u v) (ce_int (n := 12) rfl (rz (by omega)))
theorem cok88 {D : va_G} {G : Gc} {u : SX7} {v : SX8} {H : Heap} (h : va_P D vwCl (ShX7 G u ++ ShX8 G v) H) : Cok D G u v H 88 := Cok.of h (fl88 G u v) (ce_int (n := 12) rfl (rz (by omega)))
theorem cok89 {D : va_G} {G : Gc} {u : SX7} {v : SX8} {H : Heap} (h : va_P D vwCl (ShX7 G u ++ ShX8 G v) H) : Cok D G u v H 89 := Cok.of h (fl89 G u v) (ce_int (n := 8) rfl (rz (by omega)))
theorem cok90 {D : va_G} {G : Gc} {u : SX7} {v : SX8} {H : Heap} (h : va_P D vwCl (ShX7 G u ++ ShX8 G v) H) : Cok D G u v H 90 := Cok.of h (fl90 G u v) (ce_int (n := 8) rfl (rz (by omega)))
theorem cok91 {D : va_G} {G : Gc} {u : SX7} {v : SX8} {H : Heap} (h : va_P D vwCl (ShX7 G u ++ ShX8 G v) H) : Cok D G u v H 91 := Cok.of h (fl91 G u v) (ce_boo (n := 8) rfl (rz (by omega)))
theorem wld0 {D : va_G} {G : Gc} {u : SX7} {v : SX8} {H : Heap} (h : va_P D vwCl (ShX7 G u ++ ShX8 G v) H) : va_P D vwCl (wld G (rho G u v) C0 N0) H := by
  have a0 : ∀ k, k < 0 → Cok D G u v H k := fun k hk => absurd hk (Nat.not_lt_zero k)
  have a1 := lt_step a0 (cok0 h)
  have a2 := lt_step a1 (cok1 h)
  have a3 := lt_step a2 (cok2 h)
  have a4 := lt_step a3 (cok3 h)
  have a5 := lt_step a4 (cok4 h)
  have a6 := lt_step a5 (cok5 h)
  have a7 := lt_step a6 (cok6 h)
  have a8 := lt_step a7 (cok7 h)
  have a9 := lt_step a8 (cok8 h)
  have a10 := lt_step a9 (cok9 h)
  have a11 := lt_step a10 (cok10 h)
  have a12 := lt_step a11 (cok11 h)
  have a13 := lt_step a12 (cok12 h)
  have a14 := lt_step a13 (cok13 h)
  have a15 := lt_step a14 (cok14 h)
  have a16 := lt_step a15 (cok15 h)
  have a17 := lt_step a16 (cok16 h)
  have a18 := lt_step a17 (cok17 h)
  have a19 := lt_step a18 (cok18 h)
  have a20 := lt_step a19 (cok19 h)
  have a21 := lt_step a20 (cok20 h)
  have a22 := lt_step a21 (cok21 h)
  have a23 := lt_step a22 (cok22 h)
  have a24 := lt_step a23 (cok23 h)
  have a25 := lt_step a24 (cok24 h)
  have a26 := lt_step a25 (cok25 h)
  have a27 := lt_step a26 (cok26 h)
  have a28 := lt_step a27 (cok27 h)
  have a29 := lt_step a28 (cok28 h)
  have a30 := lt_step a29 (cok29 h)
  have a31 := lt_step a30 (cok30 h)
  have a32 := lt_step a31 (cok31 h)
  have a33 := lt_step a32 (cok32 h)
  have a34 := lt_step a33 (cok33 h)
  have a35 := lt_step a34 (cok34 h)
  have a36 := lt_step a35 (cok35 h)
  have a37 := lt_step a36 (cok36 h)
  have a38 := lt_step a37 (cok37 h)
  have a39 := lt_step a38 (cok38 h)
  have a40 := lt_step a39 (cok39 h)
  have a41 := lt_step a40 (cok40 h)
  have a42 := lt_step a41 (cok41 h)
  have a43 := lt_step a42 (cok42 h)
  have a44 := lt_step a43 (cok43 h)
  have a45 := lt_step a44 (cok44 h)
  have a46 := lt_step a45 (cok45 h)
  have a47 := lt_step a46 (cok46 h)
  have a48 := lt_step a47 (cok47 h)
  have a49 := lt_step a48 (cok48 h)
  have a50 := lt_step a49 (cok49 h)
  have a51 := lt_step a50 (cok50 h)
  have a52 := lt_step a51 (cok51 h)
  have a53 := lt_step a52 (cok52 h)
  have a54 := lt_step a53 (cok53 h)
  have a55 := lt_step a54 (cok54 h)
  have a56 := lt_step a55 (cok55 h)
  have a57 := lt_step a56 (cok56 h)
  have a58 := lt_step a57 (cok57 h)
  have a59 := lt_step a58 (cok58 h)
  have a60 := lt_step a59 (cok59 h)
  have a61 := lt_step a60 (cok60 h)
  have a62 := lt_step a61 (cok61 h)
  have a63 := lt_step a62 (cok62 h)
  have a64 := lt_step a63 (cok63 h)
  have a65 := lt_step a64 (cok64 h)
  have a66 := lt_step a65 (cok65 h)
  have a67 := lt_step a66 (cok66 h)
  have a68 := lt_step a67 (cok67 h)
  have a69 := lt_step a68 (cok68 h)
  have a70 := lt_step a69 (cok69 h)
  have a71 := lt_step a70 (cok70 h)
  have a72 := lt_step a71 (cok71 h)
  have a73 := lt_step a72 (cok72 h)
  have a74 := lt_step a73 (cok73 h)
  have a75 := lt_step a74 (cok74 h)
  have a76 := lt_step a75 (cok75 h)
  have a77 := lt_step a76 (cok76 h)
  have a78 := lt_step a77 (cok77 h)
  have a79 := lt_step a78 (cok78 h)
  have a80 := lt_step a79 (cok79 h)
  have a81 := lt_step a80 (cok80 h)
  have a82 := lt_step a81 (cok81 h)
  have a83 := lt_step a82 (cok82 h)
  have a84 := lt_step a83 (cok83 h)
  have a85 := lt_step a84 (cok84 h)
  have a86 := lt_step a85 (cok85 h)
  have a87 := lt_step a86 (cok86 h)
  have a88 := lt_step a87 (cok87 h)
  have a89 := lt_step a88 (cok88 h)
  have a90 := lt_step a89 (cok89 h)
  have a91 := lt_step a90 (cok90 h)
  have a92 := lt_step a91 (cok91 h)
  intro k q hq
  by_cases hk : k < 92
  · rw [wld_at hk] at hq
    obtain rfl := Option.some.inj hq
    exact a92 k hk
  · rw [List.getElem?_eq_none (by rw [wld_len]; omega)] at hq; cases hq
