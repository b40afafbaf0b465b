def Cok (D : va_G) (G : Gc) (u : SX7) (v : SX8) (H : Heap) (k : Nat) : Prop := va_at D vwCl (rho G u v k, ceE G (rho G u v) (rd C0 N0 k) N0.2 k) H
theorem lt_step {Q : Nat → Prop} {n : Nat} (h : ∀ k, k < n → Q k) (hn : Q n) : ∀ k, k < n + 1 → Q k := fun k hk => by
  by_cases e : k = n
  · subst e; exact hn
  · exact h k (by omega)
set_option maxRecDepth 100000 in
theorem cok0 {D : va_G} {G : Gc} {u : SX7} {v : SX8} {H : Heap} (h : va_P D vwCl (ShX7 G u ++ ShX8 G v) H) : Cok D G u v H 0 := h 0 (rho G u v 0, ceE G (rho G u v) (rd C0 N0 0) N0.2 0) rfl
set_option maxRecDepth 100000 in
theorem cok1 {D : va_G} {G : Gc} {u : SX7} {v : SX8} {H : Heap} (h : va_P D vwCl (ShX7 G u ++ ShX8 G v) H) : Cok D G u v H 1 := h 1 (rho G u v 1, ceE G (rho G u v) (rd C0 N0 1) N0.2 1) rfl
set_option maxRecDepth 100000 in
theorem cok2 {D : va_G} {G : Gc} {u : SX7} {v : SX8} {H : Heap} (h : va_P D vwCl (ShX7 G u ++ ShX8 G v) H) : Cok D G u v H 2 := h 2 (rho G u v 2, ceE G (rho G u v) (rd C0 N0 2) N0.2 2) rfl
set_option maxRecDepth 100000 in
theorem cok3 {D : va_G} {G : Gc} {u : SX7} {v : SX8} {H : Heap} (h : va_P D vwCl (ShX7 G u ++ ShX8 G v) H) : Cok D G u v H 3 := h 3 (rho G u v 3, ceE G (rho G u v) (rd C0 N0 3) N0.2 3) rfl
set_option maxRecDepth 100000 in
theorem cok4 {D : va_G} {G : Gc} {u : SX7} {v : SX8} {H : Heap} (h : va_P D vwCl (ShX7 G u ++ ShX8 G v) H) : Cok D G u v H 4 := by
  have hh := h 4 (u.2.1.2.2.2.1, outR G u.2.1.2.2.2.2.1) rfl
  rw [outR, out8 (q := fun i => rho G u v (5 + i)) (fun i hi => match i, hi with | 0, _ => rfl | 1, _ => rfl | 2, _ => rfl | 3, _ => rfl | 4, _ => rfl | 5, _ => rfl | 6, _ => rfl | 7, _ => rfl | i + 8, z => absurd z (by omega))] at hh
  exact hh
set_option maxRecDepth 100000 in
theorem cok5 {D : va_G} {G : Gc} {u : SX7} {v : SX8} {H : Heap} (h : va_P D vwCl (ShX7 G u ++ ShX8 G v) H) : Cok D G u v H 5 := h 5 (rho G u v 5, ceE G (rho G u v) (rd C0 N0 5) N0.2 5) rfl
set_option maxRecDepth 100000 in
theorem cok6 {D : va_G} {G : Gc} {u : SX7} {v : SX8} {H : Heap} (h : va_P D vwCl (ShX7 G u ++ ShX8 G v) H) : Cok D G u v H 6 := h 6 (rho G u v 6, ceE G (rho G u v) (rd C0 N0 6) N0.2 6) rfl
set_option maxRecDepth 100000 in
theorem cok7 {D : va_G} {G : Gc} {u : SX7} {v : SX8} {H : Heap} (h : va_P D vwCl (ShX7 G u ++ ShX8 G v) H) : Cok D G u v H 7 := h 7 (rho G u v 7, ceE G (rho G u v) (rd C0 N0 7) N0.2 7) rfl
set_option maxRecDepth 100000 in
theorem cok8 {D : va_G} {G : Gc} {u : SX7} {v : SX8} {H : Heap} (h : va_P D vwCl (ShX7 G u ++ ShX8 G v) H) : Cok D G u v H 8 := h 8 (rho G u v 8, ceE G (rho G u v) (rd C0 N0 8) N0.2 8) rfl
set_option maxRecDepth 100000 in
theorem cok9 {D : va_G} {G : Gc} {u : SX7} {v : SX8} {H : Heap} (h : va_P D vwCl (ShX7 G u ++ ShX8 G v) H) : Cok D G u v H 9 := h 9 (rho G u v 9, ceE G (rho G u v) (rd C0 N0 9) N0.2 9) rfl
set_option maxRecDepth 100000 in
theorem cok10 {D : va_G} {G : Gc} {u : SX7} {v : SX8} {H : Heap} (h : va_P D vwCl (ShX7 G u ++ ShX8 G v) H) : Cok D G u v H 10 := h 10 (rho G u v 10, ceE G (rho G u v) (rd C0 N0 10) N0.2 10) rfl
set_option maxRecDepth 100000 in
theorem cok11 {D : va_G} {G : Gc} {u : SX7} {v : SX8} {H : Heap} (h : va_P D vwCl (ShX7 G u ++ ShX8 G v) H) : Cok D G u v H 11 := h 11 (rho G u v 11, ceE G (rho G u v) (rd C0 N0 11) N0.2 11) rfl
set_option maxRecDepth 100000 in
theorem cok12 {D : va_G} {G : Gc} {u : SX7} {v : SX8} {H : Heap} (h : va_P D vwCl (ShX7 G u ++ ShX8 G v) H) : Cok D G u v H 12 := h 12 (rho G u v 12, ceE G (rho G u v) (rd C0 N0 12) N0.2 12) rfl
set_option maxRecDepth 100000 in
theorem cok13 {D : va_G} {G : Gc} {u : SX7} {v : SX8} {H : Heap} (h : va_P D vwCl (ShX7 G u ++ ShX8 G v) H) : Cok D G u v H 13 := by
  have hh := h 13 (u.2.1.2.2.2.2.2.1, outR G u.2.1.2.2.2.2.2.2) rfl
  rw [outR, out8 (q := fun i => rho G u v (14 + i)) (fun i hi => match i, hi with | 0, _ => rfl | 1, _ => rfl | 2, _ => rfl | 3, _ => rfl | 4, _ => rfl | 5, _ => rfl | 6, _ => rfl | 7, _ => rfl | i + 8, z => absurd z (by omega))] at hh
  exact hh
set_option maxRecDepth 100000 in
theorem cok14 {D : va_G} {G : Gc} {u : SX7} {v : SX8} {H : Heap} (h : va_P D vwCl (ShX7 G u ++ ShX8 G v) H) : Cok D G u v H 14 := h 14 (rho G u v 14, ceE G (rho G u v) (rd C0 N0 14) N0.2 14) rfl
set_option maxRecDepth 100000 in
theorem cok15 {D : va_G} {G : Gc} {u : SX7} {v : SX8} {H : Heap} (h : va_P D vwCl (ShX7 G u ++ ShX8 G v) H) : Cok D G u v H 15 := h 15 (rho G u v 15, ceE G (rho G u v) (rd C0 N0 15) N0.2 15) rfl
set_option maxRecDepth 100000 in
theorem cok16 {D : va_G} {G : Gc} {u : SX7} {v : SX8} {H : Heap} (h : va_P D vwCl (ShX7 G u ++ ShX8 G v) H) : Cok D G u v H 16 := h 16 (rho G u v 16, ceE G (rho G u v) (rd C0 N0 16) N0.2 16) rfl
set_option maxRecDepth 100000 in
theorem cok17 {D : va_G} {G : Gc} {u : SX7} {v : SX8} {H : Heap} (h : va_P D vwCl (ShX7 G u ++ ShX8 G v) H) : Cok D G u v H 17 := h 17 (rho G u v 17, ceE G (rho G u v) (rd C0 N0 17) N0.2 17) rfl
set_option maxRecDepth 100000 in
theorem cok18 {D : va_G} {G : Gc} {u : SX7} {v : SX8} {H : Heap} (h : va_P D vwCl (ShX7 G u ++ ShX8 G v) H) : Cok D G u v H 18 := h 18 (rho G u v 18, ceE G (rho G u v) (rd C0 N0 18) N0.2 18) rfl
set_option maxRecDepth 100000 in
theorem cok19 {D : va_G} {G : Gc} {u : SX7} {v : SX8} {H : Heap} (h : va_P D vwCl (ShX7 G u ++ ShX8 G v) H) : Cok D G u v H 19 := h 19 (rho G u v 19, ceE G (rho G u v) (rd C0 N0 19) N0.2 19) rfl
set_option maxRecDepth 100000 in
theorem cok20 {D : va_G} {G : Gc} {u : SX7} {v : SX8} {H : Heap} (h : va_P D vwCl (ShX7 G u ++ ShX8 G v) H) : Cok D G u v H 20 := h 20 (rho G u v 20, ceE G (rho G u v) (rd C0 N0 20) N0.2 20) rfl
set_option maxRecDepth 100000 in
theorem cok21 {D : va_G} {G : Gc} {u : SX7} {v : SX8} {H : Heap} (h : va_P D vwCl (ShX7 G u ++ ShX8 G v) H) : Cok D G u v H 21 := h 21 (rho G u v 21, ceE G (rho G u v) (rd C0 N0 21) N0.2 21) rfl
set_option maxRecDepth 100000 in
theorem cok22 {D : va_G} {G : Gc} {u : SX7} {v : SX8} {H : Heap} (h : va_P D vwCl (ShX7 G u ++ ShX8 G v) H) : Cok D G u v H 22 := h 22 (rho G u v 22, ceE G (rho G u v) (rd C0 N0 22) N0.2 22) rfl
set_option maxRecDepth 100000 in
theorem cok23 {D : va_G} {G : Gc} {u : SX7} {v : SX8} {H : Heap} (h : va_P D vwCl (ShX7 G u ++ ShX8 G v) H) : Cok D G u v H 23 := h 23 (rho G u v 23, ceE G (rho G u v) (rd C0 N0 23) N0.2 23) rfl
set_option maxRecDepth 100000 in
theorem cok24 {D : va_G} {G : Gc} {u : SX7} {v : SX8} {H : Heap} (h : va_P D vwCl (ShX7 G u ++ ShX8 G v) H) : Cok D G u v H 24 := by
  have hh := h 24 (u.2.2.1.2.1.2.1, outR G u.2.2.1.2.1.2.2.1) rfl
  rw [outR, out8 (q := fun i => rho G u v (25 + i)) (fun i hi => match i, hi with | 0, _ => rfl | 1, _ => rfl | 2, _ => rfl | 3, _ => rfl | 4, _ => rfl | 5, _ => rfl | 6, _ => rfl | 7, _ => rfl | i + 8, z => absurd z (by omega))] at hh
  exact hh
set_option maxRecDepth 100000 in
theorem cok25 {D : va_G} {G : Gc} {u : SX7} {v : SX8} {H : Heap} (h : va_P D vwCl (ShX7 G u ++ ShX8 G v) H) : Cok D G u v H 25 := h 25 (rho G u v 25, ceE G (rho G u v) (rd C0 N0 25) N0.2 25) rfl
set_option maxRecDepth 100000 in
theorem cok26 {D : va_G} {G : Gc} {u : SX7} {v : SX8} {H : Heap} (h : va_P D vwCl (ShX7 G u ++ ShX8 G v) H) : Cok D G u v H 26 := h 26 (rho G u v 26, ceE G (rho G u v) (rd C0 N0 26) N0.2 26) rfl
set_option maxRecDepth 100000 in
theorem cok27 {D : va_G} {G : Gc} {u : SX7} {v : SX8} {H : Heap} (h : va_P D vwCl (ShX7 G u ++ ShX8 G v) H) : Cok D G u v H 27 := h 27 (rho G u v 27, ceE G (rho G u v) (rd C0 N0 27) N0.2 27) rfl
set_option maxRecDepth 100000 in
theorem cok28 {D : va_G} {G : Gc} {u : SX7} {v : SX8} {H : Heap} (h : va_P D vwCl (ShX7 G u ++ ShX8 G v) H) : Cok D G u v H 28 := h 28 (rho G u v 28, ceE G (rho G u v) (rd C0 N0 28) N0.2 28) rfl
set_option maxRecDepth 100000 in
theorem cok29 {D : va_G} {G : Gc} {u : SX7} {v : SX8} {H : Heap} (h : va_P D vwCl (ShX7 G u ++ ShX8 G v) H) : Cok D G u v H 29 := h 29 (rho G u v 29, ceE G (rho G u v) (rd C0 N0 29) N0.2 29) rfl
set_option maxRecDepth 100000 in
theorem cok30 {D : va_G} {G : Gc} {u : SX7} {v : SX8} {H : Heap} (h : va_P D vwCl (ShX7 G u ++ ShX8 G v) H) : Cok D G u v H 30 := h 30 (rho G u v 30, ceE G (rho G u v) (rd C0 N0 30) N0.2 30) rfl
set_option maxRecDepth 100000 in
theorem cok31 {D : va_G} {G : Gc} {u : SX7} {v : SX8} {H : Heap} (h : va_P D vwCl (ShX7 G u ++ ShX8 G v) H) : Cok D G u v H 31 := h 31 (rho G u v 31, ceE G (rho G u v) (rd C0 N0 31) N0.2 31) rfl
set_option maxRecDepth 100000 in
theorem cok32 {D : va_G} {G : Gc} {u : SX7} {v : SX8} {H : Heap} (h : va_P D vwCl (ShX7 G u ++ ShX8 G v) H) : Cok D G u v H 32 := h 32 (rho G u v 32, ceE G (rho G u v) (rd C0 N0 32) N0.2 32) rfl
set_option maxRecDepth 100000 in
theorem cok33 {D : va_G} {G : Gc} {u : SX7} {v : SX8} {H : Heap} (h : va_P D vwCl (ShX7 G u ++ ShX8 G v) H) : Cok D G u v H 33 := by
  have hh := h 33 (u.2.2.1.2.1.2.2.2.1, outR G u.2.2.1.2.1.2.2.2.2) rfl
  rw [outR, out8 (q := fun i => rho G u v (34 + i)) (fun i hi => match i, hi with | 0, _ => rfl | 1, _ => rfl | 2, _ => rfl | 3, _ => rfl | 4, _ => rfl | 5, _ => rfl | 6, _ => rfl | 7, _ => rfl | i + 8, z => absurd z (by omega))] at hh
  exact hh
set_option maxRecDepth 100000 in
theorem cok34 {D : va_G} {G : Gc} {u : SX7} {v : SX8} {H : Heap} (h : va_P D vwCl (ShX7 G u ++ ShX8 G v) H) : Cok D G u v H 34 := h 34 (rho G u v 34, ceE G (rho G u v) (rd C0 N0 34) N0.2 34) rfl
set_option maxRecDepth 100000 in
theorem cok35 {D : va_G} {G : Gc} {u : SX7} {v : SX8} {H : Heap} (h : va_P D vwCl (ShX7 G u ++ ShX8 G v) H) : Cok D G u v H 35 := h 35 (rho G u v 35, ceE G (rho G u v) (rd C0 N0 35) N0.2 35) rfl
set_option maxRecDepth 100000 in
theorem cok36 {D : va_G} {G : Gc} {u : SX7} {v : SX8} {H : Heap} (h : va_P D vwCl (ShX7 G u ++ ShX8 G v) H) : Cok D G u v H 36 := h 36 (rho G u v 36, ceE G (rho G u v) (rd C0 N0 36) N0.2 36) rfl
set_option maxRecDepth 100000 in
theorem cok37 {D : va_G} {G : Gc} {u : SX7} {v : SX8} {H : Heap} (h : va_P D vwCl (ShX7 G u ++ ShX8 G v) H) : Cok D G u v H 37 := h 37 (rho G u v 37, ceE G (rho G u v) (rd C0 N0 37) N0.2 37) rfl
set_option maxRecDepth 100000 in
theorem cok38 {D : va_G} {G : Gc} {u : SX7} {v : SX8} {H : Heap} (h : va_P D vwCl (ShX7 G u ++ ShX8 G v) H) : Cok D G u v H 38 := h 38 (rho G u v 38, ceE G (rho G u v) (rd C0 N0 38) N0.2 38) rfl
set_option maxRecDepth 100000 in
theorem cok39 {D : va_G} {G : Gc} {u : SX7} {v : SX8} {H : Heap} (h : va_P D vwCl (ShX7 G u ++ ShX8 G v) H) : Cok D G u v H 39 := h 39 (rho G u v 39, ceE G (rho G u v) (rd C0 N0 39) N0.2 39) rfl
set_option maxRecDepth 100000 in
theorem cok40 {D : va_G} {G : Gc} {u : SX7} {v : SX8} {H : Heap} (h : va_P D vwCl (ShX7 G u ++ ShX8 G v) H) : Cok D G u v H 40 := h 40 (rho G u v 40, ceE G (rho G u v) (rd C0 N0 40) N0.2 40) rfl
set_option maxRecDepth 100000 in
theorem cok41 {D : va_G} {G : Gc} {u : SX7} {v : SX8} {H : Heap} (h : va_P D vwCl (ShX7 G u ++ ShX8 G v) H) : Cok D G u v H 41 := h 41 (rho G u v 41, ceE G (rho G u v) (rd C0 N0 41) N0.2 41) rfl
set_option maxRecDepth 100000 in
theorem cok42 {D : va_G} {G : Gc} {u : SX7} {v : SX8} {H : Heap} (h : va_P D vwCl (ShX7 G u ++ ShX8 G v) H) : Cok D G u v H 42 := h 42 (rho G u v 42, ceE G (rho G u v) (rd C0 N0 42) N0.2 42) rfl
set_option maxRecDepth 100000 in
theorem cok43 {D : va_G} {G : Gc} {u : SX7} {v : SX8} {H : Heap} (h : va_P D vwCl (ShX7 G u ++ ShX8 G v) H) : Cok D G u v H 43 := h 43 (rho G u v 43, ceE G (rho G u v) (rd C0 N0 43) N0.2 43) rfl
set_option maxRecDepth 100000 in
theorem cok44 {D : va_G} {G : Gc} {u : SX7} {v : SX8} {H : Heap} (h : va_P D vwCl (ShX7 G u ++ ShX8 G v) H) : Cok D G u v H 44 := h 44 (rho G u v 44, ceE G (rho G u v) (rd C0 N0 44) N0.2 44) rfl
set_option maxRecDepth 100000 in
theorem cok45 {D : va_G} {G : Gc} {u : SX7} {v : SX8} {H : Heap} (h : va_P D vwCl (ShX7 G u ++ ShX8 G v) H) : Cok D G u v H 45 := h 45 (rho G u v 45, ceE G (rho G u v) (rd C0 N0 45) N0.2 45) rfl
set_option maxRecDepth 100000 in
theorem cok46 {D : va_G} {G : Gc} {u : SX7} {v : SX8} {H : Heap} (h : va_P D vwCl (ShX7 G u ++ ShX8 G v) H) : Cok D G u v H 46 := h 46 (rho G u v 46, ceE G (rho G u v) (rd C0 N0 46) N0.2 46) rfl
set_option maxRecDepth 100000 in
theorem cok47 {D : va_G} {G : Gc} {u : SX7} {v : SX8} {H : Heap} (h : va_P D vwCl (ShX7 G u ++ ShX8 G v) H) : Cok D G u v H 47 := h 47 (rho G u v 47, ceE G (rho G u v) (rd C0 N0 47) N0.2 47) rfl
set_option maxRecDepth 100000 in
theorem cok48 {D : va_G} {G : Gc} {u : SX7} {v : SX8} {H : Heap} (h : va_P D vwCl (ShX7 G u ++ ShX8 G v) H) : Cok D G u v H 48 := h 48 (rho G u v 48, ceE G (rho G u v) (rd C0 N0 48) N0.2 48) rfl
set_option maxRecDepth 100000 in
theorem cok49 {D : va_G} {G : Gc} {u : SX7} {v : SX8} {H : Heap} (h : va_P D vwCl (ShX7 G u ++ ShX8 G v) H) : Cok D G u v H 49 := h 49 (rho G u v 49, ceE G (rho G u v) (rd C0 N0 49) N0.2 49) rfl
set_option maxRecDepth 100000 in
theorem cok50 {D : va_G} {G : Gc} {u : SX7} {v : SX8} {H : Heap} (h : va_P D vwCl (ShX7 G u ++ ShX8 G v) H) : Cok D G u v H 50 := h 50 (rho G u v 50, ceE G (rho G u v) (rd C0 N0 50) N0.2 50) rfl
set_option maxRecDepth 100000 in
theorem cok51 {D : va_G} {G : Gc} {u : SX7} {v : SX8} {H : Heap} (h : va_P D vwCl (ShX7 G u ++ ShX8 G v) H) : Cok D G u v H 51 := by
  have hh : H[u.2.2.2.2.1.2.1]? = some (vp_cell _ _) := h 51 _ rfl
  rw [arr6 (g := fun j => some (rho G u v (52 + 2 * (C0 51 j).toNatClampNeg))) (fun i hi => match i, hi with | 0, _ => rfl | 1, _ => rfl | 2, _ => rfl | 3, _ => rfl | 4, _ => rfl | 5, _ => rfl | i + 6, z => absurd z (by omega))] at hh
  exact hh
set_option maxRecDepth 100000 in
theorem cok52 {D : va_G} {G : Gc} {u : SX7} {v : SX8} {H : Heap} (h : va_P D vwCl (ShX7 G u ++ ShX8 G v) H) : Cok D G u v H 52 := h 52 (rho G u v 52, ceE G (rho G u v) (rd C0 N0 52) N0.2 52) rfl
set_option maxRecDepth 100000 in
theorem cok53 {D : va_G} {G : Gc} {u : SX7} {v : SX8} {H : Heap} (h : va_P D vwCl (ShX7 G u ++ ShX8 G v) H) : Cok D G u v H 53 := h 53 (rho G u v 53, ceE G (rho G u v) (rd C0 N0 53) N0.2 53) rfl
set_option maxRecDepth 100000 in
theorem cok54 {D : va_G} {G : Gc} {u : SX7} {v : SX8} {H : Heap} (h : va_P D vwCl (ShX7 G u ++ ShX8 G v) H) : Cok D G u v H 54 := h 54 (rho G u v 54, ceE G (rho G u v) (rd C0 N0 54) N0.2 54) rfl
set_option maxRecDepth 100000 in
theorem cok55 {D : va_G} {G : Gc} {u : SX7} {v : SX8} {H : Heap} (h : va_P D vwCl (ShX7 G u ++ ShX8 G v) H) : Cok D G u v H 55 := h 55 (rho G u v 55, ceE G (rho G u v) (rd C0 N0 55) N0.2 55) rfl
set_option maxRecDepth 100000 in
theorem cok56 {D : va_G} {G : Gc} {u : SX7} {v : SX8} {H : Heap} (h : va_P D vwCl (ShX7 G u ++ ShX8 G v) H) : Cok D G u v H 56 := h 56 (rho G u v 56, ceE G (rho G u v) (rd C0 N0 56) N0.2 56) rfl
set_option maxRecDepth 100000 in
theorem cok57 {D : va_G} {G : Gc} {u : SX7} {v : SX8} {H : Heap} (h : va_P D vwCl (ShX7 G u ++ ShX8 G v) H) : Cok D G u v H 57 := h 57 (rho G u v 57, ceE G (rho G u v) (rd C0 N0 57) N0.2 57) rfl
set_option maxRecDepth 100000 in
theorem cok58 {D : va_G} {G : Gc} {u : SX7} {v : SX8} {H : Heap} (h : va_P D vwCl (ShX7 G u ++ ShX8 G v) H) : Cok D G u v H 58 := h 58 (rho G u v 58, ceE G (rho G u v) (rd C0 N0 58) N0.2 58) rfl
set_option maxRecDepth 100000 in
theorem cok59 {D : va_G} {G : Gc} {u : SX7} {v : SX8} {H : Heap} (h : va_P D vwCl (ShX7 G u ++ ShX8 G v) H) : Cok D G u v H 59 := h 59 (rho G u v 59, ceE G (rho G u v) (rd C0 N0 59) N0.2 59) rfl
set_option maxRecDepth 100000 in
theorem cok60 {D : va_G} {G : Gc} {u : SX7} {v : SX8} {H : Heap} (h : va_P D vwCl (ShX7 G u ++ ShX8 G v) H) : Cok D G u v H 60 := h 60 (rho G u v 60, ceE G (rho G u v) (rd C0 N0 60) N0.2 60) rfl
set_option maxRecDepth 100000 in
theorem cok61 {D : va_G} {G : Gc} {u : SX7} {v : SX8} {H : Heap} (h : va_P D vwCl (ShX7 G u ++ ShX8 G v) H) : Cok D G u v H 61 := h 61 (rho G u v 61, ceE G (rho G u v) (rd C0 N0 61) N0.2 61) rfl
set_option maxRecDepth 100000 in
theorem cok62 {D : va_G} {G : Gc} {u : SX7} {v : SX8} {H : Heap} (h : va_P D vwCl (ShX7 G u ++ ShX8 G v) H) : Cok D G u v H 62 := h 62 (rho G u v 62, ceE G (rho G u v) (rd C0 N0 62) N0.2 62) rfl
set_option maxRecDepth 100000 in
theorem cok63 {D : va_G} {G : Gc} {u : SX7} {v : SX8} {H : Heap} (h : va_P D vwCl (ShX7 G u ++ ShX8 G v) H) : Cok D G u v H 63 := h 63 (rho G u v 63, ceE G (rho G u v) (rd C0 N0 63) N0.2 63) rfl
set_option maxRecDepth 100000 in
theorem cok64 {D : va_G} {G : Gc} {u : SX7} {v : SX8} {H : Heap} (h : va_P D vwCl (ShX7 G u ++ ShX8 G v) H) : Cok D G u v H 64 := h 64 (rho G u v 64, ceE G (rho G u v) (rd C0 N0 64) N0.2 64) rfl
set_option maxRecDepth 100000 in
theorem cok65 {D : va_G} {G : Gc} {u : SX7} {v : SX8} {H : Heap} (h : va_P D vwCl (ShX7 G u ++ ShX8 G v) H) : Cok D G u v H 65 := h 65 (rho G u v 65, ceE G (rho G u v) (rd C0 N0 65) N0.2 65) rfl
set_option maxRecDepth 100000 in
theorem cok66 {D : va_G} {G : Gc} {u : SX7} {v : SX8} {H : Heap} (h : va_P D vwCl (ShX7 G u ++ ShX8 G v) H) : Cok D G u v H 66 := h 66 (rho G u v 66, ceE G (rho G u v) (rd C0 N0 66) N0.2 66) rfl
set_option maxRecDepth 100000 in
theorem cok67 {D : va_G} {G : Gc} {u : SX7} {v : SX8} {H : Heap} (h : va_P D vwCl (ShX7 G u ++ ShX8 G v) H) : Cok D G u v H 67 := h 67 (rho G u v 67, ceE G (rho G u v) (rd C0 N0 67) N0.2 67) rfl
set_option maxRecDepth 100000 in
theorem cok68 {D : va_G} {G : Gc} {u : SX7} {v : SX8} {H : Heap} (h : va_P D vwCl (ShX7 G u ++ ShX8 G v) H) : Cok D G u v H 68 := h 68 (rho G u v 68, ceE G (rho G u v) (rd C0 N0 68) N0.2 68) rfl
set_option maxRecDepth 100000 in
theorem cok69 {D : va_G} {G : Gc} {u : SX7} {v : SX8} {H : Heap} (h : va_P D vwCl (ShX7 G u ++ ShX8 G v) H) : Cok D G u v H 69 := h 69 (rho G u v 69, ceE G (rho G u v) (rd C0 N0 69) N0.2 69) rfl
set_option maxRecDepth 100000 in
theorem cok70 {D : va_G} {G : Gc} {u : SX7} {v : SX8} {H : Heap} (h : va_P D vwCl (ShX7 G u ++ ShX8 G v) H) : Cok D G u v H 70 := h 70 (rho G u v 70, ceE G (rho G u v) (rd C0 N0 70) N0.2 70) rfl
set_option maxRecDepth 100000 in
theorem cok71 {D : va_G} {G : Gc} {u : SX7} {v : SX8} {H : Heap} (h : va_P D vwCl (ShX7 G u ++ ShX8 G v) H) : Cok D G u v H 71 := h 71 (rho G u v 71, ceE G (rho G u v) (rd C0 N0 71) N0.2 71) rfl
set_option maxRecDepth 100000 in
theorem cok72 {D : va_G} {G : Gc} {u : SX7} {v : SX8} {H : Heap} (h : va_P D vwCl (ShX7 G u ++ ShX8 G v) H) : Cok D G u v H 72 := h 72 (rho G u v 72, ceE G (rho G u v) (rd C0 N0 72) N0.2 72) rfl
set_option maxRecDepth 100000 in
theorem cok73 {D : va_G} {G : Gc} {u : SX7} {v : SX8} {H : Heap} (h : va_P D vwCl (ShX7 G u ++ ShX8 G v) H) : Cok D G u v H 73 := h 73 (rho G u v 73, ceE G (rho G u v) (rd C0 N0 73) N0.2 73) rfl
set_option maxRecDepth 100000 in
theorem cok74 {D : va_G} {G : Gc} {u : SX7} {v : SX8} {H : Heap} (h : va_P D vwCl (ShX7 G u ++ ShX8 G v) H) : Cok D G u v H 74 := h 74 (rho G u v 74, ceE G (rho G u v) (rd C0 N0 74) N0.2 74) rfl
set_option maxRecDepth 100000 in
theorem cok75 {D : va_G} {G : Gc} {u : SX7} {v : SX8} {H : Heap} (h : va_P D vwCl (ShX7 G u ++ ShX8 G v) H) : Cok D G u v H 75 := h 75 (rho G u v 75, ceE G (rho G u v) (rd C0 N0 75) N0.2 75) rfl
set_option maxRecDepth 100000 in
theorem cok76 {D : va_G} {G : Gc} {u : SX7} {v : SX8} {H : Heap} (h : va_P D vwCl (ShX7 G u ++ ShX8 G v) H) : Cok D G u v H 76 := h 76 (rho G u v 76, ceE G (rho G u v) (rd C0 N0 76) N0.2 76) rfl
set_option maxRecDepth 100000 in
theorem cok77 {D : va_G} {G : Gc} {u : SX7} {v : SX8} {H : Heap} (h : va_P D vwCl (ShX7 G u ++ ShX8 G v) H) : Cok D G u v H 77 := h 77 (rho G u v 77, ceE G (rho G u v) (rd C0 N0 77) N0.2 77) rfl
set_option maxRecDepth 100000 in
theorem cok78 {D : va_G} {G : Gc} {u : SX7} {v : SX8} {H : Heap} (h : va_P D vwCl (ShX7 G u ++ ShX8 G v) H) : Cok D G u v H 78 := h 78 (rho G u v 78, ceE G (rho G u v) (rd C0 N0 78) N0.2 78) rfl
set_option maxRecDepth 100000 in
theorem cok79 {D : va_G} {G : Gc} {u : SX7} {v : SX8} {H : Heap} (h : va_P D vwCl (ShX7 G u ++ ShX8 G v) H) : Cok D G u v H 79 := h 79 (rho G u v 79, ceE G (rho G u v) (rd C0 N0 79) N0.2 79) rfl
set_option maxRecDepth 100000 in
theorem cok80 {D : va_G} {G : Gc} {u : SX7} {v : SX8} {H : Heap} (h : va_P D vwCl (ShX7 G u ++ ShX8 G v) H) : Cok D G u v H 80 := h 80 (rho G u v 80, ceE G (rho G u v) (rd C0 N0 80) N0.2 80) rfl
set_option maxRecDepth 100000 in
theorem cok81 {D : va_G} {G : Gc} {u : SX7} {v : SX8} {H : Heap} (h : va_P D vwCl (ShX7 G u ++ ShX8 G v) H) : Cok D G u v H 81 := h 81 (rho G u v 81, ceE G (rho G u v) (rd C0 N0 81) N0.2 81) rfl
set_option maxRecDepth 100000 in
theorem cok82 {D : va_G} {G : Gc} {u : SX7} {v : SX8} {H : Heap} (h : va_P D vwCl (ShX7 G u ++ ShX8 G v) H) : Cok D G u v H 82 := h 82 (rho G u v 82, ceE G (rho G u v) (rd C0 N0 82) N0.2 82) rfl
set_option maxRecDepth 100000 in
theorem cok83 {D : va_G} {G : Gc} {u : SX7} {v : SX8} {H : Heap} (h : va_P D vwCl (ShX7 G u ++ ShX8 G v) H) : Cok D G u v H 83 := h 83 (rho G u v 83, ceE G (rho G u v) (rd C0 N0 83) N0.2 83) rfl
set_option maxRecDepth 100000 in
theorem cok84 {D : va_G} {G : Gc} {u : SX7} {v : SX8} {H : Heap} (h : va_P D vwCl (ShX7 G u ++ ShX8 G v) H) : Cok D G u v H 84 := h 84 (rho G u v 84, ceE G (rho G u v) (rd C0 N0 84) N0.2 84) rfl
set_option maxRecDepth 100000 in
theorem cok85 {D : va_G} {G : Gc} {u : SX7} {v : SX8} {H : Heap} (h : va_P D vwCl (ShX7 G u ++ ShX8 G v) H) : Cok D G u v H 85 := h 85 (rho G u v 85, ceE G (rho G u v) (rd C0 N0 85) N0.2 85) rfl
set_option maxRecDepth 100000 in
theorem cok86 {D : va_G} {G : Gc} {u : SX7} {v : SX8} {H : Heap} (h : va_P D vwCl (ShX7 G u ++ ShX8 G v) H) : Cok D G u v H 86 := h 86 (rho G u v 86, ceE G (rho G u v) (rd C0 N0 86) N0.2 86) rfl
set_option maxRecDepth 100000 in
theorem cok87 {D : va_G} {G : Gc} {u : SX7} {v : SX8} {H : Heap} (h : va_P D vwCl (ShX7 G u ++ ShX8 G v) H) : Cok D G u v H 87 := h 87 (rho G u v 87, ceE G (rho G u v) (rd C0 N0 87) N0.2 87) rfl
set_option maxRecDepth 100000 in
theorem cok88 {D : va_G} {G : Gc} {u : SX7} {v : SX8} {H : Heap} (h : va_P D vwCl (ShX7 G u ++ ShX8 G v) H) : Cok D G u v H 88 := h 88 (rho G u v 88, ceE G (rho G u v) (rd C0 N0 88) N0.2 88) rfl
set_option maxRecDepth 100000 in
theorem cok89 {D : va_G} {G : Gc} {u : SX7} {v : SX8} {H : Heap} (h : va_P D vwCl (ShX7 G u ++ ShX8 G v) H) : Cok D G u v H 89 := h 89 (rho G u v 89, ceE G (rho G u v) (rd C0 N0 89) N0.2 89) rfl
set_option maxRecDepth 100000 in
theorem cok90 {D : va_G} {G : Gc} {u : SX7} {v : SX8} {H : Heap} (h : va_P D vwCl (ShX7 G u ++ ShX8 G v) H) : Cok D G u v H 90 := h 90 (rho G u v 90, ceE G (rho G u v) (rd C0 N0 90) N0.2 90) rfl
set_option maxRecDepth 100000 in
theorem cok91 {D : va_G} {G : Gc} {u : SX7} {v : SX8} {H : Heap} (h : va_P D vwCl (ShX7 G u ++ ShX8 G v) H) : Cok D G u v H 91 := h 91 (rho G u v 91, ceE G (rho G u v) (rd C0 N0 91) N0.2 91) rfl
theorem wld0 {D : va_G} {G : Gc} {u : SX7} {v : SX8} {H : Heap} (h : va_P D vwCl (ShX7 G u ++ ShX8 G v) H) : va_P D vwCl (wld G (rho G u v) C0 N0) H := by
  have a0 : ∀ k, k < 0 → Cok D G u v H k := fun k hk => absurd hk (Nat.not_lt_zero k)
  have a1 := lt_step a0 (cok0 h)
  have a2 := lt_step a1 (cok1 h)
  have a3 := lt_step a2 (cok2 h)
  have a4 := lt_step a3 (cok3 h)
  have a5 := lt_step a4 (cok4 h)
  have a6 := lt_step a5 (cok5 h)
  have a7 := lt_step a6 (cok6 h)
  have a8 := lt_step a7 (cok7 h)
  have a9 := lt_step a8 (cok8 h)
  have a10 := lt_step a9 (cok9 h)
  have a11 := lt_step a10 (cok10 h)
  have a12 := lt_step a11 (cok11 h)
  have a13 := lt_step a12 (cok12 h)
  have a14 := lt_step a13 (cok13 h)
  have a15 := lt_step a14 (cok14 h)
  have a16 := lt_step a15 (cok15 h)
  have a17 := lt_step a16 (cok16 h)
  have a18 := lt_step a17 (cok17 h)
  have a19 := lt_step a18 (cok18 h)
  have a20 := lt_step a19 (cok19 h)
  have a21 := lt_step a20 (cok20 h)
  have a22 := lt_step a21 (cok21 h)
  have a23 := lt_step a22 (cok22 h)
  have a24 := lt_step a23 (cok23 h)
  have a25 := lt_step a24 (cok24 h)
  have a26 := lt_step a25 (cok25 h)
  have a27 := lt_step a26 (cok26 h)
  have a28 := lt_step a27 (cok27 h)
  have a29 := lt_step a28 (cok28 h)
  have a30 := lt_step a29 (cok29 h)
  have a31 := lt_step a30 (cok30 h)
  have a32 := lt_step a31 (cok31 h)
  have a33 := lt_step a32 (cok32 h)
  have a34 := lt_step a33 (cok33 h)
  have a35 := lt_step a34 (cok34 h)
  have a36 := lt_step a35 (cok35 h)
  have a37 := lt_step a36 (cok36 h)
  have a38 := lt_step a37 (cok37 h)
  have a39 := lt_step a38 (cok38 h)
  have a40 := lt_step a39 (cok39 h)
  have a41 := lt_step a40 (cok40 h)
  have a42 := lt_step a41 (cok41 h)
  have a43 := lt_step a42 (cok42 h)
  have a44 := lt_step a43 (cok43 h)
  have a45 := lt_step a44 (cok44 h)
  have a46 := lt_step a45 (cok45 h)
  have a47 := lt_step a46 (cok46 h)
  have a48 := lt_step a47 (cok47 h)
  have a49 := lt_step a48 (cok48 h)
  have a50 := lt_step a49 (cok49 h)
  have a51 := lt_step a50 (cok50 h)
  have a52 := lt_step a51 (cok51 h)
  have a53 := lt_step a52 (cok52 h)
  have a54 := lt_step a53 (cok53 h)
  have a55 := lt_step a54 (cok54 h)
  have a56 := lt_step a55 (cok55 h)
  have a57 := lt_step a56 (cok56 h)
  have a58 := lt_step a57 (cok57 h)
  have a59 := lt_step a58 (cok58 h)
  have a60 := lt_step a59 (cok59 h)
  have a61 := lt_step a60 (cok60 h)
  have a62 := lt_step a61 (cok61 h)
  have a63 := lt_step a62 (cok62 h)
  have a64 := lt_step a63 (cok63 h)
  have a65 := lt_step a64 (cok64 h)
  have a66 := lt_step a65 (cok65 h)
  have a67 := lt_step a66 (cok66 h)
  have a68 := lt_step a67 (cok67 h)
  have a69 := lt_step a68 (cok68 h)
  have a70 := lt_step a69 (cok69 h)
  have a71 := lt_step a70 (cok70 h)
  have a72 := lt_step a71 (cok71 h)
  have a73 := lt_step a72 (cok72 h)
  have a74 := lt_step a73 (cok73 h)
  have a75 := lt_step a74 (cok74 h)
  have a76 := lt_step a75 (cok75 h)
  have a77 := lt_step a76 (cok76 h)
  have a78 := lt_step a77 (cok77 h)
  have a79 := lt_step a78 (cok78 h)
  have a80 := lt_step a79 (cok79 h)
  have a81 := lt_step a80 (cok80 h)
  have a82 := lt_step a81 (cok81 h)
  have a83 := lt_step a82 (cok82 h)
  have a84 := lt_step a83 (cok83 h)
  have a85 := lt_step a84 (cok84 h)
  have a86 := lt_step a85 (cok85 h)
  have a87 := lt_step a86 (cok86 h)
  have a88 := lt_step a87 (cok87 h)
  have a89 := lt_step a88 (cok88 h)
  have a90 := lt_step a89 (cok89 h)
  have a91 := lt_step a90 (cok90 h)
  have a92 := lt_step a91 (cok91 h)
  intro k q hq
  by_cases hk : k < 92
  · rw [wld_at hk] at hq
    obtain rfl := Option.some.inj hq
    exact a92 k hk
  · rw [List.getElem?_eq_none (by rw [wld_len]; omega)] at hq; cases hq
