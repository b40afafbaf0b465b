/-! what the tables say at the law's entry: the classes, the kinds of arrays, the nest -/
theorem ev_start {s : State} {args : Array Value} (hts : ∀ w ∈ lw_tbl, w.before args s = true) : ∃ (D : va_G) (G : Gc), Ev D G s := by
  have hw : ∀ w ∈ wsL_law, w.before args s = true := fun w h => hts w (wsL_law_in w h)
  obtain ⟨c0, i0, k0⟩ := u_known (n := 8) (C := RX0) (T := TX0) (N := 8) hts (by decide +kernel) (hts _ (show Cond.instantiable RX0 8 ∈ lw_tbl by decide +kernel))
  obtain ⟨c1, i1, k1⟩ := u_known (n := 6) (C := RX1) (T := TX1) (N := 6) hts (by decide +kernel) (hts _ (show Cond.instantiable RX1 6 ∈ lw_tbl by decide +kernel))
  obtain ⟨c2, i2, k2⟩ := u_known (n := 2) (C := RX2) (T := TX2) (N := 2) hts (by decide +kernel) (hts _ (show Cond.instantiable RX2 2 ∈ lw_tbl by decide +kernel))
  obtain ⟨c3, i3, k3⟩ := u_known (n := 6) (C := RX3) (T := TX3) (N := 6) hts (by decide +kernel) (hts _ (show Cond.instantiable RX3 6 ∈ lw_tbl by decide +kernel))
  obtain ⟨c4, i4, k4⟩ := u_known (n := 2) (C := RX4) (T := TX4) (N := 2) hts (by decide +kernel) (hts _ (show Cond.instantiable RX4 2 ∈ lw_tbl by decide +kernel))
  obtain ⟨c5, i5, k5⟩ := u_known (n := 7) (C := RX5) (T := TX5) (N := 7) hts (by decide +kernel) (hts _ (show Cond.instantiable RX5 7 ∈ lw_tbl by decide +kernel))
  obtain ⟨c6, i6, k6⟩ := u_known (n := 2) (C := RX6) (T := TX6) (N := 2) hts (by decide +kernel) (hts _ (show Cond.instantiable RX6 2 ∈ lw_tbl by decide +kernel))
  obtain ⟨c7, i7, k7⟩ := u_known (n := 9) (C := RX7) (T := TX7) (N := 9) hts (by decide +kernel) (hts _ (show Cond.instantiable RX7 9 ∈ lw_tbl by decide +kernel))
  obtain ⟨c8, i8, k8⟩ := u_known (n := 42) (C := RX8) (T := TX8) (N := 42) hts (by decide +kernel) (hts _ (show Cond.instantiable RX8 42 ∈ lw_tbl by decide +kernel))
  obtain ⟨g1, gk1, gc1, a1, a2, a3⟩ := Cond.arrayClass_spec (hts (.arrayClass .int) (by decide +kernel))
  obtain ⟨g2, gk2, gc2, b1, b2, b3⟩ := Cond.arrayClass_spec (hts (.arrayClass .boolean) (by decide +kernel))
  have ho := hts (.arrayOver (.object RX5)) (by decide +kernel)
  obtain ⟨gc3, g3, gk3, d1, d2, d3, d4, d5⟩ := Cond.arrayOver_spec ho
  have hoa := hts (.arrayOver (.array .int)) (by decide +kernel)
  obtain ⟨gc4, g4, gk4, e1, e2, e3, e4, e5⟩ := arrayOverA_spec hoa
  refine ⟨(fun k => match k with | 0 => c0 | 1 => c1 | 2 => c2 | 3 => c3 | 4 => c4 | 5 => c5 | 6 => c6 | 7 => c7 | _ => c8, fun k => match k with | 0 => i0 | 1 => i1 | 2 => i2 | 3 => i3 | 4 => i4 | 5 => i5 | 6 => i6 | 7 => i7 | _ => i8), (g1, g2, g3, g4), ⟨fun k q hq => ?_, fun k q hq => ?_⟩, va_AO.of ho, hoa, fun q hq => ?_⟩
  · match k, hq with
    | 0, hq => cases hq; exact k0
    | 1, hq => cases hq; exact k1
    | 2, hq => cases hq; exact k2
    | 3, hq => cases hq; exact k3
    | 4, hq => cases hq; exact k4
    | 5, hq => cases hq; exact k5
    | 6, hq => cases hq; exact k6
    | 7, hq => cases hq; exact k7
    | 8, hq => cases hq; exact k8
    | k + 9, hq => exact absurd hq (by simp [vwCl])
  · match k, hq with
    | 0, hq => cases hq; exact ⟨fun N z => ⟨(fun q hq => by cases hq), gk1, a2, gc1, a3⟩, a1⟩
    | 1, hq => cases hq; exact ⟨fun N z => ⟨(fun q hq => by cases hq), gk2, b2, gc2, b3⟩, b1⟩
    | 2, hq => cases hq; exact ⟨fun N z => ⟨(fun q hq => by cases hq), gk3, d3, gc3, d4⟩, ⟨gk3, gc3, d3, d4, d1, d5⟩⟩
    | 3, hq => cases hq; exact ⟨fun N z => ⟨(fun q hq => by cases hq), gk4, e3, gc4, e4⟩, e5⟩
    | k + 4, hq => exact absurd hq (by simp [tyG])
  · refine va_Nw.of rfl (A := args) (hts _ ?_)
    revert q
    decide +kernel
