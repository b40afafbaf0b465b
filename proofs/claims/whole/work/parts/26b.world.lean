/-! the world behind both constructors -/
def C0 : Xm := fun a b => if a = 0 ∧ b = 5 then 3 else if a = 0 ∧ b = 6 then 2 else if a = 0 ∧ b = 7 then -1 else if a = 46 ∧ b = 4 then 2 else if a = 46 ∧ b = 5 then 3 else if a = 51 then nI b else if (52 ≤ a ∧ a < 64 ∧ a % 2 = 0) ∧ b = 2 then 1 else 0
def N0 : Nm := (fun a b => if a = 66 ∧ b = 14 then -1 else if a = 66 ∧ b = 16 then 2 else if a = 66 ∧ b = 17 then 3 else if a = 66 ∧ b = 18 then 3 else if a = 66 ∧ b = 19 then 2 else 0, 0)
theorem Rel0 : Rel C0 N0 := by
  refine ⟨⟨0, by omega, rfl, rfl, fun j hj => absurd hj (Nat.not_lt_zero j)⟩, ⟨rfl, 2, by omega, by omega, rfl⟩, ⟨rfl, 3, by omega, by omega, rfl⟩, ⟨rfl, 3, by omega, by omega, rfl⟩, ⟨rfl, 2, by omega, by omega, rfl⟩, ⟨rfl, 0, by omega, by omega, rfl⟩, 0, by omega, rfl, rfl, ⟨rfl, Or.inl ⟨rfl, rfl⟩⟩, ⟨fun v hv => ⟨rfl, bl_0⟩, fun v hv => absurd hv (Nat.not_lt_zero v)⟩, ⟨rfl, fun h => absurd h (Nat.lt_irrefl 0)⟩, ⟨0, by omega, rfl, LM.zero (fun i j hi hj => ?_)⟩, ⟨fun i => i, 0, by omega, rfl, rfl, fun i hi => ⟨hi, rfl⟩, fun i j _ _ h => h, fun i hi => absurd hi (Nat.not_lt_zero i)⟩, ⟨0, by omega, rfl, rfl, fun k hk => absurd hk (Nat.not_lt_zero k)⟩⟩
  have z : ∀ a b, 25 ≤ a → a < 42 → C0 a b = 0 := fun a b h1 h2 => by
    unfold C0
    rw [if_neg (by omega), if_neg (by omega), if_neg (by omega), if_neg (by omega), if_neg (by omega), if_neg (by omega), if_neg (by omega)]
  exact ⟨z (25 + i) j (by omega) (by omega), z (34 + i) j (by omega) (by omega)⟩
def rho (G : Gc) (u : SX7) (v : SX8) (i : Nat) : Nat := ((ShX7 G u ++ ShX8 G v).map Prod.fst).getD i 0
theorem len92 (G : Gc) (u : SX7) (v : SX8) : (ShX7 G u ++ ShX8 G v).length = 92 := rfl
theorem rho_at (G : Gc) (u : SX7) (v : SX8) {i : Nat} (hi : i < 92) : ∃ e, (ShX7 G u ++ ShX8 G v)[i]? = some (rho G u v i, e) := by
  have h : i < (ShX7 G u ++ ShX8 G v).length := by rw [len92]; exact hi
  refine ⟨((ShX7 G u ++ ShX8 G v)[i]).2, ?_⟩
  rw [List.getElem?_eq_getElem h]
  have e : rho G u v i = ((ShX7 G u ++ ShX8 G v)[i]).1 := by
    unfold rho
    rw [List.getD_eq_getElem?_getD, List.getElem?_map, List.getElem?_eq_getElem h]; rfl
  rw [e]
theorem rho_inj {G : Gc} {u : SX7} {v : SX8} {A : Nat → Prop} (hD : va_D A (ShX7 G u ++ ShX8 G v)) : Inj (rho G u v) := fun i j hi hj h => by
  obtain ⟨a, ha⟩ := rho_at G u v hi
  obtain ⟨b, hb⟩ := rho_at G u v hj
  exact hD.1 i j _ _ ha hb h
theorem rho_A {G : Gc} {u : SX7} {v : SX8} {A : Nat → Prop} (hD : va_D A (ShX7 G u ++ ShX8 G v)) : ∀ i, i < 92 → A (rho G u v i) := fun i hi => by
  obtain ⟨a, ha⟩ := rho_at G u v hi
  exact hD.2 i _ ha
theorem out8 {r q : Nat → Nat} (h : ∀ i, i < 8 → r i = q i) : (fun i => if i < 8 then some (r i) else none) = fun i => if i < 8 then some (q i) else none := by
  funext i
  by_cases z : i < 8
  · rw [if_pos z, if_pos z, h i z]
  · rw [if_neg z, if_neg z]
theorem arr6 {c : ClassId} {f g : Nat → Option Nat} (h : ∀ i, i < 6 → f i = g i) : vp_cell c (6, .inr (.inr (.inr (.inr f)))) = vp_cell c (6, .inr (.inr (.inr (.inr g)))) := by
  rw [vp_cell_q, vp_cell_q]
  unfold arrV
  congr 2
  funext j
  show va_rf (f j.val) = va_rf (g j.val)
  rw [h j.val j.isLt]
