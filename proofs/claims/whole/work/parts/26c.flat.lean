/-! the list of both constructors, laid flat (gen/mk26c.py) -/
def fla (G : Gc) (u : SX7) (v : SX8) : va_W := [(u.1, .inr (7, [.ref u.2.1.1, .ref u.2.2.1.1, .ref u.2.2.2.1.1, .ref u.2.2.2.2.1.1, .ref u.2.2.2.2.2.1, .int 3, .int 2, .int (-1), .int 0])), (u.2.1.1, .inr (0, [.ref u.2.1.2.1, .int 0, .ref u.2.1.2.2.1, .int 0, .int 0, .int 0, .int 0, .int 0])), (u.2.1.2.1, intR G 61), (u.2.1.2.2.1, .inr (2, [.ref u.2.1.2.2.2.1, .ref u.2.1.2.2.2.2.2.1])), (u.2.1.2.2.2.1, outR G u.2.1.2.2.2.2.1), (u.2.1.2.2.2.2.1 0, intR G 8), (u.2.1.2.2.2.2.1 1, intR G 8), (u.2.1.2.2.2.2.1 2, intR G 8), (u.2.1.2.2.2.2.1 3, intR G 8), (u.2.1.2.2.2.2.1 4, intR G 8), (u.2.1.2.2.2.2.1 5, intR G 8), (u.2.1.2.2.2.2.1 6, intR G 8), (u.2.1.2.2.2.2.1 7, intR G 8), (u.2.1.2.2.2.2.2.1, outR G u.2.1.2.2.2.2.2.2), (u.2.1.2.2.2.2.2.2 0, intR G 8), (u.2.1.2.2.2.2.2.2 1, intR G 8), (u.2.1.2.2.2.2.2.2 2, intR G 8), (u.2.1.2.2.2.2.2.2 3, intR G 8), (u.2.1.2.2.2.2.2.2 4, intR G 8), (u.2.1.2.2.2.2.2.2 5, intR G 8), (u.2.1.2.2.2.2.2.2 6, intR G 8), (u.2.1.2.2.2.2.2.2 7, intR G 8), (u.2.2.1.1, .inr (3, [.ref u.2.2.1.2.1.1, .int 0, .ref u.2.2.1.2.2.1, .ref u.2.2.1.2.2.2.1, .ref u.2.2.1.2.2.2.2.1, .ref u.2.2.1.2.2.2.2.2])), (u.2.2.1.2.1.1, .inr (2, [.ref u.2.2.1.2.1.2.1, .ref u.2.2.1.2.1.2.2.2.1])), (u.2.2.1.2.1.2.1, outR G u.2.2.1.2.1.2.2.1), (u.2.2.1.2.1.2.2.1 0, intR G 8), (u.2.2.1.2.1.2.2.1 1, intR G 8), (u.2.2.1.2.1.2.2.1 2, intR G 8), (u.2.2.1.2.1.2.2.1 3, intR G 8), (u.2.2.1.2.1.2.2.1 4, intR G 8), (u.2.2.1.2.1.2.2.1 5, intR G 8), (u.2.2.1.2.1.2.2.1 6, intR G 8), (u.2.2.1.2.1.2.2.1 7, intR G 8), (u.2.2.1.2.1.2.2.2.1, outR G u.2.2.1.2.1.2.2.2.2), (u.2.2.1.2.1.2.2.2.2 0, intR G 8), (u.2.2.1.2.1.2.2.2.2 1, intR G 8), (u.2.2.1.2.1.2.2.2.2 2, intR G 8), (u.2.2.1.2.1.2.2.2.2 3, intR G 8), (u.2.2.1.2.1.2.2.2.2 4, intR G 8), (u.2.2.1.2.1.2.2.2.2 5, intR G 8), (u.2.2.1.2.1.2.2.2.2 6, intR G 8), (u.2.2.1.2.1.2.2.2.2 7, intR G 8), (u.2.2.1.2.2.1, booR G 8), (u.2.2.1.2.2.2.1, intR G 8), (u.2.2.1.2.2.2.2.1, intR G 8), (u.2.2.1.2.2.2.2.2, booR G 8), (u.2.2.2.1.1, .inr (1, [.ref u.2.2.2.1.2.1, .ref u.2.2.2.1.2.2.1, .ref u.2.2.2.1.2.2.2, .int 0, .int 2, .int 3])), (u.2.2.2.1.2.1, intR G 8), (u.2.2.2.1.2.2.1, intR G 8), (u.2.2.2.1.2.2.2, intR G 8), (u.2.2.2.2.1.1, .inr (6, [.ref u.2.2.2.2.1.2.1, .int 0])), (u.2.2.2.2.1.2.1, .inl (G.2.2.1, 6, .inr (.inr (.inr (.inr (va_up (va_up (va_up (va_up (va_up (va_up (fun _ => none) (Int32.toNatClampNeg 0) (some u.2.2.2.2.1.2.2.1.1)) (Int32.toNatClampNeg 1) (some u.2.2.2.2.1.2.2.2.1.1)) (Int32.toNatClampNeg 2) (some u.2.2.2.2.1.2.2.2.2.1.1)) (Int32.toNatClampNeg 3) (some u.2.2.2.2.1.2.2.2.2.2.1.1)) (Int32.toNatClampNeg 4) (some u.2.2.2.2.1.2.2.2.2.2.2.1.1)) (Int32.toNatClampNeg 5) (some u.2.2.2.2.1.2.2.2.2.2.2.2.1))))))), (u.2.2.2.2.1.2.2.1.1, .inr (5, [.ref u.2.2.2.2.1.2.2.1.2, .int 0, .int 1, .int 0, .int 0, .int 0, .int 0])), (u.2.2.2.2.1.2.2.1.2, intR G 4), (u.2.2.2.2.1.2.2.2.1.1, .inr (5, [.ref u.2.2.2.2.1.2.2.2.1.2, .int 0, .int 1, .int 0, .int 0, .int 0, .int 0])), (u.2.2.2.2.1.2.2.2.1.2, intR G 4), (u.2.2.2.2.1.2.2.2.2.1.1, .inr (5, [.ref u.2.2.2.2.1.2.2.2.2.1.2, .int 0, .int 1, .int 0, .int 0, .int 0, .int 0])), (u.2.2.2.2.1.2.2.2.2.1.2, intR G 4), (u.2.2.2.2.1.2.2.2.2.2.1.1, .inr (5, [.ref u.2.2.2.2.1.2.2.2.2.2.1.2, .int 0, .int 1, .int 0, .int 0, .int 0, .int 0])), (u.2.2.2.2.1.2.2.2.2.2.1.2, intR G 4), (u.2.2.2.2.1.2.2.2.2.2.2.1.1, .inr (5, [.ref u.2.2.2.2.1.2.2.2.2.2.2.1.2, .int 0, .int 1, .int 0, .int 0, .int 0, .int 0])), (u.2.2.2.2.1.2.2.2.2.2.2.1.2, intR G 4), (u.2.2.2.2.1.2.2.2.2.2.2.2.1, .inr (5, [.ref u.2.2.2.2.1.2.2.2.2.2.2.2.2, .int 0, .int 1, .int 0, .int 0, .int 0, .int 0])), (u.2.2.2.2.1.2.2.2.2.2.2.2.2, intR G 4), (u.2.2.2.2.2.1, .inr (4, [.ref u.2.2.2.2.2.2, .int 0])), (u.2.2.2.2.2.2, intR G 6), (v.1, .inr (8, [.int 0, .ref (v.2 0), .int 0, .int 0, .ref (v.2 1), .ref (v.2 2), .ref (v.2 3), .ref (v.2 4), .ref (v.2 5), .ref (v.2 6), .ref (v.2 7), .ref (v.2 8), .ref (v.2 9), .int 0, .int (-1), .int 0, .int 2, .int 3, .int 3, .int 2, .int 0, .ref (v.2 10), .ref (v.2 11), .ref (v.2 12), .ref (v.2 13), .ref (v.2 14), .ref (v.2 15), .ref (v.2 16), .int 0, .ref (v.2 17), .int 0, .int 0, .ref (v.2 18), .ref (v.2 19), .ref (v.2 20), .ref (v.2 21), .int 0, .int 0, .ref (v.2 22), .ref (v.2 23), .ref (v.2 24), .long 0])), (v.2 0, intR G 61), (v.2 1, intR G 12), (v.2 2, intR G 12), (v.2 3, intR G 12), (v.2 4, intR G 12), (v.2 5, booR G 8), (v.2 6, intR G 8), (v.2 7, intR G 8), (v.2 8, intR G 8), (v.2 9, intR G 8), (v.2 10, intR G 6), (v.2 11, intR G 6), (v.2 12, intR G 6), (v.2 13, intR G 6), (v.2 14, intR G 24), (v.2 15, intR G 6), (v.2 16, intR G 6), (v.2 17, intR G 6), (v.2 18, intR G 12), (v.2 19, intR G 12), (v.2 20, intR G 12), (v.2 21, intR G 12), (v.2 22, intR G 8), (v.2 23, intR G 8), (v.2 24, booR G 8)]
set_option maxRecDepth 100000 in
theorem fla_eq (G : Gc) (u : SX7) (v : SX8) : ShX7 G u ++ ShX8 G v = fla G u v := rfl
theorem ro_of {G : Gc} {u : SX7} {v : SX8} {k a : Nat} {e : va_E} (h : (fla G u v)[k]? = some (a, e)) : rho G u v k = a := by
  unfold rho
  rw [fla_eq, List.getD_eq_getElem?_getD, List.getElem?_map, h]; rfl
theorem fl0 (G : Gc) (u : SX7) (v : SX8) : (fla G u v)[0]? = some (u.1, .inr (7, [.ref u.2.1.1, .ref u.2.2.1.1, .ref u.2.2.2.1.1, .ref u.2.2.2.2.1.1, .ref u.2.2.2.2.2.1, .int 3, .int 2, .int (-1), .int 0])) := rfl
theorem fl1 (G : Gc) (u : SX7) (v : SX8) : (fla G u v)[1]? = some (u.2.1.1, .inr (0, [.ref u.2.1.2.1, .int 0, .ref u.2.1.2.2.1, .int 0, .int 0, .int 0, .int 0, .int 0])) := rfl
theorem fl2 (G : Gc) (u : SX7) (v : SX8) : (fla G u v)[2]? = some (u.2.1.2.1, intR G 61) := rfl
theorem fl3 (G : Gc) (u : SX7) (v : SX8) : (fla G u v)[3]? = some (u.2.1.2.2.1, .inr (2, [.ref u.2.1.2.2.2.1, .ref u.2.1.2.2.2.2.2.1])) := rfl
theorem fl4 (G : Gc) (u : SX7) (v : SX8) : (fla G u v)[4]? = some (u.2.1.2.2.2.1, outR G u.2.1.2.2.2.2.1) := rfl
theorem fl5 (G : Gc) (u : SX7) (v : SX8) : (fla G u v)[5]? = some (u.2.1.2.2.2.2.1 0, intR G 8) := rfl
theorem fl6 (G : Gc) (u : SX7) (v : SX8) : (fla G u v)[6]? = some (u.2.1.2.2.2.2.1 1, intR G 8) := rfl
theorem fl7 (G : Gc) (u : SX7) (v : SX8) : (fla G u v)[7]? = some (u.2.1.2.2.2.2.1 2, intR G 8) := rfl
theorem fl8 (G : Gc) (u : SX7) (v : SX8) : (fla G u v)[8]? = some (u.2.1.2.2.2.2.1 3, intR G 8) := rfl
theorem fl9 (G : Gc) (u : SX7) (v : SX8) : (fla G u v)[9]? = some (u.2.1.2.2.2.2.1 4, intR G 8) := rfl
theorem fl10 (G : Gc) (u : SX7) (v : SX8) : (fla G u v)[10]? = some (u.2.1.2.2.2.2.1 5, intR G 8) := rfl
theorem fl11 (G : Gc) (u : SX7) (v : SX8) : (fla G u v)[11]? = some (u.2.1.2.2.2.2.1 6, intR G 8) := rfl
theorem fl12 (G : Gc) (u : SX7) (v : SX8) : (fla G u v)[12]? = some (u.2.1.2.2.2.2.1 7, intR G 8) := rfl
theorem fl13 (G : Gc) (u : SX7) (v : SX8) : (fla G u v)[13]? = some (u.2.1.2.2.2.2.2.1, outR G u.2.1.2.2.2.2.2.2) := rfl
theorem fl14 (G : Gc) (u : SX7) (v : SX8) : (fla G u v)[14]? = some (u.2.1.2.2.2.2.2.2 0, intR G 8) := rfl
theorem fl15 (G : Gc) (u : SX7) (v : SX8) : (fla G u v)[15]? = some (u.2.1.2.2.2.2.2.2 1, intR G 8) := rfl
theorem fl16 (G : Gc) (u : SX7) (v : SX8) : (fla G u v)[16]? = some (u.2.1.2.2.2.2.2.2 2, intR G 8) := rfl
theorem fl17 (G : Gc) (u : SX7) (v : SX8) : (fla G u v)[17]? = some (u.2.1.2.2.2.2.2.2 3, intR G 8) := rfl
theorem fl18 (G : Gc) (u : SX7) (v : SX8) : (fla G u v)[18]? = some (u.2.1.2.2.2.2.2.2 4, intR G 8) := rfl
theorem fl19 (G : Gc) (u : SX7) (v : SX8) : (fla G u v)[19]? = some (u.2.1.2.2.2.2.2.2 5, intR G 8) := rfl
theorem fl20 (G : Gc) (u : SX7) (v : SX8) : (fla G u v)[20]? = some (u.2.1.2.2.2.2.2.2 6, intR G 8) := rfl
theorem fl21 (G : Gc) (u : SX7) (v : SX8) : (fla G u v)[21]? = some (u.2.1.2.2.2.2.2.2 7, intR G 8) := rfl
theorem fl22 (G : Gc) (u : SX7) (v : SX8) : (fla G u v)[22]? = some (u.2.2.1.1, .inr (3, [.ref u.2.2.1.2.1.1, .int 0, .ref u.2.2.1.2.2.1, .ref u.2.2.1.2.2.2.1, .ref u.2.2.1.2.2.2.2.1, .ref u.2.2.1.2.2.2.2.2])) := rfl
theorem fl23 (G : Gc) (u : SX7) (v : SX8) : (fla G u v)[23]? = some (u.2.2.1.2.1.1, .inr (2, [.ref u.2.2.1.2.1.2.1, .ref u.2.2.1.2.1.2.2.2.1])) := rfl
theorem fl24 (G : Gc) (u : SX7) (v : SX8) : (fla G u v)[24]? = some (u.2.2.1.2.1.2.1, outR G u.2.2.1.2.1.2.2.1) := rfl
theorem fl25 (G : Gc) (u : SX7) (v : SX8) : (fla G u v)[25]? = some (u.2.2.1.2.1.2.2.1 0, intR G 8) := rfl
theorem fl26 (G : Gc) (u : SX7) (v : SX8) : (fla G u v)[26]? = some (u.2.2.1.2.1.2.2.1 1, intR G 8) := rfl
theorem fl27 (G : Gc) (u : SX7) (v : SX8) : (fla G u v)[27]? = some (u.2.2.1.2.1.2.2.1 2, intR G 8) := rfl
theorem fl28 (G : Gc) (u : SX7) (v : SX8) : (fla G u v)[28]? = some (u.2.2.1.2.1.2.2.1 3, intR G 8) := rfl
theorem fl29 (G : Gc) (u : SX7) (v : SX8) : (fla G u v)[29]? = some (u.2.2.1.2.1.2.2.1 4, intR G 8) := rfl
theorem fl30 (G : Gc) (u : SX7) (v : SX8) : (fla G u v)[30]? = some (u.2.2.1.2.1.2.2.1 5, intR G 8) := rfl
theorem fl31 (G : Gc) (u : SX7) (v : SX8) : (fla G u v)[31]? = some (u.2.2.1.2.1.2.2.1 6, intR G 8) := rfl
theorem fl32 (G : Gc) (u : SX7) (v : SX8) : (fla G u v)[32]? = some (u.2.2.1.2.1.2.2.1 7, intR G 8) := rfl
theorem fl33 (G : Gc) (u : SX7) (v : SX8) : (fla G u v)[33]? = some (u.2.2.1.2.1.2.2.2.1, outR G u.2.2.1.2.1.2.2.2.2) := rfl
theorem fl34 (G : Gc) (u : SX7) (v : SX8) : (fla G u v)[34]? = some (u.2.2.1.2.1.2.2.2.2 0, intR G 8) := rfl
theorem fl35 (G : Gc) (u : SX7) (v : SX8) : (fla G u v)[35]? = some (u.2.2.1.2.1.2.2.2.2 1, intR G 8) := rfl
theorem fl36 (G : Gc) (u : SX7) (v : SX8) : (fla G u v)[36]? = some (u.2.2.1.2.1.2.2.2.2 2, intR G 8) := rfl
theorem fl37 (G : Gc) (u : SX7) (v : SX8) : (fla G u v)[37]? = some (u.2.2.1.2.1.2.2.2.2 3, intR G 8) := rfl
theorem fl38 (G : Gc) (u : SX7) (v : SX8) : (fla G u v)[38]? = some (u.2.2.1.2.1.2.2.2.2 4, intR G 8) := rfl
theorem fl39 (G : Gc) (u : SX7) (v : SX8) : (fla G u v)[39]? = some (u.2.2.1.2.1.2.2.2.2 5, intR G 8) := rfl
theorem fl40 (G : Gc) (u : SX7) (v : SX8) : (fla G u v)[40]? = some (u.2.2.1.2.1.2.2.2.2 6, intR G 8) := rfl
theorem fl41 (G : Gc) (u : SX7) (v : SX8) : (fla G u v)[41]? = some (u.2.2.1.2.1.2.2.2.2 7, intR G 8) := rfl
theorem fl42 (G : Gc) (u : SX7) (v : SX8) : (fla G u v)[42]? = some (u.2.2.1.2.2.1, booR G 8) := rfl
theorem fl43 (G : Gc) (u : SX7) (v : SX8) : (fla G u v)[43]? = some (u.2.2.1.2.2.2.1, intR G 8) := rfl
theorem fl44 (G : Gc) (u : SX7) (v : SX8) : (fla G u v)[44]? = some (u.2.2.1.2.2.2.2.1, intR G 8) := rfl
theorem fl45 (G : Gc) (u : SX7) (v : SX8) : (fla G u v)[45]? = some (u.2.2.1.2.2.2.2.2, booR G 8) := rfl
theorem fl46 (G : Gc) (u : SX7) (v : SX8) : (fla G u v)[46]? = some (u.2.2.2.1.1, .inr (1, [.ref u.2.2.2.1.2.1, .ref u.2.2.2.1.2.2.1, .ref u.2.2.2.1.2.2.2, .int 0, .int 2, .int 3])) := rfl
theorem fl47 (G : Gc) (u : SX7) (v : SX8) : (fla G u v)[47]? = some (u.2.2.2.1.2.1, intR G 8) := rfl
theorem fl48 (G : Gc) (u : SX7) (v : SX8) : (fla G u v)[48]? = some (u.2.2.2.1.2.2.1, intR G 8) := rfl
theorem fl49 (G : Gc) (u : SX7) (v : SX8) : (fla G u v)[49]? = some (u.2.2.2.1.2.2.2, intR G 8) := rfl
theorem fl50 (G : Gc) (u : SX7) (v : SX8) : (fla G u v)[50]? = some (u.2.2.2.2.1.1, .inr (6, [.ref u.2.2.2.2.1.2.1, .int 0])) := rfl
theorem fl51 (G : Gc) (u : SX7) (v : SX8) : (fla G u v)[51]? = some (u.2.2.2.2.1.2.1, .inl (G.2.2.1, 6, .inr (.inr (.inr (.inr (va_up (va_up (va_up (va_up (va_up (va_up (fun _ => none) (Int32.toNatClampNeg 0) (some u.2.2.2.2.1.2.2.1.1)) (Int32.toNatClampNeg 1) (some u.2.2.2.2.1.2.2.2.1.1)) (Int32.toNatClampNeg 2) (some u.2.2.2.2.1.2.2.2.2.1.1)) (Int32.toNatClampNeg 3) (some u.2.2.2.2.1.2.2.2.2.2.1.1)) (Int32.toNatClampNeg 4) (some u.2.2.2.2.1.2.2.2.2.2.2.1.1)) (Int32.toNatClampNeg 5) (some u.2.2.2.2.1.2.2.2.2.2.2.2.1))))))) := rfl
theorem fl52 (G : Gc) (u : SX7) (v : SX8) : (fla G u v)[52]? = some (u.2.2.2.2.1.2.2.1.1, .inr (5, [.ref u.2.2.2.2.1.2.2.1.2, .int 0, .int 1, .int 0, .int 0, .int 0, .int 0])) := rfl
theorem fl53 (G : Gc) (u : SX7) (v : SX8) : (fla G u v)[53]? = some (u.2.2.2.2.1.2.2.1.2, intR G 4) := rfl
theorem fl54 (G : Gc) (u : SX7) (v : SX8) : (fla G u v)[54]? = some (u.2.2.2.2.1.2.2.2.1.1, .inr (5, [.ref u.2.2.2.2.1.2.2.2.1.2, .int 0, .int 1, .int 0, .int 0, .int 0, .int 0])) := rfl
theorem fl55 (G : Gc) (u : SX7) (v : SX8) : (fla G u v)[55]? = some (u.2.2.2.2.1.2.2.2.1.2, intR G 4) := rfl
theorem fl56 (G : Gc) (u : SX7) (v : SX8) : (fla G u v)[56]? = some (u.2.2.2.2.1.2.2.2.2.1.1, .inr (5, [.ref u.2.2.2.2.1.2.2.2.2.1.2, .int 0, .int 1, .int 0, .int 0, .int 0, .int 0])) := rfl
theorem fl57 (G : Gc) (u : SX7) (v : SX8) : (fla G u v)[57]? = some (u.2.2.2.2.1.2.2.2.2.1.2, intR G 4) := rfl
theorem fl58 (G : Gc) (u : SX7) (v : SX8) : (fla G u v)[58]? = some (u.2.2.2.2.1.2.2.2.2.2.1.1, .inr (5, [.ref u.2.2.2.2.1.2.2.2.2.2.1.2, .int 0, .int 1, .int 0, .int 0, .int 0, .int 0])) := rfl
theorem fl59 (G : Gc) (u : SX7) (v : SX8) : (fla G u v)[59]? = some (u.2.2.2.2.1.2.2.2.2.2.1.2, intR G 4) := rfl
theorem fl60 (G : Gc) (u : SX7) (v : SX8) : (fla G u v)[60]? = some (u.2.2.2.2.1.2.2.2.2.2.2.1.1, .inr (5, [.ref u.2.2.2.2.1.2.2.2.2.2.2.1.2, .int 0, .int 1, .int 0, .int 0, .int 0, .int 0])) := rfl
theorem fl61 (G : Gc) (u : SX7) (v : SX8) : (fla G u v)[61]? = some (u.2.2.2.2.1.2.2.2.2.2.2.1.2, intR G 4) := rfl
theorem fl62 (G : Gc) (u : SX7) (v : SX8) : (fla G u v)[62]? = some (u.2.2.2.2.1.2.2.2.2.2.2.2.1, .inr (5, [.ref u.2.2.2.2.1.2.2.2.2.2.2.2.2, .int 0, .int 1, .int 0, .int 0, .int 0, .int 0])) := rfl
theorem fl63 (G : Gc) (u : SX7) (v : SX8) : (fla G u v)[63]? = some (u.2.2.2.2.1.2.2.2.2.2.2.2.2, intR G 4) := rfl
theorem fl64 (G : Gc) (u : SX7) (v : SX8) : (fla G u v)[64]? = some (u.2.2.2.2.2.1, .inr (4, [.ref u.2.2.2.2.2.2, .int 0])) := rfl
theorem fl65 (G : Gc) (u : SX7) (v : SX8) : (fla G u v)[65]? = some (u.2.2.2.2.2.2, intR G 6) := rfl
theorem fl66 (G : Gc) (u : SX7) (v : SX8) : (fla G u v)[66]? = some (v.1, .inr (8, [.int 0, .ref (v.2 0), .int 0, .int 0, .ref (v.2 1), .ref (v.2 2), .ref (v.2 3), .ref (v.2 4), .ref (v.2 5), .ref (v.2 6), .ref (v.2 7), .ref (v.2 8), .ref (v.2 9), .int 0, .int (-1), .int 0, .int 2, .int 3, .int 3, .int 2, .int 0, .ref (v.2 10), .ref (v.2 11), .ref (v.2 12), .ref (v.2 13), .ref (v.2 14), .ref (v.2 15), .ref (v.2 16), .int 0, .ref (v.2 17), .int 0, .int 0, .ref (v.2 18), .ref (v.2 19), .ref (v.2 20), .ref (v.2 21), .int 0, .int 0, .ref (v.2 22), .ref (v.2 23), .ref (v.2 24), .long 0])) := rfl
theorem fl67 (G : Gc) (u : SX7) (v : SX8) : (fla G u v)[67]? = some (v.2 0, intR G 61) := rfl
theorem fl68 (G : Gc) (u : SX7) (v : SX8) : (fla G u v)[68]? = some (v.2 1, intR G 12) := rfl
theorem fl69 (G : Gc) (u : SX7) (v : SX8) : (fla G u v)[69]? = some (v.2 2, intR G 12) := rfl
theorem fl70 (G : Gc) (u : SX7) (v : SX8) : (fla G u v)[70]? = some (v.2 3, intR G 12) := rfl
theorem fl71 (G : Gc) (u : SX7) (v : SX8) : (fla G u v)[71]? = some (v.2 4, intR G 12) := rfl
theorem fl72 (G : Gc) (u : SX7) (v : SX8) : (fla G u v)[72]? = some (v.2 5, booR G 8) := rfl
theorem fl73 (G : Gc) (u : SX7) (v : SX8) : (fla G u v)[73]? = some (v.2 6, intR G 8) := rfl
theorem fl74 (G : Gc) (u : SX7) (v : SX8) : (fla G u v)[74]? = some (v.2 7, intR G 8) := rfl
theorem fl75 (G : Gc) (u : SX7) (v : SX8) : (fla G u v)[75]? = some (v.2 8, intR G 8) := rfl
theorem fl76 (G : Gc) (u : SX7) (v : SX8) : (fla G u v)[76]? = some (v.2 9, intR G 8) := rfl
theorem fl77 (G : Gc) (u : SX7) (v : SX8) : (fla G u v)[77]? = some (v.2 10, intR G 6) := rfl
theorem fl78 (G : Gc) (u : SX7) (v : SX8) : (fla G u v)[78]? = some (v.2 11, intR G 6) := rfl
theorem fl79 (G : Gc) (u : SX7) (v : SX8) : (fla G u v)[79]? = some (v.2 12, intR G 6) := rfl
theorem fl80 (G : Gc) (u : SX7) (v : SX8) : (fla G u v)[80]? = some (v.2 13, intR G 6) := rfl
theorem fl81 (G : Gc) (u : SX7) (v : SX8) : (fla G u v)[81]? = some (v.2 14, intR G 24) := rfl
theorem fl82 (G : Gc) (u : SX7) (v : SX8) : (fla G u v)[82]? = some (v.2 15, intR G 6) := rfl
theorem fl83 (G : Gc) (u : SX7) (v : SX8) : (fla G u v)[83]? = some (v.2 16, intR G 6) := rfl
theorem fl84 (G : Gc) (u : SX7) (v : SX8) : (fla G u v)[84]? = some (v.2 17, intR G 6) := rfl
theorem fl85 (G : Gc) (u : SX7) (v : SX8) : (fla G u v)[85]? = some (v.2 18, intR G 12) := rfl
theorem fl86 (G : Gc) (u : SX7) (v : SX8) : (fla G u v)[86]? = some (v.2 19, intR G 12) := rfl
theorem fl87 (G : Gc) (u : SX7) (v : SX8) : (fla G u v)[87]? = some (v.2 20, intR G 12) := rfl
theorem fl88 (G : Gc) (u : SX7) (v : SX8) : (fla G u v)[88]? = some (v.2 21, intR G 12) := rfl
theorem fl89 (G : Gc) (u : SX7) (v : SX8) : (fla G u v)[89]? = some (v.2 22, intR G 8) := rfl
theorem fl90 (G : Gc) (u : SX7) (v : SX8) : (fla G u v)[90]? = some (v.2 23, intR G 8) := rfl
theorem fl91 (G : Gc) (u : SX7) (v : SX8) : (fla G u v)[91]? = some (v.2 24, booR G 8) := rfl
theorem ro0 (G : Gc) (u : SX7) (v : SX8) : rho G u v 0 = u.1 := ro_of (fl0 G u v)
theorem ro1 (G : Gc) (u : SX7) (v : SX8) : rho G u v 1 = u.2.1.1 := ro_of (fl1 G u v)
theorem ro2 (G : Gc) (u : SX7) (v : SX8) : rho G u v 2 = u.2.1.2.1 := ro_of (fl2 G u v)
theorem ro3 (G : Gc) (u : SX7) (v : SX8) : rho G u v 3 = u.2.1.2.2.1 := ro_of (fl3 G u v)
theorem ro4 (G : Gc) (u : SX7) (v : SX8) : rho G u v 4 = u.2.1.2.2.2.1 := ro_of (fl4 G u v)
theorem ro5 (G : Gc) (u : SX7) (v : SX8) : rho G u v 5 = u.2.1.2.2.2.2.1 0 := ro_of (fl5 G u v)
theorem ro6 (G : Gc) (u : SX7) (v : SX8) : rho G u v 6 = u.2.1.2.2.2.2.1 1 := ro_of (fl6 G u v)
theorem ro7 (G : Gc) (u : SX7) (v : SX8) : rho G u v 7 = u.2.1.2.2.2.2.1 2 := ro_of (fl7 G u v)
theorem ro8 (G : Gc) (u : SX7) (v : SX8) : rho G u v 8 = u.2.1.2.2.2.2.1 3 := ro_of (fl8 G u v)
theorem ro9 (G : Gc) (u : SX7) (v : SX8) : rho G u v 9 = u.2.1.2.2.2.2.1 4 := ro_of (fl9 G u v)
theorem ro10 (G : Gc) (u : SX7) (v : SX8) : rho G u v 10 = u.2.1.2.2.2.2.1 5 := ro_of (fl10 G u v)
theorem ro11 (G : Gc) (u : SX7) (v : SX8) : rho G u v 11 = u.2.1.2.2.2.2.1 6 := ro_of (fl11 G u v)
theorem ro12 (G : Gc) (u : SX7) (v : SX8) : rho G u v 12 = u.2.1.2.2.2.2.1 7 := ro_of (fl12 G u v)
theorem ro13 (G : Gc) (u : SX7) (v : SX8) : rho G u v 13 = u.2.1.2.2.2.2.2.1 := ro_of (fl13 G u v)
theorem ro14 (G : Gc) (u : SX7) (v : SX8) : rho G u v 14 = u.2.1.2.2.2.2.2.2 0 := ro_of (fl14 G u v)
theorem ro15 (G : Gc) (u : SX7) (v : SX8) : rho G u v 15 = u.2.1.2.2.2.2.2.2 1 := ro_of (fl15 G u v)
theorem ro16 (G : Gc) (u : SX7) (v : SX8) : rho G u v 16 = u.2.1.2.2.2.2.2.2 2 := ro_of (fl16 G u v)
theorem ro17 (G : Gc) (u : SX7) (v : SX8) : rho G u v 17 = u.2.1.2.2.2.2.2.2 3 := ro_of (fl17 G u v)
theorem ro18 (G : Gc) (u : SX7) (v : SX8) : rho G u v 18 = u.2.1.2.2.2.2.2.2 4 := ro_of (fl18 G u v)
theorem ro19 (G : Gc) (u : SX7) (v : SX8) : rho G u v 19 = u.2.1.2.2.2.2.2.2 5 := ro_of (fl19 G u v)
theorem ro20 (G : Gc) (u : SX7) (v : SX8) : rho G u v 20 = u.2.1.2.2.2.2.2.2 6 := ro_of (fl20 G u v)
theorem ro21 (G : Gc) (u : SX7) (v : SX8) : rho G u v 21 = u.2.1.2.2.2.2.2.2 7 := ro_of (fl21 G u v)
theorem ro22 (G : Gc) (u : SX7) (v : SX8) : rho G u v 22 = u.2.2.1.1 := ro_of (fl22 G u v)
theorem ro23 (G : Gc) (u : SX7) (v : SX8) : rho G u v 23 = u.2.2.1.2.1.1 := ro_of (fl23 G u v)
theorem ro24 (G : Gc) (u : SX7) (v : SX8) : rho G u v 24 = u.2.2.1.2.1.2.1 := ro_of (fl24 G u v)
theorem ro25 (G : Gc) (u : SX7) (v : SX8) : rho G u v 25 = u.2.2.1.2.1.2.2.1 0 := ro_of (fl25 G u v)
theorem ro26 (G : Gc) (u : SX7) (v : SX8) : rho G u v 26 = u.2.2.1.2.1.2.2.1 1 := ro_of (fl26 G u v)
theorem ro27 (G : Gc) (u : SX7) (v : SX8) : rho G u v 27 = u.2.2.1.2.1.2.2.1 2 := ro_of (fl27 G u v)
theorem ro28 (G : Gc) (u : SX7) (v : SX8) : rho G u v 28 = u.2.2.1.2.1.2.2.1 3 := ro_of (fl28 G u v)
theorem ro29 (G : Gc) (u : SX7) (v : SX8) : rho G u v 29 = u.2.2.1.2.1.2.2.1 4 := ro_of (fl29 G u v)
theorem ro30 (G : Gc) (u : SX7) (v : SX8) : rho G u v 30 = u.2.2.1.2.1.2.2.1 5 := ro_of (fl30 G u v)
theorem ro31 (G : Gc) (u : SX7) (v : SX8) : rho G u v 31 = u.2.2.1.2.1.2.2.1 6 := ro_of (fl31 G u v)
theorem ro32 (G : Gc) (u : SX7) (v : SX8) : rho G u v 32 = u.2.2.1.2.1.2.2.1 7 := ro_of (fl32 G u v)
theorem ro33 (G : Gc) (u : SX7) (v : SX8) : rho G u v 33 = u.2.2.1.2.1.2.2.2.1 := ro_of (fl33 G u v)
theorem ro34 (G : Gc) (u : SX7) (v : SX8) : rho G u v 34 = u.2.2.1.2.1.2.2.2.2 0 := ro_of (fl34 G u v)
theorem ro35 (G : Gc) (u : SX7) (v : SX8) : rho G u v 35 = u.2.2.1.2.1.2.2.2.2 1 := ro_of (fl35 G u v)
theorem ro36 (G : Gc) (u : SX7) (v : SX8) : rho G u v 36 = u.2.2.1.2.1.2.2.2.2 2 := ro_of (fl36 G u v)
theorem ro37 (G : Gc) (u : SX7) (v : SX8) : rho G u v 37 = u.2.2.1.2.1.2.2.2.2 3 := ro_of (fl37 G u v)
theorem ro38 (G : Gc) (u : SX7) (v : SX8) : rho G u v 38 = u.2.2.1.2.1.2.2.2.2 4 := ro_of (fl38 G u v)
theorem ro39 (G : Gc) (u : SX7) (v : SX8) : rho G u v 39 = u.2.2.1.2.1.2.2.2.2 5 := ro_of (fl39 G u v)
theorem ro40 (G : Gc) (u : SX7) (v : SX8) : rho G u v 40 = u.2.2.1.2.1.2.2.2.2 6 := ro_of (fl40 G u v)
theorem ro41 (G : Gc) (u : SX7) (v : SX8) : rho G u v 41 = u.2.2.1.2.1.2.2.2.2 7 := ro_of (fl41 G u v)
theorem ro42 (G : Gc) (u : SX7) (v : SX8) : rho G u v 42 = u.2.2.1.2.2.1 := ro_of (fl42 G u v)
theorem ro43 (G : Gc) (u : SX7) (v : SX8) : rho G u v 43 = u.2.2.1.2.2.2.1 := ro_of (fl43 G u v)
theorem ro44 (G : Gc) (u : SX7) (v : SX8) : rho G u v 44 = u.2.2.1.2.2.2.2.1 := ro_of (fl44 G u v)
theorem ro45 (G : Gc) (u : SX7) (v : SX8) : rho G u v 45 = u.2.2.1.2.2.2.2.2 := ro_of (fl45 G u v)
theorem ro46 (G : Gc) (u : SX7) (v : SX8) : rho G u v 46 = u.2.2.2.1.1 := ro_of (fl46 G u v)
theorem ro47 (G : Gc) (u : SX7) (v : SX8) : rho G u v 47 = u.2.2.2.1.2.1 := ro_of (fl47 G u v)
theorem ro48 (G : Gc) (u : SX7) (v : SX8) : rho G u v 48 = u.2.2.2.1.2.2.1 := ro_of (fl48 G u v)
theorem ro49 (G : Gc) (u : SX7) (v : SX8) : rho G u v 49 = u.2.2.2.1.2.2.2 := ro_of (fl49 G u v)
theorem ro50 (G : Gc) (u : SX7) (v : SX8) : rho G u v 50 = u.2.2.2.2.1.1 := ro_of (fl50 G u v)
theorem ro51 (G : Gc) (u : SX7) (v : SX8) : rho G u v 51 = u.2.2.2.2.1.2.1 := ro_of (fl51 G u v)
theorem ro52 (G : Gc) (u : SX7) (v : SX8) : rho G u v 52 = u.2.2.2.2.1.2.2.1.1 := ro_of (fl52 G u v)
theorem ro53 (G : Gc) (u : SX7) (v : SX8) : rho G u v 53 = u.2.2.2.2.1.2.2.1.2 := ro_of (fl53 G u v)
theorem ro54 (G : Gc) (u : SX7) (v : SX8) : rho G u v 54 = u.2.2.2.2.1.2.2.2.1.1 := ro_of (fl54 G u v)
theorem ro55 (G : Gc) (u : SX7) (v : SX8) : rho G u v 55 = u.2.2.2.2.1.2.2.2.1.2 := ro_of (fl55 G u v)
theorem ro56 (G : Gc) (u : SX7) (v : SX8) : rho G u v 56 = u.2.2.2.2.1.2.2.2.2.1.1 := ro_of (fl56 G u v)
theorem ro57 (G : Gc) (u : SX7) (v : SX8) : rho G u v 57 = u.2.2.2.2.1.2.2.2.2.1.2 := ro_of (fl57 G u v)
theorem ro58 (G : Gc) (u : SX7) (v : SX8) : rho G u v 58 = u.2.2.2.2.1.2.2.2.2.2.1.1 := ro_of (fl58 G u v)
theorem ro59 (G : Gc) (u : SX7) (v : SX8) : rho G u v 59 = u.2.2.2.2.1.2.2.2.2.2.1.2 := ro_of (fl59 G u v)
theorem ro60 (G : Gc) (u : SX7) (v : SX8) : rho G u v 60 = u.2.2.2.2.1.2.2.2.2.2.2.1.1 := ro_of (fl60 G u v)
theorem ro61 (G : Gc) (u : SX7) (v : SX8) : rho G u v 61 = u.2.2.2.2.1.2.2.2.2.2.2.1.2 := ro_of (fl61 G u v)
theorem ro62 (G : Gc) (u : SX7) (v : SX8) : rho G u v 62 = u.2.2.2.2.1.2.2.2.2.2.2.2.1 := ro_of (fl62 G u v)
theorem ro63 (G : Gc) (u : SX7) (v : SX8) : rho G u v 63 = u.2.2.2.2.1.2.2.2.2.2.2.2.2 := ro_of (fl63 G u v)
theorem ro64 (G : Gc) (u : SX7) (v : SX8) : rho G u v 64 = u.2.2.2.2.2.1 := ro_of (fl64 G u v)
theorem ro65 (G : Gc) (u : SX7) (v : SX8) : rho G u v 65 = u.2.2.2.2.2.2 := ro_of (fl65 G u v)
theorem ro66 (G : Gc) (u : SX7) (v : SX8) : rho G u v 66 = v.1 := ro_of (fl66 G u v)
theorem ro67 (G : Gc) (u : SX7) (v : SX8) : rho G u v 67 = v.2 0 := ro_of (fl67 G u v)
theorem ro68 (G : Gc) (u : SX7) (v : SX8) : rho G u v 68 = v.2 1 := ro_of (fl68 G u v)
theorem ro69 (G : Gc) (u : SX7) (v : SX8) : rho G u v 69 = v.2 2 := ro_of (fl69 G u v)
theorem ro70 (G : Gc) (u : SX7) (v : SX8) : rho G u v 70 = v.2 3 := ro_of (fl70 G u v)
theorem ro71 (G : Gc) (u : SX7) (v : SX8) : rho G u v 71 = v.2 4 := ro_of (fl71 G u v)
theorem ro72 (G : Gc) (u : SX7) (v : SX8) : rho G u v 72 = v.2 5 := ro_of (fl72 G u v)
theorem ro73 (G : Gc) (u : SX7) (v : SX8) : rho G u v 73 = v.2 6 := ro_of (fl73 G u v)
theorem ro74 (G : Gc) (u : SX7) (v : SX8) : rho G u v 74 = v.2 7 := ro_of (fl74 G u v)
theorem ro75 (G : Gc) (u : SX7) (v : SX8) : rho G u v 75 = v.2 8 := ro_of (fl75 G u v)
theorem ro76 (G : Gc) (u : SX7) (v : SX8) : rho G u v 76 = v.2 9 := ro_of (fl76 G u v)
theorem ro77 (G : Gc) (u : SX7) (v : SX8) : rho G u v 77 = v.2 10 := ro_of (fl77 G u v)
theorem ro78 (G : Gc) (u : SX7) (v : SX8) : rho G u v 78 = v.2 11 := ro_of (fl78 G u v)
theorem ro79 (G : Gc) (u : SX7) (v : SX8) : rho G u v 79 = v.2 12 := ro_of (fl79 G u v)
theorem ro80 (G : Gc) (u : SX7) (v : SX8) : rho G u v 80 = v.2 13 := ro_of (fl80 G u v)
theorem ro81 (G : Gc) (u : SX7) (v : SX8) : rho G u v 81 = v.2 14 := ro_of (fl81 G u v)
theorem ro82 (G : Gc) (u : SX7) (v : SX8) : rho G u v 82 = v.2 15 := ro_of (fl82 G u v)
theorem ro83 (G : Gc) (u : SX7) (v : SX8) : rho G u v 83 = v.2 16 := ro_of (fl83 G u v)
theorem ro84 (G : Gc) (u : SX7) (v : SX8) : rho G u v 84 = v.2 17 := ro_of (fl84 G u v)
theorem ro85 (G : Gc) (u : SX7) (v : SX8) : rho G u v 85 = v.2 18 := ro_of (fl85 G u v)
theorem ro86 (G : Gc) (u : SX7) (v : SX8) : rho G u v 86 = v.2 19 := ro_of (fl86 G u v)
theorem ro87 (G : Gc) (u : SX7) (v : SX8) : rho G u v 87 = v.2 20 := ro_of (fl87 G u v)
theorem ro88 (G : Gc) (u : SX7) (v : SX8) : rho G u v 88 = v.2 21 := ro_of (fl88 G u v)
theorem ro89 (G : Gc) (u : SX7) (v : SX8) : rho G u v 89 = v.2 22 := ro_of (fl89 G u v)
theorem ro90 (G : Gc) (u : SX7) (v : SX8) : rho G u v 90 = v.2 23 := ro_of (fl90 G u v)
theorem ro91 (G : Gc) (u : SX7) (v : SX8) : rho G u v 91 = v.2 24 := ro_of (fl91 G u v)
