/-! PART 24: the constructors. Worlds that grow: a judgement with the world's list at hand -/
def aoa (U : State) : Prop := (Cond.arrayOver (.array .int)).before #[] U = true
theorem aoa.moved {u U : State} (hvm : u.vm.Alike U.vm) (h : aoa u) : aoa U := over_moved hvm h
/-- the constructors that the nest's classes may call of one another -/
def nestL : List (String × Nat × MethodName) := [(RX7, 9, yX0_init), (RX0, 21, yX2_init), (RX7, 18, yX3_init), (RX3, 11, yX2_init), (RX7, 25, yX1_init), (RX6, 21, yX5_init), (RX7, 39, yX4_init)]
def Nst (U : State) : Prop := ∀ q ∈ nestL, va_Nw (.methodLinkNest q.1 q.2.1 q.2.2 "FloodBus") U
def Ev (D : va_G) (G : Gc) (U : State) : Prop := va_K D vwCl (tyG G) U ∧ va_AO RX5 U ∧ aoa U ∧ Nst U
theorem Ev.warm {D : va_G} {G : Gc} {s U : State} (hW : s.WarmedH U.vm) (h : Ev D G s) : Ev D G U := ⟨va_K.moved hW.alike h.1, va_AO.moved hW.alike h.2.1, aoa.moved hW.alike h.2.2.1, fun q hq => va_Nw.warmM hW (h.2.2.2 q hq)⟩
theorem Ev.same {D : va_G} {G : Gc} {u U : State} (h0 : u.vm = U.vm) (h : Ev D G u) : Ev D G U := by
  have hal : u.vm.Alike U.vm := by rw [h0]; exact Vm.Alike.refl _
  exact ⟨va_K.moved hal h.1, va_AO.moved hal h.2.1, aoa.moved hal h.2.2.1, fun q hq => va_Nw.same rfl h0 (h.2.2.2 q hq)⟩
theorem Ev.int {D : va_G} {G : Gc} {s : State} {cA : ClassId} (h : Ev D G s) (hk : va_K D vwCl (tyG G ++ [(cA, .int)]) s) : cA = G.1 := by
  have a := (h.1.2 0 _ rfl).2
  have b := (hk.2 4 _ rfl).2
  exact Option.some.inj (b.symm.trans a)
theorem Ev.bool {D : va_G} {G : Gc} {s : State} {cA : ClassId} (h : Ev D G s) (hk : va_K D vwCl (tyG G ++ [(cA, .boolean)]) s) : cA = G.2.1 := by
  have a := (h.1.2 1 _ rfl).2
  have b := (hk.2 4 _ rfl).2
  exact Option.some.inj (b.symm.trans a)
theorem Ev.str {D : va_G} {G : Gc} {s : State} {cA : ClassId} (h : Ev D G s) (hk : va_K D vwCl (tyG G ++ [(cA, .object RX5)]) s) : cA = G.2.2.1 := by
  obtain ⟨_, _, _, _, _, a⟩ := (h.1.2 2 _ rfl).2
  obtain ⟨_, _, _, _, _, b⟩ := (hk.2 4 _ rfl).2
  exact Option.some.inj (b.symm.trans a)
theorem Ev.arr {D : va_G} {G : Gc} {s : State} {cA : ClassId} (h : Ev D G s) (hk : va_K D vwCl (tyG G ++ [(cA, .array .int)]) s) : cA = G.2.2.2 := by
  have a := (h.1.2 3 _ rfl).2
  have b := (hk.2 4 _ rfl).2
  exact Option.some.inj (b.symm.trans a)
def Cz (p : Program) (s : State) (m : MethodId) (args : Array Value) (meth : Method) (c : Code) (cc : ByteArray) (nL : Nat) (own : String) (Ts : List Cond) (D : va_G) (G : Gc) (A : Nat → Prop) (H0 : Heap) : Prop :=
  p.tables.exec = Jvm.exec ∧ c.code = cc ∧ c.maxLocals = nL ∧ s.vm.findClass own = some m.cls ∧ (∀ w ∈ Ts, w.before args s = true) ∧ Ev D G s ∧ (∀ q, H0.size ≤ q → A q) ∧ (own = RL ∨ meth.name = "<init>")
def Z (p : Program) (l : Launch) (e : Env) (R : Room) (s : State) (m : MethodId) (args : Array Value) (below : List Frame) (meth : Method) (c : Code) (D : va_G) (A : Nat → Prop) (H0 : Heap) (nL cells slots : Nat) (Q : State → Prop) (pc : Nat) (L : List (Nat × Value)) (st : List Value) (ws : va_W) : Prop :=
  ∀ (H : Heap) (locs : List Loc) (ls : Array Slot), va_P D vwCl ws H → va_D A ws → va_S A H0 H locs → lv_has ls nL L → W p l e R s m args below meth c H locs cells slots Q (F0 m pc ls st)
section ZB
variable {p : Program} {l : Launch} {e : Env} {R : Room} {s : State} {m : MethodId} {args : Array Value} {below : List Frame} {meth : Method} {c : Code} {cells slots : Nat} {Q : State → Prop}
variable {cc : ByteArray} {nL : Nat} {own : String} {Ts : List Cond} {D : va_G} {G : Gc} {A : Nat → Prop} {H0 : Heap}
variable {pc n tgt : Nat} {L L2 : List (Nat × Value)} {st : List Value} {ws ws0 t t2 : va_W}
theorem Z_aload_n (X : Cz p s m args meth c cc nL own Ts D G A H0) {i : Fin 4} {j q : Nat} {x : Nat} (hj : (i : Nat) = j) (hq : L[q]? = some (j, .ref x)) (hd : decode cc pc = .ok (.aload_n i, 1)) (hn : pc + 1 = n) (k : Z p l e R s m args below meth c D A H0 nL cells slots Q n L (.ref x :: st) ws) : Z p l e R s m args below meth c D A H0 nL cells slots Q pc L st ws := by
  subst hn; exact fun H locs ls hP hD hS hl => lv_aload_n X.1 X.2.1 hd hj (lv_at hl q hq) (k H locs ls hP hD hS hl)
theorem Z_iconst (X : Cz p s m args meth c cc nL own Ts D G A H0) {i : Int} {v : Int32} (hv : Int32.ofInt i = v) (hd : decode cc pc = .ok (.iconst i, 1)) (hn : pc + 1 = n) (k : Z p l e R s m args below meth c D A H0 nL cells slots Q n L (.int v :: st) ws) : Z p l e R s m args below meth c D A H0 nL cells slots Q pc L st ws := by
  subst hn; exact fun H locs ls hP hD hS hl => lv_iconst X.1 X.2.1 hd hv (k H locs ls hP hD hS hl)
theorem Z_bipush (X : Cz p s m args meth c cc nL own Ts D G A H0) {i : Int} {v : Int32} (hv : (Int8.ofInt i).toInt32 = v) (hd : decode cc pc = .ok (.bipush i, 2)) (hn : pc + 2 = n) (k : Z p l e R s m args below meth c D A H0 nL cells slots Q n L (.int v :: st) ws) : Z p l e R s m args below meth c D A H0 nL cells slots Q pc L st ws := by
  subst hn; exact fun H locs ls hP hD hS hl => lv_bipush X.1 X.2.1 hd hv (k H locs ls hP hD hS hl)
theorem Z_dup (X : Cz p s m args meth c cc nL own Ts D G A H0) {v : Value} (hv : v.category = 1) (hd : decode cc pc = .ok (.dup, 1)) (hn : pc + 1 = n) (k : Z p l e R s m args below meth c D A H0 nL cells slots Q n L (v :: v :: st) ws) : Z p l e R s m args below meth c D A H0 nL cells slots Q pc L (v :: st) ws := by
  subst hn; exact fun H locs ls hP hD hS hl => lv_dup X.1 X.2.1 hd hv (k H locs ls hP hD hS hl)
theorem Z_obj (X : Cz p s m args meth c cc nL own Ts D G A H0) {index : Nat} {a : Nat} (h1 : Cond.methodLink own index objectInit ∈ Ts) (h2 : Cond.instanceMethod objectInit ∈ Ts) (h3 : Cond.code objectInit ⟨#[0xb1]⟩ 1 none ∈ Ts) (hf : 1 ≤ R.frames) (hr : 12 ≤ R.locals) (hd : decode cc pc = .ok (.invokespecial index, 3)) (hn : pc + 3 = n) (k : Z p l e R s m args below meth c D A H0 nL cells slots Q n L [] ws) : Z p l e R s m args below meth c D A H0 nL cells slots Q pc L [.ref a] ws := by
  subst hn; exact fun H locs ls hP hD hS hl => W.objInit X.1 X.2.1 X.2.2.2.1 (X.2.2.2.2.1 _ h1) (X.2.2.2.2.1 _ h2) (X.2.2.2.2.1 _ h3) rfl (by rw [X.2.2.1]; exact hl.1) rfl hd hf hr (W.eq (g2 := F0 m (pc + 3) ls []) rfl (k H locs ls hP hD hS hl))
theorem Z_newi (X : Cz p s m args meth c cc nL own Ts D G A H0) {v : Int32} {N : Nat} (hw : Cond.arrayClass .int ∈ Ts) (hv : ¬ v < 0) (hN : v.toNatClampNeg = N) (hb : N * componentBytes .int ≤ 536870912) (hc : cells + 1 ≤ R.cells) (hs : slots + N ≤ R.slots) (hd : decode cc pc = .ok (.newarray .int, 2)) (hn : pc + 2 = n) (k : ∀ q, Z p l e R s m args below meth c D A H0 nL (cells + 1) (slots + N) Q n L (.ref q :: st) (ws ++ [(q, .inl (G.1, N, .inl (fun _ => 0)))])) : Z p l e R s m args below meth c D A H0 nL cells slots Q pc L (.int v :: st) ws := by
  subst hn
  exact fun H locs ls hP hD hS hl => va_newa (atype := .int) (a0 := (N, .inl (fun _ => 0))) (ty := .int) X.1 X.2.1 (X.2.2.2.2.1 _ hw) rfl X.2.2.2.2.2.1.1 hP hD hS X.2.2.2.2.2.2.1 (fun _ => rfl) hv hN hb hc hs hd (fun q cA H1 hK1 hP1 hD1 hS1 => by
    have e := X.2.2.2.2.2.1.int hK1
    subst e
    exact k q H1 locs ls hP1 hD1 hS1 hl)
theorem Z_newz (X : Cz p s m args meth c cc nL own Ts D G A H0) {v : Int32} {N : Nat} (hw : Cond.arrayClass .boolean ∈ Ts) (hv : ¬ v < 0) (hN : v.toNatClampNeg = N) (hb : N * componentBytes .boolean ≤ 536870912) (hc : cells + 1 ≤ R.cells) (hs : slots + N ≤ R.slots) (hd : decode cc pc = .ok (.newarray .boolean, 2)) (hn : pc + 2 = n) (k : ∀ q, Z p l e R s m args below meth c D A H0 nL (cells + 1) (slots + N) Q n L (.ref q :: st) (ws ++ [(q, .inl (G.2.1, N, .inl (fun _ => 0)))])) : Z p l e R s m args below meth c D A H0 nL cells slots Q pc L (.int v :: st) ws := by
  subst hn
  exact fun H locs ls hP hD hS hl => va_newa (atype := .boolean) (a0 := (N, .inl (fun _ => 0))) (ty := .boolean) X.1 X.2.1 (X.2.2.2.2.1 _ hw) rfl X.2.2.2.2.2.1.1 hP hD hS X.2.2.2.2.2.2.1 (fun _ => rfl) hv hN hb hc hs hd (fun q cA H1 hK1 hP1 hD1 hS1 => by
    have e := X.2.2.2.2.2.1.bool hK1
    subst e
    exact k q H1 locs ls hP1 hD1 hS1 hl)
theorem Z_news (X : Cz p s m args meth c cc nL own Ts D G A H0) {v : Int32} {N index : Nat} (hw : Cond.classLink own index RX5 ∈ Ts) (hv : ¬ v < 0) (hN : v.toNatClampNeg = N) (hb : N * 4 ≤ 536870912) (hc : cells + 1 ≤ R.cells) (hs : slots + N ≤ R.slots) (hd : decode cc pc = .ok (.anewarray index, 3)) (hn : pc + 3 = n) (k : ∀ q, Z p l e R s m args below meth c D A H0 nL (cells + 1) (slots + N) Q n L (.ref q :: st) (ws ++ [(q, .inl (G.2.2.1, N, .inr (.inr (.inr (.inr (fun _ => none))))))])) : Z p l e R s m args below meth c D A H0 nL cells slots Q pc L (.int v :: st) ws := by
  subst hn
  exact fun H locs ls hP hD hS hl => va_newq X.1 X.2.1 X.2.2.2.1 (X.2.2.2.2.1 _ hw) X.2.2.2.2.2.1.2.1 X.2.2.2.2.2.1.1 hP hD hS X.2.2.2.2.2.2.1 hv hN hb hc hs hd (fun q cA H1 hK1 hP1 hD1 hS1 => by
    have e := X.2.2.2.2.2.1.str hK1
    subst e
    exact k q H1 locs ls hP1 hD1 hS1 hl)
theorem Z_new (X : Cz p s m args meth c cc nL own Ts D G A H0) {Cn : String} {T : u_T} {N ci index : Nat} (hin : ∀ w ∈ u_ws Cn T N, w ∈ Ts) (ty : Nat → FieldType) (hty : ∀ k, k < N → parseFieldDescriptor (T k).2.2.1 = some (ty k)) (h1 : Cond.classLink own index Cn ∈ Ts) (h2 : Cond.instantiable Cn N ∈ Ts) (h3 : Cond.initialized Cn ∈ Ts) (hcl : vwCl[ci]? = some (Cn, T, N)) {fs : List Value} (hfs : ∀ j, j < N → defaultValue (ty j) = vp_V fs j) (hc : cells + 1 ≤ R.cells) (hs : slots + N ≤ R.slots) (hd : decode cc pc = .ok (.new index, 3)) (hn : pc + 3 = n) (k : ∀ q, Z p l e R s m args below meth c D A H0 nL (cells + 1) (slots + N) Q n L (.ref q :: st) (ws ++ [(q, .inr (ci, fs))])) : Z p l e R s m args below meth c D A H0 nL cells slots Q pc L st ws := by
  subst hn
  exact fun H locs ls hP hD hS hl => va_new X.1 X.2.1 X.2.2.2.2.1 hin ty hty X.2.2.2.1 (X.2.2.2.2.1 _ h1) (X.2.2.2.2.1 _ h2) (X.2.2.2.2.1 _ h3) X.2.2.2.2.2.1.1 hP hD hS X.2.2.2.2.2.2.1 hcl hfs hc hs hd (fun q H1 hP1 hD1 hS1 => k q H1 locs ls hP1 hD1 hS1 hl)
theorem app_at {α : Type} (w t : List α) (k : Nat) : (w ++ t)[w.length + k]? = t[k]? := by
  rw [List.getElem?_append_right (by omega)]; congr 1; omega
theorem app_set {α : Type} (w t : List α) (k : Nat) (x : α) : (w ++ t).set (w.length + k) x = w ++ t.set k x := by
  rw [List.set_append_right _ _ (by omega)]; congr 2; omega
theorem Z_put (X : Cz p s m args meth c cc nL own Ts D G A H0) {Cn : String} {T : u_T} {NF ci index a k q : Nat} {fs : List Value} {v : Value} {ty : FieldType} (hin : ∀ w ∈ u_ws Cn T NF, w ∈ Ts) (ty0 : Nat → FieldType) (hty : ∀ k, k < NF → parseFieldDescriptor (T k).2.2.1 = some (ty0 k)) (hnm : ∀ a, a < NF → ∀ b, b < NF → a ≠ b → (T a).2.1 ≠ (T b).2.1) (he : t[q]? = some (a, .inr (ci, fs))) (hcl : vwCl[ci]? = some (Cn, T, NF)) (hk : k < NF) (hw : Cond.fieldLink own index (T k).1 (T k).2.1 (T k).2.2.1 ∈ Ts) (hfin : (T k).2.2.2 = false) (hd0 : parseFieldDescriptor (T k).2.2.1 = some ty) (hnr : narrow ty v = v) (hfit : fits ty v = true) (hl0 : k < fs.length) (ht : t.set q (a, .inr (ci, fs.set k v)) = t2) (hd : decode cc pc = .ok (.putfield index, 3)) (hn : pc + 3 = n) (kk : Z p l e R s m args below meth c D A H0 nL cells slots Q n L st (ws0 ++ t2)) : Z p l e R s m args below meth c D A H0 nL cells slots Q pc L (v :: .ref a :: st) (ws0 ++ t) := by
  subst hn; subst ht
  exact fun H locs ls hP hD hS hl => va_put X.1 X.2.1 X.2.2.2.2.1 hin ty0 hty hnm X.2.2.2.1 X.2.2.2.2.2.1.1 hP hD hS (ws0.length + q) ((app_at ws0 t q).trans he) hcl k hk (X.2.2.2.2.1 _ hw) (fun _ h => h) hfin hd0 hnr hfit hl0 hd (fun H1 locs1 hP1 hD1 hS1 => kk H1 locs1 ls (by rw [app_set] at hP1; exact hP1) (by rw [app_set] at hD1; exact hD1) hS1 hl)
theorem Z_putF (X : Cz p s m args meth c cc nL own Ts D G A H0) {Cn : String} {T : u_T} {NF ci index a k q : Nat} {fs : List Value} {v : Value} {ty : FieldType} (hin : ∀ w ∈ u_ws Cn T NF, w ∈ Ts) (ty0 : Nat → FieldType) (hty : ∀ k, k < NF → parseFieldDescriptor (T k).2.2.1 = some (ty0 k)) (hnm : ∀ a, a < NF → ∀ b, b < NF → a ≠ b → (T a).2.1 ≠ (T b).2.1) (he : t[q]? = some (a, .inr (ci, fs))) (hcl : vwCl[ci]? = some (Cn, T, NF)) (hk : k < NF) (hw : Cond.fieldLink own index (T k).1 (T k).2.1 (T k).2.2.1 ∈ Ts) (hfin : (T k).2.2.2 = true) (hne : own ≠ RL) (hdc : (T k).1 = own) (hd0 : parseFieldDescriptor (T k).2.2.1 = some ty) (hnr : narrow ty v = v) (hfit : fits ty v = true) (hl0 : k < fs.length) (ht : t.set q (a, .inr (ci, fs.set k v)) = t2) (hd : decode cc pc = .ok (.putfield index, 3)) (hn : pc + 3 = n) (kk : Z p l e R s m args below meth c D A H0 nL cells slots Q n L st (ws0 ++ t2)) : Z p l e R s m args below meth c D A H0 nL cells slots Q pc L (v :: .ref a :: st) (ws0 ++ t) := by
  subst hn; subst ht
  exact fun H locs ls hP hD hS hl => va_putF X.1 X.2.1 X.2.2.2.2.1 hin ty0 hty hnm X.2.2.2.1 X.2.2.2.2.2.1.1 hP hD hS (ws0.length + q) ((app_at ws0 t q).trans he) hcl k hk (X.2.2.2.2.1 _ hw) (fun _ h => h) hfin (X.2.2.2.2.2.2.2.resolve_left hne) hdc hd0 hnr hfit hl0 hd (fun H1 locs1 hP1 hD1 hS1 => kk H1 locs1 ls (by rw [app_set] at hP1; exact hP1) (by rw [app_set] at hD1; exact hD1) hS1 hl)
end ZB
/-- a constructor: on any world with the object at its end, fields as they are born; behind it stands the shape Sh at the new addresses u (u 0 the object's own) -/
def Kn {S : Type} (l : Launch) (y : MethodName) (ws : List Cond) (rm : Room) (mc ms : Nat) (D : va_G) (G : Gc) (ci : Nat) (fs0 : List Value) (hd : S → Nat) (Sh : S → va_W) : Prop :=
  ∀ (ws0 : va_W) (sz h0 : Nat), Met l y ws rm (va_Pc [.ref h0] (fun U => U.heap.size = sz ∧ va_P D vwCl (ws0 ++ [(h0, .inr (ci, fs0))]) U.heap ∧ Ev D G U ∧ va_D (fun _ => True) (ws0 ++ [(h0, .inr (ci, fs0))])))
    (va_Qv (fun u : S => hd u = h0) (fun u t => va_P D vwCl (ws0 ++ Sh u) t.heap ∧ va_D (va_A (ws0 ++ [(h0, .inr (ci, fs0))]) sz) (ws0 ++ Sh u)) (va_A (ws0 ++ [(h0, .inr (ci, fs0))]) sz)) mc ms (va_A (ws0 ++ [(h0, .inr (ci, fs0))]) sz)
def Qn {S : Type} (D : va_G) (G : Gc) (s : State) (args : Array Value) (below : List Frame) (A : Nat → Prop) (mc ms h0 : Nat) (ws0 : va_W) (hd : S → Nat) (Sh : S → va_W) : State → Prop := MQ below (va_Qv (fun u : S => hd u = h0) (fun u t => va_P D vwCl (ws0 ++ Sh u) t.heap ∧ va_D A (ws0 ++ Sh u)) A) args s mc ms A
theorem Kn.ofZ {S : Type} {l : Launch} {y : MethodName} {ws ws' : List Cond} {rm : Room} {mc ms : Nat} {D : va_G} {G : Gc} {ci : Nat} {fs0 : List Value} {hd : S → Nat} {Sh : S → va_W} {cc : ByteArray} {maxL : Nat} (hy : plainName y.cls = true) (hw : ws = Cond.code y cc maxL none :: ws') (hlen : 1 ≤ maxL) (hnm : y.name = "<init>")
    (body : ∀ (p : Program) (e : Env) (s : State) (m : MethodId) (args : Array Value) (below : List Frame) (meth : Method) (c : Code) (A : Nat → Prop) (ws0 : va_W) (h0 : Nat), Cz p s m args meth c cc maxL y.cls ws D G A s.heap → meth.sig.returnType = none → meth.locks = false → Z p l e rm s m args below meth c D A s.heap maxL 0 0 (Qn D G s args below A mc ms h0 ws0 hd Sh) 0 [(0, .ref h0)] [] (ws0 ++ [(h0, .inr (ci, fs0))])) : Kn l y ws rm mc ms D G ci fs0 hd Sh := by
  intro ws0 sz h0
  refine Met.ofW (cc := cc) (maxL := maxL) (ret := none) hy hw ?_
  intro p e s m args below meth c s₁ B hml hv
  obtain ⟨rfl, hsz, hP, hK, hD0⟩ := hv
  subst hsz
  have hD := hD0.self (sz := s.heap.size)
  have hin : meth.name = "<init>" := ((name_of_methodNamed B.named B.method).1).trans hnm
  have X : Cz p s m [Value.ref h0].toArray meth c cc maxL y.cls ws D G (va_A (ws0 ++ [(h0, .inr (ci, fs0))]) s.heap.size) s.heap := ⟨B.exec, B.bytes, hml, findClass_of_methodNamed B.named, atoms_spec (ws := ws) B.pre, hK, fun q h => Or.inr h, Or.inr hin⟩
  have k := body p e s m [Value.ref h0].toArray below meth c _ ws0 h0 X B.returns B.notSynchronized
  have hl := lv_entry [Value.ref h0] (n := maxL) hlen
  rw [lg_entry_eq]
  exact k s.heap [] _ hP hD va_S.rf hl
