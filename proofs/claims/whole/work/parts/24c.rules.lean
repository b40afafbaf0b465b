section ZC
variable {p : Program} {l : Launch} {e : Env} {R : Room} {s : State} {m : MethodId} {args : Array Value} {below : List Frame} {meth : Method} {c : Code} {cells slots : Nat} {Q : State → Prop}
variable {cc : ByteArray} {nL : Nat} {own : String} {Ts : List Cond} {D : va_G} {G : Gc} {A : Nat → Prop} {H0 : Heap}
variable {pc n tgt : Nat} {L L2 : List (Nat × Value)} {st : List Value} {ws ws0 t t2 : va_W}
theorem Z_iload_n (X : Cz p s m args meth c cc nL own Ts D G A H0) {i : Fin 4} {j q : Nat} {x : Int32} (hj : (i : Nat) = j) (hq : L[q]? = some (j, .int x)) (hd : decode cc pc = .ok (.iload_n i, 1)) (hn : pc + 1 = n) (k : Z p l e R s m args below meth c D A H0 nL cells slots Q n L (.int x :: st) ws) : Z p l e R s m args below meth c D A H0 nL cells slots Q pc L st ws := by
  subst hn; exact fun H locs ls hP hD hS hl => lv_iload_n X.1 X.2.1 hd hj (lv_at hl q hq) (k H locs ls hP hD hS hl)
theorem Z_istore_n (X : Cz p s m args meth c cc nL own Ts D G A H0) {i : Fin 4} {j : Nat} {x : Int32} (hj : (i : Nat) = j) (hlt : j < nL) (hL : (j, Value.int x) :: L.filter (fun q => !(q.1 == j) && !(q.1 + 1 == j && q.2.category == 2)) = L2) (hd : decode cc pc = .ok (.istore_n i, 1)) (hn : pc + 1 = n) (k : Z p l e R s m args below meth c D A H0 nL cells slots Q n L2 st ws) : Z p l e R s m args below meth c D A H0 nL cells slots Q pc L (.int x :: st) ws := by
  subst hn; exact fun H locs ls hP hD hS hl => lv_istore_n X.1 X.2.1 hd hj hl hlt hL (fun ls hl => k H locs ls hP hD hS hl)
theorem Z_astore_n (X : Cz p s m args meth c cc nL own Ts D G A H0) {i : Fin 4} {j : Nat} {x : Nat} (hj : (i : Nat) = j) (hlt : j < nL) (hL : (j, Value.ref x) :: L.filter (fun q => !(q.1 == j) && !(q.1 + 1 == j && q.2.category == 2)) = L2) (hd : decode cc pc = .ok (.astore_n i, 1)) (hn : pc + 1 = n) (k : Z p l e R s m args below meth c D A H0 nL cells slots Q n L2 st ws) : Z p l e R s m args below meth c D A H0 nL cells slots Q pc L (.ref x :: st) ws := by
  subst hn; exact fun H locs ls hP hD hS hl => lv_astore_n X.1 X.2.1 hd hj hl hlt hL (fun ls hl => k H locs ls hP hD hS hl)
theorem Z_iinc (X : Cz p s m args meth c cc nL own Ts D G A H0) {j q : Nat} {i : Int} {x d : Int32} (hq : L[q]? = some (j, .int x)) (hv : Int32.ofInt i = d) (hlt : j < nL) {y : Int32} (hy : y = x + d) (hL : (j, Value.int y) :: L.filter (fun q => !(q.1 == j) && !(q.1 + 1 == j && q.2.category == 2)) = L2) (hd : decode cc pc = .ok (.iinc j i, 3)) (hn : pc + 3 = n) (k : Z p l e R s m args below meth c D A H0 nL cells slots Q n L2 st ws) : Z p l e R s m args below meth c D A H0 nL cells slots Q pc L st ws := by
  subst hn; exact fun H locs ls hP hD hS hl => lv_iinc X.1 X.2.1 hd hl hq (by rw [hv, hy]) hlt hL (fun ls hl => k H locs ls hP hD hS hl)
theorem Z_icmp_ge (X : Cz p s m args meth c cc nL own Ts D G A H0) {x y : Int32} {off : Int} (hd : decode cc pc = .ok (.if_icmp .ge off, 3)) (ht : (pc : Int) + off = (tgt : Int)) (hn : pc + 3 = n) (kt : y ≤ x → Z p l e R s m args below meth c D A H0 nL cells slots Q tgt L st ws) (kf : ¬ y ≤ x → Z p l e R s m args below meth c D A H0 nL cells slots Q n L st ws) : Z p l e R s m args below meth c D A H0 nL cells slots Q pc L (.int y :: .int x :: st) ws := by
  subst hn; exact fun H locs ls hP hD hS hl => lv_icmp_ge X.1 X.2.1 hd ht (fun h => kt h H locs ls hP hD hS hl) (fun h => kf h H locs ls hP hD hS hl)
theorem Z_goto (X : Cz p s m args meth c cc nL own Ts D G A H0) {off : Int} (hd : decode cc pc = .ok (.goto off, 3)) (ht : (pc : Int) + off = (tgt : Int)) (k : Z p l e R s m args below meth c D A H0 nL cells slots Q tgt L st ws) : Z p l e R s m args below meth c D A H0 nL cells slots Q pc L st ws :=
  fun H locs ls hP hD hS hl => lv_goto X.1 X.2.1 hd ht (k H locs ls hP hD hS hl)
theorem Z_getR (X : Cz p s m args meth c cc nL own Ts D G A H0) {Cn : String} {T : u_T} {NF ci index a k q : Nat} {fs : List Value} {v : Value} (hin : ∀ w ∈ u_ws Cn T NF, w ∈ Ts) (he : t[q]? = some (a, .inr (ci, fs))) (hcl : vwCl[ci]? = some (Cn, T, NF)) (hk : k < NF) (hw : Cond.fieldLink own index (T k).1 (T k).2.1 (T k).2.2.1 ∈ Ts) (hv : fs[k]? = some v) (hd : decode cc pc = .ok (.getfield index, 3)) (hn : pc + 3 = n) (kk : Z p l e R s m args below meth c D A H0 nL cells slots Q n L (v :: st) (ws0 ++ t)) : Z p l e R s m args below meth c D A H0 nL cells slots Q pc L (.ref a :: st) (ws0 ++ t) := by
  subst hn; exact fun H locs ls hP hD hS hl => va_get X.1 X.2.1 X.2.2.2.2.1 hin X.2.2.2.1 X.2.2.2.2.2.1.1 hP (ws0.length + q) ((app_at ws0 t q).trans he) hcl k hk (X.2.2.2.2.1 _ hw) (fun _ h => h) hv hd (kk H locs ls hP hD hS hl)
theorem Z_aast (X : Cz p s m args meth c cc nL own Ts D G A H0) {q qk a v N : Nat} {f : Nat → Option Nat} {vs : List Value} {i : Int32} (ha : t[q]? = some (a, .inl (G.2.2.1, N, .inr (.inr (.inr (.inr f)))))) (hv : t[qk]? = some (v, .inr (5, vs))) (hin : inb i N) (ht : t.set q (a, .inl (G.2.2.1, N, .inr (.inr (.inr (.inr (va_up f i.toNatClampNeg (some v))))))) = t2) (hd : decode cc pc = .ok (.aastore, 1)) (hn : pc + 1 = n) (kk : Z p l e R s m args below meth c D A H0 nL cells slots Q n L st (ws0 ++ t2)) : Z p l e R s m args below meth c D A H0 nL cells slots Q pc L (.ref v :: .int i :: .ref a :: st) (ws0 ++ t) := by
  subst hn; subst ht
  exact fun H locs ls hP hD hS hl => va_astq (r := (RX5, TX5, 7)) X.1 X.2.1 X.2.2.2.2.2.1.1 hP hD hS (ws0.length + q) 2 (ws0.length + qk) 5 ((app_at ws0 t q).trans ha) rfl ((app_at ws0 t qk).trans hv) rfl (inb_in hin) hd (fun H1 locs1 hP1 hD1 hS1 => kk H1 locs1 ls (by rw [app_set] at hP1; exact hP1) (by rw [app_set] at hD1; exact hD1) hS1 hl)
theorem Z_call {S : Type} (X : Cz p s m args meth c cc nL own Ts D G A H0) {y : MethodName} {bytes : ByteArray} {maxL : Nat} {wy wy' : List Cond} {rm : Room} {index mc ms ci q : Nat} {fs0 : List Value} {hdf : S → Nat} {Sh : S → va_W} (hM : Kn l y wy rm mc ms D G ci fs0 hdf Sh) (hg : GoodIn Ts wy) (hw : wy = Cond.code y bytes maxL none :: wy') (hrc : rm.cells = mc) (hrs : rm.slots = ms) (hi : Cond.initialized y.cls ∈ Ts) (hli : Cond.methodLink own index y ∈ Ts) (hin : Cond.instanceMethod y ∈ Ts) (hy1 : y.name = "<init>") (hy : y.cls ≠ "java/lang/invoke/MethodHandle" ∧ y.cls ≠ "java/lang/invoke/VarHandle" ∧ (parseMethodDescriptor y.desc).map (fun d => d.parameters.length) = some 0) (hR : rm.frames + 1 ≤ R.frames ∧ 8 + (maxL + 11) + rm.locals ≤ R.locals) (hroom : (st.map fun v => v.category).sum ≤ 8) (hf : cells + mc ≤ R.cells ∧ slots + ms ≤ R.slots) (hd : decode cc pc = .ok (.invokespecial index, 3)) (hn : pc + 3 = n)
    (k : ∀ u : S, hdf u = q → Z p l e R s m args below meth c D A H0 nL (cells + mc) (slots + ms) Q n L st (ws0 ++ Sh u)) : Z p l e R s m args below meth c D A H0 nL cells slots Q pc L (.ref q :: st) (ws0 ++ [(q, .inr (ci, fs0))]) := by
  subst hn
  intro H locs ls hP hD hS hl
  have fa : ∀ x, va_A (ws0 ++ [(q, .inr (ci, fs0))]) H.size x → A x := fun x h => by
    rcases h with ⟨k, e, h⟩ | h
    · exact hD.2 k _ h
    · exact X.2.2.2.2.2.2.1 x (Nat.le_trans hS.1 h)
  exact va_callv (va_runI (As := []) (rest := st) ⟨X.1, X.2.1, X.2.2.1, X.2.2.2.1, X.2.2.2.2.1⟩ (hM ws0 H.size q) (cwI 0 X.2.2.2.2.1 hg hw hrc hrs (X.2.2.2.2.1 _ hi) (X.2.2.2.2.1 _ hli) (X.2.2.2.2.1 _ hin) hy1 hy hR) ⟨fun a U g mk z => by obtain ⟨z0, z1, zP, zK, zD⟩ := z; exact ⟨z0, z1, zP, Ev.same (u := U) (U := U.calling g mk a) rfl zK, zD⟩, fun U hU hW => ⟨rfl, by rw [hU], by rw [hU]; exact hP, Ev.warm hW X.2.2.2.2.2.1, hD.weaken (fun _ _ _ _ => trivial)⟩⟩ rfl rfl hl.1 rfl (lv_room hroom) hd hf) hS (fun x _ h => fa x h) fa
    (fun u t H1 locs1 ht hvm hpost hB hz1 hk1 hS1 => k u hpost H1 locs1 ls (by rw [← ht]; exact hB.1) (hB.2.weaken (fun _ x _ h => fa x.1 h)) hS1 hl)
theorem Z_callN {S : Type} (X : Cz p s m args meth c cc nL own Ts D G A H0) {y : MethodName} {bytes : ByteArray} {maxL : Nat} {wy wy' : List Cond} {rm : Room} {index mc ms ci q : Nat} {fs0 : List Value} {hdf : S → Nat} {Sh : S → va_W} (hM : Kn l y wy rm mc ms D G ci fs0 hdf Sh) (hg : GoodIn Ts wy) (hw : wy = Cond.code y bytes maxL none :: wy') (hrc : rm.cells = mc) (hrs : rm.slots = ms) (hi : Cond.initialized y.cls ∈ Ts) (hli : (own, index, y) ∈ nestL) (hin : Cond.instanceMethod y ∈ Ts) (hy1 : y.name = "<init>") (hy : y.cls ≠ "java/lang/invoke/MethodHandle" ∧ y.cls ≠ "java/lang/invoke/VarHandle" ∧ (parseMethodDescriptor y.desc).map (fun d => d.parameters.length) = some 0) (hR : rm.frames + 1 ≤ R.frames ∧ 8 + (maxL + 11) + rm.locals ≤ R.locals) (hroom : (st.map fun v => v.category).sum ≤ 8) (hf : cells + mc ≤ R.cells ∧ slots + ms ≤ R.slots) (hd : decode cc pc = .ok (.invokespecial index, 3)) (hn : pc + 3 = n)
    (k : ∀ u : S, hdf u = q → Z p l e R s m args below meth c D A H0 nL (cells + mc) (slots + ms) Q n L st (ws0 ++ Sh u)) : Z p l e R s m args below meth c D A H0 nL cells slots Q pc L (.ref q :: st) (ws0 ++ [(q, .inr (ci, fs0))]) := by
  subst hn
  intro H locs ls hP hD hS hl
  have fa : ∀ x, va_A (ws0 ++ [(q, .inr (ci, fs0))]) H.size x → A x := fun x h => by
    rcases h with ⟨k, e, h⟩ | h
    · exact hD.2 k _ h
    · exact X.2.2.2.2.2.2.1 x (Nat.le_trans hS.1 h)
  exact va_callv (va_runIN (host := "FloodBus") (As := []) (rest := st) ⟨X.1, X.2.1, X.2.2.1, X.2.2.2.1, X.2.2.2.2.1⟩ (hM ws0 H.size q) ⟨va_cnB 0 X.2.2.2.2.1 hg hw hrc hrs (X.2.2.2.2.2.1.2.2.2 _ hli) (X.2.2.2.2.1 _ hi) hy hR, hy1, X.2.2.2.2.1 _ hin⟩ ⟨fun a U g mk z => by obtain ⟨z0, z1, zP, zK, zD⟩ := z; exact ⟨z0, z1, zP, Ev.same (u := U) (U := U.calling g mk a) rfl zK, zD⟩, fun U hU hW => ⟨rfl, by rw [hU], by rw [hU]; exact hP, Ev.warm hW X.2.2.2.2.2.1, hD.weaken (fun _ _ _ _ => trivial)⟩⟩ rfl rfl hl.1 rfl (lv_room hroom) hd hf) hS (fun x _ h => fa x h) fa
    (fun u t H1 locs1 ht hvm hpost hB hz1 hk1 hS1 => k u hpost H1 locs1 ls (by rw [← ht]; exact hB.1) (hB.2.weaken (fun _ x _ h => fa x.1 h)) hS1 hl)
theorem Z_ret {S : Type} (X : Cz p s m args meth c cc nL own Ts D G A s.heap) (hr : meth.sig.returnType = none) (hlk : meth.locks = false) {mc ms h0 : Nat} {hdf : S → Nat} {Sh : S → va_W} (u : S) (hu : hdf u = h0) (ht : t = Sh u) (hc : cells = mc) (hs : slots = ms) (hd : decode cc pc = .ok (.return_, 1)) : Z p l e R s m args below meth c D A s.heap nL cells slots (Qn D G s args below A mc ms h0 ws0 hdf Sh) pc L [] (ws0 ++ t) := by
  subst ht; subst hc; subst hs
  exact fun H locs ls hP hD hS hl => W.vret X.1 X.2.1 hr (fun t ht hW => ⟨⟨u, rfl, hu, by rw [ht]; exact hP, hD⟩, hS.F ht⟩) hS.2.2 hd hlk
theorem Z_as {x : va_W} (ht : t ++ x = t2) (k : Z p l e R s m args below meth c D A H0 nL cells slots Q pc L st (ws0 ++ t2)) : Z p l e R s m args below meth c D A H0 nL cells slots Q pc L st ((ws0 ++ t) ++ x) := by
  subst ht; rw [List.append_assoc]; exact k
theorem Z_same (hp : ∀ H, va_P D vwCl t H → va_P D vwCl t2 H) (hf : t2.map Prod.fst = t.map Prod.fst) (k : Z p l e R s m args below meth c D A H0 nL cells slots Q pc L st (ws0 ++ t2)) : Z p l e R s m args below meth c D A H0 nL cells slots Q pc L st (ws0 ++ t) := by
  have hlen : t2.length = t.length := by have := congrArg List.length hf; simpa using this
  have hfst : ∀ (k : Nat) (q2 : Nat × va_E), t2[k]? = some q2 → ∃ q1 : Nat × va_E, t[k]? = some q1 ∧ q1.1 = q2.1 := fun k q2 h => by
    have h1 : (t2.map Prod.fst)[k]? = some q2.1 := by rw [List.getElem?_map, h]; rfl
    rw [hf, List.getElem?_map] at h1
    cases h3 : t[k]? with
    | none => rw [h3] at h1; cases h1
    | some q1 => rw [h3] at h1; exact ⟨q1, rfl, Option.some.inj h1⟩
  have hap : ∀ (k : Nat) (q2 : Nat × va_E), (ws0 ++ t2)[k]? = some q2 → ∃ q1 : Nat × va_E, (ws0 ++ t)[k]? = some q1 ∧ q1.1 = q2.1 := fun k q2 h => by
    by_cases hk : k < ws0.length
    · rw [List.getElem?_append_left hk] at h ⊢; exact ⟨q2, h, rfl⟩
    · rw [List.getElem?_append_right (by omega)] at h ⊢; exact hfst _ q2 h
  intro H locs ls hP hD hS hl
  refine k H locs ls (fun k q h => ?_) ⟨fun i j x y hx hy hxy => ?_, fun k q h => ?_⟩ hS hl
  · by_cases hk : k < ws0.length
    · rw [List.getElem?_append_left hk] at h; exact hP k q (by rw [List.getElem?_append_left hk]; exact h)
    · rw [List.getElem?_append_right (by omega)] at h
      exact hp H (fun j x hx => hP (ws0.length + j) x ((app_at ws0 t j).trans hx)) _ q h
  · obtain ⟨x1, a1, a2⟩ := hap i x hx
    obtain ⟨y1, b1, b2⟩ := hap j y hy
    exact hD.1 i j x1 y1 a1 b1 (by rw [a2, b2]; exact hxy)
  · obtain ⟨q1, a1, a2⟩ := hap k q h
    rw [← a2]; exact hD.2 k q1 a1
theorem Z_mna (X : Cz p s m args meth c cc nL own Ts D G A H0) {index : Nat} (hw : Cond.classLink own index "[[I" ∈ Ts) (hwa : Cond.arrayClass .int ∈ Ts) (hc : cells + (1 + 8) ≤ R.cells) (hs : slots + (8 + 8 * 8) ≤ R.slots) (hd : decode cc pc = .ok (.multianewarray index 2, 4)) (hn : pc + 4 = n) (k : ∀ (q : Nat) (r : Nat → Nat), Z p l e R s m args below meth c D A H0 nL (cells + 1 + 8) (slots + 8 + 8 * 8) Q n L (.ref q :: st) (ws ++ ((q, .inl (G.2.2.2, 8, .inr (.inr (.inr (.inr (fun i => if i < 8 then some (r i) else none)))))) :: (List.range 8).map (fun i => (r i, Sum.inl (G.1, 8, .inl (fun _ => 0))))))) : Z p l e R s m args below meth c D A H0 nL cells slots Q pc L (.int 8 :: .int 8 :: st) ws := by
  subst hn
  intro H locs ls hP hD hS hl
  have hcy : s.vm.findClass (FieldType.array .int).toString = some G.1 := (X.2.2.2.2.2.1.1.2 0 _ rfl).2
  refine va_mna (X := ws) (L := []) (f := fun _ => .inr (0, [])) (ty := .int) (cy := G.1) (N' := 8) (K' := 8) (z := (8, .inl (fun _ => 0))) X.1 X.2.1 X.2.2.2.1 (X.2.2.2.2.1 _ hw) X.2.2.2.2.2.1.2.2.1 (X.2.2.2.2.1 _ hwa) hcy X.2.2.2.2.2.1.1 (by show va_P D vwCl (ws ++ []) H; rw [List.append_nil]; exact hP) (by show va_D A (ws ++ []); rw [List.append_nil]; exact hD) hS X.2.2.2.2.2.2.1 (by decide) (by decide) (by decide) (by decide) (by decide) (by decide) (by decide) rfl rfl hc hs (fun c => (arrV_new c 8 (.int 0)).trans rfl) hd (fun q r cA H1 _ _ hK1 hP1 hD1 hS1 => ?_)
  have e := X.2.2.2.2.2.1.arr hK1
  subst e
  rw [← vr_rows (L := []) (fun _ _ h => by cases h)] at hP1 hD1
  refine k q r H1 locs ls ?_ ?_ hS1 hl
  · rw [List.append_assoc] at hP1
    exact hP1
  · rw [List.append_assoc] at hD1
    exact hD1
end ZC
