/-! THE CLAIM OUT OF ONE WALK OF THE LAW'S BODY. Your part is whole_start (and what it stands on); all else here is the same for every law, but numbers. -/
def R_law : String := "FloodBusLaw"
def lw_P (b : Addr) (xs : List Int32) (args : Array Value) (s : State) : Prop := args = #[.ref b] ∧ s.IntsAt b xs ∧ xs.length ≤ 2048 ∧ (Jvm.Cond.and given_1 narrow_1).before args s = true
def lw_Q (_ : Array Value) (s : State) (o : Outcome) (t : State) : Prop := o = .returned (some (.int 1)) ∧ Framed s o t [] 600000 7302250
def lw_Z (below : List Frame) (a : Array Value) (s : State) : State → Prop := fun t => ∃ o, t.status = .running ∧ Ended t below o ∧ lw_Q a s o t
/-- the law's own end, with 1 on the stack, nothing written that was there before, its room as the claim has it -/
theorem lw_ret {p : Program} {l : Launch} {e : Env} {s : State} {m : MethodId} {below : List Frame} {meth : Method} {c : Code} {b : Nat} (hx : p.tables.exec = Jvm.exec) (hb : c.code = code) (hr : meth.sig.returnType = ret) (hlocks : meth.locks = false) {pc : Nat} {H : Heap} {ls : Array Slot} (hdg : decode code pc = .ok (.ireturn, 1)) : W p l e room_1 s m #[Value.ref b] below meth c H [] 600000 7302250 (lw_Z below #[Value.ref b] s) (F0 m pc ls [.int 1]) := by
  intro T hT X
  obtain ⟨fs, hret, hrun, hended, hW, hframe⟩ := X.leave (v := some (.int 1)) (hlocks := hlocks) (fun h => by rw [hr] at h; cases h)
  have hmeth' : T.vm.method? m = some meth := X.method'
  refine ⟨T.setFrames fs, ?_, .returned (some (.int 1)), hrun, hended, rfl, ⟨_, rfl⟩, hW, hframe⟩
  jvm_step X.here [X.here.top, hx, hb, hdg, hmeth', hr, ret, narrow_b1]
  (try refine ⟨rfl, ?_⟩); (try refine ⟨rfl, ?_⟩)
  first | (intro acts; rw [hret _ acts rfl rfl rfl]) | rw [hret _ _ rfl rfl rfl]
  exact Steps.refl _
/-- what holds at the law's entry: the machine, the code, the tables' words (any of lw_tbl by 'hts w (by decide +kernel)'), the script of L ints xs at the cell b, what the Statement gives of the start (any of its parts by flat_of_before) -/
def lw_At (p : Program) (s : State) (m : MethodId) (meth : Method) (c : Code) (b L : Nat) (xs : Nat → Int32) : Prop :=
  p.tables.exec = Jvm.exec ∧ c.code = code ∧ meth.sig.returnType = ret ∧ c.maxLocals = 4 ∧ s.vm.findClass R_law = some m.cls ∧ (∀ w ∈ lw_tbl, w.before #[Value.ref b] s = true) ∧ va_X b L xs s s.heap ∧ b < s.heap.size ∧ meth.locks = false ∧ (Jvm.Cond.and given_1 narrow_1).before #[Value.ref b] s = true
theorem wl_c7 : Cond.classLink RL 7 RX7 ∈ wsL_law := by decide +kernel
theorem wl_t7 : Cond.instantiable RX7 9 ∈ wsL_law := by decide +kernel
theorem wl_z7 : Cond.initialized RX7 ∈ wsL_law := by decide +kernel
theorem wl_m7 : Cond.methodLink RL 9 yX7_init ∈ wsL_law := by decide +kernel
theorem wl_n7 : Cond.instanceMethod yX7_init ∈ wsL_law := by decide +kernel
theorem wl_u7 : ∀ w ∈ u_ws RX7 TX7 9, w ∈ wsL_law := by decide +kernel
theorem wl_c8 : Cond.classLink RL 10 RX8 ∈ wsL_law := by decide +kernel
theorem wl_t8 : Cond.instantiable RX8 42 ∈ wsL_law := by decide +kernel
theorem wl_z8 : Cond.initialized RX8 ∈ wsL_law := by decide +kernel
theorem wl_m8 : Cond.methodLink RL 12 yX8_init ∈ wsL_law := by decide +kernel
theorem wl_n8 : Cond.instanceMethod yX8_init ∈ wsL_law := by decide +kernel
theorem wl_u8 : ∀ w ∈ u_ws RX8 TX8 42, w ∈ wsL_law := by decide +kernel
/-- from the law's entry for every script of at most 2048 ints to its end with true: both constructors, the world wld at rho, the loop -/
theorem whole_start {p : Program} {e : Env} {s : State} {m : MethodId} {below : List Frame} {meth : Method} {c : Code} (l : Launch) (_hflags : l.flags = flags0) {b L : Nat} {xs : Nat → Int32} (hL : L ≤ 2048) (hAt : lw_At p s m meth c b L xs) : W p l e room_1 s m #[Value.ref b] below meth c s.heap [] 0 0 (lw_Z below #[Value.ref b] s) (entryFrame m ([Value.ref b] : List Value).toArray 4) := by
  obtain ⟨hx, hb, hr, hml, hown, hts, hX, hbl, hlocks, hgv⟩ := hAt
  obtain ⟨D, G, hEv⟩ := ev_start hts
  have hw : ∀ w ∈ wsL_law, w.before #[Value.ref b] s = true := fun w h => hts w (wsL_law_in w h)
  have X : Cz p s m #[Value.ref b] meth c cL_law 4 RL wsL_law D G (fun q => s.heap.size ≤ q) s.heap := ⟨hx, hb, hml, hown, hw, hEv, fun q h => h, Or.inl rfl⟩
  have hl := lv_entry [Value.ref b] (n := 4) (Nat.le_of_ble_eq_true rfl)
  rw [lg_entry_eq]
  suffices k : Z p l e room_1 s m #[Value.ref b] below meth c D (fun q => s.heap.size ≤ q) s.heap 4 0 0 (lw_Z below #[Value.ref b] s) 0 [(0, .ref b)] [] [] from
    k s.heap [] _ (fun k q h => by simp at h) ⟨fun i j p q h => by simp at h, fun k q h => by simp at h⟩ va_S.rf hl
  refine Z_new X (ci := 7) (fs := [.null, .null, .null, .null, .null, .int 0, .int 0, .int 0, .int 0]) wl_u7 tyX7 tyX7_ok wl_c7 wl_t7 wl_z7 rfl bornX7 (Nat.le_of_ble_eq_true rfl) (Nat.le_of_ble_eq_true rfl) dL_law_0 (n := 3) rfl (fun q0 => ?_)
  refine Z_dup X rfl dL_law_3 (n := 4) rfl ?_
  refine Z_call X (KX7 l D G) gL_law_X7_init rfl rfl rfl wl_z7 wl_m7 wl_n7 rfl (by decide +kernel) ⟨Nat.le_of_ble_eq_true rfl, Nat.le_of_ble_eq_true rfl⟩ (Nat.le_of_ble_eq_true rfl) ⟨Nat.le_of_ble_eq_true rfl, Nat.le_of_ble_eq_true rfl⟩ dL_law_4 (n := 7) rfl (fun u hu => ?_)
  have hu : u.1 = q0 := hu
  subst hu
  rw [List.nil_append]
  refine Z_astore_n X (j := 1) (L2 := [(1, .ref u.1), (0, .ref b)]) rfl (by decide) rfl dL_law_7 (n := 8) rfl ?_
  refine Z_new X (ci := 8) (fs := [.int 0, .null, .int 0, .int 0, .null, .null, .null, .null, .null, .null, .null, .null, .null, .int 0, .int 0, .int 0, .int 0, .int 0, .int 0, .int 0, .int 0, .null, .null, .null, .null, .null, .null, .null, .int 0, .null, .int 0, .int 0, .null, .null, .null, .null, .int 0, .int 0, .null, .null, .null, .long 0]) wl_u8 tyX8 tyX8_ok wl_c8 wl_t8 wl_z8 rfl bornX8 (Nat.le_of_ble_eq_true rfl) (Nat.le_of_ble_eq_true rfl) dL_law_8 (n := 11) rfl (fun q1 => ?_)
  refine Z_dup X rfl dL_law_11 (n := 12) rfl ?_
  refine Z_call X (KX8 l D G) gL_law_X8_init rfl rfl rfl wl_z8 wl_m8 wl_n8 rfl (by decide +kernel) ⟨Nat.le_of_ble_eq_true rfl, Nat.le_of_ble_eq_true rfl⟩ (Nat.le_of_ble_eq_true rfl) ⟨Nat.le_of_ble_eq_true rfl, Nat.le_of_ble_eq_true rfl⟩ dL_law_12 (n := 15) rfl (fun v hv => ?_)
  have hv : v.1 = q1 := hv
  subst hv
  refine Z_astore_n X (j := 2) (L2 := [(2, .ref v.1), (1, .ref u.1), (0, .ref b)]) rfl (by decide) rfl dL_law_15 (n := 16) rfl ?_
  refine Z_iconst X (v := 0) (by decide) dL_law_16 (n := 17) rfl ?_
  refine Z_istore_n X (j := 3) (L2 := [(3, .int 0), (2, .ref v.1), (1, .ref u.1), (0, .ref b)]) rfl (by decide) rfl dL_law_17 (n := 18) rfl ?_
  intro H locs ls hP hD hS hl
  have Y : Cx p s m #[Value.ref b] c cL_law 4 RL wsL_law D G (rho G u v) (fun q => s.heap.size ≤ q) s.heap := ⟨hx, hb, hml, hown, hw, hEv.1, rho_inj hD, rho_A hD, fun q h => h⟩
  have hret : ∀ {pc : Nat} {L2 : List (Nat × Value)} {C : Xm} {N : Nm} {v1 : Int32}, decode cL_law pc = .ok (.ireturn, 1) → v1 = 1 → V p l e room_1 s m #[Value.ref b] below meth c D G (rho G u v) (fun q => s.heap.size ≤ q) s.heap 4 92 849 (lw_Z below #[Value.ref b] s) pc L2 [.int v1] C N := by
    intro pc L2 C N v1 hd hv1
    subst hv1
    intro H1 locs1 ls1 hP1 hS1 hl1
    exact va_forget hS1.2.2 (W.widen (k := 600000) (n := 7302250) (Nat.le_of_ble_eq_true rfl) (Nat.le_of_ble_eq_true rfl) (lw_ret hx hb hr hlocks hd))
  have hok : fL_law_L18 L xs (fun _ _ _ => True) (fun v1 => v1 = 1) 600 (nI 0) C0 N0 := law_ok hL (fun _ _ _ => trivial) 600 0 C0 N0 Rel0 (Nat.zero_le _) (by omega)
  have hgo := TL_law_L18 (l := l) (e := e) (below := below) (meth := meth) (cells := 92) (slots := 849) (Q := lw_Z below #[Value.ref b] s) (K := fun v1 => v1 = 1) Y hret hX hbl (Nat.not_le.mpr hbl) ⟨Nat.le_of_ble_eq_true rfl, Nat.le_of_ble_eq_true rfl⟩ (E := fun _ _ _ => True) (fun v3 C N _ => V_iconst Y (v := 1) (by decide) dL_law_723 (n := 724) rfl (hret dL_law_724 rfl)) 600 (nI 0) C0 N0 hok
  refine hgo H locs ls (wld0 hP) hS ?_
  rw [ro0, ro66, nI_0]
  exact lv_sub hl [3, 2, 1, 0] rfl
