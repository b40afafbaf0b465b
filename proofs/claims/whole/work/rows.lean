section
-- ===== PART A: goes FIRST, ahead of the names: the tables' words, and 'selects' of the private methods out of them =====
/-- a private method of a class that the tables say can be made, by its rows of tables_1 -/
def lw_okq (q : MethodName × Nat) : Prop := (q.1.cls ≠ "java/lang/invoke/MethodHandle" ∧ q.1.cls ≠ "java/lang/invoke/VarHandle") ∧ Cond.instantiable q.1.cls q.2 ∈ tables_1 ∧ Cond.privateMethod q.1 ∈ tables_1 ∧ Cond.instanceMethod q.1 ∈ tables_1
theorem lw_p0 : lw_okq (⟨"FloodBus$Description", "accepts", "(I)Z"⟩, 8) := ⟨⟨by decide +kernel, by decide +kernel⟩, List.mem_of_getElem? (i := 22) (by decide +kernel), List.mem_of_getElem? (i := 263) (by decide +kernel), List.mem_of_getElem? (i := 264) (by decide +kernel)⟩
theorem lw_p1 : lw_okq (⟨"FloodBus$Description", "acceptsNodeCount", "(I)Z"⟩, 8) := ⟨⟨by decide +kernel, by decide +kernel⟩, List.mem_of_getElem? (i := 22) (by decide +kernel), List.mem_of_getElem? (i := 267) (by decide +kernel), List.mem_of_getElem? (i := 268) (by decide +kernel)⟩
theorem lw_p2 : lw_okq (⟨"FloodBus$Description", "acceptsLinkMark", "(I)Z"⟩, 8) := ⟨⟨by decide +kernel, by decide +kernel⟩, List.mem_of_getElem? (i := 22) (by decide +kernel), List.mem_of_getElem? (i := 271) (by decide +kernel), List.mem_of_getElem? (i := 272) (by decide +kernel)⟩
theorem lw_p3 : lw_okq (⟨"FloodBus$Description", "acceptsFirstNode", "(I)Z"⟩, 8) := ⟨⟨by decide +kernel, by decide +kernel⟩, List.mem_of_getElem? (i := 22) (by decide +kernel), List.mem_of_getElem? (i := 275) (by decide +kernel), List.mem_of_getElem? (i := 276) (by decide +kernel)⟩
theorem lw_p4 : lw_okq (⟨"FloodBus$Description", "acceptsSecondNode", "(I)Z"⟩, 8) := ⟨⟨by decide +kernel, by decide +kernel⟩, List.mem_of_getElem? (i := 22) (by decide +kernel), List.mem_of_getElem? (i := 279) (by decide +kernel), List.mem_of_getElem? (i := 280) (by decide +kernel)⟩
theorem lw_p5 : lw_okq (⟨"FloodBus$Description", "acceptsStrength", "(I)Z"⟩, 8) := ⟨⟨by decide +kernel, by decide +kernel⟩, List.mem_of_getElem? (i := 22) (by decide +kernel), List.mem_of_getElem? (i := 287) (by decide +kernel), List.mem_of_getElem? (i := 288) (by decide +kernel)⟩
theorem lw_p6 : lw_okq (⟨"FloodBus$Description", "acceptsLossPeriod", "(I)Z"⟩, 8) := ⟨⟨by decide +kernel, by decide +kernel⟩, List.mem_of_getElem? (i := 22) (by decide +kernel), List.mem_of_getElem? (i := 295) (by decide +kernel), List.mem_of_getElem? (i := 296) (by decide +kernel)⟩
theorem lw_p7 : lw_okq (⟨"FloodBus$Flooding", "hold", "(LFloodBus$Network;III)V"⟩, 6) := ⟨⟨by decide +kernel, by decide +kernel⟩, List.mem_of_getElem? (i := 110) (by decide +kernel), List.mem_of_getElem? (i := 365) (by decide +kernel), List.mem_of_getElem? (i := 366) (by decide +kernel)⟩
theorem lw_p8 : lw_okq (⟨"FloodBus$Flooding", "runSlot", "(LFloodBus$Network;I)V"⟩, 6) := ⟨⟨by decide +kernel, by decide +kernel⟩, List.mem_of_getElem? (i := 110) (by decide +kernel), List.mem_of_getElem? (i := 372) (by decide +kernel), List.mem_of_getElem? (i := 373) (by decide +kernel)⟩
theorem lw_p9 : lw_okq (⟨"FloodBus$Flooding", "measureLevels", "(LFloodBus$Links;II)V"⟩, 6) := ⟨⟨by decide +kernel, by decide +kernel⟩, List.mem_of_getElem? (i := 110) (by decide +kernel), List.mem_of_getElem? (i := 376) (by decide +kernel), List.mem_of_getElem? (i := 377) (by decide +kernel)⟩
theorem lw_p10 : lw_okq (⟨"FloodBus$Flooding", "transmits", "(II)Z"⟩, 6) := ⟨⟨by decide +kernel, by decide +kernel⟩, List.mem_of_getElem? (i := 110) (by decide +kernel), List.mem_of_getElem? (i := 380) (by decide +kernel), List.mem_of_getElem? (i := 381) (by decide +kernel)⟩
theorem lw_p11 : lw_okq (⟨"FloodBus$Flooding", "capturedPacket", "()I"⟩, 6) := ⟨⟨by decide +kernel, by decide +kernel⟩, List.mem_of_getElem? (i := 110) (by decide +kernel), List.mem_of_getElem? (i := 388) (by decide +kernel), List.mem_of_getElem? (i := 389) (by decide +kernel)⟩
theorem lw_p12 : lw_okq (⟨"FloodBus", "runOneRound", "()I"⟩, 9) := ⟨⟨by decide +kernel, by decide +kernel⟩, List.mem_of_getElem? (i := 14) (by decide +kernel), List.mem_of_getElem? (i := 448) (by decide +kernel), List.mem_of_getElem? (i := 449) (by decide +kernel)⟩
theorem lw_p13 : lw_okq (⟨"FloodBus$Schedule", "insert", "(LFloodBus$StreamTable;I)V"⟩, 2) := ⟨⟨by decide +kernel, by decide +kernel⟩, List.mem_of_getElem? (i := 193) (by decide +kernel), List.mem_of_getElem? (i := 464) (by decide +kernel), List.mem_of_getElem? (i := 465) (by decide +kernel)⟩
theorem lw_p14 : lw_okq (⟨"FloodBus", "serveSchedule", "()I"⟩, 9) := ⟨⟨by decide +kernel, by decide +kernel⟩, List.mem_of_getElem? (i := 14) (by decide +kernel), List.mem_of_getElem? (i := 479) (by decide +kernel), List.mem_of_getElem? (i := 480) (by decide +kernel)⟩
theorem lw_p15 : lw_okq (⟨"FloodBus", "takeOver", "()V"⟩, 9) := ⟨⟨by decide +kernel, by decide +kernel⟩, List.mem_of_getElem? (i := 14) (by decide +kernel), List.mem_of_getElem? (i := 491) (by decide +kernel), List.mem_of_getElem? (i := 492) (by decide +kernel)⟩
def lw_privs_1 : List (MethodName × Nat) := [(⟨"FloodBus$Description", "accepts", "(I)Z"⟩, 8), (⟨"FloodBus$Description", "acceptsNodeCount", "(I)Z"⟩, 8), (⟨"FloodBus$Description", "acceptsLinkMark", "(I)Z"⟩, 8), (⟨"FloodBus$Description", "acceptsFirstNode", "(I)Z"⟩, 8), (⟨"FloodBus$Description", "acceptsSecondNode", "(I)Z"⟩, 8), (⟨"FloodBus$Description", "acceptsStrength", "(I)Z"⟩, 8), (⟨"FloodBus$Description", "acceptsLossPeriod", "(I)Z"⟩, 8), (⟨"FloodBus$Flooding", "hold", "(LFloodBus$Network;III)V"⟩, 6), (⟨"FloodBus$Flooding", "runSlot", "(LFloodBus$Network;I)V"⟩, 6), (⟨"FloodBus$Flooding", "measureLevels", "(LFloodBus$Links;II)V"⟩, 6), (⟨"FloodBus$Flooding", "transmits", "(II)Z"⟩, 6), (⟨"FloodBus$Flooding", "capturedPacket", "()I"⟩, 6), (⟨"FloodBus", "runOneRound", "()I"⟩, 9), (⟨"FloodBus$Schedule", "insert", "(LFloodBus$StreamTable;I)V"⟩, 2), (⟨"FloodBus", "serveSchedule", "()I"⟩, 9), (⟨"FloodBus", "takeOver", "()V"⟩, 9)]
theorem lw_r1 : ∀ q ∈ lw_privs_1, lw_okq q := List.forall_mem_cons.mpr ⟨lw_p0, List.forall_mem_cons.mpr ⟨lw_p1, List.forall_mem_cons.mpr ⟨lw_p2, List.forall_mem_cons.mpr ⟨lw_p3, List.forall_mem_cons.mpr ⟨lw_p4, List.forall_mem_cons.mpr ⟨lw_p5, List.forall_mem_cons.mpr ⟨lw_p6, List.forall_mem_cons.mpr ⟨lw_p7, List.forall_mem_cons.mpr ⟨lw_p8, List.forall_mem_cons.mpr ⟨lw_p9, List.forall_mem_cons.mpr ⟨lw_p10, List.forall_mem_cons.mpr ⟨lw_p11, List.forall_mem_cons.mpr ⟨lw_p12, List.forall_mem_cons.mpr ⟨lw_p13, List.forall_mem_cons.mpr ⟨lw_p14, List.forall_mem_cons.mpr ⟨lw_p15, fun _ h => absurd h List.not_mem_nil⟩⟩⟩⟩⟩⟩⟩⟩⟩⟩⟩⟩⟩⟩⟩⟩
theorem lw_p16 : lw_okq (⟨"FloodBus$Schedule", "hasRepeatedSource", "(LFloodBus$StreamTable;)Z"⟩, 2) := ⟨⟨by decide +kernel, by decide +kernel⟩, List.mem_of_getElem? (i := 193) (by decide +kernel), List.mem_of_getElem? (i := 507) (by decide +kernel), List.mem_of_getElem? (i := 508) (by decide +kernel)⟩
theorem lw_p17 : lw_okq (⟨"FloodBus", "digestNodes", "(J)J"⟩, 9) := ⟨⟨by decide +kernel, by decide +kernel⟩, List.mem_of_getElem? (i := 14) (by decide +kernel), List.mem_of_getElem? (i := 532) (by decide +kernel), List.mem_of_getElem? (i := 533) (by decide +kernel)⟩
theorem lw_p18 : lw_okq (⟨"FloodBus", "digestStreams", "(J)J"⟩, 9) := ⟨⟨by decide +kernel, by decide +kernel⟩, List.mem_of_getElem? (i := 14) (by decide +kernel), List.mem_of_getElem? (i := 537) (by decide +kernel), List.mem_of_getElem? (i := 538) (by decide +kernel)⟩
theorem lw_p19 : lw_okq (⟨"FloodBusModel", "parse", "()V"⟩, 42) := ⟨⟨by decide +kernel, by decide +kernel⟩, List.mem_of_getElem? (i := 541) (by decide +kernel), List.mem_of_getElem? (i := 689) (by decide +kernel), List.mem_of_getElem? (i := 690) (by decide +kernel)⟩
theorem lw_p20 : lw_okq (⟨"FloodBusModel", "isJoined", "(II)Z"⟩, 42) := ⟨⟨by decide +kernel, by decide +kernel⟩, List.mem_of_getElem? (i := 541) (by decide +kernel), List.mem_of_getElem? (i := 693) (by decide +kernel), List.mem_of_getElem? (i := 694) (by decide +kernel)⟩
theorem lw_p21 : lw_okq (⟨"FloodBusModel", "forgetFlood", "()V"⟩, 42) := ⟨⟨by decide +kernel, by decide +kernel⟩, List.mem_of_getElem? (i := 541) (by decide +kernel), List.mem_of_getElem? (i := 701) (by decide +kernel), List.mem_of_getElem? (i := 702) (by decide +kernel)⟩
theorem lw_p22 : lw_okq (⟨"FloodBusModel", "isNode", "(I)Z"⟩, 42) := ⟨⟨by decide +kernel, by decide +kernel⟩, List.mem_of_getElem? (i := 541) (by decide +kernel), List.mem_of_getElem? (i := 725) (by decide +kernel), List.mem_of_getElem? (i := 726) (by decide +kernel)⟩
theorem lw_p23 : lw_okq (⟨"FloodBusModel", "floodNow", "(I)I"⟩, 42) := ⟨⟨by decide +kernel, by decide +kernel⟩, List.mem_of_getElem? (i := 541) (by decide +kernel), List.mem_of_getElem? (i := 733) (by decide +kernel), List.mem_of_getElem? (i := 734) (by decide +kernel)⟩
theorem lw_p24 : lw_okq (⟨"FloodBusModel", "lastSlot", "()I"⟩, 42) := ⟨⟨by decide +kernel, by decide +kernel⟩, List.mem_of_getElem? (i := 541) (by decide +kernel), List.mem_of_getElem? (i := 737) (by decide +kernel), List.mem_of_getElem? (i := 738) (by decide +kernel)⟩
theorem lw_p25 : lw_okq (⟨"FloodBusModel", "heard", "(II)I"⟩, 42) := ⟨⟨by decide +kernel, by decide +kernel⟩, List.mem_of_getElem? (i := 541) (by decide +kernel), List.mem_of_getElem? (i := 741) (by decide +kernel), List.mem_of_getElem? (i := 742) (by decide +kernel)⟩
theorem lw_p26 : lw_okq (⟨"FloodBusModel", "transmits", "(II)Z"⟩, 42) := ⟨⟨by decide +kernel, by decide +kernel⟩, List.mem_of_getElem? (i := 541) (by decide +kernel), List.mem_of_getElem? (i := 745) (by decide +kernel), List.mem_of_getElem? (i := 746) (by decide +kernel)⟩
theorem lw_p27 : lw_okq (⟨"FloodBusModel", "holders", "()I"⟩, 42) := ⟨⟨by decide +kernel, by decide +kernel⟩, List.mem_of_getElem? (i := 541) (by decide +kernel), List.mem_of_getElem? (i := 749) (by decide +kernel), List.mem_of_getElem? (i := 750) (by decide +kernel)⟩
theorem lw_p28 : lw_okq (⟨"FloodBusModel", "hops", "(I)I"⟩, 42) := ⟨⟨by decide +kernel, by decide +kernel⟩, List.mem_of_getElem? (i := 541) (by decide +kernel), List.mem_of_getElem? (i := 761) (by decide +kernel), List.mem_of_getElem? (i := 762) (by decide +kernel)⟩
theorem lw_p29 : lw_okq (⟨"FloodBusModel", "isStream", "(I)Z"⟩, 42) := ⟨⟨by decide +kernel, by decide +kernel⟩, List.mem_of_getElem? (i := 541) (by decide +kernel), List.mem_of_getElem? (i := 777) (by decide +kernel), List.mem_of_getElem? (i := 778) (by decide +kernel)⟩
theorem lw_p30 : lw_okq (⟨"FloodBusModel", "runRound", "()I"⟩, 42) := ⟨⟨by decide +kernel, by decide +kernel⟩, List.mem_of_getElem? (i := 541) (by decide +kernel), List.mem_of_getElem? (i := 797) (by decide +kernel), List.mem_of_getElem? (i := 798) (by decide +kernel)⟩
theorem lw_p31 : lw_okq (⟨"FloodBusModel", "generate", "()V"⟩, 42) := ⟨⟨by decide +kernel, by decide +kernel⟩, List.mem_of_getElem? (i := 541) (by decide +kernel), List.mem_of_getElem? (i := 801) (by decide +kernel), List.mem_of_getElem? (i := 802) (by decide +kernel)⟩
def lw_privs_2 : List (MethodName × Nat) := [(⟨"FloodBus$Schedule", "hasRepeatedSource", "(LFloodBus$StreamTable;)Z"⟩, 2), (⟨"FloodBus", "digestNodes", "(J)J"⟩, 9), (⟨"FloodBus", "digestStreams", "(J)J"⟩, 9), (⟨"FloodBusModel", "parse", "()V"⟩, 42), (⟨"FloodBusModel", "isJoined", "(II)Z"⟩, 42), (⟨"FloodBusModel", "forgetFlood", "()V"⟩, 42), (⟨"FloodBusModel", "isNode", "(I)Z"⟩, 42), (⟨"FloodBusModel", "floodNow", "(I)I"⟩, 42), (⟨"FloodBusModel", "lastSlot", "()I"⟩, 42), (⟨"FloodBusModel", "heard", "(II)I"⟩, 42), (⟨"FloodBusModel", "transmits", "(II)Z"⟩, 42), (⟨"FloodBusModel", "holders", "()I"⟩, 42), (⟨"FloodBusModel", "hops", "(I)I"⟩, 42), (⟨"FloodBusModel", "isStream", "(I)Z"⟩, 42), (⟨"FloodBusModel", "runRound", "()I"⟩, 42), (⟨"FloodBusModel", "generate", "()V"⟩, 42)]
theorem lw_r2 : ∀ q ∈ lw_privs_2, lw_okq q := List.forall_mem_cons.mpr ⟨lw_p16, List.forall_mem_cons.mpr ⟨lw_p17, List.forall_mem_cons.mpr ⟨lw_p18, List.forall_mem_cons.mpr ⟨lw_p19, List.forall_mem_cons.mpr ⟨lw_p20, List.forall_mem_cons.mpr ⟨lw_p21, List.forall_mem_cons.mpr ⟨lw_p22, List.forall_mem_cons.mpr ⟨lw_p23, List.forall_mem_cons.mpr ⟨lw_p24, List.forall_mem_cons.mpr ⟨lw_p25, List.forall_mem_cons.mpr ⟨lw_p26, List.forall_mem_cons.mpr ⟨lw_p27, List.forall_mem_cons.mpr ⟨lw_p28, List.forall_mem_cons.mpr ⟨lw_p29, List.forall_mem_cons.mpr ⟨lw_p30, List.forall_mem_cons.mpr ⟨lw_p31, fun _ h => absurd h List.not_mem_nil⟩⟩⟩⟩⟩⟩⟩⟩⟩⟩⟩⟩⟩⟩⟩⟩
theorem lw_p32 : lw_okq (⟨"FloodBusModel", "spreadSchedule", "()V"⟩, 42) := ⟨⟨by decide +kernel, by decide +kernel⟩, List.mem_of_getElem? (i := 541) (by decide +kernel), List.mem_of_getElem? (i := 805) (by decide +kernel), List.mem_of_getElem? (i := 806) (by decide +kernel)⟩
theorem lw_p33 : lw_okq (⟨"FloodBusModel", "buildSchedule", "()V"⟩, 42) := ⟨⟨by decide +kernel, by decide +kernel⟩, List.mem_of_getElem? (i := 541) (by decide +kernel), List.mem_of_getElem? (i := 809) (by decide +kernel), List.mem_of_getElem? (i := 810) (by decide +kernel)⟩
theorem lw_p34 : lw_okq (⟨"FloodBusModel", "isScheduled", "(I)Z"⟩, 42) := ⟨⟨by decide +kernel, by decide +kernel⟩, List.mem_of_getElem? (i := 541) (by decide +kernel), List.mem_of_getElem? (i := 813) (by decide +kernel), List.mem_of_getElem? (i := 814) (by decide +kernel)⟩
theorem lw_p35 : lw_okq (⟨"FloodBusModel", "serve", "(I)I"⟩, 42) := ⟨⟨by decide +kernel, by decide +kernel⟩, List.mem_of_getElem? (i := 541) (by decide +kernel), List.mem_of_getElem? (i := 817) (by decide +kernel), List.mem_of_getElem? (i := 818) (by decide +kernel)⟩
theorem lw_p36 : lw_okq (⟨"FloodBusModel", "takePacket", "(I)V"⟩, 42) := ⟨⟨by decide +kernel, by decide +kernel⟩, List.mem_of_getElem? (i := 541) (by decide +kernel), List.mem_of_getElem? (i := 821) (by decide +kernel), List.mem_of_getElem? (i := 822) (by decide +kernel)⟩
theorem lw_p37 : lw_okq (⟨"FloodBusModel", "takeOver", "()V"⟩, 42) := ⟨⟨by decide +kernel, by decide +kernel⟩, List.mem_of_getElem? (i := 541) (by decide +kernel), List.mem_of_getElem? (i := 825) (by decide +kernel), List.mem_of_getElem? (i := 826) (by decide +kernel)⟩
theorem lw_p38 : lw_okq (⟨"FloodBusModel", "areSourcesDifferent", "()Z"⟩, 42) := ⟨⟨by decide +kernel, by decide +kernel⟩, List.mem_of_getElem? (i := 541) (by decide +kernel), List.mem_of_getElem? (i := 837) (by decide +kernel), List.mem_of_getElem? (i := 838) (by decide +kernel)⟩
theorem lw_p39 : lw_okq (⟨"FloodBusModel", "mix", "(J)V"⟩, 42) := ⟨⟨by decide +kernel, by decide +kernel⟩, List.mem_of_getElem? (i := 541) (by decide +kernel), List.mem_of_getElem? (i := 862) (by decide +kernel), List.mem_of_getElem? (i := 863) (by decide +kernel)⟩
def lw_privs_3 : List (MethodName × Nat) := [(⟨"FloodBusModel", "spreadSchedule", "()V"⟩, 42), (⟨"FloodBusModel", "buildSchedule", "()V"⟩, 42), (⟨"FloodBusModel", "isScheduled", "(I)Z"⟩, 42), (⟨"FloodBusModel", "serve", "(I)I"⟩, 42), (⟨"FloodBusModel", "takePacket", "(I)V"⟩, 42), (⟨"FloodBusModel", "takeOver", "()V"⟩, 42), (⟨"FloodBusModel", "areSourcesDifferent", "()Z"⟩, 42), (⟨"FloodBusModel", "mix", "(J)V"⟩, 42)]
theorem lw_r3 : ∀ q ∈ lw_privs_3, lw_okq q := List.forall_mem_cons.mpr ⟨lw_p32, List.forall_mem_cons.mpr ⟨lw_p33, List.forall_mem_cons.mpr ⟨lw_p34, List.forall_mem_cons.mpr ⟨lw_p35, List.forall_mem_cons.mpr ⟨lw_p36, List.forall_mem_cons.mpr ⟨lw_p37, List.forall_mem_cons.mpr ⟨lw_p38, List.forall_mem_cons.mpr ⟨lw_p39, fun _ h => absurd h List.not_mem_nil⟩⟩⟩⟩⟩⟩⟩⟩
def lw_privs : List (MethodName × Nat) := lw_privs_1 ++ (lw_privs_2 ++ (lw_privs_3))
def lw_tbl : List Cond := k2_sels lw_privs ++ tables_1
theorem lw_privs_ok : ∀ q ∈ lw_privs, lw_okq q := by
  show ∀ q ∈ lw_privs_1 ++ (lw_privs_2 ++ (lw_privs_3)), lw_okq q
  exact List.forall_mem_append.mpr ⟨lw_r1, List.forall_mem_append.mpr ⟨lw_r2, lw_r3⟩⟩
-- ===== end of PART A; then your names; then what follows =====
end
section
/-! ===== BEGIN words of one list among another's, by their places ===== -/
theorem goodIn_r {big : List Cond} (ws : List Cond) (ps : List Nat) (hp : ws = ps.filterMap (fun i => big[i]?)) (h : ws.all goodWord = true) : GoodIn big ws := by
  intro w hw
  have h1 := List.all_eq_true.mp h w hw
  rw [hp] at hw
  obtain ⟨i, -, hi⟩ := List.mem_filterMap.mp hw
  have hm : w ∈ big := by first | exact List.mem_of_getElem? hi | exact List.getElem?_mem hi
  exact ⟨hm, good_of_word h1⟩
theorem goodIn_app {big a b : List Cond} (ha : GoodIn big a) (hb : GoodIn big b) : GoodIn big (a ++ b) := fun w h => (List.mem_append.mp h).elim (ha w) (hb w)
theorem goodIn_ca {big a b : List Cond} {c : Cond} (ha : GoodIn big (c :: a)) (hb : GoodIn big b) : GoodIn big (c :: (a ++ b)) := fun w h => (List.mem_cons.mp h).elim (fun e => ha w (List.mem_cons.mpr (Or.inl e))) (fun h => (List.mem_append.mp h).elim (fun h => ha w (List.mem_cons.mpr (Or.inr h))) (hb w))
theorem goodIn_sub {big ws : List Cond} (hm : ∀ w ∈ ws, w ∈ big) (h : ws.all goodWord = true) : GoodIn big ws := fun w hw => ⟨hm w hw, good_of_word (List.all_eq_true.mp h w hw)⟩
/-! ===== END ===== -/


/-! ===== BEGIN printed: names, fields, word lists, decode rows ===== -/
def RX0 : String := "FloodBus$Description"
def TX0 : u_T := fun k => match k with
  | 0 => ("FloodBus$Description", "characters", "[I", true)
  | 1 => ("FloodBus$Description", "length", "I", false)
  | 2 => ("FloodBus$Description", "links", "LFloodBus$Links;", true)
  | 3 => ("FloodBus$Description", "nodeCount", "I", false)
  | 4 => ("FloodBus$Description", "linkCount", "I", false)
  | 5 => ("FloodBus$Description", "expected", "I", false)
  | 6 => ("FloodBus$Description", "firstNode", "I", false)
  | _ => ("FloodBus$Description", "secondNode", "I", false)
def tyX0 : Nat → FieldType := fun k => match k with
  | 0 => .array .int
  | 1 => .int
  | 2 => .object "FloodBus$Links"
  | 3 => .int
  | 4 => .int
  | 5 => .int
  | 6 => .int
  | _ => .int
abbrev wsX00 : List Cond := u_ws RX0 TX0 8
theorem nmX0 : ∀ a, a < 8 → ∀ b, b < 8 → a ≠ b → (TX0 a).2.1 ≠ (TX0 b).2.1 := by decide +kernel
theorem tyX0_ok : ∀ k, k < 8 → parseFieldDescriptor (TX0 k).2.2.1 = some (tyX0 k) := by decide +kernel
abbrev cX0_init : ByteArray := prog_2_method_1_code
def yX0_init : MethodName := ⟨RX0, "<init>", "()V"⟩
abbrev cX0_add : ByteArray := prog_2_method_2_code
def yX0_add : MethodName := ⟨RX0, "add", "(I)I"⟩
abbrev cX0_isComplete : ByteArray := prog_2_method_3_code
def yX0_isComplete : MethodName := ⟨RX0, "isComplete", "()Z"⟩
abbrev cX0_findError : ByteArray := prog_2_method_4_code
def yX0_findError : MethodName := ⟨RX0, "findError", "()I"⟩
abbrev cX0_accepts : ByteArray := prog_2_method_5_code
def yX0_accepts : MethodName := ⟨RX0, "accepts", "(I)Z"⟩
abbrev cX0_acceptsNodeCount : ByteArray := prog_2_method_6_code
def yX0_acceptsNodeCount : MethodName := ⟨RX0, "acceptsNodeCount", "(I)Z"⟩
abbrev cX0_acceptsLinkMark : ByteArray := prog_2_method_7_code
def yX0_acceptsLinkMark : MethodName := ⟨RX0, "acceptsLinkMark", "(I)Z"⟩
abbrev cX0_acceptsFirstNode : ByteArray := prog_2_method_8_code
def yX0_acceptsFirstNode : MethodName := ⟨RX0, "acceptsFirstNode", "(I)Z"⟩
abbrev cX0_acceptsSecondNode : ByteArray := prog_2_method_9_code
def yX0_acceptsSecondNode : MethodName := ⟨RX0, "acceptsSecondNode", "(I)Z"⟩
abbrev cX0_acceptsStrength : ByteArray := prog_2_method_10_code
def yX0_acceptsStrength : MethodName := ⟨RX0, "acceptsStrength", "(I)Z"⟩
abbrev cX0_acceptsLossPeriod : ByteArray := prog_2_method_11_code
def yX0_acceptsLossPeriod : MethodName := ⟨RX0, "acceptsLossPeriod", "(I)Z"⟩
def RX1 : String := "FloodBus$Flooding"
def TX1 : u_T := fun k => match k with
  | 0 => ("FloodBus$Flooding", "levels", "[I", true)
  | 1 => ("FloodBus$Flooding", "packet", "[I", true)
  | 2 => ("FloodBus$Flooding", "hops", "[I", true)
  | 3 => ("FloodBus$Flooding", "length", "I", false)
  | 4 => ("FloodBus$Flooding", "transmissionLimit", "I", false)
  | _ => ("FloodBus$Flooding", "captureMargin", "I", false)
def tyX1 : Nat → FieldType := fun k => match k with
  | 0 => .array .int
  | 1 => .array .int
  | 2 => .array .int
  | 3 => .int
  | 4 => .int
  | _ => .int
abbrev wsX10 : List Cond := u_ws RX1 TX1 6
theorem nmX1 : ∀ a, a < 6 → ∀ b, b < 6 → a ≠ b → (TX1 a).2.1 ≠ (TX1 b).2.1 := by decide +kernel
theorem tyX1_ok : ∀ k, k < 6 → parseFieldDescriptor (TX1 k).2.2.1 = some (tyX1 k) := by decide +kernel
abbrev cX1_init : ByteArray := prog_3_method_1_code
def yX1_init : MethodName := ⟨RX1, "<init>", "()V"⟩
abbrev cX1_forget : ByteArray := prog_3_method_2_code
def yX1_forget : MethodName := ⟨RX1, "forget", "()V"⟩
abbrev cX1_run : ByteArray := prog_3_method_3_code
def yX1_run : MethodName := ⟨RX1, "run", "(LFloodBus$Network;I)V"⟩
abbrev cX1_countHolders : ByteArray := prog_3_method_4_code
def yX1_countHolders : MethodName := ⟨RX1, "countHolders", "()I"⟩
abbrev cX1_hold : ByteArray := prog_3_method_5_code
def yX1_hold : MethodName := ⟨RX1, "hold", "(LFloodBus$Network;III)V"⟩
abbrev cX1_runSlot : ByteArray := prog_3_method_6_code
def yX1_runSlot : MethodName := ⟨RX1, "runSlot", "(LFloodBus$Network;I)V"⟩
abbrev cX1_measureLevels : ByteArray := prog_3_method_7_code
def yX1_measureLevels : MethodName := ⟨RX1, "measureLevels", "(LFloodBus$Links;II)V"⟩
abbrev cX1_transmits : ByteArray := prog_3_method_8_code
def yX1_transmits : MethodName := ⟨RX1, "transmits", "(II)Z"⟩
abbrev cX1_capturedPacket : ByteArray := prog_3_method_9_code
def yX1_capturedPacket : MethodName := ⟨RX1, "capturedPacket", "()I"⟩
def RX2 : String := "FloodBus$Links"
def TX2 : u_T := fun k => match k with
  | 0 => ("FloodBus$Links", "strength", "[[I", true)
  | _ => ("FloodBus$Links", "lossPeriod", "[[I", true)
def tyX2 : Nat → FieldType := fun k => match k with
  | 0 => .array (.array .int)
  | _ => .array (.array .int)
abbrev wsX20 : List Cond := u_ws RX2 TX2 2
theorem nmX2 : ∀ a, a < 2 → ∀ b, b < 2 → a ≠ b → (TX2 a).2.1 ≠ (TX2 b).2.1 := by decide +kernel
theorem tyX2_ok : ∀ k, k < 2 → parseFieldDescriptor (TX2 k).2.2.1 = some (tyX2 k) := by decide +kernel
abbrev cX2_init : ByteArray := prog_4_method_1_code
def yX2_init : MethodName := ⟨RX2, "<init>", "()V"⟩
abbrev cX2_clear : ByteArray := prog_4_method_2_code
def yX2_clear : MethodName := ⟨RX2, "clear", "()V"⟩
abbrev cX2_copyFrom : ByteArray := prog_4_method_3_code
def yX2_copyFrom : MethodName := ⟨RX2, "copyFrom", "(LFloodBus$Links;)V"⟩
abbrev cX2_join : ByteArray := prog_4_method_4_code
def yX2_join : MethodName := ⟨RX2, "join", "(II)Z"⟩
abbrev cX2_setStrength : ByteArray := prog_4_method_5_code
def yX2_setStrength : MethodName := ⟨RX2, "setStrength", "(III)V"⟩
abbrev cX2_setLossPeriod : ByteArray := prog_4_method_6_code
def yX2_setLossPeriod : MethodName := ⟨RX2, "setLossPeriod", "(III)V"⟩
abbrev cX2_signal : ByteArray := prog_4_method_7_code
def yX2_signal : MethodName := ⟨RX2, "signal", "(III)I"⟩
def RX3 : String := "FloodBus$Network"
def TX3 : u_T := fun k => match k with
  | 0 => ("FloodBus$Network", "links", "LFloodBus$Links;", true)
  | 1 => ("FloodBus$Network", "count", "I", false)
  | 2 => ("FloodBus$Network", "alive", "[Z", true)
  | 3 => ("FloodBus$Network", "missed", "[I", true)
  | 4 => ("FloodBus$Network", "sent", "[I", true)
  | _ => ("FloodBus$Network", "informed", "[Z", true)
def tyX3 : Nat → FieldType := fun k => match k with
  | 0 => .object "FloodBus$Links"
  | 1 => .int
  | 2 => .array .boolean
  | 3 => .array .int
  | 4 => .array .int
  | _ => .array .boolean
abbrev wsX30 : List Cond := u_ws RX3 TX3 6
theorem nmX3 : ∀ a, a < 6 → ∀ b, b < 6 → a ≠ b → (TX3 a).2.1 ≠ (TX3 b).2.1 := by decide +kernel
theorem tyX3_ok : ∀ k, k < 6 → parseFieldDescriptor (TX3 k).2.2.1 = some (tyX3 k) := by decide +kernel
abbrev cX3_init : ByteArray := prog_5_method_1_code
def yX3_init : MethodName := ⟨RX3, "<init>", "()V"⟩
abbrev cX3_startAnew : ByteArray := prog_5_method_2_code
def yX3_startAnew : MethodName := ⟨RX3, "startAnew", "(ILFloodBus$Links;)V"⟩
abbrev cX3_has : ByteArray := prog_5_method_3_code
def yX3_has : MethodName := ⟨RX3, "has", "(I)Z"⟩
abbrev cX3_areAlive : ByteArray := prog_5_method_4_code
def yX3_areAlive : MethodName := ⟨RX3, "areAlive", "(I)Z"⟩
abbrev cX3_noteSchedule : ByteArray := prog_5_method_5_code
def yX3_noteSchedule : MethodName := ⟨RX3, "noteSchedule", "(LFloodBus$Flooding;)V"⟩
abbrev cX3_noteNoSchedule : ByteArray := prog_5_method_6_code
def yX3_noteNoSchedule : MethodName := ⟨RX3, "noteNoSchedule", "()V"⟩
def RX4 : String := "FloodBus$Schedule"
def TX4 : u_T := fun k => match k with
  | 0 => ("FloodBus$Schedule", "entries", "[I", true)
  | _ => ("FloodBus$Schedule", "size", "I", false)
def tyX4 : Nat → FieldType := fun k => match k with
  | 0 => .array .int
  | _ => .int
abbrev wsX40 : List Cond := u_ws RX4 TX4 2
theorem nmX4 : ∀ a, a < 2 → ∀ b, b < 2 → a ≠ b → (TX4 a).2.1 ≠ (TX4 b).2.1 := by decide +kernel
theorem tyX4_ok : ∀ k, k < 2 → parseFieldDescriptor (TX4 k).2.2.1 = some (tyX4 k) := by decide +kernel
abbrev cX4_init : ByteArray := prog_6_method_1_code
def yX4_init : MethodName := ⟨RX4, "<init>", "()V"⟩
abbrev cX4_build : ByteArray := prog_6_method_2_code
def yX4_build : MethodName := ⟨RX4, "build", "(LFloodBus$StreamTable;I)V"⟩
abbrev cX4_insert : ByteArray := prog_6_method_3_code
def yX4_insert : MethodName := ⟨RX4, "insert", "(LFloodBus$StreamTable;I)V"⟩
abbrev cX4_encodedSize : ByteArray := prog_6_method_4_code
def yX4_encodedSize : MethodName := ⟨RX4, "encodedSize", "(LFloodBus$StreamTable;)I"⟩
abbrev cX4_hasRepeatedSource : ByteArray := prog_6_method_5_code
def yX4_hasRepeatedSource : MethodName := ⟨RX4, "hasRepeatedSource", "(LFloodBus$StreamTable;)Z"⟩
def RX5 : String := "FloodBus$Stream"
def TX5 : u_T := fun k => match k with
  | 0 => ("FloodBus$Stream", "generatedIn", "[I", true)
  | 1 => ("FloodBus$Stream", "source", "I", false)
  | 2 => ("FloodBus$Stream", "period", "I", false)
  | 3 => ("FloodBus$Stream", "start", "I", false)
  | 4 => ("FloodBus$Stream", "waiting", "I", false)
  | 5 => ("FloodBus$Stream", "delivered", "I", false)
  | _ => ("FloodBus$Stream", "lost", "I", false)
def tyX5 : Nat → FieldType := fun k => match k with
  | 0 => .array .int
  | 1 => .int
  | 2 => .int
  | 3 => .int
  | 4 => .int
  | 5 => .int
  | _ => .int
abbrev wsX50 : List Cond := u_ws RX5 TX5 7
theorem nmX5 : ∀ a, a < 7 → ∀ b, b < 7 → a ≠ b → (TX5 a).2.1 ≠ (TX5 b).2.1 := by decide +kernel
theorem tyX5_ok : ∀ k, k < 7 → parseFieldDescriptor (TX5 k).2.2.1 = some (tyX5 k) := by decide +kernel
abbrev cX5_init : ByteArray := prog_7_method_1_code
def yX5_init : MethodName := ⟨RX5, "<init>", "()V"⟩
abbrev cX5_startAnew : ByteArray := prog_7_method_2_code
def yX5_startAnew : MethodName := ⟨RX5, "startAnew", "(III)V"⟩
abbrev cX5_generate : ByteArray := prog_7_method_3_code
def yX5_generate : MethodName := ⟨RX5, "generate", "(I)V"⟩
abbrev cX5_oldestRound : ByteArray := prog_7_method_4_code
def yX5_oldestRound : MethodName := ⟨RX5, "oldestRound", "()I"⟩
abbrev cX5_removeOldest : ByteArray := prog_7_method_5_code
def yX5_removeOldest : MethodName := ⟨RX5, "removeOldest", "()V"⟩
def RX6 : String := "FloodBus$StreamTable"
def TX6 : u_T := fun k => match k with
  | 0 => ("FloodBus$StreamTable", "rows", "[LFloodBus$Stream;", true)
  | _ => ("FloodBus$StreamTable", "count", "I", false)
def tyX6 : Nat → FieldType := fun k => match k with
  | 0 => .array (.object "FloodBus$Stream")
  | _ => .int
abbrev wsX60 : List Cond := u_ws RX6 TX6 2
theorem nmX6 : ∀ a, a < 2 → ∀ b, b < 2 → a ≠ b → (TX6 a).2.1 ≠ (TX6 b).2.1 := by decide +kernel
theorem tyX6_ok : ∀ k, k < 2 → parseFieldDescriptor (TX6 k).2.2.1 = some (tyX6 k) := by decide +kernel
abbrev cX6_init : ByteArray := prog_8_method_1_code
def yX6_init : MethodName := ⟨RX6, "<init>", "()V"⟩
abbrev cX6_has : ByteArray := prog_8_method_2_code
def yX6_has : MethodName := ⟨RX6, "has", "(I)Z"⟩
abbrev cX6_add : ByteArray := prog_8_method_3_code
def yX6_add : MethodName := ⟨RX6, "add", "(III)I"⟩
abbrev cX6_remove : ByteArray := prog_8_method_4_code
def yX6_remove : MethodName := ⟨RX6, "remove", "(I)V"⟩
abbrev cX6_generate : ByteArray := prog_8_method_5_code
def yX6_generate : MethodName := ⟨RX6, "generate", "(I)V"⟩
def RX7 : String := "FloodBus"
def TX7 : u_T := fun k => match k with
  | 0 => ("FloodBus", "description", "LFloodBus$Description;", true)
  | 1 => ("FloodBus", "network", "LFloodBus$Network;", true)
  | 2 => ("FloodBus", "latestFlood", "LFloodBus$Flooding;", true)
  | 3 => ("FloodBus", "streams", "LFloodBus$StreamTable;", true)
  | 4 => ("FloodBus", "schedule", "LFloodBus$Schedule;", true)
  | 5 => ("FloodBus", "slotLimit", "I", false)
  | 6 => ("FloodBus", "takeoverLimit", "I", false)
  | 7 => ("FloodBus", "hostNode", "I", false)
  | _ => ("FloodBus", "nextRound", "I", false)
def tyX7 : Nat → FieldType := fun k => match k with
  | 0 => .object "FloodBus$Description"
  | 1 => .object "FloodBus$Network"
  | 2 => .object "FloodBus$Flooding"
  | 3 => .object "FloodBus$StreamTable"
  | 4 => .object "FloodBus$Schedule"
  | 5 => .int
  | 6 => .int
  | 7 => .int
  | _ => .int
abbrev wsX70 : List Cond := u_ws RX7 TX7 9
theorem nmX7 : ∀ a, a < 9 → ∀ b, b < 9 → a ≠ b → (TX7 a).2.1 ≠ (TX7 b).2.1 := by decide +kernel
theorem tyX7_ok : ∀ k, k < 9 → parseFieldDescriptor (TX7 k).2.2.1 = some (tyX7 k) := by decide +kernel
abbrev cX7_init : ByteArray := prog_1_method_1_code
def yX7_init : MethodName := ⟨RX7, "<init>", "()V"⟩
abbrev cX7_append : ByteArray := prog_1_method_2_code
def yX7_append : MethodName := ⟨RX7, "append", "(I)I"⟩
abbrev cX7_clearBuffer : ByteArray := prog_1_method_3_code
def yX7_clearBuffer : MethodName := ⟨RX7, "clearBuffer", "()I"⟩
abbrev cX7_errorPosition : ByteArray := prog_1_method_4_code
def yX7_errorPosition : MethodName := ⟨RX7, "errorPosition", "()I"⟩
abbrev cX7_loadNetwork : ByteArray := prog_1_method_5_code
def yX7_loadNetwork : MethodName := ⟨RX7, "loadNetwork", "()I"⟩
abbrev cX7_setTransmissionLimit : ByteArray := prog_1_method_6_code
def yX7_setTransmissionLimit : MethodName := ⟨RX7, "setTransmissionLimit", "(I)I"⟩
abbrev cX7_setCaptureMargin : ByteArray := prog_1_method_7_code
def yX7_setCaptureMargin : MethodName := ⟨RX7, "setCaptureMargin", "(I)I"⟩
abbrev cX7_setSlotLimit : ByteArray := prog_1_method_8_code
def yX7_setSlotLimit : MethodName := ⟨RX7, "setSlotLimit", "(I)I"⟩
abbrev cX7_setTakeoverLimit : ByteArray := prog_1_method_9_code
def yX7_setTakeoverLimit : MethodName := ⟨RX7, "setTakeoverLimit", "(I)I"⟩
abbrev cX7_setAlive : ByteArray := prog_1_method_10_code
def yX7_setAlive : MethodName := ⟨RX7, "setAlive", "(IZ)I"⟩
abbrev cX7_flood : ByteArray := prog_1_method_11_code
def yX7_flood : MethodName := ⟨RX7, "flood", "(I)I"⟩
abbrev cX7_packetAt : ByteArray := prog_1_method_12_code
def yX7_packetAt : MethodName := ⟨RX7, "packetAt", "(I)I"⟩
abbrev cX7_hopCount : ByteArray := prog_1_method_13_code
def yX7_hopCount : MethodName := ⟨RX7, "hopCount", "(I)I"⟩
abbrev cX7_floodLength : ByteArray := prog_1_method_14_code
def yX7_floodLength : MethodName := ⟨RX7, "floodLength", "()I"⟩
abbrev cX7_addStream : ByteArray := prog_1_method_15_code
def yX7_addStream : MethodName := ⟨RX7, "addStream", "(III)I"⟩
abbrev cX7_removeStream : ByteArray := prog_1_method_16_code
def yX7_removeStream : MethodName := ⟨RX7, "removeStream", "(I)I"⟩
abbrev cX7_waitingPackets : ByteArray := prog_1_method_17_code
def yX7_waitingPackets : MethodName := ⟨RX7, "waitingPackets", "(I)I"⟩
abbrev cX7_deliveredPackets : ByteArray := prog_1_method_18_code
def yX7_deliveredPackets : MethodName := ⟨RX7, "deliveredPackets", "(I)I"⟩
abbrev cX7_lostPackets : ByteArray := prog_1_method_19_code
def yX7_lostPackets : MethodName := ⟨RX7, "lostPackets", "(I)I"⟩
abbrev cX7_runRounds : ByteArray := prog_1_method_20_code
def yX7_runRounds : MethodName := ⟨RX7, "runRounds", "(I)I"⟩
abbrev cX7_scheduledStream : ByteArray := prog_1_method_21_code
def yX7_scheduledStream : MethodName := ⟨RX7, "scheduledStream", "(I)I"⟩
abbrev cX7_scheduleBits : ByteArray := prog_1_method_22_code
def yX7_scheduleBits : MethodName := ⟨RX7, "scheduleBits", "()I"⟩
abbrev cX7_host : ByteArray := prog_1_method_23_code
def yX7_host : MethodName := ⟨RX7, "host", "()I"⟩
abbrev cX7_missedSchedules : ByteArray := prog_1_method_24_code
def yX7_missedSchedules : MethodName := ⟨RX7, "missedSchedules", "(I)I"⟩
abbrev cX7_transmissions : ByteArray := prog_1_method_25_code
def yX7_transmissions : MethodName := ⟨RX7, "transmissions", "(I)I"⟩
abbrev cX7_roundNumber : ByteArray := prog_1_method_26_code
def yX7_roundNumber : MethodName := ⟨RX7, "roundNumber", "()I"⟩
abbrev cX7_digest : ByteArray := prog_1_method_27_code
def yX7_digest : MethodName := ⟨RX7, "digest", "()J"⟩
abbrev cX7_digestNodes : ByteArray := prog_1_method_28_code
def yX7_digestNodes : MethodName := ⟨RX7, "digestNodes", "(J)J"⟩
abbrev cX7_digestStreams : ByteArray := prog_1_method_29_code
def yX7_digestStreams : MethodName := ⟨RX7, "digestStreams", "(J)J"⟩
abbrev cX7_runOneRound : ByteArray := prog_1_method_30_code
def yX7_runOneRound : MethodName := ⟨RX7, "runOneRound", "()I"⟩
abbrev cX7_serveSchedule : ByteArray := prog_1_method_31_code
def yX7_serveSchedule : MethodName := ⟨RX7, "serveSchedule", "()I"⟩
abbrev cX7_takeOver : ByteArray := prog_1_method_32_code
def yX7_takeOver : MethodName := ⟨RX7, "takeOver", "()V"⟩
def RX8 : String := "FloodBusModel"
def TX8 : u_T := fun k => match k with
  | 0 => ("FloodBusModel", "bufferLength", "I", false)
  | 1 => ("FloodBusModel", "buffer", "[I", true)
  | 2 => ("FloodBusModel", "nodes", "I", false)
  | 3 => ("FloodBusModel", "links", "I", false)
  | 4 => ("FloodBusModel", "linkA", "[I", true)
  | 5 => ("FloodBusModel", "linkB", "[I", true)
  | 6 => ("FloodBusModel", "strength", "[I", true)
  | 7 => ("FloodBusModel", "lossPeriod", "[I", true)
  | 8 => ("FloodBusModel", "alive", "[Z", true)
  | 9 => ("FloodBusModel", "packet", "[I", true)
  | 10 => ("FloodBusModel", "received", "[I", true)
  | 11 => ("FloodBusModel", "sent", "[I", true)
  | 12 => ("FloodBusModel", "missed", "[I", true)
  | 13 => ("FloodBusModel", "length", "I", false)
  | 14 => ("FloodBusModel", "host", "I", false)
  | 15 => ("FloodBusModel", "round", "I", false)
  | 16 => ("FloodBusModel", "transmissionLimit", "I", false)
  | 17 => ("FloodBusModel", "captureMargin", "I", false)
  | 18 => ("FloodBusModel", "slotLimit", "I", false)
  | 19 => ("FloodBusModel", "takeoverLimit", "I", false)
  | 20 => ("FloodBusModel", "streams", "I", false)
  | 21 => ("FloodBusModel", "source", "[I", true)
  | 22 => ("FloodBusModel", "period", "[I", true)
  | 23 => ("FloodBusModel", "start", "[I", true)
  | 24 => ("FloodBusModel", "waiting", "[I", true)
  | 25 => ("FloodBusModel", "generated", "[I", true)
  | 26 => ("FloodBusModel", "delivered", "[I", true)
  | 27 => ("FloodBusModel", "lost", "[I", true)
  | 28 => ("FloodBusModel", "entries", "I", false)
  | 29 => ("FloodBusModel", "schedule", "[I", true)
  | 30 => ("FloodBusModel", "readNodes", "I", false)
  | 31 => ("FloodBusModel", "readLinks", "I", false)
  | 32 => ("FloodBusModel", "readA", "[I", true)
  | 33 => ("FloodBusModel", "readB", "[I", true)
  | 34 => ("FloodBusModel", "readStrength", "[I", true)
  | 35 => ("FloodBusModel", "readLoss", "[I", true)
  | 36 => ("FloodBusModel", "errorAt", "I", false)
  | 37 => ("FloodBusModel", "isComplete", "Z", false)
  | 38 => ("FloodBusModel", "level", "[I", true)
  | 39 => ("FloodBusModel", "comes", "[I", true)
  | 40 => ("FloodBusModel", "informed", "[Z", true)
  | _ => ("FloodBusModel", "h", "J", false)
def tyX8 : Nat → FieldType := fun k => match k with
  | 0 => .int
  | 1 => .array .int
  | 2 => .int
  | 3 => .int
  | 4 => .array .int
  | 5 => .array .int
  | 6 => .array .int
  | 7 => .array .int
  | 8 => .array .boolean
  | 9 => .array .int
  | 10 => .array .int
  | 11 => .array .int
  | 12 => .array .int
  | 13 => .int
  | 14 => .int
  | 15 => .int
  | 16 => .int
  | 17 => .int
  | 18 => .int
  | 19 => .int
  | 20 => .int
  | 21 => .array .int
  | 22 => .array .int
  | 23 => .array .int
  | 24 => .array .int
  | 25 => .array .int
  | 26 => .array .int
  | 27 => .array .int
  | 28 => .int
  | 29 => .array .int
  | 30 => .int
  | 31 => .int
  | 32 => .array .int
  | 33 => .array .int
  | 34 => .array .int
  | 35 => .array .int
  | 36 => .int
  | 37 => .boolean
  | 38 => .array .int
  | 39 => .array .int
  | 40 => .array .boolean
  | _ => .long
abbrev wsX80 : List Cond := u_ws RX8 TX8 42
theorem nmX8 : ∀ a, a < 42 → ∀ b, b < 42 → a ≠ b → (TX8 a).2.1 ≠ (TX8 b).2.1 := by decide +kernel
theorem tyX8_ok : ∀ k, k < 42 → parseFieldDescriptor (TX8 k).2.2.1 = some (tyX8 k) := by decide +kernel
abbrev cX8_init : ByteArray := prog_10_method_1_code
def yX8_init : MethodName := ⟨RX8, "<init>", "()V"⟩
abbrev cX8_within : ByteArray := prog_10_method_3_code
def yX8_within : MethodName := ⟨RX8, "within", "(III)Z"⟩
abbrev cX8_append : ByteArray := prog_10_method_4_code
def yX8_append : MethodName := ⟨RX8, "append", "(I)I"⟩
abbrev cX8_clearBuffer : ByteArray := prog_10_method_5_code
def yX8_clearBuffer : MethodName := ⟨RX8, "clearBuffer", "()I"⟩
abbrev cX8_isJoined : ByteArray := prog_10_method_6_code
def yX8_isJoined : MethodName := ⟨RX8, "isJoined", "(II)Z"⟩
abbrev cX8_parse : ByteArray := prog_10_method_7_code
def yX8_parse : MethodName := ⟨RX8, "parse", "()V"⟩
abbrev cX8_errorPosition : ByteArray := prog_10_method_8_code
def yX8_errorPosition : MethodName := ⟨RX8, "errorPosition", "()I"⟩
abbrev cX8_loadNetwork : ByteArray := prog_10_method_9_code
def yX8_loadNetwork : MethodName := ⟨RX8, "loadNetwork", "()I"⟩
abbrev cX8_setTransmissionLimit : ByteArray := prog_10_method_10_code
def yX8_setTransmissionLimit : MethodName := ⟨RX8, "setTransmissionLimit", "(I)I"⟩
abbrev cX8_setCaptureMargin : ByteArray := prog_10_method_11_code
def yX8_setCaptureMargin : MethodName := ⟨RX8, "setCaptureMargin", "(I)I"⟩
abbrev cX8_setSlotLimit : ByteArray := prog_10_method_12_code
def yX8_setSlotLimit : MethodName := ⟨RX8, "setSlotLimit", "(I)I"⟩
abbrev cX8_setTakeoverLimit : ByteArray := prog_10_method_13_code
def yX8_setTakeoverLimit : MethodName := ⟨RX8, "setTakeoverLimit", "(I)I"⟩
abbrev cX8_isNode : ByteArray := prog_10_method_14_code
def yX8_isNode : MethodName := ⟨RX8, "isNode", "(I)Z"⟩
abbrev cX8_setAlive : ByteArray := prog_10_method_15_code
def yX8_setAlive : MethodName := ⟨RX8, "setAlive", "(IZ)I"⟩
abbrev cX8_forgetFlood : ByteArray := prog_10_method_16_code
def yX8_forgetFlood : MethodName := ⟨RX8, "forgetFlood", "()V"⟩
abbrev cX8_transmits : ByteArray := prog_10_method_17_code
def yX8_transmits : MethodName := ⟨RX8, "transmits", "(II)Z"⟩
abbrev cX8_lastSlot : ByteArray := prog_10_method_18_code
def yX8_lastSlot : MethodName := ⟨RX8, "lastSlot", "()I"⟩
abbrev cX8_heard : ByteArray := prog_10_method_19_code
def yX8_heard : MethodName := ⟨RX8, "heard", "(II)I"⟩
abbrev cX8_floodNow : ByteArray := prog_10_method_20_code
def yX8_floodNow : MethodName := ⟨RX8, "floodNow", "(I)I"⟩
abbrev cX8_holders : ByteArray := prog_10_method_21_code
def yX8_holders : MethodName := ⟨RX8, "holders", "()I"⟩
abbrev cX8_flood : ByteArray := prog_10_method_22_code
def yX8_flood : MethodName := ⟨RX8, "flood", "(I)I"⟩
abbrev cX8_packetAt : ByteArray := prog_10_method_23_code
def yX8_packetAt : MethodName := ⟨RX8, "packetAt", "(I)I"⟩
abbrev cX8_hops : ByteArray := prog_10_method_24_code
def yX8_hops : MethodName := ⟨RX8, "hops", "(I)I"⟩
abbrev cX8_hopCount : ByteArray := prog_10_method_25_code
def yX8_hopCount : MethodName := ⟨RX8, "hopCount", "(I)I"⟩
abbrev cX8_floodLength : ByteArray := prog_10_method_26_code
def yX8_floodLength : MethodName := ⟨RX8, "floodLength", "()I"⟩
abbrev cX8_addStream : ByteArray := prog_10_method_27_code
def yX8_addStream : MethodName := ⟨RX8, "addStream", "(III)I"⟩
abbrev cX8_isStream : ByteArray := prog_10_method_28_code
def yX8_isStream : MethodName := ⟨RX8, "isStream", "(I)Z"⟩
abbrev cX8_removeStream : ByteArray := prog_10_method_29_code
def yX8_removeStream : MethodName := ⟨RX8, "removeStream", "(I)I"⟩
abbrev cX8_waitingPackets : ByteArray := prog_10_method_30_code
def yX8_waitingPackets : MethodName := ⟨RX8, "waitingPackets", "(I)I"⟩
abbrev cX8_deliveredPackets : ByteArray := prog_10_method_31_code
def yX8_deliveredPackets : MethodName := ⟨RX8, "deliveredPackets", "(I)I"⟩
abbrev cX8_lostPackets : ByteArray := prog_10_method_32_code
def yX8_lostPackets : MethodName := ⟨RX8, "lostPackets", "(I)I"⟩
abbrev cX8_generate : ByteArray := prog_10_method_33_code
def yX8_generate : MethodName := ⟨RX8, "generate", "()V"⟩
abbrev cX8_isScheduled : ByteArray := prog_10_method_34_code
def yX8_isScheduled : MethodName := ⟨RX8, "isScheduled", "(I)Z"⟩
abbrev cX8_buildSchedule : ByteArray := prog_10_method_35_code
def yX8_buildSchedule : MethodName := ⟨RX8, "buildSchedule", "()V"⟩
abbrev cX8_takePacket : ByteArray := prog_10_method_36_code
def yX8_takePacket : MethodName := ⟨RX8, "takePacket", "(I)V"⟩
abbrev cX8_spreadSchedule : ByteArray := prog_10_method_37_code
def yX8_spreadSchedule : MethodName := ⟨RX8, "spreadSchedule", "()V"⟩
abbrev cX8_serve : ByteArray := prog_10_method_38_code
def yX8_serve : MethodName := ⟨RX8, "serve", "(I)I"⟩
abbrev cX8_takeOver : ByteArray := prog_10_method_39_code
def yX8_takeOver : MethodName := ⟨RX8, "takeOver", "()V"⟩
abbrev cX8_runRound : ByteArray := prog_10_method_40_code
def yX8_runRound : MethodName := ⟨RX8, "runRound", "()I"⟩
abbrev cX8_runRounds : ByteArray := prog_10_method_41_code
def yX8_runRounds : MethodName := ⟨RX8, "runRounds", "(I)I"⟩
abbrev cX8_scheduledStream : ByteArray := prog_10_method_42_code
def yX8_scheduledStream : MethodName := ⟨RX8, "scheduledStream", "(I)I"⟩
abbrev cX8_areSourcesDifferent : ByteArray := prog_10_method_43_code
def yX8_areSourcesDifferent : MethodName := ⟨RX8, "areSourcesDifferent", "()Z"⟩
abbrev cX8_scheduleBits : ByteArray := prog_10_method_44_code
def yX8_scheduleBits : MethodName := ⟨RX8, "scheduleBits", "()I"⟩
abbrev cX8_host : ByteArray := prog_10_method_45_code
def yX8_host : MethodName := ⟨RX8, "host", "()I"⟩
abbrev cX8_missedSchedules : ByteArray := prog_10_method_46_code
def yX8_missedSchedules : MethodName := ⟨RX8, "missedSchedules", "(I)I"⟩
abbrev cX8_transmissions : ByteArray := prog_10_method_47_code
def yX8_transmissions : MethodName := ⟨RX8, "transmissions", "(I)I"⟩
abbrev cX8_roundNumber : ByteArray := prog_10_method_48_code
def yX8_roundNumber : MethodName := ⟨RX8, "roundNumber", "()I"⟩
abbrev cX8_mix : ByteArray := prog_10_method_49_code
def yX8_mix : MethodName := ⟨RX8, "mix", "(J)V"⟩
abbrev cX8_digest : ByteArray := prog_10_method_50_code
def yX8_digest : MethodName := ⟨RX8, "digest", "()J"⟩
def RJ9 : String := "java/lang/Math"
def TJ9 : u_T := fun k => match k with
  | _ => ("", "", "", false)
def tyJ9 : Nat → FieldType := fun k => match k with
  | _ => .int
abbrev wsJ90 : List Cond := u_ws RJ9 TJ9 0
theorem nmJ9 : ∀ a, a < 0 → ∀ b, b < 0 → a ≠ b → (TJ9 a).2.1 ≠ (TJ9 b).2.1 := by decide +kernel
theorem tyJ9_ok : ∀ k, k < 0 → parseFieldDescriptor (TJ9 k).2.2.1 = some (tyJ9 k) := by decide +kernel
abbrev cJ9_max_7cf53 : ByteArray := prog_11_method_65_code
def yJ9_max_7cf53 : MethodName := ⟨RJ9, "max", "(II)I"⟩
abbrev cJ9_min_7cf53 : ByteArray := prog_11_method_69_code
def yJ9_min_7cf53 : MethodName := ⟨RJ9, "min", "(II)I"⟩
def RJ10 : String := "java/lang/System"
def TJ10 : u_T := fun k => match k with
  | _ => ("", "", "", false)
def tyJ10 : Nat → FieldType := fun k => match k with
  | _ => .int
abbrev wsJ100 : List Cond := u_ws RJ10 TJ10 0
theorem nmJ10 : ∀ a, a < 0 → ∀ b, b < 0 → a ≠ b → (TJ10 a).2.1 ≠ (TJ10 b).2.1 := by decide +kernel
theorem tyJ10_ok : ∀ k, k < 0 → parseFieldDescriptor (TJ10 k).2.2.1 = some (tyJ10 k) := by decide +kernel
def RJ7 : String := "java/util/Arrays"
def TJ7 : u_T := fun k => match k with
  | _ => ("", "", "", false)
def tyJ7 : Nat → FieldType := fun k => match k with
  | _ => .int
abbrev wsJ70 : List Cond := u_ws RJ7 TJ7 0
theorem nmJ7 : ∀ a, a < 0 → ∀ b, b < 0 → a ≠ b → (TJ7 a).2.1 ≠ (TJ7 b).2.1 := by decide +kernel
theorem tyJ7_ok : ∀ k, k < 0 → parseFieldDescriptor (TJ7 k).2.2.1 = some (tyJ7 k) := by decide +kernel
abbrev cJ7_fill_53178 : ByteArray := prog_13_method_103_code
def yJ7_fill_53178 : MethodName := ⟨RJ7, "fill", "([II)V"⟩
def RL : String := "FloodBusLaw"
abbrev cL_law : ByteArray := code
def yL_law : MethodName := ⟨RL, "law", "([I)Z"⟩
def wsX2_init : List Cond := .code yX2_init cX2_init 1 none :: ([.methodLink RX2 3 objectInit, .instanceMethod objectInit, .code objectInit ⟨#[0xb1]⟩ 1 none, .classLink RX2 9 "[[I", .arrayClass .int, .fieldLink RX2 11 "FloodBus$Links" "strength" "[[I", .fieldLink RX2 16 "FloodBus$Links" "lossPeriod" "[[I"] ++ wsX20)
def wsX0_init : List Cond := .code yX0_init cX0_init 1 none :: ([.methodLink RX0 3 objectInit, .instanceMethod objectInit, .code objectInit ⟨#[0xb1]⟩ 1 none, .arrayClass .int, .fieldLink RX0 9 "FloodBus$Description" "characters" "[I", .fieldLink RX0 15 "FloodBus$Description" "length" "I", .classLink RX0 19 RX2, .instantiable RX2 2, .initialized RX2, .fieldLink RX0 22 "FloodBus$Description" "links" "LFloodBus$Links;", .fieldLink RX0 26 "FloodBus$Description" "nodeCount" "I", .fieldLink RX0 29 "FloodBus$Description" "linkCount" "I", .fieldLink RX0 32 "FloodBus$Description" "expected" "I", .fieldLink RX0 35 "FloodBus$Description" "firstNode" "I", .fieldLink RX0 38 "FloodBus$Description" "secondNode" "I", .instanceMethod yX2_init, .code yX2_init cX2_init 1 none, .methodLink RX2 3 objectInit, .classLink RX2 9 "[[I", .fieldLink RX2 11 "FloodBus$Links" "strength" "[[I", .fieldLink RX2 16 "FloodBus$Links" "lossPeriod" "[[I"] ++ wsX00 ++ wsX20)
def wsX0_add : List Cond := .code yX0_add cX0_add 2 (some .int) :: ([.fieldLink RX0 15 "FloodBus$Description" "length" "I", .fieldLink RX0 9 "FloodBus$Description" "characters" "[I"] ++ wsX00)
def wsJ7_fill_53178 : List Cond := .code yJ7_fill_53178 cJ7_fill_53178 4 none :: ([])
def wsX2_clear : List Cond := .code yX2_clear cX2_clear 2 none :: ([.fieldLink RX2 11 "FloodBus$Links" "strength" "[[I", .fieldLink RX2 16 "FloodBus$Links" "lossPeriod" "[[I", .methodLink RX2 19 yJ7_fill_53178, .static yJ7_fill_53178, .initialized RJ7, .code yJ7_fill_53178 cJ7_fill_53178 4 none] ++ wsX20)
def wsX0_acceptsNodeCount : List Cond := .code yX0_acceptsNodeCount cX0_acceptsNodeCount 2 (some .boolean) :: ([.fieldLink RX0 26 "FloodBus$Description" "nodeCount" "I", .fieldLink RX0 32 "FloodBus$Description" "expected" "I"] ++ wsX00)
def wsX0_acceptsLinkMark : List Cond := .code yX0_acceptsLinkMark cX0_acceptsLinkMark 2 (some .boolean) :: ([.fieldLink RX0 29 "FloodBus$Description" "linkCount" "I", .fieldLink RX0 32 "FloodBus$Description" "expected" "I"] ++ wsX00)
def wsX0_acceptsFirstNode : List Cond := .code yX0_acceptsFirstNode cX0_acceptsFirstNode 2 (some .boolean) :: ([.fieldLink RX0 26 "FloodBus$Description" "nodeCount" "I", .fieldLink RX0 35 "FloodBus$Description" "firstNode" "I", .fieldLink RX0 32 "FloodBus$Description" "expected" "I"] ++ wsX00)
def wsX2_join : List Cond := .code yX2_join cX2_join 3 (some .boolean) :: ([.fieldLink RX2 11 "FloodBus$Links" "strength" "[[I"] ++ wsX20)
def wsX0_acceptsSecondNode : List Cond := .code yX0_acceptsSecondNode cX0_acceptsSecondNode 2 (some .boolean) :: ([.fieldLink RX0 35 "FloodBus$Description" "firstNode" "I", .fieldLink RX0 26 "FloodBus$Description" "nodeCount" "I", .fieldLink RX0 22 "FloodBus$Description" "links" "LFloodBus$Links;", .fieldLink RX0 38 "FloodBus$Description" "secondNode" "I", .fieldLink RX0 32 "FloodBus$Description" "expected" "I", .methodLink RX0 70 yX2_join, .instanceMethod yX2_join, .selects RX2 yX2_join yX2_join, .initialized RX2, .code yX2_join cX2_join 3 (some .boolean), .fieldLink RX2 11 "FloodBus$Links" "strength" "[[I"] ++ wsX00 ++ wsX20)
def wsX2_setStrength : List Cond := .code yX2_setStrength cX2_setStrength 4 none :: ([.fieldLink RX2 11 "FloodBus$Links" "strength" "[[I"] ++ wsX20)
def wsX0_acceptsStrength : List Cond := .code yX0_acceptsStrength cX0_acceptsStrength 2 (some .boolean) :: ([.fieldLink RX0 22 "FloodBus$Description" "links" "LFloodBus$Links;", .fieldLink RX0 35 "FloodBus$Description" "firstNode" "I", .fieldLink RX0 38 "FloodBus$Description" "secondNode" "I", .fieldLink RX0 32 "FloodBus$Description" "expected" "I", .methodLink RX0 74 yX2_setStrength, .instanceMethod yX2_setStrength, .selects RX2 yX2_setStrength yX2_setStrength, .initialized RX2, .code yX2_setStrength cX2_setStrength 4 none, .fieldLink RX2 11 "FloodBus$Links" "strength" "[[I"] ++ wsX00 ++ wsX20)
def wsX2_setLossPeriod : List Cond := .code yX2_setLossPeriod cX2_setLossPeriod 4 none :: ([.fieldLink RX2 16 "FloodBus$Links" "lossPeriod" "[[I"] ++ wsX20)
def wsX0_acceptsLossPeriod : List Cond := .code yX0_acceptsLossPeriod cX0_acceptsLossPeriod 2 (some .boolean) :: ([.fieldLink RX0 22 "FloodBus$Description" "links" "LFloodBus$Links;", .fieldLink RX0 35 "FloodBus$Description" "firstNode" "I", .fieldLink RX0 38 "FloodBus$Description" "secondNode" "I", .fieldLink RX0 32 "FloodBus$Description" "expected" "I", .methodLink RX0 78 yX2_setLossPeriod, .instanceMethod yX2_setLossPeriod, .selects RX2 yX2_setLossPeriod yX2_setLossPeriod, .initialized RX2, .code yX2_setLossPeriod cX2_setLossPeriod 4 none, .fieldLink RX2 16 "FloodBus$Links" "lossPeriod" "[[I"] ++ wsX00 ++ wsX20)
def wsX0_accepts_r1 : List Cond := [Cond.fieldLink RX0 32 "FloodBus$Description" "expected" "I", Cond.methodLink RX0 52 yX0_acceptsNodeCount, Cond.instanceMethod yX0_acceptsNodeCount, Cond.selects RX0 yX0_acceptsNodeCount yX0_acceptsNodeCount, Cond.initialized RX0, Cond.code yX0_acceptsNodeCount cX0_acceptsNodeCount 2 (some .boolean), Cond.fieldLink RX0 26 "FloodBus$Description" "nodeCount" "I", Cond.methodLink RX0 55 yX0_acceptsLinkMark, Cond.instanceMethod yX0_acceptsLinkMark, Cond.selects RX0 yX0_acceptsLinkMark yX0_acceptsLinkMark, Cond.code yX0_acceptsLinkMark cX0_acceptsLinkMark 2 (some .boolean), Cond.fieldLink RX0 29 "FloodBus$Description" "linkCount" "I", Cond.methodLink RX0 58 yX0_acceptsFirstNode, Cond.instanceMethod yX0_acceptsFirstNode, Cond.selects RX0 yX0_acceptsFirstNode yX0_acceptsFirstNode, Cond.code yX0_acceptsFirstNode cX0_acceptsFirstNode 2 (some .boolean), Cond.fieldLink RX0 35 "FloodBus$Description" "firstNode" "I", Cond.methodLink RX0 61 yX0_acceptsSecondNode, Cond.instanceMethod yX0_acceptsSecondNode, Cond.selects RX0 yX0_acceptsSecondNode yX0_acceptsSecondNode, Cond.code yX0_acceptsSecondNode cX0_acceptsSecondNode 2 (some .boolean), Cond.fieldLink RX0 22 "FloodBus$Description" "links" "LFloodBus$Links;", Cond.fieldLink RX0 38 "FloodBus$Description" "secondNode" "I", Cond.methodLink RX0 70 yX2_join]
def wsX0_accepts_r2 : List Cond := [Cond.instanceMethod yX2_join, Cond.selects RX2 yX2_join yX2_join, Cond.initialized RX2, Cond.code yX2_join cX2_join 3 (some .boolean), Cond.fieldLink RX2 11 "FloodBus$Links" "strength" "[[I", Cond.methodLink RX0 64 yX0_acceptsStrength, Cond.instanceMethod yX0_acceptsStrength, Cond.selects RX0 yX0_acceptsStrength yX0_acceptsStrength, Cond.code yX0_acceptsStrength cX0_acceptsStrength 2 (some .boolean), Cond.methodLink RX0 74 yX2_setStrength, Cond.instanceMethod yX2_setStrength, Cond.selects RX2 yX2_setStrength yX2_setStrength, Cond.code yX2_setStrength cX2_setStrength 4 none, Cond.methodLink RX0 67 yX0_acceptsLossPeriod, Cond.instanceMethod yX0_acceptsLossPeriod, Cond.selects RX0 yX0_acceptsLossPeriod yX0_acceptsLossPeriod, Cond.code yX0_acceptsLossPeriod cX0_acceptsLossPeriod 2 (some .boolean), Cond.methodLink RX0 78 yX2_setLossPeriod, Cond.instanceMethod yX2_setLossPeriod, Cond.selects RX2 yX2_setLossPeriod yX2_setLossPeriod, Cond.code yX2_setLossPeriod cX2_setLossPeriod 4 none, Cond.fieldLink RX2 16 "FloodBus$Links" "lossPeriod" "[[I"]
def wsX0_accepts : List Cond := .code yX0_accepts cX0_accepts 2 (some .boolean) :: ((wsX0_accepts_r1 ++ wsX0_accepts_r2) ++ wsX00 ++ wsX20)
def wsX0_findError_r1 : List Cond := [Cond.fieldLink RX0 22 "FloodBus$Description" "links" "LFloodBus$Links;", Cond.fieldLink RX0 29 "FloodBus$Description" "linkCount" "I", Cond.fieldLink RX0 32 "FloodBus$Description" "expected" "I", Cond.fieldLink RX0 15 "FloodBus$Description" "length" "I", Cond.fieldLink RX0 9 "FloodBus$Description" "characters" "[I", Cond.methodLink RX0 45 yX2_clear, Cond.instanceMethod yX2_clear, Cond.selects RX2 yX2_clear yX2_clear, Cond.initialized RX2, Cond.code yX2_clear cX2_clear 2 none, Cond.fieldLink RX2 11 "FloodBus$Links" "strength" "[[I", Cond.fieldLink RX2 16 "FloodBus$Links" "lossPeriod" "[[I", Cond.methodLink RX2 19 yJ7_fill_53178, Cond.static yJ7_fill_53178, Cond.initialized RJ7, Cond.code yJ7_fill_53178 cJ7_fill_53178 4 none, Cond.methodLink RX0 48 yX0_accepts, Cond.instanceMethod yX0_accepts, Cond.selects RX0 yX0_accepts yX0_accepts, Cond.initialized RX0, Cond.code yX0_accepts cX0_accepts 2 (some .boolean), Cond.methodLink RX0 52 yX0_acceptsNodeCount, Cond.instanceMethod yX0_acceptsNodeCount, Cond.selects RX0 yX0_acceptsNodeCount yX0_acceptsNodeCount]
def wsX0_findError_r2 : List Cond := [Cond.code yX0_acceptsNodeCount cX0_acceptsNodeCount 2 (some .boolean), Cond.fieldLink RX0 26 "FloodBus$Description" "nodeCount" "I", Cond.methodLink RX0 55 yX0_acceptsLinkMark, Cond.instanceMethod yX0_acceptsLinkMark, Cond.selects RX0 yX0_acceptsLinkMark yX0_acceptsLinkMark, Cond.code yX0_acceptsLinkMark cX0_acceptsLinkMark 2 (some .boolean), Cond.methodLink RX0 58 yX0_acceptsFirstNode, Cond.instanceMethod yX0_acceptsFirstNode, Cond.selects RX0 yX0_acceptsFirstNode yX0_acceptsFirstNode, Cond.code yX0_acceptsFirstNode cX0_acceptsFirstNode 2 (some .boolean), Cond.fieldLink RX0 35 "FloodBus$Description" "firstNode" "I", Cond.methodLink RX0 61 yX0_acceptsSecondNode, Cond.instanceMethod yX0_acceptsSecondNode, Cond.selects RX0 yX0_acceptsSecondNode yX0_acceptsSecondNode, Cond.code yX0_acceptsSecondNode cX0_acceptsSecondNode 2 (some .boolean), Cond.fieldLink RX0 38 "FloodBus$Description" "secondNode" "I", Cond.methodLink RX0 70 yX2_join, Cond.instanceMethod yX2_join, Cond.selects RX2 yX2_join yX2_join, Cond.code yX2_join cX2_join 3 (some .boolean), Cond.methodLink RX0 64 yX0_acceptsStrength, Cond.instanceMethod yX0_acceptsStrength, Cond.selects RX0 yX0_acceptsStrength yX0_acceptsStrength, Cond.code yX0_acceptsStrength cX0_acceptsStrength 2 (some .boolean)]
def wsX0_findError_r3 : List Cond := [Cond.methodLink RX0 74 yX2_setStrength, Cond.instanceMethod yX2_setStrength, Cond.selects RX2 yX2_setStrength yX2_setStrength, Cond.code yX2_setStrength cX2_setStrength 4 none, Cond.methodLink RX0 67 yX0_acceptsLossPeriod, Cond.instanceMethod yX0_acceptsLossPeriod, Cond.selects RX0 yX0_acceptsLossPeriod yX0_acceptsLossPeriod, Cond.code yX0_acceptsLossPeriod cX0_acceptsLossPeriod 2 (some .boolean), Cond.methodLink RX0 78 yX2_setLossPeriod, Cond.instanceMethod yX2_setLossPeriod, Cond.selects RX2 yX2_setLossPeriod yX2_setLossPeriod, Cond.code yX2_setLossPeriod cX2_setLossPeriod 4 none]
def wsX0_findError : List Cond := .code yX0_findError cX0_findError 2 (some .int) :: ((wsX0_findError_r1 ++ (wsX0_findError_r2 ++ wsX0_findError_r3)) ++ wsX00 ++ wsX20)
def wsX0_isComplete_r1 : List Cond := [Cond.fieldLink RX0 15 "FloodBus$Description" "length" "I", Cond.fieldLink RX0 32 "FloodBus$Description" "expected" "I", Cond.methodLink RX0 41 yX0_findError, Cond.instanceMethod yX0_findError, Cond.selects RX0 yX0_findError yX0_findError, Cond.initialized RX0, Cond.code yX0_findError cX0_findError 2 (some .int), Cond.fieldLink RX0 22 "FloodBus$Description" "links" "LFloodBus$Links;", Cond.fieldLink RX0 29 "FloodBus$Description" "linkCount" "I", Cond.fieldLink RX0 9 "FloodBus$Description" "characters" "[I", Cond.methodLink RX0 45 yX2_clear, Cond.instanceMethod yX2_clear, Cond.selects RX2 yX2_clear yX2_clear, Cond.initialized RX2, Cond.code yX2_clear cX2_clear 2 none, Cond.fieldLink RX2 11 "FloodBus$Links" "strength" "[[I", Cond.fieldLink RX2 16 "FloodBus$Links" "lossPeriod" "[[I", Cond.methodLink RX2 19 yJ7_fill_53178, Cond.static yJ7_fill_53178, Cond.initialized RJ7, Cond.code yJ7_fill_53178 cJ7_fill_53178 4 none, Cond.methodLink RX0 48 yX0_accepts, Cond.instanceMethod yX0_accepts, Cond.selects RX0 yX0_accepts yX0_accepts]
def wsX0_isComplete_r2 : List Cond := [Cond.code yX0_accepts cX0_accepts 2 (some .boolean), Cond.methodLink RX0 52 yX0_acceptsNodeCount, Cond.instanceMethod yX0_acceptsNodeCount, Cond.selects RX0 yX0_acceptsNodeCount yX0_acceptsNodeCount, Cond.code yX0_acceptsNodeCount cX0_acceptsNodeCount 2 (some .boolean), Cond.fieldLink RX0 26 "FloodBus$Description" "nodeCount" "I", Cond.methodLink RX0 55 yX0_acceptsLinkMark, Cond.instanceMethod yX0_acceptsLinkMark, Cond.selects RX0 yX0_acceptsLinkMark yX0_acceptsLinkMark, Cond.code yX0_acceptsLinkMark cX0_acceptsLinkMark 2 (some .boolean), Cond.methodLink RX0 58 yX0_acceptsFirstNode, Cond.instanceMethod yX0_acceptsFirstNode, Cond.selects RX0 yX0_acceptsFirstNode yX0_acceptsFirstNode, Cond.code yX0_acceptsFirstNode cX0_acceptsFirstNode 2 (some .boolean), Cond.fieldLink RX0 35 "FloodBus$Description" "firstNode" "I", Cond.methodLink RX0 61 yX0_acceptsSecondNode, Cond.instanceMethod yX0_acceptsSecondNode, Cond.selects RX0 yX0_acceptsSecondNode yX0_acceptsSecondNode, Cond.code yX0_acceptsSecondNode cX0_acceptsSecondNode 2 (some .boolean), Cond.fieldLink RX0 38 "FloodBus$Description" "secondNode" "I", Cond.methodLink RX0 70 yX2_join, Cond.instanceMethod yX2_join, Cond.selects RX2 yX2_join yX2_join, Cond.code yX2_join cX2_join 3 (some .boolean)]
def wsX0_isComplete_r3 : List Cond := [Cond.methodLink RX0 64 yX0_acceptsStrength, Cond.instanceMethod yX0_acceptsStrength, Cond.selects RX0 yX0_acceptsStrength yX0_acceptsStrength, Cond.code yX0_acceptsStrength cX0_acceptsStrength 2 (some .boolean), Cond.methodLink RX0 74 yX2_setStrength, Cond.instanceMethod yX2_setStrength, Cond.selects RX2 yX2_setStrength yX2_setStrength, Cond.code yX2_setStrength cX2_setStrength 4 none, Cond.methodLink RX0 67 yX0_acceptsLossPeriod, Cond.instanceMethod yX0_acceptsLossPeriod, Cond.selects RX0 yX0_acceptsLossPeriod yX0_acceptsLossPeriod, Cond.code yX0_acceptsLossPeriod cX0_acceptsLossPeriod 2 (some .boolean), Cond.methodLink RX0 78 yX2_setLossPeriod, Cond.instanceMethod yX2_setLossPeriod, Cond.selects RX2 yX2_setLossPeriod yX2_setLossPeriod, Cond.code yX2_setLossPeriod cX2_setLossPeriod 4 none]
def wsX0_isComplete : List Cond := .code yX0_isComplete cX0_isComplete 1 (some .boolean) :: ((wsX0_isComplete_r1 ++ (wsX0_isComplete_r2 ++ wsX0_isComplete_r3)) ++ wsX00 ++ wsX20)
def wsX1_init : List Cond := .code yX1_init cX1_init 1 none :: ([.methodLink RX1 3 objectInit, .instanceMethod objectInit, .code objectInit ⟨#[0xb1]⟩ 1 none, .arrayClass .int, .fieldLink RX1 9 "FloodBus$Flooding" "levels" "[I", .fieldLink RX1 15 "FloodBus$Flooding" "packet" "[I", .fieldLink RX1 18 "FloodBus$Flooding" "hops" "[I", .fieldLink RX1 21 "FloodBus$Flooding" "length" "I", .fieldLink RX1 25 "FloodBus$Flooding" "transmissionLimit" "I", .fieldLink RX1 28 "FloodBus$Flooding" "captureMargin" "I"] ++ wsX10)
def wsX1_forget : List Cond := .code yX1_forget cX1_forget 1 none :: ([.fieldLink RX1 15 "FloodBus$Flooding" "packet" "[I", .fieldLink RX1 18 "FloodBus$Flooding" "hops" "[I", .fieldLink RX1 21 "FloodBus$Flooding" "length" "I", .methodLink RX1 31 yJ7_fill_53178, .static yJ7_fill_53178, .initialized RJ7, .code yJ7_fill_53178 cJ7_fill_53178 4 none] ++ wsX10)
def wsX1_hold : List Cond := .code yX1_hold cX1_hold 5 none :: ([.fieldLink RX1 15 "FloodBus$Flooding" "packet" "[I", .fieldLink RX1 18 "FloodBus$Flooding" "hops" "[I", .fieldLink RX1 53 "FloodBus$Network" "sent" "[I", .fieldLink RX1 25 "FloodBus$Flooding" "transmissionLimit" "I", .fieldLink RX1 21 "FloodBus$Flooding" "length" "I", .methodLink RX1 56 Lib.Math.max.name, .static Lib.Math.max.name, .initialized "java/lang/Math", .code Lib.Math.max.name Lib.Math.max.code 2 (some .int)] ++ wsX10 ++ wsX30)
def wsX1_transmits : List Cond := .code yX1_transmits cX1_transmits 4 (some .boolean) :: ([.fieldLink RX1 15 "FloodBus$Flooding" "packet" "[I", .fieldLink RX1 18 "FloodBus$Flooding" "hops" "[I", .fieldLink RX1 25 "FloodBus$Flooding" "transmissionLimit" "I"] ++ wsX10)
def wsX2_signal : List Cond := .code yX2_signal cX2_signal 5 (some .int) :: ([.fieldLink RX2 16 "FloodBus$Links" "lossPeriod" "[[I", .fieldLink RX2 11 "FloodBus$Links" "strength" "[[I"] ++ wsX20)
def wsX1_measureLevels : List Cond := .code yX1_measureLevels cX1_measureLevels 6 none :: ([.fieldLink RX1 9 "FloodBus$Flooding" "levels" "[I", .fieldLink RX1 15 "FloodBus$Flooding" "packet" "[I", .methodLink RX1 56 Lib.Math.max.name, .static Lib.Math.max.name, .initialized "java/lang/Math", .code Lib.Math.max.name Lib.Math.max.code 2 (some .int), .methodLink RX1 31 yJ7_fill_53178, .static yJ7_fill_53178, .initialized RJ7, .code yJ7_fill_53178 cJ7_fill_53178 4 none, .methodLink RX1 78 yX1_transmits, .instanceMethod yX1_transmits, .selects RX1 yX1_transmits yX1_transmits, .initialized RX1, .code yX1_transmits cX1_transmits 4 (some .boolean), .fieldLink RX1 18 "FloodBus$Flooding" "hops" "[I", .fieldLink RX1 25 "FloodBus$Flooding" "transmissionLimit" "I", .methodLink RX1 82 yX2_signal, .instanceMethod yX2_signal, .selects RX2 yX2_signal yX2_signal, .initialized RX2, .code yX2_signal cX2_signal 5 (some .int), .fieldLink RX2 16 "FloodBus$Links" "lossPeriod" "[[I", .fieldLink RX2 11 "FloodBus$Links" "strength" "[[I"] ++ wsX10 ++ wsX20)
def wsX1_capturedPacket : List Cond := .code yX1_capturedPacket cX1_capturedPacket 5 (some .int) :: ([.fieldLink RX1 9 "FloodBus$Flooding" "levels" "[I", .fieldLink RX1 28 "FloodBus$Flooding" "captureMargin" "I"] ++ wsX10)
def wsX1_runSlot_r1 : List Cond := [Cond.fieldLink RX1 40 "FloodBus$Network" "count" "I", Cond.fieldLink RX1 62 "FloodBus$Network" "alive" "[Z", Cond.fieldLink RX1 15 "FloodBus$Flooding" "packet" "[I", Cond.fieldLink RX1 66 "FloodBus$Network" "links" "LFloodBus$Links;", Cond.methodLink RX1 70 yX1_measureLevels, Cond.instanceMethod yX1_measureLevels, Cond.selects RX1 yX1_measureLevels yX1_measureLevels, Cond.initialized RX1, Cond.code yX1_measureLevels cX1_measureLevels 6 none, Cond.fieldLink RX1 9 "FloodBus$Flooding" "levels" "[I", Cond.methodLink RX1 56 Lib.Math.max.name, Cond.static Lib.Math.max.name, Cond.initialized "java/lang/Math", Cond.code Lib.Math.max.name Lib.Math.max.code 2 (some .int), Cond.methodLink RX1 31 yJ7_fill_53178, Cond.static yJ7_fill_53178, Cond.initialized RJ7, Cond.code yJ7_fill_53178 cJ7_fill_53178 4 none, Cond.methodLink RX1 78 yX1_transmits, Cond.instanceMethod yX1_transmits, Cond.selects RX1 yX1_transmits yX1_transmits, Cond.code yX1_transmits cX1_transmits 4 (some .boolean), Cond.fieldLink RX1 18 "FloodBus$Flooding" "hops" "[I", Cond.fieldLink RX1 25 "FloodBus$Flooding" "transmissionLimit" "I"]
def wsX1_runSlot_r2 : List Cond := [Cond.methodLink RX1 82 yX2_signal, Cond.instanceMethod yX2_signal, Cond.selects RX2 yX2_signal yX2_signal, Cond.initialized RX2, Cond.code yX2_signal cX2_signal 5 (some .int), Cond.fieldLink RX2 16 "FloodBus$Links" "lossPeriod" "[[I", Cond.fieldLink RX2 11 "FloodBus$Links" "strength" "[[I", Cond.methodLink RX1 74 yX1_capturedPacket, Cond.instanceMethod yX1_capturedPacket, Cond.selects RX1 yX1_capturedPacket yX1_capturedPacket, Cond.code yX1_capturedPacket cX1_capturedPacket 5 (some .int), Cond.fieldLink RX1 28 "FloodBus$Flooding" "captureMargin" "I", Cond.methodLink RX1 45 yX1_hold, Cond.instanceMethod yX1_hold, Cond.selects RX1 yX1_hold yX1_hold, Cond.code yX1_hold cX1_hold 5 none, Cond.fieldLink RX1 53 "FloodBus$Network" "sent" "[I", Cond.fieldLink RX1 21 "FloodBus$Flooding" "length" "I"]
def wsX1_runSlot : List Cond := .code yX1_runSlot cX1_runSlot 5 none :: ((wsX1_runSlot_r1 ++ wsX1_runSlot_r2) ++ wsX30 ++ wsX10 ++ wsX20)
def wsX1_run_r1 : List Cond := [Cond.fieldLink RX1 40 "FloodBus$Network" "count" "I", Cond.fieldLink RX1 21 "FloodBus$Flooding" "length" "I", Cond.methodLink RX1 37 yX1_forget, Cond.instanceMethod yX1_forget, Cond.selects RX1 yX1_forget yX1_forget, Cond.initialized RX1, Cond.code yX1_forget cX1_forget 1 none, Cond.fieldLink RX1 15 "FloodBus$Flooding" "packet" "[I", Cond.fieldLink RX1 18 "FloodBus$Flooding" "hops" "[I", Cond.methodLink RX1 31 yJ7_fill_53178, Cond.static yJ7_fill_53178, Cond.initialized RJ7, Cond.code yJ7_fill_53178 cJ7_fill_53178 4 none, Cond.methodLink RX1 45 yX1_hold, Cond.instanceMethod yX1_hold, Cond.selects RX1 yX1_hold yX1_hold, Cond.code yX1_hold cX1_hold 5 none, Cond.fieldLink RX1 53 "FloodBus$Network" "sent" "[I", Cond.fieldLink RX1 25 "FloodBus$Flooding" "transmissionLimit" "I", Cond.methodLink RX1 56 Lib.Math.max.name, Cond.static Lib.Math.max.name, Cond.initialized "java/lang/Math", Cond.code Lib.Math.max.name Lib.Math.max.code 2 (some .int), Cond.methodLink RX1 49 yX1_runSlot]
def wsX1_run_r2 : List Cond := [Cond.instanceMethod yX1_runSlot, Cond.selects RX1 yX1_runSlot yX1_runSlot, Cond.code yX1_runSlot cX1_runSlot 5 none, Cond.fieldLink RX1 62 "FloodBus$Network" "alive" "[Z", Cond.fieldLink RX1 66 "FloodBus$Network" "links" "LFloodBus$Links;", Cond.methodLink RX1 70 yX1_measureLevels, Cond.instanceMethod yX1_measureLevels, Cond.selects RX1 yX1_measureLevels yX1_measureLevels, Cond.code yX1_measureLevels cX1_measureLevels 6 none, Cond.fieldLink RX1 9 "FloodBus$Flooding" "levels" "[I", Cond.methodLink RX1 78 yX1_transmits, Cond.instanceMethod yX1_transmits, Cond.selects RX1 yX1_transmits yX1_transmits, Cond.code yX1_transmits cX1_transmits 4 (some .boolean), Cond.methodLink RX1 82 yX2_signal, Cond.instanceMethod yX2_signal, Cond.selects RX2 yX2_signal yX2_signal, Cond.initialized RX2, Cond.code yX2_signal cX2_signal 5 (some .int), Cond.fieldLink RX2 16 "FloodBus$Links" "lossPeriod" "[[I", Cond.fieldLink RX2 11 "FloodBus$Links" "strength" "[[I", Cond.methodLink RX1 74 yX1_capturedPacket, Cond.instanceMethod yX1_capturedPacket, Cond.selects RX1 yX1_capturedPacket yX1_capturedPacket]
def wsX1_run_r3 : List Cond := [Cond.code yX1_capturedPacket cX1_capturedPacket 5 (some .int), Cond.fieldLink RX1 28 "FloodBus$Flooding" "captureMargin" "I"]
def wsX1_run : List Cond := .code yX1_run cX1_run 4 none :: ((wsX1_run_r1 ++ (wsX1_run_r2 ++ wsX1_run_r3)) ++ wsX30 ++ wsX10 ++ wsX20)
def wsX1_countHolders : List Cond := .code yX1_countHolders cX1_countHolders 3 (some .int) :: ([.fieldLink RX1 15 "FloodBus$Flooding" "packet" "[I"] ++ wsX10)
def wsX2_copyFrom : List Cond := .code yX2_copyFrom cX2_copyFrom 3 none :: ([.fieldLink RX2 11 "FloodBus$Links" "strength" "[[I", .methodLink RX2 25 arraycopyName, .native arraycopyName, .static arraycopyName, .initialized "java/lang/System", .fieldLink RX2 16 "FloodBus$Links" "lossPeriod" "[[I"] ++ wsX20)
def wsX3_init : List Cond := .code yX3_init cX3_init 1 none :: ([.methodLink RX3 3 objectInit, .instanceMethod objectInit, .code objectInit ⟨#[0xb1]⟩ 1 none, .classLink RX3 9 RX2, .instantiable RX2 2, .initialized RX2, .fieldLink RX3 12 "FloodBus$Network" "links" "LFloodBus$Links;", .fieldLink RX3 18 "FloodBus$Network" "count" "I", .arrayClass .boolean, .fieldLink RX3 22 "FloodBus$Network" "alive" "[Z", .arrayClass .int, .fieldLink RX3 26 "FloodBus$Network" "missed" "[I", .fieldLink RX3 30 "FloodBus$Network" "sent" "[I", .fieldLink RX3 33 "FloodBus$Network" "informed" "[Z", .instanceMethod yX2_init, .code yX2_init cX2_init 1 none, .methodLink RX2 3 objectInit, .classLink RX2 9 "[[I", .fieldLink RX2 11 "FloodBus$Links" "strength" "[[I", .fieldLink RX2 16 "FloodBus$Links" "lossPeriod" "[[I"] ++ wsX20 ++ wsX30)
def wsX3_startAnew : List Cond := .code yX3_startAnew cX3_startAnew 4 none :: ([.fieldLink RX3 12 "FloodBus$Network" "links" "LFloodBus$Links;", .fieldLink RX3 18 "FloodBus$Network" "count" "I", .fieldLink RX3 22 "FloodBus$Network" "alive" "[Z", .fieldLink RX3 26 "FloodBus$Network" "missed" "[I", .fieldLink RX3 30 "FloodBus$Network" "sent" "[I", .methodLink RX3 36 yX2_copyFrom, .instanceMethod yX2_copyFrom, .selects RX2 yX2_copyFrom yX2_copyFrom, .initialized RX2, .code yX2_copyFrom cX2_copyFrom 3 none, .fieldLink RX2 11 "FloodBus$Links" "strength" "[[I", .methodLink RX2 25 arraycopyName, .native arraycopyName, .static arraycopyName, .initialized "java/lang/System", .fieldLink RX2 16 "FloodBus$Links" "lossPeriod" "[[I"] ++ wsX30 ++ wsX20)
def wsX3_has : List Cond := .code yX3_has cX3_has 2 (some .boolean) :: ([.fieldLink RX3 18 "FloodBus$Network" "count" "I"] ++ wsX30)
def wsX3_areAlive : List Cond := .code yX3_areAlive cX3_areAlive 3 (some .boolean) :: ([.fieldLink RX3 18 "FloodBus$Network" "count" "I", .fieldLink RX3 22 "FloodBus$Network" "alive" "[Z"] ++ wsX30)
def wsX3_noteSchedule : List Cond := .code yX3_noteSchedule cX3_noteSchedule 3 none :: ([.fieldLink RX3 18 "FloodBus$Network" "count" "I", .fieldLink RX3 33 "FloodBus$Network" "informed" "[Z", .fieldLink RX3 40 "FloodBus$Flooding" "packet" "[I", .fieldLink RX3 26 "FloodBus$Network" "missed" "[I", .fieldLink RX3 22 "FloodBus$Network" "alive" "[Z"] ++ wsX30 ++ wsX10)
def wsX3_noteNoSchedule : List Cond := .code yX3_noteNoSchedule cX3_noteNoSchedule 2 none :: ([.fieldLink RX3 18 "FloodBus$Network" "count" "I", .fieldLink RX3 22 "FloodBus$Network" "alive" "[Z", .fieldLink RX3 26 "FloodBus$Network" "missed" "[I"] ++ wsX30)
def wsX4_init : List Cond := .code yX4_init cX4_init 1 none :: ([.methodLink RX4 3 objectInit, .instanceMethod objectInit, .code objectInit ⟨#[0xb1]⟩ 1 none, .arrayClass .int, .fieldLink RX4 9 "FloodBus$Schedule" "entries" "[I", .fieldLink RX4 15 "FloodBus$Schedule" "size" "I"] ++ wsX40)
def wsX5_oldestRound : List Cond := .code yX5_oldestRound cX5_oldestRound 1 (some .int) :: ([.fieldLink RX5 9 "FloodBus$Stream" "generatedIn" "[I"] ++ wsX50)
def wsX4_insert : List Cond := .code yX4_insert cX4_insert 5 none :: ([.fieldLink RX4 24 "FloodBus$StreamTable" "rows" "[LFloodBus$Stream;", .fieldLink RX4 15 "FloodBus$Schedule" "size" "I", .fieldLink RX4 9 "FloodBus$Schedule" "entries" "[I", .methodLink RX4 43 yX5_oldestRound, .instanceMethod yX5_oldestRound, .selects RX5 yX5_oldestRound yX5_oldestRound, .initialized RX5, .code yX5_oldestRound cX5_oldestRound 1 (some .int), .fieldLink RX5 9 "FloodBus$Stream" "generatedIn" "[I"] ++ wsX60 ++ wsX40 ++ wsX50)
def wsX4_build : List Cond := .code yX4_build cX4_build 4 none :: ([.fieldLink RX4 15 "FloodBus$Schedule" "size" "I", .fieldLink RX4 19 "FloodBus$StreamTable" "count" "I", .fieldLink RX4 24 "FloodBus$StreamTable" "rows" "[LFloodBus$Stream;", .fieldLink RX4 28 "FloodBus$Stream" "waiting" "I", .methodLink RX4 37 Lib.Math.min.name, .static Lib.Math.min.name, .initialized "java/lang/Math", .code Lib.Math.min.name Lib.Math.min.code 2 (some .int), .methodLink RX4 33 yX4_insert, .instanceMethod yX4_insert, .selects RX4 yX4_insert yX4_insert, .initialized RX4, .code yX4_insert cX4_insert 5 none, .fieldLink RX4 9 "FloodBus$Schedule" "entries" "[I", .methodLink RX4 43 yX5_oldestRound, .instanceMethod yX5_oldestRound, .selects RX5 yX5_oldestRound yX5_oldestRound, .initialized RX5, .code yX5_oldestRound cX5_oldestRound 1 (some .int), .fieldLink RX5 9 "FloodBus$Stream" "generatedIn" "[I"] ++ wsX40 ++ wsX60 ++ wsX50)
def wsX4_hasRepeatedSource : List Cond := .code yX4_hasRepeatedSource cX4_hasRepeatedSource 5 (some .boolean) :: ([.fieldLink RX4 15 "FloodBus$Schedule" "size" "I", .fieldLink RX4 24 "FloodBus$StreamTable" "rows" "[LFloodBus$Stream;", .fieldLink RX4 9 "FloodBus$Schedule" "entries" "[I", .fieldLink RX4 51 "FloodBus$Stream" "source" "I"] ++ wsX40 ++ wsX60 ++ wsX50)
def wsX4_encodedSize : List Cond := .code yX4_encodedSize cX4_encodedSize 3 (some .int) :: ([.fieldLink RX4 15 "FloodBus$Schedule" "size" "I", .methodLink RX4 37 Lib.Math.min.name, .static Lib.Math.min.name, .initialized "java/lang/Math", .code Lib.Math.min.name Lib.Math.min.code 2 (some .int), .methodLink RX4 47 yX4_hasRepeatedSource, .instanceMethod yX4_hasRepeatedSource, .selects RX4 yX4_hasRepeatedSource yX4_hasRepeatedSource, .initialized RX4, .code yX4_hasRepeatedSource cX4_hasRepeatedSource 5 (some .boolean), .fieldLink RX4 24 "FloodBus$StreamTable" "rows" "[LFloodBus$Stream;", .fieldLink RX4 9 "FloodBus$Schedule" "entries" "[I", .fieldLink RX4 51 "FloodBus$Stream" "source" "I"] ++ wsX40 ++ wsX60 ++ wsX50)
def wsX5_init : List Cond := .code yX5_init cX5_init 1 none :: ([.methodLink RX5 3 objectInit, .instanceMethod objectInit, .code objectInit ⟨#[0xb1]⟩ 1 none, .arrayClass .int, .fieldLink RX5 9 "FloodBus$Stream" "generatedIn" "[I", .fieldLink RX5 15 "FloodBus$Stream" "source" "I", .fieldLink RX5 19 "FloodBus$Stream" "period" "I", .fieldLink RX5 22 "FloodBus$Stream" "start" "I", .fieldLink RX5 25 "FloodBus$Stream" "waiting" "I", .fieldLink RX5 28 "FloodBus$Stream" "delivered" "I", .fieldLink RX5 31 "FloodBus$Stream" "lost" "I"] ++ wsX50)
def wsX5_startAnew : List Cond := .code yX5_startAnew cX5_startAnew 4 none :: ([.fieldLink RX5 15 "FloodBus$Stream" "source" "I", .fieldLink RX5 19 "FloodBus$Stream" "period" "I", .fieldLink RX5 22 "FloodBus$Stream" "start" "I", .fieldLink RX5 25 "FloodBus$Stream" "waiting" "I", .fieldLink RX5 28 "FloodBus$Stream" "delivered" "I", .fieldLink RX5 31 "FloodBus$Stream" "lost" "I"] ++ wsX50)
def wsX5_generate : List Cond := .code yX5_generate cX5_generate 2 none :: ([.fieldLink RX5 22 "FloodBus$Stream" "start" "I", .fieldLink RX5 19 "FloodBus$Stream" "period" "I", .fieldLink RX5 25 "FloodBus$Stream" "waiting" "I", .fieldLink RX5 31 "FloodBus$Stream" "lost" "I", .fieldLink RX5 9 "FloodBus$Stream" "generatedIn" "[I"] ++ wsX50)
def wsX5_removeOldest : List Cond := .code yX5_removeOldest cX5_removeOldest 2 none :: ([.fieldLink RX5 25 "FloodBus$Stream" "waiting" "I", .fieldLink RX5 9 "FloodBus$Stream" "generatedIn" "[I"] ++ wsX50)
def wsX6_init : List Cond := .code yX6_init cX6_init 2 none :: ([.methodLink RX6 3 objectInit, .instanceMethod objectInit, .code objectInit ⟨#[0xb1]⟩ 1 none, .classLink RX6 9 RX5, .fieldLink RX6 11 "FloodBus$StreamTable" "rows" "[LFloodBus$Stream;", .fieldLink RX6 17 "FloodBus$StreamTable" "count" "I", .instantiable RX5 7, .initialized RX5, .instanceMethod yX5_init, .code yX5_init cX5_init 1 none, .methodLink RX5 3 objectInit, .arrayClass .int, .fieldLink RX5 9 "FloodBus$Stream" "generatedIn" "[I", .fieldLink RX5 15 "FloodBus$Stream" "source" "I", .fieldLink RX5 19 "FloodBus$Stream" "period" "I", .fieldLink RX5 22 "FloodBus$Stream" "start" "I", .fieldLink RX5 25 "FloodBus$Stream" "waiting" "I", .fieldLink RX5 28 "FloodBus$Stream" "delivered" "I", .fieldLink RX5 31 "FloodBus$Stream" "lost" "I"] ++ wsX60 ++ wsX50)
def wsX6_has : List Cond := .code yX6_has cX6_has 2 (some .boolean) :: ([.fieldLink RX6 17 "FloodBus$StreamTable" "count" "I"] ++ wsX60)
def wsX6_add : List Cond := .code yX6_add cX6_add 4 (some .int) :: ([.fieldLink RX6 17 "FloodBus$StreamTable" "count" "I", .fieldLink RX6 11 "FloodBus$StreamTable" "rows" "[LFloodBus$Stream;", .methodLink RX6 22 yX5_startAnew, .instanceMethod yX5_startAnew, .selects RX5 yX5_startAnew yX5_startAnew, .initialized RX5, .code yX5_startAnew cX5_startAnew 4 none, .fieldLink RX5 15 "FloodBus$Stream" "source" "I", .fieldLink RX5 19 "FloodBus$Stream" "period" "I", .fieldLink RX5 22 "FloodBus$Stream" "start" "I", .fieldLink RX5 25 "FloodBus$Stream" "waiting" "I", .fieldLink RX5 28 "FloodBus$Stream" "delivered" "I", .fieldLink RX5 31 "FloodBus$Stream" "lost" "I"] ++ wsX60 ++ wsX50)
def wsX6_remove : List Cond := .code yX6_remove cX6_remove 4 none :: ([.fieldLink RX6 11 "FloodBus$StreamTable" "rows" "[LFloodBus$Stream;", .fieldLink RX6 17 "FloodBus$StreamTable" "count" "I"] ++ wsX60)
def wsX6_generate : List Cond := .code yX6_generate cX6_generate 3 none :: ([.fieldLink RX6 17 "FloodBus$StreamTable" "count" "I", .fieldLink RX6 11 "FloodBus$StreamTable" "rows" "[LFloodBus$Stream;", .methodLink RX6 26 yX5_generate, .instanceMethod yX5_generate, .selects RX5 yX5_generate yX5_generate, .initialized RX5, .code yX5_generate cX5_generate 2 none, .fieldLink RX5 22 "FloodBus$Stream" "start" "I", .fieldLink RX5 19 "FloodBus$Stream" "period" "I", .fieldLink RX5 25 "FloodBus$Stream" "waiting" "I", .fieldLink RX5 31 "FloodBus$Stream" "lost" "I", .fieldLink RX5 9 "FloodBus$Stream" "generatedIn" "[I"] ++ wsX60 ++ wsX50)
def wsX7_init_r1 : List Cond := [Cond.methodLink RX7 1 objectInit, Cond.instanceMethod objectInit, Cond.code objectInit ⟨#[0xb1]⟩ 1 none, Cond.classLink RX7 7 RX0, Cond.instantiable RX0 8, Cond.initialized RX0, Cond.fieldLink RX7 10 "FloodBus" "description" "LFloodBus$Description;", Cond.classLink RX7 16 RX3, Cond.instantiable RX3 6, Cond.initialized RX3, Cond.fieldLink RX7 19 "FloodBus" "network" "LFloodBus$Network;", Cond.classLink RX7 23 RX1, Cond.instantiable RX1 6, Cond.initialized RX1, Cond.fieldLink RX7 26 "FloodBus" "latestFlood" "LFloodBus$Flooding;", Cond.classLink RX7 30 RX6, Cond.instantiable RX6 2, Cond.initialized RX6, Cond.fieldLink RX7 33 "FloodBus" "streams" "LFloodBus$StreamTable;", Cond.classLink RX7 37 RX4, Cond.instantiable RX4 2, Cond.initialized RX4, Cond.fieldLink RX7 40 "FloodBus" "schedule" "LFloodBus$Schedule;", Cond.fieldLink RX7 44 "FloodBus" "slotLimit" "I"]
def wsX7_init_r2 : List Cond := [Cond.fieldLink RX7 48 "FloodBus" "takeoverLimit" "I", Cond.fieldLink RX7 51 "FloodBus" "hostNode" "I", Cond.fieldLink RX7 54 "FloodBus" "nextRound" "I", Cond.instanceMethod yX0_init, Cond.code yX0_init cX0_init 1 none, Cond.methodLink RX0 3 objectInit, Cond.arrayClass .int, Cond.fieldLink RX0 9 "FloodBus$Description" "characters" "[I", Cond.fieldLink RX0 15 "FloodBus$Description" "length" "I", Cond.classLink RX0 19 RX2, Cond.instantiable RX2 2, Cond.initialized RX2, Cond.fieldLink RX0 22 "FloodBus$Description" "links" "LFloodBus$Links;", Cond.fieldLink RX0 26 "FloodBus$Description" "nodeCount" "I", Cond.fieldLink RX0 29 "FloodBus$Description" "linkCount" "I", Cond.fieldLink RX0 32 "FloodBus$Description" "expected" "I", Cond.fieldLink RX0 35 "FloodBus$Description" "firstNode" "I", Cond.fieldLink RX0 38 "FloodBus$Description" "secondNode" "I", Cond.instanceMethod yX2_init, Cond.code yX2_init cX2_init 1 none, Cond.methodLink RX2 3 objectInit, Cond.classLink RX2 9 "[[I", Cond.fieldLink RX2 11 "FloodBus$Links" "strength" "[[I", Cond.fieldLink RX2 16 "FloodBus$Links" "lossPeriod" "[[I"]
def wsX7_init_r3 : List Cond := [Cond.instanceMethod yX3_init, Cond.code yX3_init cX3_init 1 none, Cond.methodLink RX3 3 objectInit, Cond.classLink RX3 9 RX2, Cond.fieldLink RX3 12 "FloodBus$Network" "links" "LFloodBus$Links;", Cond.fieldLink RX3 18 "FloodBus$Network" "count" "I", Cond.arrayClass .boolean, Cond.fieldLink RX3 22 "FloodBus$Network" "alive" "[Z", Cond.fieldLink RX3 26 "FloodBus$Network" "missed" "[I", Cond.fieldLink RX3 30 "FloodBus$Network" "sent" "[I", Cond.fieldLink RX3 33 "FloodBus$Network" "informed" "[Z", Cond.instanceMethod yX1_init, Cond.code yX1_init cX1_init 1 none, Cond.methodLink RX1 3 objectInit, Cond.fieldLink RX1 9 "FloodBus$Flooding" "levels" "[I", Cond.fieldLink RX1 15 "FloodBus$Flooding" "packet" "[I", Cond.fieldLink RX1 18 "FloodBus$Flooding" "hops" "[I", Cond.fieldLink RX1 21 "FloodBus$Flooding" "length" "I", Cond.fieldLink RX1 25 "FloodBus$Flooding" "transmissionLimit" "I", Cond.fieldLink RX1 28 "FloodBus$Flooding" "captureMargin" "I", Cond.methodLink RX7 32 yX6_init, Cond.instanceMethod yX6_init, Cond.code yX6_init cX6_init 2 none, Cond.methodLink RX6 3 objectInit]
def wsX7_init_r4 : List Cond := [Cond.classLink RX6 9 RX5, Cond.fieldLink RX6 11 "FloodBus$StreamTable" "rows" "[LFloodBus$Stream;", Cond.fieldLink RX6 17 "FloodBus$StreamTable" "count" "I", Cond.instantiable RX5 7, Cond.initialized RX5, Cond.instanceMethod yX5_init, Cond.code yX5_init cX5_init 1 none, Cond.methodLink RX5 3 objectInit, Cond.fieldLink RX5 9 "FloodBus$Stream" "generatedIn" "[I", Cond.fieldLink RX5 15 "FloodBus$Stream" "source" "I", Cond.fieldLink RX5 19 "FloodBus$Stream" "period" "I", Cond.fieldLink RX5 22 "FloodBus$Stream" "start" "I", Cond.fieldLink RX5 25 "FloodBus$Stream" "waiting" "I", Cond.fieldLink RX5 28 "FloodBus$Stream" "delivered" "I", Cond.fieldLink RX5 31 "FloodBus$Stream" "lost" "I", Cond.instanceMethod yX4_init, Cond.code yX4_init cX4_init 1 none, Cond.methodLink RX4 3 objectInit, Cond.fieldLink RX4 9 "FloodBus$Schedule" "entries" "[I", Cond.fieldLink RX4 15 "FloodBus$Schedule" "size" "I"]
def wsX7_init : List Cond := .code yX7_init cX7_init 1 none :: ((wsX7_init_r1 ++ (wsX7_init_r2 ++ (wsX7_init_r3 ++ wsX7_init_r4))) ++ wsX00 ++ wsX70 ++ wsX30 ++ wsX10 ++ wsX60 ++ wsX40 ++ wsX20 ++ wsX50)
def wsX7_append : List Cond := .code yX7_append cX7_append 2 (some .int) :: ([.fieldLink RX7 10 "FloodBus" "description" "LFloodBus$Description;", .methodLink RX7 57 yX0_add, .instanceMethod yX0_add, .selects RX0 yX0_add yX0_add, .initialized RX0, .code yX0_add cX0_add 2 (some .int), .fieldLink RX0 15 "FloodBus$Description" "length" "I", .fieldLink RX0 9 "FloodBus$Description" "characters" "[I"] ++ wsX70 ++ wsX00)
def wsX7_clearBuffer : List Cond := .code yX7_clearBuffer cX7_clearBuffer 2 (some .int) :: ([.fieldLink RX7 10 "FloodBus" "description" "LFloodBus$Description;", .fieldLink RX7 61 "FloodBus$Description" "length" "I"] ++ wsX70 ++ wsX00)
def wsX7_errorPosition_r1 : List Cond := [Cond.fieldLink RX7 10 "FloodBus" "description" "LFloodBus$Description;", Cond.methodLink RX7 64 yX0_findError, Cond.instanceMethod yX0_findError, Cond.selects RX0 yX0_findError yX0_findError, Cond.initialized RX0, Cond.code yX0_findError cX0_findError 2 (some .int), Cond.fieldLink RX0 22 "FloodBus$Description" "links" "LFloodBus$Links;", Cond.fieldLink RX0 29 "FloodBus$Description" "linkCount" "I", Cond.fieldLink RX0 32 "FloodBus$Description" "expected" "I", Cond.fieldLink RX0 15 "FloodBus$Description" "length" "I", Cond.fieldLink RX0 9 "FloodBus$Description" "characters" "[I", Cond.methodLink RX0 45 yX2_clear, Cond.instanceMethod yX2_clear, Cond.selects RX2 yX2_clear yX2_clear, Cond.initialized RX2, Cond.code yX2_clear cX2_clear 2 none, Cond.fieldLink RX2 11 "FloodBus$Links" "strength" "[[I", Cond.fieldLink RX2 16 "FloodBus$Links" "lossPeriod" "[[I", Cond.methodLink RX2 19 yJ7_fill_53178, Cond.static yJ7_fill_53178, Cond.initialized RJ7, Cond.code yJ7_fill_53178 cJ7_fill_53178 4 none, Cond.methodLink RX0 48 yX0_accepts, Cond.instanceMethod yX0_accepts]
def wsX7_errorPosition_r2 : List Cond := [Cond.selects RX0 yX0_accepts yX0_accepts, Cond.code yX0_accepts cX0_accepts 2 (some .boolean), Cond.methodLink RX0 52 yX0_acceptsNodeCount, Cond.instanceMethod yX0_acceptsNodeCount, Cond.selects RX0 yX0_acceptsNodeCount yX0_acceptsNodeCount, Cond.code yX0_acceptsNodeCount cX0_acceptsNodeCount 2 (some .boolean), Cond.fieldLink RX0 26 "FloodBus$Description" "nodeCount" "I", Cond.methodLink RX0 55 yX0_acceptsLinkMark, Cond.instanceMethod yX0_acceptsLinkMark, Cond.selects RX0 yX0_acceptsLinkMark yX0_acceptsLinkMark, Cond.code yX0_acceptsLinkMark cX0_acceptsLinkMark 2 (some .boolean), Cond.methodLink RX0 58 yX0_acceptsFirstNode, Cond.instanceMethod yX0_acceptsFirstNode, Cond.selects RX0 yX0_acceptsFirstNode yX0_acceptsFirstNode, Cond.code yX0_acceptsFirstNode cX0_acceptsFirstNode 2 (some .boolean), Cond.fieldLink RX0 35 "FloodBus$Description" "firstNode" "I", Cond.methodLink RX0 61 yX0_acceptsSecondNode, Cond.instanceMethod yX0_acceptsSecondNode, Cond.selects RX0 yX0_acceptsSecondNode yX0_acceptsSecondNode, Cond.code yX0_acceptsSecondNode cX0_acceptsSecondNode 2 (some .boolean), Cond.fieldLink RX0 38 "FloodBus$Description" "secondNode" "I", Cond.methodLink RX0 70 yX2_join, Cond.instanceMethod yX2_join, Cond.selects RX2 yX2_join yX2_join]
def wsX7_errorPosition_r3 : List Cond := [Cond.code yX2_join cX2_join 3 (some .boolean), Cond.methodLink RX0 64 yX0_acceptsStrength, Cond.instanceMethod yX0_acceptsStrength, Cond.selects RX0 yX0_acceptsStrength yX0_acceptsStrength, Cond.code yX0_acceptsStrength cX0_acceptsStrength 2 (some .boolean), Cond.methodLink RX0 74 yX2_setStrength, Cond.instanceMethod yX2_setStrength, Cond.selects RX2 yX2_setStrength yX2_setStrength, Cond.code yX2_setStrength cX2_setStrength 4 none, Cond.methodLink RX0 67 yX0_acceptsLossPeriod, Cond.instanceMethod yX0_acceptsLossPeriod, Cond.selects RX0 yX0_acceptsLossPeriod yX0_acceptsLossPeriod, Cond.code yX0_acceptsLossPeriod cX0_acceptsLossPeriod 2 (some .boolean), Cond.methodLink RX0 78 yX2_setLossPeriod, Cond.instanceMethod yX2_setLossPeriod, Cond.selects RX2 yX2_setLossPeriod yX2_setLossPeriod, Cond.code yX2_setLossPeriod cX2_setLossPeriod 4 none]
def wsX7_errorPosition : List Cond := .code yX7_errorPosition cX7_errorPosition 1 (some .int) :: ((wsX7_errorPosition_r1 ++ (wsX7_errorPosition_r2 ++ wsX7_errorPosition_r3)) ++ wsX70 ++ wsX00 ++ wsX20)
def wsX7_loadNetwork_r1 : List Cond := [Cond.fieldLink RX7 10 "FloodBus" "description" "LFloodBus$Description;", Cond.fieldLink RX7 19 "FloodBus" "network" "LFloodBus$Network;", Cond.fieldLink RX7 72 "FloodBus$Description" "nodeCount" "I", Cond.fieldLink RX7 75 "FloodBus$Description" "links" "LFloodBus$Links;", Cond.fieldLink RX7 61 "FloodBus$Description" "length" "I", Cond.fieldLink RX7 26 "FloodBus" "latestFlood" "LFloodBus$Flooding;", Cond.fieldLink RX7 33 "FloodBus" "streams" "LFloodBus$StreamTable;", Cond.fieldLink RX7 86 "FloodBus$StreamTable" "count" "I", Cond.fieldLink RX7 40 "FloodBus" "schedule" "LFloodBus$Schedule;", Cond.fieldLink RX7 89 "FloodBus$Schedule" "size" "I", Cond.fieldLink RX7 51 "FloodBus" "hostNode" "I", Cond.fieldLink RX7 54 "FloodBus" "nextRound" "I", Cond.fieldLink RX7 92 "FloodBus$Network" "count" "I", Cond.methodLink RX7 68 yX0_isComplete, Cond.instanceMethod yX0_isComplete, Cond.selects RX0 yX0_isComplete yX0_isComplete, Cond.initialized RX0, Cond.code yX0_isComplete cX0_isComplete 1 (some .boolean), Cond.fieldLink RX0 15 "FloodBus$Description" "length" "I", Cond.fieldLink RX0 32 "FloodBus$Description" "expected" "I", Cond.methodLink RX0 41 yX0_findError, Cond.instanceMethod yX0_findError, Cond.selects RX0 yX0_findError yX0_findError, Cond.code yX0_findError cX0_findError 2 (some .int)]
def wsX7_loadNetwork_r2 : List Cond := [Cond.fieldLink RX0 22 "FloodBus$Description" "links" "LFloodBus$Links;", Cond.fieldLink RX0 29 "FloodBus$Description" "linkCount" "I", Cond.fieldLink RX0 9 "FloodBus$Description" "characters" "[I", Cond.methodLink RX0 45 yX2_clear, Cond.instanceMethod yX2_clear, Cond.selects RX2 yX2_clear yX2_clear, Cond.initialized RX2, Cond.code yX2_clear cX2_clear 2 none, Cond.fieldLink RX2 11 "FloodBus$Links" "strength" "[[I", Cond.fieldLink RX2 16 "FloodBus$Links" "lossPeriod" "[[I", Cond.methodLink RX2 19 yJ7_fill_53178, Cond.static yJ7_fill_53178, Cond.initialized RJ7, Cond.code yJ7_fill_53178 cJ7_fill_53178 4 none, Cond.methodLink RX0 48 yX0_accepts, Cond.instanceMethod yX0_accepts, Cond.selects RX0 yX0_accepts yX0_accepts, Cond.code yX0_accepts cX0_accepts 2 (some .boolean), Cond.methodLink RX0 52 yX0_acceptsNodeCount, Cond.instanceMethod yX0_acceptsNodeCount, Cond.selects RX0 yX0_acceptsNodeCount yX0_acceptsNodeCount, Cond.code yX0_acceptsNodeCount cX0_acceptsNodeCount 2 (some .boolean), Cond.fieldLink RX0 26 "FloodBus$Description" "nodeCount" "I", Cond.methodLink RX0 55 yX0_acceptsLinkMark]
def wsX7_loadNetwork_r3 : List Cond := [Cond.instanceMethod yX0_acceptsLinkMark, Cond.selects RX0 yX0_acceptsLinkMark yX0_acceptsLinkMark, Cond.code yX0_acceptsLinkMark cX0_acceptsLinkMark 2 (some .boolean), Cond.methodLink RX0 58 yX0_acceptsFirstNode, Cond.instanceMethod yX0_acceptsFirstNode, Cond.selects RX0 yX0_acceptsFirstNode yX0_acceptsFirstNode, Cond.code yX0_acceptsFirstNode cX0_acceptsFirstNode 2 (some .boolean), Cond.fieldLink RX0 35 "FloodBus$Description" "firstNode" "I", Cond.methodLink RX0 61 yX0_acceptsSecondNode, Cond.instanceMethod yX0_acceptsSecondNode, Cond.selects RX0 yX0_acceptsSecondNode yX0_acceptsSecondNode, Cond.code yX0_acceptsSecondNode cX0_acceptsSecondNode 2 (some .boolean), Cond.fieldLink RX0 38 "FloodBus$Description" "secondNode" "I", Cond.methodLink RX0 70 yX2_join, Cond.instanceMethod yX2_join, Cond.selects RX2 yX2_join yX2_join, Cond.code yX2_join cX2_join 3 (some .boolean), Cond.methodLink RX0 64 yX0_acceptsStrength, Cond.instanceMethod yX0_acceptsStrength, Cond.selects RX0 yX0_acceptsStrength yX0_acceptsStrength, Cond.code yX0_acceptsStrength cX0_acceptsStrength 2 (some .boolean), Cond.methodLink RX0 74 yX2_setStrength, Cond.instanceMethod yX2_setStrength, Cond.selects RX2 yX2_setStrength yX2_setStrength]
def wsX7_loadNetwork_r4 : List Cond := [Cond.code yX2_setStrength cX2_setStrength 4 none, Cond.methodLink RX0 67 yX0_acceptsLossPeriod, Cond.instanceMethod yX0_acceptsLossPeriod, Cond.selects RX0 yX0_acceptsLossPeriod yX0_acceptsLossPeriod, Cond.code yX0_acceptsLossPeriod cX0_acceptsLossPeriod 2 (some .boolean), Cond.methodLink RX0 78 yX2_setLossPeriod, Cond.instanceMethod yX2_setLossPeriod, Cond.selects RX2 yX2_setLossPeriod yX2_setLossPeriod, Cond.code yX2_setLossPeriod cX2_setLossPeriod 4 none, Cond.methodLink RX7 79 yX3_startAnew, Cond.instanceMethod yX3_startAnew, Cond.selects RX3 yX3_startAnew yX3_startAnew, Cond.initialized RX3, Cond.code yX3_startAnew cX3_startAnew 4 none, Cond.fieldLink RX3 12 "FloodBus$Network" "links" "LFloodBus$Links;", Cond.fieldLink RX3 18 "FloodBus$Network" "count" "I", Cond.fieldLink RX3 22 "FloodBus$Network" "alive" "[Z", Cond.fieldLink RX3 26 "FloodBus$Network" "missed" "[I", Cond.fieldLink RX3 30 "FloodBus$Network" "sent" "[I", Cond.methodLink RX3 36 yX2_copyFrom, Cond.instanceMethod yX2_copyFrom, Cond.selects RX2 yX2_copyFrom yX2_copyFrom, Cond.code yX2_copyFrom cX2_copyFrom 3 none, Cond.methodLink RX2 25 arraycopyName]
def wsX7_loadNetwork_r5 : List Cond := [Cond.native arraycopyName, Cond.static arraycopyName, Cond.initialized "java/lang/System", Cond.methodLink RX7 83 yX1_forget, Cond.instanceMethod yX1_forget, Cond.selects RX1 yX1_forget yX1_forget, Cond.initialized RX1, Cond.code yX1_forget cX1_forget 1 none, Cond.fieldLink RX1 15 "FloodBus$Flooding" "packet" "[I", Cond.fieldLink RX1 18 "FloodBus$Flooding" "hops" "[I", Cond.fieldLink RX1 21 "FloodBus$Flooding" "length" "I", Cond.methodLink RX1 31 yJ7_fill_53178]
def wsX7_loadNetwork : List Cond := .code yX7_loadNetwork cX7_loadNetwork 1 (some .int) :: ((wsX7_loadNetwork_r1 ++ (wsX7_loadNetwork_r2 ++ (wsX7_loadNetwork_r3 ++ (wsX7_loadNetwork_r4 ++ wsX7_loadNetwork_r5)))) ++ wsX70 ++ wsX00 ++ wsX60 ++ wsX40 ++ wsX30 ++ wsX20 ++ wsX10)
def wsX7_setTransmissionLimit : List Cond := .code yX7_setTransmissionLimit cX7_setTransmissionLimit 3 (some .int) :: ([.fieldLink RX7 26 "FloodBus" "latestFlood" "LFloodBus$Flooding;", .fieldLink RX7 93 "FloodBus$Flooding" "transmissionLimit" "I"] ++ wsX70 ++ wsX10)
def wsX7_setCaptureMargin : List Cond := .code yX7_setCaptureMargin cX7_setCaptureMargin 3 (some .int) :: ([.fieldLink RX7 26 "FloodBus" "latestFlood" "LFloodBus$Flooding;", .fieldLink RX7 96 "FloodBus$Flooding" "captureMargin" "I"] ++ wsX70 ++ wsX10)
def wsX7_setSlotLimit : List Cond := .code yX7_setSlotLimit cX7_setSlotLimit 3 (some .int) :: ([.fieldLink RX7 44 "FloodBus" "slotLimit" "I"] ++ wsX70)
def wsX7_setTakeoverLimit : List Cond := .code yX7_setTakeoverLimit cX7_setTakeoverLimit 3 (some .int) :: ([.fieldLink RX7 48 "FloodBus" "takeoverLimit" "I"] ++ wsX70)
def wsX7_setAlive : List Cond := .code yX7_setAlive cX7_setAlive 4 (some .int) :: ([.fieldLink RX7 19 "FloodBus" "network" "LFloodBus$Network;", .fieldLink RX7 103 "FloodBus$Network" "alive" "[Z", .fieldLink RX7 107 "FloodBus$Network" "missed" "[I", .methodLink RX7 99 yX3_has, .instanceMethod yX3_has, .selects RX3 yX3_has yX3_has, .initialized RX3, .code yX3_has cX3_has 2 (some .boolean), .fieldLink RX3 18 "FloodBus$Network" "count" "I"] ++ wsX70 ++ wsX30)
def wsX7_flood_r1 : List Cond := [Cond.fieldLink RX7 19 "FloodBus" "network" "LFloodBus$Network;", Cond.fieldLink RX7 92 "FloodBus$Network" "count" "I", Cond.fieldLink RX7 26 "FloodBus" "latestFlood" "LFloodBus$Flooding;", Cond.methodLink RX7 111 yX3_areAlive, Cond.instanceMethod yX3_areAlive, Cond.selects RX3 yX3_areAlive yX3_areAlive, Cond.initialized RX3, Cond.code yX3_areAlive cX3_areAlive 3 (some .boolean), Cond.fieldLink RX3 18 "FloodBus$Network" "count" "I", Cond.fieldLink RX3 22 "FloodBus$Network" "alive" "[Z", Cond.methodLink RX7 114 yX1_run, Cond.instanceMethod yX1_run, Cond.selects RX1 yX1_run yX1_run, Cond.initialized RX1, Cond.code yX1_run cX1_run 4 none, Cond.fieldLink RX1 40 "FloodBus$Network" "count" "I", Cond.fieldLink RX1 21 "FloodBus$Flooding" "length" "I", Cond.methodLink RX1 37 yX1_forget, Cond.instanceMethod yX1_forget, Cond.selects RX1 yX1_forget yX1_forget, Cond.code yX1_forget cX1_forget 1 none, Cond.fieldLink RX1 15 "FloodBus$Flooding" "packet" "[I", Cond.fieldLink RX1 18 "FloodBus$Flooding" "hops" "[I", Cond.methodLink RX1 31 yJ7_fill_53178]
def wsX7_flood_r2 : List Cond := [Cond.static yJ7_fill_53178, Cond.initialized RJ7, Cond.code yJ7_fill_53178 cJ7_fill_53178 4 none, Cond.methodLink RX1 45 yX1_hold, Cond.instanceMethod yX1_hold, Cond.selects RX1 yX1_hold yX1_hold, Cond.code yX1_hold cX1_hold 5 none, Cond.fieldLink RX1 53 "FloodBus$Network" "sent" "[I", Cond.fieldLink RX1 25 "FloodBus$Flooding" "transmissionLimit" "I", Cond.methodLink RX1 56 Lib.Math.max.name, Cond.static Lib.Math.max.name, Cond.initialized "java/lang/Math", Cond.code Lib.Math.max.name Lib.Math.max.code 2 (some .int), Cond.methodLink RX1 49 yX1_runSlot, Cond.instanceMethod yX1_runSlot, Cond.selects RX1 yX1_runSlot yX1_runSlot, Cond.code yX1_runSlot cX1_runSlot 5 none, Cond.fieldLink RX1 62 "FloodBus$Network" "alive" "[Z", Cond.fieldLink RX1 66 "FloodBus$Network" "links" "LFloodBus$Links;", Cond.methodLink RX1 70 yX1_measureLevels, Cond.instanceMethod yX1_measureLevels, Cond.selects RX1 yX1_measureLevels yX1_measureLevels, Cond.code yX1_measureLevels cX1_measureLevels 6 none, Cond.fieldLink RX1 9 "FloodBus$Flooding" "levels" "[I"]
def wsX7_flood_r3 : List Cond := [Cond.methodLink RX1 78 yX1_transmits, Cond.instanceMethod yX1_transmits, Cond.selects RX1 yX1_transmits yX1_transmits, Cond.code yX1_transmits cX1_transmits 4 (some .boolean), Cond.methodLink RX1 82 yX2_signal, Cond.instanceMethod yX2_signal, Cond.selects RX2 yX2_signal yX2_signal, Cond.initialized RX2, Cond.code yX2_signal cX2_signal 5 (some .int), Cond.fieldLink RX2 16 "FloodBus$Links" "lossPeriod" "[[I", Cond.fieldLink RX2 11 "FloodBus$Links" "strength" "[[I", Cond.methodLink RX1 74 yX1_capturedPacket, Cond.instanceMethod yX1_capturedPacket, Cond.selects RX1 yX1_capturedPacket yX1_capturedPacket, Cond.code yX1_capturedPacket cX1_capturedPacket 5 (some .int), Cond.fieldLink RX1 28 "FloodBus$Flooding" "captureMargin" "I", Cond.methodLink RX7 118 yX1_countHolders, Cond.instanceMethod yX1_countHolders, Cond.selects RX1 yX1_countHolders yX1_countHolders, Cond.code yX1_countHolders cX1_countHolders 3 (some .int)]
def wsX7_flood : List Cond := .code yX7_flood cX7_flood 2 (some .int) :: ((wsX7_flood_r1 ++ (wsX7_flood_r2 ++ wsX7_flood_r3)) ++ wsX70 ++ wsX30 ++ wsX10 ++ wsX20)
def wsX7_packetAt : List Cond := .code yX7_packetAt cX7_packetAt 2 (some .int) :: ([.fieldLink RX7 19 "FloodBus" "network" "LFloodBus$Network;", .fieldLink RX7 26 "FloodBus" "latestFlood" "LFloodBus$Flooding;", .fieldLink RX7 121 "FloodBus$Flooding" "packet" "[I", .methodLink RX7 99 yX3_has, .instanceMethod yX3_has, .selects RX3 yX3_has yX3_has, .initialized RX3, .code yX3_has cX3_has 2 (some .boolean), .fieldLink RX3 18 "FloodBus$Network" "count" "I"] ++ wsX70 ++ wsX10 ++ wsX30)
def wsX7_hopCount : List Cond := .code yX7_hopCount cX7_hopCount 2 (some .int) :: ([.fieldLink RX7 19 "FloodBus" "network" "LFloodBus$Network;", .fieldLink RX7 26 "FloodBus" "latestFlood" "LFloodBus$Flooding;", .fieldLink RX7 124 "FloodBus$Flooding" "hops" "[I", .methodLink RX7 99 yX3_has, .instanceMethod yX3_has, .selects RX3 yX3_has yX3_has, .initialized RX3, .code yX3_has cX3_has 2 (some .boolean), .fieldLink RX3 18 "FloodBus$Network" "count" "I"] ++ wsX70 ++ wsX10 ++ wsX30)
def wsX7_floodLength : List Cond := .code yX7_floodLength cX7_floodLength 1 (some .int) :: ([.fieldLink RX7 26 "FloodBus" "latestFlood" "LFloodBus$Flooding;", .fieldLink RX7 127 "FloodBus$Flooding" "length" "I"] ++ wsX70 ++ wsX10)
def wsX7_addStream_r1 : List Cond := [Cond.fieldLink RX7 19 "FloodBus" "network" "LFloodBus$Network;", Cond.fieldLink RX7 33 "FloodBus" "streams" "LFloodBus$StreamTable;", Cond.methodLink RX7 99 yX3_has, Cond.instanceMethod yX3_has, Cond.selects RX3 yX3_has yX3_has, Cond.initialized RX3, Cond.code yX3_has cX3_has 2 (some .boolean), Cond.fieldLink RX3 18 "FloodBus$Network" "count" "I", Cond.methodLink RX7 128 yX6_add, Cond.instanceMethod yX6_add, Cond.selects RX6 yX6_add yX6_add, Cond.initialized RX6, Cond.code yX6_add cX6_add 4 (some .int), Cond.fieldLink RX6 17 "FloodBus$StreamTable" "count" "I", Cond.fieldLink RX6 11 "FloodBus$StreamTable" "rows" "[LFloodBus$Stream;", Cond.methodLink RX6 22 yX5_startAnew, Cond.instanceMethod yX5_startAnew, Cond.selects RX5 yX5_startAnew yX5_startAnew, Cond.initialized RX5, Cond.code yX5_startAnew cX5_startAnew 4 none, Cond.fieldLink RX5 15 "FloodBus$Stream" "source" "I", Cond.fieldLink RX5 19 "FloodBus$Stream" "period" "I", Cond.fieldLink RX5 22 "FloodBus$Stream" "start" "I", Cond.fieldLink RX5 25 "FloodBus$Stream" "waiting" "I"]
def wsX7_addStream_r2 : List Cond := [Cond.fieldLink RX5 28 "FloodBus$Stream" "delivered" "I", Cond.fieldLink RX5 31 "FloodBus$Stream" "lost" "I"]
def wsX7_addStream : List Cond := .code yX7_addStream cX7_addStream 4 (some .int) :: ((wsX7_addStream_r1 ++ wsX7_addStream_r2) ++ wsX70 ++ wsX30 ++ wsX60 ++ wsX50)
def wsX7_removeStream : List Cond := .code yX7_removeStream cX7_removeStream 2 (some .int) :: ([.fieldLink RX7 33 "FloodBus" "streams" "LFloodBus$StreamTable;", .fieldLink RX7 40 "FloodBus" "schedule" "LFloodBus$Schedule;", .fieldLink RX7 89 "FloodBus$Schedule" "size" "I", .fieldLink RX7 86 "FloodBus$StreamTable" "count" "I", .methodLink RX7 131 yX6_has, .instanceMethod yX6_has, .selects RX6 yX6_has yX6_has, .initialized RX6, .code yX6_has cX6_has 2 (some .boolean), .fieldLink RX6 17 "FloodBus$StreamTable" "count" "I", .methodLink RX7 132 yX6_remove, .instanceMethod yX6_remove, .selects RX6 yX6_remove yX6_remove, .code yX6_remove cX6_remove 4 none, .fieldLink RX6 11 "FloodBus$StreamTable" "rows" "[LFloodBus$Stream;"] ++ wsX70 ++ wsX40 ++ wsX60)
def wsX7_waitingPackets : List Cond := .code yX7_waitingPackets cX7_waitingPackets 2 (some .int) :: ([.fieldLink RX7 33 "FloodBus" "streams" "LFloodBus$StreamTable;", .fieldLink RX7 136 "FloodBus$StreamTable" "rows" "[LFloodBus$Stream;", .fieldLink RX7 140 "FloodBus$Stream" "waiting" "I", .methodLink RX7 131 yX6_has, .instanceMethod yX6_has, .selects RX6 yX6_has yX6_has, .initialized RX6, .code yX6_has cX6_has 2 (some .boolean), .fieldLink RX6 17 "FloodBus$StreamTable" "count" "I"] ++ wsX70 ++ wsX60 ++ wsX50)
def wsX7_deliveredPackets : List Cond := .code yX7_deliveredPackets cX7_deliveredPackets 2 (some .int) :: ([.fieldLink RX7 33 "FloodBus" "streams" "LFloodBus$StreamTable;", .fieldLink RX7 136 "FloodBus$StreamTable" "rows" "[LFloodBus$Stream;", .fieldLink RX7 145 "FloodBus$Stream" "delivered" "I", .methodLink RX7 131 yX6_has, .instanceMethod yX6_has, .selects RX6 yX6_has yX6_has, .initialized RX6, .code yX6_has cX6_has 2 (some .boolean), .fieldLink RX6 17 "FloodBus$StreamTable" "count" "I"] ++ wsX70 ++ wsX60 ++ wsX50)
def wsX7_lostPackets : List Cond := .code yX7_lostPackets cX7_lostPackets 2 (some .int) :: ([.fieldLink RX7 33 "FloodBus" "streams" "LFloodBus$StreamTable;", .fieldLink RX7 136 "FloodBus$StreamTable" "rows" "[LFloodBus$Stream;", .fieldLink RX7 148 "FloodBus$Stream" "lost" "I", .methodLink RX7 131 yX6_has, .instanceMethod yX6_has, .selects RX6 yX6_has yX6_has, .initialized RX6, .code yX6_has cX6_has 2 (some .boolean), .fieldLink RX6 17 "FloodBus$StreamTable" "count" "I"] ++ wsX70 ++ wsX60 ++ wsX50)
def wsX7_serveSchedule_r1 : List Cond := [Cond.fieldLink RX7 40 "FloodBus" "schedule" "LFloodBus$Schedule;", Cond.fieldLink RX7 89 "FloodBus$Schedule" "size" "I", Cond.fieldLink RX7 33 "FloodBus" "streams" "LFloodBus$StreamTable;", Cond.fieldLink RX7 136 "FloodBus$StreamTable" "rows" "[LFloodBus$Stream;", Cond.fieldLink RX7 154 "FloodBus$Schedule" "entries" "[I", Cond.fieldLink RX7 19 "FloodBus" "network" "LFloodBus$Network;", Cond.fieldLink RX7 201 "FloodBus$Network" "informed" "[Z", Cond.fieldLink RX7 204 "FloodBus$Stream" "source" "I", Cond.fieldLink RX7 26 "FloodBus" "latestFlood" "LFloodBus$Flooding;", Cond.fieldLink RX7 121 "FloodBus$Flooding" "packet" "[I", Cond.fieldLink RX7 51 "FloodBus" "hostNode" "I", Cond.fieldLink RX7 145 "FloodBus$Stream" "delivered" "I", Cond.fieldLink RX7 148 "FloodBus$Stream" "lost" "I", Cond.methodLink RX7 198 yX5_removeOldest, Cond.instanceMethod yX5_removeOldest, Cond.selects RX5 yX5_removeOldest yX5_removeOldest, Cond.initialized RX5, Cond.code yX5_removeOldest cX5_removeOldest 2 none, Cond.fieldLink RX5 25 "FloodBus$Stream" "waiting" "I", Cond.fieldLink RX5 9 "FloodBus$Stream" "generatedIn" "[I", Cond.methodLink RX7 114 yX1_run, Cond.instanceMethod yX1_run, Cond.selects RX1 yX1_run yX1_run, Cond.initialized RX1]
def wsX7_serveSchedule_r2 : List Cond := [Cond.code yX1_run cX1_run 4 none, Cond.fieldLink RX1 40 "FloodBus$Network" "count" "I", Cond.fieldLink RX1 21 "FloodBus$Flooding" "length" "I", Cond.methodLink RX1 37 yX1_forget, Cond.instanceMethod yX1_forget, Cond.selects RX1 yX1_forget yX1_forget, Cond.code yX1_forget cX1_forget 1 none, Cond.fieldLink RX1 15 "FloodBus$Flooding" "packet" "[I", Cond.fieldLink RX1 18 "FloodBus$Flooding" "hops" "[I", Cond.methodLink RX1 31 yJ7_fill_53178, Cond.static yJ7_fill_53178, Cond.initialized RJ7, Cond.code yJ7_fill_53178 cJ7_fill_53178 4 none, Cond.methodLink RX1 45 yX1_hold, Cond.instanceMethod yX1_hold, Cond.selects RX1 yX1_hold yX1_hold, Cond.code yX1_hold cX1_hold 5 none, Cond.fieldLink RX1 53 "FloodBus$Network" "sent" "[I", Cond.fieldLink RX1 25 "FloodBus$Flooding" "transmissionLimit" "I", Cond.methodLink RX1 56 Lib.Math.max.name, Cond.static Lib.Math.max.name, Cond.initialized "java/lang/Math", Cond.code Lib.Math.max.name Lib.Math.max.code 2 (some .int), Cond.methodLink RX1 49 yX1_runSlot]
def wsX7_serveSchedule_r3 : List Cond := [Cond.instanceMethod yX1_runSlot, Cond.selects RX1 yX1_runSlot yX1_runSlot, Cond.code yX1_runSlot cX1_runSlot 5 none, Cond.fieldLink RX1 62 "FloodBus$Network" "alive" "[Z", Cond.fieldLink RX1 66 "FloodBus$Network" "links" "LFloodBus$Links;", Cond.methodLink RX1 70 yX1_measureLevels, Cond.instanceMethod yX1_measureLevels, Cond.selects RX1 yX1_measureLevels yX1_measureLevels, Cond.code yX1_measureLevels cX1_measureLevels 6 none, Cond.fieldLink RX1 9 "FloodBus$Flooding" "levels" "[I", Cond.methodLink RX1 78 yX1_transmits, Cond.instanceMethod yX1_transmits, Cond.selects RX1 yX1_transmits yX1_transmits, Cond.code yX1_transmits cX1_transmits 4 (some .boolean), Cond.methodLink RX1 82 yX2_signal, Cond.instanceMethod yX2_signal, Cond.selects RX2 yX2_signal yX2_signal, Cond.initialized RX2, Cond.code yX2_signal cX2_signal 5 (some .int), Cond.fieldLink RX2 16 "FloodBus$Links" "lossPeriod" "[[I", Cond.fieldLink RX2 11 "FloodBus$Links" "strength" "[[I", Cond.methodLink RX1 74 yX1_capturedPacket, Cond.instanceMethod yX1_capturedPacket, Cond.selects RX1 yX1_capturedPacket yX1_capturedPacket]
def wsX7_serveSchedule_r4 : List Cond := [Cond.code yX1_capturedPacket cX1_capturedPacket 5 (some .int), Cond.fieldLink RX1 28 "FloodBus$Flooding" "captureMargin" "I"]
def wsX7_serveSchedule : List Cond := .code yX7_serveSchedule cX7_serveSchedule 5 (some .int) :: ((wsX7_serveSchedule_r1 ++ (wsX7_serveSchedule_r2 ++ (wsX7_serveSchedule_r3 ++ wsX7_serveSchedule_r4))) ++ wsX70 ++ wsX40 ++ wsX60 ++ wsX30 ++ wsX50 ++ wsX10 ++ wsX20)
def wsX7_takeOver : List Cond := .code yX7_takeOver cX7_takeOver 2 none :: ([.fieldLink RX7 19 "FloodBus" "network" "LFloodBus$Network;", .fieldLink RX7 92 "FloodBus$Network" "count" "I", .fieldLink RX7 103 "FloodBus$Network" "alive" "[Z", .fieldLink RX7 107 "FloodBus$Network" "missed" "[I", .fieldLink RX7 48 "FloodBus" "takeoverLimit" "I", .fieldLink RX7 51 "FloodBus" "hostNode" "I"] ++ wsX70 ++ wsX30)
def wsX7_runOneRound_r1 : List Cond := [Cond.fieldLink RX7 33 "FloodBus" "streams" "LFloodBus$StreamTable;", Cond.fieldLink RX7 54 "FloodBus" "nextRound" "I", Cond.fieldLink RX7 19 "FloodBus" "network" "LFloodBus$Network;", Cond.fieldLink RX7 103 "FloodBus$Network" "alive" "[Z", Cond.fieldLink RX7 51 "FloodBus" "hostNode" "I", Cond.fieldLink RX7 40 "FloodBus" "schedule" "LFloodBus$Schedule;", Cond.fieldLink RX7 44 "FloodBus" "slotLimit" "I", Cond.fieldLink RX7 26 "FloodBus" "latestFlood" "LFloodBus$Flooding;", Cond.fieldLink RX7 89 "FloodBus$Schedule" "size" "I", Cond.methodLink RX7 178 yX6_generate, Cond.instanceMethod yX6_generate, Cond.selects RX6 yX6_generate yX6_generate, Cond.initialized RX6, Cond.code yX6_generate cX6_generate 3 none, Cond.fieldLink RX6 17 "FloodBus$StreamTable" "count" "I", Cond.fieldLink RX6 11 "FloodBus$StreamTable" "rows" "[LFloodBus$Stream;", Cond.methodLink RX6 26 yX5_generate, Cond.instanceMethod yX5_generate, Cond.selects RX5 yX5_generate yX5_generate, Cond.initialized RX5, Cond.code yX5_generate cX5_generate 2 none, Cond.fieldLink RX5 22 "FloodBus$Stream" "start" "I", Cond.fieldLink RX5 19 "FloodBus$Stream" "period" "I", Cond.fieldLink RX5 25 "FloodBus$Stream" "waiting" "I"]
def wsX7_runOneRound_r2 : List Cond := [Cond.fieldLink RX5 31 "FloodBus$Stream" "lost" "I", Cond.fieldLink RX5 9 "FloodBus$Stream" "generatedIn" "[I", Cond.methodLink RX7 181 yX4_build, Cond.instanceMethod yX4_build, Cond.selects RX4 yX4_build yX4_build, Cond.initialized RX4, Cond.code yX4_build cX4_build 4 none, Cond.fieldLink RX4 15 "FloodBus$Schedule" "size" "I", Cond.fieldLink RX4 19 "FloodBus$StreamTable" "count" "I", Cond.fieldLink RX4 24 "FloodBus$StreamTable" "rows" "[LFloodBus$Stream;", Cond.fieldLink RX4 28 "FloodBus$Stream" "waiting" "I", Cond.methodLink RX4 37 Lib.Math.min.name, Cond.static Lib.Math.min.name, Cond.initialized "java/lang/Math", Cond.code Lib.Math.min.name Lib.Math.min.code 2 (some .int), Cond.methodLink RX4 33 yX4_insert, Cond.instanceMethod yX4_insert, Cond.selects RX4 yX4_insert yX4_insert, Cond.code yX4_insert cX4_insert 5 none, Cond.fieldLink RX4 9 "FloodBus$Schedule" "entries" "[I", Cond.methodLink RX4 43 yX5_oldestRound, Cond.instanceMethod yX5_oldestRound, Cond.selects RX5 yX5_oldestRound yX5_oldestRound, Cond.code yX5_oldestRound cX5_oldestRound 1 (some .int)]
def wsX7_runOneRound_r3 : List Cond := [Cond.methodLink RX7 114 yX1_run, Cond.instanceMethod yX1_run, Cond.selects RX1 yX1_run yX1_run, Cond.initialized RX1, Cond.code yX1_run cX1_run 4 none, Cond.fieldLink RX1 40 "FloodBus$Network" "count" "I", Cond.fieldLink RX1 21 "FloodBus$Flooding" "length" "I", Cond.methodLink RX1 37 yX1_forget, Cond.instanceMethod yX1_forget, Cond.selects RX1 yX1_forget yX1_forget, Cond.code yX1_forget cX1_forget 1 none, Cond.fieldLink RX1 15 "FloodBus$Flooding" "packet" "[I", Cond.fieldLink RX1 18 "FloodBus$Flooding" "hops" "[I", Cond.methodLink RX1 31 yJ7_fill_53178, Cond.static yJ7_fill_53178, Cond.initialized RJ7, Cond.code yJ7_fill_53178 cJ7_fill_53178 4 none, Cond.methodLink RX1 45 yX1_hold, Cond.instanceMethod yX1_hold, Cond.selects RX1 yX1_hold yX1_hold, Cond.code yX1_hold cX1_hold 5 none, Cond.fieldLink RX1 53 "FloodBus$Network" "sent" "[I", Cond.fieldLink RX1 25 "FloodBus$Flooding" "transmissionLimit" "I", Cond.methodLink RX1 56 Lib.Math.max.name]
def wsX7_runOneRound_r4 : List Cond := [Cond.static Lib.Math.max.name, Cond.code Lib.Math.max.name Lib.Math.max.code 2 (some .int), Cond.methodLink RX1 49 yX1_runSlot, Cond.instanceMethod yX1_runSlot, Cond.selects RX1 yX1_runSlot yX1_runSlot, Cond.code yX1_runSlot cX1_runSlot 5 none, Cond.fieldLink RX1 62 "FloodBus$Network" "alive" "[Z", Cond.fieldLink RX1 66 "FloodBus$Network" "links" "LFloodBus$Links;", Cond.methodLink RX1 70 yX1_measureLevels, Cond.instanceMethod yX1_measureLevels, Cond.selects RX1 yX1_measureLevels yX1_measureLevels, Cond.code yX1_measureLevels cX1_measureLevels 6 none, Cond.fieldLink RX1 9 "FloodBus$Flooding" "levels" "[I", Cond.methodLink RX1 78 yX1_transmits, Cond.instanceMethod yX1_transmits, Cond.selects RX1 yX1_transmits yX1_transmits, Cond.code yX1_transmits cX1_transmits 4 (some .boolean), Cond.methodLink RX1 82 yX2_signal, Cond.instanceMethod yX2_signal, Cond.selects RX2 yX2_signal yX2_signal, Cond.initialized RX2, Cond.code yX2_signal cX2_signal 5 (some .int), Cond.fieldLink RX2 16 "FloodBus$Links" "lossPeriod" "[[I", Cond.fieldLink RX2 11 "FloodBus$Links" "strength" "[[I"]
def wsX7_runOneRound_r5 : List Cond := [Cond.methodLink RX1 74 yX1_capturedPacket, Cond.instanceMethod yX1_capturedPacket, Cond.selects RX1 yX1_capturedPacket yX1_capturedPacket, Cond.code yX1_capturedPacket cX1_capturedPacket 5 (some .int), Cond.fieldLink RX1 28 "FloodBus$Flooding" "captureMargin" "I", Cond.methodLink RX7 185 yX3_noteSchedule, Cond.instanceMethod yX3_noteSchedule, Cond.selects RX3 yX3_noteSchedule yX3_noteSchedule, Cond.initialized RX3, Cond.code yX3_noteSchedule cX3_noteSchedule 3 none, Cond.fieldLink RX3 18 "FloodBus$Network" "count" "I", Cond.fieldLink RX3 33 "FloodBus$Network" "informed" "[Z", Cond.fieldLink RX3 40 "FloodBus$Flooding" "packet" "[I", Cond.fieldLink RX3 26 "FloodBus$Network" "missed" "[I", Cond.fieldLink RX3 22 "FloodBus$Network" "alive" "[Z", Cond.methodLink RX7 189 yX7_serveSchedule, Cond.instanceMethod yX7_serveSchedule, Cond.selects RX7 yX7_serveSchedule yX7_serveSchedule, Cond.initialized RX7, Cond.code yX7_serveSchedule cX7_serveSchedule 5 (some .int), Cond.fieldLink RX7 136 "FloodBus$StreamTable" "rows" "[LFloodBus$Stream;", Cond.fieldLink RX7 154 "FloodBus$Schedule" "entries" "[I", Cond.fieldLink RX7 201 "FloodBus$Network" "informed" "[Z", Cond.fieldLink RX7 204 "FloodBus$Stream" "source" "I"]
def wsX7_runOneRound_r6 : List Cond := [Cond.fieldLink RX7 121 "FloodBus$Flooding" "packet" "[I", Cond.fieldLink RX7 145 "FloodBus$Stream" "delivered" "I", Cond.fieldLink RX7 148 "FloodBus$Stream" "lost" "I", Cond.methodLink RX7 198 yX5_removeOldest, Cond.instanceMethod yX5_removeOldest, Cond.selects RX5 yX5_removeOldest yX5_removeOldest, Cond.code yX5_removeOldest cX5_removeOldest 2 none, Cond.methodLink RX7 192 yX3_noteNoSchedule, Cond.instanceMethod yX3_noteNoSchedule, Cond.selects RX3 yX3_noteNoSchedule yX3_noteNoSchedule, Cond.code yX3_noteNoSchedule cX3_noteNoSchedule 2 none, Cond.methodLink RX7 195 yX7_takeOver, Cond.instanceMethod yX7_takeOver, Cond.selects RX7 yX7_takeOver yX7_takeOver, Cond.code yX7_takeOver cX7_takeOver 2 none, Cond.fieldLink RX7 92 "FloodBus$Network" "count" "I", Cond.fieldLink RX7 107 "FloodBus$Network" "missed" "[I", Cond.fieldLink RX7 48 "FloodBus" "takeoverLimit" "I"]
def wsX7_runOneRound : List Cond := .code yX7_runOneRound cX7_runOneRound 2 (some .int) :: ((wsX7_runOneRound_r1 ++ (wsX7_runOneRound_r2 ++ (wsX7_runOneRound_r3 ++ (wsX7_runOneRound_r4 ++ (wsX7_runOneRound_r5 ++ wsX7_runOneRound_r6))))) ++ wsX70 ++ wsX30 ++ wsX40 ++ wsX60 ++ wsX50 ++ wsX10 ++ wsX20)
def wsX7_runRounds_r1 : List Cond := [Cond.fieldLink RX7 19 "FloodBus" "network" "LFloodBus$Network;", Cond.fieldLink RX7 51 "FloodBus" "hostNode" "I", Cond.fieldLink RX7 54 "FloodBus" "nextRound" "I", Cond.methodLink RX7 99 yX3_has, Cond.instanceMethod yX3_has, Cond.selects RX3 yX3_has yX3_has, Cond.initialized RX3, Cond.code yX3_has cX3_has 2 (some .boolean), Cond.fieldLink RX3 18 "FloodBus$Network" "count" "I", Cond.methodLink RX7 151 yX7_runOneRound, Cond.instanceMethod yX7_runOneRound, Cond.selects RX7 yX7_runOneRound yX7_runOneRound, Cond.initialized RX7, Cond.code yX7_runOneRound cX7_runOneRound 2 (some .int), Cond.fieldLink RX7 33 "FloodBus" "streams" "LFloodBus$StreamTable;", Cond.fieldLink RX7 103 "FloodBus$Network" "alive" "[Z", Cond.fieldLink RX7 40 "FloodBus" "schedule" "LFloodBus$Schedule;", Cond.fieldLink RX7 44 "FloodBus" "slotLimit" "I", Cond.fieldLink RX7 26 "FloodBus" "latestFlood" "LFloodBus$Flooding;", Cond.fieldLink RX7 89 "FloodBus$Schedule" "size" "I", Cond.methodLink RX7 178 yX6_generate, Cond.instanceMethod yX6_generate, Cond.selects RX6 yX6_generate yX6_generate, Cond.initialized RX6]
def wsX7_runRounds_r2 : List Cond := [Cond.code yX6_generate cX6_generate 3 none, Cond.fieldLink RX6 17 "FloodBus$StreamTable" "count" "I", Cond.fieldLink RX6 11 "FloodBus$StreamTable" "rows" "[LFloodBus$Stream;", Cond.methodLink RX6 26 yX5_generate, Cond.instanceMethod yX5_generate, Cond.selects RX5 yX5_generate yX5_generate, Cond.initialized RX5, Cond.code yX5_generate cX5_generate 2 none, Cond.fieldLink RX5 22 "FloodBus$Stream" "start" "I", Cond.fieldLink RX5 19 "FloodBus$Stream" "period" "I", Cond.fieldLink RX5 25 "FloodBus$Stream" "waiting" "I", Cond.fieldLink RX5 31 "FloodBus$Stream" "lost" "I", Cond.fieldLink RX5 9 "FloodBus$Stream" "generatedIn" "[I", Cond.methodLink RX7 181 yX4_build, Cond.instanceMethod yX4_build, Cond.selects RX4 yX4_build yX4_build, Cond.initialized RX4, Cond.code yX4_build cX4_build 4 none, Cond.fieldLink RX4 15 "FloodBus$Schedule" "size" "I", Cond.fieldLink RX4 19 "FloodBus$StreamTable" "count" "I", Cond.fieldLink RX4 24 "FloodBus$StreamTable" "rows" "[LFloodBus$Stream;", Cond.fieldLink RX4 28 "FloodBus$Stream" "waiting" "I", Cond.methodLink RX4 37 Lib.Math.min.name, Cond.static Lib.Math.min.name]
def wsX7_runRounds_r3 : List Cond := [Cond.initialized "java/lang/Math", Cond.code Lib.Math.min.name Lib.Math.min.code 2 (some .int), Cond.methodLink RX4 33 yX4_insert, Cond.instanceMethod yX4_insert, Cond.selects RX4 yX4_insert yX4_insert, Cond.code yX4_insert cX4_insert 5 none, Cond.fieldLink RX4 9 "FloodBus$Schedule" "entries" "[I", Cond.methodLink RX4 43 yX5_oldestRound, Cond.instanceMethod yX5_oldestRound, Cond.selects RX5 yX5_oldestRound yX5_oldestRound, Cond.code yX5_oldestRound cX5_oldestRound 1 (some .int), Cond.methodLink RX7 114 yX1_run, Cond.instanceMethod yX1_run, Cond.selects RX1 yX1_run yX1_run, Cond.initialized RX1, Cond.code yX1_run cX1_run 4 none, Cond.fieldLink RX1 40 "FloodBus$Network" "count" "I", Cond.fieldLink RX1 21 "FloodBus$Flooding" "length" "I", Cond.methodLink RX1 37 yX1_forget, Cond.instanceMethod yX1_forget, Cond.selects RX1 yX1_forget yX1_forget, Cond.code yX1_forget cX1_forget 1 none, Cond.fieldLink RX1 15 "FloodBus$Flooding" "packet" "[I", Cond.fieldLink RX1 18 "FloodBus$Flooding" "hops" "[I"]
def wsX7_runRounds_r4 : List Cond := [Cond.methodLink RX1 31 yJ7_fill_53178, Cond.static yJ7_fill_53178, Cond.initialized RJ7, Cond.code yJ7_fill_53178 cJ7_fill_53178 4 none, Cond.methodLink RX1 45 yX1_hold, Cond.instanceMethod yX1_hold, Cond.selects RX1 yX1_hold yX1_hold, Cond.code yX1_hold cX1_hold 5 none, Cond.fieldLink RX1 53 "FloodBus$Network" "sent" "[I", Cond.fieldLink RX1 25 "FloodBus$Flooding" "transmissionLimit" "I", Cond.methodLink RX1 56 Lib.Math.max.name, Cond.static Lib.Math.max.name, Cond.code Lib.Math.max.name Lib.Math.max.code 2 (some .int), Cond.methodLink RX1 49 yX1_runSlot, Cond.instanceMethod yX1_runSlot, Cond.selects RX1 yX1_runSlot yX1_runSlot, Cond.code yX1_runSlot cX1_runSlot 5 none, Cond.fieldLink RX1 62 "FloodBus$Network" "alive" "[Z", Cond.fieldLink RX1 66 "FloodBus$Network" "links" "LFloodBus$Links;", Cond.methodLink RX1 70 yX1_measureLevels, Cond.instanceMethod yX1_measureLevels, Cond.selects RX1 yX1_measureLevels yX1_measureLevels, Cond.code yX1_measureLevels cX1_measureLevels 6 none, Cond.fieldLink RX1 9 "FloodBus$Flooding" "levels" "[I"]
def wsX7_runRounds_r5 : List Cond := [Cond.methodLink RX1 78 yX1_transmits, Cond.instanceMethod yX1_transmits, Cond.selects RX1 yX1_transmits yX1_transmits, Cond.code yX1_transmits cX1_transmits 4 (some .boolean), Cond.methodLink RX1 82 yX2_signal, Cond.instanceMethod yX2_signal, Cond.selects RX2 yX2_signal yX2_signal, Cond.initialized RX2, Cond.code yX2_signal cX2_signal 5 (some .int), Cond.fieldLink RX2 16 "FloodBus$Links" "lossPeriod" "[[I", Cond.fieldLink RX2 11 "FloodBus$Links" "strength" "[[I", Cond.methodLink RX1 74 yX1_capturedPacket, Cond.instanceMethod yX1_capturedPacket, Cond.selects RX1 yX1_capturedPacket yX1_capturedPacket, Cond.code yX1_capturedPacket cX1_capturedPacket 5 (some .int), Cond.fieldLink RX1 28 "FloodBus$Flooding" "captureMargin" "I", Cond.methodLink RX7 185 yX3_noteSchedule, Cond.instanceMethod yX3_noteSchedule, Cond.selects RX3 yX3_noteSchedule yX3_noteSchedule, Cond.code yX3_noteSchedule cX3_noteSchedule 3 none, Cond.fieldLink RX3 33 "FloodBus$Network" "informed" "[Z", Cond.fieldLink RX3 40 "FloodBus$Flooding" "packet" "[I", Cond.fieldLink RX3 26 "FloodBus$Network" "missed" "[I", Cond.fieldLink RX3 22 "FloodBus$Network" "alive" "[Z"]
def wsX7_runRounds_r6 : List Cond := [Cond.methodLink RX7 189 yX7_serveSchedule, Cond.instanceMethod yX7_serveSchedule, Cond.selects RX7 yX7_serveSchedule yX7_serveSchedule, Cond.code yX7_serveSchedule cX7_serveSchedule 5 (some .int), Cond.fieldLink RX7 136 "FloodBus$StreamTable" "rows" "[LFloodBus$Stream;", Cond.fieldLink RX7 154 "FloodBus$Schedule" "entries" "[I", Cond.fieldLink RX7 201 "FloodBus$Network" "informed" "[Z", Cond.fieldLink RX7 204 "FloodBus$Stream" "source" "I", Cond.fieldLink RX7 121 "FloodBus$Flooding" "packet" "[I", Cond.fieldLink RX7 145 "FloodBus$Stream" "delivered" "I", Cond.fieldLink RX7 148 "FloodBus$Stream" "lost" "I", Cond.methodLink RX7 198 yX5_removeOldest, Cond.instanceMethod yX5_removeOldest, Cond.selects RX5 yX5_removeOldest yX5_removeOldest, Cond.code yX5_removeOldest cX5_removeOldest 2 none, Cond.methodLink RX7 192 yX3_noteNoSchedule, Cond.instanceMethod yX3_noteNoSchedule, Cond.selects RX3 yX3_noteNoSchedule yX3_noteNoSchedule, Cond.code yX3_noteNoSchedule cX3_noteNoSchedule 2 none, Cond.methodLink RX7 195 yX7_takeOver, Cond.instanceMethod yX7_takeOver, Cond.selects RX7 yX7_takeOver yX7_takeOver, Cond.code yX7_takeOver cX7_takeOver 2 none, Cond.fieldLink RX7 92 "FloodBus$Network" "count" "I"]
def wsX7_runRounds_r7 : List Cond := [Cond.fieldLink RX7 107 "FloodBus$Network" "missed" "[I", Cond.fieldLink RX7 48 "FloodBus" "takeoverLimit" "I"]
def wsX7_runRounds : List Cond := .code yX7_runRounds cX7_runRounds 4 (some .int) :: ((wsX7_runRounds_r1 ++ (wsX7_runRounds_r2 ++ (wsX7_runRounds_r3 ++ (wsX7_runRounds_r4 ++ (wsX7_runRounds_r5 ++ (wsX7_runRounds_r6 ++ wsX7_runRounds_r7)))))) ++ wsX70 ++ wsX30 ++ wsX40 ++ wsX60 ++ wsX50 ++ wsX10 ++ wsX20)
def wsX7_scheduledStream : List Cond := .code yX7_scheduledStream cX7_scheduledStream 2 (some .int) :: ([.fieldLink RX7 40 "FloodBus" "schedule" "LFloodBus$Schedule;", .fieldLink RX7 89 "FloodBus$Schedule" "size" "I", .fieldLink RX7 154 "FloodBus$Schedule" "entries" "[I"] ++ wsX70 ++ wsX40)
def wsX7_scheduleBits : List Cond := .code yX7_scheduleBits cX7_scheduleBits 1 (some .int) :: ([.fieldLink RX7 40 "FloodBus" "schedule" "LFloodBus$Schedule;", .fieldLink RX7 33 "FloodBus" "streams" "LFloodBus$StreamTable;", .methodLink RX7 157 yX4_encodedSize, .instanceMethod yX4_encodedSize, .selects RX4 yX4_encodedSize yX4_encodedSize, .initialized RX4, .code yX4_encodedSize cX4_encodedSize 3 (some .int), .fieldLink RX4 15 "FloodBus$Schedule" "size" "I", .methodLink RX4 37 Lib.Math.min.name, .static Lib.Math.min.name, .initialized "java/lang/Math", .code Lib.Math.min.name Lib.Math.min.code 2 (some .int), .methodLink RX4 47 yX4_hasRepeatedSource, .instanceMethod yX4_hasRepeatedSource, .selects RX4 yX4_hasRepeatedSource yX4_hasRepeatedSource, .code yX4_hasRepeatedSource cX4_hasRepeatedSource 5 (some .boolean), .fieldLink RX4 24 "FloodBus$StreamTable" "rows" "[LFloodBus$Stream;", .fieldLink RX4 9 "FloodBus$Schedule" "entries" "[I", .fieldLink RX4 51 "FloodBus$Stream" "source" "I"] ++ wsX70 ++ wsX40 ++ wsX60 ++ wsX50)
def wsX7_host : List Cond := .code yX7_host cX7_host 1 (some .int) :: ([.fieldLink RX7 51 "FloodBus" "hostNode" "I"] ++ wsX70)
def wsX7_missedSchedules : List Cond := .code yX7_missedSchedules cX7_missedSchedules 2 (some .int) :: ([.fieldLink RX7 19 "FloodBus" "network" "LFloodBus$Network;", .fieldLink RX7 107 "FloodBus$Network" "missed" "[I", .methodLink RX7 99 yX3_has, .instanceMethod yX3_has, .selects RX3 yX3_has yX3_has, .initialized RX3, .code yX3_has cX3_has 2 (some .boolean), .fieldLink RX3 18 "FloodBus$Network" "count" "I"] ++ wsX70 ++ wsX30)
def wsX7_transmissions : List Cond := .code yX7_transmissions cX7_transmissions 2 (some .int) :: ([.fieldLink RX7 19 "FloodBus" "network" "LFloodBus$Network;", .fieldLink RX7 161 "FloodBus$Network" "sent" "[I", .methodLink RX7 99 yX3_has, .instanceMethod yX3_has, .selects RX3 yX3_has yX3_has, .initialized RX3, .code yX3_has cX3_has 2 (some .boolean), .fieldLink RX3 18 "FloodBus$Network" "count" "I"] ++ wsX70 ++ wsX30)
def wsX7_roundNumber : List Cond := .code yX7_roundNumber cX7_roundNumber 1 (some .int) :: ([.fieldLink RX7 54 "FloodBus" "nextRound" "I"] ++ wsX70)
def wsX7_digestNodes : List Cond := .code yX7_digestNodes cX7_digestNodes 6 (some .long) :: ([.fieldLink RX7 19 "FloodBus" "network" "LFloodBus$Network;", .fieldLink RX7 92 "FloodBus$Network" "count" "I", .constantLong RX7 170 (31), .fieldLink RX7 26 "FloodBus" "latestFlood" "LFloodBus$Flooding;", .fieldLink RX7 121 "FloodBus$Flooding" "packet" "[I", .fieldLink RX7 124 "FloodBus$Flooding" "hops" "[I", .fieldLink RX7 107 "FloodBus$Network" "missed" "[I", .fieldLink RX7 161 "FloodBus$Network" "sent" "[I", .fieldLink RX7 103 "FloodBus$Network" "alive" "[Z"] ++ wsX70 ++ wsX30 ++ wsX10)
def wsX7_digestStreams : List Cond := .code yX7_digestStreams cX7_digestStreams 7 (some .long) :: ([.fieldLink RX7 33 "FloodBus" "streams" "LFloodBus$StreamTable;", .fieldLink RX7 86 "FloodBus$StreamTable" "count" "I", .fieldLink RX7 136 "FloodBus$StreamTable" "rows" "[LFloodBus$Stream;", .constantLong RX7 170 (31), .fieldLink RX7 140 "FloodBus$Stream" "waiting" "I", .fieldLink RX7 145 "FloodBus$Stream" "delivered" "I", .fieldLink RX7 148 "FloodBus$Stream" "lost" "I"] ++ wsX70 ++ wsX60 ++ wsX50)
def wsX7_digest_r1 : List Cond := [Cond.constantLong RX7 164 (1753), Cond.constantLong RX7 170 (31), Cond.fieldLink RX7 26 "FloodBus" "latestFlood" "LFloodBus$Flooding;", Cond.fieldLink RX7 127 "FloodBus$Flooding" "length" "I", Cond.fieldLink RX7 40 "FloodBus" "schedule" "LFloodBus$Schedule;", Cond.fieldLink RX7 89 "FloodBus$Schedule" "size" "I", Cond.fieldLink RX7 154 "FloodBus$Schedule" "entries" "[I", Cond.fieldLink RX7 33 "FloodBus" "streams" "LFloodBus$StreamTable;", Cond.fieldLink RX7 51 "FloodBus" "hostNode" "I", Cond.fieldLink RX7 54 "FloodBus" "nextRound" "I", Cond.fieldLink RX7 10 "FloodBus" "description" "LFloodBus$Description;", Cond.fieldLink RX7 61 "FloodBus$Description" "length" "I", Cond.fieldLink RX7 175 "FloodBus$Description" "characters" "[I", Cond.methodLink RX7 166 yX7_digestNodes, Cond.instanceMethod yX7_digestNodes, Cond.selects RX7 yX7_digestNodes yX7_digestNodes, Cond.initialized RX7, Cond.code yX7_digestNodes cX7_digestNodes 6 (some .long), Cond.fieldLink RX7 19 "FloodBus" "network" "LFloodBus$Network;", Cond.fieldLink RX7 92 "FloodBus$Network" "count" "I", Cond.fieldLink RX7 121 "FloodBus$Flooding" "packet" "[I", Cond.fieldLink RX7 124 "FloodBus$Flooding" "hops" "[I", Cond.fieldLink RX7 107 "FloodBus$Network" "missed" "[I", Cond.fieldLink RX7 161 "FloodBus$Network" "sent" "[I"]
def wsX7_digest_r2 : List Cond := [Cond.fieldLink RX7 103 "FloodBus$Network" "alive" "[Z", Cond.methodLink RX7 172 yX7_digestStreams, Cond.instanceMethod yX7_digestStreams, Cond.selects RX7 yX7_digestStreams yX7_digestStreams, Cond.code yX7_digestStreams cX7_digestStreams 7 (some .long), Cond.fieldLink RX7 86 "FloodBus$StreamTable" "count" "I", Cond.fieldLink RX7 136 "FloodBus$StreamTable" "rows" "[LFloodBus$Stream;", Cond.fieldLink RX7 140 "FloodBus$Stream" "waiting" "I", Cond.fieldLink RX7 145 "FloodBus$Stream" "delivered" "I", Cond.fieldLink RX7 148 "FloodBus$Stream" "lost" "I", Cond.methodLink RX7 157 yX4_encodedSize, Cond.instanceMethod yX4_encodedSize, Cond.selects RX4 yX4_encodedSize yX4_encodedSize, Cond.initialized RX4, Cond.code yX4_encodedSize cX4_encodedSize 3 (some .int), Cond.fieldLink RX4 15 "FloodBus$Schedule" "size" "I", Cond.methodLink RX4 37 Lib.Math.min.name, Cond.static Lib.Math.min.name, Cond.initialized "java/lang/Math", Cond.code Lib.Math.min.name Lib.Math.min.code 2 (some .int), Cond.methodLink RX4 47 yX4_hasRepeatedSource, Cond.instanceMethod yX4_hasRepeatedSource, Cond.selects RX4 yX4_hasRepeatedSource yX4_hasRepeatedSource, Cond.code yX4_hasRepeatedSource cX4_hasRepeatedSource 5 (some .boolean)]
def wsX7_digest_r3 : List Cond := [Cond.fieldLink RX4 24 "FloodBus$StreamTable" "rows" "[LFloodBus$Stream;", Cond.fieldLink RX4 9 "FloodBus$Schedule" "entries" "[I", Cond.fieldLink RX4 51 "FloodBus$Stream" "source" "I"]
def wsX7_digest : List Cond := .code yX7_digest cX7_digest 4 (some .long) :: ((wsX7_digest_r1 ++ (wsX7_digest_r2 ++ wsX7_digest_r3)) ++ wsX70 ++ wsX10 ++ wsX40 ++ wsX00 ++ wsX30 ++ wsX60 ++ wsX50)
def wsX8_init_r1 : List Cond := [Cond.methodLink RX8 1 objectInit, Cond.instanceMethod objectInit, Cond.code objectInit ⟨#[0xb1]⟩ 1 none, Cond.arrayClass .int, Cond.fieldLink RX8 7 "FloodBusModel" "buffer" "[I", Cond.fieldLink RX8 13 "FloodBusModel" "linkA" "[I", Cond.fieldLink RX8 16 "FloodBusModel" "linkB" "[I", Cond.fieldLink RX8 19 "FloodBusModel" "strength" "[I", Cond.fieldLink RX8 22 "FloodBusModel" "lossPeriod" "[I", Cond.arrayClass .boolean, Cond.fieldLink RX8 25 "FloodBusModel" "alive" "[Z", Cond.fieldLink RX8 29 "FloodBusModel" "packet" "[I", Cond.fieldLink RX8 32 "FloodBusModel" "received" "[I", Cond.fieldLink RX8 35 "FloodBusModel" "sent" "[I", Cond.fieldLink RX8 38 "FloodBusModel" "missed" "[I", Cond.fieldLink RX8 41 "FloodBusModel" "host" "I", Cond.fieldLink RX8 45 "FloodBusModel" "transmissionLimit" "I", Cond.fieldLink RX8 48 "FloodBusModel" "captureMargin" "I", Cond.fieldLink RX8 51 "FloodBusModel" "slotLimit" "I", Cond.fieldLink RX8 54 "FloodBusModel" "takeoverLimit" "I", Cond.fieldLink RX8 57 "FloodBusModel" "source" "[I", Cond.fieldLink RX8 60 "FloodBusModel" "period" "[I", Cond.fieldLink RX8 63 "FloodBusModel" "start" "[I", Cond.fieldLink RX8 66 "FloodBusModel" "waiting" "[I"]
def wsX8_init_r2 : List Cond := [Cond.fieldLink RX8 69 "FloodBusModel" "generated" "[I", Cond.fieldLink RX8 72 "FloodBusModel" "delivered" "[I", Cond.fieldLink RX8 75 "FloodBusModel" "lost" "[I", Cond.fieldLink RX8 78 "FloodBusModel" "schedule" "[I", Cond.fieldLink RX8 81 "FloodBusModel" "readA" "[I", Cond.fieldLink RX8 84 "FloodBusModel" "readB" "[I", Cond.fieldLink RX8 87 "FloodBusModel" "readStrength" "[I", Cond.fieldLink RX8 90 "FloodBusModel" "readLoss" "[I", Cond.fieldLink RX8 93 "FloodBusModel" "level" "[I", Cond.fieldLink RX8 96 "FloodBusModel" "comes" "[I", Cond.fieldLink RX8 99 "FloodBusModel" "informed" "[Z"]
def wsX8_init : List Cond := .code yX8_init cX8_init 1 none :: ((wsX8_init_r1 ++ wsX8_init_r2) ++ wsX80)
def wsX8_within : List Cond := .code yX8_within cX8_within 3 (some .boolean) :: ([])
def wsX8_append : List Cond := .code yX8_append cX8_append 2 (some .int) :: ([.fieldLink RX8 106 "FloodBusModel" "bufferLength" "I", .fieldLink RX8 7 "FloodBusModel" "buffer" "[I", .methodLink RX8 102 yX8_within, .static yX8_within, .initialized RX8, .code yX8_within cX8_within 3 (some .boolean)] ++ wsX80)
def wsX8_clearBuffer : List Cond := .code yX8_clearBuffer cX8_clearBuffer 2 (some .int) :: ([.fieldLink RX8 106 "FloodBusModel" "bufferLength" "I"] ++ wsX80)
def wsX8_isJoined : List Cond := .code yX8_isJoined cX8_isJoined 5 (some .boolean) :: ([.fieldLink RX8 109 "FloodBusModel" "readLinks" "I", .fieldLink RX8 81 "FloodBusModel" "readA" "[I", .fieldLink RX8 84 "FloodBusModel" "readB" "[I"] ++ wsX80)
def wsX8_parse : List Cond := .code yX8_parse cX8_parse 7 none :: ([.fieldLink RX8 112 "FloodBusModel" "readNodes" "I", .fieldLink RX8 109 "FloodBusModel" "readLinks" "I", .fieldLink RX8 115 "FloodBusModel" "errorAt" "I", .fieldLink RX8 106 "FloodBusModel" "bufferLength" "I", .fieldLink RX8 7 "FloodBusModel" "buffer" "[I", .fieldLink RX8 81 "FloodBusModel" "readA" "[I", .fieldLink RX8 84 "FloodBusModel" "readB" "[I", .fieldLink RX8 87 "FloodBusModel" "readStrength" "[I", .fieldLink RX8 90 "FloodBusModel" "readLoss" "[I", .fieldLink RX8 122 "FloodBusModel" "isComplete" "Z", .methodLink RX8 102 yX8_within, .static yX8_within, .initialized RX8, .code yX8_within cX8_within 3 (some .boolean), .methodLink RX8 118 yX8_isJoined, .instanceMethod yX8_isJoined, .selects RX8 yX8_isJoined yX8_isJoined, .code yX8_isJoined cX8_isJoined 5 (some .boolean)] ++ wsX80)
def wsX8_errorPosition : List Cond := .code yX8_errorPosition cX8_errorPosition 1 (some .int) :: ([.fieldLink RX8 115 "FloodBusModel" "errorAt" "I", .methodLink RX8 126 yX8_parse, .instanceMethod yX8_parse, .selects RX8 yX8_parse yX8_parse, .initialized RX8, .code yX8_parse cX8_parse 7 none, .fieldLink RX8 112 "FloodBusModel" "readNodes" "I", .fieldLink RX8 109 "FloodBusModel" "readLinks" "I", .fieldLink RX8 106 "FloodBusModel" "bufferLength" "I", .fieldLink RX8 7 "FloodBusModel" "buffer" "[I", .fieldLink RX8 81 "FloodBusModel" "readA" "[I", .fieldLink RX8 84 "FloodBusModel" "readB" "[I", .fieldLink RX8 87 "FloodBusModel" "readStrength" "[I", .fieldLink RX8 90 "FloodBusModel" "readLoss" "[I", .fieldLink RX8 122 "FloodBusModel" "isComplete" "Z", .methodLink RX8 102 yX8_within, .static yX8_within, .code yX8_within cX8_within 3 (some .boolean), .methodLink RX8 118 yX8_isJoined, .instanceMethod yX8_isJoined, .selects RX8 yX8_isJoined yX8_isJoined, .code yX8_isJoined cX8_isJoined 5 (some .boolean)] ++ wsX80)
def wsX8_forgetFlood : List Cond := .code yX8_forgetFlood cX8_forgetFlood 2 none :: ([.fieldLink RX8 29 "FloodBusModel" "packet" "[I", .fieldLink RX8 32 "FloodBusModel" "received" "[I", .fieldLink RX8 151 "FloodBusModel" "length" "I"] ++ wsX80)
def wsX8_loadNetwork_r1 : List Cond := [Cond.fieldLink RX8 122 "FloodBusModel" "isComplete" "Z", Cond.fieldLink RX8 112 "FloodBusModel" "readNodes" "I", Cond.fieldLink RX8 129 "FloodBusModel" "nodes" "I", Cond.fieldLink RX8 109 "FloodBusModel" "readLinks" "I", Cond.fieldLink RX8 132 "FloodBusModel" "links" "I", Cond.fieldLink RX8 13 "FloodBusModel" "linkA" "[I", Cond.fieldLink RX8 81 "FloodBusModel" "readA" "[I", Cond.fieldLink RX8 16 "FloodBusModel" "linkB" "[I", Cond.fieldLink RX8 84 "FloodBusModel" "readB" "[I", Cond.fieldLink RX8 19 "FloodBusModel" "strength" "[I", Cond.fieldLink RX8 87 "FloodBusModel" "readStrength" "[I", Cond.fieldLink RX8 22 "FloodBusModel" "lossPeriod" "[I", Cond.fieldLink RX8 90 "FloodBusModel" "readLoss" "[I", Cond.fieldLink RX8 25 "FloodBusModel" "alive" "[Z", Cond.fieldLink RX8 35 "FloodBusModel" "sent" "[I", Cond.fieldLink RX8 38 "FloodBusModel" "missed" "[I", Cond.fieldLink RX8 41 "FloodBusModel" "host" "I", Cond.fieldLink RX8 138 "FloodBusModel" "round" "I", Cond.fieldLink RX8 141 "FloodBusModel" "streams" "I", Cond.fieldLink RX8 144 "FloodBusModel" "entries" "I", Cond.fieldLink RX8 106 "FloodBusModel" "bufferLength" "I", Cond.methodLink RX8 126 yX8_parse, Cond.instanceMethod yX8_parse, Cond.selects RX8 yX8_parse yX8_parse]
def wsX8_loadNetwork_r2 : List Cond := [Cond.initialized RX8, Cond.code yX8_parse cX8_parse 7 none, Cond.fieldLink RX8 115 "FloodBusModel" "errorAt" "I", Cond.fieldLink RX8 7 "FloodBusModel" "buffer" "[I", Cond.methodLink RX8 102 yX8_within, Cond.static yX8_within, Cond.code yX8_within cX8_within 3 (some .boolean), Cond.methodLink RX8 118 yX8_isJoined, Cond.instanceMethod yX8_isJoined, Cond.selects RX8 yX8_isJoined yX8_isJoined, Cond.code yX8_isJoined cX8_isJoined 5 (some .boolean), Cond.methodLink RX8 135 yX8_forgetFlood, Cond.instanceMethod yX8_forgetFlood, Cond.selects RX8 yX8_forgetFlood yX8_forgetFlood, Cond.code yX8_forgetFlood cX8_forgetFlood 2 none, Cond.fieldLink RX8 29 "FloodBusModel" "packet" "[I", Cond.fieldLink RX8 32 "FloodBusModel" "received" "[I", Cond.fieldLink RX8 151 "FloodBusModel" "length" "I"]
def wsX8_loadNetwork : List Cond := .code yX8_loadNetwork cX8_loadNetwork 2 (some .int) :: ((wsX8_loadNetwork_r1 ++ wsX8_loadNetwork_r2) ++ wsX80)
def wsX8_setTransmissionLimit : List Cond := .code yX8_setTransmissionLimit cX8_setTransmissionLimit 3 (some .int) :: ([.fieldLink RX8 45 "FloodBusModel" "transmissionLimit" "I", .methodLink RX8 102 yX8_within, .static yX8_within, .initialized RX8, .code yX8_within cX8_within 3 (some .boolean)] ++ wsX80)
def wsX8_setCaptureMargin : List Cond := .code yX8_setCaptureMargin cX8_setCaptureMargin 3 (some .int) :: ([.fieldLink RX8 48 "FloodBusModel" "captureMargin" "I", .methodLink RX8 102 yX8_within, .static yX8_within, .initialized RX8, .code yX8_within cX8_within 3 (some .boolean)] ++ wsX80)
def wsX8_setSlotLimit : List Cond := .code yX8_setSlotLimit cX8_setSlotLimit 3 (some .int) :: ([.fieldLink RX8 51 "FloodBusModel" "slotLimit" "I", .methodLink RX8 102 yX8_within, .static yX8_within, .initialized RX8, .code yX8_within cX8_within 3 (some .boolean)] ++ wsX80)
def wsX8_setTakeoverLimit : List Cond := .code yX8_setTakeoverLimit cX8_setTakeoverLimit 3 (some .int) :: ([.fieldLink RX8 54 "FloodBusModel" "takeoverLimit" "I", .methodLink RX8 102 yX8_within, .static yX8_within, .initialized RX8, .code yX8_within cX8_within 3 (some .boolean)] ++ wsX80)
def wsX8_isNode : List Cond := .code yX8_isNode cX8_isNode 2 (some .boolean) :: ([.fieldLink RX8 129 "FloodBusModel" "nodes" "I", .methodLink RX8 102 yX8_within, .static yX8_within, .initialized RX8, .code yX8_within cX8_within 3 (some .boolean)] ++ wsX80)
def wsX8_setAlive : List Cond := .code yX8_setAlive cX8_setAlive 4 (some .int) :: ([.fieldLink RX8 25 "FloodBusModel" "alive" "[Z", .fieldLink RX8 38 "FloodBusModel" "missed" "[I", .methodLink RX8 147 yX8_isNode, .instanceMethod yX8_isNode, .selects RX8 yX8_isNode yX8_isNode, .initialized RX8, .code yX8_isNode cX8_isNode 2 (some .boolean), .fieldLink RX8 129 "FloodBusModel" "nodes" "I", .methodLink RX8 102 yX8_within, .static yX8_within, .code yX8_within cX8_within 3 (some .boolean)] ++ wsX80)
def wsX8_transmits : List Cond := .code yX8_transmits cX8_transmits 4 (some .boolean) :: ([.fieldLink RX8 32 "FloodBusModel" "received" "[I", .fieldLink RX8 45 "FloodBusModel" "transmissionLimit" "I"] ++ wsX80)
def wsX8_lastSlot : List Cond := .code yX8_lastSlot cX8_lastSlot 4 (some .int) :: ([.fieldLink RX8 129 "FloodBusModel" "nodes" "I", .fieldLink RX8 32 "FloodBusModel" "received" "[I", .fieldLink RX8 45 "FloodBusModel" "transmissionLimit" "I"] ++ wsX80)
def wsX8_heard : List Cond := .code yX8_heard cX8_heard 7 (some .int) :: ([.fieldLink RX8 93 "FloodBusModel" "level" "[I", .fieldLink RX8 132 "FloodBusModel" "links" "I", .fieldLink RX8 13 "FloodBusModel" "linkA" "[I", .fieldLink RX8 16 "FloodBusModel" "linkB" "[I", .fieldLink RX8 22 "FloodBusModel" "lossPeriod" "[I", .fieldLink RX8 29 "FloodBusModel" "packet" "[I", .fieldLink RX8 19 "FloodBusModel" "strength" "[I", .fieldLink RX8 48 "FloodBusModel" "captureMargin" "I", .methodLink RX8 154 yX8_transmits, .instanceMethod yX8_transmits, .selects RX8 yX8_transmits yX8_transmits, .initialized RX8, .code yX8_transmits cX8_transmits 4 (some .boolean), .fieldLink RX8 32 "FloodBusModel" "received" "[I", .fieldLink RX8 45 "FloodBusModel" "transmissionLimit" "I"] ++ wsX80)
def wsX8_holders : List Cond := .code yX8_holders cX8_holders 3 (some .int) :: ([.fieldLink RX8 129 "FloodBusModel" "nodes" "I", .fieldLink RX8 29 "FloodBusModel" "packet" "[I"] ++ wsX80)
def wsX8_floodNow_r1 : List Cond := [Cond.fieldLink RX8 129 "FloodBusModel" "nodes" "I", Cond.fieldLink RX8 29 "FloodBusModel" "packet" "[I", Cond.fieldLink RX8 32 "FloodBusModel" "received" "[I", Cond.fieldLink RX8 96 "FloodBusModel" "comes" "[I", Cond.fieldLink RX8 25 "FloodBusModel" "alive" "[Z", Cond.fieldLink RX8 35 "FloodBusModel" "sent" "[I", Cond.fieldLink RX8 151 "FloodBusModel" "length" "I", Cond.methodLink RX8 135 yX8_forgetFlood, Cond.instanceMethod yX8_forgetFlood, Cond.selects RX8 yX8_forgetFlood yX8_forgetFlood, Cond.initialized RX8, Cond.code yX8_forgetFlood cX8_forgetFlood 2 none, Cond.methodLink RX8 157 yX8_lastSlot, Cond.instanceMethod yX8_lastSlot, Cond.selects RX8 yX8_lastSlot yX8_lastSlot, Cond.code yX8_lastSlot cX8_lastSlot 4 (some .int), Cond.fieldLink RX8 45 "FloodBusModel" "transmissionLimit" "I", Cond.methodLink RX8 161 yX8_heard, Cond.instanceMethod yX8_heard, Cond.selects RX8 yX8_heard yX8_heard, Cond.code yX8_heard cX8_heard 7 (some .int), Cond.fieldLink RX8 93 "FloodBusModel" "level" "[I", Cond.fieldLink RX8 132 "FloodBusModel" "links" "I", Cond.fieldLink RX8 13 "FloodBusModel" "linkA" "[I"]
def wsX8_floodNow_r2 : List Cond := [Cond.fieldLink RX8 16 "FloodBusModel" "linkB" "[I", Cond.fieldLink RX8 22 "FloodBusModel" "lossPeriod" "[I", Cond.fieldLink RX8 19 "FloodBusModel" "strength" "[I", Cond.fieldLink RX8 48 "FloodBusModel" "captureMargin" "I", Cond.methodLink RX8 154 yX8_transmits, Cond.instanceMethod yX8_transmits, Cond.selects RX8 yX8_transmits yX8_transmits, Cond.code yX8_transmits cX8_transmits 4 (some .boolean), Cond.methodLink RX8 165 yX8_holders, Cond.instanceMethod yX8_holders, Cond.selects RX8 yX8_holders yX8_holders, Cond.code yX8_holders cX8_holders 3 (some .int)]
def wsX8_floodNow : List Cond := .code yX8_floodNow cX8_floodNow 4 (some .int) :: ((wsX8_floodNow_r1 ++ wsX8_floodNow_r2) ++ wsX80)
def wsX8_flood_r1 : List Cond := [Cond.fieldLink RX8 129 "FloodBusModel" "nodes" "I", Cond.fieldLink RX8 25 "FloodBusModel" "alive" "[Z", Cond.methodLink RX8 168 yX8_floodNow, Cond.instanceMethod yX8_floodNow, Cond.selects RX8 yX8_floodNow yX8_floodNow, Cond.initialized RX8, Cond.code yX8_floodNow cX8_floodNow 4 (some .int), Cond.fieldLink RX8 29 "FloodBusModel" "packet" "[I", Cond.fieldLink RX8 32 "FloodBusModel" "received" "[I", Cond.fieldLink RX8 96 "FloodBusModel" "comes" "[I", Cond.fieldLink RX8 35 "FloodBusModel" "sent" "[I", Cond.fieldLink RX8 151 "FloodBusModel" "length" "I", Cond.methodLink RX8 135 yX8_forgetFlood, Cond.instanceMethod yX8_forgetFlood, Cond.selects RX8 yX8_forgetFlood yX8_forgetFlood, Cond.code yX8_forgetFlood cX8_forgetFlood 2 none, Cond.methodLink RX8 157 yX8_lastSlot, Cond.instanceMethod yX8_lastSlot, Cond.selects RX8 yX8_lastSlot yX8_lastSlot, Cond.code yX8_lastSlot cX8_lastSlot 4 (some .int), Cond.fieldLink RX8 45 "FloodBusModel" "transmissionLimit" "I", Cond.methodLink RX8 161 yX8_heard, Cond.instanceMethod yX8_heard, Cond.selects RX8 yX8_heard yX8_heard]
def wsX8_flood_r2 : List Cond := [Cond.code yX8_heard cX8_heard 7 (some .int), Cond.fieldLink RX8 93 "FloodBusModel" "level" "[I", Cond.fieldLink RX8 132 "FloodBusModel" "links" "I", Cond.fieldLink RX8 13 "FloodBusModel" "linkA" "[I", Cond.fieldLink RX8 16 "FloodBusModel" "linkB" "[I", Cond.fieldLink RX8 22 "FloodBusModel" "lossPeriod" "[I", Cond.fieldLink RX8 19 "FloodBusModel" "strength" "[I", Cond.fieldLink RX8 48 "FloodBusModel" "captureMargin" "I", Cond.methodLink RX8 154 yX8_transmits, Cond.instanceMethod yX8_transmits, Cond.selects RX8 yX8_transmits yX8_transmits, Cond.code yX8_transmits cX8_transmits 4 (some .boolean), Cond.methodLink RX8 165 yX8_holders, Cond.instanceMethod yX8_holders, Cond.selects RX8 yX8_holders yX8_holders, Cond.code yX8_holders cX8_holders 3 (some .int)]
def wsX8_flood : List Cond := .code yX8_flood cX8_flood 4 (some .int) :: ((wsX8_flood_r1 ++ wsX8_flood_r2) ++ wsX80)
def wsX8_packetAt : List Cond := .code yX8_packetAt cX8_packetAt 2 (some .int) :: ([.fieldLink RX8 29 "FloodBusModel" "packet" "[I", .methodLink RX8 147 yX8_isNode, .instanceMethod yX8_isNode, .selects RX8 yX8_isNode yX8_isNode, .initialized RX8, .code yX8_isNode cX8_isNode 2 (some .boolean), .fieldLink RX8 129 "FloodBusModel" "nodes" "I", .methodLink RX8 102 yX8_within, .static yX8_within, .code yX8_within cX8_within 3 (some .boolean)] ++ wsX80)
def wsX8_hops : List Cond := .code yX8_hops cX8_hops 2 (some .int) :: ([.fieldLink RX8 32 "FloodBusModel" "received" "[I"] ++ wsX80)
def wsX8_hopCount : List Cond := .code yX8_hopCount cX8_hopCount 2 (some .int) :: ([.methodLink RX8 147 yX8_isNode, .instanceMethod yX8_isNode, .selects RX8 yX8_isNode yX8_isNode, .initialized RX8, .code yX8_isNode cX8_isNode 2 (some .boolean), .fieldLink RX8 129 "FloodBusModel" "nodes" "I", .methodLink RX8 102 yX8_within, .static yX8_within, .code yX8_within cX8_within 3 (some .boolean), .methodLink RX8 172 yX8_hops, .instanceMethod yX8_hops, .selects RX8 yX8_hops yX8_hops, .code yX8_hops cX8_hops 2 (some .int), .fieldLink RX8 32 "FloodBusModel" "received" "[I"] ++ wsX80)
def wsX8_floodLength : List Cond := .code yX8_floodLength cX8_floodLength 1 (some .int) :: ([.fieldLink RX8 151 "FloodBusModel" "length" "I"] ++ wsX80)
def wsX8_addStream : List Cond := .code yX8_addStream cX8_addStream 4 (some .int) :: ([.fieldLink RX8 141 "FloodBusModel" "streams" "I", .fieldLink RX8 57 "FloodBusModel" "source" "[I", .fieldLink RX8 60 "FloodBusModel" "period" "[I", .fieldLink RX8 63 "FloodBusModel" "start" "[I", .fieldLink RX8 66 "FloodBusModel" "waiting" "[I", .fieldLink RX8 72 "FloodBusModel" "delivered" "[I", .fieldLink RX8 75 "FloodBusModel" "lost" "[I", .methodLink RX8 147 yX8_isNode, .instanceMethod yX8_isNode, .selects RX8 yX8_isNode yX8_isNode, .initialized RX8, .code yX8_isNode cX8_isNode 2 (some .boolean), .fieldLink RX8 129 "FloodBusModel" "nodes" "I", .methodLink RX8 102 yX8_within, .static yX8_within, .code yX8_within cX8_within 3 (some .boolean)] ++ wsX80)
def wsX8_isStream : List Cond := .code yX8_isStream cX8_isStream 2 (some .boolean) :: ([.fieldLink RX8 141 "FloodBusModel" "streams" "I", .methodLink RX8 102 yX8_within, .static yX8_within, .initialized RX8, .code yX8_within cX8_within 3 (some .boolean)] ++ wsX80)
def wsX8_removeStream : List Cond := .code yX8_removeStream cX8_removeStream 4 (some .int) :: ([.fieldLink RX8 141 "FloodBusModel" "streams" "I", .fieldLink RX8 57 "FloodBusModel" "source" "[I", .fieldLink RX8 60 "FloodBusModel" "period" "[I", .fieldLink RX8 63 "FloodBusModel" "start" "[I", .fieldLink RX8 66 "FloodBusModel" "waiting" "[I", .fieldLink RX8 72 "FloodBusModel" "delivered" "[I", .fieldLink RX8 75 "FloodBusModel" "lost" "[I", .fieldLink RX8 69 "FloodBusModel" "generated" "[I", .fieldLink RX8 144 "FloodBusModel" "entries" "I", .methodLink RX8 175 yX8_isStream, .instanceMethod yX8_isStream, .selects RX8 yX8_isStream yX8_isStream, .initialized RX8, .code yX8_isStream cX8_isStream 2 (some .boolean), .methodLink RX8 102 yX8_within, .static yX8_within, .code yX8_within cX8_within 3 (some .boolean)] ++ wsX80)
def wsX8_waitingPackets : List Cond := .code yX8_waitingPackets cX8_waitingPackets 2 (some .int) :: ([.fieldLink RX8 66 "FloodBusModel" "waiting" "[I", .methodLink RX8 175 yX8_isStream, .instanceMethod yX8_isStream, .selects RX8 yX8_isStream yX8_isStream, .initialized RX8, .code yX8_isStream cX8_isStream 2 (some .boolean), .fieldLink RX8 141 "FloodBusModel" "streams" "I", .methodLink RX8 102 yX8_within, .static yX8_within, .code yX8_within cX8_within 3 (some .boolean)] ++ wsX80)
def wsX8_deliveredPackets : List Cond := .code yX8_deliveredPackets cX8_deliveredPackets 2 (some .int) :: ([.fieldLink RX8 72 "FloodBusModel" "delivered" "[I", .methodLink RX8 175 yX8_isStream, .instanceMethod yX8_isStream, .selects RX8 yX8_isStream yX8_isStream, .initialized RX8, .code yX8_isStream cX8_isStream 2 (some .boolean), .fieldLink RX8 141 "FloodBusModel" "streams" "I", .methodLink RX8 102 yX8_within, .static yX8_within, .code yX8_within cX8_within 3 (some .boolean)] ++ wsX80)
def wsX8_lostPackets : List Cond := .code yX8_lostPackets cX8_lostPackets 2 (some .int) :: ([.fieldLink RX8 75 "FloodBusModel" "lost" "[I", .methodLink RX8 175 yX8_isStream, .instanceMethod yX8_isStream, .selects RX8 yX8_isStream yX8_isStream, .initialized RX8, .code yX8_isStream cX8_isStream 2 (some .boolean), .fieldLink RX8 141 "FloodBusModel" "streams" "I", .methodLink RX8 102 yX8_within, .static yX8_within, .code yX8_within cX8_within 3 (some .boolean)] ++ wsX80)
def wsX8_generate : List Cond := .code yX8_generate cX8_generate 2 none :: ([.fieldLink RX8 141 "FloodBusModel" "streams" "I", .fieldLink RX8 138 "FloodBusModel" "round" "I", .fieldLink RX8 63 "FloodBusModel" "start" "[I", .fieldLink RX8 60 "FloodBusModel" "period" "[I", .fieldLink RX8 66 "FloodBusModel" "waiting" "[I", .fieldLink RX8 75 "FloodBusModel" "lost" "[I", .fieldLink RX8 69 "FloodBusModel" "generated" "[I"] ++ wsX80)
def wsX8_isScheduled : List Cond := .code yX8_isScheduled cX8_isScheduled 4 (some .boolean) :: ([.fieldLink RX8 144 "FloodBusModel" "entries" "I", .fieldLink RX8 78 "FloodBusModel" "schedule" "[I"] ++ wsX80)
def wsX8_buildSchedule : List Cond := .code yX8_buildSchedule cX8_buildSchedule 5 none :: ([.fieldLink RX8 144 "FloodBusModel" "entries" "I", .fieldLink RX8 51 "FloodBusModel" "slotLimit" "I", .fieldLink RX8 141 "FloodBusModel" "streams" "I", .fieldLink RX8 66 "FloodBusModel" "waiting" "[I", .fieldLink RX8 69 "FloodBusModel" "generated" "[I", .fieldLink RX8 78 "FloodBusModel" "schedule" "[I", .methodLink RX8 178 yX8_isScheduled, .instanceMethod yX8_isScheduled, .selects RX8 yX8_isScheduled yX8_isScheduled, .initialized RX8, .code yX8_isScheduled cX8_isScheduled 4 (some .boolean)] ++ wsX80)
def wsX8_takePacket : List Cond := .code yX8_takePacket cX8_takePacket 3 none :: ([.fieldLink RX8 66 "FloodBusModel" "waiting" "[I", .fieldLink RX8 69 "FloodBusModel" "generated" "[I"] ++ wsX80)
def wsX8_spreadSchedule_r1 : List Cond := [Cond.fieldLink RX8 25 "FloodBusModel" "alive" "[Z", Cond.fieldLink RX8 41 "FloodBusModel" "host" "I", Cond.fieldLink RX8 144 "FloodBusModel" "entries" "I", Cond.fieldLink RX8 129 "FloodBusModel" "nodes" "I", Cond.fieldLink RX8 99 "FloodBusModel" "informed" "[Z", Cond.fieldLink RX8 29 "FloodBusModel" "packet" "[I", Cond.fieldLink RX8 38 "FloodBusModel" "missed" "[I", Cond.methodLink RX8 181 yX8_buildSchedule, Cond.instanceMethod yX8_buildSchedule, Cond.selects RX8 yX8_buildSchedule yX8_buildSchedule, Cond.initialized RX8, Cond.code yX8_buildSchedule cX8_buildSchedule 5 none, Cond.fieldLink RX8 51 "FloodBusModel" "slotLimit" "I", Cond.fieldLink RX8 141 "FloodBusModel" "streams" "I", Cond.fieldLink RX8 66 "FloodBusModel" "waiting" "[I", Cond.fieldLink RX8 69 "FloodBusModel" "generated" "[I", Cond.fieldLink RX8 78 "FloodBusModel" "schedule" "[I", Cond.methodLink RX8 178 yX8_isScheduled, Cond.instanceMethod yX8_isScheduled, Cond.selects RX8 yX8_isScheduled yX8_isScheduled, Cond.code yX8_isScheduled cX8_isScheduled 4 (some .boolean), Cond.methodLink RX8 168 yX8_floodNow, Cond.instanceMethod yX8_floodNow, Cond.selects RX8 yX8_floodNow yX8_floodNow]
def wsX8_spreadSchedule_r2 : List Cond := [Cond.code yX8_floodNow cX8_floodNow 4 (some .int), Cond.fieldLink RX8 32 "FloodBusModel" "received" "[I", Cond.fieldLink RX8 96 "FloodBusModel" "comes" "[I", Cond.fieldLink RX8 35 "FloodBusModel" "sent" "[I", Cond.fieldLink RX8 151 "FloodBusModel" "length" "I", Cond.methodLink RX8 135 yX8_forgetFlood, Cond.instanceMethod yX8_forgetFlood, Cond.selects RX8 yX8_forgetFlood yX8_forgetFlood, Cond.code yX8_forgetFlood cX8_forgetFlood 2 none, Cond.methodLink RX8 157 yX8_lastSlot, Cond.instanceMethod yX8_lastSlot, Cond.selects RX8 yX8_lastSlot yX8_lastSlot, Cond.code yX8_lastSlot cX8_lastSlot 4 (some .int), Cond.fieldLink RX8 45 "FloodBusModel" "transmissionLimit" "I", Cond.methodLink RX8 161 yX8_heard, Cond.instanceMethod yX8_heard, Cond.selects RX8 yX8_heard yX8_heard, Cond.code yX8_heard cX8_heard 7 (some .int), Cond.fieldLink RX8 93 "FloodBusModel" "level" "[I", Cond.fieldLink RX8 132 "FloodBusModel" "links" "I", Cond.fieldLink RX8 13 "FloodBusModel" "linkA" "[I", Cond.fieldLink RX8 16 "FloodBusModel" "linkB" "[I", Cond.fieldLink RX8 22 "FloodBusModel" "lossPeriod" "[I", Cond.fieldLink RX8 19 "FloodBusModel" "strength" "[I"]
def wsX8_spreadSchedule_r3 : List Cond := [Cond.fieldLink RX8 48 "FloodBusModel" "captureMargin" "I", Cond.methodLink RX8 154 yX8_transmits, Cond.instanceMethod yX8_transmits, Cond.selects RX8 yX8_transmits yX8_transmits, Cond.code yX8_transmits cX8_transmits 4 (some .boolean), Cond.methodLink RX8 165 yX8_holders, Cond.instanceMethod yX8_holders, Cond.selects RX8 yX8_holders yX8_holders, Cond.code yX8_holders cX8_holders 3 (some .int)]
def wsX8_spreadSchedule : List Cond := .code yX8_spreadSchedule cX8_spreadSchedule 3 none :: ((wsX8_spreadSchedule_r1 ++ (wsX8_spreadSchedule_r2 ++ wsX8_spreadSchedule_r3)) ++ wsX80)
def wsX8_serve_r1 : List Cond := [Cond.fieldLink RX8 57 "FloodBusModel" "source" "[I", Cond.fieldLink RX8 25 "FloodBusModel" "alive" "[Z", Cond.fieldLink RX8 99 "FloodBusModel" "informed" "[Z", Cond.fieldLink RX8 29 "FloodBusModel" "packet" "[I", Cond.fieldLink RX8 41 "FloodBusModel" "host" "I", Cond.fieldLink RX8 72 "FloodBusModel" "delivered" "[I", Cond.fieldLink RX8 75 "FloodBusModel" "lost" "[I", Cond.methodLink RX8 184 yX8_takePacket, Cond.instanceMethod yX8_takePacket, Cond.selects RX8 yX8_takePacket yX8_takePacket, Cond.initialized RX8, Cond.code yX8_takePacket cX8_takePacket 3 none, Cond.fieldLink RX8 66 "FloodBusModel" "waiting" "[I", Cond.fieldLink RX8 69 "FloodBusModel" "generated" "[I", Cond.methodLink RX8 168 yX8_floodNow, Cond.instanceMethod yX8_floodNow, Cond.selects RX8 yX8_floodNow yX8_floodNow, Cond.code yX8_floodNow cX8_floodNow 4 (some .int), Cond.fieldLink RX8 129 "FloodBusModel" "nodes" "I", Cond.fieldLink RX8 32 "FloodBusModel" "received" "[I", Cond.fieldLink RX8 96 "FloodBusModel" "comes" "[I", Cond.fieldLink RX8 35 "FloodBusModel" "sent" "[I", Cond.fieldLink RX8 151 "FloodBusModel" "length" "I", Cond.methodLink RX8 135 yX8_forgetFlood]
def wsX8_serve_r2 : List Cond := [Cond.instanceMethod yX8_forgetFlood, Cond.selects RX8 yX8_forgetFlood yX8_forgetFlood, Cond.code yX8_forgetFlood cX8_forgetFlood 2 none, Cond.methodLink RX8 157 yX8_lastSlot, Cond.instanceMethod yX8_lastSlot, Cond.selects RX8 yX8_lastSlot yX8_lastSlot, Cond.code yX8_lastSlot cX8_lastSlot 4 (some .int), Cond.fieldLink RX8 45 "FloodBusModel" "transmissionLimit" "I", Cond.methodLink RX8 161 yX8_heard, Cond.instanceMethod yX8_heard, Cond.selects RX8 yX8_heard yX8_heard, Cond.code yX8_heard cX8_heard 7 (some .int), Cond.fieldLink RX8 93 "FloodBusModel" "level" "[I", Cond.fieldLink RX8 132 "FloodBusModel" "links" "I", Cond.fieldLink RX8 13 "FloodBusModel" "linkA" "[I", Cond.fieldLink RX8 16 "FloodBusModel" "linkB" "[I", Cond.fieldLink RX8 22 "FloodBusModel" "lossPeriod" "[I", Cond.fieldLink RX8 19 "FloodBusModel" "strength" "[I", Cond.fieldLink RX8 48 "FloodBusModel" "captureMargin" "I", Cond.methodLink RX8 154 yX8_transmits, Cond.instanceMethod yX8_transmits, Cond.selects RX8 yX8_transmits yX8_transmits, Cond.code yX8_transmits cX8_transmits 4 (some .boolean), Cond.methodLink RX8 165 yX8_holders]
def wsX8_serve_r3 : List Cond := [Cond.instanceMethod yX8_holders, Cond.selects RX8 yX8_holders yX8_holders, Cond.code yX8_holders cX8_holders 3 (some .int)]
def wsX8_serve : List Cond := .code yX8_serve cX8_serve 5 (some .int) :: ((wsX8_serve_r1 ++ (wsX8_serve_r2 ++ wsX8_serve_r3)) ++ wsX80)
def wsX8_takeOver : List Cond := .code yX8_takeOver cX8_takeOver 2 none :: ([.fieldLink RX8 129 "FloodBusModel" "nodes" "I", .fieldLink RX8 25 "FloodBusModel" "alive" "[Z", .fieldLink RX8 41 "FloodBusModel" "host" "I", .fieldLink RX8 38 "FloodBusModel" "missed" "[I", .fieldLink RX8 54 "FloodBusModel" "takeoverLimit" "I"] ++ wsX80)
def wsX8_runRound_r1 : List Cond := [Cond.fieldLink RX8 144 "FloodBusModel" "entries" "I", Cond.fieldLink RX8 78 "FloodBusModel" "schedule" "[I", Cond.fieldLink RX8 138 "FloodBusModel" "round" "I", Cond.methodLink RX8 188 yX8_generate, Cond.instanceMethod yX8_generate, Cond.selects RX8 yX8_generate yX8_generate, Cond.initialized RX8, Cond.code yX8_generate cX8_generate 2 none, Cond.fieldLink RX8 141 "FloodBusModel" "streams" "I", Cond.fieldLink RX8 63 "FloodBusModel" "start" "[I", Cond.fieldLink RX8 60 "FloodBusModel" "period" "[I", Cond.fieldLink RX8 66 "FloodBusModel" "waiting" "[I", Cond.fieldLink RX8 75 "FloodBusModel" "lost" "[I", Cond.fieldLink RX8 69 "FloodBusModel" "generated" "[I", Cond.methodLink RX8 191 yX8_spreadSchedule, Cond.instanceMethod yX8_spreadSchedule, Cond.selects RX8 yX8_spreadSchedule yX8_spreadSchedule, Cond.code yX8_spreadSchedule cX8_spreadSchedule 3 none, Cond.fieldLink RX8 25 "FloodBusModel" "alive" "[Z", Cond.fieldLink RX8 41 "FloodBusModel" "host" "I", Cond.fieldLink RX8 129 "FloodBusModel" "nodes" "I", Cond.fieldLink RX8 99 "FloodBusModel" "informed" "[Z", Cond.fieldLink RX8 29 "FloodBusModel" "packet" "[I", Cond.fieldLink RX8 38 "FloodBusModel" "missed" "[I"]
def wsX8_runRound_r2 : List Cond := [Cond.methodLink RX8 181 yX8_buildSchedule, Cond.instanceMethod yX8_buildSchedule, Cond.selects RX8 yX8_buildSchedule yX8_buildSchedule, Cond.code yX8_buildSchedule cX8_buildSchedule 5 none, Cond.fieldLink RX8 51 "FloodBusModel" "slotLimit" "I", Cond.methodLink RX8 178 yX8_isScheduled, Cond.instanceMethod yX8_isScheduled, Cond.selects RX8 yX8_isScheduled yX8_isScheduled, Cond.code yX8_isScheduled cX8_isScheduled 4 (some .boolean), Cond.methodLink RX8 168 yX8_floodNow, Cond.instanceMethod yX8_floodNow, Cond.selects RX8 yX8_floodNow yX8_floodNow, Cond.code yX8_floodNow cX8_floodNow 4 (some .int), Cond.fieldLink RX8 32 "FloodBusModel" "received" "[I", Cond.fieldLink RX8 96 "FloodBusModel" "comes" "[I", Cond.fieldLink RX8 35 "FloodBusModel" "sent" "[I", Cond.fieldLink RX8 151 "FloodBusModel" "length" "I", Cond.methodLink RX8 135 yX8_forgetFlood, Cond.instanceMethod yX8_forgetFlood, Cond.selects RX8 yX8_forgetFlood yX8_forgetFlood, Cond.code yX8_forgetFlood cX8_forgetFlood 2 none, Cond.methodLink RX8 157 yX8_lastSlot, Cond.instanceMethod yX8_lastSlot, Cond.selects RX8 yX8_lastSlot yX8_lastSlot]
def wsX8_runRound_r3 : List Cond := [Cond.code yX8_lastSlot cX8_lastSlot 4 (some .int), Cond.fieldLink RX8 45 "FloodBusModel" "transmissionLimit" "I", Cond.methodLink RX8 161 yX8_heard, Cond.instanceMethod yX8_heard, Cond.selects RX8 yX8_heard yX8_heard, Cond.code yX8_heard cX8_heard 7 (some .int), Cond.fieldLink RX8 93 "FloodBusModel" "level" "[I", Cond.fieldLink RX8 132 "FloodBusModel" "links" "I", Cond.fieldLink RX8 13 "FloodBusModel" "linkA" "[I", Cond.fieldLink RX8 16 "FloodBusModel" "linkB" "[I", Cond.fieldLink RX8 22 "FloodBusModel" "lossPeriod" "[I", Cond.fieldLink RX8 19 "FloodBusModel" "strength" "[I", Cond.fieldLink RX8 48 "FloodBusModel" "captureMargin" "I", Cond.methodLink RX8 154 yX8_transmits, Cond.instanceMethod yX8_transmits, Cond.selects RX8 yX8_transmits yX8_transmits, Cond.code yX8_transmits cX8_transmits 4 (some .boolean), Cond.methodLink RX8 165 yX8_holders, Cond.instanceMethod yX8_holders, Cond.selects RX8 yX8_holders yX8_holders, Cond.code yX8_holders cX8_holders 3 (some .int), Cond.methodLink RX8 194 yX8_serve, Cond.instanceMethod yX8_serve, Cond.selects RX8 yX8_serve yX8_serve]
def wsX8_runRound_r4 : List Cond := [Cond.code yX8_serve cX8_serve 5 (some .int), Cond.fieldLink RX8 57 "FloodBusModel" "source" "[I", Cond.fieldLink RX8 72 "FloodBusModel" "delivered" "[I", Cond.methodLink RX8 184 yX8_takePacket, Cond.instanceMethod yX8_takePacket, Cond.selects RX8 yX8_takePacket yX8_takePacket, Cond.code yX8_takePacket cX8_takePacket 3 none, Cond.methodLink RX8 197 yX8_takeOver, Cond.instanceMethod yX8_takeOver, Cond.selects RX8 yX8_takeOver yX8_takeOver, Cond.code yX8_takeOver cX8_takeOver 2 none, Cond.fieldLink RX8 54 "FloodBusModel" "takeoverLimit" "I"]
def wsX8_runRound : List Cond := .code yX8_runRound cX8_runRound 3 (some .int) :: ((wsX8_runRound_r1 ++ (wsX8_runRound_r2 ++ (wsX8_runRound_r3 ++ wsX8_runRound_r4))) ++ wsX80)
def wsX8_runRounds_r1 : List Cond := [Cond.fieldLink RX8 129 "FloodBusModel" "nodes" "I", Cond.fieldLink RX8 138 "FloodBusModel" "round" "I", Cond.methodLink RX8 102 yX8_within, Cond.static yX8_within, Cond.initialized RX8, Cond.code yX8_within cX8_within 3 (some .boolean), Cond.methodLink RX8 200 yX8_runRound, Cond.instanceMethod yX8_runRound, Cond.selects RX8 yX8_runRound yX8_runRound, Cond.code yX8_runRound cX8_runRound 3 (some .int), Cond.fieldLink RX8 144 "FloodBusModel" "entries" "I", Cond.fieldLink RX8 78 "FloodBusModel" "schedule" "[I", Cond.methodLink RX8 188 yX8_generate, Cond.instanceMethod yX8_generate, Cond.selects RX8 yX8_generate yX8_generate, Cond.code yX8_generate cX8_generate 2 none, Cond.fieldLink RX8 141 "FloodBusModel" "streams" "I", Cond.fieldLink RX8 63 "FloodBusModel" "start" "[I", Cond.fieldLink RX8 60 "FloodBusModel" "period" "[I", Cond.fieldLink RX8 66 "FloodBusModel" "waiting" "[I", Cond.fieldLink RX8 75 "FloodBusModel" "lost" "[I", Cond.fieldLink RX8 69 "FloodBusModel" "generated" "[I", Cond.methodLink RX8 191 yX8_spreadSchedule, Cond.instanceMethod yX8_spreadSchedule]
def wsX8_runRounds_r2 : List Cond := [Cond.selects RX8 yX8_spreadSchedule yX8_spreadSchedule, Cond.code yX8_spreadSchedule cX8_spreadSchedule 3 none, Cond.fieldLink RX8 25 "FloodBusModel" "alive" "[Z", Cond.fieldLink RX8 41 "FloodBusModel" "host" "I", Cond.fieldLink RX8 99 "FloodBusModel" "informed" "[Z", Cond.fieldLink RX8 29 "FloodBusModel" "packet" "[I", Cond.fieldLink RX8 38 "FloodBusModel" "missed" "[I", Cond.methodLink RX8 181 yX8_buildSchedule, Cond.instanceMethod yX8_buildSchedule, Cond.selects RX8 yX8_buildSchedule yX8_buildSchedule, Cond.code yX8_buildSchedule cX8_buildSchedule 5 none, Cond.fieldLink RX8 51 "FloodBusModel" "slotLimit" "I", Cond.methodLink RX8 178 yX8_isScheduled, Cond.instanceMethod yX8_isScheduled, Cond.selects RX8 yX8_isScheduled yX8_isScheduled, Cond.code yX8_isScheduled cX8_isScheduled 4 (some .boolean), Cond.methodLink RX8 168 yX8_floodNow, Cond.instanceMethod yX8_floodNow, Cond.selects RX8 yX8_floodNow yX8_floodNow, Cond.code yX8_floodNow cX8_floodNow 4 (some .int), Cond.fieldLink RX8 32 "FloodBusModel" "received" "[I", Cond.fieldLink RX8 96 "FloodBusModel" "comes" "[I", Cond.fieldLink RX8 35 "FloodBusModel" "sent" "[I", Cond.fieldLink RX8 151 "FloodBusModel" "length" "I"]
def wsX8_runRounds_r3 : List Cond := [Cond.methodLink RX8 135 yX8_forgetFlood, Cond.instanceMethod yX8_forgetFlood, Cond.selects RX8 yX8_forgetFlood yX8_forgetFlood, Cond.code yX8_forgetFlood cX8_forgetFlood 2 none, Cond.methodLink RX8 157 yX8_lastSlot, Cond.instanceMethod yX8_lastSlot, Cond.selects RX8 yX8_lastSlot yX8_lastSlot, Cond.code yX8_lastSlot cX8_lastSlot 4 (some .int), Cond.fieldLink RX8 45 "FloodBusModel" "transmissionLimit" "I", Cond.methodLink RX8 161 yX8_heard, Cond.instanceMethod yX8_heard, Cond.selects RX8 yX8_heard yX8_heard, Cond.code yX8_heard cX8_heard 7 (some .int), Cond.fieldLink RX8 93 "FloodBusModel" "level" "[I", Cond.fieldLink RX8 132 "FloodBusModel" "links" "I", Cond.fieldLink RX8 13 "FloodBusModel" "linkA" "[I", Cond.fieldLink RX8 16 "FloodBusModel" "linkB" "[I", Cond.fieldLink RX8 22 "FloodBusModel" "lossPeriod" "[I", Cond.fieldLink RX8 19 "FloodBusModel" "strength" "[I", Cond.fieldLink RX8 48 "FloodBusModel" "captureMargin" "I", Cond.methodLink RX8 154 yX8_transmits, Cond.instanceMethod yX8_transmits, Cond.selects RX8 yX8_transmits yX8_transmits, Cond.code yX8_transmits cX8_transmits 4 (some .boolean)]
def wsX8_runRounds_r4 : List Cond := [Cond.methodLink RX8 165 yX8_holders, Cond.instanceMethod yX8_holders, Cond.selects RX8 yX8_holders yX8_holders, Cond.code yX8_holders cX8_holders 3 (some .int), Cond.methodLink RX8 194 yX8_serve, Cond.instanceMethod yX8_serve, Cond.selects RX8 yX8_serve yX8_serve, Cond.code yX8_serve cX8_serve 5 (some .int), Cond.fieldLink RX8 57 "FloodBusModel" "source" "[I", Cond.fieldLink RX8 72 "FloodBusModel" "delivered" "[I", Cond.methodLink RX8 184 yX8_takePacket, Cond.instanceMethod yX8_takePacket, Cond.selects RX8 yX8_takePacket yX8_takePacket, Cond.code yX8_takePacket cX8_takePacket 3 none, Cond.methodLink RX8 197 yX8_takeOver, Cond.instanceMethod yX8_takeOver, Cond.selects RX8 yX8_takeOver yX8_takeOver, Cond.code yX8_takeOver cX8_takeOver 2 none, Cond.fieldLink RX8 54 "FloodBusModel" "takeoverLimit" "I"]
def wsX8_runRounds : List Cond := .code yX8_runRounds cX8_runRounds 4 (some .int) :: ((wsX8_runRounds_r1 ++ (wsX8_runRounds_r2 ++ (wsX8_runRounds_r3 ++ wsX8_runRounds_r4))) ++ wsX80)
def wsX8_scheduledStream : List Cond := .code yX8_scheduledStream cX8_scheduledStream 2 (some .int) :: ([.fieldLink RX8 144 "FloodBusModel" "entries" "I", .fieldLink RX8 78 "FloodBusModel" "schedule" "[I", .methodLink RX8 102 yX8_within, .static yX8_within, .initialized RX8, .code yX8_within cX8_within 3 (some .boolean)] ++ wsX80)
def wsX8_areSourcesDifferent : List Cond := .code yX8_areSourcesDifferent cX8_areSourcesDifferent 4 (some .boolean) :: ([.fieldLink RX8 144 "FloodBusModel" "entries" "I", .fieldLink RX8 57 "FloodBusModel" "source" "[I", .fieldLink RX8 78 "FloodBusModel" "schedule" "[I"] ++ wsX80)
def wsX8_scheduleBits : List Cond := .code yX8_scheduleBits cX8_scheduleBits 2 (some .int) :: ([.fieldLink RX8 144 "FloodBusModel" "entries" "I", .methodLink RX8 203 yX8_areSourcesDifferent, .instanceMethod yX8_areSourcesDifferent, .selects RX8 yX8_areSourcesDifferent yX8_areSourcesDifferent, .initialized RX8, .code yX8_areSourcesDifferent cX8_areSourcesDifferent 4 (some .boolean), .fieldLink RX8 57 "FloodBusModel" "source" "[I", .fieldLink RX8 78 "FloodBusModel" "schedule" "[I"] ++ wsX80)
def wsX8_host : List Cond := .code yX8_host cX8_host 1 (some .int) :: ([.fieldLink RX8 41 "FloodBusModel" "host" "I"] ++ wsX80)
def wsX8_missedSchedules : List Cond := .code yX8_missedSchedules cX8_missedSchedules 2 (some .int) :: ([.fieldLink RX8 38 "FloodBusModel" "missed" "[I", .methodLink RX8 147 yX8_isNode, .instanceMethod yX8_isNode, .selects RX8 yX8_isNode yX8_isNode, .initialized RX8, .code yX8_isNode cX8_isNode 2 (some .boolean), .fieldLink RX8 129 "FloodBusModel" "nodes" "I", .methodLink RX8 102 yX8_within, .static yX8_within, .code yX8_within cX8_within 3 (some .boolean)] ++ wsX80)
def wsX8_transmissions : List Cond := .code yX8_transmissions cX8_transmissions 2 (some .int) :: ([.fieldLink RX8 35 "FloodBusModel" "sent" "[I", .methodLink RX8 147 yX8_isNode, .instanceMethod yX8_isNode, .selects RX8 yX8_isNode yX8_isNode, .initialized RX8, .code yX8_isNode cX8_isNode 2 (some .boolean), .fieldLink RX8 129 "FloodBusModel" "nodes" "I", .methodLink RX8 102 yX8_within, .static yX8_within, .code yX8_within cX8_within 3 (some .boolean)] ++ wsX80)
def wsX8_roundNumber : List Cond := .code yX8_roundNumber cX8_roundNumber 1 (some .int) :: ([.fieldLink RX8 138 "FloodBusModel" "round" "I"] ++ wsX80)
def wsX8_mix : List Cond := .code yX8_mix cX8_mix 3 none :: ([.constantLong RX8 207 (31), .fieldLink RX8 209 "FloodBusModel" "h" "J"] ++ wsX80)
def wsX8_digest_r1 : List Cond := [Cond.constantLong RX8 213 (1753), Cond.fieldLink RX8 209 "FloodBusModel" "h" "J", Cond.fieldLink RX8 129 "FloodBusModel" "nodes" "I", Cond.fieldLink RX8 29 "FloodBusModel" "packet" "[I", Cond.fieldLink RX8 38 "FloodBusModel" "missed" "[I", Cond.fieldLink RX8 35 "FloodBusModel" "sent" "[I", Cond.fieldLink RX8 25 "FloodBusModel" "alive" "[Z", Cond.fieldLink RX8 151 "FloodBusModel" "length" "I", Cond.fieldLink RX8 141 "FloodBusModel" "streams" "I", Cond.fieldLink RX8 66 "FloodBusModel" "waiting" "[I", Cond.fieldLink RX8 72 "FloodBusModel" "delivered" "[I", Cond.fieldLink RX8 75 "FloodBusModel" "lost" "[I", Cond.fieldLink RX8 144 "FloodBusModel" "entries" "I", Cond.fieldLink RX8 78 "FloodBusModel" "schedule" "[I", Cond.fieldLink RX8 41 "FloodBusModel" "host" "I", Cond.fieldLink RX8 138 "FloodBusModel" "round" "I", Cond.fieldLink RX8 106 "FloodBusModel" "bufferLength" "I", Cond.fieldLink RX8 7 "FloodBusModel" "buffer" "[I", Cond.methodLink RX8 215 yX8_mix, Cond.instanceMethod yX8_mix, Cond.selects RX8 yX8_mix yX8_mix, Cond.initialized RX8, Cond.code yX8_mix cX8_mix 3 none, Cond.constantLong RX8 207 (31)]
def wsX8_digest_r2 : List Cond := [Cond.methodLink RX8 172 yX8_hops, Cond.instanceMethod yX8_hops, Cond.selects RX8 yX8_hops yX8_hops, Cond.code yX8_hops cX8_hops 2 (some .int), Cond.fieldLink RX8 32 "FloodBusModel" "received" "[I", Cond.methodLink RX8 219 yX8_scheduleBits, Cond.instanceMethod yX8_scheduleBits, Cond.selects RX8 yX8_scheduleBits yX8_scheduleBits, Cond.code yX8_scheduleBits cX8_scheduleBits 2 (some .int), Cond.methodLink RX8 203 yX8_areSourcesDifferent, Cond.instanceMethod yX8_areSourcesDifferent, Cond.selects RX8 yX8_areSourcesDifferent yX8_areSourcesDifferent, Cond.code yX8_areSourcesDifferent cX8_areSourcesDifferent 4 (some .boolean), Cond.fieldLink RX8 57 "FloodBusModel" "source" "[I"]
def wsX8_digest : List Cond := .code yX8_digest cX8_digest 2 (some .long) :: ((wsX8_digest_r1 ++ wsX8_digest_r2) ++ wsX80)
def wsJ9_max_7cf53 : List Cond := .code yJ9_max_7cf53 cJ9_max_7cf53 2 (some .int) :: ([])
def wsJ9_min_7cf53 : List Cond := .code yJ9_min_7cf53 cJ9_min_7cf53 2 (some .int) :: ([])
def wsL_law_r1 : List Cond := [Cond.classLink RL 7 RX7, Cond.instantiable RX7 9, Cond.initialized RX7, Cond.classLink RL 10 RX8, Cond.instantiable RX8 42, Cond.initialized RX8, Cond.methodLink RL 9 yX7_init, Cond.instanceMethod yX7_init, Cond.code yX7_init cX7_init 1 none, Cond.methodLink RX7 1 objectInit, Cond.instanceMethod objectInit, Cond.code objectInit ⟨#[0xb1]⟩ 1 none, Cond.classLink RX7 7 RX0, Cond.instantiable RX0 8, Cond.initialized RX0, Cond.fieldLink RX7 10 "FloodBus" "description" "LFloodBus$Description;", Cond.classLink RX7 16 RX3, Cond.instantiable RX3 6, Cond.initialized RX3, Cond.fieldLink RX7 19 "FloodBus" "network" "LFloodBus$Network;", Cond.classLink RX7 23 RX1, Cond.instantiable RX1 6, Cond.initialized RX1, Cond.fieldLink RX7 26 "FloodBus" "latestFlood" "LFloodBus$Flooding;"]
def wsL_law_r2 : List Cond := [Cond.classLink RX7 30 RX6, Cond.instantiable RX6 2, Cond.initialized RX6, Cond.fieldLink RX7 33 "FloodBus" "streams" "LFloodBus$StreamTable;", Cond.classLink RX7 37 RX4, Cond.instantiable RX4 2, Cond.initialized RX4, Cond.fieldLink RX7 40 "FloodBus" "schedule" "LFloodBus$Schedule;", Cond.fieldLink RX7 44 "FloodBus" "slotLimit" "I", Cond.fieldLink RX7 48 "FloodBus" "takeoverLimit" "I", Cond.fieldLink RX7 51 "FloodBus" "hostNode" "I", Cond.fieldLink RX7 54 "FloodBus" "nextRound" "I", Cond.instanceMethod yX0_init, Cond.code yX0_init cX0_init 1 none, Cond.methodLink RX0 3 objectInit, Cond.arrayClass .int, Cond.fieldLink RX0 9 "FloodBus$Description" "characters" "[I", Cond.fieldLink RX0 15 "FloodBus$Description" "length" "I", Cond.classLink RX0 19 RX2, Cond.instantiable RX2 2, Cond.initialized RX2, Cond.fieldLink RX0 22 "FloodBus$Description" "links" "LFloodBus$Links;", Cond.fieldLink RX0 26 "FloodBus$Description" "nodeCount" "I", Cond.fieldLink RX0 29 "FloodBus$Description" "linkCount" "I"]
def wsL_law_r3 : List Cond := [Cond.fieldLink RX0 32 "FloodBus$Description" "expected" "I", Cond.fieldLink RX0 35 "FloodBus$Description" "firstNode" "I", Cond.fieldLink RX0 38 "FloodBus$Description" "secondNode" "I", Cond.instanceMethod yX2_init, Cond.code yX2_init cX2_init 1 none, Cond.methodLink RX2 3 objectInit, Cond.classLink RX2 9 "[[I", Cond.fieldLink RX2 11 "FloodBus$Links" "strength" "[[I", Cond.fieldLink RX2 16 "FloodBus$Links" "lossPeriod" "[[I", Cond.instanceMethod yX3_init, Cond.code yX3_init cX3_init 1 none, Cond.methodLink RX3 3 objectInit, Cond.classLink RX3 9 RX2, Cond.fieldLink RX3 12 "FloodBus$Network" "links" "LFloodBus$Links;", Cond.fieldLink RX3 18 "FloodBus$Network" "count" "I", Cond.arrayClass .boolean, Cond.fieldLink RX3 22 "FloodBus$Network" "alive" "[Z", Cond.fieldLink RX3 26 "FloodBus$Network" "missed" "[I", Cond.fieldLink RX3 30 "FloodBus$Network" "sent" "[I", Cond.fieldLink RX3 33 "FloodBus$Network" "informed" "[Z", Cond.instanceMethod yX1_init, Cond.code yX1_init cX1_init 1 none, Cond.methodLink RX1 3 objectInit, Cond.fieldLink RX1 9 "FloodBus$Flooding" "levels" "[I"]
def wsL_law_r4 : List Cond := [Cond.fieldLink RX1 15 "FloodBus$Flooding" "packet" "[I", Cond.fieldLink RX1 18 "FloodBus$Flooding" "hops" "[I", Cond.fieldLink RX1 21 "FloodBus$Flooding" "length" "I", Cond.fieldLink RX1 25 "FloodBus$Flooding" "transmissionLimit" "I", Cond.fieldLink RX1 28 "FloodBus$Flooding" "captureMargin" "I", Cond.methodLink RX7 32 yX6_init, Cond.instanceMethod yX6_init, Cond.code yX6_init cX6_init 2 none, Cond.methodLink RX6 3 objectInit, Cond.classLink RX6 9 RX5, Cond.fieldLink RX6 11 "FloodBus$StreamTable" "rows" "[LFloodBus$Stream;", Cond.fieldLink RX6 17 "FloodBus$StreamTable" "count" "I", Cond.instantiable RX5 7, Cond.initialized RX5, Cond.instanceMethod yX5_init, Cond.code yX5_init cX5_init 1 none, Cond.methodLink RX5 3 objectInit, Cond.fieldLink RX5 9 "FloodBus$Stream" "generatedIn" "[I", Cond.fieldLink RX5 15 "FloodBus$Stream" "source" "I", Cond.fieldLink RX5 19 "FloodBus$Stream" "period" "I", Cond.fieldLink RX5 22 "FloodBus$Stream" "start" "I", Cond.fieldLink RX5 25 "FloodBus$Stream" "waiting" "I", Cond.fieldLink RX5 28 "FloodBus$Stream" "delivered" "I", Cond.fieldLink RX5 31 "FloodBus$Stream" "lost" "I"]
def wsL_law_r5 : List Cond := [Cond.instanceMethod yX4_init, Cond.code yX4_init cX4_init 1 none, Cond.methodLink RX4 3 objectInit, Cond.fieldLink RX4 9 "FloodBus$Schedule" "entries" "[I", Cond.fieldLink RX4 15 "FloodBus$Schedule" "size" "I", Cond.methodLink RL 12 yX8_init, Cond.instanceMethod yX8_init, Cond.code yX8_init cX8_init 1 none, Cond.methodLink RX8 1 objectInit, Cond.fieldLink RX8 7 "FloodBusModel" "buffer" "[I", Cond.fieldLink RX8 13 "FloodBusModel" "linkA" "[I", Cond.fieldLink RX8 16 "FloodBusModel" "linkB" "[I", Cond.fieldLink RX8 19 "FloodBusModel" "strength" "[I", Cond.fieldLink RX8 22 "FloodBusModel" "lossPeriod" "[I", Cond.fieldLink RX8 25 "FloodBusModel" "alive" "[Z", Cond.fieldLink RX8 29 "FloodBusModel" "packet" "[I", Cond.fieldLink RX8 32 "FloodBusModel" "received" "[I", Cond.fieldLink RX8 35 "FloodBusModel" "sent" "[I", Cond.fieldLink RX8 38 "FloodBusModel" "missed" "[I", Cond.fieldLink RX8 41 "FloodBusModel" "host" "I", Cond.fieldLink RX8 45 "FloodBusModel" "transmissionLimit" "I", Cond.fieldLink RX8 48 "FloodBusModel" "captureMargin" "I", Cond.fieldLink RX8 51 "FloodBusModel" "slotLimit" "I", Cond.fieldLink RX8 54 "FloodBusModel" "takeoverLimit" "I"]
def wsL_law_r6 : List Cond := [Cond.fieldLink RX8 57 "FloodBusModel" "source" "[I", Cond.fieldLink RX8 60 "FloodBusModel" "period" "[I", Cond.fieldLink RX8 63 "FloodBusModel" "start" "[I", Cond.fieldLink RX8 66 "FloodBusModel" "waiting" "[I", Cond.fieldLink RX8 69 "FloodBusModel" "generated" "[I", Cond.fieldLink RX8 72 "FloodBusModel" "delivered" "[I", Cond.fieldLink RX8 75 "FloodBusModel" "lost" "[I", Cond.fieldLink RX8 78 "FloodBusModel" "schedule" "[I", Cond.fieldLink RX8 81 "FloodBusModel" "readA" "[I", Cond.fieldLink RX8 84 "FloodBusModel" "readB" "[I", Cond.fieldLink RX8 87 "FloodBusModel" "readStrength" "[I", Cond.fieldLink RX8 90 "FloodBusModel" "readLoss" "[I", Cond.fieldLink RX8 93 "FloodBusModel" "level" "[I", Cond.fieldLink RX8 96 "FloodBusModel" "comes" "[I", Cond.fieldLink RX8 99 "FloodBusModel" "informed" "[Z", Cond.methodLink RL 13 yX7_append, Cond.instanceMethod yX7_append, Cond.selects RX7 yX7_append yX7_append, Cond.code yX7_append cX7_append 2 (some .int), Cond.methodLink RX7 57 yX0_add, Cond.instanceMethod yX0_add, Cond.selects RX0 yX0_add yX0_add, Cond.code yX0_add cX0_add 2 (some .int), Cond.methodLink RL 17 yX8_append]
def wsL_law_r7 : List Cond := [Cond.instanceMethod yX8_append, Cond.selects RX8 yX8_append yX8_append, Cond.code yX8_append cX8_append 2 (some .int), Cond.fieldLink RX8 106 "FloodBusModel" "bufferLength" "I", Cond.methodLink RX8 102 yX8_within, Cond.static yX8_within, Cond.code yX8_within cX8_within 3 (some .boolean), Cond.methodLink RL 18 yX7_clearBuffer, Cond.instanceMethod yX7_clearBuffer, Cond.selects RX7 yX7_clearBuffer yX7_clearBuffer, Cond.code yX7_clearBuffer cX7_clearBuffer 2 (some .int), Cond.fieldLink RX7 61 "FloodBus$Description" "length" "I", Cond.methodLink RL 22 yX8_clearBuffer, Cond.instanceMethod yX8_clearBuffer, Cond.selects RX8 yX8_clearBuffer yX8_clearBuffer, Cond.code yX8_clearBuffer cX8_clearBuffer 2 (some .int), Cond.methodLink RL 23 yX7_errorPosition, Cond.instanceMethod yX7_errorPosition, Cond.selects RX7 yX7_errorPosition yX7_errorPosition, Cond.code yX7_errorPosition cX7_errorPosition 1 (some .int), Cond.methodLink RX7 64 yX0_findError, Cond.instanceMethod yX0_findError, Cond.selects RX0 yX0_findError yX0_findError, Cond.code yX0_findError cX0_findError 2 (some .int)]
def wsL_law_r8 : List Cond := [Cond.methodLink RX0 45 yX2_clear, Cond.instanceMethod yX2_clear, Cond.selects RX2 yX2_clear yX2_clear, Cond.code yX2_clear cX2_clear 2 none, Cond.methodLink RX2 19 yJ7_fill_53178, Cond.static yJ7_fill_53178, Cond.initialized RJ7, Cond.code yJ7_fill_53178 cJ7_fill_53178 4 none, Cond.methodLink RX0 48 yX0_accepts, Cond.instanceMethod yX0_accepts, Cond.selects RX0 yX0_accepts yX0_accepts, Cond.code yX0_accepts cX0_accepts 2 (some .boolean), Cond.methodLink RX0 52 yX0_acceptsNodeCount, Cond.instanceMethod yX0_acceptsNodeCount, Cond.selects RX0 yX0_acceptsNodeCount yX0_acceptsNodeCount, Cond.code yX0_acceptsNodeCount cX0_acceptsNodeCount 2 (some .boolean), Cond.methodLink RX0 55 yX0_acceptsLinkMark, Cond.instanceMethod yX0_acceptsLinkMark, Cond.selects RX0 yX0_acceptsLinkMark yX0_acceptsLinkMark, Cond.code yX0_acceptsLinkMark cX0_acceptsLinkMark 2 (some .boolean), Cond.methodLink RX0 58 yX0_acceptsFirstNode, Cond.instanceMethod yX0_acceptsFirstNode, Cond.selects RX0 yX0_acceptsFirstNode yX0_acceptsFirstNode, Cond.code yX0_acceptsFirstNode cX0_acceptsFirstNode 2 (some .boolean)]
def wsL_law_r9 : List Cond := [Cond.methodLink RX0 61 yX0_acceptsSecondNode, Cond.instanceMethod yX0_acceptsSecondNode, Cond.selects RX0 yX0_acceptsSecondNode yX0_acceptsSecondNode, Cond.code yX0_acceptsSecondNode cX0_acceptsSecondNode 2 (some .boolean), Cond.methodLink RX0 70 yX2_join, Cond.instanceMethod yX2_join, Cond.selects RX2 yX2_join yX2_join, Cond.code yX2_join cX2_join 3 (some .boolean), Cond.methodLink RX0 64 yX0_acceptsStrength, Cond.instanceMethod yX0_acceptsStrength, Cond.selects RX0 yX0_acceptsStrength yX0_acceptsStrength, Cond.code yX0_acceptsStrength cX0_acceptsStrength 2 (some .boolean), Cond.methodLink RX0 74 yX2_setStrength, Cond.instanceMethod yX2_setStrength, Cond.selects RX2 yX2_setStrength yX2_setStrength, Cond.code yX2_setStrength cX2_setStrength 4 none, Cond.methodLink RX0 67 yX0_acceptsLossPeriod, Cond.instanceMethod yX0_acceptsLossPeriod, Cond.selects RX0 yX0_acceptsLossPeriod yX0_acceptsLossPeriod, Cond.code yX0_acceptsLossPeriod cX0_acceptsLossPeriod 2 (some .boolean), Cond.methodLink RX0 78 yX2_setLossPeriod, Cond.instanceMethod yX2_setLossPeriod, Cond.selects RX2 yX2_setLossPeriod yX2_setLossPeriod, Cond.code yX2_setLossPeriod cX2_setLossPeriod 4 none]
def wsL_law_r10 : List Cond := [Cond.methodLink RL 26 yX8_errorPosition, Cond.instanceMethod yX8_errorPosition, Cond.selects RX8 yX8_errorPosition yX8_errorPosition, Cond.code yX8_errorPosition cX8_errorPosition 1 (some .int), Cond.fieldLink RX8 115 "FloodBusModel" "errorAt" "I", Cond.methodLink RX8 126 yX8_parse, Cond.instanceMethod yX8_parse, Cond.selects RX8 yX8_parse yX8_parse, Cond.code yX8_parse cX8_parse 7 none, Cond.fieldLink RX8 112 "FloodBusModel" "readNodes" "I", Cond.fieldLink RX8 109 "FloodBusModel" "readLinks" "I", Cond.fieldLink RX8 122 "FloodBusModel" "isComplete" "Z", Cond.methodLink RX8 118 yX8_isJoined, Cond.instanceMethod yX8_isJoined, Cond.selects RX8 yX8_isJoined yX8_isJoined, Cond.code yX8_isJoined cX8_isJoined 5 (some .boolean), Cond.methodLink RL 27 yX7_loadNetwork, Cond.instanceMethod yX7_loadNetwork, Cond.selects RX7 yX7_loadNetwork yX7_loadNetwork, Cond.code yX7_loadNetwork cX7_loadNetwork 1 (some .int), Cond.fieldLink RX7 72 "FloodBus$Description" "nodeCount" "I", Cond.fieldLink RX7 75 "FloodBus$Description" "links" "LFloodBus$Links;", Cond.fieldLink RX7 86 "FloodBus$StreamTable" "count" "I", Cond.fieldLink RX7 89 "FloodBus$Schedule" "size" "I"]
def wsL_law_r11 : List Cond := [Cond.fieldLink RX7 92 "FloodBus$Network" "count" "I", Cond.methodLink RX7 68 yX0_isComplete, Cond.instanceMethod yX0_isComplete, Cond.selects RX0 yX0_isComplete yX0_isComplete, Cond.code yX0_isComplete cX0_isComplete 1 (some .boolean), Cond.methodLink RX0 41 yX0_findError, Cond.methodLink RX7 79 yX3_startAnew, Cond.instanceMethod yX3_startAnew, Cond.selects RX3 yX3_startAnew yX3_startAnew, Cond.code yX3_startAnew cX3_startAnew 4 none, Cond.methodLink RX3 36 yX2_copyFrom, Cond.instanceMethod yX2_copyFrom, Cond.selects RX2 yX2_copyFrom yX2_copyFrom, Cond.code yX2_copyFrom cX2_copyFrom 3 none, Cond.methodLink RX2 25 arraycopyName, Cond.native arraycopyName, Cond.static arraycopyName, Cond.initialized "java/lang/System", Cond.methodLink RX7 83 yX1_forget, Cond.instanceMethod yX1_forget, Cond.selects RX1 yX1_forget yX1_forget, Cond.code yX1_forget cX1_forget 1 none, Cond.methodLink RX1 31 yJ7_fill_53178, Cond.methodLink RL 30 yX8_loadNetwork]
def wsL_law_r12 : List Cond := [Cond.instanceMethod yX8_loadNetwork, Cond.selects RX8 yX8_loadNetwork yX8_loadNetwork, Cond.code yX8_loadNetwork cX8_loadNetwork 2 (some .int), Cond.fieldLink RX8 129 "FloodBusModel" "nodes" "I", Cond.fieldLink RX8 132 "FloodBusModel" "links" "I", Cond.fieldLink RX8 138 "FloodBusModel" "round" "I", Cond.fieldLink RX8 141 "FloodBusModel" "streams" "I", Cond.fieldLink RX8 144 "FloodBusModel" "entries" "I", Cond.methodLink RX8 135 yX8_forgetFlood, Cond.instanceMethod yX8_forgetFlood, Cond.selects RX8 yX8_forgetFlood yX8_forgetFlood, Cond.code yX8_forgetFlood cX8_forgetFlood 2 none, Cond.fieldLink RX8 151 "FloodBusModel" "length" "I", Cond.methodLink RL 31 yX7_setTransmissionLimit, Cond.instanceMethod yX7_setTransmissionLimit, Cond.selects RX7 yX7_setTransmissionLimit yX7_setTransmissionLimit, Cond.code yX7_setTransmissionLimit cX7_setTransmissionLimit 3 (some .int), Cond.fieldLink RX7 93 "FloodBus$Flooding" "transmissionLimit" "I", Cond.methodLink RL 34 yX8_setTransmissionLimit, Cond.instanceMethod yX8_setTransmissionLimit, Cond.selects RX8 yX8_setTransmissionLimit yX8_setTransmissionLimit, Cond.code yX8_setTransmissionLimit cX8_setTransmissionLimit 3 (some .int), Cond.methodLink RL 35 yX7_setCaptureMargin, Cond.instanceMethod yX7_setCaptureMargin]
def wsL_law_r13 : List Cond := [Cond.selects RX7 yX7_setCaptureMargin yX7_setCaptureMargin, Cond.code yX7_setCaptureMargin cX7_setCaptureMargin 3 (some .int), Cond.fieldLink RX7 96 "FloodBus$Flooding" "captureMargin" "I", Cond.methodLink RL 38 yX8_setCaptureMargin, Cond.instanceMethod yX8_setCaptureMargin, Cond.selects RX8 yX8_setCaptureMargin yX8_setCaptureMargin, Cond.code yX8_setCaptureMargin cX8_setCaptureMargin 3 (some .int), Cond.methodLink RL 39 yX7_setSlotLimit, Cond.instanceMethod yX7_setSlotLimit, Cond.selects RX7 yX7_setSlotLimit yX7_setSlotLimit, Cond.code yX7_setSlotLimit cX7_setSlotLimit 3 (some .int), Cond.methodLink RL 42 yX8_setSlotLimit, Cond.instanceMethod yX8_setSlotLimit, Cond.selects RX8 yX8_setSlotLimit yX8_setSlotLimit, Cond.code yX8_setSlotLimit cX8_setSlotLimit 3 (some .int), Cond.methodLink RL 43 yX7_setTakeoverLimit, Cond.instanceMethod yX7_setTakeoverLimit, Cond.selects RX7 yX7_setTakeoverLimit yX7_setTakeoverLimit, Cond.code yX7_setTakeoverLimit cX7_setTakeoverLimit 3 (some .int), Cond.methodLink RL 46 yX8_setTakeoverLimit, Cond.instanceMethod yX8_setTakeoverLimit, Cond.selects RX8 yX8_setTakeoverLimit yX8_setTakeoverLimit, Cond.code yX8_setTakeoverLimit cX8_setTakeoverLimit 3 (some .int), Cond.methodLink RL 47 yX7_setAlive]
def wsL_law_r14 : List Cond := [Cond.instanceMethod yX7_setAlive, Cond.selects RX7 yX7_setAlive yX7_setAlive, Cond.code yX7_setAlive cX7_setAlive 4 (some .int), Cond.fieldLink RX7 103 "FloodBus$Network" "alive" "[Z", Cond.fieldLink RX7 107 "FloodBus$Network" "missed" "[I", Cond.methodLink RX7 99 yX3_has, Cond.instanceMethod yX3_has, Cond.selects RX3 yX3_has yX3_has, Cond.code yX3_has cX3_has 2 (some .boolean), Cond.methodLink RL 51 yX8_setAlive, Cond.instanceMethod yX8_setAlive, Cond.selects RX8 yX8_setAlive yX8_setAlive, Cond.code yX8_setAlive cX8_setAlive 4 (some .int), Cond.methodLink RX8 147 yX8_isNode, Cond.instanceMethod yX8_isNode, Cond.selects RX8 yX8_isNode yX8_isNode, Cond.code yX8_isNode cX8_isNode 2 (some .boolean), Cond.methodLink RL 52 yX7_flood, Cond.instanceMethod yX7_flood, Cond.selects RX7 yX7_flood yX7_flood, Cond.code yX7_flood cX7_flood 2 (some .int), Cond.methodLink RX7 111 yX3_areAlive, Cond.instanceMethod yX3_areAlive, Cond.selects RX3 yX3_areAlive yX3_areAlive]
def wsL_law_r15 : List Cond := [Cond.code yX3_areAlive cX3_areAlive 3 (some .boolean), Cond.methodLink RX7 114 yX1_run, Cond.instanceMethod yX1_run, Cond.selects RX1 yX1_run yX1_run, Cond.code yX1_run cX1_run 4 none, Cond.fieldLink RX1 40 "FloodBus$Network" "count" "I", Cond.methodLink RX1 37 yX1_forget, Cond.methodLink RX1 45 yX1_hold, Cond.instanceMethod yX1_hold, Cond.selects RX1 yX1_hold yX1_hold, Cond.code yX1_hold cX1_hold 5 none, Cond.fieldLink RX1 53 "FloodBus$Network" "sent" "[I", Cond.methodLink RX1 56 Lib.Math.max.name, Cond.static Lib.Math.max.name, Cond.initialized "java/lang/Math", Cond.code Lib.Math.max.name Lib.Math.max.code 2 (some .int), Cond.methodLink RX1 49 yX1_runSlot, Cond.instanceMethod yX1_runSlot, Cond.selects RX1 yX1_runSlot yX1_runSlot, Cond.code yX1_runSlot cX1_runSlot 5 none, Cond.fieldLink RX1 62 "FloodBus$Network" "alive" "[Z", Cond.fieldLink RX1 66 "FloodBus$Network" "links" "LFloodBus$Links;", Cond.methodLink RX1 70 yX1_measureLevels, Cond.instanceMethod yX1_measureLevels]
def wsL_law_r16 : List Cond := [Cond.selects RX1 yX1_measureLevels yX1_measureLevels, Cond.code yX1_measureLevels cX1_measureLevels 6 none, Cond.methodLink RX1 78 yX1_transmits, Cond.instanceMethod yX1_transmits, Cond.selects RX1 yX1_transmits yX1_transmits, Cond.code yX1_transmits cX1_transmits 4 (some .boolean), Cond.methodLink RX1 82 yX2_signal, Cond.instanceMethod yX2_signal, Cond.selects RX2 yX2_signal yX2_signal, Cond.code yX2_signal cX2_signal 5 (some .int), Cond.methodLink RX1 74 yX1_capturedPacket, Cond.instanceMethod yX1_capturedPacket, Cond.selects RX1 yX1_capturedPacket yX1_capturedPacket, Cond.code yX1_capturedPacket cX1_capturedPacket 5 (some .int), Cond.methodLink RX7 118 yX1_countHolders, Cond.instanceMethod yX1_countHolders, Cond.selects RX1 yX1_countHolders yX1_countHolders, Cond.code yX1_countHolders cX1_countHolders 3 (some .int), Cond.methodLink RL 55 yX8_flood, Cond.instanceMethod yX8_flood, Cond.selects RX8 yX8_flood yX8_flood, Cond.code yX8_flood cX8_flood 4 (some .int), Cond.methodLink RX8 168 yX8_floodNow, Cond.instanceMethod yX8_floodNow]
def wsL_law_r17 : List Cond := [Cond.selects RX8 yX8_floodNow yX8_floodNow, Cond.code yX8_floodNow cX8_floodNow 4 (some .int), Cond.methodLink RX8 157 yX8_lastSlot, Cond.instanceMethod yX8_lastSlot, Cond.selects RX8 yX8_lastSlot yX8_lastSlot, Cond.code yX8_lastSlot cX8_lastSlot 4 (some .int), Cond.methodLink RX8 161 yX8_heard, Cond.instanceMethod yX8_heard, Cond.selects RX8 yX8_heard yX8_heard, Cond.code yX8_heard cX8_heard 7 (some .int), Cond.methodLink RX8 154 yX8_transmits, Cond.instanceMethod yX8_transmits, Cond.selects RX8 yX8_transmits yX8_transmits, Cond.code yX8_transmits cX8_transmits 4 (some .boolean), Cond.methodLink RX8 165 yX8_holders, Cond.instanceMethod yX8_holders, Cond.selects RX8 yX8_holders yX8_holders, Cond.code yX8_holders cX8_holders 3 (some .int), Cond.methodLink RL 56 yX7_packetAt, Cond.instanceMethod yX7_packetAt, Cond.selects RX7 yX7_packetAt yX7_packetAt, Cond.code yX7_packetAt cX7_packetAt 2 (some .int), Cond.fieldLink RX7 121 "FloodBus$Flooding" "packet" "[I", Cond.methodLink RL 59 yX8_packetAt]
def wsL_law_r18 : List Cond := [Cond.instanceMethod yX8_packetAt, Cond.selects RX8 yX8_packetAt yX8_packetAt, Cond.code yX8_packetAt cX8_packetAt 2 (some .int), Cond.methodLink RL 60 yX7_hopCount, Cond.instanceMethod yX7_hopCount, Cond.selects RX7 yX7_hopCount yX7_hopCount, Cond.code yX7_hopCount cX7_hopCount 2 (some .int), Cond.fieldLink RX7 124 "FloodBus$Flooding" "hops" "[I", Cond.methodLink RL 63 yX8_hopCount, Cond.instanceMethod yX8_hopCount, Cond.selects RX8 yX8_hopCount yX8_hopCount, Cond.code yX8_hopCount cX8_hopCount 2 (some .int), Cond.methodLink RX8 172 yX8_hops, Cond.instanceMethod yX8_hops, Cond.selects RX8 yX8_hops yX8_hops, Cond.code yX8_hops cX8_hops 2 (some .int), Cond.methodLink RL 64 yX7_floodLength, Cond.instanceMethod yX7_floodLength, Cond.selects RX7 yX7_floodLength yX7_floodLength, Cond.code yX7_floodLength cX7_floodLength 1 (some .int), Cond.fieldLink RX7 127 "FloodBus$Flooding" "length" "I", Cond.methodLink RL 67 yX8_floodLength, Cond.instanceMethod yX8_floodLength, Cond.selects RX8 yX8_floodLength yX8_floodLength]
def wsL_law_r19 : List Cond := [Cond.code yX8_floodLength cX8_floodLength 1 (some .int), Cond.methodLink RL 68 yX7_addStream, Cond.instanceMethod yX7_addStream, Cond.selects RX7 yX7_addStream yX7_addStream, Cond.code yX7_addStream cX7_addStream 4 (some .int), Cond.methodLink RX7 128 yX6_add, Cond.instanceMethod yX6_add, Cond.selects RX6 yX6_add yX6_add, Cond.code yX6_add cX6_add 4 (some .int), Cond.methodLink RX6 22 yX5_startAnew, Cond.instanceMethod yX5_startAnew, Cond.selects RX5 yX5_startAnew yX5_startAnew, Cond.code yX5_startAnew cX5_startAnew 4 none, Cond.methodLink RL 72 yX8_addStream, Cond.instanceMethod yX8_addStream, Cond.selects RX8 yX8_addStream yX8_addStream, Cond.code yX8_addStream cX8_addStream 4 (some .int), Cond.methodLink RL 73 yX7_removeStream, Cond.instanceMethod yX7_removeStream, Cond.selects RX7 yX7_removeStream yX7_removeStream, Cond.code yX7_removeStream cX7_removeStream 2 (some .int), Cond.methodLink RX7 131 yX6_has, Cond.instanceMethod yX6_has, Cond.selects RX6 yX6_has yX6_has]
def wsL_law_r20 : List Cond := [Cond.code yX6_has cX6_has 2 (some .boolean), Cond.methodLink RX7 132 yX6_remove, Cond.instanceMethod yX6_remove, Cond.selects RX6 yX6_remove yX6_remove, Cond.code yX6_remove cX6_remove 4 none, Cond.methodLink RL 76 yX8_removeStream, Cond.instanceMethod yX8_removeStream, Cond.selects RX8 yX8_removeStream yX8_removeStream, Cond.code yX8_removeStream cX8_removeStream 4 (some .int), Cond.methodLink RX8 175 yX8_isStream, Cond.instanceMethod yX8_isStream, Cond.selects RX8 yX8_isStream yX8_isStream, Cond.code yX8_isStream cX8_isStream 2 (some .boolean), Cond.methodLink RL 77 yX7_waitingPackets, Cond.instanceMethod yX7_waitingPackets, Cond.selects RX7 yX7_waitingPackets yX7_waitingPackets, Cond.code yX7_waitingPackets cX7_waitingPackets 2 (some .int), Cond.fieldLink RX7 136 "FloodBus$StreamTable" "rows" "[LFloodBus$Stream;", Cond.fieldLink RX7 140 "FloodBus$Stream" "waiting" "I", Cond.methodLink RL 80 yX8_waitingPackets, Cond.instanceMethod yX8_waitingPackets, Cond.selects RX8 yX8_waitingPackets yX8_waitingPackets, Cond.code yX8_waitingPackets cX8_waitingPackets 2 (some .int), Cond.methodLink RL 81 yX7_deliveredPackets]
def wsL_law_r21 : List Cond := [Cond.instanceMethod yX7_deliveredPackets, Cond.selects RX7 yX7_deliveredPackets yX7_deliveredPackets, Cond.code yX7_deliveredPackets cX7_deliveredPackets 2 (some .int), Cond.fieldLink RX7 145 "FloodBus$Stream" "delivered" "I", Cond.methodLink RL 84 yX8_deliveredPackets, Cond.instanceMethod yX8_deliveredPackets, Cond.selects RX8 yX8_deliveredPackets yX8_deliveredPackets, Cond.code yX8_deliveredPackets cX8_deliveredPackets 2 (some .int), Cond.methodLink RL 85 yX7_lostPackets, Cond.instanceMethod yX7_lostPackets, Cond.selects RX7 yX7_lostPackets yX7_lostPackets, Cond.code yX7_lostPackets cX7_lostPackets 2 (some .int), Cond.fieldLink RX7 148 "FloodBus$Stream" "lost" "I", Cond.methodLink RL 88 yX8_lostPackets, Cond.instanceMethod yX8_lostPackets, Cond.selects RX8 yX8_lostPackets yX8_lostPackets, Cond.code yX8_lostPackets cX8_lostPackets 2 (some .int), Cond.methodLink RL 89 yX7_runRounds, Cond.instanceMethod yX7_runRounds, Cond.selects RX7 yX7_runRounds yX7_runRounds, Cond.code yX7_runRounds cX7_runRounds 4 (some .int), Cond.methodLink RX7 151 yX7_runOneRound, Cond.instanceMethod yX7_runOneRound, Cond.selects RX7 yX7_runOneRound yX7_runOneRound]
def wsL_law_r22 : List Cond := [Cond.code yX7_runOneRound cX7_runOneRound 2 (some .int), Cond.methodLink RX7 178 yX6_generate, Cond.instanceMethod yX6_generate, Cond.selects RX6 yX6_generate yX6_generate, Cond.code yX6_generate cX6_generate 3 none, Cond.methodLink RX6 26 yX5_generate, Cond.instanceMethod yX5_generate, Cond.selects RX5 yX5_generate yX5_generate, Cond.code yX5_generate cX5_generate 2 none, Cond.methodLink RX7 181 yX4_build, Cond.instanceMethod yX4_build, Cond.selects RX4 yX4_build yX4_build, Cond.code yX4_build cX4_build 4 none, Cond.fieldLink RX4 19 "FloodBus$StreamTable" "count" "I", Cond.fieldLink RX4 24 "FloodBus$StreamTable" "rows" "[LFloodBus$Stream;", Cond.fieldLink RX4 28 "FloodBus$Stream" "waiting" "I", Cond.methodLink RX4 37 Lib.Math.min.name, Cond.static Lib.Math.min.name, Cond.code Lib.Math.min.name Lib.Math.min.code 2 (some .int), Cond.methodLink RX4 33 yX4_insert, Cond.instanceMethod yX4_insert, Cond.selects RX4 yX4_insert yX4_insert, Cond.code yX4_insert cX4_insert 5 none, Cond.methodLink RX4 43 yX5_oldestRound]
def wsL_law_r23 : List Cond := [Cond.instanceMethod yX5_oldestRound, Cond.selects RX5 yX5_oldestRound yX5_oldestRound, Cond.code yX5_oldestRound cX5_oldestRound 1 (some .int), Cond.methodLink RX7 185 yX3_noteSchedule, Cond.instanceMethod yX3_noteSchedule, Cond.selects RX3 yX3_noteSchedule yX3_noteSchedule, Cond.code yX3_noteSchedule cX3_noteSchedule 3 none, Cond.fieldLink RX3 40 "FloodBus$Flooding" "packet" "[I", Cond.methodLink RX7 189 yX7_serveSchedule, Cond.instanceMethod yX7_serveSchedule, Cond.selects RX7 yX7_serveSchedule yX7_serveSchedule, Cond.code yX7_serveSchedule cX7_serveSchedule 5 (some .int), Cond.fieldLink RX7 154 "FloodBus$Schedule" "entries" "[I", Cond.fieldLink RX7 201 "FloodBus$Network" "informed" "[Z", Cond.fieldLink RX7 204 "FloodBus$Stream" "source" "I", Cond.methodLink RX7 198 yX5_removeOldest, Cond.instanceMethod yX5_removeOldest, Cond.selects RX5 yX5_removeOldest yX5_removeOldest, Cond.code yX5_removeOldest cX5_removeOldest 2 none, Cond.methodLink RX7 192 yX3_noteNoSchedule, Cond.instanceMethod yX3_noteNoSchedule, Cond.selects RX3 yX3_noteNoSchedule yX3_noteNoSchedule, Cond.code yX3_noteNoSchedule cX3_noteNoSchedule 2 none, Cond.methodLink RX7 195 yX7_takeOver]
def wsL_law_r24 : List Cond := [Cond.instanceMethod yX7_takeOver, Cond.selects RX7 yX7_takeOver yX7_takeOver, Cond.code yX7_takeOver cX7_takeOver 2 none, Cond.methodLink RL 92 yX8_runRounds, Cond.instanceMethod yX8_runRounds, Cond.selects RX8 yX8_runRounds yX8_runRounds, Cond.code yX8_runRounds cX8_runRounds 4 (some .int), Cond.methodLink RX8 200 yX8_runRound, Cond.instanceMethod yX8_runRound, Cond.selects RX8 yX8_runRound yX8_runRound, Cond.code yX8_runRound cX8_runRound 3 (some .int), Cond.methodLink RX8 188 yX8_generate, Cond.instanceMethod yX8_generate, Cond.selects RX8 yX8_generate yX8_generate, Cond.code yX8_generate cX8_generate 2 none, Cond.methodLink RX8 191 yX8_spreadSchedule, Cond.instanceMethod yX8_spreadSchedule, Cond.selects RX8 yX8_spreadSchedule yX8_spreadSchedule, Cond.code yX8_spreadSchedule cX8_spreadSchedule 3 none, Cond.methodLink RX8 181 yX8_buildSchedule, Cond.instanceMethod yX8_buildSchedule, Cond.selects RX8 yX8_buildSchedule yX8_buildSchedule, Cond.code yX8_buildSchedule cX8_buildSchedule 5 none, Cond.methodLink RX8 178 yX8_isScheduled]
def wsL_law_r25 : List Cond := [Cond.instanceMethod yX8_isScheduled, Cond.selects RX8 yX8_isScheduled yX8_isScheduled, Cond.code yX8_isScheduled cX8_isScheduled 4 (some .boolean), Cond.methodLink RX8 194 yX8_serve, Cond.instanceMethod yX8_serve, Cond.selects RX8 yX8_serve yX8_serve, Cond.code yX8_serve cX8_serve 5 (some .int), Cond.methodLink RX8 184 yX8_takePacket, Cond.instanceMethod yX8_takePacket, Cond.selects RX8 yX8_takePacket yX8_takePacket, Cond.code yX8_takePacket cX8_takePacket 3 none, Cond.methodLink RX8 197 yX8_takeOver, Cond.instanceMethod yX8_takeOver, Cond.selects RX8 yX8_takeOver yX8_takeOver, Cond.code yX8_takeOver cX8_takeOver 2 none, Cond.methodLink RL 93 yX7_scheduledStream, Cond.instanceMethod yX7_scheduledStream, Cond.selects RX7 yX7_scheduledStream yX7_scheduledStream, Cond.code yX7_scheduledStream cX7_scheduledStream 2 (some .int), Cond.methodLink RL 96 yX8_scheduledStream, Cond.instanceMethod yX8_scheduledStream, Cond.selects RX8 yX8_scheduledStream yX8_scheduledStream, Cond.code yX8_scheduledStream cX8_scheduledStream 2 (some .int), Cond.methodLink RL 97 yX7_scheduleBits]
def wsL_law_r26 : List Cond := [Cond.instanceMethod yX7_scheduleBits, Cond.selects RX7 yX7_scheduleBits yX7_scheduleBits, Cond.code yX7_scheduleBits cX7_scheduleBits 1 (some .int), Cond.methodLink RX7 157 yX4_encodedSize, Cond.instanceMethod yX4_encodedSize, Cond.selects RX4 yX4_encodedSize yX4_encodedSize, Cond.code yX4_encodedSize cX4_encodedSize 3 (some .int), Cond.methodLink RX4 47 yX4_hasRepeatedSource, Cond.instanceMethod yX4_hasRepeatedSource, Cond.selects RX4 yX4_hasRepeatedSource yX4_hasRepeatedSource, Cond.code yX4_hasRepeatedSource cX4_hasRepeatedSource 5 (some .boolean), Cond.fieldLink RX4 51 "FloodBus$Stream" "source" "I", Cond.methodLink RL 100 yX8_scheduleBits, Cond.instanceMethod yX8_scheduleBits, Cond.selects RX8 yX8_scheduleBits yX8_scheduleBits, Cond.code yX8_scheduleBits cX8_scheduleBits 2 (some .int), Cond.methodLink RX8 203 yX8_areSourcesDifferent, Cond.instanceMethod yX8_areSourcesDifferent, Cond.selects RX8 yX8_areSourcesDifferent yX8_areSourcesDifferent, Cond.code yX8_areSourcesDifferent cX8_areSourcesDifferent 4 (some .boolean), Cond.methodLink RL 101 yX7_host, Cond.instanceMethod yX7_host, Cond.selects RX7 yX7_host yX7_host, Cond.code yX7_host cX7_host 1 (some .int)]
def wsL_law_r27 : List Cond := [Cond.methodLink RL 104 yX8_host, Cond.instanceMethod yX8_host, Cond.selects RX8 yX8_host yX8_host, Cond.code yX8_host cX8_host 1 (some .int), Cond.methodLink RL 105 yX7_missedSchedules, Cond.instanceMethod yX7_missedSchedules, Cond.selects RX7 yX7_missedSchedules yX7_missedSchedules, Cond.code yX7_missedSchedules cX7_missedSchedules 2 (some .int), Cond.methodLink RL 108 yX8_missedSchedules, Cond.instanceMethod yX8_missedSchedules, Cond.selects RX8 yX8_missedSchedules yX8_missedSchedules, Cond.code yX8_missedSchedules cX8_missedSchedules 2 (some .int), Cond.methodLink RL 109 yX7_transmissions, Cond.instanceMethod yX7_transmissions, Cond.selects RX7 yX7_transmissions yX7_transmissions, Cond.code yX7_transmissions cX7_transmissions 2 (some .int), Cond.fieldLink RX7 161 "FloodBus$Network" "sent" "[I", Cond.methodLink RL 112 yX8_transmissions, Cond.instanceMethod yX8_transmissions, Cond.selects RX8 yX8_transmissions yX8_transmissions, Cond.code yX8_transmissions cX8_transmissions 2 (some .int), Cond.methodLink RL 113 yX7_roundNumber, Cond.instanceMethod yX7_roundNumber, Cond.selects RX7 yX7_roundNumber yX7_roundNumber]
def wsL_law_r28 : List Cond := [Cond.code yX7_roundNumber cX7_roundNumber 1 (some .int), Cond.methodLink RL 116 yX8_roundNumber, Cond.instanceMethod yX8_roundNumber, Cond.selects RX8 yX8_roundNumber yX8_roundNumber, Cond.code yX8_roundNumber cX8_roundNumber 1 (some .int), Cond.methodLink RL 117 yX7_digest, Cond.instanceMethod yX7_digest, Cond.selects RX7 yX7_digest yX7_digest, Cond.code yX7_digest cX7_digest 4 (some .long), Cond.constantLong RX7 164 (1753), Cond.constantLong RX7 170 (31), Cond.fieldLink RX7 175 "FloodBus$Description" "characters" "[I", Cond.methodLink RX7 166 yX7_digestNodes, Cond.instanceMethod yX7_digestNodes, Cond.selects RX7 yX7_digestNodes yX7_digestNodes, Cond.code yX7_digestNodes cX7_digestNodes 6 (some .long), Cond.methodLink RX7 172 yX7_digestStreams, Cond.instanceMethod yX7_digestStreams, Cond.selects RX7 yX7_digestStreams yX7_digestStreams, Cond.code yX7_digestStreams cX7_digestStreams 7 (some .long), Cond.methodLink RL 121 yX8_digest, Cond.instanceMethod yX8_digest, Cond.selects RX8 yX8_digest yX8_digest, Cond.code yX8_digest cX8_digest 2 (some .long)]
def wsL_law_r29 : List Cond := [Cond.constantLong RX8 213 (1753), Cond.fieldLink RX8 209 "FloodBusModel" "h" "J", Cond.methodLink RX8 215 yX8_mix, Cond.instanceMethod yX8_mix, Cond.selects RX8 yX8_mix yX8_mix, Cond.code yX8_mix cX8_mix 3 none, Cond.constantLong RX8 207 (31), Cond.methodLink RX8 219 yX8_scheduleBits]
def wsL_law : List Cond := (wsL_law_r1 ++ (wsL_law_r2 ++ (wsL_law_r3 ++ (wsL_law_r4 ++ (wsL_law_r5 ++ (wsL_law_r6 ++ (wsL_law_r7 ++ (wsL_law_r8 ++ (wsL_law_r9 ++ (wsL_law_r10 ++ (wsL_law_r11 ++ (wsL_law_r12 ++ (wsL_law_r13 ++ (wsL_law_r14 ++ (wsL_law_r15 ++ (wsL_law_r16 ++ (wsL_law_r17 ++ (wsL_law_r18 ++ (wsL_law_r19 ++ (wsL_law_r20 ++ (wsL_law_r21 ++ (wsL_law_r22 ++ (wsL_law_r23 ++ (wsL_law_r24 ++ (wsL_law_r25 ++ (wsL_law_r26 ++ (wsL_law_r27 ++ (wsL_law_r28 ++ wsL_law_r29)))))))))))))))))))))))))))) ++ wsX70 ++ wsX80 ++ wsX00 ++ wsX30 ++ wsX10 ++ wsX60 ++ wsX40 ++ wsX20 ++ wsX50 ++ ([] : List Cond)
abbrev vwCl : List vw_C := [(RX0, TX0, 8), (RX1, TX1, 6), (RX2, TX2, 2), (RX3, TX3, 6), (RX4, TX4, 2), (RX5, TX5, 7), (RX6, TX6, 2), (RX7, TX7, 9), (RX8, TX8, 42)]
end
section
set_option maxRecDepth 20000 in
theorem in_wsL_law_r1 : ∀ w ∈ wsL_law_r1, w ∈ lw_tbl := fun w h => (goodIn_r wsL_law_r1 [53, 54, 41, 580, 581, 49, 55, 56, 57, 58, 59, 60, 61, 62, 42, 247, 112, 113, 44, 248, 149, 150, 45, 249] (by decide +kernel) (by decide +kernel) w h).1
set_option maxRecDepth 20000 in
theorem in_wsL_law_r2 : ∀ w ∈ wsL_law_r2, w ∈ lw_tbl := fun w h => (goodIn_r wsL_law_r2 [180, 181, 46, 250, 232, 233, 48, 251, 252, 253, 254, 255, 64, 65, 66, 82, 83, 85, 67, 68, 43, 87, 89, 91] (by decide +kernel) (by decide +kernel) w h).1
set_option maxRecDepth 20000 in
theorem in_wsL_law_r3 : ∀ w ∈ wsL_law_r3, w ∈ lw_tbl := fun w h => (goodIn_r wsL_law_r3 [92, 93, 94, 70, 71, 72, 73, 75, 76, 115, 116, 117, 118, 120, 122, 148, 125, 128, 130, 133, 152, 153, 154, 155] (by decide +kernel) (by decide +kernel) w h).1
set_option maxRecDepth 20000 in
theorem in_wsL_law_r4 : ∀ w ∈ wsL_law_r4, w ∈ lw_tbl := fun w h => (goodIn_r wsL_law_r4 [156, 159, 161, 163, 165, 182, 183, 184, 185, 186, 221, 224, 188, 47, 190, 191, 192, 193, 194, 197, 198, 199, 202, 204] (by decide +kernel) (by decide +kernel) w h).1
set_option maxRecDepth 20000 in
theorem in_wsL_law_r5 : ∀ w ∈ wsL_law_r5, w ∈ lw_tbl := fun w h => (goodIn_r wsL_law_r5 [235, 236, 237, 238, 240, 582, 583, 584, 585, 587, 590, 591, 592, 593, 594, 595, 596, 597, 598, 600, 602, 603, 604, 605] (by decide +kernel) (by decide +kernel) w h).1
set_option maxRecDepth 20000 in
theorem in_wsL_law_r6 : ∀ w ∈ wsL_law_r6, w ∈ lw_tbl := fun w h => (goodIn_r wsL_law_r6 [607, 608, 609, 610, 611, 612, 613, 615, 618, 619, 620, 621, 624, 625, 626, 275, 276, 277, 278, 279, 280, 281, 282, 713] (by decide +kernel) (by decide +kernel) w h).1
set_option maxRecDepth 20000 in
theorem in_wsL_law_r7 : ∀ w ∈ wsL_law_r7, w ∈ lw_tbl := fun w h => (goodIn_r wsL_law_r7 [714, 715, 716, 586, 717, 718, 719, 283, 284, 285, 286, 86, 720, 721, 722, 723, 287, 288, 289, 290, 291, 292, 293, 294] (by decide +kernel) (by decide +kernel) w h).1
set_option maxRecDepth 20000 in
theorem in_wsL_law_r8 : ∀ w ∈ wsL_law_r8, w ∈ lw_tbl := fun w h => (goodIn_r wsL_law_r8 [295, 296, 297, 298, 299, 300, 50, 301, 302, 304, 0, 305, 306, 308, 1, 309, 310, 312, 2, 313, 314, 316, 3, 317] (by decide +kernel) (by decide +kernel) w h).1
set_option maxRecDepth 20000 in
theorem in_wsL_law_r9 : ∀ w ∈ wsL_law_r9, w ∈ lw_tbl := fun w h => (goodIn_r wsL_law_r9 [318, 320, 4, 321, 322, 323, 324, 325, 326, 328, 5, 329, 330, 331, 332, 333, 334, 336, 6, 337, 338, 339, 340, 341] (by decide +kernel) (by decide +kernel) w h).1
set_option maxRecDepth 20000 in
theorem in_wsL_law_r10 : ∀ w ∈ wsL_law_r10, w ∈ lw_tbl := fun w h => (goodIn_r wsL_law_r10 [724, 725, 726, 727, 622, 728, 730, 19, 731, 616, 617, 623, 732, 734, 20, 735, 342, 343, 344, 345, 90, 88, 226, 241] (by decide +kernel) (by decide +kernel) w h).1
set_option maxRecDepth 20000 in
theorem in_wsL_law_r11 : ∀ w ∈ wsL_law_r11, w ∈ lw_tbl := fun w h => (goodIn_r wsL_law_r11 [124, 346, 347, 348, 349, 350, 351, 352, 353, 354, 355, 356, 357, 358, 359, 361, 360, 51, 362, 363, 364, 365, 366, 736] (by decide +kernel) (by decide +kernel) w h).1
set_option maxRecDepth 20000 in
theorem in_wsL_law_r12 : ∀ w ∈ wsL_law_r12, w ∈ lw_tbl := fun w h => (goodIn_r wsL_law_r12 [737, 738, 739, 588, 589, 601, 606, 614, 740, 742, 21, 743, 599, 367, 368, 369, 370, 164, 744, 745, 746, 747, 371, 372] (by decide +kernel) (by decide +kernel) w h).1
set_option maxRecDepth 20000 in
theorem in_wsL_law_r13 : ∀ w ∈ wsL_law_r13, w ∈ lw_tbl := fun w h => (goodIn_r wsL_law_r13 [373, 374, 166, 748, 749, 750, 751, 375, 376, 377, 378, 752, 753, 754, 755, 379, 380, 381, 382, 756, 757, 758, 759, 383] (by decide +kernel) (by decide +kernel) w h).1
set_option maxRecDepth 20000 in
theorem in_wsL_law_r14 : ∀ w ∈ wsL_law_r14, w ∈ lw_tbl := fun w h => (goodIn_r wsL_law_r14 [384, 385, 386, 127, 129, 387, 388, 389, 390, 760, 761, 762, 763, 764, 766, 22, 767, 391, 392, 393, 394, 395, 396, 397] (by decide +kernel) (by decide +kernel) w h).1
set_option maxRecDepth 20000 in
theorem in_wsL_law_r15 : ∀ w ∈ wsL_law_r15, w ∈ lw_tbl := fun w h => (goodIn_r wsL_law_r15 [398, 399, 400, 401, 402, 123, 403, 404, 406, 7, 407, 131, 408, 409, 52, 410, 411, 413, 8, 414, 126, 121, 415, 417] (by decide +kernel) (by decide +kernel) w h).1
set_option maxRecDepth 20000 in
theorem in_wsL_law_r16 : ∀ w ∈ wsL_law_r16, w ∈ lw_tbl := fun w h => (goodIn_r wsL_law_r16 [9, 418, 419, 421, 10, 422, 423, 424, 425, 426, 427, 429, 11, 430, 431, 432, 433, 434, 768, 769, 770, 771, 772, 774] (by decide +kernel) (by decide +kernel) w h).1
set_option maxRecDepth 20000 in
theorem in_wsL_law_r17 : ∀ w ∈ wsL_law_r17, w ∈ lw_tbl := fun w h => (goodIn_r wsL_law_r17 [23, 775, 776, 778, 24, 779, 780, 782, 25, 783, 784, 786, 26, 787, 788, 790, 27, 791, 435, 436, 437, 438, 158, 792] (by decide +kernel) (by decide +kernel) w h).1
set_option maxRecDepth 20000 in
theorem in_wsL_law_r18 : ∀ w ∈ wsL_law_r18, w ∈ lw_tbl := fun w h => (goodIn_r wsL_law_r18 [793, 794, 795, 439, 440, 441, 442, 160, 796, 797, 798, 799, 800, 802, 28, 803, 443, 444, 445, 446, 162, 804, 805, 806] (by decide +kernel) (by decide +kernel) w h).1
set_option maxRecDepth 20000 in
theorem in_wsL_law_r19 : ∀ w ∈ wsL_law_r19, w ∈ lw_tbl := fun w h => (goodIn_r wsL_law_r19 [807, 447, 448, 449, 450, 451, 452, 453, 454, 455, 456, 457, 458, 808, 809, 810, 811, 459, 460, 461, 462, 463, 464, 465] (by decide +kernel) (by decide +kernel) w h).1
end
section
set_option maxRecDepth 20000 in
theorem in_wsL_law_r20 : ∀ w ∈ wsL_law_r20, w ∈ lw_tbl := fun w h => (goodIn_r wsL_law_r20 [466, 467, 468, 469, 470, 812, 813, 814, 815, 816, 818, 29, 819, 471, 472, 473, 474, 223, 201, 820, 821, 822, 823, 475] (by decide +kernel) (by decide +kernel) w h).1
set_option maxRecDepth 20000 in
theorem in_wsL_law_r21 : ∀ w ∈ wsL_law_r21, w ∈ lw_tbl := fun w h => (goodIn_r wsL_law_r21 [476, 477, 478, 203, 824, 825, 826, 827, 479, 480, 481, 482, 205, 828, 829, 830, 831, 483, 484, 485, 486, 487, 489, 12] (by decide +kernel) (by decide +kernel) w h).1
set_option maxRecDepth 20000 in
theorem in_wsL_law_r22 : ∀ w ∈ wsL_law_r22, w ∈ lw_tbl := fun w h => (goodIn_r wsL_law_r22 [490, 491, 492, 493, 494, 495, 496, 497, 498, 499, 500, 501, 502, 225, 222, 200, 511, 512, 513, 503, 505, 13, 506, 507] (by decide +kernel) (by decide +kernel) w h).1
set_option maxRecDepth 20000 in
theorem in_wsL_law_r23 : ∀ w ∈ wsL_law_r23, w ∈ lw_tbl := fun w h => (goodIn_r wsL_law_r23 [508, 509, 510, 514, 515, 516, 517, 157, 518, 520, 14, 521, 239, 134, 196, 522, 523, 524, 525, 526, 527, 528, 529, 530] (by decide +kernel) (by decide +kernel) w h).1
set_option maxRecDepth 20000 in
theorem in_wsL_law_r24 : ∀ w ∈ wsL_law_r24, w ∈ lw_tbl := fun w h => (goodIn_r wsL_law_r24 [532, 15, 533, 832, 833, 834, 835, 836, 838, 30, 839, 840, 842, 31, 843, 844, 846, 32, 847, 848, 850, 33, 851, 852] (by decide +kernel) (by decide +kernel) w h).1
set_option maxRecDepth 20000 in
theorem in_wsL_law_r25 : ∀ w ∈ wsL_law_r25, w ∈ lw_tbl := fun w h => (goodIn_r wsL_law_r25 [854, 34, 855, 856, 858, 35, 859, 860, 862, 36, 863, 864, 866, 37, 867, 534, 535, 536, 537, 868, 869, 870, 871, 538] (by decide +kernel) (by decide +kernel) w h).1
set_option maxRecDepth 20000 in
theorem in_wsL_law_r26 : ∀ w ∈ wsL_law_r26, w ∈ lw_tbl := fun w h => (goodIn_r wsL_law_r26 [539, 540, 541, 542, 543, 544, 545, 546, 548, 16, 549, 195, 872, 873, 874, 875, 876, 878, 38, 879, 550, 551, 552, 553] (by decide +kernel) (by decide +kernel) w h).1
set_option maxRecDepth 20000 in
theorem in_wsL_law_r27 : ∀ w ∈ wsL_law_r27, w ∈ lw_tbl := fun w h => (goodIn_r wsL_law_r27 [880, 881, 882, 883, 554, 555, 556, 557, 884, 885, 886, 887, 558, 559, 560, 561, 132, 888, 889, 890, 891, 562, 563, 564] (by decide +kernel) (by decide +kernel) w h).1
set_option maxRecDepth 20000 in
theorem in_wsL_law_r28 : ∀ w ∈ wsL_law_r28, w ∈ lw_tbl := fun w h => (goodIn_r wsL_law_r28 [565, 892, 893, 894, 895, 566, 567, 568, 569, 570, 575, 84, 571, 573, 17, 574, 576, 578, 18, 579, 896, 897, 898, 899] (by decide +kernel) (by decide +kernel) w h).1
set_option maxRecDepth 20000 in
theorem in_wsL_law_r29 : ∀ w ∈ wsL_law_r29, w ∈ lw_tbl := fun w h => (goodIn_r wsL_law_r29 [900, 627, 901, 903, 39, 904, 905, 906] (by decide +kernel) (by decide +kernel) w h).1
set_option maxRecDepth 20000 in
theorem in_wsX70 : ∀ w ∈ wsX70, w ∈ lw_tbl := fun w h => (goodIn_r wsX70 [256, 258, 260, 262, 264, 266, 268, 270, 272] (by decide +kernel) (by decide +kernel) w h).1
set_option maxRecDepth 20000 in
theorem in_wsX80 : ∀ w ∈ wsX80, w ∈ lw_tbl := fun w h => (goodIn_r wsX80 [628, 630, 632, 634, 636, 638, 640, 642, 644, 646, 648, 650, 652, 654, 656, 658, 660, 662, 664, 666, 668, 670, 672, 674, 676, 678, 680, 682, 684, 686, 688, 690, 692, 694, 696, 698, 700, 702, 704, 706, 708, 710] (by decide +kernel) (by decide +kernel) w h).1
set_option maxRecDepth 20000 in
theorem in_wsX00 : ∀ w ∈ wsX00, w ∈ lw_tbl := fun w h => (goodIn_r wsX00 [95, 97, 99, 101, 103, 105, 107, 109] (by decide +kernel) (by decide +kernel) w h).1
set_option maxRecDepth 20000 in
theorem in_wsX30 : ∀ w ∈ wsX30, w ∈ lw_tbl := fun w h => (goodIn_r wsX30 [135, 137, 139, 141, 143, 145] (by decide +kernel) (by decide +kernel) w h).1
set_option maxRecDepth 20000 in
theorem in_wsX10 : ∀ w ∈ wsX10, w ∈ lw_tbl := fun w h => (goodIn_r wsX10 [167, 169, 171, 173, 175, 177] (by decide +kernel) (by decide +kernel) w h).1
set_option maxRecDepth 20000 in
theorem in_wsX60 : ∀ w ∈ wsX60, w ∈ lw_tbl := fun w h => (goodIn_r wsX60 [227, 229] (by decide +kernel) (by decide +kernel) w h).1
set_option maxRecDepth 20000 in
theorem in_wsX40 : ∀ w ∈ wsX40, w ∈ lw_tbl := fun w h => (goodIn_r wsX40 [242, 244] (by decide +kernel) (by decide +kernel) w h).1
set_option maxRecDepth 20000 in
theorem in_wsX20 : ∀ w ∈ wsX20, w ∈ lw_tbl := fun w h => (goodIn_r wsX20 [77, 79] (by decide +kernel) (by decide +kernel) w h).1
set_option maxRecDepth 20000 in
theorem in_wsX50 : ∀ w ∈ wsX50, w ∈ lw_tbl := fun w h => (goodIn_r wsX50 [206, 208, 210, 212, 214, 216, 218] (by decide +kernel) (by decide +kernel) w h).1
set_option maxRecDepth 20000 in
theorem wsL_law_in : ∀ w ∈ wsL_law, w ∈ lw_tbl := (List.forall_mem_append.mpr ⟨(List.forall_mem_append.mpr ⟨(List.forall_mem_append.mpr ⟨(List.forall_mem_append.mpr ⟨(List.forall_mem_append.mpr ⟨(List.forall_mem_append.mpr ⟨(List.forall_mem_append.mpr ⟨(List.forall_mem_append.mpr ⟨(List.forall_mem_append.mpr ⟨(List.forall_mem_append.mpr ⟨(List.forall_mem_append.mpr ⟨in_wsL_law_r1, (List.forall_mem_append.mpr ⟨in_wsL_law_r2, (List.forall_mem_append.mpr ⟨in_wsL_law_r3, (List.forall_mem_append.mpr ⟨in_wsL_law_r4, (List.forall_mem_append.mpr ⟨in_wsL_law_r5, (List.forall_mem_append.mpr ⟨in_wsL_law_r6, (List.forall_mem_append.mpr ⟨in_wsL_law_r7, (List.forall_mem_append.mpr ⟨in_wsL_law_r8, (List.forall_mem_append.mpr ⟨in_wsL_law_r9, (List.forall_mem_append.mpr ⟨in_wsL_law_r10, (List.forall_mem_append.mpr ⟨in_wsL_law_r11, (List.forall_mem_append.mpr ⟨in_wsL_law_r12, (List.forall_mem_append.mpr ⟨in_wsL_law_r13, (List.forall_mem_append.mpr ⟨in_wsL_law_r14, (List.forall_mem_append.mpr ⟨in_wsL_law_r15, (List.forall_mem_append.mpr ⟨in_wsL_law_r16, (List.forall_mem_append.mpr ⟨in_wsL_law_r17, (List.forall_mem_append.mpr ⟨in_wsL_law_r18, (List.forall_mem_append.mpr ⟨in_wsL_law_r19, (List.forall_mem_append.mpr ⟨in_wsL_law_r20, (List.forall_mem_append.mpr ⟨in_wsL_law_r21, (List.forall_mem_append.mpr ⟨in_wsL_law_r22, (List.forall_mem_append.mpr ⟨in_wsL_law_r23, (List.forall_mem_append.mpr ⟨in_wsL_law_r24, (List.forall_mem_append.mpr ⟨in_wsL_law_r25, (List.forall_mem_append.mpr ⟨in_wsL_law_r26, (List.forall_mem_append.mpr ⟨in_wsL_law_r27, (List.forall_mem_append.mpr ⟨in_wsL_law_r28, in_wsL_law_r29⟩)⟩)⟩)⟩)⟩)⟩)⟩)⟩)⟩)⟩)⟩)⟩)⟩)⟩)⟩)⟩)⟩)⟩)⟩)⟩)⟩)⟩)⟩)⟩)⟩)⟩)⟩)⟩), in_wsX70⟩), in_wsX80⟩), in_wsX00⟩), in_wsX30⟩), in_wsX10⟩), in_wsX60⟩), in_wsX40⟩), in_wsX20⟩), in_wsX50⟩), (fun _ h => absurd h List.not_mem_nil)⟩)
end
section
theorem inlX0 : ∀ w ∈ wsX00, w ∈ wsL_law := fun _ h => List.mem_append_left _ (List.mem_append_left _ (List.mem_append_left _ (List.mem_append_left _ (List.mem_append_left _ (List.mem_append_left _ (List.mem_append_left _ (List.mem_append_right _ h)))))))
theorem inX0 : ∀ w ∈ wsX00, w ∈ lw_tbl := fun w h => wsL_law_in w (inlX0 w h)
theorem inlX1 : ∀ w ∈ wsX10, w ∈ wsL_law := fun _ h => List.mem_append_left _ (List.mem_append_left _ (List.mem_append_left _ (List.mem_append_left _ (List.mem_append_left _ (List.mem_append_right _ h)))))
theorem inX1 : ∀ w ∈ wsX10, w ∈ lw_tbl := fun w h => wsL_law_in w (inlX1 w h)
theorem inlX2 : ∀ w ∈ wsX20, w ∈ wsL_law := fun _ h => List.mem_append_left _ (List.mem_append_left _ (List.mem_append_right _ h))
theorem inX2 : ∀ w ∈ wsX20, w ∈ lw_tbl := fun w h => wsL_law_in w (inlX2 w h)
theorem inlX3 : ∀ w ∈ wsX30, w ∈ wsL_law := fun _ h => List.mem_append_left _ (List.mem_append_left _ (List.mem_append_left _ (List.mem_append_left _ (List.mem_append_left _ (List.mem_append_left _ (List.mem_append_right _ h))))))
theorem inX3 : ∀ w ∈ wsX30, w ∈ lw_tbl := fun w h => wsL_law_in w (inlX3 w h)
theorem inlX4 : ∀ w ∈ wsX40, w ∈ wsL_law := fun _ h => List.mem_append_left _ (List.mem_append_left _ (List.mem_append_left _ (List.mem_append_right _ h)))
theorem inX4 : ∀ w ∈ wsX40, w ∈ lw_tbl := fun w h => wsL_law_in w (inlX4 w h)
theorem inlX5 : ∀ w ∈ wsX50, w ∈ wsL_law := fun _ h => List.mem_append_left _ (List.mem_append_right _ h)
theorem inX5 : ∀ w ∈ wsX50, w ∈ lw_tbl := fun w h => wsL_law_in w (inlX5 w h)
theorem inlX6 : ∀ w ∈ wsX60, w ∈ wsL_law := fun _ h => List.mem_append_left _ (List.mem_append_left _ (List.mem_append_left _ (List.mem_append_left _ (List.mem_append_right _ h))))
theorem inX6 : ∀ w ∈ wsX60, w ∈ lw_tbl := fun w h => wsL_law_in w (inlX6 w h)
theorem inlX7 : ∀ w ∈ wsX70, w ∈ wsL_law := fun _ h => List.mem_append_left _ (List.mem_append_left _ (List.mem_append_left _ (List.mem_append_left _ (List.mem_append_left _ (List.mem_append_left _ (List.mem_append_left _ (List.mem_append_left _ (List.mem_append_left _ (List.mem_append_right _ h)))))))))
theorem inX7 : ∀ w ∈ wsX70, w ∈ lw_tbl := fun w h => wsL_law_in w (inlX7 w h)
theorem inlX8 : ∀ w ∈ wsX80, w ∈ wsL_law := fun _ h => List.mem_append_left _ (List.mem_append_left _ (List.mem_append_left _ (List.mem_append_left _ (List.mem_append_left _ (List.mem_append_left _ (List.mem_append_left _ (List.mem_append_left _ (List.mem_append_right _ h))))))))
theorem inX8 : ∀ w ∈ wsX80, w ∈ lw_tbl := fun w h => wsL_law_in w (inlX8 w h)
theorem inJ9 : ∀ w ∈ wsJ90, w ∈ lw_tbl := by decide +kernel
theorem inJ10 : ∀ w ∈ wsJ100, w ∈ lw_tbl := by decide +kernel
theorem inJ7 : ∀ w ∈ wsJ70, w ∈ lw_tbl := by decide +kernel
set_option maxRecDepth 20000 in
theorem ggX0_init_X2_init : GoodIn wsX0_init wsX2_init := goodIn_r _ [17, 18, 2, 3, 19, 4, 20, 21, 30, 31] (by decide +kernel) (by decide +kernel)
set_option maxRecDepth 20000 in
theorem gX0_init_X2_init_n21 : GoodIn wsX0_init (wsX2_init) := ggX0_init_X2_init
theorem dX0_init_0 : decode cX0_init 0 = .ok (.aload_n 0, 1) := by decide +kernel
theorem dX0_init_1 : decode cX0_init 1 = .ok (.invokespecial 3, 3) := by decide +kernel
theorem dX0_init_4 : decode cX0_init 4 = .ok (.aload_n 0, 1) := by decide +kernel
theorem dX0_init_5 : decode cX0_init 5 = .ok (.bipush 61, 2) := by decide +kernel
theorem dX0_init_7 : decode cX0_init 7 = .ok (.newarray .int, 2) := by decide +kernel
theorem dX0_init_9 : decode cX0_init 9 = .ok (.putfield 9, 3) := by decide +kernel
theorem dX0_init_12 : decode cX0_init 12 = .ok (.aload_n 0, 1) := by decide +kernel
theorem dX0_init_13 : decode cX0_init 13 = .ok (.iconst 0, 1) := by decide +kernel
theorem dX0_init_14 : decode cX0_init 14 = .ok (.putfield 15, 3) := by decide +kernel
theorem dX0_init_17 : decode cX0_init 17 = .ok (.aload_n 0, 1) := by decide +kernel
theorem dX0_init_18 : decode cX0_init 18 = .ok (.new 19, 3) := by decide +kernel
theorem dX0_init_21 : decode cX0_init 21 = .ok (.dup, 1) := by decide +kernel
theorem dX0_init_22 : decode cX0_init 22 = .ok (.invokespecial 21, 3) := by decide +kernel
theorem dX0_init_25 : decode cX0_init 25 = .ok (.putfield 22, 3) := by decide +kernel
theorem dX0_init_28 : decode cX0_init 28 = .ok (.aload_n 0, 1) := by decide +kernel
theorem dX0_init_29 : decode cX0_init 29 = .ok (.iconst 0, 1) := by decide +kernel
theorem dX0_init_30 : decode cX0_init 30 = .ok (.putfield 26, 3) := by decide +kernel
theorem dX0_init_33 : decode cX0_init 33 = .ok (.aload_n 0, 1) := by decide +kernel
theorem dX0_init_34 : decode cX0_init 34 = .ok (.iconst 0, 1) := by decide +kernel
theorem dX0_init_35 : decode cX0_init 35 = .ok (.putfield 29, 3) := by decide +kernel
theorem dX0_init_38 : decode cX0_init 38 = .ok (.aload_n 0, 1) := by decide +kernel
theorem dX0_init_39 : decode cX0_init 39 = .ok (.iconst 0, 1) := by decide +kernel
theorem dX0_init_40 : decode cX0_init 40 = .ok (.putfield 32, 3) := by decide +kernel
theorem dX0_init_43 : decode cX0_init 43 = .ok (.aload_n 0, 1) := by decide +kernel
theorem dX0_init_44 : decode cX0_init 44 = .ok (.iconst 0, 1) := by decide +kernel
theorem dX0_init_45 : decode cX0_init 45 = .ok (.putfield 35, 3) := by decide +kernel
theorem dX0_init_48 : decode cX0_init 48 = .ok (.aload_n 0, 1) := by decide +kernel
theorem dX0_init_49 : decode cX0_init 49 = .ok (.iconst 0, 1) := by decide +kernel
theorem dX0_init_50 : decode cX0_init 50 = .ok (.putfield 38, 3) := by decide +kernel
theorem dX0_init_53 : decode cX0_init 53 = .ok (.return_, 1) := by decide +kernel
theorem dX0_add_0 : decode cX0_add 0 = .ok (.aload_n 0, 1) := by decide +kernel
theorem dX0_add_1 : decode cX0_add 1 = .ok (.getfield 15, 3) := by decide +kernel
theorem dX0_add_4 : decode cX0_add 4 = .ok (.bipush 61, 2) := by decide +kernel
theorem dX0_add_6 : decode cX0_add 6 = .ok (.if_icmp .lt 7, 3) := by decide +kernel
theorem dX0_add_9 : decode cX0_add 9 = .ok (.sipush (-1004), 3) := by decide +kernel
theorem dX0_add_12 : decode cX0_add 12 = .ok (.ireturn, 1) := by decide +kernel
theorem dX0_add_13 : decode cX0_add 13 = .ok (.aload_n 0, 1) := by decide +kernel
theorem dX0_add_14 : decode cX0_add 14 = .ok (.getfield 9, 3) := by decide +kernel
theorem dX0_add_17 : decode cX0_add 17 = .ok (.aload_n 0, 1) := by decide +kernel
theorem dX0_add_18 : decode cX0_add 18 = .ok (.getfield 15, 3) := by decide +kernel
theorem dX0_add_21 : decode cX0_add 21 = .ok (.iload_n 1, 1) := by decide +kernel
theorem dX0_add_22 : decode cX0_add 22 = .ok (.iastore, 1) := by decide +kernel
theorem dX0_add_23 : decode cX0_add 23 = .ok (.aload_n 0, 1) := by decide +kernel
theorem dX0_add_24 : decode cX0_add 24 = .ok (.dup, 1) := by decide +kernel
theorem dX0_add_25 : decode cX0_add 25 = .ok (.getfield 15, 3) := by decide +kernel
theorem dX0_add_28 : decode cX0_add 28 = .ok (.iconst 1, 1) := by decide +kernel
theorem dX0_add_29 : decode cX0_add 29 = .ok (.iadd, 1) := by decide +kernel
theorem dX0_add_30 : decode cX0_add 30 = .ok (.putfield 15, 3) := by decide +kernel
theorem dX0_add_33 : decode cX0_add 33 = .ok (.aload_n 0, 1) := by decide +kernel
theorem dX0_add_34 : decode cX0_add 34 = .ok (.getfield 15, 3) := by decide +kernel
theorem dX0_add_37 : decode cX0_add 37 = .ok (.ireturn, 1) := by decide +kernel
set_option maxRecDepth 20000 in
theorem ggX0_isComplete_X0_findError : GoodIn wsX0_isComplete wsX0_findError := goodIn_r _ [7, 8, 9, 2, 1, 10, 11, 12, 13, 14, 15, 16, 17, 18, 19, 20, 21, 22, 23, 24, 6, 25, 26, 27, 28, 29, 30, 31, 32, 33, 34, 35, 36, 37, 38, 39, 40, 41, 42, 43, 44, 45, 46, 47, 48, 49, 50, 51, 52, 53, 54, 55, 56, 57, 58, 59, 60, 61, 62, 63, 64, 65, 66, 67, 68, 69, 70, 71, 72, 73, 74] (by decide +kernel) (by decide +kernel)
set_option maxRecDepth 20000 in
theorem gX0_isComplete_X0_findError : GoodIn wsX0_isComplete (wsV RX0 41 RX0 yX0_findError wsX0_findError) := goodIn_app (goodIn_of _ (by decide +kernel)) ggX0_isComplete_X0_findError
theorem dX0_isComplete_0 : decode cX0_isComplete 0 = .ok (.aload_n 0, 1) := by decide +kernel
theorem dX0_isComplete_1 : decode cX0_isComplete 1 = .ok (.invokevirtual 41, 3) := by decide +kernel
theorem dX0_isComplete_4 : decode cX0_isComplete 4 = .ok (.aload_n 0, 1) := by decide +kernel
theorem dX0_isComplete_5 : decode cX0_isComplete 5 = .ok (.getfield 15, 3) := by decide +kernel
theorem dX0_isComplete_8 : decode cX0_isComplete 8 = .ok (.if_icmp .ne 23, 3) := by decide +kernel
theorem dX0_isComplete_11 : decode cX0_isComplete 11 = .ok (.aload_n 0, 1) := by decide +kernel
theorem dX0_isComplete_12 : decode cX0_isComplete 12 = .ok (.getfield 32, 3) := by decide +kernel
theorem dX0_isComplete_15 : decode cX0_isComplete 15 = .ok (.iconst 1, 1) := by decide +kernel
theorem dX0_isComplete_16 : decode cX0_isComplete 16 = .ok (.if_icmp .eq 11, 3) := by decide +kernel
theorem dX0_isComplete_19 : decode cX0_isComplete 19 = .ok (.aload_n 0, 1) := by decide +kernel
theorem dX0_isComplete_20 : decode cX0_isComplete 20 = .ok (.getfield 32, 3) := by decide +kernel
theorem dX0_isComplete_23 : decode cX0_isComplete 23 = .ok (.iconst 5, 1) := by decide +kernel
theorem dX0_isComplete_24 : decode cX0_isComplete 24 = .ok (.if_icmp .ne 7, 3) := by decide +kernel
theorem dX0_isComplete_27 : decode cX0_isComplete 27 = .ok (.iconst 1, 1) := by decide +kernel
theorem dX0_isComplete_28 : decode cX0_isComplete 28 = .ok (.goto 4, 3) := by decide +kernel
theorem dX0_isComplete_31 : decode cX0_isComplete 31 = .ok (.iconst 0, 1) := by decide +kernel
theorem dX0_isComplete_32 : decode cX0_isComplete 32 = .ok (.ireturn, 1) := by decide +kernel
set_option maxRecDepth 20000 in
theorem ggX0_findError_X2_clear : GoodIn wsX0_findError wsX2_clear := goodIn_r _ [10, 11, 12, 13, 14, 15, 16, 69, 70] (by decide +kernel) (by decide +kernel)
set_option maxRecDepth 20000 in
theorem gX0_findError_X2_clear : GoodIn wsX0_findError (wsV RX0 45 RX2 yX2_clear wsX2_clear) := goodIn_app (goodIn_of _ (by decide +kernel)) ggX0_findError_X2_clear
set_option maxRecDepth 20000 in
theorem ggX0_findError_X0_accepts : GoodIn wsX0_findError wsX0_accepts := goodIn_r _ [21, 3, 22, 23, 24, 20, 25, 26, 27, 28, 29, 30, 2, 31, 32, 33, 34, 35, 36, 37, 38, 39, 1, 40, 41, 42, 43, 9, 44, 11, 45, 46, 47, 48, 49, 50, 51, 52, 53, 54, 55, 56, 57, 58, 59, 60, 12, 61, 62, 63, 64, 65, 66, 67, 68, 69, 70] (by decide +kernel) (by decide +kernel)
set_option maxRecDepth 20000 in
theorem gX0_findError_X0_accepts : GoodIn wsX0_findError (wsV RX0 48 RX0 yX0_accepts wsX0_accepts) := goodIn_app (goodIn_of _ (by decide +kernel)) ggX0_findError_X0_accepts
theorem dX0_findError_0 : decode cX0_findError 0 = .ok (.aload_n 0, 1) := by decide +kernel
theorem dX0_findError_1 : decode cX0_findError 1 = .ok (.getfield 22, 3) := by decide +kernel
theorem dX0_findError_4 : decode cX0_findError 4 = .ok (.invokevirtual 45, 3) := by decide +kernel
theorem dX0_findError_7 : decode cX0_findError 7 = .ok (.aload_n 0, 1) := by decide +kernel
theorem dX0_findError_8 : decode cX0_findError 8 = .ok (.iconst 0, 1) := by decide +kernel
theorem dX0_findError_9 : decode cX0_findError 9 = .ok (.putfield 29, 3) := by decide +kernel
theorem dX0_findError_12 : decode cX0_findError 12 = .ok (.aload_n 0, 1) := by decide +kernel
theorem dX0_findError_13 : decode cX0_findError 13 = .ok (.iconst 0, 1) := by decide +kernel
theorem dX0_findError_14 : decode cX0_findError 14 = .ok (.putfield 32, 3) := by decide +kernel
theorem dX0_findError_17 : decode cX0_findError 17 = .ok (.iconst 0, 1) := by decide +kernel
theorem dX0_findError_18 : decode cX0_findError 18 = .ok (.istore_n 1, 1) := by decide +kernel
theorem dX0_findError_19 : decode cX0_findError 19 = .ok (.iload_n 1, 1) := by decide +kernel
theorem dX0_findError_20 : decode cX0_findError 20 = .ok (.aload_n 0, 1) := by decide +kernel
theorem dX0_findError_21 : decode cX0_findError 21 = .ok (.getfield 15, 3) := by decide +kernel
theorem dX0_findError_24 : decode cX0_findError 24 = .ok (.if_icmp .ge 24, 3) := by decide +kernel
theorem dX0_findError_27 : decode cX0_findError 27 = .ok (.aload_n 0, 1) := by decide +kernel
theorem dX0_findError_28 : decode cX0_findError 28 = .ok (.aload_n 0, 1) := by decide +kernel
theorem dX0_findError_29 : decode cX0_findError 29 = .ok (.getfield 9, 3) := by decide +kernel
theorem dX0_findError_32 : decode cX0_findError 32 = .ok (.iload_n 1, 1) := by decide +kernel
theorem dX0_findError_33 : decode cX0_findError 33 = .ok (.iaload, 1) := by decide +kernel
theorem dX0_findError_34 : decode cX0_findError 34 = .ok (.invokevirtual 48, 3) := by decide +kernel
theorem dX0_findError_37 : decode cX0_findError 37 = .ok (.ifCond .ne 5, 3) := by decide +kernel
theorem dX0_findError_40 : decode cX0_findError 40 = .ok (.iload_n 1, 1) := by decide +kernel
theorem dX0_findError_41 : decode cX0_findError 41 = .ok (.ireturn, 1) := by decide +kernel
theorem dX0_findError_42 : decode cX0_findError 42 = .ok (.iinc 1 1, 3) := by decide +kernel
theorem dX0_findError_45 : decode cX0_findError 45 = .ok (.goto (-26), 3) := by decide +kernel
theorem dX0_findError_48 : decode cX0_findError 48 = .ok (.aload_n 0, 1) := by decide +kernel
theorem dX0_findError_49 : decode cX0_findError 49 = .ok (.getfield 15, 3) := by decide +kernel
theorem dX0_findError_52 : decode cX0_findError 52 = .ok (.ireturn, 1) := by decide +kernel
set_option maxRecDepth 20000 in
theorem ggX0_accepts_X0_acceptsNodeCount : GoodIn wsX0_accepts wsX0_acceptsNodeCount := goodIn_r _ [6, 7, 1, 47, 48, 49, 50, 51, 52, 53, 54] (by decide +kernel) (by decide +kernel)
set_option maxRecDepth 20000 in
theorem gX0_accepts_X0_acceptsNodeCount : GoodIn wsX0_accepts (wsV RX0 52 RX0 yX0_acceptsNodeCount wsX0_acceptsNodeCount) := goodIn_app (goodIn_of _ (by decide +kernel)) ggX0_accepts_X0_acceptsNodeCount
set_option maxRecDepth 20000 in
theorem ggX0_accepts_X0_acceptsLinkMark : GoodIn wsX0_accepts wsX0_acceptsLinkMark := goodIn_r _ [11, 12, 1, 47, 48, 49, 50, 51, 52, 53, 54] (by decide +kernel) (by decide +kernel)
set_option maxRecDepth 20000 in
theorem gX0_accepts_X0_acceptsLinkMark : GoodIn wsX0_accepts (wsV RX0 55 RX0 yX0_acceptsLinkMark wsX0_acceptsLinkMark) := goodIn_app (goodIn_of _ (by decide +kernel)) ggX0_accepts_X0_acceptsLinkMark
set_option maxRecDepth 20000 in
theorem ggX0_accepts_X0_acceptsFirstNode : GoodIn wsX0_accepts wsX0_acceptsFirstNode := goodIn_r _ [16, 7, 17, 1, 47, 48, 49, 50, 51, 52, 53, 54] (by decide +kernel) (by decide +kernel)
set_option maxRecDepth 20000 in
theorem gX0_accepts_X0_acceptsFirstNode : GoodIn wsX0_accepts (wsV RX0 58 RX0 yX0_acceptsFirstNode wsX0_acceptsFirstNode) := goodIn_app (goodIn_of _ (by decide +kernel)) ggX0_accepts_X0_acceptsFirstNode
set_option maxRecDepth 20000 in
theorem ggX0_accepts_X0_acceptsSecondNode : GoodIn wsX0_accepts wsX0_acceptsSecondNode := goodIn_r _ [21, 17, 7, 22, 23, 1, 24, 25, 26, 27, 28, 29, 47, 48, 49, 50, 51, 52, 53, 54, 55, 56] (by decide +kernel) (by decide +kernel)
set_option maxRecDepth 20000 in
theorem gX0_accepts_X0_acceptsSecondNode : GoodIn wsX0_accepts (wsV RX0 61 RX0 yX0_acceptsSecondNode wsX0_acceptsSecondNode) := goodIn_app (goodIn_of _ (by decide +kernel)) ggX0_accepts_X0_acceptsSecondNode
set_option maxRecDepth 20000 in
theorem ggX0_accepts_X0_acceptsStrength : GoodIn wsX0_accepts wsX0_acceptsStrength := goodIn_r _ [33, 22, 17, 23, 1, 34, 35, 36, 27, 37, 29, 47, 48, 49, 50, 51, 52, 53, 54, 55, 56] (by decide +kernel) (by decide +kernel)
set_option maxRecDepth 20000 in
theorem gX0_accepts_X0_acceptsStrength : GoodIn wsX0_accepts (wsV RX0 64 RX0 yX0_acceptsStrength wsX0_acceptsStrength) := goodIn_app (goodIn_of _ (by decide +kernel)) ggX0_accepts_X0_acceptsStrength
set_option maxRecDepth 20000 in
theorem ggX0_accepts_X0_acceptsLossPeriod : GoodIn wsX0_accepts wsX0_acceptsLossPeriod := goodIn_r _ [41, 22, 17, 23, 1, 42, 43, 44, 27, 45, 46, 47, 48, 49, 50, 51, 52, 53, 54, 55, 56] (by decide +kernel) (by decide +kernel)
set_option maxRecDepth 20000 in
theorem gX0_accepts_X0_acceptsLossPeriod : GoodIn wsX0_accepts (wsV RX0 67 RX0 yX0_acceptsLossPeriod wsX0_acceptsLossPeriod) := goodIn_app (goodIn_of _ (by decide +kernel)) ggX0_accepts_X0_acceptsLossPeriod
theorem dX0_accepts_0 : decode cX0_accepts 0 = .ok (.aload_n 0, 1) := by decide +kernel
theorem dX0_accepts_1 : decode cX0_accepts 1 = .ok (.getfield 32, 3) := by decide +kernel
theorem dX0_accepts_4 : decode cX0_accepts 4 = .ok (.tableswitch 78 0 4 #[36, 45, 51, 60, 69], 36) := by decide +kernel
theorem dX0_accepts_40 : decode cX0_accepts 40 = .ok (.aload_n 0, 1) := by decide +kernel
theorem dX0_accepts_41 : decode cX0_accepts 41 = .ok (.iload_n 1, 1) := by decide +kernel
theorem dX0_accepts_42 : decode cX0_accepts 42 = .ok (.bipush 48, 2) := by decide +kernel
theorem dX0_accepts_44 : decode cX0_accepts 44 = .ok (.isub, 1) := by decide +kernel
theorem dX0_accepts_45 : decode cX0_accepts 45 = .ok (.invokevirtual 52, 3) := by decide +kernel
theorem dX0_accepts_48 : decode cX0_accepts 48 = .ok (.ireturn, 1) := by decide +kernel
theorem dX0_accepts_49 : decode cX0_accepts 49 = .ok (.aload_n 0, 1) := by decide +kernel
theorem dX0_accepts_50 : decode cX0_accepts 50 = .ok (.iload_n 1, 1) := by decide +kernel
theorem dX0_accepts_51 : decode cX0_accepts 51 = .ok (.invokevirtual 55, 3) := by decide +kernel
theorem dX0_accepts_54 : decode cX0_accepts 54 = .ok (.ireturn, 1) := by decide +kernel
theorem dX0_accepts_55 : decode cX0_accepts 55 = .ok (.aload_n 0, 1) := by decide +kernel
theorem dX0_accepts_56 : decode cX0_accepts 56 = .ok (.iload_n 1, 1) := by decide +kernel
theorem dX0_accepts_57 : decode cX0_accepts 57 = .ok (.bipush 48, 2) := by decide +kernel
theorem dX0_accepts_59 : decode cX0_accepts 59 = .ok (.isub, 1) := by decide +kernel
theorem dX0_accepts_60 : decode cX0_accepts 60 = .ok (.invokevirtual 58, 3) := by decide +kernel
theorem dX0_accepts_63 : decode cX0_accepts 63 = .ok (.ireturn, 1) := by decide +kernel
theorem dX0_accepts_64 : decode cX0_accepts 64 = .ok (.aload_n 0, 1) := by decide +kernel
theorem dX0_accepts_65 : decode cX0_accepts 65 = .ok (.iload_n 1, 1) := by decide +kernel
theorem dX0_accepts_66 : decode cX0_accepts 66 = .ok (.bipush 48, 2) := by decide +kernel
theorem dX0_accepts_68 : decode cX0_accepts 68 = .ok (.isub, 1) := by decide +kernel
theorem dX0_accepts_69 : decode cX0_accepts 69 = .ok (.invokevirtual 61, 3) := by decide +kernel
theorem dX0_accepts_72 : decode cX0_accepts 72 = .ok (.ireturn, 1) := by decide +kernel
theorem dX0_accepts_73 : decode cX0_accepts 73 = .ok (.aload_n 0, 1) := by decide +kernel
theorem dX0_accepts_74 : decode cX0_accepts 74 = .ok (.iload_n 1, 1) := by decide +kernel
theorem dX0_accepts_75 : decode cX0_accepts 75 = .ok (.bipush 48, 2) := by decide +kernel
theorem dX0_accepts_77 : decode cX0_accepts 77 = .ok (.isub, 1) := by decide +kernel
theorem dX0_accepts_78 : decode cX0_accepts 78 = .ok (.invokevirtual 64, 3) := by decide +kernel
theorem dX0_accepts_81 : decode cX0_accepts 81 = .ok (.ireturn, 1) := by decide +kernel
theorem dX0_accepts_82 : decode cX0_accepts 82 = .ok (.aload_n 0, 1) := by decide +kernel
theorem dX0_accepts_83 : decode cX0_accepts 83 = .ok (.iload_n 1, 1) := by decide +kernel
theorem dX0_accepts_84 : decode cX0_accepts 84 = .ok (.bipush 48, 2) := by decide +kernel
theorem dX0_accepts_86 : decode cX0_accepts 86 = .ok (.isub, 1) := by decide +kernel
theorem dX0_accepts_87 : decode cX0_accepts 87 = .ok (.invokevirtual 67, 3) := by decide +kernel
theorem dX0_accepts_90 : decode cX0_accepts 90 = .ok (.ifCond .ne 11, 3) := by decide +kernel
theorem dX0_accepts_93 : decode cX0_accepts 93 = .ok (.aload_n 0, 1) := by decide +kernel
theorem dX0_accepts_94 : decode cX0_accepts 94 = .ok (.iload_n 1, 1) := by decide +kernel
theorem dX0_accepts_95 : decode cX0_accepts 95 = .ok (.invokevirtual 55, 3) := by decide +kernel
theorem dX0_accepts_98 : decode cX0_accepts 98 = .ok (.ifCond .eq 7, 3) := by decide +kernel
theorem dX0_accepts_101 : decode cX0_accepts 101 = .ok (.iconst 1, 1) := by decide +kernel
theorem dX0_accepts_102 : decode cX0_accepts 102 = .ok (.goto 4, 3) := by decide +kernel
theorem dX0_accepts_105 : decode cX0_accepts 105 = .ok (.iconst 0, 1) := by decide +kernel
theorem dX0_accepts_106 : decode cX0_accepts 106 = .ok (.ireturn, 1) := by decide +kernel
theorem dX0_acceptsNodeCount_0 : decode cX0_acceptsNodeCount 0 = .ok (.iload_n 1, 1) := by decide +kernel
theorem dX0_acceptsNodeCount_1 : decode cX0_acceptsNodeCount 1 = .ok (.iconst 2, 1) := by decide +kernel
theorem dX0_acceptsNodeCount_2 : decode cX0_acceptsNodeCount 2 = .ok (.if_icmp .lt 9, 3) := by decide +kernel
theorem dX0_acceptsNodeCount_5 : decode cX0_acceptsNodeCount 5 = .ok (.iload_n 1, 1) := by decide +kernel
theorem dX0_acceptsNodeCount_6 : decode cX0_acceptsNodeCount 6 = .ok (.bipush 8, 2) := by decide +kernel
theorem dX0_acceptsNodeCount_8 : decode cX0_acceptsNodeCount 8 = .ok (.if_icmp .le 5, 3) := by decide +kernel
theorem dX0_acceptsNodeCount_11 : decode cX0_acceptsNodeCount 11 = .ok (.iconst 0, 1) := by decide +kernel
theorem dX0_acceptsNodeCount_12 : decode cX0_acceptsNodeCount 12 = .ok (.ireturn, 1) := by decide +kernel
theorem dX0_acceptsNodeCount_13 : decode cX0_acceptsNodeCount 13 = .ok (.aload_n 0, 1) := by decide +kernel
theorem dX0_acceptsNodeCount_14 : decode cX0_acceptsNodeCount 14 = .ok (.iload_n 1, 1) := by decide +kernel
theorem dX0_acceptsNodeCount_15 : decode cX0_acceptsNodeCount 15 = .ok (.putfield 26, 3) := by decide +kernel
theorem dX0_acceptsNodeCount_18 : decode cX0_acceptsNodeCount 18 = .ok (.aload_n 0, 1) := by decide +kernel
theorem dX0_acceptsNodeCount_19 : decode cX0_acceptsNodeCount 19 = .ok (.iconst 1, 1) := by decide +kernel
theorem dX0_acceptsNodeCount_20 : decode cX0_acceptsNodeCount 20 = .ok (.putfield 32, 3) := by decide +kernel
theorem dX0_acceptsNodeCount_23 : decode cX0_acceptsNodeCount 23 = .ok (.iconst 1, 1) := by decide +kernel
theorem dX0_acceptsNodeCount_24 : decode cX0_acceptsNodeCount 24 = .ok (.ireturn, 1) := by decide +kernel
theorem dX0_acceptsLinkMark_0 : decode cX0_acceptsLinkMark 0 = .ok (.iload_n 1, 1) := by decide +kernel
theorem dX0_acceptsLinkMark_1 : decode cX0_acceptsLinkMark 1 = .ok (.bipush 59, 2) := by decide +kernel
theorem dX0_acceptsLinkMark_3 : decode cX0_acceptsLinkMark 3 = .ok (.if_icmp .ne 12, 3) := by decide +kernel
theorem dX0_acceptsLinkMark_6 : decode cX0_acceptsLinkMark 6 = .ok (.aload_n 0, 1) := by decide +kernel
theorem dX0_acceptsLinkMark_7 : decode cX0_acceptsLinkMark 7 = .ok (.getfield 29, 3) := by decide +kernel
theorem dX0_acceptsLinkMark_10 : decode cX0_acceptsLinkMark 10 = .ok (.bipush 12, 2) := by decide +kernel
theorem dX0_acceptsLinkMark_12 : decode cX0_acceptsLinkMark 12 = .ok (.if_icmp .lt 5, 3) := by decide +kernel
theorem dX0_acceptsLinkMark_15 : decode cX0_acceptsLinkMark 15 = .ok (.iconst 0, 1) := by decide +kernel
theorem dX0_acceptsLinkMark_16 : decode cX0_acceptsLinkMark 16 = .ok (.ireturn, 1) := by decide +kernel
theorem dX0_acceptsLinkMark_17 : decode cX0_acceptsLinkMark 17 = .ok (.aload_n 0, 1) := by decide +kernel
theorem dX0_acceptsLinkMark_18 : decode cX0_acceptsLinkMark 18 = .ok (.dup, 1) := by decide +kernel
theorem dX0_acceptsLinkMark_19 : decode cX0_acceptsLinkMark 19 = .ok (.getfield 29, 3) := by decide +kernel
theorem dX0_acceptsLinkMark_22 : decode cX0_acceptsLinkMark 22 = .ok (.iconst 1, 1) := by decide +kernel
theorem dX0_acceptsLinkMark_23 : decode cX0_acceptsLinkMark 23 = .ok (.iadd, 1) := by decide +kernel
theorem dX0_acceptsLinkMark_24 : decode cX0_acceptsLinkMark 24 = .ok (.putfield 29, 3) := by decide +kernel
theorem dX0_acceptsLinkMark_27 : decode cX0_acceptsLinkMark 27 = .ok (.aload_n 0, 1) := by decide +kernel
theorem dX0_acceptsLinkMark_28 : decode cX0_acceptsLinkMark 28 = .ok (.iconst 2, 1) := by decide +kernel
theorem dX0_acceptsLinkMark_29 : decode cX0_acceptsLinkMark 29 = .ok (.putfield 32, 3) := by decide +kernel
theorem dX0_acceptsLinkMark_32 : decode cX0_acceptsLinkMark 32 = .ok (.iconst 1, 1) := by decide +kernel
theorem dX0_acceptsLinkMark_33 : decode cX0_acceptsLinkMark 33 = .ok (.ireturn, 1) := by decide +kernel
theorem dX0_acceptsFirstNode_0 : decode cX0_acceptsFirstNode 0 = .ok (.iload_n 1, 1) := by decide +kernel
theorem dX0_acceptsFirstNode_1 : decode cX0_acceptsFirstNode 1 = .ok (.ifCond .lt 11, 3) := by decide +kernel
theorem dX0_acceptsFirstNode_4 : decode cX0_acceptsFirstNode 4 = .ok (.iload_n 1, 1) := by decide +kernel
theorem dX0_acceptsFirstNode_5 : decode cX0_acceptsFirstNode 5 = .ok (.aload_n 0, 1) := by decide +kernel
theorem dX0_acceptsFirstNode_6 : decode cX0_acceptsFirstNode 6 = .ok (.getfield 26, 3) := by decide +kernel
theorem dX0_acceptsFirstNode_9 : decode cX0_acceptsFirstNode 9 = .ok (.if_icmp .lt 5, 3) := by decide +kernel
theorem dX0_acceptsFirstNode_12 : decode cX0_acceptsFirstNode 12 = .ok (.iconst 0, 1) := by decide +kernel
theorem dX0_acceptsFirstNode_13 : decode cX0_acceptsFirstNode 13 = .ok (.ireturn, 1) := by decide +kernel
theorem dX0_acceptsFirstNode_14 : decode cX0_acceptsFirstNode 14 = .ok (.aload_n 0, 1) := by decide +kernel
theorem dX0_acceptsFirstNode_15 : decode cX0_acceptsFirstNode 15 = .ok (.iload_n 1, 1) := by decide +kernel
theorem dX0_acceptsFirstNode_16 : decode cX0_acceptsFirstNode 16 = .ok (.putfield 35, 3) := by decide +kernel
theorem dX0_acceptsFirstNode_19 : decode cX0_acceptsFirstNode 19 = .ok (.aload_n 0, 1) := by decide +kernel
theorem dX0_acceptsFirstNode_20 : decode cX0_acceptsFirstNode 20 = .ok (.iconst 3, 1) := by decide +kernel
theorem dX0_acceptsFirstNode_21 : decode cX0_acceptsFirstNode 21 = .ok (.putfield 32, 3) := by decide +kernel
theorem dX0_acceptsFirstNode_24 : decode cX0_acceptsFirstNode 24 = .ok (.iconst 1, 1) := by decide +kernel
theorem dX0_acceptsFirstNode_25 : decode cX0_acceptsFirstNode 25 = .ok (.ireturn, 1) := by decide +kernel
set_option maxRecDepth 20000 in
theorem ggX0_acceptsSecondNode_X2_join : GoodIn wsX0_acceptsSecondNode wsX2_join := goodIn_r _ [10, 11, 20, 21] (by decide +kernel) (by decide +kernel)
set_option maxRecDepth 20000 in
theorem gX0_acceptsSecondNode_X2_join : GoodIn wsX0_acceptsSecondNode (wsV RX0 70 RX2 yX2_join wsX2_join) := goodIn_app (goodIn_of _ (by decide +kernel)) ggX0_acceptsSecondNode_X2_join
theorem dX0_acceptsSecondNode_0 : decode cX0_acceptsSecondNode 0 = .ok (.iload_n 1, 1) := by decide +kernel
theorem dX0_acceptsSecondNode_1 : decode cX0_acceptsSecondNode 1 = .ok (.aload_n 0, 1) := by decide +kernel
theorem dX0_acceptsSecondNode_2 : decode cX0_acceptsSecondNode 2 = .ok (.getfield 35, 3) := by decide +kernel
theorem dX0_acceptsSecondNode_5 : decode cX0_acceptsSecondNode 5 = .ok (.if_icmp .le 26, 3) := by decide +kernel
theorem dX0_acceptsSecondNode_8 : decode cX0_acceptsSecondNode 8 = .ok (.iload_n 1, 1) := by decide +kernel
theorem dX0_acceptsSecondNode_9 : decode cX0_acceptsSecondNode 9 = .ok (.aload_n 0, 1) := by decide +kernel
theorem dX0_acceptsSecondNode_10 : decode cX0_acceptsSecondNode 10 = .ok (.getfield 26, 3) := by decide +kernel
theorem dX0_acceptsSecondNode_13 : decode cX0_acceptsSecondNode 13 = .ok (.if_icmp .ge 18, 3) := by decide +kernel
theorem dX0_acceptsSecondNode_16 : decode cX0_acceptsSecondNode 16 = .ok (.aload_n 0, 1) := by decide +kernel
theorem dX0_acceptsSecondNode_17 : decode cX0_acceptsSecondNode 17 = .ok (.getfield 22, 3) := by decide +kernel
theorem dX0_acceptsSecondNode_20 : decode cX0_acceptsSecondNode 20 = .ok (.aload_n 0, 1) := by decide +kernel
theorem dX0_acceptsSecondNode_21 : decode cX0_acceptsSecondNode 21 = .ok (.getfield 35, 3) := by decide +kernel
theorem dX0_acceptsSecondNode_24 : decode cX0_acceptsSecondNode 24 = .ok (.iload_n 1, 1) := by decide +kernel
theorem dX0_acceptsSecondNode_25 : decode cX0_acceptsSecondNode 25 = .ok (.invokevirtual 70, 3) := by decide +kernel
theorem dX0_acceptsSecondNode_28 : decode cX0_acceptsSecondNode 28 = .ok (.ifCond .eq 5, 3) := by decide +kernel
theorem dX0_acceptsSecondNode_31 : decode cX0_acceptsSecondNode 31 = .ok (.iconst 0, 1) := by decide +kernel
theorem dX0_acceptsSecondNode_32 : decode cX0_acceptsSecondNode 32 = .ok (.ireturn, 1) := by decide +kernel
theorem dX0_acceptsSecondNode_33 : decode cX0_acceptsSecondNode 33 = .ok (.aload_n 0, 1) := by decide +kernel
theorem dX0_acceptsSecondNode_34 : decode cX0_acceptsSecondNode 34 = .ok (.iload_n 1, 1) := by decide +kernel
theorem dX0_acceptsSecondNode_35 : decode cX0_acceptsSecondNode 35 = .ok (.putfield 38, 3) := by decide +kernel
theorem dX0_acceptsSecondNode_38 : decode cX0_acceptsSecondNode 38 = .ok (.aload_n 0, 1) := by decide +kernel
theorem dX0_acceptsSecondNode_39 : decode cX0_acceptsSecondNode 39 = .ok (.iconst 4, 1) := by decide +kernel
theorem dX0_acceptsSecondNode_40 : decode cX0_acceptsSecondNode 40 = .ok (.putfield 32, 3) := by decide +kernel
theorem dX0_acceptsSecondNode_43 : decode cX0_acceptsSecondNode 43 = .ok (.iconst 1, 1) := by decide +kernel
theorem dX0_acceptsSecondNode_44 : decode cX0_acceptsSecondNode 44 = .ok (.ireturn, 1) := by decide +kernel
set_option maxRecDepth 20000 in
theorem ggX0_acceptsStrength_X2_setStrength : GoodIn wsX0_acceptsStrength wsX2_setStrength := goodIn_r _ [9, 10, 19, 20] (by decide +kernel) (by decide +kernel)
set_option maxRecDepth 20000 in
theorem gX0_acceptsStrength_X2_setStrength : GoodIn wsX0_acceptsStrength (wsV RX0 74 RX2 yX2_setStrength wsX2_setStrength) := goodIn_app (goodIn_of _ (by decide +kernel)) ggX0_acceptsStrength_X2_setStrength
theorem dX0_acceptsStrength_0 : decode cX0_acceptsStrength 0 = .ok (.iload_n 1, 1) := by decide +kernel
theorem dX0_acceptsStrength_1 : decode cX0_acceptsStrength 1 = .ok (.iconst 1, 1) := by decide +kernel
theorem dX0_acceptsStrength_2 : decode cX0_acceptsStrength 2 = .ok (.if_icmp .lt 9, 3) := by decide +kernel
theorem dX0_acceptsStrength_5 : decode cX0_acceptsStrength 5 = .ok (.iload_n 1, 1) := by decide +kernel
theorem dX0_acceptsStrength_6 : decode cX0_acceptsStrength 6 = .ok (.bipush 9, 2) := by decide +kernel
theorem dX0_acceptsStrength_8 : decode cX0_acceptsStrength 8 = .ok (.if_icmp .le 5, 3) := by decide +kernel
theorem dX0_acceptsStrength_11 : decode cX0_acceptsStrength 11 = .ok (.iconst 0, 1) := by decide +kernel
theorem dX0_acceptsStrength_12 : decode cX0_acceptsStrength 12 = .ok (.ireturn, 1) := by decide +kernel
theorem dX0_acceptsStrength_13 : decode cX0_acceptsStrength 13 = .ok (.aload_n 0, 1) := by decide +kernel
theorem dX0_acceptsStrength_14 : decode cX0_acceptsStrength 14 = .ok (.getfield 22, 3) := by decide +kernel
theorem dX0_acceptsStrength_17 : decode cX0_acceptsStrength 17 = .ok (.aload_n 0, 1) := by decide +kernel
theorem dX0_acceptsStrength_18 : decode cX0_acceptsStrength 18 = .ok (.getfield 35, 3) := by decide +kernel
theorem dX0_acceptsStrength_21 : decode cX0_acceptsStrength 21 = .ok (.aload_n 0, 1) := by decide +kernel
theorem dX0_acceptsStrength_22 : decode cX0_acceptsStrength 22 = .ok (.getfield 38, 3) := by decide +kernel
theorem dX0_acceptsStrength_25 : decode cX0_acceptsStrength 25 = .ok (.iload_n 1, 1) := by decide +kernel
theorem dX0_acceptsStrength_26 : decode cX0_acceptsStrength 26 = .ok (.invokevirtual 74, 3) := by decide +kernel
theorem dX0_acceptsStrength_29 : decode cX0_acceptsStrength 29 = .ok (.aload_n 0, 1) := by decide +kernel
theorem dX0_acceptsStrength_30 : decode cX0_acceptsStrength 30 = .ok (.iconst 5, 1) := by decide +kernel
theorem dX0_acceptsStrength_31 : decode cX0_acceptsStrength 31 = .ok (.putfield 32, 3) := by decide +kernel
theorem dX0_acceptsStrength_34 : decode cX0_acceptsStrength 34 = .ok (.iconst 1, 1) := by decide +kernel
theorem dX0_acceptsStrength_35 : decode cX0_acceptsStrength 35 = .ok (.ireturn, 1) := by decide +kernel
set_option maxRecDepth 20000 in
theorem ggX0_acceptsLossPeriod_X2_setLossPeriod : GoodIn wsX0_acceptsLossPeriod wsX2_setLossPeriod := goodIn_r _ [9, 10, 19, 20] (by decide +kernel) (by decide +kernel)
set_option maxRecDepth 20000 in
theorem gX0_acceptsLossPeriod_X2_setLossPeriod : GoodIn wsX0_acceptsLossPeriod (wsV RX0 78 RX2 yX2_setLossPeriod wsX2_setLossPeriod) := goodIn_app (goodIn_of _ (by decide +kernel)) ggX0_acceptsLossPeriod_X2_setLossPeriod
theorem dX0_acceptsLossPeriod_0 : decode cX0_acceptsLossPeriod 0 = .ok (.iload_n 1, 1) := by decide +kernel
theorem dX0_acceptsLossPeriod_1 : decode cX0_acceptsLossPeriod 1 = .ok (.iconst 2, 1) := by decide +kernel
theorem dX0_acceptsLossPeriod_2 : decode cX0_acceptsLossPeriod 2 = .ok (.if_icmp .lt 9, 3) := by decide +kernel
theorem dX0_acceptsLossPeriod_5 : decode cX0_acceptsLossPeriod 5 = .ok (.iload_n 1, 1) := by decide +kernel
theorem dX0_acceptsLossPeriod_6 : decode cX0_acceptsLossPeriod 6 = .ok (.bipush 9, 2) := by decide +kernel
theorem dX0_acceptsLossPeriod_8 : decode cX0_acceptsLossPeriod 8 = .ok (.if_icmp .le 5, 3) := by decide +kernel
theorem dX0_acceptsLossPeriod_11 : decode cX0_acceptsLossPeriod 11 = .ok (.iconst 0, 1) := by decide +kernel
theorem dX0_acceptsLossPeriod_12 : decode cX0_acceptsLossPeriod 12 = .ok (.ireturn, 1) := by decide +kernel
theorem dX0_acceptsLossPeriod_13 : decode cX0_acceptsLossPeriod 13 = .ok (.aload_n 0, 1) := by decide +kernel
theorem dX0_acceptsLossPeriod_14 : decode cX0_acceptsLossPeriod 14 = .ok (.getfield 22, 3) := by decide +kernel
theorem dX0_acceptsLossPeriod_17 : decode cX0_acceptsLossPeriod 17 = .ok (.aload_n 0, 1) := by decide +kernel
theorem dX0_acceptsLossPeriod_18 : decode cX0_acceptsLossPeriod 18 = .ok (.getfield 35, 3) := by decide +kernel
theorem dX0_acceptsLossPeriod_21 : decode cX0_acceptsLossPeriod 21 = .ok (.aload_n 0, 1) := by decide +kernel
theorem dX0_acceptsLossPeriod_22 : decode cX0_acceptsLossPeriod 22 = .ok (.getfield 38, 3) := by decide +kernel
theorem dX0_acceptsLossPeriod_25 : decode cX0_acceptsLossPeriod 25 = .ok (.iload_n 1, 1) := by decide +kernel
theorem dX0_acceptsLossPeriod_26 : decode cX0_acceptsLossPeriod 26 = .ok (.invokevirtual 78, 3) := by decide +kernel
theorem dX0_acceptsLossPeriod_29 : decode cX0_acceptsLossPeriod 29 = .ok (.aload_n 0, 1) := by decide +kernel
theorem dX0_acceptsLossPeriod_30 : decode cX0_acceptsLossPeriod 30 = .ok (.iconst 1, 1) := by decide +kernel
theorem dX0_acceptsLossPeriod_31 : decode cX0_acceptsLossPeriod 31 = .ok (.putfield 32, 3) := by decide +kernel
theorem dX0_acceptsLossPeriod_34 : decode cX0_acceptsLossPeriod 34 = .ok (.iconst 1, 1) := by decide +kernel
theorem dX0_acceptsLossPeriod_35 : decode cX0_acceptsLossPeriod 35 = .ok (.ireturn, 1) := by decide +kernel
theorem dX1_init_0 : decode cX1_init 0 = .ok (.aload_n 0, 1) := by decide +kernel
theorem dX1_init_1 : decode cX1_init 1 = .ok (.invokespecial 3, 3) := by decide +kernel
theorem dX1_init_4 : decode cX1_init 4 = .ok (.aload_n 0, 1) := by decide +kernel
theorem dX1_init_5 : decode cX1_init 5 = .ok (.bipush 8, 2) := by decide +kernel
theorem dX1_init_7 : decode cX1_init 7 = .ok (.newarray .int, 2) := by decide +kernel
theorem dX1_init_9 : decode cX1_init 9 = .ok (.putfield 9, 3) := by decide +kernel
theorem dX1_init_12 : decode cX1_init 12 = .ok (.aload_n 0, 1) := by decide +kernel
theorem dX1_init_13 : decode cX1_init 13 = .ok (.bipush 8, 2) := by decide +kernel
theorem dX1_init_15 : decode cX1_init 15 = .ok (.newarray .int, 2) := by decide +kernel
theorem dX1_init_17 : decode cX1_init 17 = .ok (.putfield 15, 3) := by decide +kernel
theorem dX1_init_20 : decode cX1_init 20 = .ok (.aload_n 0, 1) := by decide +kernel
theorem dX1_init_21 : decode cX1_init 21 = .ok (.bipush 8, 2) := by decide +kernel
theorem dX1_init_23 : decode cX1_init 23 = .ok (.newarray .int, 2) := by decide +kernel
theorem dX1_init_25 : decode cX1_init 25 = .ok (.putfield 18, 3) := by decide +kernel
theorem dX1_init_28 : decode cX1_init 28 = .ok (.aload_n 0, 1) := by decide +kernel
theorem dX1_init_29 : decode cX1_init 29 = .ok (.iconst 0, 1) := by decide +kernel
theorem dX1_init_30 : decode cX1_init 30 = .ok (.putfield 21, 3) := by decide +kernel
theorem dX1_init_33 : decode cX1_init 33 = .ok (.aload_n 0, 1) := by decide +kernel
theorem dX1_init_34 : decode cX1_init 34 = .ok (.iconst 2, 1) := by decide +kernel
theorem dX1_init_35 : decode cX1_init 35 = .ok (.putfield 25, 3) := by decide +kernel
theorem dX1_init_38 : decode cX1_init 38 = .ok (.aload_n 0, 1) := by decide +kernel
theorem dX1_init_39 : decode cX1_init 39 = .ok (.iconst 3, 1) := by decide +kernel
theorem dX1_init_40 : decode cX1_init 40 = .ok (.putfield 28, 3) := by decide +kernel
theorem dX1_init_43 : decode cX1_init 43 = .ok (.return_, 1) := by decide +kernel
set_option maxRecDepth 20000 in
theorem ggX1_forget_J7_fill_53178 : GoodIn wsX1_forget wsJ7_fill_53178 := goodIn_r _ [7] (by decide +kernel) (by decide +kernel)
set_option maxRecDepth 20000 in
theorem gX1_forget_J7_fill_53178 : GoodIn wsX1_forget (va_wsS RX1 31 yJ7_fill_53178 wsJ7_fill_53178) := goodIn_app (goodIn_of _ (by decide +kernel)) ggX1_forget_J7_fill_53178
theorem dX1_forget_0 : decode cX1_forget 0 = .ok (.aload_n 0, 1) := by decide +kernel
theorem dX1_forget_1 : decode cX1_forget 1 = .ok (.getfield 15, 3) := by decide +kernel
theorem dX1_forget_4 : decode cX1_forget 4 = .ok (.iconst (-1), 1) := by decide +kernel
theorem dX1_forget_5 : decode cX1_forget 5 = .ok (.invokestatic 31, 3) := by decide +kernel
theorem dX1_forget_8 : decode cX1_forget 8 = .ok (.aload_n 0, 1) := by decide +kernel
theorem dX1_forget_9 : decode cX1_forget 9 = .ok (.getfield 18, 3) := by decide +kernel
theorem dX1_forget_12 : decode cX1_forget 12 = .ok (.iconst (-1), 1) := by decide +kernel
theorem dX1_forget_13 : decode cX1_forget 13 = .ok (.invokestatic 31, 3) := by decide +kernel
theorem dX1_forget_16 : decode cX1_forget 16 = .ok (.aload_n 0, 1) := by decide +kernel
theorem dX1_forget_17 : decode cX1_forget 17 = .ok (.iconst 0, 1) := by decide +kernel
theorem dX1_forget_18 : decode cX1_forget 18 = .ok (.putfield 21, 3) := by decide +kernel
theorem dX1_forget_21 : decode cX1_forget 21 = .ok (.return_, 1) := by decide +kernel
set_option maxRecDepth 20000 in
theorem ggX1_run_X1_forget : GoodIn wsX1_run wsX1_forget := goodIn_r _ [7, 8, 9, 2, 10, 11, 12, 13, 57, 58, 59, 60, 61, 62] (by decide +kernel) (by decide +kernel)
set_option maxRecDepth 20000 in
theorem gX1_run_X1_forget : GoodIn wsX1_run (wsV RX1 37 RX1 yX1_forget wsX1_forget) := goodIn_app (goodIn_of _ (by decide +kernel)) ggX1_run_X1_forget
set_option maxRecDepth 20000 in
theorem ggX1_run_X1_hold : GoodIn wsX1_run wsX1_hold := goodIn_r _ [17, 8, 9, 18, 19, 2, 20, 21, 22, 23, 57, 58, 59, 60, 61, 62, 51, 52, 53, 54, 55, 56] (by decide +kernel) (by decide +kernel)
set_option maxRecDepth 20000 in
theorem gX1_run_X1_hold : GoodIn wsX1_run (wsV RX1 45 RX1 yX1_hold wsX1_hold) := goodIn_app (goodIn_of _ (by decide +kernel)) ggX1_run_X1_hold
set_option maxRecDepth 20000 in
theorem ggX1_run_X1_runSlot : GoodIn wsX1_run wsX1_runSlot := goodIn_r _ [27, 1, 28, 8, 29, 30, 31, 32, 6, 33, 34, 20, 21, 22, 23, 10, 11, 12, 13, 35, 36, 37, 38, 9, 19, 39, 40, 41, 42, 43, 44, 45, 46, 47, 48, 49, 50, 14, 15, 16, 17, 18, 2, 51, 52, 53, 54, 55, 56, 57, 58, 59, 60, 61, 62, 63, 64] (by decide +kernel) (by decide +kernel)
set_option maxRecDepth 20000 in
theorem gX1_run_X1_runSlot : GoodIn wsX1_run (wsV RX1 49 RX1 yX1_runSlot wsX1_runSlot) := goodIn_app (goodIn_of _ (by decide +kernel)) ggX1_run_X1_runSlot
theorem dX1_run_0 : decode cX1_run 0 = .ok (.aload_n 0, 1) := by decide +kernel
theorem dX1_run_1 : decode cX1_run 1 = .ok (.invokevirtual 37, 3) := by decide +kernel
theorem dX1_run_4 : decode cX1_run 4 = .ok (.iconst 0, 1) := by decide +kernel
theorem dX1_run_5 : decode cX1_run 5 = .ok (.istore_n 3, 1) := by decide +kernel
theorem dX1_run_6 : decode cX1_run 6 = .ok (.iload_n 3, 1) := by decide +kernel
theorem dX1_run_7 : decode cX1_run 7 = .ok (.aload_n 1, 1) := by decide +kernel
theorem dX1_run_8 : decode cX1_run 8 = .ok (.getfield 40, 3) := by decide +kernel
theorem dX1_run_11 : decode cX1_run 11 = .ok (.if_icmp .ge 26, 3) := by decide +kernel
theorem dX1_run_14 : decode cX1_run 14 = .ok (.iload_n 2, 1) := by decide +kernel
theorem dX1_run_15 : decode cX1_run 15 = .ok (.iload_n 3, 1) := by decide +kernel
theorem dX1_run_16 : decode cX1_run 16 = .ok (.ishr, 1) := by decide +kernel
theorem dX1_run_17 : decode cX1_run 17 = .ok (.iconst 1, 1) := by decide +kernel
theorem dX1_run_18 : decode cX1_run 18 = .ok (.iand, 1) := by decide +kernel
theorem dX1_run_19 : decode cX1_run 19 = .ok (.iconst 1, 1) := by decide +kernel
theorem dX1_run_20 : decode cX1_run 20 = .ok (.if_icmp .ne 11, 3) := by decide +kernel
theorem dX1_run_23 : decode cX1_run 23 = .ok (.aload_n 0, 1) := by decide +kernel
theorem dX1_run_24 : decode cX1_run 24 = .ok (.aload_n 1, 1) := by decide +kernel
theorem dX1_run_25 : decode cX1_run 25 = .ok (.iload_n 3, 1) := by decide +kernel
theorem dX1_run_26 : decode cX1_run 26 = .ok (.iload_n 3, 1) := by decide +kernel
theorem dX1_run_27 : decode cX1_run 27 = .ok (.iconst 0, 1) := by decide +kernel
theorem dX1_run_28 : decode cX1_run 28 = .ok (.invokevirtual 45, 3) := by decide +kernel
theorem dX1_run_31 : decode cX1_run 31 = .ok (.iinc 3 1, 3) := by decide +kernel
theorem dX1_run_34 : decode cX1_run 34 = .ok (.goto (-28), 3) := by decide +kernel
theorem dX1_run_37 : decode cX1_run 37 = .ok (.iconst 0, 1) := by decide +kernel
theorem dX1_run_38 : decode cX1_run 38 = .ok (.istore_n 3, 1) := by decide +kernel
theorem dX1_run_39 : decode cX1_run 39 = .ok (.iload_n 3, 1) := by decide +kernel
theorem dX1_run_40 : decode cX1_run 40 = .ok (.bipush 64, 2) := by decide +kernel
theorem dX1_run_42 : decode cX1_run 42 = .ok (.if_icmp .ge 23, 3) := by decide +kernel
theorem dX1_run_45 : decode cX1_run 45 = .ok (.iload_n 3, 1) := by decide +kernel
theorem dX1_run_46 : decode cX1_run 46 = .ok (.aload_n 0, 1) := by decide +kernel
theorem dX1_run_47 : decode cX1_run 47 = .ok (.getfield 21, 3) := by decide +kernel
theorem dX1_run_50 : decode cX1_run 50 = .ok (.if_icmp .ge 15, 3) := by decide +kernel
theorem dX1_run_53 : decode cX1_run 53 = .ok (.aload_n 0, 1) := by decide +kernel
theorem dX1_run_54 : decode cX1_run 54 = .ok (.aload_n 1, 1) := by decide +kernel
theorem dX1_run_55 : decode cX1_run 55 = .ok (.iload_n 3, 1) := by decide +kernel
theorem dX1_run_56 : decode cX1_run 56 = .ok (.invokevirtual 49, 3) := by decide +kernel
theorem dX1_run_59 : decode cX1_run 59 = .ok (.iinc 3 1, 3) := by decide +kernel
theorem dX1_run_62 : decode cX1_run 62 = .ok (.goto (-23), 3) := by decide +kernel
theorem dX1_run_65 : decode cX1_run 65 = .ok (.return_, 1) := by decide +kernel
theorem dX1_countHolders_0 : decode cX1_countHolders 0 = .ok (.iconst 0, 1) := by decide +kernel
theorem dX1_countHolders_1 : decode cX1_countHolders 1 = .ok (.istore_n 1, 1) := by decide +kernel
theorem dX1_countHolders_2 : decode cX1_countHolders 2 = .ok (.iconst 0, 1) := by decide +kernel
theorem dX1_countHolders_3 : decode cX1_countHolders 3 = .ok (.istore_n 2, 1) := by decide +kernel
theorem dX1_countHolders_4 : decode cX1_countHolders 4 = .ok (.iload_n 2, 1) := by decide +kernel
theorem dX1_countHolders_5 : decode cX1_countHolders 5 = .ok (.bipush 8, 2) := by decide +kernel
theorem dX1_countHolders_7 : decode cX1_countHolders 7 = .ok (.if_icmp .ge 22, 3) := by decide +kernel
theorem dX1_countHolders_10 : decode cX1_countHolders 10 = .ok (.aload_n 0, 1) := by decide +kernel
theorem dX1_countHolders_11 : decode cX1_countHolders 11 = .ok (.getfield 15, 3) := by decide +kernel
theorem dX1_countHolders_14 : decode cX1_countHolders 14 = .ok (.iload_n 2, 1) := by decide +kernel
theorem dX1_countHolders_15 : decode cX1_countHolders 15 = .ok (.iaload, 1) := by decide +kernel
theorem dX1_countHolders_16 : decode cX1_countHolders 16 = .ok (.iconst (-1), 1) := by decide +kernel
theorem dX1_countHolders_17 : decode cX1_countHolders 17 = .ok (.if_icmp .eq 6, 3) := by decide +kernel
theorem dX1_countHolders_20 : decode cX1_countHolders 20 = .ok (.iinc 1 1, 3) := by decide +kernel
theorem dX1_countHolders_23 : decode cX1_countHolders 23 = .ok (.iinc 2 1, 3) := by decide +kernel
theorem dX1_countHolders_26 : decode cX1_countHolders 26 = .ok (.goto (-22), 3) := by decide +kernel
theorem dX1_countHolders_29 : decode cX1_countHolders 29 = .ok (.iload_n 1, 1) := by decide +kernel
theorem dX1_countHolders_30 : decode cX1_countHolders 30 = .ok (.ireturn, 1) := by decide +kernel
theorem dX1_hold_0 : decode cX1_hold 0 = .ok (.aload_n 0, 1) := by decide +kernel
theorem dX1_hold_1 : decode cX1_hold 1 = .ok (.getfield 15, 3) := by decide +kernel
theorem dX1_hold_4 : decode cX1_hold 4 = .ok (.iload_n 2, 1) := by decide +kernel
theorem dX1_hold_5 : decode cX1_hold 5 = .ok (.iload_n 3, 1) := by decide +kernel
theorem dX1_hold_6 : decode cX1_hold 6 = .ok (.iastore, 1) := by decide +kernel
theorem dX1_hold_7 : decode cX1_hold 7 = .ok (.aload_n 0, 1) := by decide +kernel
theorem dX1_hold_8 : decode cX1_hold 8 = .ok (.getfield 18, 3) := by decide +kernel
theorem dX1_hold_11 : decode cX1_hold 11 = .ok (.iload_n 2, 1) := by decide +kernel
theorem dX1_hold_12 : decode cX1_hold 12 = .ok (.iload 4, 2) := by decide +kernel
theorem dX1_hold_14 : decode cX1_hold 14 = .ok (.iastore, 1) := by decide +kernel
theorem dX1_hold_15 : decode cX1_hold 15 = .ok (.aload_n 1, 1) := by decide +kernel
theorem dX1_hold_16 : decode cX1_hold 16 = .ok (.getfield 53, 3) := by decide +kernel
theorem dX1_hold_19 : decode cX1_hold 19 = .ok (.iload_n 2, 1) := by decide +kernel
theorem dX1_hold_20 : decode cX1_hold 20 = .ok (.dup2, 1) := by decide +kernel
theorem dX1_hold_21 : decode cX1_hold 21 = .ok (.iaload, 1) := by decide +kernel
theorem dX1_hold_22 : decode cX1_hold 22 = .ok (.aload_n 0, 1) := by decide +kernel
theorem dX1_hold_23 : decode cX1_hold 23 = .ok (.getfield 25, 3) := by decide +kernel
theorem dX1_hold_26 : decode cX1_hold 26 = .ok (.iadd, 1) := by decide +kernel
theorem dX1_hold_27 : decode cX1_hold 27 = .ok (.iastore, 1) := by decide +kernel
theorem dX1_hold_28 : decode cX1_hold 28 = .ok (.aload_n 0, 1) := by decide +kernel
theorem dX1_hold_29 : decode cX1_hold 29 = .ok (.aload_n 0, 1) := by decide +kernel
theorem dX1_hold_30 : decode cX1_hold 30 = .ok (.getfield 21, 3) := by decide +kernel
theorem dX1_hold_33 : decode cX1_hold 33 = .ok (.iload 4, 2) := by decide +kernel
theorem dX1_hold_35 : decode cX1_hold 35 = .ok (.iconst 2, 1) := by decide +kernel
theorem dX1_hold_36 : decode cX1_hold 36 = .ok (.aload_n 0, 1) := by decide +kernel
theorem dX1_hold_37 : decode cX1_hold 37 = .ok (.getfield 25, 3) := by decide +kernel
theorem dX1_hold_40 : decode cX1_hold 40 = .ok (.imul, 1) := by decide +kernel
theorem dX1_hold_41 : decode cX1_hold 41 = .ok (.iadd, 1) := by decide +kernel
theorem dX1_hold_42 : decode cX1_hold 42 = .ok (.iconst 1, 1) := by decide +kernel
theorem dX1_hold_43 : decode cX1_hold 43 = .ok (.isub, 1) := by decide +kernel
theorem dX1_hold_44 : decode cX1_hold 44 = .ok (.invokestatic 56, 3) := by decide +kernel
theorem dX1_hold_47 : decode cX1_hold 47 = .ok (.putfield 21, 3) := by decide +kernel
theorem dX1_hold_50 : decode cX1_hold 50 = .ok (.return_, 1) := by decide +kernel
set_option maxRecDepth 20000 in
theorem ggX1_runSlot_X1_measureLevels : GoodIn wsX1_runSlot wsX1_measureLevels := goodIn_r _ [9, 10, 3, 11, 12, 13, 14, 15, 16, 17, 18, 19, 20, 21, 8, 22, 23, 24, 25, 26, 27, 28, 29, 30, 31, 49, 50, 51, 52, 53, 54, 55, 56] (by decide +kernel) (by decide +kernel)
set_option maxRecDepth 20000 in
theorem gX1_runSlot_X1_measureLevels : GoodIn wsX1_runSlot (wsV RX1 70 RX1 yX1_measureLevels wsX1_measureLevels) := goodIn_app (goodIn_of _ (by decide +kernel)) ggX1_runSlot_X1_measureLevels
set_option maxRecDepth 20000 in
theorem ggX1_runSlot_X1_capturedPacket : GoodIn wsX1_runSlot wsX1_capturedPacket := goodIn_r _ [35, 10, 36, 49, 50, 51, 52, 53, 54] (by decide +kernel) (by decide +kernel)
set_option maxRecDepth 20000 in
theorem gX1_runSlot_X1_capturedPacket : GoodIn wsX1_runSlot (wsV RX1 74 RX1 yX1_capturedPacket wsX1_capturedPacket) := goodIn_app (goodIn_of _ (by decide +kernel)) ggX1_runSlot_X1_capturedPacket
set_option maxRecDepth 20000 in
theorem ggX1_runSlot_X1_hold : GoodIn wsX1_runSlot wsX1_hold := goodIn_r _ [40, 3, 23, 41, 24, 42, 11, 12, 13, 14, 49, 50, 51, 52, 53, 54, 43, 44, 45, 46, 47, 48] (by decide +kernel) (by decide +kernel)
set_option maxRecDepth 20000 in
theorem gX1_runSlot_X1_hold : GoodIn wsX1_runSlot (wsV RX1 45 RX1 yX1_hold wsX1_hold) := goodIn_app (goodIn_of _ (by decide +kernel)) ggX1_runSlot_X1_hold
theorem dX1_runSlot_0 : decode cX1_runSlot 0 = .ok (.iconst 0, 1) := by decide +kernel
theorem dX1_runSlot_1 : decode cX1_runSlot 1 = .ok (.istore_n 3, 1) := by decide +kernel
theorem dX1_runSlot_2 : decode cX1_runSlot 2 = .ok (.iload_n 3, 1) := by decide +kernel
theorem dX1_runSlot_3 : decode cX1_runSlot 3 = .ok (.aload_n 1, 1) := by decide +kernel
theorem dX1_runSlot_4 : decode cX1_runSlot 4 = .ok (.getfield 40, 3) := by decide +kernel
theorem dX1_runSlot_7 : decode cX1_runSlot 7 = .ok (.if_icmp .ge 61, 3) := by decide +kernel
theorem dX1_runSlot_10 : decode cX1_runSlot 10 = .ok (.aload_n 1, 1) := by decide +kernel
theorem dX1_runSlot_11 : decode cX1_runSlot 11 = .ok (.getfield 62, 3) := by decide +kernel
theorem dX1_runSlot_14 : decode cX1_runSlot 14 = .ok (.iload_n 3, 1) := by decide +kernel
theorem dX1_runSlot_15 : decode cX1_runSlot 15 = .ok (.baload, 1) := by decide +kernel
theorem dX1_runSlot_16 : decode cX1_runSlot 16 = .ok (.ifCond .eq 46, 3) := by decide +kernel
theorem dX1_runSlot_19 : decode cX1_runSlot 19 = .ok (.aload_n 0, 1) := by decide +kernel
theorem dX1_runSlot_20 : decode cX1_runSlot 20 = .ok (.getfield 15, 3) := by decide +kernel
theorem dX1_runSlot_23 : decode cX1_runSlot 23 = .ok (.iload_n 3, 1) := by decide +kernel
theorem dX1_runSlot_24 : decode cX1_runSlot 24 = .ok (.iaload, 1) := by decide +kernel
theorem dX1_runSlot_25 : decode cX1_runSlot 25 = .ok (.iconst (-1), 1) := by decide +kernel
theorem dX1_runSlot_26 : decode cX1_runSlot 26 = .ok (.if_icmp .ne 36, 3) := by decide +kernel
theorem dX1_runSlot_29 : decode cX1_runSlot 29 = .ok (.aload_n 0, 1) := by decide +kernel
theorem dX1_runSlot_30 : decode cX1_runSlot 30 = .ok (.aload_n 1, 1) := by decide +kernel
theorem dX1_runSlot_31 : decode cX1_runSlot 31 = .ok (.getfield 66, 3) := by decide +kernel
theorem dX1_runSlot_34 : decode cX1_runSlot 34 = .ok (.iload_n 3, 1) := by decide +kernel
theorem dX1_runSlot_35 : decode cX1_runSlot 35 = .ok (.iload_n 2, 1) := by decide +kernel
theorem dX1_runSlot_36 : decode cX1_runSlot 36 = .ok (.invokevirtual 70, 3) := by decide +kernel
theorem dX1_runSlot_39 : decode cX1_runSlot 39 = .ok (.aload_n 0, 1) := by decide +kernel
theorem dX1_runSlot_40 : decode cX1_runSlot 40 = .ok (.invokevirtual 74, 3) := by decide +kernel
theorem dX1_runSlot_43 : decode cX1_runSlot 43 = .ok (.istore 4, 2) := by decide +kernel
theorem dX1_runSlot_45 : decode cX1_runSlot 45 = .ok (.iload 4, 2) := by decide +kernel
theorem dX1_runSlot_47 : decode cX1_runSlot 47 = .ok (.iconst (-1), 1) := by decide +kernel
theorem dX1_runSlot_48 : decode cX1_runSlot 48 = .ok (.if_icmp .eq 14, 3) := by decide +kernel
theorem dX1_runSlot_51 : decode cX1_runSlot 51 = .ok (.aload_n 0, 1) := by decide +kernel
theorem dX1_runSlot_52 : decode cX1_runSlot 52 = .ok (.aload_n 1, 1) := by decide +kernel
theorem dX1_runSlot_53 : decode cX1_runSlot 53 = .ok (.iload_n 3, 1) := by decide +kernel
theorem dX1_runSlot_54 : decode cX1_runSlot 54 = .ok (.iload 4, 2) := by decide +kernel
theorem dX1_runSlot_56 : decode cX1_runSlot 56 = .ok (.iload_n 2, 1) := by decide +kernel
theorem dX1_runSlot_57 : decode cX1_runSlot 57 = .ok (.iconst 1, 1) := by decide +kernel
theorem dX1_runSlot_58 : decode cX1_runSlot 58 = .ok (.iadd, 1) := by decide +kernel
theorem dX1_runSlot_59 : decode cX1_runSlot 59 = .ok (.invokevirtual 45, 3) := by decide +kernel
theorem dX1_runSlot_62 : decode cX1_runSlot 62 = .ok (.iinc 3 1, 3) := by decide +kernel
theorem dX1_runSlot_65 : decode cX1_runSlot 65 = .ok (.goto (-63), 3) := by decide +kernel
theorem dX1_runSlot_68 : decode cX1_runSlot 68 = .ok (.return_, 1) := by decide +kernel
set_option maxRecDepth 20000 in
theorem ggX1_measureLevels_J7_fill_53178 : GoodIn wsX1_measureLevels wsJ7_fill_53178 := goodIn_r _ [10] (by decide +kernel) (by decide +kernel)
set_option maxRecDepth 20000 in
theorem gX1_measureLevels_J7_fill_53178 : GoodIn wsX1_measureLevels (va_wsS RX1 31 yJ7_fill_53178 wsJ7_fill_53178) := goodIn_app (goodIn_of _ (by decide +kernel)) ggX1_measureLevels_J7_fill_53178
set_option maxRecDepth 20000 in
theorem ggX1_measureLevels_X1_transmits : GoodIn wsX1_measureLevels wsX1_transmits := goodIn_r _ [15, 2, 16, 17, 25, 26, 27, 28, 29, 30] (by decide +kernel) (by decide +kernel)
set_option maxRecDepth 20000 in
theorem gX1_measureLevels_X1_transmits : GoodIn wsX1_measureLevels (wsV RX1 78 RX1 yX1_transmits wsX1_transmits) := goodIn_app (goodIn_of _ (by decide +kernel)) ggX1_measureLevels_X1_transmits
set_option maxRecDepth 20000 in
theorem ggX1_measureLevels_X2_signal : GoodIn wsX1_measureLevels wsX2_signal := goodIn_r _ [22, 23, 24, 31, 32] (by decide +kernel) (by decide +kernel)
set_option maxRecDepth 20000 in
theorem gX1_measureLevels_X2_signal : GoodIn wsX1_measureLevels (wsV RX1 82 RX2 yX2_signal wsX2_signal) := goodIn_app (goodIn_of _ (by decide +kernel)) ggX1_measureLevels_X2_signal
theorem dX1_measureLevels_0 : decode cX1_measureLevels 0 = .ok (.aload_n 0, 1) := by decide +kernel
theorem dX1_measureLevels_1 : decode cX1_measureLevels 1 = .ok (.getfield 9, 3) := by decide +kernel
theorem dX1_measureLevels_4 : decode cX1_measureLevels 4 = .ok (.iconst 0, 1) := by decide +kernel
theorem dX1_measureLevels_5 : decode cX1_measureLevels 5 = .ok (.invokestatic 31, 3) := by decide +kernel
theorem dX1_measureLevels_8 : decode cX1_measureLevels 8 = .ok (.iconst 0, 1) := by decide +kernel
theorem dX1_measureLevels_9 : decode cX1_measureLevels 9 = .ok (.istore 4, 2) := by decide +kernel
theorem dX1_measureLevels_11 : decode cX1_measureLevels 11 = .ok (.iload 4, 2) := by decide +kernel
theorem dX1_measureLevels_13 : decode cX1_measureLevels 13 = .ok (.bipush 8, 2) := by decide +kernel
theorem dX1_measureLevels_15 : decode cX1_measureLevels 15 = .ok (.if_icmp .ge 53, 3) := by decide +kernel
theorem dX1_measureLevels_18 : decode cX1_measureLevels 18 = .ok (.aload_n 0, 1) := by decide +kernel
theorem dX1_measureLevels_19 : decode cX1_measureLevels 19 = .ok (.iload 4, 2) := by decide +kernel
theorem dX1_measureLevels_21 : decode cX1_measureLevels 21 = .ok (.iload_n 3, 1) := by decide +kernel
theorem dX1_measureLevels_22 : decode cX1_measureLevels 22 = .ok (.invokevirtual 78, 3) := by decide +kernel
theorem dX1_measureLevels_25 : decode cX1_measureLevels 25 = .ok (.ifCond .eq 37, 3) := by decide +kernel
theorem dX1_measureLevels_28 : decode cX1_measureLevels 28 = .ok (.aload_n 0, 1) := by decide +kernel
theorem dX1_measureLevels_29 : decode cX1_measureLevels 29 = .ok (.getfield 15, 3) := by decide +kernel
theorem dX1_measureLevels_32 : decode cX1_measureLevels 32 = .ok (.iload 4, 2) := by decide +kernel
theorem dX1_measureLevels_34 : decode cX1_measureLevels 34 = .ok (.iaload, 1) := by decide +kernel
theorem dX1_measureLevels_35 : decode cX1_measureLevels 35 = .ok (.istore 5, 2) := by decide +kernel
theorem dX1_measureLevels_37 : decode cX1_measureLevels 37 = .ok (.aload_n 0, 1) := by decide +kernel
theorem dX1_measureLevels_38 : decode cX1_measureLevels 38 = .ok (.getfield 9, 3) := by decide +kernel
theorem dX1_measureLevels_41 : decode cX1_measureLevels 41 = .ok (.iload 5, 2) := by decide +kernel
theorem dX1_measureLevels_43 : decode cX1_measureLevels 43 = .ok (.aload_n 0, 1) := by decide +kernel
theorem dX1_measureLevels_44 : decode cX1_measureLevels 44 = .ok (.getfield 9, 3) := by decide +kernel
theorem dX1_measureLevels_47 : decode cX1_measureLevels 47 = .ok (.iload 5, 2) := by decide +kernel
theorem dX1_measureLevels_49 : decode cX1_measureLevels 49 = .ok (.iaload, 1) := by decide +kernel
theorem dX1_measureLevels_50 : decode cX1_measureLevels 50 = .ok (.aload_n 1, 1) := by decide +kernel
theorem dX1_measureLevels_51 : decode cX1_measureLevels 51 = .ok (.iload 4, 2) := by decide +kernel
theorem dX1_measureLevels_53 : decode cX1_measureLevels 53 = .ok (.iload_n 2, 1) := by decide +kernel
theorem dX1_measureLevels_54 : decode cX1_measureLevels 54 = .ok (.iload_n 3, 1) := by decide +kernel
theorem dX1_measureLevels_55 : decode cX1_measureLevels 55 = .ok (.invokevirtual 82, 3) := by decide +kernel
theorem dX1_measureLevels_58 : decode cX1_measureLevels 58 = .ok (.invokestatic 56, 3) := by decide +kernel
theorem dX1_measureLevels_61 : decode cX1_measureLevels 61 = .ok (.iastore, 1) := by decide +kernel
theorem dX1_measureLevels_62 : decode cX1_measureLevels 62 = .ok (.iinc 4 1, 3) := by decide +kernel
theorem dX1_measureLevels_65 : decode cX1_measureLevels 65 = .ok (.goto (-54), 3) := by decide +kernel
theorem dX1_measureLevels_68 : decode cX1_measureLevels 68 = .ok (.return_, 1) := by decide +kernel
theorem dX1_transmits_0 : decode cX1_transmits 0 = .ok (.aload_n 0, 1) := by decide +kernel
theorem dX1_transmits_1 : decode cX1_transmits 1 = .ok (.getfield 15, 3) := by decide +kernel
theorem dX1_transmits_4 : decode cX1_transmits 4 = .ok (.iload_n 1, 1) := by decide +kernel
theorem dX1_transmits_5 : decode cX1_transmits 5 = .ok (.iaload, 1) := by decide +kernel
theorem dX1_transmits_6 : decode cX1_transmits 6 = .ok (.iconst (-1), 1) := by decide +kernel
theorem dX1_transmits_7 : decode cX1_transmits 7 = .ok (.if_icmp .ne 5, 3) := by decide +kernel
theorem dX1_transmits_10 : decode cX1_transmits 10 = .ok (.iconst 0, 1) := by decide +kernel
theorem dX1_transmits_11 : decode cX1_transmits 11 = .ok (.ireturn, 1) := by decide +kernel
theorem dX1_transmits_12 : decode cX1_transmits 12 = .ok (.iload_n 2, 1) := by decide +kernel
theorem dX1_transmits_13 : decode cX1_transmits 13 = .ok (.aload_n 0, 1) := by decide +kernel
theorem dX1_transmits_14 : decode cX1_transmits 14 = .ok (.getfield 18, 3) := by decide +kernel
theorem dX1_transmits_17 : decode cX1_transmits 17 = .ok (.iload_n 1, 1) := by decide +kernel
theorem dX1_transmits_18 : decode cX1_transmits 18 = .ok (.iaload, 1) := by decide +kernel
theorem dX1_transmits_19 : decode cX1_transmits 19 = .ok (.isub, 1) := by decide +kernel
theorem dX1_transmits_20 : decode cX1_transmits 20 = .ok (.istore_n 3, 1) := by decide +kernel
theorem dX1_transmits_21 : decode cX1_transmits 21 = .ok (.iload_n 3, 1) := by decide +kernel
theorem dX1_transmits_22 : decode cX1_transmits 22 = .ok (.ifCond .lt 23, 3) := by decide +kernel
theorem dX1_transmits_25 : decode cX1_transmits 25 = .ok (.iload_n 3, 1) := by decide +kernel
theorem dX1_transmits_26 : decode cX1_transmits 26 = .ok (.iconst 2, 1) := by decide +kernel
theorem dX1_transmits_27 : decode cX1_transmits 27 = .ok (.irem, 1) := by decide +kernel
theorem dX1_transmits_28 : decode cX1_transmits 28 = .ok (.ifCond .ne 17, 3) := by decide +kernel
theorem dX1_transmits_31 : decode cX1_transmits 31 = .ok (.iload_n 3, 1) := by decide +kernel
theorem dX1_transmits_32 : decode cX1_transmits 32 = .ok (.iconst 2, 1) := by decide +kernel
theorem dX1_transmits_33 : decode cX1_transmits 33 = .ok (.idiv, 1) := by decide +kernel
theorem dX1_transmits_34 : decode cX1_transmits 34 = .ok (.aload_n 0, 1) := by decide +kernel
theorem dX1_transmits_35 : decode cX1_transmits 35 = .ok (.getfield 25, 3) := by decide +kernel
theorem dX1_transmits_38 : decode cX1_transmits 38 = .ok (.if_icmp .ge 7, 3) := by decide +kernel
theorem dX1_transmits_41 : decode cX1_transmits 41 = .ok (.iconst 1, 1) := by decide +kernel
theorem dX1_transmits_42 : decode cX1_transmits 42 = .ok (.goto 4, 3) := by decide +kernel
theorem dX1_transmits_45 : decode cX1_transmits 45 = .ok (.iconst 0, 1) := by decide +kernel
theorem dX1_transmits_46 : decode cX1_transmits 46 = .ok (.ireturn, 1) := by decide +kernel
theorem dX1_capturedPacket_0 : decode cX1_capturedPacket 0 = .ok (.iconst (-1), 1) := by decide +kernel
theorem dX1_capturedPacket_1 : decode cX1_capturedPacket 1 = .ok (.istore_n 1, 1) := by decide +kernel
theorem dX1_capturedPacket_2 : decode cX1_capturedPacket 2 = .ok (.iconst 0, 1) := by decide +kernel
theorem dX1_capturedPacket_3 : decode cX1_capturedPacket 3 = .ok (.istore_n 2, 1) := by decide +kernel
theorem dX1_capturedPacket_4 : decode cX1_capturedPacket 4 = .ok (.iconst 0, 1) := by decide +kernel
theorem dX1_capturedPacket_5 : decode cX1_capturedPacket 5 = .ok (.istore_n 3, 1) := by decide +kernel
theorem dX1_capturedPacket_6 : decode cX1_capturedPacket 6 = .ok (.iconst 0, 1) := by decide +kernel
theorem dX1_capturedPacket_7 : decode cX1_capturedPacket 7 = .ok (.istore 4, 2) := by decide +kernel
theorem dX1_capturedPacket_9 : decode cX1_capturedPacket 9 = .ok (.iload 4, 2) := by decide +kernel
theorem dX1_capturedPacket_11 : decode cX1_capturedPacket 11 = .ok (.bipush 8, 2) := by decide +kernel
theorem dX1_capturedPacket_13 : decode cX1_capturedPacket 13 = .ok (.if_icmp .ge 55, 3) := by decide +kernel
theorem dX1_capturedPacket_16 : decode cX1_capturedPacket 16 = .ok (.aload_n 0, 1) := by decide +kernel
theorem dX1_capturedPacket_17 : decode cX1_capturedPacket 17 = .ok (.getfield 9, 3) := by decide +kernel
theorem dX1_capturedPacket_20 : decode cX1_capturedPacket 20 = .ok (.iload 4, 2) := by decide +kernel
theorem dX1_capturedPacket_22 : decode cX1_capturedPacket 22 = .ok (.iaload, 1) := by decide +kernel
theorem dX1_capturedPacket_23 : decode cX1_capturedPacket 23 = .ok (.iload_n 2, 1) := by decide +kernel
theorem dX1_capturedPacket_24 : decode cX1_capturedPacket 24 = .ok (.if_icmp .le 19, 3) := by decide +kernel
theorem dX1_capturedPacket_27 : decode cX1_capturedPacket 27 = .ok (.iload_n 2, 1) := by decide +kernel
theorem dX1_capturedPacket_28 : decode cX1_capturedPacket 28 = .ok (.istore_n 3, 1) := by decide +kernel
theorem dX1_capturedPacket_29 : decode cX1_capturedPacket 29 = .ok (.aload_n 0, 1) := by decide +kernel
theorem dX1_capturedPacket_30 : decode cX1_capturedPacket 30 = .ok (.getfield 9, 3) := by decide +kernel
theorem dX1_capturedPacket_33 : decode cX1_capturedPacket 33 = .ok (.iload 4, 2) := by decide +kernel
theorem dX1_capturedPacket_35 : decode cX1_capturedPacket 35 = .ok (.iaload, 1) := by decide +kernel
theorem dX1_capturedPacket_36 : decode cX1_capturedPacket 36 = .ok (.istore_n 2, 1) := by decide +kernel
theorem dX1_capturedPacket_37 : decode cX1_capturedPacket 37 = .ok (.iload 4, 2) := by decide +kernel
theorem dX1_capturedPacket_39 : decode cX1_capturedPacket 39 = .ok (.istore_n 1, 1) := by decide +kernel
theorem dX1_capturedPacket_40 : decode cX1_capturedPacket 40 = .ok (.goto 22, 3) := by decide +kernel
theorem dX1_capturedPacket_43 : decode cX1_capturedPacket 43 = .ok (.aload_n 0, 1) := by decide +kernel
theorem dX1_capturedPacket_44 : decode cX1_capturedPacket 44 = .ok (.getfield 9, 3) := by decide +kernel
theorem dX1_capturedPacket_47 : decode cX1_capturedPacket 47 = .ok (.iload 4, 2) := by decide +kernel
theorem dX1_capturedPacket_49 : decode cX1_capturedPacket 49 = .ok (.iaload, 1) := by decide +kernel
theorem dX1_capturedPacket_50 : decode cX1_capturedPacket 50 = .ok (.iload_n 3, 1) := by decide +kernel
theorem dX1_capturedPacket_51 : decode cX1_capturedPacket 51 = .ok (.if_icmp .le 11, 3) := by decide +kernel
theorem dX1_capturedPacket_54 : decode cX1_capturedPacket 54 = .ok (.aload_n 0, 1) := by decide +kernel
theorem dX1_capturedPacket_55 : decode cX1_capturedPacket 55 = .ok (.getfield 9, 3) := by decide +kernel
theorem dX1_capturedPacket_58 : decode cX1_capturedPacket 58 = .ok (.iload 4, 2) := by decide +kernel
theorem dX1_capturedPacket_60 : decode cX1_capturedPacket 60 = .ok (.iaload, 1) := by decide +kernel
theorem dX1_capturedPacket_61 : decode cX1_capturedPacket 61 = .ok (.istore_n 3, 1) := by decide +kernel
theorem dX1_capturedPacket_62 : decode cX1_capturedPacket 62 = .ok (.iinc 4 1, 3) := by decide +kernel
theorem dX1_capturedPacket_65 : decode cX1_capturedPacket 65 = .ok (.goto (-56), 3) := by decide +kernel
theorem dX1_capturedPacket_68 : decode cX1_capturedPacket 68 = .ok (.iload_n 3, 1) := by decide +kernel
theorem dX1_capturedPacket_69 : decode cX1_capturedPacket 69 = .ok (.ifCond .ne 7, 3) := by decide +kernel
theorem dX1_capturedPacket_72 : decode cX1_capturedPacket 72 = .ok (.iconst 1, 1) := by decide +kernel
theorem dX1_capturedPacket_73 : decode cX1_capturedPacket 73 = .ok (.goto 4, 3) := by decide +kernel
theorem dX1_capturedPacket_76 : decode cX1_capturedPacket 76 = .ok (.iconst 0, 1) := by decide +kernel
theorem dX1_capturedPacket_77 : decode cX1_capturedPacket 77 = .ok (.istore 4, 2) := by decide +kernel
theorem dX1_capturedPacket_79 : decode cX1_capturedPacket 79 = .ok (.iload 4, 2) := by decide +kernel
theorem dX1_capturedPacket_81 : decode cX1_capturedPacket 81 = .ok (.ifCond .ne 13, 3) := by decide +kernel
theorem dX1_capturedPacket_84 : decode cX1_capturedPacket 84 = .ok (.iload_n 2, 1) := by decide +kernel
theorem dX1_capturedPacket_85 : decode cX1_capturedPacket 85 = .ok (.iload_n 3, 1) := by decide +kernel
theorem dX1_capturedPacket_86 : decode cX1_capturedPacket 86 = .ok (.isub, 1) := by decide +kernel
theorem dX1_capturedPacket_87 : decode cX1_capturedPacket 87 = .ok (.aload_n 0, 1) := by decide +kernel
theorem dX1_capturedPacket_88 : decode cX1_capturedPacket 88 = .ok (.getfield 28, 3) := by decide +kernel
theorem dX1_capturedPacket_91 : decode cX1_capturedPacket 91 = .ok (.if_icmp .lt 7, 3) := by decide +kernel
theorem dX1_capturedPacket_94 : decode cX1_capturedPacket 94 = .ok (.iload_n 1, 1) := by decide +kernel
theorem dX1_capturedPacket_95 : decode cX1_capturedPacket 95 = .ok (.goto 4, 3) := by decide +kernel
theorem dX1_capturedPacket_98 : decode cX1_capturedPacket 98 = .ok (.iconst (-1), 1) := by decide +kernel
theorem dX1_capturedPacket_99 : decode cX1_capturedPacket 99 = .ok (.ireturn, 1) := by decide +kernel
theorem dX2_init_0 : decode cX2_init 0 = .ok (.aload_n 0, 1) := by decide +kernel
theorem dX2_init_1 : decode cX2_init 1 = .ok (.invokespecial 3, 3) := by decide +kernel
theorem dX2_init_4 : decode cX2_init 4 = .ok (.aload_n 0, 1) := by decide +kernel
theorem dX2_init_5 : decode cX2_init 5 = .ok (.bipush 8, 2) := by decide +kernel
theorem dX2_init_7 : decode cX2_init 7 = .ok (.bipush 8, 2) := by decide +kernel
theorem dX2_init_9 : decode cX2_init 9 = .ok (.multianewarray 9 2, 4) := by decide +kernel
theorem dX2_init_13 : decode cX2_init 13 = .ok (.putfield 11, 3) := by decide +kernel
theorem dX2_init_16 : decode cX2_init 16 = .ok (.aload_n 0, 1) := by decide +kernel
theorem dX2_init_17 : decode cX2_init 17 = .ok (.bipush 8, 2) := by decide +kernel
theorem dX2_init_19 : decode cX2_init 19 = .ok (.bipush 8, 2) := by decide +kernel
theorem dX2_init_21 : decode cX2_init 21 = .ok (.multianewarray 9 2, 4) := by decide +kernel
theorem dX2_init_25 : decode cX2_init 25 = .ok (.putfield 16, 3) := by decide +kernel
theorem dX2_init_28 : decode cX2_init 28 = .ok (.return_, 1) := by decide +kernel
set_option maxRecDepth 20000 in
theorem ggX2_clear_J7_fill_53178 : GoodIn wsX2_clear wsJ7_fill_53178 := goodIn_r _ [6] (by decide +kernel) (by decide +kernel)
set_option maxRecDepth 20000 in
theorem gX2_clear_J7_fill_53178 : GoodIn wsX2_clear (va_wsS RX2 19 yJ7_fill_53178 wsJ7_fill_53178) := goodIn_app (goodIn_of _ (by decide +kernel)) ggX2_clear_J7_fill_53178
theorem dX2_clear_0 : decode cX2_clear 0 = .ok (.iconst 0, 1) := by decide +kernel
theorem dX2_clear_1 : decode cX2_clear 1 = .ok (.istore_n 1, 1) := by decide +kernel
theorem dX2_clear_2 : decode cX2_clear 2 = .ok (.iload_n 1, 1) := by decide +kernel
theorem dX2_clear_3 : decode cX2_clear 3 = .ok (.bipush 8, 2) := by decide +kernel
theorem dX2_clear_5 : decode cX2_clear 5 = .ok (.if_icmp .ge 29, 3) := by decide +kernel
theorem dX2_clear_8 : decode cX2_clear 8 = .ok (.aload_n 0, 1) := by decide +kernel
theorem dX2_clear_9 : decode cX2_clear 9 = .ok (.getfield 11, 3) := by decide +kernel
theorem dX2_clear_12 : decode cX2_clear 12 = .ok (.iload_n 1, 1) := by decide +kernel
theorem dX2_clear_13 : decode cX2_clear 13 = .ok (.aaload, 1) := by decide +kernel
theorem dX2_clear_14 : decode cX2_clear 14 = .ok (.iconst 0, 1) := by decide +kernel
theorem dX2_clear_15 : decode cX2_clear 15 = .ok (.invokestatic 19, 3) := by decide +kernel
theorem dX2_clear_18 : decode cX2_clear 18 = .ok (.aload_n 0, 1) := by decide +kernel
theorem dX2_clear_19 : decode cX2_clear 19 = .ok (.getfield 16, 3) := by decide +kernel
theorem dX2_clear_22 : decode cX2_clear 22 = .ok (.iload_n 1, 1) := by decide +kernel
theorem dX2_clear_23 : decode cX2_clear 23 = .ok (.aaload, 1) := by decide +kernel
theorem dX2_clear_24 : decode cX2_clear 24 = .ok (.iconst 0, 1) := by decide +kernel
theorem dX2_clear_25 : decode cX2_clear 25 = .ok (.invokestatic 19, 3) := by decide +kernel
theorem dX2_clear_28 : decode cX2_clear 28 = .ok (.iinc 1 1, 3) := by decide +kernel
theorem dX2_clear_31 : decode cX2_clear 31 = .ok (.goto (-29), 3) := by decide +kernel
theorem dX2_clear_34 : decode cX2_clear 34 = .ok (.return_, 1) := by decide +kernel
theorem dX2_copyFrom_0 : decode cX2_copyFrom 0 = .ok (.iconst 0, 1) := by decide +kernel
theorem dX2_copyFrom_1 : decode cX2_copyFrom 1 = .ok (.istore_n 2, 1) := by decide +kernel
theorem dX2_copyFrom_2 : decode cX2_copyFrom 2 = .ok (.iload_n 2, 1) := by decide +kernel
theorem dX2_copyFrom_3 : decode cX2_copyFrom 3 = .ok (.bipush 8, 2) := by decide +kernel
theorem dX2_copyFrom_5 : decode cX2_copyFrom 5 = .ok (.if_icmp .ge 47, 3) := by decide +kernel
theorem dX2_copyFrom_8 : decode cX2_copyFrom 8 = .ok (.aload_n 1, 1) := by decide +kernel
theorem dX2_copyFrom_9 : decode cX2_copyFrom 9 = .ok (.getfield 11, 3) := by decide +kernel
theorem dX2_copyFrom_12 : decode cX2_copyFrom 12 = .ok (.iload_n 2, 1) := by decide +kernel
theorem dX2_copyFrom_13 : decode cX2_copyFrom 13 = .ok (.aaload, 1) := by decide +kernel
theorem dX2_copyFrom_14 : decode cX2_copyFrom 14 = .ok (.iconst 0, 1) := by decide +kernel
theorem dX2_copyFrom_15 : decode cX2_copyFrom 15 = .ok (.aload_n 0, 1) := by decide +kernel
theorem dX2_copyFrom_16 : decode cX2_copyFrom 16 = .ok (.getfield 11, 3) := by decide +kernel
theorem dX2_copyFrom_19 : decode cX2_copyFrom 19 = .ok (.iload_n 2, 1) := by decide +kernel
theorem dX2_copyFrom_20 : decode cX2_copyFrom 20 = .ok (.aaload, 1) := by decide +kernel
theorem dX2_copyFrom_21 : decode cX2_copyFrom 21 = .ok (.iconst 0, 1) := by decide +kernel
theorem dX2_copyFrom_22 : decode cX2_copyFrom 22 = .ok (.bipush 8, 2) := by decide +kernel
theorem dX2_copyFrom_24 : decode cX2_copyFrom 24 = .ok (.invokestatic 25, 3) := by decide +kernel
theorem dX2_copyFrom_27 : decode cX2_copyFrom 27 = .ok (.aload_n 1, 1) := by decide +kernel
theorem dX2_copyFrom_28 : decode cX2_copyFrom 28 = .ok (.getfield 16, 3) := by decide +kernel
theorem dX2_copyFrom_31 : decode cX2_copyFrom 31 = .ok (.iload_n 2, 1) := by decide +kernel
theorem dX2_copyFrom_32 : decode cX2_copyFrom 32 = .ok (.aaload, 1) := by decide +kernel
theorem dX2_copyFrom_33 : decode cX2_copyFrom 33 = .ok (.iconst 0, 1) := by decide +kernel
theorem dX2_copyFrom_34 : decode cX2_copyFrom 34 = .ok (.aload_n 0, 1) := by decide +kernel
theorem dX2_copyFrom_35 : decode cX2_copyFrom 35 = .ok (.getfield 16, 3) := by decide +kernel
theorem dX2_copyFrom_38 : decode cX2_copyFrom 38 = .ok (.iload_n 2, 1) := by decide +kernel
theorem dX2_copyFrom_39 : decode cX2_copyFrom 39 = .ok (.aaload, 1) := by decide +kernel
theorem dX2_copyFrom_40 : decode cX2_copyFrom 40 = .ok (.iconst 0, 1) := by decide +kernel
theorem dX2_copyFrom_41 : decode cX2_copyFrom 41 = .ok (.bipush 8, 2) := by decide +kernel
theorem dX2_copyFrom_43 : decode cX2_copyFrom 43 = .ok (.invokestatic 25, 3) := by decide +kernel
theorem dX2_copyFrom_46 : decode cX2_copyFrom 46 = .ok (.iinc 2 1, 3) := by decide +kernel
theorem dX2_copyFrom_49 : decode cX2_copyFrom 49 = .ok (.goto (-47), 3) := by decide +kernel
theorem dX2_copyFrom_52 : decode cX2_copyFrom 52 = .ok (.return_, 1) := by decide +kernel
theorem dX2_join_0 : decode cX2_join 0 = .ok (.aload_n 0, 1) := by decide +kernel
theorem dX2_join_1 : decode cX2_join 1 = .ok (.getfield 11, 3) := by decide +kernel
theorem dX2_join_4 : decode cX2_join 4 = .ok (.iload_n 1, 1) := by decide +kernel
theorem dX2_join_5 : decode cX2_join 5 = .ok (.aaload, 1) := by decide +kernel
theorem dX2_join_6 : decode cX2_join 6 = .ok (.iload_n 2, 1) := by decide +kernel
theorem dX2_join_7 : decode cX2_join 7 = .ok (.iaload, 1) := by decide +kernel
theorem dX2_join_8 : decode cX2_join 8 = .ok (.ifCond .eq 7, 3) := by decide +kernel
theorem dX2_join_11 : decode cX2_join 11 = .ok (.iconst 1, 1) := by decide +kernel
theorem dX2_join_12 : decode cX2_join 12 = .ok (.goto 4, 3) := by decide +kernel
theorem dX2_join_15 : decode cX2_join 15 = .ok (.iconst 0, 1) := by decide +kernel
theorem dX2_join_16 : decode cX2_join 16 = .ok (.ireturn, 1) := by decide +kernel
theorem dX2_setStrength_0 : decode cX2_setStrength 0 = .ok (.aload_n 0, 1) := by decide +kernel
theorem dX2_setStrength_1 : decode cX2_setStrength 1 = .ok (.getfield 11, 3) := by decide +kernel
theorem dX2_setStrength_4 : decode cX2_setStrength 4 = .ok (.iload_n 1, 1) := by decide +kernel
theorem dX2_setStrength_5 : decode cX2_setStrength 5 = .ok (.aaload, 1) := by decide +kernel
theorem dX2_setStrength_6 : decode cX2_setStrength 6 = .ok (.iload_n 2, 1) := by decide +kernel
theorem dX2_setStrength_7 : decode cX2_setStrength 7 = .ok (.iload_n 3, 1) := by decide +kernel
theorem dX2_setStrength_8 : decode cX2_setStrength 8 = .ok (.iastore, 1) := by decide +kernel
theorem dX2_setStrength_9 : decode cX2_setStrength 9 = .ok (.aload_n 0, 1) := by decide +kernel
theorem dX2_setStrength_10 : decode cX2_setStrength 10 = .ok (.getfield 11, 3) := by decide +kernel
theorem dX2_setStrength_13 : decode cX2_setStrength 13 = .ok (.iload_n 2, 1) := by decide +kernel
theorem dX2_setStrength_14 : decode cX2_setStrength 14 = .ok (.aaload, 1) := by decide +kernel
theorem dX2_setStrength_15 : decode cX2_setStrength 15 = .ok (.iload_n 1, 1) := by decide +kernel
theorem dX2_setStrength_16 : decode cX2_setStrength 16 = .ok (.iload_n 3, 1) := by decide +kernel
theorem dX2_setStrength_17 : decode cX2_setStrength 17 = .ok (.iastore, 1) := by decide +kernel
theorem dX2_setStrength_18 : decode cX2_setStrength 18 = .ok (.return_, 1) := by decide +kernel
theorem dX2_setLossPeriod_0 : decode cX2_setLossPeriod 0 = .ok (.aload_n 0, 1) := by decide +kernel
theorem dX2_setLossPeriod_1 : decode cX2_setLossPeriod 1 = .ok (.getfield 16, 3) := by decide +kernel
theorem dX2_setLossPeriod_4 : decode cX2_setLossPeriod 4 = .ok (.iload_n 1, 1) := by decide +kernel
theorem dX2_setLossPeriod_5 : decode cX2_setLossPeriod 5 = .ok (.aaload, 1) := by decide +kernel
theorem dX2_setLossPeriod_6 : decode cX2_setLossPeriod 6 = .ok (.iload_n 2, 1) := by decide +kernel
theorem dX2_setLossPeriod_7 : decode cX2_setLossPeriod 7 = .ok (.iload_n 3, 1) := by decide +kernel
theorem dX2_setLossPeriod_8 : decode cX2_setLossPeriod 8 = .ok (.iastore, 1) := by decide +kernel
theorem dX2_setLossPeriod_9 : decode cX2_setLossPeriod 9 = .ok (.aload_n 0, 1) := by decide +kernel
theorem dX2_setLossPeriod_10 : decode cX2_setLossPeriod 10 = .ok (.getfield 16, 3) := by decide +kernel
theorem dX2_setLossPeriod_13 : decode cX2_setLossPeriod 13 = .ok (.iload_n 2, 1) := by decide +kernel
theorem dX2_setLossPeriod_14 : decode cX2_setLossPeriod 14 = .ok (.aaload, 1) := by decide +kernel
theorem dX2_setLossPeriod_15 : decode cX2_setLossPeriod 15 = .ok (.iload_n 1, 1) := by decide +kernel
theorem dX2_setLossPeriod_16 : decode cX2_setLossPeriod 16 = .ok (.iload_n 3, 1) := by decide +kernel
theorem dX2_setLossPeriod_17 : decode cX2_setLossPeriod 17 = .ok (.iastore, 1) := by decide +kernel
theorem dX2_setLossPeriod_18 : decode cX2_setLossPeriod 18 = .ok (.return_, 1) := by decide +kernel
theorem dX2_signal_0 : decode cX2_signal 0 = .ok (.aload_n 0, 1) := by decide +kernel
theorem dX2_signal_1 : decode cX2_signal 1 = .ok (.getfield 16, 3) := by decide +kernel
theorem dX2_signal_4 : decode cX2_signal 4 = .ok (.iload_n 1, 1) := by decide +kernel
theorem dX2_signal_5 : decode cX2_signal 5 = .ok (.aaload, 1) := by decide +kernel
theorem dX2_signal_6 : decode cX2_signal 6 = .ok (.iload_n 2, 1) := by decide +kernel
theorem dX2_signal_7 : decode cX2_signal 7 = .ok (.iaload, 1) := by decide +kernel
theorem dX2_signal_8 : decode cX2_signal 8 = .ok (.istore 4, 2) := by decide +kernel
theorem dX2_signal_10 : decode cX2_signal 10 = .ok (.iload 4, 2) := by decide +kernel
theorem dX2_signal_12 : decode cX2_signal 12 = .ok (.ifCond .le 14, 3) := by decide +kernel
theorem dX2_signal_15 : decode cX2_signal 15 = .ok (.iload_n 3, 1) := by decide +kernel
theorem dX2_signal_16 : decode cX2_signal 16 = .ok (.iconst 1, 1) := by decide +kernel
theorem dX2_signal_17 : decode cX2_signal 17 = .ok (.iadd, 1) := by decide +kernel
theorem dX2_signal_18 : decode cX2_signal 18 = .ok (.iload 4, 2) := by decide +kernel
theorem dX2_signal_20 : decode cX2_signal 20 = .ok (.irem, 1) := by decide +kernel
theorem dX2_signal_21 : decode cX2_signal 21 = .ok (.ifCond .ne 5, 3) := by decide +kernel
theorem dX2_signal_24 : decode cX2_signal 24 = .ok (.iconst 0, 1) := by decide +kernel
theorem dX2_signal_25 : decode cX2_signal 25 = .ok (.ireturn, 1) := by decide +kernel
theorem dX2_signal_26 : decode cX2_signal 26 = .ok (.aload_n 0, 1) := by decide +kernel
theorem dX2_signal_27 : decode cX2_signal 27 = .ok (.getfield 11, 3) := by decide +kernel
theorem dX2_signal_30 : decode cX2_signal 30 = .ok (.iload_n 1, 1) := by decide +kernel
theorem dX2_signal_31 : decode cX2_signal 31 = .ok (.aaload, 1) := by decide +kernel
theorem dX2_signal_32 : decode cX2_signal 32 = .ok (.iload_n 2, 1) := by decide +kernel
theorem dX2_signal_33 : decode cX2_signal 33 = .ok (.iaload, 1) := by decide +kernel
theorem dX2_signal_34 : decode cX2_signal 34 = .ok (.ireturn, 1) := by decide +kernel
set_option maxRecDepth 20000 in
theorem ggX3_init_X2_init : GoodIn wsX3_init wsX2_init := goodIn_r _ [16, 17, 2, 3, 18, 11, 19, 20, 21, 22] (by decide +kernel) (by decide +kernel)
set_option maxRecDepth 20000 in
theorem gX3_init_X2_init_n11 : GoodIn wsX3_init (wsX2_init) := ggX3_init_X2_init
theorem dX3_init_0 : decode cX3_init 0 = .ok (.aload_n 0, 1) := by decide +kernel
theorem dX3_init_1 : decode cX3_init 1 = .ok (.invokespecial 3, 3) := by decide +kernel
theorem dX3_init_4 : decode cX3_init 4 = .ok (.aload_n 0, 1) := by decide +kernel
theorem dX3_init_5 : decode cX3_init 5 = .ok (.new 9, 3) := by decide +kernel
theorem dX3_init_8 : decode cX3_init 8 = .ok (.dup, 1) := by decide +kernel
theorem dX3_init_9 : decode cX3_init 9 = .ok (.invokespecial 11, 3) := by decide +kernel
theorem dX3_init_12 : decode cX3_init 12 = .ok (.putfield 12, 3) := by decide +kernel
theorem dX3_init_15 : decode cX3_init 15 = .ok (.aload_n 0, 1) := by decide +kernel
theorem dX3_init_16 : decode cX3_init 16 = .ok (.iconst 0, 1) := by decide +kernel
theorem dX3_init_17 : decode cX3_init 17 = .ok (.putfield 18, 3) := by decide +kernel
theorem dX3_init_20 : decode cX3_init 20 = .ok (.aload_n 0, 1) := by decide +kernel
theorem dX3_init_21 : decode cX3_init 21 = .ok (.bipush 8, 2) := by decide +kernel
theorem dX3_init_23 : decode cX3_init 23 = .ok (.newarray .boolean, 2) := by decide +kernel
theorem dX3_init_25 : decode cX3_init 25 = .ok (.putfield 22, 3) := by decide +kernel
theorem dX3_init_28 : decode cX3_init 28 = .ok (.aload_n 0, 1) := by decide +kernel
theorem dX3_init_29 : decode cX3_init 29 = .ok (.bipush 8, 2) := by decide +kernel
theorem dX3_init_31 : decode cX3_init 31 = .ok (.newarray .int, 2) := by decide +kernel
theorem dX3_init_33 : decode cX3_init 33 = .ok (.putfield 26, 3) := by decide +kernel
theorem dX3_init_36 : decode cX3_init 36 = .ok (.aload_n 0, 1) := by decide +kernel
theorem dX3_init_37 : decode cX3_init 37 = .ok (.bipush 8, 2) := by decide +kernel
theorem dX3_init_39 : decode cX3_init 39 = .ok (.newarray .int, 2) := by decide +kernel
theorem dX3_init_41 : decode cX3_init 41 = .ok (.putfield 30, 3) := by decide +kernel
theorem dX3_init_44 : decode cX3_init 44 = .ok (.aload_n 0, 1) := by decide +kernel
theorem dX3_init_45 : decode cX3_init 45 = .ok (.bipush 8, 2) := by decide +kernel
theorem dX3_init_47 : decode cX3_init 47 = .ok (.newarray .boolean, 2) := by decide +kernel
theorem dX3_init_49 : decode cX3_init 49 = .ok (.putfield 33, 3) := by decide +kernel
theorem dX3_init_52 : decode cX3_init 52 = .ok (.return_, 1) := by decide +kernel
set_option maxRecDepth 20000 in
theorem ggX3_startAnew_X2_copyFrom : GoodIn wsX3_startAnew wsX2_copyFrom := goodIn_r _ [10, 11, 12, 13, 14, 15, 16, 23, 24] (by decide +kernel) (by decide +kernel)
set_option maxRecDepth 20000 in
theorem gX3_startAnew_X2_copyFrom : GoodIn wsX3_startAnew (wsV RX3 36 RX2 yX2_copyFrom wsX2_copyFrom) := goodIn_app (goodIn_of _ (by decide +kernel)) ggX3_startAnew_X2_copyFrom
theorem dX3_startAnew_0 : decode cX3_startAnew 0 = .ok (.aload_n 0, 1) := by decide +kernel
theorem dX3_startAnew_1 : decode cX3_startAnew 1 = .ok (.getfield 12, 3) := by decide +kernel
theorem dX3_startAnew_4 : decode cX3_startAnew 4 = .ok (.aload_n 2, 1) := by decide +kernel
theorem dX3_startAnew_5 : decode cX3_startAnew 5 = .ok (.invokevirtual 36, 3) := by decide +kernel
theorem dX3_startAnew_8 : decode cX3_startAnew 8 = .ok (.aload_n 0, 1) := by decide +kernel
theorem dX3_startAnew_9 : decode cX3_startAnew 9 = .ok (.iload_n 1, 1) := by decide +kernel
theorem dX3_startAnew_10 : decode cX3_startAnew 10 = .ok (.putfield 18, 3) := by decide +kernel
theorem dX3_startAnew_13 : decode cX3_startAnew 13 = .ok (.iconst 0, 1) := by decide +kernel
theorem dX3_startAnew_14 : decode cX3_startAnew 14 = .ok (.istore_n 3, 1) := by decide +kernel
theorem dX3_startAnew_15 : decode cX3_startAnew 15 = .ok (.iload_n 3, 1) := by decide +kernel
theorem dX3_startAnew_16 : decode cX3_startAnew 16 = .ok (.bipush 8, 2) := by decide +kernel
theorem dX3_startAnew_18 : decode cX3_startAnew 18 = .ok (.if_icmp .ge 30, 3) := by decide +kernel
theorem dX3_startAnew_21 : decode cX3_startAnew 21 = .ok (.aload_n 0, 1) := by decide +kernel
theorem dX3_startAnew_22 : decode cX3_startAnew 22 = .ok (.getfield 22, 3) := by decide +kernel
theorem dX3_startAnew_25 : decode cX3_startAnew 25 = .ok (.iload_n 3, 1) := by decide +kernel
theorem dX3_startAnew_26 : decode cX3_startAnew 26 = .ok (.iconst 1, 1) := by decide +kernel
theorem dX3_startAnew_27 : decode cX3_startAnew 27 = .ok (.bastore, 1) := by decide +kernel
theorem dX3_startAnew_28 : decode cX3_startAnew 28 = .ok (.aload_n 0, 1) := by decide +kernel
theorem dX3_startAnew_29 : decode cX3_startAnew 29 = .ok (.getfield 26, 3) := by decide +kernel
theorem dX3_startAnew_32 : decode cX3_startAnew 32 = .ok (.iload_n 3, 1) := by decide +kernel
theorem dX3_startAnew_33 : decode cX3_startAnew 33 = .ok (.iconst 0, 1) := by decide +kernel
theorem dX3_startAnew_34 : decode cX3_startAnew 34 = .ok (.iastore, 1) := by decide +kernel
theorem dX3_startAnew_35 : decode cX3_startAnew 35 = .ok (.aload_n 0, 1) := by decide +kernel
theorem dX3_startAnew_36 : decode cX3_startAnew 36 = .ok (.getfield 30, 3) := by decide +kernel
theorem dX3_startAnew_39 : decode cX3_startAnew 39 = .ok (.iload_n 3, 1) := by decide +kernel
theorem dX3_startAnew_40 : decode cX3_startAnew 40 = .ok (.iconst 0, 1) := by decide +kernel
theorem dX3_startAnew_41 : decode cX3_startAnew 41 = .ok (.iastore, 1) := by decide +kernel
theorem dX3_startAnew_42 : decode cX3_startAnew 42 = .ok (.iinc 3 1, 3) := by decide +kernel
theorem dX3_startAnew_45 : decode cX3_startAnew 45 = .ok (.goto (-30), 3) := by decide +kernel
theorem dX3_startAnew_48 : decode cX3_startAnew 48 = .ok (.return_, 1) := by decide +kernel
theorem dX3_has_0 : decode cX3_has 0 = .ok (.iload_n 1, 1) := by decide +kernel
theorem dX3_has_1 : decode cX3_has 1 = .ok (.ifCond .lt 15, 3) := by decide +kernel
theorem dX3_has_4 : decode cX3_has 4 = .ok (.iload_n 1, 1) := by decide +kernel
theorem dX3_has_5 : decode cX3_has 5 = .ok (.aload_n 0, 1) := by decide +kernel
theorem dX3_has_6 : decode cX3_has 6 = .ok (.getfield 18, 3) := by decide +kernel
theorem dX3_has_9 : decode cX3_has 9 = .ok (.if_icmp .ge 7, 3) := by decide +kernel
theorem dX3_has_12 : decode cX3_has 12 = .ok (.iconst 1, 1) := by decide +kernel
theorem dX3_has_13 : decode cX3_has 13 = .ok (.goto 4, 3) := by decide +kernel
theorem dX3_has_16 : decode cX3_has 16 = .ok (.iconst 0, 1) := by decide +kernel
theorem dX3_has_17 : decode cX3_has 17 = .ok (.ireturn, 1) := by decide +kernel
theorem dX3_areAlive_0 : decode cX3_areAlive 0 = .ok (.iconst 0, 1) := by decide +kernel
theorem dX3_areAlive_1 : decode cX3_areAlive 1 = .ok (.istore_n 2, 1) := by decide +kernel
theorem dX3_areAlive_2 : decode cX3_areAlive 2 = .ok (.iload_n 2, 1) := by decide +kernel
theorem dX3_areAlive_3 : decode cX3_areAlive 3 = .ok (.aload_n 0, 1) := by decide +kernel
theorem dX3_areAlive_4 : decode cX3_areAlive 4 = .ok (.getfield 18, 3) := by decide +kernel
theorem dX3_areAlive_7 : decode cX3_areAlive 7 = .ok (.if_icmp .ge 29, 3) := by decide +kernel
theorem dX3_areAlive_10 : decode cX3_areAlive 10 = .ok (.iload_n 1, 1) := by decide +kernel
theorem dX3_areAlive_11 : decode cX3_areAlive 11 = .ok (.iload_n 2, 1) := by decide +kernel
theorem dX3_areAlive_12 : decode cX3_areAlive 12 = .ok (.ishr, 1) := by decide +kernel
theorem dX3_areAlive_13 : decode cX3_areAlive 13 = .ok (.iconst 1, 1) := by decide +kernel
theorem dX3_areAlive_14 : decode cX3_areAlive 14 = .ok (.iand, 1) := by decide +kernel
theorem dX3_areAlive_15 : decode cX3_areAlive 15 = .ok (.iconst 1, 1) := by decide +kernel
theorem dX3_areAlive_16 : decode cX3_areAlive 16 = .ok (.if_icmp .ne 14, 3) := by decide +kernel
theorem dX3_areAlive_19 : decode cX3_areAlive 19 = .ok (.aload_n 0, 1) := by decide +kernel
theorem dX3_areAlive_20 : decode cX3_areAlive 20 = .ok (.getfield 22, 3) := by decide +kernel
theorem dX3_areAlive_23 : decode cX3_areAlive 23 = .ok (.iload_n 2, 1) := by decide +kernel
theorem dX3_areAlive_24 : decode cX3_areAlive 24 = .ok (.baload, 1) := by decide +kernel
theorem dX3_areAlive_25 : decode cX3_areAlive 25 = .ok (.ifCond .ne 5, 3) := by decide +kernel
theorem dX3_areAlive_28 : decode cX3_areAlive 28 = .ok (.iconst 0, 1) := by decide +kernel
theorem dX3_areAlive_29 : decode cX3_areAlive 29 = .ok (.ireturn, 1) := by decide +kernel
theorem dX3_areAlive_30 : decode cX3_areAlive 30 = .ok (.iinc 2 1, 3) := by decide +kernel
theorem dX3_areAlive_33 : decode cX3_areAlive 33 = .ok (.goto (-31), 3) := by decide +kernel
theorem dX3_areAlive_36 : decode cX3_areAlive 36 = .ok (.iconst 1, 1) := by decide +kernel
theorem dX3_areAlive_37 : decode cX3_areAlive 37 = .ok (.ireturn, 1) := by decide +kernel
theorem dX3_noteSchedule_0 : decode cX3_noteSchedule 0 = .ok (.iconst 0, 1) := by decide +kernel
theorem dX3_noteSchedule_1 : decode cX3_noteSchedule 1 = .ok (.istore_n 2, 1) := by decide +kernel
theorem dX3_noteSchedule_2 : decode cX3_noteSchedule 2 = .ok (.iload_n 2, 1) := by decide +kernel
theorem dX3_noteSchedule_3 : decode cX3_noteSchedule 3 = .ok (.aload_n 0, 1) := by decide +kernel
theorem dX3_noteSchedule_4 : decode cX3_noteSchedule 4 = .ok (.getfield 18, 3) := by decide +kernel
theorem dX3_noteSchedule_7 : decode cX3_noteSchedule 7 = .ok (.if_icmp .ge 68, 3) := by decide +kernel
theorem dX3_noteSchedule_10 : decode cX3_noteSchedule 10 = .ok (.aload_n 0, 1) := by decide +kernel
theorem dX3_noteSchedule_11 : decode cX3_noteSchedule 11 = .ok (.getfield 33, 3) := by decide +kernel
theorem dX3_noteSchedule_14 : decode cX3_noteSchedule 14 = .ok (.iload_n 2, 1) := by decide +kernel
theorem dX3_noteSchedule_15 : decode cX3_noteSchedule 15 = .ok (.aload_n 1, 1) := by decide +kernel
theorem dX3_noteSchedule_16 : decode cX3_noteSchedule 16 = .ok (.getfield 40, 3) := by decide +kernel
theorem dX3_noteSchedule_19 : decode cX3_noteSchedule 19 = .ok (.iload_n 2, 1) := by decide +kernel
theorem dX3_noteSchedule_20 : decode cX3_noteSchedule 20 = .ok (.iaload, 1) := by decide +kernel
theorem dX3_noteSchedule_21 : decode cX3_noteSchedule 21 = .ok (.iconst (-1), 1) := by decide +kernel
theorem dX3_noteSchedule_22 : decode cX3_noteSchedule 22 = .ok (.if_icmp .eq 7, 3) := by decide +kernel
theorem dX3_noteSchedule_25 : decode cX3_noteSchedule 25 = .ok (.iconst 1, 1) := by decide +kernel
theorem dX3_noteSchedule_26 : decode cX3_noteSchedule 26 = .ok (.goto 4, 3) := by decide +kernel
theorem dX3_noteSchedule_29 : decode cX3_noteSchedule 29 = .ok (.iconst 0, 1) := by decide +kernel
theorem dX3_noteSchedule_30 : decode cX3_noteSchedule 30 = .ok (.bastore, 1) := by decide +kernel
theorem dX3_noteSchedule_31 : decode cX3_noteSchedule 31 = .ok (.aload_n 0, 1) := by decide +kernel
theorem dX3_noteSchedule_32 : decode cX3_noteSchedule 32 = .ok (.getfield 33, 3) := by decide +kernel
theorem dX3_noteSchedule_35 : decode cX3_noteSchedule 35 = .ok (.iload_n 2, 1) := by decide +kernel
theorem dX3_noteSchedule_36 : decode cX3_noteSchedule 36 = .ok (.baload, 1) := by decide +kernel
theorem dX3_noteSchedule_37 : decode cX3_noteSchedule 37 = .ok (.ifCond .eq 13, 3) := by decide +kernel
theorem dX3_noteSchedule_40 : decode cX3_noteSchedule 40 = .ok (.aload_n 0, 1) := by decide +kernel
theorem dX3_noteSchedule_41 : decode cX3_noteSchedule 41 = .ok (.getfield 26, 3) := by decide +kernel
theorem dX3_noteSchedule_44 : decode cX3_noteSchedule 44 = .ok (.iload_n 2, 1) := by decide +kernel
theorem dX3_noteSchedule_45 : decode cX3_noteSchedule 45 = .ok (.iconst 0, 1) := by decide +kernel
theorem dX3_noteSchedule_46 : decode cX3_noteSchedule 46 = .ok (.iastore, 1) := by decide +kernel
theorem dX3_noteSchedule_47 : decode cX3_noteSchedule 47 = .ok (.goto 22, 3) := by decide +kernel
theorem dX3_noteSchedule_50 : decode cX3_noteSchedule 50 = .ok (.aload_n 0, 1) := by decide +kernel
theorem dX3_noteSchedule_51 : decode cX3_noteSchedule 51 = .ok (.getfield 22, 3) := by decide +kernel
theorem dX3_noteSchedule_54 : decode cX3_noteSchedule 54 = .ok (.iload_n 2, 1) := by decide +kernel
theorem dX3_noteSchedule_55 : decode cX3_noteSchedule 55 = .ok (.baload, 1) := by decide +kernel
theorem dX3_noteSchedule_56 : decode cX3_noteSchedule 56 = .ok (.ifCond .eq 13, 3) := by decide +kernel
theorem dX3_noteSchedule_59 : decode cX3_noteSchedule 59 = .ok (.aload_n 0, 1) := by decide +kernel
theorem dX3_noteSchedule_60 : decode cX3_noteSchedule 60 = .ok (.getfield 26, 3) := by decide +kernel
theorem dX3_noteSchedule_63 : decode cX3_noteSchedule 63 = .ok (.iload_n 2, 1) := by decide +kernel
theorem dX3_noteSchedule_64 : decode cX3_noteSchedule 64 = .ok (.dup2, 1) := by decide +kernel
theorem dX3_noteSchedule_65 : decode cX3_noteSchedule 65 = .ok (.iaload, 1) := by decide +kernel
theorem dX3_noteSchedule_66 : decode cX3_noteSchedule 66 = .ok (.iconst 1, 1) := by decide +kernel
theorem dX3_noteSchedule_67 : decode cX3_noteSchedule 67 = .ok (.iadd, 1) := by decide +kernel
theorem dX3_noteSchedule_68 : decode cX3_noteSchedule 68 = .ok (.iastore, 1) := by decide +kernel
theorem dX3_noteSchedule_69 : decode cX3_noteSchedule 69 = .ok (.iinc 2 1, 3) := by decide +kernel
theorem dX3_noteSchedule_72 : decode cX3_noteSchedule 72 = .ok (.goto (-70), 3) := by decide +kernel
theorem dX3_noteSchedule_75 : decode cX3_noteSchedule 75 = .ok (.return_, 1) := by decide +kernel
theorem dX3_noteNoSchedule_0 : decode cX3_noteNoSchedule 0 = .ok (.iconst 0, 1) := by decide +kernel
theorem dX3_noteNoSchedule_1 : decode cX3_noteNoSchedule 1 = .ok (.istore_n 1, 1) := by decide +kernel
theorem dX3_noteNoSchedule_2 : decode cX3_noteNoSchedule 2 = .ok (.iload_n 1, 1) := by decide +kernel
theorem dX3_noteNoSchedule_3 : decode cX3_noteNoSchedule 3 = .ok (.aload_n 0, 1) := by decide +kernel
theorem dX3_noteNoSchedule_4 : decode cX3_noteNoSchedule 4 = .ok (.getfield 18, 3) := by decide +kernel
theorem dX3_noteNoSchedule_7 : decode cX3_noteNoSchedule 7 = .ok (.if_icmp .ge 28, 3) := by decide +kernel
theorem dX3_noteNoSchedule_10 : decode cX3_noteNoSchedule 10 = .ok (.aload_n 0, 1) := by decide +kernel
theorem dX3_noteNoSchedule_11 : decode cX3_noteNoSchedule 11 = .ok (.getfield 22, 3) := by decide +kernel
theorem dX3_noteNoSchedule_14 : decode cX3_noteNoSchedule 14 = .ok (.iload_n 1, 1) := by decide +kernel
theorem dX3_noteNoSchedule_15 : decode cX3_noteNoSchedule 15 = .ok (.baload, 1) := by decide +kernel
theorem dX3_noteNoSchedule_16 : decode cX3_noteNoSchedule 16 = .ok (.ifCond .eq 13, 3) := by decide +kernel
theorem dX3_noteNoSchedule_19 : decode cX3_noteNoSchedule 19 = .ok (.aload_n 0, 1) := by decide +kernel
theorem dX3_noteNoSchedule_20 : decode cX3_noteNoSchedule 20 = .ok (.getfield 26, 3) := by decide +kernel
theorem dX3_noteNoSchedule_23 : decode cX3_noteNoSchedule 23 = .ok (.iload_n 1, 1) := by decide +kernel
theorem dX3_noteNoSchedule_24 : decode cX3_noteNoSchedule 24 = .ok (.dup2, 1) := by decide +kernel
theorem dX3_noteNoSchedule_25 : decode cX3_noteNoSchedule 25 = .ok (.iaload, 1) := by decide +kernel
theorem dX3_noteNoSchedule_26 : decode cX3_noteNoSchedule 26 = .ok (.iconst 1, 1) := by decide +kernel
theorem dX3_noteNoSchedule_27 : decode cX3_noteNoSchedule 27 = .ok (.iadd, 1) := by decide +kernel
theorem dX3_noteNoSchedule_28 : decode cX3_noteNoSchedule 28 = .ok (.iastore, 1) := by decide +kernel
theorem dX3_noteNoSchedule_29 : decode cX3_noteNoSchedule 29 = .ok (.iinc 1 1, 3) := by decide +kernel
theorem dX3_noteNoSchedule_32 : decode cX3_noteNoSchedule 32 = .ok (.goto (-30), 3) := by decide +kernel
theorem dX3_noteNoSchedule_35 : decode cX3_noteNoSchedule 35 = .ok (.return_, 1) := by decide +kernel
theorem dX4_init_0 : decode cX4_init 0 = .ok (.aload_n 0, 1) := by decide +kernel
theorem dX4_init_1 : decode cX4_init 1 = .ok (.invokespecial 3, 3) := by decide +kernel
theorem dX4_init_4 : decode cX4_init 4 = .ok (.aload_n 0, 1) := by decide +kernel
theorem dX4_init_5 : decode cX4_init 5 = .ok (.bipush 6, 2) := by decide +kernel
theorem dX4_init_7 : decode cX4_init 7 = .ok (.newarray .int, 2) := by decide +kernel
theorem dX4_init_9 : decode cX4_init 9 = .ok (.putfield 9, 3) := by decide +kernel
theorem dX4_init_12 : decode cX4_init 12 = .ok (.aload_n 0, 1) := by decide +kernel
theorem dX4_init_13 : decode cX4_init 13 = .ok (.iconst 0, 1) := by decide +kernel
theorem dX4_init_14 : decode cX4_init 14 = .ok (.putfield 15, 3) := by decide +kernel
theorem dX4_init_17 : decode cX4_init 17 = .ok (.return_, 1) := by decide +kernel
set_option maxRecDepth 20000 in
theorem ggX4_build_X4_insert : GoodIn wsX4_build wsX4_insert := goodIn_r _ [13, 3, 1, 14, 15, 16, 17, 18, 19, 20, 23, 24, 21, 22, 25, 26, 27, 28, 29, 30, 31] (by decide +kernel) (by decide +kernel)
set_option maxRecDepth 20000 in
theorem gX4_build_X4_insert : GoodIn wsX4_build (wsV RX4 33 RX4 yX4_insert wsX4_insert) := goodIn_app (goodIn_of _ (by decide +kernel)) ggX4_build_X4_insert
theorem dX4_build_0 : decode cX4_build 0 = .ok (.aload_n 0, 1) := by decide +kernel
theorem dX4_build_1 : decode cX4_build 1 = .ok (.iconst 0, 1) := by decide +kernel
theorem dX4_build_2 : decode cX4_build 2 = .ok (.putfield 15, 3) := by decide +kernel
theorem dX4_build_5 : decode cX4_build 5 = .ok (.iconst 0, 1) := by decide +kernel
theorem dX4_build_6 : decode cX4_build 6 = .ok (.istore_n 3, 1) := by decide +kernel
theorem dX4_build_7 : decode cX4_build 7 = .ok (.iload_n 3, 1) := by decide +kernel
theorem dX4_build_8 : decode cX4_build 8 = .ok (.aload_n 1, 1) := by decide +kernel
theorem dX4_build_9 : decode cX4_build 9 = .ok (.getfield 19, 3) := by decide +kernel
theorem dX4_build_12 : decode cX4_build 12 = .ok (.if_icmp .ge 27, 3) := by decide +kernel
theorem dX4_build_15 : decode cX4_build 15 = .ok (.aload_n 1, 1) := by decide +kernel
theorem dX4_build_16 : decode cX4_build 16 = .ok (.getfield 24, 3) := by decide +kernel
theorem dX4_build_19 : decode cX4_build 19 = .ok (.iload_n 3, 1) := by decide +kernel
theorem dX4_build_20 : decode cX4_build 20 = .ok (.aaload, 1) := by decide +kernel
theorem dX4_build_21 : decode cX4_build 21 = .ok (.getfield 28, 3) := by decide +kernel
theorem dX4_build_24 : decode cX4_build 24 = .ok (.ifCond .le 9, 3) := by decide +kernel
theorem dX4_build_27 : decode cX4_build 27 = .ok (.aload_n 0, 1) := by decide +kernel
theorem dX4_build_28 : decode cX4_build 28 = .ok (.aload_n 1, 1) := by decide +kernel
theorem dX4_build_29 : decode cX4_build 29 = .ok (.iload_n 3, 1) := by decide +kernel
theorem dX4_build_30 : decode cX4_build 30 = .ok (.invokevirtual 33, 3) := by decide +kernel
theorem dX4_build_33 : decode cX4_build 33 = .ok (.iinc 3 1, 3) := by decide +kernel
theorem dX4_build_36 : decode cX4_build 36 = .ok (.goto (-29), 3) := by decide +kernel
theorem dX4_build_39 : decode cX4_build 39 = .ok (.aload_n 0, 1) := by decide +kernel
theorem dX4_build_40 : decode cX4_build 40 = .ok (.aload_n 0, 1) := by decide +kernel
theorem dX4_build_41 : decode cX4_build 41 = .ok (.getfield 15, 3) := by decide +kernel
theorem dX4_build_44 : decode cX4_build 44 = .ok (.iload_n 2, 1) := by decide +kernel
theorem dX4_build_45 : decode cX4_build 45 = .ok (.invokestatic 37, 3) := by decide +kernel
theorem dX4_build_48 : decode cX4_build 48 = .ok (.putfield 15, 3) := by decide +kernel
theorem dX4_build_51 : decode cX4_build 51 = .ok (.return_, 1) := by decide +kernel
set_option maxRecDepth 20000 in
theorem ggX4_insert_X5_oldestRound : GoodIn wsX4_insert wsX5_oldestRound := goodIn_r _ [8, 9, 14, 15, 16, 17, 18, 19, 20] (by decide +kernel) (by decide +kernel)
set_option maxRecDepth 20000 in
theorem gX4_insert_X5_oldestRound : GoodIn wsX4_insert (wsV RX4 43 RX5 yX5_oldestRound wsX5_oldestRound) := goodIn_app (goodIn_of _ (by decide +kernel)) ggX4_insert_X5_oldestRound
theorem dX4_insert_0 : decode cX4_insert 0 = .ok (.aload_n 1, 1) := by decide +kernel
theorem dX4_insert_1 : decode cX4_insert 1 = .ok (.getfield 24, 3) := by decide +kernel
theorem dX4_insert_4 : decode cX4_insert 4 = .ok (.iload_n 2, 1) := by decide +kernel
theorem dX4_insert_5 : decode cX4_insert 5 = .ok (.aaload, 1) := by decide +kernel
theorem dX4_insert_6 : decode cX4_insert 6 = .ok (.invokevirtual 43, 3) := by decide +kernel
theorem dX4_insert_9 : decode cX4_insert 9 = .ok (.istore_n 3, 1) := by decide +kernel
theorem dX4_insert_10 : decode cX4_insert 10 = .ok (.aload_n 0, 1) := by decide +kernel
theorem dX4_insert_11 : decode cX4_insert 11 = .ok (.getfield 15, 3) := by decide +kernel
theorem dX4_insert_14 : decode cX4_insert 14 = .ok (.istore 4, 2) := by decide +kernel
theorem dX4_insert_16 : decode cX4_insert 16 = .ok (.iload 4, 2) := by decide +kernel
theorem dX4_insert_18 : decode cX4_insert 18 = .ok (.ifCond .le 46, 3) := by decide +kernel
theorem dX4_insert_21 : decode cX4_insert 21 = .ok (.aload_n 1, 1) := by decide +kernel
theorem dX4_insert_22 : decode cX4_insert 22 = .ok (.getfield 24, 3) := by decide +kernel
theorem dX4_insert_25 : decode cX4_insert 25 = .ok (.aload_n 0, 1) := by decide +kernel
theorem dX4_insert_26 : decode cX4_insert 26 = .ok (.getfield 9, 3) := by decide +kernel
theorem dX4_insert_29 : decode cX4_insert 29 = .ok (.iload 4, 2) := by decide +kernel
theorem dX4_insert_31 : decode cX4_insert 31 = .ok (.iconst 1, 1) := by decide +kernel
theorem dX4_insert_32 : decode cX4_insert 32 = .ok (.isub, 1) := by decide +kernel
theorem dX4_insert_33 : decode cX4_insert 33 = .ok (.iaload, 1) := by decide +kernel
theorem dX4_insert_34 : decode cX4_insert 34 = .ok (.aaload, 1) := by decide +kernel
theorem dX4_insert_35 : decode cX4_insert 35 = .ok (.invokevirtual 43, 3) := by decide +kernel
theorem dX4_insert_38 : decode cX4_insert 38 = .ok (.iload_n 3, 1) := by decide +kernel
theorem dX4_insert_39 : decode cX4_insert 39 = .ok (.if_icmp .le 25, 3) := by decide +kernel
theorem dX4_insert_42 : decode cX4_insert 42 = .ok (.aload_n 0, 1) := by decide +kernel
theorem dX4_insert_43 : decode cX4_insert 43 = .ok (.getfield 9, 3) := by decide +kernel
theorem dX4_insert_46 : decode cX4_insert 46 = .ok (.iload 4, 2) := by decide +kernel
theorem dX4_insert_48 : decode cX4_insert 48 = .ok (.aload_n 0, 1) := by decide +kernel
theorem dX4_insert_49 : decode cX4_insert 49 = .ok (.getfield 9, 3) := by decide +kernel
theorem dX4_insert_52 : decode cX4_insert 52 = .ok (.iload 4, 2) := by decide +kernel
theorem dX4_insert_54 : decode cX4_insert 54 = .ok (.iconst 1, 1) := by decide +kernel
theorem dX4_insert_55 : decode cX4_insert 55 = .ok (.isub, 1) := by decide +kernel
theorem dX4_insert_56 : decode cX4_insert 56 = .ok (.iaload, 1) := by decide +kernel
theorem dX4_insert_57 : decode cX4_insert 57 = .ok (.iastore, 1) := by decide +kernel
theorem dX4_insert_58 : decode cX4_insert 58 = .ok (.iinc 4 (-1), 3) := by decide +kernel
theorem dX4_insert_61 : decode cX4_insert 61 = .ok (.goto (-45), 3) := by decide +kernel
theorem dX4_insert_64 : decode cX4_insert 64 = .ok (.aload_n 0, 1) := by decide +kernel
theorem dX4_insert_65 : decode cX4_insert 65 = .ok (.getfield 9, 3) := by decide +kernel
theorem dX4_insert_68 : decode cX4_insert 68 = .ok (.iload 4, 2) := by decide +kernel
theorem dX4_insert_70 : decode cX4_insert 70 = .ok (.iload_n 2, 1) := by decide +kernel
theorem dX4_insert_71 : decode cX4_insert 71 = .ok (.iastore, 1) := by decide +kernel
theorem dX4_insert_72 : decode cX4_insert 72 = .ok (.aload_n 0, 1) := by decide +kernel
theorem dX4_insert_73 : decode cX4_insert 73 = .ok (.dup, 1) := by decide +kernel
theorem dX4_insert_74 : decode cX4_insert 74 = .ok (.getfield 15, 3) := by decide +kernel
theorem dX4_insert_77 : decode cX4_insert 77 = .ok (.iconst 1, 1) := by decide +kernel
theorem dX4_insert_78 : decode cX4_insert 78 = .ok (.iadd, 1) := by decide +kernel
theorem dX4_insert_79 : decode cX4_insert 79 = .ok (.putfield 15, 3) := by decide +kernel
theorem dX4_insert_82 : decode cX4_insert 82 = .ok (.return_, 1) := by decide +kernel
set_option maxRecDepth 20000 in
theorem ggX4_encodedSize_X4_hasRepeatedSource : GoodIn wsX4_encodedSize wsX4_hasRepeatedSource := goodIn_r _ [10, 1, 11, 12, 13, 14, 15, 16, 17, 18, 19, 20, 21, 22, 23, 24] (by decide +kernel) (by decide +kernel)
set_option maxRecDepth 20000 in
theorem gX4_encodedSize_X4_hasRepeatedSource : GoodIn wsX4_encodedSize (wsV RX4 47 RX4 yX4_hasRepeatedSource wsX4_hasRepeatedSource) := goodIn_app (goodIn_of _ (by decide +kernel)) ggX4_encodedSize_X4_hasRepeatedSource
theorem dX4_encodedSize_0 : decode cX4_encodedSize 0 = .ok (.iconst 3, 1) := by decide +kernel
theorem dX4_encodedSize_1 : decode cX4_encodedSize 1 = .ok (.aload_n 0, 1) := by decide +kernel
theorem dX4_encodedSize_2 : decode cX4_encodedSize 2 = .ok (.getfield 15, 3) := by decide +kernel
theorem dX4_encodedSize_5 : decode cX4_encodedSize 5 = .ok (.imul, 1) := by decide +kernel
theorem dX4_encodedSize_6 : decode cX4_encodedSize 6 = .ok (.istore_n 2, 1) := by decide +kernel
theorem dX4_encodedSize_7 : decode cX4_encodedSize 7 = .ok (.bipush 8, 2) := by decide +kernel
theorem dX4_encodedSize_9 : decode cX4_encodedSize 9 = .ok (.aload_n 0, 1) := by decide +kernel
theorem dX4_encodedSize_10 : decode cX4_encodedSize 10 = .ok (.aload_n 1, 1) := by decide +kernel
theorem dX4_encodedSize_11 : decode cX4_encodedSize 11 = .ok (.invokevirtual 47, 3) := by decide +kernel
theorem dX4_encodedSize_14 : decode cX4_encodedSize 14 = .ok (.ifCond .eq 7, 3) := by decide +kernel
theorem dX4_encodedSize_17 : decode cX4_encodedSize 17 = .ok (.iload_n 2, 1) := by decide +kernel
theorem dX4_encodedSize_18 : decode cX4_encodedSize 18 = .ok (.goto 9, 3) := by decide +kernel
theorem dX4_encodedSize_21 : decode cX4_encodedSize 21 = .ok (.iload_n 2, 1) := by decide +kernel
theorem dX4_encodedSize_22 : decode cX4_encodedSize 22 = .ok (.bipush 8, 2) := by decide +kernel
theorem dX4_encodedSize_24 : decode cX4_encodedSize 24 = .ok (.invokestatic 37, 3) := by decide +kernel
theorem dX4_encodedSize_27 : decode cX4_encodedSize 27 = .ok (.iadd, 1) := by decide +kernel
theorem dX4_encodedSize_28 : decode cX4_encodedSize 28 = .ok (.ireturn, 1) := by decide +kernel
theorem dX4_hasRepeatedSource_0 : decode cX4_hasRepeatedSource 0 = .ok (.iconst 0, 1) := by decide +kernel
theorem dX4_hasRepeatedSource_1 : decode cX4_hasRepeatedSource 1 = .ok (.istore_n 2, 1) := by decide +kernel
theorem dX4_hasRepeatedSource_2 : decode cX4_hasRepeatedSource 2 = .ok (.iconst 0, 1) := by decide +kernel
theorem dX4_hasRepeatedSource_3 : decode cX4_hasRepeatedSource 3 = .ok (.istore_n 3, 1) := by decide +kernel
theorem dX4_hasRepeatedSource_4 : decode cX4_hasRepeatedSource 4 = .ok (.iload_n 3, 1) := by decide +kernel
theorem dX4_hasRepeatedSource_5 : decode cX4_hasRepeatedSource 5 = .ok (.aload_n 0, 1) := by decide +kernel
theorem dX4_hasRepeatedSource_6 : decode cX4_hasRepeatedSource 6 = .ok (.getfield 15, 3) := by decide +kernel
theorem dX4_hasRepeatedSource_9 : decode cX4_hasRepeatedSource 9 = .ok (.if_icmp .ge 41, 3) := by decide +kernel
theorem dX4_hasRepeatedSource_12 : decode cX4_hasRepeatedSource 12 = .ok (.iconst 1, 1) := by decide +kernel
theorem dX4_hasRepeatedSource_13 : decode cX4_hasRepeatedSource 13 = .ok (.aload_n 1, 1) := by decide +kernel
theorem dX4_hasRepeatedSource_14 : decode cX4_hasRepeatedSource 14 = .ok (.getfield 24, 3) := by decide +kernel
theorem dX4_hasRepeatedSource_17 : decode cX4_hasRepeatedSource 17 = .ok (.aload_n 0, 1) := by decide +kernel
theorem dX4_hasRepeatedSource_18 : decode cX4_hasRepeatedSource 18 = .ok (.getfield 9, 3) := by decide +kernel
theorem dX4_hasRepeatedSource_21 : decode cX4_hasRepeatedSource 21 = .ok (.iload_n 3, 1) := by decide +kernel
theorem dX4_hasRepeatedSource_22 : decode cX4_hasRepeatedSource 22 = .ok (.iaload, 1) := by decide +kernel
theorem dX4_hasRepeatedSource_23 : decode cX4_hasRepeatedSource 23 = .ok (.aaload, 1) := by decide +kernel
theorem dX4_hasRepeatedSource_24 : decode cX4_hasRepeatedSource 24 = .ok (.getfield 51, 3) := by decide +kernel
theorem dX4_hasRepeatedSource_27 : decode cX4_hasRepeatedSource 27 = .ok (.ishl, 1) := by decide +kernel
theorem dX4_hasRepeatedSource_28 : decode cX4_hasRepeatedSource 28 = .ok (.istore 4, 2) := by decide +kernel
theorem dX4_hasRepeatedSource_30 : decode cX4_hasRepeatedSource 30 = .ok (.iload_n 2, 1) := by decide +kernel
theorem dX4_hasRepeatedSource_31 : decode cX4_hasRepeatedSource 31 = .ok (.iload 4, 2) := by decide +kernel
theorem dX4_hasRepeatedSource_33 : decode cX4_hasRepeatedSource 33 = .ok (.iand, 1) := by decide +kernel
theorem dX4_hasRepeatedSource_34 : decode cX4_hasRepeatedSource 34 = .ok (.ifCond .eq 5, 3) := by decide +kernel
theorem dX4_hasRepeatedSource_37 : decode cX4_hasRepeatedSource 37 = .ok (.iconst 1, 1) := by decide +kernel
theorem dX4_hasRepeatedSource_38 : decode cX4_hasRepeatedSource 38 = .ok (.ireturn, 1) := by decide +kernel
theorem dX4_hasRepeatedSource_39 : decode cX4_hasRepeatedSource 39 = .ok (.iload_n 2, 1) := by decide +kernel
theorem dX4_hasRepeatedSource_40 : decode cX4_hasRepeatedSource 40 = .ok (.iload 4, 2) := by decide +kernel
theorem dX4_hasRepeatedSource_42 : decode cX4_hasRepeatedSource 42 = .ok (.ior, 1) := by decide +kernel
theorem dX4_hasRepeatedSource_43 : decode cX4_hasRepeatedSource 43 = .ok (.istore_n 2, 1) := by decide +kernel
theorem dX4_hasRepeatedSource_44 : decode cX4_hasRepeatedSource 44 = .ok (.iinc 3 1, 3) := by decide +kernel
theorem dX4_hasRepeatedSource_47 : decode cX4_hasRepeatedSource 47 = .ok (.goto (-43), 3) := by decide +kernel
theorem dX4_hasRepeatedSource_50 : decode cX4_hasRepeatedSource 50 = .ok (.iconst 0, 1) := by decide +kernel
theorem dX4_hasRepeatedSource_51 : decode cX4_hasRepeatedSource 51 = .ok (.ireturn, 1) := by decide +kernel
theorem dX5_init_0 : decode cX5_init 0 = .ok (.aload_n 0, 1) := by decide +kernel
theorem dX5_init_1 : decode cX5_init 1 = .ok (.invokespecial 3, 3) := by decide +kernel
theorem dX5_init_4 : decode cX5_init 4 = .ok (.aload_n 0, 1) := by decide +kernel
theorem dX5_init_5 : decode cX5_init 5 = .ok (.iconst 4, 1) := by decide +kernel
theorem dX5_init_6 : decode cX5_init 6 = .ok (.newarray .int, 2) := by decide +kernel
theorem dX5_init_8 : decode cX5_init 8 = .ok (.putfield 9, 3) := by decide +kernel
theorem dX5_init_11 : decode cX5_init 11 = .ok (.aload_n 0, 1) := by decide +kernel
theorem dX5_init_12 : decode cX5_init 12 = .ok (.iconst 0, 1) := by decide +kernel
theorem dX5_init_13 : decode cX5_init 13 = .ok (.putfield 15, 3) := by decide +kernel
theorem dX5_init_16 : decode cX5_init 16 = .ok (.aload_n 0, 1) := by decide +kernel
theorem dX5_init_17 : decode cX5_init 17 = .ok (.iconst 1, 1) := by decide +kernel
theorem dX5_init_18 : decode cX5_init 18 = .ok (.putfield 19, 3) := by decide +kernel
theorem dX5_init_21 : decode cX5_init 21 = .ok (.aload_n 0, 1) := by decide +kernel
theorem dX5_init_22 : decode cX5_init 22 = .ok (.iconst 0, 1) := by decide +kernel
theorem dX5_init_23 : decode cX5_init 23 = .ok (.putfield 22, 3) := by decide +kernel
theorem dX5_init_26 : decode cX5_init 26 = .ok (.aload_n 0, 1) := by decide +kernel
theorem dX5_init_27 : decode cX5_init 27 = .ok (.iconst 0, 1) := by decide +kernel
theorem dX5_init_28 : decode cX5_init 28 = .ok (.putfield 25, 3) := by decide +kernel
theorem dX5_init_31 : decode cX5_init 31 = .ok (.aload_n 0, 1) := by decide +kernel
theorem dX5_init_32 : decode cX5_init 32 = .ok (.iconst 0, 1) := by decide +kernel
theorem dX5_init_33 : decode cX5_init 33 = .ok (.putfield 28, 3) := by decide +kernel
theorem dX5_init_36 : decode cX5_init 36 = .ok (.aload_n 0, 1) := by decide +kernel
theorem dX5_init_37 : decode cX5_init 37 = .ok (.iconst 0, 1) := by decide +kernel
theorem dX5_init_38 : decode cX5_init 38 = .ok (.putfield 31, 3) := by decide +kernel
theorem dX5_init_41 : decode cX5_init 41 = .ok (.return_, 1) := by decide +kernel
theorem dX5_startAnew_0 : decode cX5_startAnew 0 = .ok (.aload_n 0, 1) := by decide +kernel
theorem dX5_startAnew_1 : decode cX5_startAnew 1 = .ok (.iload_n 1, 1) := by decide +kernel
theorem dX5_startAnew_2 : decode cX5_startAnew 2 = .ok (.putfield 15, 3) := by decide +kernel
theorem dX5_startAnew_5 : decode cX5_startAnew 5 = .ok (.aload_n 0, 1) := by decide +kernel
theorem dX5_startAnew_6 : decode cX5_startAnew 6 = .ok (.iload_n 2, 1) := by decide +kernel
theorem dX5_startAnew_7 : decode cX5_startAnew 7 = .ok (.putfield 19, 3) := by decide +kernel
theorem dX5_startAnew_10 : decode cX5_startAnew 10 = .ok (.aload_n 0, 1) := by decide +kernel
theorem dX5_startAnew_11 : decode cX5_startAnew 11 = .ok (.iload_n 3, 1) := by decide +kernel
theorem dX5_startAnew_12 : decode cX5_startAnew 12 = .ok (.putfield 22, 3) := by decide +kernel
theorem dX5_startAnew_15 : decode cX5_startAnew 15 = .ok (.aload_n 0, 1) := by decide +kernel
theorem dX5_startAnew_16 : decode cX5_startAnew 16 = .ok (.iconst 0, 1) := by decide +kernel
theorem dX5_startAnew_17 : decode cX5_startAnew 17 = .ok (.putfield 25, 3) := by decide +kernel
theorem dX5_startAnew_20 : decode cX5_startAnew 20 = .ok (.aload_n 0, 1) := by decide +kernel
theorem dX5_startAnew_21 : decode cX5_startAnew 21 = .ok (.iconst 0, 1) := by decide +kernel
theorem dX5_startAnew_22 : decode cX5_startAnew 22 = .ok (.putfield 28, 3) := by decide +kernel
theorem dX5_startAnew_25 : decode cX5_startAnew 25 = .ok (.aload_n 0, 1) := by decide +kernel
theorem dX5_startAnew_26 : decode cX5_startAnew 26 = .ok (.iconst 0, 1) := by decide +kernel
theorem dX5_startAnew_27 : decode cX5_startAnew 27 = .ok (.putfield 31, 3) := by decide +kernel
theorem dX5_startAnew_30 : decode cX5_startAnew 30 = .ok (.return_, 1) := by decide +kernel
theorem dX5_generate_0 : decode cX5_generate 0 = .ok (.iload_n 1, 1) := by decide +kernel
theorem dX5_generate_1 : decode cX5_generate 1 = .ok (.aload_n 0, 1) := by decide +kernel
theorem dX5_generate_2 : decode cX5_generate 2 = .ok (.getfield 22, 3) := by decide +kernel
theorem dX5_generate_5 : decode cX5_generate 5 = .ok (.if_icmp .lt 25, 3) := by decide +kernel
theorem dX5_generate_8 : decode cX5_generate 8 = .ok (.aload_n 0, 1) := by decide +kernel
theorem dX5_generate_9 : decode cX5_generate 9 = .ok (.getfield 19, 3) := by decide +kernel
theorem dX5_generate_12 : decode cX5_generate 12 = .ok (.iconst 1, 1) := by decide +kernel
theorem dX5_generate_13 : decode cX5_generate 13 = .ok (.if_icmp .lt 17, 3) := by decide +kernel
theorem dX5_generate_16 : decode cX5_generate 16 = .ok (.iload_n 1, 1) := by decide +kernel
theorem dX5_generate_17 : decode cX5_generate 17 = .ok (.aload_n 0, 1) := by decide +kernel
theorem dX5_generate_18 : decode cX5_generate 18 = .ok (.getfield 22, 3) := by decide +kernel
theorem dX5_generate_21 : decode cX5_generate 21 = .ok (.isub, 1) := by decide +kernel
theorem dX5_generate_22 : decode cX5_generate 22 = .ok (.aload_n 0, 1) := by decide +kernel
theorem dX5_generate_23 : decode cX5_generate 23 = .ok (.getfield 19, 3) := by decide +kernel
theorem dX5_generate_26 : decode cX5_generate 26 = .ok (.irem, 1) := by decide +kernel
theorem dX5_generate_27 : decode cX5_generate 27 = .ok (.ifCond .eq 4, 3) := by decide +kernel
theorem dX5_generate_30 : decode cX5_generate 30 = .ok (.return_, 1) := by decide +kernel
theorem dX5_generate_31 : decode cX5_generate 31 = .ok (.aload_n 0, 1) := by decide +kernel
theorem dX5_generate_32 : decode cX5_generate 32 = .ok (.getfield 25, 3) := by decide +kernel
theorem dX5_generate_35 : decode cX5_generate 35 = .ok (.iconst 4, 1) := by decide +kernel
theorem dX5_generate_36 : decode cX5_generate 36 = .ok (.if_icmp .lt 14, 3) := by decide +kernel
theorem dX5_generate_39 : decode cX5_generate 39 = .ok (.aload_n 0, 1) := by decide +kernel
theorem dX5_generate_40 : decode cX5_generate 40 = .ok (.dup, 1) := by decide +kernel
theorem dX5_generate_41 : decode cX5_generate 41 = .ok (.getfield 31, 3) := by decide +kernel
theorem dX5_generate_44 : decode cX5_generate 44 = .ok (.iconst 1, 1) := by decide +kernel
theorem dX5_generate_45 : decode cX5_generate 45 = .ok (.iadd, 1) := by decide +kernel
theorem dX5_generate_46 : decode cX5_generate 46 = .ok (.putfield 31, 3) := by decide +kernel
theorem dX5_generate_49 : decode cX5_generate 49 = .ok (.return_, 1) := by decide +kernel
theorem dX5_generate_50 : decode cX5_generate 50 = .ok (.aload_n 0, 1) := by decide +kernel
theorem dX5_generate_51 : decode cX5_generate 51 = .ok (.getfield 9, 3) := by decide +kernel
theorem dX5_generate_54 : decode cX5_generate 54 = .ok (.aload_n 0, 1) := by decide +kernel
theorem dX5_generate_55 : decode cX5_generate 55 = .ok (.getfield 25, 3) := by decide +kernel
theorem dX5_generate_58 : decode cX5_generate 58 = .ok (.iload_n 1, 1) := by decide +kernel
theorem dX5_generate_59 : decode cX5_generate 59 = .ok (.iastore, 1) := by decide +kernel
theorem dX5_generate_60 : decode cX5_generate 60 = .ok (.aload_n 0, 1) := by decide +kernel
theorem dX5_generate_61 : decode cX5_generate 61 = .ok (.dup, 1) := by decide +kernel
theorem dX5_generate_62 : decode cX5_generate 62 = .ok (.getfield 25, 3) := by decide +kernel
theorem dX5_generate_65 : decode cX5_generate 65 = .ok (.iconst 1, 1) := by decide +kernel
theorem dX5_generate_66 : decode cX5_generate 66 = .ok (.iadd, 1) := by decide +kernel
theorem dX5_generate_67 : decode cX5_generate 67 = .ok (.putfield 25, 3) := by decide +kernel
theorem dX5_generate_70 : decode cX5_generate 70 = .ok (.return_, 1) := by decide +kernel
theorem dX5_oldestRound_0 : decode cX5_oldestRound 0 = .ok (.aload_n 0, 1) := by decide +kernel
theorem dX5_oldestRound_1 : decode cX5_oldestRound 1 = .ok (.getfield 9, 3) := by decide +kernel
theorem dX5_oldestRound_4 : decode cX5_oldestRound 4 = .ok (.iconst 0, 1) := by decide +kernel
theorem dX5_oldestRound_5 : decode cX5_oldestRound 5 = .ok (.iaload, 1) := by decide +kernel
theorem dX5_oldestRound_6 : decode cX5_oldestRound 6 = .ok (.ireturn, 1) := by decide +kernel
theorem dX5_removeOldest_0 : decode cX5_removeOldest 0 = .ok (.iconst 1, 1) := by decide +kernel
theorem dX5_removeOldest_1 : decode cX5_removeOldest 1 = .ok (.istore_n 1, 1) := by decide +kernel
theorem dX5_removeOldest_2 : decode cX5_removeOldest 2 = .ok (.iload_n 1, 1) := by decide +kernel
theorem dX5_removeOldest_3 : decode cX5_removeOldest 3 = .ok (.aload_n 0, 1) := by decide +kernel
theorem dX5_removeOldest_4 : decode cX5_removeOldest 4 = .ok (.getfield 25, 3) := by decide +kernel
theorem dX5_removeOldest_7 : decode cX5_removeOldest 7 = .ok (.if_icmp .ge 23, 3) := by decide +kernel
theorem dX5_removeOldest_10 : decode cX5_removeOldest 10 = .ok (.aload_n 0, 1) := by decide +kernel
theorem dX5_removeOldest_11 : decode cX5_removeOldest 11 = .ok (.getfield 9, 3) := by decide +kernel
theorem dX5_removeOldest_14 : decode cX5_removeOldest 14 = .ok (.iload_n 1, 1) := by decide +kernel
theorem dX5_removeOldest_15 : decode cX5_removeOldest 15 = .ok (.iconst 1, 1) := by decide +kernel
theorem dX5_removeOldest_16 : decode cX5_removeOldest 16 = .ok (.isub, 1) := by decide +kernel
theorem dX5_removeOldest_17 : decode cX5_removeOldest 17 = .ok (.aload_n 0, 1) := by decide +kernel
theorem dX5_removeOldest_18 : decode cX5_removeOldest 18 = .ok (.getfield 9, 3) := by decide +kernel
theorem dX5_removeOldest_21 : decode cX5_removeOldest 21 = .ok (.iload_n 1, 1) := by decide +kernel
theorem dX5_removeOldest_22 : decode cX5_removeOldest 22 = .ok (.iaload, 1) := by decide +kernel
theorem dX5_removeOldest_23 : decode cX5_removeOldest 23 = .ok (.iastore, 1) := by decide +kernel
theorem dX5_removeOldest_24 : decode cX5_removeOldest 24 = .ok (.iinc 1 1, 3) := by decide +kernel
theorem dX5_removeOldest_27 : decode cX5_removeOldest 27 = .ok (.goto (-25), 3) := by decide +kernel
theorem dX5_removeOldest_30 : decode cX5_removeOldest 30 = .ok (.aload_n 0, 1) := by decide +kernel
theorem dX5_removeOldest_31 : decode cX5_removeOldest 31 = .ok (.getfield 25, 3) := by decide +kernel
theorem dX5_removeOldest_34 : decode cX5_removeOldest 34 = .ok (.ifCond .le 13, 3) := by decide +kernel
theorem dX5_removeOldest_37 : decode cX5_removeOldest 37 = .ok (.aload_n 0, 1) := by decide +kernel
theorem dX5_removeOldest_38 : decode cX5_removeOldest 38 = .ok (.dup, 1) := by decide +kernel
theorem dX5_removeOldest_39 : decode cX5_removeOldest 39 = .ok (.getfield 25, 3) := by decide +kernel
theorem dX5_removeOldest_42 : decode cX5_removeOldest 42 = .ok (.iconst 1, 1) := by decide +kernel
theorem dX5_removeOldest_43 : decode cX5_removeOldest 43 = .ok (.isub, 1) := by decide +kernel
theorem dX5_removeOldest_44 : decode cX5_removeOldest 44 = .ok (.putfield 25, 3) := by decide +kernel
theorem dX5_removeOldest_47 : decode cX5_removeOldest 47 = .ok (.return_, 1) := by decide +kernel
set_option maxRecDepth 20000 in
theorem ggX6_init_X5_init : GoodIn wsX6_init wsX5_init := goodIn_r _ [10, 11, 2, 3, 12, 13, 14, 15, 16, 17, 18, 19, 22, 23, 24, 25, 26, 27, 28] (by decide +kernel) (by decide +kernel)
set_option maxRecDepth 20000 in
theorem gX6_init_X5_init_n21 : GoodIn wsX6_init (wsX5_init) := ggX6_init_X5_init
theorem dX6_init_0 : decode cX6_init 0 = .ok (.aload_n 0, 1) := by decide +kernel
theorem dX6_init_1 : decode cX6_init 1 = .ok (.invokespecial 3, 3) := by decide +kernel
theorem dX6_init_4 : decode cX6_init 4 = .ok (.aload_n 0, 1) := by decide +kernel
theorem dX6_init_5 : decode cX6_init 5 = .ok (.bipush 6, 2) := by decide +kernel
theorem dX6_init_7 : decode cX6_init 7 = .ok (.anewarray 9, 3) := by decide +kernel
theorem dX6_init_10 : decode cX6_init 10 = .ok (.putfield 11, 3) := by decide +kernel
theorem dX6_init_13 : decode cX6_init 13 = .ok (.aload_n 0, 1) := by decide +kernel
theorem dX6_init_14 : decode cX6_init 14 = .ok (.iconst 0, 1) := by decide +kernel
theorem dX6_init_15 : decode cX6_init 15 = .ok (.putfield 17, 3) := by decide +kernel
theorem dX6_init_18 : decode cX6_init 18 = .ok (.iconst 0, 1) := by decide +kernel
theorem dX6_init_19 : decode cX6_init 19 = .ok (.istore_n 1, 1) := by decide +kernel
theorem dX6_init_20 : decode cX6_init 20 = .ok (.iload_n 1, 1) := by decide +kernel
theorem dX6_init_21 : decode cX6_init 21 = .ok (.bipush 6, 2) := by decide +kernel
theorem dX6_init_23 : decode cX6_init 23 = .ok (.if_icmp .ge 22, 3) := by decide +kernel
theorem dX6_init_26 : decode cX6_init 26 = .ok (.aload_n 0, 1) := by decide +kernel
theorem dX6_init_27 : decode cX6_init 27 = .ok (.getfield 11, 3) := by decide +kernel
theorem dX6_init_30 : decode cX6_init 30 = .ok (.iload_n 1, 1) := by decide +kernel
theorem dX6_init_31 : decode cX6_init 31 = .ok (.new 9, 3) := by decide +kernel
theorem dX6_init_34 : decode cX6_init 34 = .ok (.dup, 1) := by decide +kernel
theorem dX6_init_35 : decode cX6_init 35 = .ok (.invokespecial 21, 3) := by decide +kernel
theorem dX6_init_38 : decode cX6_init 38 = .ok (.aastore, 1) := by decide +kernel
theorem dX6_init_39 : decode cX6_init 39 = .ok (.iinc 1 1, 3) := by decide +kernel
theorem dX6_init_42 : decode cX6_init 42 = .ok (.goto (-22), 3) := by decide +kernel
theorem dX6_init_45 : decode cX6_init 45 = .ok (.return_, 1) := by decide +kernel
theorem dX6_has_0 : decode cX6_has 0 = .ok (.iload_n 1, 1) := by decide +kernel
theorem dX6_has_1 : decode cX6_has 1 = .ok (.ifCond .lt 15, 3) := by decide +kernel
theorem dX6_has_4 : decode cX6_has 4 = .ok (.iload_n 1, 1) := by decide +kernel
theorem dX6_has_5 : decode cX6_has 5 = .ok (.aload_n 0, 1) := by decide +kernel
theorem dX6_has_6 : decode cX6_has 6 = .ok (.getfield 17, 3) := by decide +kernel
theorem dX6_has_9 : decode cX6_has 9 = .ok (.if_icmp .ge 7, 3) := by decide +kernel
theorem dX6_has_12 : decode cX6_has 12 = .ok (.iconst 1, 1) := by decide +kernel
theorem dX6_has_13 : decode cX6_has 13 = .ok (.goto 4, 3) := by decide +kernel
theorem dX6_has_16 : decode cX6_has 16 = .ok (.iconst 0, 1) := by decide +kernel
theorem dX6_has_17 : decode cX6_has 17 = .ok (.ireturn, 1) := by decide +kernel
set_option maxRecDepth 20000 in
theorem ggX6_add_X5_startAnew : GoodIn wsX6_add wsX5_startAnew := goodIn_r _ [7, 8, 9, 10, 11, 12, 13, 16, 17, 18, 19, 20, 21, 22] (by decide +kernel) (by decide +kernel)
set_option maxRecDepth 20000 in
theorem gX6_add_X5_startAnew : GoodIn wsX6_add (wsV RX6 22 RX5 yX5_startAnew wsX5_startAnew) := goodIn_app (goodIn_of _ (by decide +kernel)) ggX6_add_X5_startAnew
theorem dX6_add_0 : decode cX6_add 0 = .ok (.aload_n 0, 1) := by decide +kernel
theorem dX6_add_1 : decode cX6_add 1 = .ok (.getfield 17, 3) := by decide +kernel
theorem dX6_add_4 : decode cX6_add 4 = .ok (.bipush 6, 2) := by decide +kernel
theorem dX6_add_6 : decode cX6_add 6 = .ok (.if_icmp .lt 7, 3) := by decide +kernel
theorem dX6_add_9 : decode cX6_add 9 = .ok (.sipush (-1004), 3) := by decide +kernel
theorem dX6_add_12 : decode cX6_add 12 = .ok (.ireturn, 1) := by decide +kernel
theorem dX6_add_13 : decode cX6_add 13 = .ok (.aload_n 0, 1) := by decide +kernel
theorem dX6_add_14 : decode cX6_add 14 = .ok (.getfield 11, 3) := by decide +kernel
theorem dX6_add_17 : decode cX6_add 17 = .ok (.aload_n 0, 1) := by decide +kernel
theorem dX6_add_18 : decode cX6_add 18 = .ok (.getfield 17, 3) := by decide +kernel
theorem dX6_add_21 : decode cX6_add 21 = .ok (.aaload, 1) := by decide +kernel
theorem dX6_add_22 : decode cX6_add 22 = .ok (.iload_n 1, 1) := by decide +kernel
theorem dX6_add_23 : decode cX6_add 23 = .ok (.iload_n 2, 1) := by decide +kernel
theorem dX6_add_24 : decode cX6_add 24 = .ok (.iload_n 3, 1) := by decide +kernel
theorem dX6_add_25 : decode cX6_add 25 = .ok (.invokevirtual 22, 3) := by decide +kernel
theorem dX6_add_28 : decode cX6_add 28 = .ok (.aload_n 0, 1) := by decide +kernel
theorem dX6_add_29 : decode cX6_add 29 = .ok (.dup, 1) := by decide +kernel
theorem dX6_add_30 : decode cX6_add 30 = .ok (.getfield 17, 3) := by decide +kernel
theorem dX6_add_33 : decode cX6_add 33 = .ok (.iconst 1, 1) := by decide +kernel
theorem dX6_add_34 : decode cX6_add 34 = .ok (.iadd, 1) := by decide +kernel
theorem dX6_add_35 : decode cX6_add 35 = .ok (.putfield 17, 3) := by decide +kernel
theorem dX6_add_38 : decode cX6_add 38 = .ok (.aload_n 0, 1) := by decide +kernel
theorem dX6_add_39 : decode cX6_add 39 = .ok (.getfield 17, 3) := by decide +kernel
theorem dX6_add_42 : decode cX6_add 42 = .ok (.iconst 1, 1) := by decide +kernel
theorem dX6_add_43 : decode cX6_add 43 = .ok (.isub, 1) := by decide +kernel
theorem dX6_add_44 : decode cX6_add 44 = .ok (.ireturn, 1) := by decide +kernel
theorem dX6_remove_0 : decode cX6_remove 0 = .ok (.aload_n 0, 1) := by decide +kernel
end
section
theorem dX6_remove_1 : decode cX6_remove 1 = .ok (.getfield 11, 3) := by decide +kernel
theorem dX6_remove_4 : decode cX6_remove 4 = .ok (.iload_n 1, 1) := by decide +kernel
theorem dX6_remove_5 : decode cX6_remove 5 = .ok (.aaload, 1) := by decide +kernel
theorem dX6_remove_6 : decode cX6_remove 6 = .ok (.astore_n 2, 1) := by decide +kernel
theorem dX6_remove_7 : decode cX6_remove 7 = .ok (.iload_n 1, 1) := by decide +kernel
theorem dX6_remove_8 : decode cX6_remove 8 = .ok (.iconst 1, 1) := by decide +kernel
theorem dX6_remove_9 : decode cX6_remove 9 = .ok (.iadd, 1) := by decide +kernel
theorem dX6_remove_10 : decode cX6_remove 10 = .ok (.istore_n 3, 1) := by decide +kernel
theorem dX6_remove_11 : decode cX6_remove 11 = .ok (.iload_n 3, 1) := by decide +kernel
theorem dX6_remove_12 : decode cX6_remove 12 = .ok (.aload_n 0, 1) := by decide +kernel
theorem dX6_remove_13 : decode cX6_remove 13 = .ok (.getfield 17, 3) := by decide +kernel
theorem dX6_remove_16 : decode cX6_remove 16 = .ok (.if_icmp .ge 23, 3) := by decide +kernel
theorem dX6_remove_19 : decode cX6_remove 19 = .ok (.aload_n 0, 1) := by decide +kernel
theorem dX6_remove_20 : decode cX6_remove 20 = .ok (.getfield 11, 3) := by decide +kernel
theorem dX6_remove_23 : decode cX6_remove 23 = .ok (.iload_n 3, 1) := by decide +kernel
theorem dX6_remove_24 : decode cX6_remove 24 = .ok (.iconst 1, 1) := by decide +kernel
theorem dX6_remove_25 : decode cX6_remove 25 = .ok (.isub, 1) := by decide +kernel
theorem dX6_remove_26 : decode cX6_remove 26 = .ok (.aload_n 0, 1) := by decide +kernel
theorem dX6_remove_27 : decode cX6_remove 27 = .ok (.getfield 11, 3) := by decide +kernel
theorem dX6_remove_30 : decode cX6_remove 30 = .ok (.iload_n 3, 1) := by decide +kernel
theorem dX6_remove_31 : decode cX6_remove 31 = .ok (.aaload, 1) := by decide +kernel
theorem dX6_remove_32 : decode cX6_remove 32 = .ok (.aastore, 1) := by decide +kernel
theorem dX6_remove_33 : decode cX6_remove 33 = .ok (.iinc 3 1, 3) := by decide +kernel
theorem dX6_remove_36 : decode cX6_remove 36 = .ok (.goto (-25), 3) := by decide +kernel
theorem dX6_remove_39 : decode cX6_remove 39 = .ok (.aload_n 0, 1) := by decide +kernel
theorem dX6_remove_40 : decode cX6_remove 40 = .ok (.dup, 1) := by decide +kernel
theorem dX6_remove_41 : decode cX6_remove 41 = .ok (.getfield 17, 3) := by decide +kernel
theorem dX6_remove_44 : decode cX6_remove 44 = .ok (.iconst 1, 1) := by decide +kernel
theorem dX6_remove_45 : decode cX6_remove 45 = .ok (.isub, 1) := by decide +kernel
theorem dX6_remove_46 : decode cX6_remove 46 = .ok (.putfield 17, 3) := by decide +kernel
theorem dX6_remove_49 : decode cX6_remove 49 = .ok (.aload_n 0, 1) := by decide +kernel
theorem dX6_remove_50 : decode cX6_remove 50 = .ok (.getfield 11, 3) := by decide +kernel
theorem dX6_remove_53 : decode cX6_remove 53 = .ok (.aload_n 0, 1) := by decide +kernel
theorem dX6_remove_54 : decode cX6_remove 54 = .ok (.getfield 17, 3) := by decide +kernel
theorem dX6_remove_57 : decode cX6_remove 57 = .ok (.aload_n 2, 1) := by decide +kernel
theorem dX6_remove_58 : decode cX6_remove 58 = .ok (.aastore, 1) := by decide +kernel
theorem dX6_remove_59 : decode cX6_remove 59 = .ok (.return_, 1) := by decide +kernel
set_option maxRecDepth 20000 in
theorem ggX6_generate_X5_generate : GoodIn wsX6_generate wsX5_generate := goodIn_r _ [7, 8, 9, 10, 11, 12, 15, 16, 17, 18, 19, 20, 21] (by decide +kernel) (by decide +kernel)
set_option maxRecDepth 20000 in
theorem gX6_generate_X5_generate : GoodIn wsX6_generate (wsV RX6 26 RX5 yX5_generate wsX5_generate) := goodIn_app (goodIn_of _ (by decide +kernel)) ggX6_generate_X5_generate
theorem dX6_generate_0 : decode cX6_generate 0 = .ok (.iconst 0, 1) := by decide +kernel
theorem dX6_generate_1 : decode cX6_generate 1 = .ok (.istore_n 2, 1) := by decide +kernel
theorem dX6_generate_2 : decode cX6_generate 2 = .ok (.iload_n 2, 1) := by decide +kernel
theorem dX6_generate_3 : decode cX6_generate 3 = .ok (.aload_n 0, 1) := by decide +kernel
theorem dX6_generate_4 : decode cX6_generate 4 = .ok (.getfield 17, 3) := by decide +kernel
theorem dX6_generate_7 : decode cX6_generate 7 = .ok (.if_icmp .ge 19, 3) := by decide +kernel
theorem dX6_generate_10 : decode cX6_generate 10 = .ok (.aload_n 0, 1) := by decide +kernel
theorem dX6_generate_11 : decode cX6_generate 11 = .ok (.getfield 11, 3) := by decide +kernel
theorem dX6_generate_14 : decode cX6_generate 14 = .ok (.iload_n 2, 1) := by decide +kernel
theorem dX6_generate_15 : decode cX6_generate 15 = .ok (.aaload, 1) := by decide +kernel
theorem dX6_generate_16 : decode cX6_generate 16 = .ok (.iload_n 1, 1) := by decide +kernel
theorem dX6_generate_17 : decode cX6_generate 17 = .ok (.invokevirtual 26, 3) := by decide +kernel
theorem dX6_generate_20 : decode cX6_generate 20 = .ok (.iinc 2 1, 3) := by decide +kernel
theorem dX6_generate_23 : decode cX6_generate 23 = .ok (.goto (-21), 3) := by decide +kernel
theorem dX6_generate_26 : decode cX6_generate 26 = .ok (.return_, 1) := by decide +kernel
set_option maxRecDepth 20000 in
theorem ggX7_init_X0_init : GoodIn wsX7_init wsX0_init := goodIn_r _ [29, 30, 2, 3, 31, 32, 33, 34, 35, 36, 37, 38, 39, 40, 41, 42, 43, 44, 45, 46, 47, 48, 93, 94, 95, 96, 97, 98, 99, 100, 126, 127] (by decide +kernel) (by decide +kernel)
set_option maxRecDepth 20000 in
theorem gX7_init_X0_init_n9 : GoodIn wsX7_init (wsX0_init) := ggX7_init_X0_init
set_option maxRecDepth 20000 in
theorem ggX7_init_X3_init : GoodIn wsX7_init wsX3_init := goodIn_r _ [50, 51, 2, 3, 52, 35, 36, 53, 54, 55, 56, 31, 57, 58, 59, 43, 44, 45, 46, 47, 48, 126, 127, 110, 111, 112, 113, 114, 115] (by decide +kernel) (by decide +kernel)
set_option maxRecDepth 20000 in
theorem gX7_init_X3_init_n18 : GoodIn wsX7_init (wsX3_init) := ggX7_init_X3_init
set_option maxRecDepth 20000 in
theorem ggX7_init_X1_init : GoodIn wsX7_init wsX1_init := goodIn_r _ [61, 62, 2, 3, 31, 63, 64, 65, 66, 67, 68, 116, 117, 118, 119, 120, 121] (by decide +kernel) (by decide +kernel)
set_option maxRecDepth 20000 in
theorem gX7_init_X1_init_n25 : GoodIn wsX7_init (wsX1_init) := ggX7_init_X1_init
set_option maxRecDepth 20000 in
theorem ggX7_init_X6_init : GoodIn wsX7_init wsX6_init := goodIn_r _ [71, 72, 2, 3, 73, 74, 75, 76, 77, 78, 79, 80, 31, 81, 82, 83, 84, 85, 86, 87, 122, 123, 128, 129, 130, 131, 132, 133, 134] (by decide +kernel) (by decide +kernel)
set_option maxRecDepth 20000 in
theorem gX7_init_X6_init : GoodIn wsX7_init (wsX6_init) := ggX7_init_X6_init
set_option maxRecDepth 20000 in
theorem ggX7_init_X4_init : GoodIn wsX7_init wsX4_init := goodIn_r _ [89, 90, 2, 3, 31, 91, 92, 124, 125] (by decide +kernel) (by decide +kernel)
set_option maxRecDepth 20000 in
theorem gX7_init_X4_init_n39 : GoodIn wsX7_init (wsX4_init) := ggX7_init_X4_init
theorem dX7_init_0 : decode cX7_init 0 = .ok (.aload_n 0, 1) := by decide +kernel
theorem dX7_init_1 : decode cX7_init 1 = .ok (.invokespecial 1, 3) := by decide +kernel
theorem dX7_init_4 : decode cX7_init 4 = .ok (.aload_n 0, 1) := by decide +kernel
theorem dX7_init_5 : decode cX7_init 5 = .ok (.new 7, 3) := by decide +kernel
theorem dX7_init_8 : decode cX7_init 8 = .ok (.dup, 1) := by decide +kernel
theorem dX7_init_9 : decode cX7_init 9 = .ok (.invokespecial 9, 3) := by decide +kernel
theorem dX7_init_12 : decode cX7_init 12 = .ok (.putfield 10, 3) := by decide +kernel
theorem dX7_init_15 : decode cX7_init 15 = .ok (.aload_n 0, 1) := by decide +kernel
theorem dX7_init_16 : decode cX7_init 16 = .ok (.new 16, 3) := by decide +kernel
theorem dX7_init_19 : decode cX7_init 19 = .ok (.dup, 1) := by decide +kernel
theorem dX7_init_20 : decode cX7_init 20 = .ok (.invokespecial 18, 3) := by decide +kernel
theorem dX7_init_23 : decode cX7_init 23 = .ok (.putfield 19, 3) := by decide +kernel
theorem dX7_init_26 : decode cX7_init 26 = .ok (.aload_n 0, 1) := by decide +kernel
theorem dX7_init_27 : decode cX7_init 27 = .ok (.new 23, 3) := by decide +kernel
theorem dX7_init_30 : decode cX7_init 30 = .ok (.dup, 1) := by decide +kernel
theorem dX7_init_31 : decode cX7_init 31 = .ok (.invokespecial 25, 3) := by decide +kernel
theorem dX7_init_34 : decode cX7_init 34 = .ok (.putfield 26, 3) := by decide +kernel
theorem dX7_init_37 : decode cX7_init 37 = .ok (.aload_n 0, 1) := by decide +kernel
theorem dX7_init_38 : decode cX7_init 38 = .ok (.new 30, 3) := by decide +kernel
theorem dX7_init_41 : decode cX7_init 41 = .ok (.dup, 1) := by decide +kernel
theorem dX7_init_42 : decode cX7_init 42 = .ok (.invokespecial 32, 3) := by decide +kernel
theorem dX7_init_45 : decode cX7_init 45 = .ok (.putfield 33, 3) := by decide +kernel
theorem dX7_init_48 : decode cX7_init 48 = .ok (.aload_n 0, 1) := by decide +kernel
theorem dX7_init_49 : decode cX7_init 49 = .ok (.new 37, 3) := by decide +kernel
theorem dX7_init_52 : decode cX7_init 52 = .ok (.dup, 1) := by decide +kernel
theorem dX7_init_53 : decode cX7_init 53 = .ok (.invokespecial 39, 3) := by decide +kernel
theorem dX7_init_56 : decode cX7_init 56 = .ok (.putfield 40, 3) := by decide +kernel
theorem dX7_init_59 : decode cX7_init 59 = .ok (.aload_n 0, 1) := by decide +kernel
theorem dX7_init_60 : decode cX7_init 60 = .ok (.iconst 3, 1) := by decide +kernel
theorem dX7_init_61 : decode cX7_init 61 = .ok (.putfield 44, 3) := by decide +kernel
theorem dX7_init_64 : decode cX7_init 64 = .ok (.aload_n 0, 1) := by decide +kernel
theorem dX7_init_65 : decode cX7_init 65 = .ok (.iconst 2, 1) := by decide +kernel
theorem dX7_init_66 : decode cX7_init 66 = .ok (.putfield 48, 3) := by decide +kernel
theorem dX7_init_69 : decode cX7_init 69 = .ok (.aload_n 0, 1) := by decide +kernel
theorem dX7_init_70 : decode cX7_init 70 = .ok (.iconst (-1), 1) := by decide +kernel
theorem dX7_init_71 : decode cX7_init 71 = .ok (.putfield 51, 3) := by decide +kernel
theorem dX7_init_74 : decode cX7_init 74 = .ok (.aload_n 0, 1) := by decide +kernel
theorem dX7_init_75 : decode cX7_init 75 = .ok (.iconst 0, 1) := by decide +kernel
theorem dX7_init_76 : decode cX7_init 76 = .ok (.putfield 54, 3) := by decide +kernel
theorem dX7_init_79 : decode cX7_init 79 = .ok (.return_, 1) := by decide +kernel
set_option maxRecDepth 20000 in
theorem ggX7_append_X0_add : GoodIn wsX7_append wsX0_add := goodIn_r _ [6, 7, 8, 18, 19, 20, 21, 22, 23, 24, 25] (by decide +kernel) (by decide +kernel)
set_option maxRecDepth 20000 in
theorem gX7_append_X0_add : GoodIn wsX7_append (wsV RX7 57 RX0 yX0_add wsX0_add) := goodIn_app (goodIn_of _ (by decide +kernel)) ggX7_append_X0_add
theorem dX7_append_0 : decode cX7_append 0 = .ok (.iload_n 1, 1) := by decide +kernel
theorem dX7_append_1 : decode cX7_append 1 = .ok (.bipush 32, 2) := by decide +kernel
theorem dX7_append_3 : decode cX7_append 3 = .ok (.if_icmp .lt 9, 3) := by decide +kernel
theorem dX7_append_6 : decode cX7_append 6 = .ok (.iload_n 1, 1) := by decide +kernel
theorem dX7_append_7 : decode cX7_append 7 = .ok (.bipush 126, 2) := by decide +kernel
theorem dX7_append_9 : decode cX7_append 9 = .ok (.if_icmp .le 7, 3) := by decide +kernel
theorem dX7_append_12 : decode cX7_append 12 = .ok (.sipush (-1002), 3) := by decide +kernel
theorem dX7_append_15 : decode cX7_append 15 = .ok (.ireturn, 1) := by decide +kernel
theorem dX7_append_16 : decode cX7_append 16 = .ok (.aload_n 0, 1) := by decide +kernel
theorem dX7_append_17 : decode cX7_append 17 = .ok (.getfield 10, 3) := by decide +kernel
theorem dX7_append_20 : decode cX7_append 20 = .ok (.iload_n 1, 1) := by decide +kernel
theorem dX7_append_21 : decode cX7_append 21 = .ok (.invokevirtual 57, 3) := by decide +kernel
theorem dX7_append_24 : decode cX7_append 24 = .ok (.ireturn, 1) := by decide +kernel
theorem dX7_clearBuffer_0 : decode cX7_clearBuffer 0 = .ok (.aload_n 0, 1) := by decide +kernel
theorem dX7_clearBuffer_1 : decode cX7_clearBuffer 1 = .ok (.getfield 10, 3) := by decide +kernel
theorem dX7_clearBuffer_4 : decode cX7_clearBuffer 4 = .ok (.getfield 61, 3) := by decide +kernel
theorem dX7_clearBuffer_7 : decode cX7_clearBuffer 7 = .ok (.istore_n 1, 1) := by decide +kernel
theorem dX7_clearBuffer_8 : decode cX7_clearBuffer 8 = .ok (.aload_n 0, 1) := by decide +kernel
theorem dX7_clearBuffer_9 : decode cX7_clearBuffer 9 = .ok (.getfield 10, 3) := by decide +kernel
theorem dX7_clearBuffer_12 : decode cX7_clearBuffer 12 = .ok (.iconst 0, 1) := by decide +kernel
theorem dX7_clearBuffer_13 : decode cX7_clearBuffer 13 = .ok (.putfield 61, 3) := by decide +kernel
theorem dX7_clearBuffer_16 : decode cX7_clearBuffer 16 = .ok (.iload_n 1, 1) := by decide +kernel
theorem dX7_clearBuffer_17 : decode cX7_clearBuffer 17 = .ok (.ireturn, 1) := by decide +kernel
set_option maxRecDepth 20000 in
theorem ggX7_errorPosition_X0_findError : GoodIn wsX7_errorPosition wsX0_findError := goodIn_r _ [6, 7, 8, 9, 10, 11, 12, 13, 14, 15, 16, 17, 18, 19, 20, 21, 22, 23, 24, 25, 5, 26, 27, 28, 29, 30, 31, 32, 33, 34, 35, 36, 37, 38, 39, 40, 41, 42, 43, 44, 45, 46, 47, 48, 49, 50, 51, 52, 53, 54, 55, 56, 57, 58, 59, 60, 61, 62, 63, 64, 65, 75, 76, 77, 78, 79, 80, 81, 82, 83, 84] (by decide +kernel) (by decide +kernel)
set_option maxRecDepth 20000 in
theorem gX7_errorPosition_X0_findError : GoodIn wsX7_errorPosition (wsV RX7 64 RX0 yX0_findError wsX0_findError) := goodIn_app (goodIn_of _ (by decide +kernel)) ggX7_errorPosition_X0_findError
theorem dX7_errorPosition_0 : decode cX7_errorPosition 0 = .ok (.aload_n 0, 1) := by decide +kernel
theorem dX7_errorPosition_1 : decode cX7_errorPosition 1 = .ok (.getfield 10, 3) := by decide +kernel
theorem dX7_errorPosition_4 : decode cX7_errorPosition 4 = .ok (.invokevirtual 64, 3) := by decide +kernel
theorem dX7_errorPosition_7 : decode cX7_errorPosition 7 = .ok (.ireturn, 1) := by decide +kernel
set_option maxRecDepth 20000 in
theorem ggX7_loadNetwork_X0_isComplete : GoodIn wsX7_loadNetwork wsX0_isComplete := goodIn_r _ [18, 19, 20, 21, 22, 23, 17, 24, 25, 26, 27, 28, 29, 30, 31, 32, 33, 34, 35, 36, 37, 38, 39, 40, 41, 42, 43, 44, 45, 46, 47, 48, 49, 50, 51, 52, 53, 54, 55, 56, 57, 58, 59, 60, 61, 62, 63, 64, 65, 66, 67, 68, 69, 70, 71, 72, 73, 74, 75, 76, 77, 78, 79, 80, 81, 118, 119, 120, 121, 122, 123, 124, 125, 136, 137] (by decide +kernel) (by decide +kernel)
set_option maxRecDepth 20000 in
theorem gX7_loadNetwork_X0_isComplete : GoodIn wsX7_loadNetwork (wsV RX7 68 RX0 yX0_isComplete wsX0_isComplete) := goodIn_app (goodIn_of _ (by decide +kernel)) ggX7_loadNetwork_X0_isComplete
set_option maxRecDepth 20000 in
theorem ggX7_loadNetwork_X3_startAnew : GoodIn wsX7_loadNetwork wsX3_startAnew := goodIn_r _ [86, 87, 88, 89, 90, 91, 92, 93, 94, 31, 95, 33, 96, 97, 98, 99, 34, 130, 131, 132, 133, 134, 135, 136, 137] (by decide +kernel) (by decide +kernel)
set_option maxRecDepth 20000 in
theorem gX7_loadNetwork_X3_startAnew : GoodIn wsX7_loadNetwork (wsV RX7 79 RX3 yX3_startAnew wsX3_startAnew) := goodIn_app (goodIn_of _ (by decide +kernel)) ggX7_loadNetwork_X3_startAnew
set_option maxRecDepth 20000 in
theorem ggX7_loadNetwork_X1_forget : GoodIn wsX7_loadNetwork wsX1_forget := goodIn_r _ [104, 105, 106, 107, 108, 36, 37, 38, 138, 139, 140, 141, 142, 143] (by decide +kernel) (by decide +kernel)
set_option maxRecDepth 20000 in
theorem gX7_loadNetwork_X1_forget : GoodIn wsX7_loadNetwork (wsV RX7 83 RX1 yX1_forget wsX1_forget) := goodIn_app (goodIn_of _ (by decide +kernel)) ggX7_loadNetwork_X1_forget
theorem dX7_loadNetwork_0 : decode cX7_loadNetwork 0 = .ok (.aload_n 0, 1) := by decide +kernel
theorem dX7_loadNetwork_1 : decode cX7_loadNetwork 1 = .ok (.getfield 10, 3) := by decide +kernel
theorem dX7_loadNetwork_4 : decode cX7_loadNetwork 4 = .ok (.invokevirtual 68, 3) := by decide +kernel
theorem dX7_loadNetwork_7 : decode cX7_loadNetwork 7 = .ok (.ifCond .ne 7, 3) := by decide +kernel
theorem dX7_loadNetwork_10 : decode cX7_loadNetwork 10 = .ok (.sipush (-1003), 3) := by decide +kernel
theorem dX7_loadNetwork_13 : decode cX7_loadNetwork 13 = .ok (.ireturn, 1) := by decide +kernel
theorem dX7_loadNetwork_14 : decode cX7_loadNetwork 14 = .ok (.aload_n 0, 1) := by decide +kernel
theorem dX7_loadNetwork_15 : decode cX7_loadNetwork 15 = .ok (.getfield 19, 3) := by decide +kernel
theorem dX7_loadNetwork_18 : decode cX7_loadNetwork 18 = .ok (.aload_n 0, 1) := by decide +kernel
theorem dX7_loadNetwork_19 : decode cX7_loadNetwork 19 = .ok (.getfield 10, 3) := by decide +kernel
theorem dX7_loadNetwork_22 : decode cX7_loadNetwork 22 = .ok (.getfield 72, 3) := by decide +kernel
theorem dX7_loadNetwork_25 : decode cX7_loadNetwork 25 = .ok (.aload_n 0, 1) := by decide +kernel
theorem dX7_loadNetwork_26 : decode cX7_loadNetwork 26 = .ok (.getfield 10, 3) := by decide +kernel
theorem dX7_loadNetwork_29 : decode cX7_loadNetwork 29 = .ok (.getfield 75, 3) := by decide +kernel
theorem dX7_loadNetwork_32 : decode cX7_loadNetwork 32 = .ok (.invokevirtual 79, 3) := by decide +kernel
theorem dX7_loadNetwork_35 : decode cX7_loadNetwork 35 = .ok (.aload_n 0, 1) := by decide +kernel
theorem dX7_loadNetwork_36 : decode cX7_loadNetwork 36 = .ok (.getfield 10, 3) := by decide +kernel
theorem dX7_loadNetwork_39 : decode cX7_loadNetwork 39 = .ok (.iconst 0, 1) := by decide +kernel
theorem dX7_loadNetwork_40 : decode cX7_loadNetwork 40 = .ok (.putfield 61, 3) := by decide +kernel
theorem dX7_loadNetwork_43 : decode cX7_loadNetwork 43 = .ok (.aload_n 0, 1) := by decide +kernel
theorem dX7_loadNetwork_44 : decode cX7_loadNetwork 44 = .ok (.getfield 26, 3) := by decide +kernel
theorem dX7_loadNetwork_47 : decode cX7_loadNetwork 47 = .ok (.invokevirtual 83, 3) := by decide +kernel
theorem dX7_loadNetwork_50 : decode cX7_loadNetwork 50 = .ok (.aload_n 0, 1) := by decide +kernel
theorem dX7_loadNetwork_51 : decode cX7_loadNetwork 51 = .ok (.getfield 33, 3) := by decide +kernel
theorem dX7_loadNetwork_54 : decode cX7_loadNetwork 54 = .ok (.iconst 0, 1) := by decide +kernel
theorem dX7_loadNetwork_55 : decode cX7_loadNetwork 55 = .ok (.putfield 86, 3) := by decide +kernel
theorem dX7_loadNetwork_58 : decode cX7_loadNetwork 58 = .ok (.aload_n 0, 1) := by decide +kernel
theorem dX7_loadNetwork_59 : decode cX7_loadNetwork 59 = .ok (.getfield 40, 3) := by decide +kernel
theorem dX7_loadNetwork_62 : decode cX7_loadNetwork 62 = .ok (.iconst 0, 1) := by decide +kernel
theorem dX7_loadNetwork_63 : decode cX7_loadNetwork 63 = .ok (.putfield 89, 3) := by decide +kernel
theorem dX7_loadNetwork_66 : decode cX7_loadNetwork 66 = .ok (.aload_n 0, 1) := by decide +kernel
theorem dX7_loadNetwork_67 : decode cX7_loadNetwork 67 = .ok (.iconst 0, 1) := by decide +kernel
theorem dX7_loadNetwork_68 : decode cX7_loadNetwork 68 = .ok (.putfield 51, 3) := by decide +kernel
theorem dX7_loadNetwork_71 : decode cX7_loadNetwork 71 = .ok (.aload_n 0, 1) := by decide +kernel
theorem dX7_loadNetwork_72 : decode cX7_loadNetwork 72 = .ok (.iconst 0, 1) := by decide +kernel
theorem dX7_loadNetwork_73 : decode cX7_loadNetwork 73 = .ok (.putfield 54, 3) := by decide +kernel
theorem dX7_loadNetwork_76 : decode cX7_loadNetwork 76 = .ok (.aload_n 0, 1) := by decide +kernel
theorem dX7_loadNetwork_77 : decode cX7_loadNetwork 77 = .ok (.getfield 19, 3) := by decide +kernel
theorem dX7_loadNetwork_80 : decode cX7_loadNetwork 80 = .ok (.getfield 92, 3) := by decide +kernel
theorem dX7_loadNetwork_83 : decode cX7_loadNetwork 83 = .ok (.ireturn, 1) := by decide +kernel
theorem dX7_setTransmissionLimit_0 : decode cX7_setTransmissionLimit 0 = .ok (.iload_n 1, 1) := by decide +kernel
theorem dX7_setTransmissionLimit_1 : decode cX7_setTransmissionLimit 1 = .ok (.iconst 1, 1) := by decide +kernel
theorem dX7_setTransmissionLimit_2 : decode cX7_setTransmissionLimit 2 = .ok (.if_icmp .lt 8, 3) := by decide +kernel
theorem dX7_setTransmissionLimit_5 : decode cX7_setTransmissionLimit 5 = .ok (.iload_n 1, 1) := by decide +kernel
theorem dX7_setTransmissionLimit_6 : decode cX7_setTransmissionLimit 6 = .ok (.iconst 4, 1) := by decide +kernel
theorem dX7_setTransmissionLimit_7 : decode cX7_setTransmissionLimit 7 = .ok (.if_icmp .le 7, 3) := by decide +kernel
theorem dX7_setTransmissionLimit_10 : decode cX7_setTransmissionLimit 10 = .ok (.sipush (-1002), 3) := by decide +kernel
theorem dX7_setTransmissionLimit_13 : decode cX7_setTransmissionLimit 13 = .ok (.ireturn, 1) := by decide +kernel
theorem dX7_setTransmissionLimit_14 : decode cX7_setTransmissionLimit 14 = .ok (.aload_n 0, 1) := by decide +kernel
theorem dX7_setTransmissionLimit_15 : decode cX7_setTransmissionLimit 15 = .ok (.getfield 26, 3) := by decide +kernel
theorem dX7_setTransmissionLimit_18 : decode cX7_setTransmissionLimit 18 = .ok (.getfield 93, 3) := by decide +kernel
theorem dX7_setTransmissionLimit_21 : decode cX7_setTransmissionLimit 21 = .ok (.istore_n 2, 1) := by decide +kernel
theorem dX7_setTransmissionLimit_22 : decode cX7_setTransmissionLimit 22 = .ok (.aload_n 0, 1) := by decide +kernel
theorem dX7_setTransmissionLimit_23 : decode cX7_setTransmissionLimit 23 = .ok (.getfield 26, 3) := by decide +kernel
theorem dX7_setTransmissionLimit_26 : decode cX7_setTransmissionLimit 26 = .ok (.iload_n 1, 1) := by decide +kernel
theorem dX7_setTransmissionLimit_27 : decode cX7_setTransmissionLimit 27 = .ok (.putfield 93, 3) := by decide +kernel
theorem dX7_setTransmissionLimit_30 : decode cX7_setTransmissionLimit 30 = .ok (.iload_n 2, 1) := by decide +kernel
theorem dX7_setTransmissionLimit_31 : decode cX7_setTransmissionLimit 31 = .ok (.ireturn, 1) := by decide +kernel
theorem dX7_setCaptureMargin_0 : decode cX7_setCaptureMargin 0 = .ok (.iload_n 1, 1) := by decide +kernel
theorem dX7_setCaptureMargin_1 : decode cX7_setCaptureMargin 1 = .ok (.iconst 1, 1) := by decide +kernel
theorem dX7_setCaptureMargin_2 : decode cX7_setCaptureMargin 2 = .ok (.if_icmp .lt 9, 3) := by decide +kernel
theorem dX7_setCaptureMargin_5 : decode cX7_setCaptureMargin 5 = .ok (.iload_n 1, 1) := by decide +kernel
theorem dX7_setCaptureMargin_6 : decode cX7_setCaptureMargin 6 = .ok (.bipush 9, 2) := by decide +kernel
theorem dX7_setCaptureMargin_8 : decode cX7_setCaptureMargin 8 = .ok (.if_icmp .le 7, 3) := by decide +kernel
theorem dX7_setCaptureMargin_11 : decode cX7_setCaptureMargin 11 = .ok (.sipush (-1002), 3) := by decide +kernel
theorem dX7_setCaptureMargin_14 : decode cX7_setCaptureMargin 14 = .ok (.ireturn, 1) := by decide +kernel
theorem dX7_setCaptureMargin_15 : decode cX7_setCaptureMargin 15 = .ok (.aload_n 0, 1) := by decide +kernel
theorem dX7_setCaptureMargin_16 : decode cX7_setCaptureMargin 16 = .ok (.getfield 26, 3) := by decide +kernel
theorem dX7_setCaptureMargin_19 : decode cX7_setCaptureMargin 19 = .ok (.getfield 96, 3) := by decide +kernel
theorem dX7_setCaptureMargin_22 : decode cX7_setCaptureMargin 22 = .ok (.istore_n 2, 1) := by decide +kernel
theorem dX7_setCaptureMargin_23 : decode cX7_setCaptureMargin 23 = .ok (.aload_n 0, 1) := by decide +kernel
theorem dX7_setCaptureMargin_24 : decode cX7_setCaptureMargin 24 = .ok (.getfield 26, 3) := by decide +kernel
theorem dX7_setCaptureMargin_27 : decode cX7_setCaptureMargin 27 = .ok (.iload_n 1, 1) := by decide +kernel
theorem dX7_setCaptureMargin_28 : decode cX7_setCaptureMargin 28 = .ok (.putfield 96, 3) := by decide +kernel
theorem dX7_setCaptureMargin_31 : decode cX7_setCaptureMargin 31 = .ok (.iload_n 2, 1) := by decide +kernel
theorem dX7_setCaptureMargin_32 : decode cX7_setCaptureMargin 32 = .ok (.ireturn, 1) := by decide +kernel
theorem dX7_setSlotLimit_0 : decode cX7_setSlotLimit 0 = .ok (.iload_n 1, 1) := by decide +kernel
theorem dX7_setSlotLimit_1 : decode cX7_setSlotLimit 1 = .ok (.ifCond .lt 9, 3) := by decide +kernel
theorem dX7_setSlotLimit_4 : decode cX7_setSlotLimit 4 = .ok (.iload_n 1, 1) := by decide +kernel
theorem dX7_setSlotLimit_5 : decode cX7_setSlotLimit 5 = .ok (.bipush 6, 2) := by decide +kernel
theorem dX7_setSlotLimit_7 : decode cX7_setSlotLimit 7 = .ok (.if_icmp .le 7, 3) := by decide +kernel
theorem dX7_setSlotLimit_10 : decode cX7_setSlotLimit 10 = .ok (.sipush (-1002), 3) := by decide +kernel
theorem dX7_setSlotLimit_13 : decode cX7_setSlotLimit 13 = .ok (.ireturn, 1) := by decide +kernel
theorem dX7_setSlotLimit_14 : decode cX7_setSlotLimit 14 = .ok (.aload_n 0, 1) := by decide +kernel
theorem dX7_setSlotLimit_15 : decode cX7_setSlotLimit 15 = .ok (.getfield 44, 3) := by decide +kernel
theorem dX7_setSlotLimit_18 : decode cX7_setSlotLimit 18 = .ok (.istore_n 2, 1) := by decide +kernel
theorem dX7_setSlotLimit_19 : decode cX7_setSlotLimit 19 = .ok (.aload_n 0, 1) := by decide +kernel
theorem dX7_setSlotLimit_20 : decode cX7_setSlotLimit 20 = .ok (.iload_n 1, 1) := by decide +kernel
theorem dX7_setSlotLimit_21 : decode cX7_setSlotLimit 21 = .ok (.putfield 44, 3) := by decide +kernel
theorem dX7_setSlotLimit_24 : decode cX7_setSlotLimit 24 = .ok (.iload_n 2, 1) := by decide +kernel
theorem dX7_setSlotLimit_25 : decode cX7_setSlotLimit 25 = .ok (.ireturn, 1) := by decide +kernel
theorem dX7_setTakeoverLimit_0 : decode cX7_setTakeoverLimit 0 = .ok (.iload_n 1, 1) := by decide +kernel
theorem dX7_setTakeoverLimit_1 : decode cX7_setTakeoverLimit 1 = .ok (.iconst 1, 1) := by decide +kernel
theorem dX7_setTakeoverLimit_2 : decode cX7_setTakeoverLimit 2 = .ok (.if_icmp .lt 9, 3) := by decide +kernel
theorem dX7_setTakeoverLimit_5 : decode cX7_setTakeoverLimit 5 = .ok (.iload_n 1, 1) := by decide +kernel
theorem dX7_setTakeoverLimit_6 : decode cX7_setTakeoverLimit 6 = .ok (.bipush 9, 2) := by decide +kernel
theorem dX7_setTakeoverLimit_8 : decode cX7_setTakeoverLimit 8 = .ok (.if_icmp .le 7, 3) := by decide +kernel
theorem dX7_setTakeoverLimit_11 : decode cX7_setTakeoverLimit 11 = .ok (.sipush (-1002), 3) := by decide +kernel
theorem dX7_setTakeoverLimit_14 : decode cX7_setTakeoverLimit 14 = .ok (.ireturn, 1) := by decide +kernel
theorem dX7_setTakeoverLimit_15 : decode cX7_setTakeoverLimit 15 = .ok (.aload_n 0, 1) := by decide +kernel
theorem dX7_setTakeoverLimit_16 : decode cX7_setTakeoverLimit 16 = .ok (.getfield 48, 3) := by decide +kernel
theorem dX7_setTakeoverLimit_19 : decode cX7_setTakeoverLimit 19 = .ok (.istore_n 2, 1) := by decide +kernel
theorem dX7_setTakeoverLimit_20 : decode cX7_setTakeoverLimit 20 = .ok (.aload_n 0, 1) := by decide +kernel
theorem dX7_setTakeoverLimit_21 : decode cX7_setTakeoverLimit 21 = .ok (.iload_n 1, 1) := by decide +kernel
theorem dX7_setTakeoverLimit_22 : decode cX7_setTakeoverLimit 22 = .ok (.putfield 48, 3) := by decide +kernel
theorem dX7_setTakeoverLimit_25 : decode cX7_setTakeoverLimit 25 = .ok (.iload_n 2, 1) := by decide +kernel
theorem dX7_setTakeoverLimit_26 : decode cX7_setTakeoverLimit 26 = .ok (.ireturn, 1) := by decide +kernel
set_option maxRecDepth 20000 in
theorem ggX7_setAlive_X3_has : GoodIn wsX7_setAlive wsX3_has := goodIn_r _ [8, 9, 19, 20, 21, 22, 23, 24] (by decide +kernel) (by decide +kernel)
set_option maxRecDepth 20000 in
theorem gX7_setAlive_X3_has : GoodIn wsX7_setAlive (wsV RX7 99 RX3 yX3_has wsX3_has) := goodIn_app (goodIn_of _ (by decide +kernel)) ggX7_setAlive_X3_has
theorem dX7_setAlive_0 : decode cX7_setAlive 0 = .ok (.aload_n 0, 1) := by decide +kernel
theorem dX7_setAlive_1 : decode cX7_setAlive 1 = .ok (.getfield 19, 3) := by decide +kernel
theorem dX7_setAlive_4 : decode cX7_setAlive 4 = .ok (.iload_n 1, 1) := by decide +kernel
theorem dX7_setAlive_5 : decode cX7_setAlive 5 = .ok (.invokevirtual 99, 3) := by decide +kernel
theorem dX7_setAlive_8 : decode cX7_setAlive 8 = .ok (.ifCond .ne 7, 3) := by decide +kernel
theorem dX7_setAlive_11 : decode cX7_setAlive 11 = .ok (.sipush (-1001), 3) := by decide +kernel
theorem dX7_setAlive_14 : decode cX7_setAlive 14 = .ok (.ireturn, 1) := by decide +kernel
theorem dX7_setAlive_15 : decode cX7_setAlive 15 = .ok (.aload_n 0, 1) := by decide +kernel
theorem dX7_setAlive_16 : decode cX7_setAlive 16 = .ok (.getfield 19, 3) := by decide +kernel
theorem dX7_setAlive_19 : decode cX7_setAlive 19 = .ok (.getfield 103, 3) := by decide +kernel
theorem dX7_setAlive_22 : decode cX7_setAlive 22 = .ok (.iload_n 1, 1) := by decide +kernel
theorem dX7_setAlive_23 : decode cX7_setAlive 23 = .ok (.baload, 1) := by decide +kernel
theorem dX7_setAlive_24 : decode cX7_setAlive 24 = .ok (.istore_n 3, 1) := by decide +kernel
theorem dX7_setAlive_25 : decode cX7_setAlive 25 = .ok (.iload_n 3, 1) := by decide +kernel
theorem dX7_setAlive_26 : decode cX7_setAlive 26 = .ok (.iload_n 2, 1) := by decide +kernel
theorem dX7_setAlive_27 : decode cX7_setAlive 27 = .ok (.if_icmp .eq 23, 3) := by decide +kernel
theorem dX7_setAlive_30 : decode cX7_setAlive 30 = .ok (.aload_n 0, 1) := by decide +kernel
theorem dX7_setAlive_31 : decode cX7_setAlive 31 = .ok (.getfield 19, 3) := by decide +kernel
theorem dX7_setAlive_34 : decode cX7_setAlive 34 = .ok (.getfield 103, 3) := by decide +kernel
theorem dX7_setAlive_37 : decode cX7_setAlive 37 = .ok (.iload_n 1, 1) := by decide +kernel
theorem dX7_setAlive_38 : decode cX7_setAlive 38 = .ok (.iload_n 2, 1) := by decide +kernel
theorem dX7_setAlive_39 : decode cX7_setAlive 39 = .ok (.bastore, 1) := by decide +kernel
theorem dX7_setAlive_40 : decode cX7_setAlive 40 = .ok (.aload_n 0, 1) := by decide +kernel
theorem dX7_setAlive_41 : decode cX7_setAlive 41 = .ok (.getfield 19, 3) := by decide +kernel
theorem dX7_setAlive_44 : decode cX7_setAlive 44 = .ok (.getfield 107, 3) := by decide +kernel
theorem dX7_setAlive_47 : decode cX7_setAlive 47 = .ok (.iload_n 1, 1) := by decide +kernel
theorem dX7_setAlive_48 : decode cX7_setAlive 48 = .ok (.iconst 0, 1) := by decide +kernel
theorem dX7_setAlive_49 : decode cX7_setAlive 49 = .ok (.iastore, 1) := by decide +kernel
theorem dX7_setAlive_50 : decode cX7_setAlive 50 = .ok (.iload_n 3, 1) := by decide +kernel
theorem dX7_setAlive_51 : decode cX7_setAlive 51 = .ok (.ifCond .eq 7, 3) := by decide +kernel
theorem dX7_setAlive_54 : decode cX7_setAlive 54 = .ok (.iconst 1, 1) := by decide +kernel
theorem dX7_setAlive_55 : decode cX7_setAlive 55 = .ok (.goto 4, 3) := by decide +kernel
theorem dX7_setAlive_58 : decode cX7_setAlive 58 = .ok (.iconst 0, 1) := by decide +kernel
theorem dX7_setAlive_59 : decode cX7_setAlive 59 = .ok (.ireturn, 1) := by decide +kernel
set_option maxRecDepth 20000 in
theorem ggX7_flood_X3_areAlive : GoodIn wsX7_flood wsX3_areAlive := goodIn_r _ [8, 9, 10, 78, 79, 80, 81, 82, 83] (by decide +kernel) (by decide +kernel)
set_option maxRecDepth 20000 in
theorem gX7_flood_X3_areAlive : GoodIn wsX7_flood (wsV RX7 111 RX3 yX3_areAlive wsX3_areAlive) := goodIn_app (goodIn_of _ (by decide +kernel)) ggX7_flood_X3_areAlive
set_option maxRecDepth 20000 in
theorem ggX7_flood_X1_run : GoodIn wsX7_flood wsX1_run := goodIn_r _ [15, 16, 17, 18, 19, 20, 14, 21, 22, 23, 24, 25, 26, 27, 28, 29, 30, 31, 32, 33, 34, 35, 36, 37, 38, 39, 40, 41, 42, 43, 44, 45, 46, 47, 48, 49, 50, 51, 52, 53, 54, 55, 56, 57, 58, 59, 60, 61, 62, 63, 64, 78, 79, 80, 81, 82, 83, 84, 85, 86, 87, 88, 89, 90, 91] (by decide +kernel) (by decide +kernel)
set_option maxRecDepth 20000 in
theorem gX7_flood_X1_run : GoodIn wsX7_flood (wsV RX7 114 RX1 yX1_run wsX1_run) := goodIn_app (goodIn_of _ (by decide +kernel)) ggX7_flood_X1_run
set_option maxRecDepth 20000 in
theorem ggX7_flood_X1_countHolders : GoodIn wsX7_flood wsX1_countHolders := goodIn_r _ [68, 22, 84, 85, 86, 87, 88, 89] (by decide +kernel) (by decide +kernel)
set_option maxRecDepth 20000 in
theorem gX7_flood_X1_countHolders : GoodIn wsX7_flood (wsV RX7 118 RX1 yX1_countHolders wsX1_countHolders) := goodIn_app (goodIn_of _ (by decide +kernel)) ggX7_flood_X1_countHolders
theorem dX7_flood_0 : decode cX7_flood 0 = .ok (.iload_n 1, 1) := by decide +kernel
theorem dX7_flood_1 : decode cX7_flood 1 = .ok (.ifCond .le 15, 3) := by decide +kernel
theorem dX7_flood_4 : decode cX7_flood 4 = .ok (.iload_n 1, 1) := by decide +kernel
theorem dX7_flood_5 : decode cX7_flood 5 = .ok (.aload_n 0, 1) := by decide +kernel
theorem dX7_flood_6 : decode cX7_flood 6 = .ok (.getfield 19, 3) := by decide +kernel
theorem dX7_flood_9 : decode cX7_flood 9 = .ok (.getfield 92, 3) := by decide +kernel
theorem dX7_flood_12 : decode cX7_flood 12 = .ok (.ishr, 1) := by decide +kernel
theorem dX7_flood_13 : decode cX7_flood 13 = .ok (.ifCond .eq 7, 3) := by decide +kernel
theorem dX7_flood_16 : decode cX7_flood 16 = .ok (.sipush (-1002), 3) := by decide +kernel
theorem dX7_flood_19 : decode cX7_flood 19 = .ok (.ireturn, 1) := by decide +kernel
theorem dX7_flood_20 : decode cX7_flood 20 = .ok (.aload_n 0, 1) := by decide +kernel
theorem dX7_flood_21 : decode cX7_flood 21 = .ok (.getfield 19, 3) := by decide +kernel
theorem dX7_flood_24 : decode cX7_flood 24 = .ok (.iload_n 1, 1) := by decide +kernel
theorem dX7_flood_25 : decode cX7_flood 25 = .ok (.invokevirtual 111, 3) := by decide +kernel
theorem dX7_flood_28 : decode cX7_flood 28 = .ok (.ifCond .ne 7, 3) := by decide +kernel
theorem dX7_flood_31 : decode cX7_flood 31 = .ok (.sipush (-1003), 3) := by decide +kernel
theorem dX7_flood_34 : decode cX7_flood 34 = .ok (.ireturn, 1) := by decide +kernel
theorem dX7_flood_35 : decode cX7_flood 35 = .ok (.aload_n 0, 1) := by decide +kernel
theorem dX7_flood_36 : decode cX7_flood 36 = .ok (.getfield 26, 3) := by decide +kernel
theorem dX7_flood_39 : decode cX7_flood 39 = .ok (.aload_n 0, 1) := by decide +kernel
theorem dX7_flood_40 : decode cX7_flood 40 = .ok (.getfield 19, 3) := by decide +kernel
theorem dX7_flood_43 : decode cX7_flood 43 = .ok (.iload_n 1, 1) := by decide +kernel
theorem dX7_flood_44 : decode cX7_flood 44 = .ok (.invokevirtual 114, 3) := by decide +kernel
theorem dX7_flood_47 : decode cX7_flood 47 = .ok (.aload_n 0, 1) := by decide +kernel
theorem dX7_flood_48 : decode cX7_flood 48 = .ok (.getfield 26, 3) := by decide +kernel
theorem dX7_flood_51 : decode cX7_flood 51 = .ok (.invokevirtual 118, 3) := by decide +kernel
theorem dX7_flood_54 : decode cX7_flood 54 = .ok (.ireturn, 1) := by decide +kernel
set_option maxRecDepth 20000 in
theorem ggX7_packetAt_X3_has : GoodIn wsX7_packetAt wsX3_has := goodIn_r _ [8, 9, 25, 26, 27, 28, 29, 30] (by decide +kernel) (by decide +kernel)
set_option maxRecDepth 20000 in
theorem gX7_packetAt_X3_has : GoodIn wsX7_packetAt (wsV RX7 99 RX3 yX3_has wsX3_has) := goodIn_app (goodIn_of _ (by decide +kernel)) ggX7_packetAt_X3_has
theorem dX7_packetAt_0 : decode cX7_packetAt 0 = .ok (.aload_n 0, 1) := by decide +kernel
theorem dX7_packetAt_1 : decode cX7_packetAt 1 = .ok (.getfield 19, 3) := by decide +kernel
theorem dX7_packetAt_4 : decode cX7_packetAt 4 = .ok (.iload_n 1, 1) := by decide +kernel
theorem dX7_packetAt_5 : decode cX7_packetAt 5 = .ok (.invokevirtual 99, 3) := by decide +kernel
theorem dX7_packetAt_8 : decode cX7_packetAt 8 = .ok (.ifCond .eq 15, 3) := by decide +kernel
theorem dX7_packetAt_11 : decode cX7_packetAt 11 = .ok (.aload_n 0, 1) := by decide +kernel
theorem dX7_packetAt_12 : decode cX7_packetAt 12 = .ok (.getfield 26, 3) := by decide +kernel
theorem dX7_packetAt_15 : decode cX7_packetAt 15 = .ok (.getfield 121, 3) := by decide +kernel
theorem dX7_packetAt_18 : decode cX7_packetAt 18 = .ok (.iload_n 1, 1) := by decide +kernel
theorem dX7_packetAt_19 : decode cX7_packetAt 19 = .ok (.iaload, 1) := by decide +kernel
theorem dX7_packetAt_20 : decode cX7_packetAt 20 = .ok (.goto 6, 3) := by decide +kernel
theorem dX7_packetAt_23 : decode cX7_packetAt 23 = .ok (.sipush (-1001), 3) := by decide +kernel
theorem dX7_packetAt_26 : decode cX7_packetAt 26 = .ok (.ireturn, 1) := by decide +kernel
set_option maxRecDepth 20000 in
theorem ggX7_hopCount_X3_has : GoodIn wsX7_hopCount wsX3_has := goodIn_r _ [8, 9, 25, 26, 27, 28, 29, 30] (by decide +kernel) (by decide +kernel)
set_option maxRecDepth 20000 in
theorem gX7_hopCount_X3_has : GoodIn wsX7_hopCount (wsV RX7 99 RX3 yX3_has wsX3_has) := goodIn_app (goodIn_of _ (by decide +kernel)) ggX7_hopCount_X3_has
theorem dX7_hopCount_0 : decode cX7_hopCount 0 = .ok (.aload_n 0, 1) := by decide +kernel
theorem dX7_hopCount_1 : decode cX7_hopCount 1 = .ok (.getfield 19, 3) := by decide +kernel
theorem dX7_hopCount_4 : decode cX7_hopCount 4 = .ok (.iload_n 1, 1) := by decide +kernel
theorem dX7_hopCount_5 : decode cX7_hopCount 5 = .ok (.invokevirtual 99, 3) := by decide +kernel
theorem dX7_hopCount_8 : decode cX7_hopCount 8 = .ok (.ifCond .eq 15, 3) := by decide +kernel
theorem dX7_hopCount_11 : decode cX7_hopCount 11 = .ok (.aload_n 0, 1) := by decide +kernel
theorem dX7_hopCount_12 : decode cX7_hopCount 12 = .ok (.getfield 26, 3) := by decide +kernel
theorem dX7_hopCount_15 : decode cX7_hopCount 15 = .ok (.getfield 124, 3) := by decide +kernel
theorem dX7_hopCount_18 : decode cX7_hopCount 18 = .ok (.iload_n 1, 1) := by decide +kernel
theorem dX7_hopCount_19 : decode cX7_hopCount 19 = .ok (.iaload, 1) := by decide +kernel
theorem dX7_hopCount_20 : decode cX7_hopCount 20 = .ok (.goto 6, 3) := by decide +kernel
theorem dX7_hopCount_23 : decode cX7_hopCount 23 = .ok (.sipush (-1001), 3) := by decide +kernel
theorem dX7_hopCount_26 : decode cX7_hopCount 26 = .ok (.ireturn, 1) := by decide +kernel
theorem dX7_floodLength_0 : decode cX7_floodLength 0 = .ok (.aload_n 0, 1) := by decide +kernel
theorem dX7_floodLength_1 : decode cX7_floodLength 1 = .ok (.getfield 26, 3) := by decide +kernel
theorem dX7_floodLength_4 : decode cX7_floodLength 4 = .ok (.getfield 127, 3) := by decide +kernel
theorem dX7_floodLength_7 : decode cX7_floodLength 7 = .ok (.ireturn, 1) := by decide +kernel
set_option maxRecDepth 20000 in
theorem ggX7_addStream_X3_has : GoodIn wsX7_addStream wsX3_has := goodIn_r _ [7, 8, 36, 37, 38, 39, 40, 41] (by decide +kernel) (by decide +kernel)
set_option maxRecDepth 20000 in
theorem gX7_addStream_X3_has : GoodIn wsX7_addStream (wsV RX7 99 RX3 yX3_has wsX3_has) := goodIn_app (goodIn_of _ (by decide +kernel)) ggX7_addStream_X3_has
set_option maxRecDepth 20000 in
theorem ggX7_addStream_X6_add : GoodIn wsX7_addStream wsX6_add := goodIn_r _ [13, 14, 15, 16, 17, 18, 19, 20, 21, 22, 23, 24, 25, 26, 42, 43, 44, 45, 46, 47, 48, 49, 50] (by decide +kernel) (by decide +kernel)
set_option maxRecDepth 20000 in
theorem gX7_addStream_X6_add : GoodIn wsX7_addStream (wsV RX7 128 RX6 yX6_add wsX6_add) := goodIn_app (goodIn_of _ (by decide +kernel)) ggX7_addStream_X6_add
theorem dX7_addStream_0 : decode cX7_addStream 0 = .ok (.aload_n 0, 1) := by decide +kernel
theorem dX7_addStream_1 : decode cX7_addStream 1 = .ok (.getfield 19, 3) := by decide +kernel
theorem dX7_addStream_4 : decode cX7_addStream 4 = .ok (.iload_n 1, 1) := by decide +kernel
theorem dX7_addStream_5 : decode cX7_addStream 5 = .ok (.invokevirtual 99, 3) := by decide +kernel
theorem dX7_addStream_8 : decode cX7_addStream 8 = .ok (.ifCond .ne 7, 3) := by decide +kernel
theorem dX7_addStream_11 : decode cX7_addStream 11 = .ok (.sipush (-1001), 3) := by decide +kernel
theorem dX7_addStream_14 : decode cX7_addStream 14 = .ok (.ireturn, 1) := by decide +kernel
theorem dX7_addStream_15 : decode cX7_addStream 15 = .ok (.iload_n 2, 1) := by decide +kernel
theorem dX7_addStream_16 : decode cX7_addStream 16 = .ok (.iconst 1, 1) := by decide +kernel
theorem dX7_addStream_17 : decode cX7_addStream 17 = .ok (.if_icmp .lt 19, 3) := by decide +kernel
theorem dX7_addStream_20 : decode cX7_addStream 20 = .ok (.iload_n 2, 1) := by decide +kernel
theorem dX7_addStream_21 : decode cX7_addStream 21 = .ok (.bipush 9, 2) := by decide +kernel
theorem dX7_addStream_23 : decode cX7_addStream 23 = .ok (.if_icmp .gt 13, 3) := by decide +kernel
theorem dX7_addStream_26 : decode cX7_addStream 26 = .ok (.iload_n 3, 1) := by decide +kernel
theorem dX7_addStream_27 : decode cX7_addStream 27 = .ok (.ifCond .lt 9, 3) := by decide +kernel
theorem dX7_addStream_30 : decode cX7_addStream 30 = .ok (.iload_n 3, 1) := by decide +kernel
theorem dX7_addStream_31 : decode cX7_addStream 31 = .ok (.bipush 99, 2) := by decide +kernel
theorem dX7_addStream_33 : decode cX7_addStream 33 = .ok (.if_icmp .le 7, 3) := by decide +kernel
theorem dX7_addStream_36 : decode cX7_addStream 36 = .ok (.sipush (-1002), 3) := by decide +kernel
theorem dX7_addStream_39 : decode cX7_addStream 39 = .ok (.ireturn, 1) := by decide +kernel
theorem dX7_addStream_40 : decode cX7_addStream 40 = .ok (.aload_n 0, 1) := by decide +kernel
theorem dX7_addStream_41 : decode cX7_addStream 41 = .ok (.getfield 33, 3) := by decide +kernel
theorem dX7_addStream_44 : decode cX7_addStream 44 = .ok (.iload_n 1, 1) := by decide +kernel
theorem dX7_addStream_45 : decode cX7_addStream 45 = .ok (.iload_n 2, 1) := by decide +kernel
theorem dX7_addStream_46 : decode cX7_addStream 46 = .ok (.iload_n 3, 1) := by decide +kernel
theorem dX7_addStream_47 : decode cX7_addStream 47 = .ok (.invokevirtual 128, 3) := by decide +kernel
theorem dX7_addStream_50 : decode cX7_addStream 50 = .ok (.ireturn, 1) := by decide +kernel
set_option maxRecDepth 20000 in
theorem ggX7_removeStream_X6_has : GoodIn wsX7_removeStream wsX6_has := goodIn_r _ [9, 10, 27, 28] (by decide +kernel) (by decide +kernel)
set_option maxRecDepth 20000 in
theorem gX7_removeStream_X6_has : GoodIn wsX7_removeStream (wsV RX7 131 RX6 yX6_has wsX6_has) := goodIn_app (goodIn_of _ (by decide +kernel)) ggX7_removeStream_X6_has
set_option maxRecDepth 20000 in
theorem ggX7_removeStream_X6_remove : GoodIn wsX7_removeStream wsX6_remove := goodIn_r _ [14, 15, 10, 27, 28] (by decide +kernel) (by decide +kernel)
set_option maxRecDepth 20000 in
theorem gX7_removeStream_X6_remove : GoodIn wsX7_removeStream (wsV RX7 132 RX6 yX6_remove wsX6_remove) := goodIn_app (goodIn_of _ (by decide +kernel)) ggX7_removeStream_X6_remove
theorem dX7_removeStream_0 : decode cX7_removeStream 0 = .ok (.aload_n 0, 1) := by decide +kernel
theorem dX7_removeStream_1 : decode cX7_removeStream 1 = .ok (.getfield 33, 3) := by decide +kernel
theorem dX7_removeStream_4 : decode cX7_removeStream 4 = .ok (.iload_n 1, 1) := by decide +kernel
theorem dX7_removeStream_5 : decode cX7_removeStream 5 = .ok (.invokevirtual 131, 3) := by decide +kernel
theorem dX7_removeStream_8 : decode cX7_removeStream 8 = .ok (.ifCond .ne 7, 3) := by decide +kernel
theorem dX7_removeStream_11 : decode cX7_removeStream 11 = .ok (.sipush (-1001), 3) := by decide +kernel
theorem dX7_removeStream_14 : decode cX7_removeStream 14 = .ok (.ireturn, 1) := by decide +kernel
theorem dX7_removeStream_15 : decode cX7_removeStream 15 = .ok (.aload_n 0, 1) := by decide +kernel
theorem dX7_removeStream_16 : decode cX7_removeStream 16 = .ok (.getfield 33, 3) := by decide +kernel
theorem dX7_removeStream_19 : decode cX7_removeStream 19 = .ok (.iload_n 1, 1) := by decide +kernel
theorem dX7_removeStream_20 : decode cX7_removeStream 20 = .ok (.invokevirtual 132, 3) := by decide +kernel
theorem dX7_removeStream_23 : decode cX7_removeStream 23 = .ok (.aload_n 0, 1) := by decide +kernel
theorem dX7_removeStream_24 : decode cX7_removeStream 24 = .ok (.getfield 40, 3) := by decide +kernel
theorem dX7_removeStream_27 : decode cX7_removeStream 27 = .ok (.iconst 0, 1) := by decide +kernel
theorem dX7_removeStream_28 : decode cX7_removeStream 28 = .ok (.putfield 89, 3) := by decide +kernel
theorem dX7_removeStream_31 : decode cX7_removeStream 31 = .ok (.aload_n 0, 1) := by decide +kernel
theorem dX7_removeStream_32 : decode cX7_removeStream 32 = .ok (.getfield 33, 3) := by decide +kernel
theorem dX7_removeStream_35 : decode cX7_removeStream 35 = .ok (.getfield 86, 3) := by decide +kernel
theorem dX7_removeStream_38 : decode cX7_removeStream 38 = .ok (.ireturn, 1) := by decide +kernel
set_option maxRecDepth 20000 in
theorem ggX7_waitingPackets_X6_has : GoodIn wsX7_waitingPackets wsX6_has := goodIn_r _ [8, 9, 19, 20] (by decide +kernel) (by decide +kernel)
set_option maxRecDepth 20000 in
theorem gX7_waitingPackets_X6_has : GoodIn wsX7_waitingPackets (wsV RX7 131 RX6 yX6_has wsX6_has) := goodIn_app (goodIn_of _ (by decide +kernel)) ggX7_waitingPackets_X6_has
theorem dX7_waitingPackets_0 : decode cX7_waitingPackets 0 = .ok (.aload_n 0, 1) := by decide +kernel
theorem dX7_waitingPackets_1 : decode cX7_waitingPackets 1 = .ok (.getfield 33, 3) := by decide +kernel
theorem dX7_waitingPackets_4 : decode cX7_waitingPackets 4 = .ok (.iload_n 1, 1) := by decide +kernel
theorem dX7_waitingPackets_5 : decode cX7_waitingPackets 5 = .ok (.invokevirtual 131, 3) := by decide +kernel
theorem dX7_waitingPackets_8 : decode cX7_waitingPackets 8 = .ok (.ifCond .eq 18, 3) := by decide +kernel
theorem dX7_waitingPackets_11 : decode cX7_waitingPackets 11 = .ok (.aload_n 0, 1) := by decide +kernel
theorem dX7_waitingPackets_12 : decode cX7_waitingPackets 12 = .ok (.getfield 33, 3) := by decide +kernel
theorem dX7_waitingPackets_15 : decode cX7_waitingPackets 15 = .ok (.getfield 136, 3) := by decide +kernel
theorem dX7_waitingPackets_18 : decode cX7_waitingPackets 18 = .ok (.iload_n 1, 1) := by decide +kernel
theorem dX7_waitingPackets_19 : decode cX7_waitingPackets 19 = .ok (.aaload, 1) := by decide +kernel
theorem dX7_waitingPackets_20 : decode cX7_waitingPackets 20 = .ok (.getfield 140, 3) := by decide +kernel
theorem dX7_waitingPackets_23 : decode cX7_waitingPackets 23 = .ok (.goto 6, 3) := by decide +kernel
theorem dX7_waitingPackets_26 : decode cX7_waitingPackets 26 = .ok (.sipush (-1001), 3) := by decide +kernel
theorem dX7_waitingPackets_29 : decode cX7_waitingPackets 29 = .ok (.ireturn, 1) := by decide +kernel
set_option maxRecDepth 20000 in
theorem ggX7_deliveredPackets_X6_has : GoodIn wsX7_deliveredPackets wsX6_has := goodIn_r _ [8, 9, 19, 20] (by decide +kernel) (by decide +kernel)
set_option maxRecDepth 20000 in
theorem gX7_deliveredPackets_X6_has : GoodIn wsX7_deliveredPackets (wsV RX7 131 RX6 yX6_has wsX6_has) := goodIn_app (goodIn_of _ (by decide +kernel)) ggX7_deliveredPackets_X6_has
theorem dX7_deliveredPackets_0 : decode cX7_deliveredPackets 0 = .ok (.aload_n 0, 1) := by decide +kernel
theorem dX7_deliveredPackets_1 : decode cX7_deliveredPackets 1 = .ok (.getfield 33, 3) := by decide +kernel
theorem dX7_deliveredPackets_4 : decode cX7_deliveredPackets 4 = .ok (.iload_n 1, 1) := by decide +kernel
theorem dX7_deliveredPackets_5 : decode cX7_deliveredPackets 5 = .ok (.invokevirtual 131, 3) := by decide +kernel
theorem dX7_deliveredPackets_8 : decode cX7_deliveredPackets 8 = .ok (.ifCond .eq 18, 3) := by decide +kernel
theorem dX7_deliveredPackets_11 : decode cX7_deliveredPackets 11 = .ok (.aload_n 0, 1) := by decide +kernel
theorem dX7_deliveredPackets_12 : decode cX7_deliveredPackets 12 = .ok (.getfield 33, 3) := by decide +kernel
theorem dX7_deliveredPackets_15 : decode cX7_deliveredPackets 15 = .ok (.getfield 136, 3) := by decide +kernel
theorem dX7_deliveredPackets_18 : decode cX7_deliveredPackets 18 = .ok (.iload_n 1, 1) := by decide +kernel
theorem dX7_deliveredPackets_19 : decode cX7_deliveredPackets 19 = .ok (.aaload, 1) := by decide +kernel
theorem dX7_deliveredPackets_20 : decode cX7_deliveredPackets 20 = .ok (.getfield 145, 3) := by decide +kernel
theorem dX7_deliveredPackets_23 : decode cX7_deliveredPackets 23 = .ok (.goto 6, 3) := by decide +kernel
theorem dX7_deliveredPackets_26 : decode cX7_deliveredPackets 26 = .ok (.sipush (-1001), 3) := by decide +kernel
theorem dX7_deliveredPackets_29 : decode cX7_deliveredPackets 29 = .ok (.ireturn, 1) := by decide +kernel
set_option maxRecDepth 20000 in
theorem ggX7_lostPackets_X6_has : GoodIn wsX7_lostPackets wsX6_has := goodIn_r _ [8, 9, 19, 20] (by decide +kernel) (by decide +kernel)
set_option maxRecDepth 20000 in
theorem gX7_lostPackets_X6_has : GoodIn wsX7_lostPackets (wsV RX7 131 RX6 yX6_has wsX6_has) := goodIn_app (goodIn_of _ (by decide +kernel)) ggX7_lostPackets_X6_has
theorem dX7_lostPackets_0 : decode cX7_lostPackets 0 = .ok (.aload_n 0, 1) := by decide +kernel
theorem dX7_lostPackets_1 : decode cX7_lostPackets 1 = .ok (.getfield 33, 3) := by decide +kernel
theorem dX7_lostPackets_4 : decode cX7_lostPackets 4 = .ok (.iload_n 1, 1) := by decide +kernel
theorem dX7_lostPackets_5 : decode cX7_lostPackets 5 = .ok (.invokevirtual 131, 3) := by decide +kernel
theorem dX7_lostPackets_8 : decode cX7_lostPackets 8 = .ok (.ifCond .eq 18, 3) := by decide +kernel
theorem dX7_lostPackets_11 : decode cX7_lostPackets 11 = .ok (.aload_n 0, 1) := by decide +kernel
theorem dX7_lostPackets_12 : decode cX7_lostPackets 12 = .ok (.getfield 33, 3) := by decide +kernel
theorem dX7_lostPackets_15 : decode cX7_lostPackets 15 = .ok (.getfield 136, 3) := by decide +kernel
theorem dX7_lostPackets_18 : decode cX7_lostPackets 18 = .ok (.iload_n 1, 1) := by decide +kernel
theorem dX7_lostPackets_19 : decode cX7_lostPackets 19 = .ok (.aaload, 1) := by decide +kernel
theorem dX7_lostPackets_20 : decode cX7_lostPackets 20 = .ok (.getfield 148, 3) := by decide +kernel
theorem dX7_lostPackets_23 : decode cX7_lostPackets 23 = .ok (.goto 6, 3) := by decide +kernel
theorem dX7_lostPackets_26 : decode cX7_lostPackets 26 = .ok (.sipush (-1001), 3) := by decide +kernel
theorem dX7_lostPackets_29 : decode cX7_lostPackets 29 = .ok (.ireturn, 1) := by decide +kernel
set_option maxRecDepth 20000 in
theorem ggX7_runRounds_X3_has : GoodIn wsX7_runRounds wsX3_has := goodIn_r _ [8, 9, 156, 157, 158, 159, 160, 161] (by decide +kernel) (by decide +kernel)
set_option maxRecDepth 20000 in
theorem gX7_runRounds_X3_has : GoodIn wsX7_runRounds (wsV RX7 99 RX3 yX3_has wsX3_has) := goodIn_app (goodIn_of _ (by decide +kernel)) ggX7_runRounds_X3_has
set_option maxRecDepth 20000 in
theorem ggX7_runRounds_X7_runOneRound : GoodIn wsX7_runRounds wsX7_runOneRound := goodIn_r _ [14, 15, 3, 1, 16, 2, 17, 18, 19, 20, 21, 22, 23, 24, 25, 26, 27, 28, 29, 30, 31, 32, 33, 34, 35, 36, 37, 38, 39, 40, 41, 42, 43, 44, 45, 46, 47, 48, 49, 50, 51, 52, 53, 54, 55, 56, 57, 58, 59, 60, 61, 62, 63, 64, 65, 66, 67, 68, 69, 70, 71, 72, 73, 74, 75, 76, 77, 78, 79, 80, 81, 82, 83, 84, 85, 86, 87, 88, 89, 90, 91, 92, 93, 94, 95, 96, 97, 98, 99, 100, 101, 102, 103, 104, 105, 106, 107, 108, 109, 110, 111, 112, 113, 114, 115, 7, 116, 9, 117, 118, 119, 120, 121, 122, 123, 13, 124, 125, 126, 127, 128, 129, 130, 131, 132, 133, 134, 135, 136, 137, 138, 139, 140, 141, 142, 143, 144, 145, 146, 147, 148, 149, 150, 151, 152, 153, 154, 155, 156, 157, 158, 159, 160, 161, 162, 163, 164, 165, 166, 167, 168, 169, 170, 171, 172, 173, 174, 175, 176, 177, 178, 179, 180] (by decide +kernel) (by decide +kernel)
set_option maxRecDepth 20000 in
theorem gX7_runRounds_X7_runOneRound : GoodIn wsX7_runRounds (wsV RX7 151 RX7 yX7_runOneRound wsX7_runOneRound) := goodIn_app (goodIn_of _ (by decide +kernel)) ggX7_runRounds_X7_runOneRound
theorem dX7_runRounds_0 : decode cX7_runRounds 0 = .ok (.iload_n 1, 1) := by decide +kernel
theorem dX7_runRounds_1 : decode cX7_runRounds 1 = .ok (.iconst 1, 1) := by decide +kernel
theorem dX7_runRounds_2 : decode cX7_runRounds 2 = .ok (.if_icmp .lt 9, 3) := by decide +kernel
theorem dX7_runRounds_5 : decode cX7_runRounds 5 = .ok (.iload_n 1, 1) := by decide +kernel
theorem dX7_runRounds_6 : decode cX7_runRounds 6 = .ok (.bipush 20, 2) := by decide +kernel
theorem dX7_runRounds_8 : decode cX7_runRounds 8 = .ok (.if_icmp .le 7, 3) := by decide +kernel
theorem dX7_runRounds_11 : decode cX7_runRounds 11 = .ok (.sipush (-1002), 3) := by decide +kernel
theorem dX7_runRounds_14 : decode cX7_runRounds 14 = .ok (.ireturn, 1) := by decide +kernel
theorem dX7_runRounds_15 : decode cX7_runRounds 15 = .ok (.aload_n 0, 1) := by decide +kernel
theorem dX7_runRounds_16 : decode cX7_runRounds 16 = .ok (.getfield 19, 3) := by decide +kernel
theorem dX7_runRounds_19 : decode cX7_runRounds 19 = .ok (.aload_n 0, 1) := by decide +kernel
theorem dX7_runRounds_20 : decode cX7_runRounds 20 = .ok (.getfield 51, 3) := by decide +kernel
theorem dX7_runRounds_23 : decode cX7_runRounds 23 = .ok (.invokevirtual 99, 3) := by decide +kernel
theorem dX7_runRounds_26 : decode cX7_runRounds 26 = .ok (.ifCond .ne 7, 3) := by decide +kernel
theorem dX7_runRounds_29 : decode cX7_runRounds 29 = .ok (.sipush (-1003), 3) := by decide +kernel
theorem dX7_runRounds_32 : decode cX7_runRounds 32 = .ok (.ireturn, 1) := by decide +kernel
theorem dX7_runRounds_33 : decode cX7_runRounds 33 = .ok (.aload_n 0, 1) := by decide +kernel
theorem dX7_runRounds_34 : decode cX7_runRounds 34 = .ok (.getfield 54, 3) := by decide +kernel
theorem dX7_runRounds_37 : decode cX7_runRounds 37 = .ok (.iload_n 1, 1) := by decide +kernel
theorem dX7_runRounds_38 : decode cX7_runRounds 38 = .ok (.iadd, 1) := by decide +kernel
theorem dX7_runRounds_39 : decode cX7_runRounds 39 = .ok (.sipush 9999, 3) := by decide +kernel
theorem dX7_runRounds_42 : decode cX7_runRounds 42 = .ok (.if_icmp .le 7, 3) := by decide +kernel
theorem dX7_runRounds_45 : decode cX7_runRounds 45 = .ok (.sipush (-1004), 3) := by decide +kernel
theorem dX7_runRounds_48 : decode cX7_runRounds 48 = .ok (.ireturn, 1) := by decide +kernel
theorem dX7_runRounds_49 : decode cX7_runRounds 49 = .ok (.iconst 0, 1) := by decide +kernel
theorem dX7_runRounds_50 : decode cX7_runRounds 50 = .ok (.istore_n 2, 1) := by decide +kernel
theorem dX7_runRounds_51 : decode cX7_runRounds 51 = .ok (.iconst 0, 1) := by decide +kernel
theorem dX7_runRounds_52 : decode cX7_runRounds 52 = .ok (.istore_n 3, 1) := by decide +kernel
theorem dX7_runRounds_53 : decode cX7_runRounds 53 = .ok (.iload_n 3, 1) := by decide +kernel
theorem dX7_runRounds_54 : decode cX7_runRounds 54 = .ok (.iload_n 1, 1) := by decide +kernel
theorem dX7_runRounds_55 : decode cX7_runRounds 55 = .ok (.if_icmp .ge 16, 3) := by decide +kernel
theorem dX7_runRounds_58 : decode cX7_runRounds 58 = .ok (.iload_n 2, 1) := by decide +kernel
theorem dX7_runRounds_59 : decode cX7_runRounds 59 = .ok (.aload_n 0, 1) := by decide +kernel
theorem dX7_runRounds_60 : decode cX7_runRounds 60 = .ok (.invokevirtual 151, 3) := by decide +kernel
theorem dX7_runRounds_63 : decode cX7_runRounds 63 = .ok (.iadd, 1) := by decide +kernel
theorem dX7_runRounds_64 : decode cX7_runRounds 64 = .ok (.istore_n 2, 1) := by decide +kernel
theorem dX7_runRounds_65 : decode cX7_runRounds 65 = .ok (.iinc 3 1, 3) := by decide +kernel
theorem dX7_runRounds_68 : decode cX7_runRounds 68 = .ok (.goto (-15), 3) := by decide +kernel
theorem dX7_runRounds_71 : decode cX7_runRounds 71 = .ok (.iload_n 2, 1) := by decide +kernel
theorem dX7_runRounds_72 : decode cX7_runRounds 72 = .ok (.ireturn, 1) := by decide +kernel
theorem dX7_scheduledStream_0 : decode cX7_scheduledStream 0 = .ok (.iload_n 1, 1) := by decide +kernel
theorem dX7_scheduledStream_1 : decode cX7_scheduledStream 1 = .ok (.ifCond .lt 26, 3) := by decide +kernel
theorem dX7_scheduledStream_4 : decode cX7_scheduledStream 4 = .ok (.iload_n 1, 1) := by decide +kernel
theorem dX7_scheduledStream_5 : decode cX7_scheduledStream 5 = .ok (.aload_n 0, 1) := by decide +kernel
theorem dX7_scheduledStream_6 : decode cX7_scheduledStream 6 = .ok (.getfield 40, 3) := by decide +kernel
theorem dX7_scheduledStream_9 : decode cX7_scheduledStream 9 = .ok (.getfield 89, 3) := by decide +kernel
theorem dX7_scheduledStream_12 : decode cX7_scheduledStream 12 = .ok (.if_icmp .ge 15, 3) := by decide +kernel
theorem dX7_scheduledStream_15 : decode cX7_scheduledStream 15 = .ok (.aload_n 0, 1) := by decide +kernel
theorem dX7_scheduledStream_16 : decode cX7_scheduledStream 16 = .ok (.getfield 40, 3) := by decide +kernel
theorem dX7_scheduledStream_19 : decode cX7_scheduledStream 19 = .ok (.getfield 154, 3) := by decide +kernel
theorem dX7_scheduledStream_22 : decode cX7_scheduledStream 22 = .ok (.iload_n 1, 1) := by decide +kernel
theorem dX7_scheduledStream_23 : decode cX7_scheduledStream 23 = .ok (.iaload, 1) := by decide +kernel
theorem dX7_scheduledStream_24 : decode cX7_scheduledStream 24 = .ok (.goto 4, 3) := by decide +kernel
theorem dX7_scheduledStream_27 : decode cX7_scheduledStream 27 = .ok (.iconst (-1), 1) := by decide +kernel
theorem dX7_scheduledStream_28 : decode cX7_scheduledStream 28 = .ok (.ireturn, 1) := by decide +kernel
set_option maxRecDepth 20000 in
theorem ggX7_scheduleBits_X4_encodedSize : GoodIn wsX7_scheduleBits wsX4_encodedSize := goodIn_r _ [7, 8, 9, 10, 11, 12, 13, 14, 15, 6, 16, 17, 18, 19, 29, 30, 31, 32, 33, 34, 35, 36, 37, 38, 39] (by decide +kernel) (by decide +kernel)
set_option maxRecDepth 20000 in
theorem gX7_scheduleBits_X4_encodedSize : GoodIn wsX7_scheduleBits (wsV RX7 157 RX4 yX4_encodedSize wsX4_encodedSize) := goodIn_app (goodIn_of _ (by decide +kernel)) ggX7_scheduleBits_X4_encodedSize
theorem dX7_scheduleBits_0 : decode cX7_scheduleBits 0 = .ok (.aload_n 0, 1) := by decide +kernel
theorem dX7_scheduleBits_1 : decode cX7_scheduleBits 1 = .ok (.getfield 40, 3) := by decide +kernel
theorem dX7_scheduleBits_4 : decode cX7_scheduleBits 4 = .ok (.aload_n 0, 1) := by decide +kernel
theorem dX7_scheduleBits_5 : decode cX7_scheduleBits 5 = .ok (.getfield 33, 3) := by decide +kernel
theorem dX7_scheduleBits_8 : decode cX7_scheduleBits 8 = .ok (.invokevirtual 157, 3) := by decide +kernel
theorem dX7_scheduleBits_11 : decode cX7_scheduleBits 11 = .ok (.ireturn, 1) := by decide +kernel
theorem dX7_host_0 : decode cX7_host 0 = .ok (.aload_n 0, 1) := by decide +kernel
theorem dX7_host_1 : decode cX7_host 1 = .ok (.getfield 51, 3) := by decide +kernel
theorem dX7_host_4 : decode cX7_host 4 = .ok (.ireturn, 1) := by decide +kernel
set_option maxRecDepth 20000 in
theorem ggX7_missedSchedules_X3_has : GoodIn wsX7_missedSchedules wsX3_has := goodIn_r _ [7, 8, 18, 19, 20, 21, 22, 23] (by decide +kernel) (by decide +kernel)
set_option maxRecDepth 20000 in
theorem gX7_missedSchedules_X3_has : GoodIn wsX7_missedSchedules (wsV RX7 99 RX3 yX3_has wsX3_has) := goodIn_app (goodIn_of _ (by decide +kernel)) ggX7_missedSchedules_X3_has
theorem dX7_missedSchedules_0 : decode cX7_missedSchedules 0 = .ok (.aload_n 0, 1) := by decide +kernel
theorem dX7_missedSchedules_1 : decode cX7_missedSchedules 1 = .ok (.getfield 19, 3) := by decide +kernel
theorem dX7_missedSchedules_4 : decode cX7_missedSchedules 4 = .ok (.iload_n 1, 1) := by decide +kernel
theorem dX7_missedSchedules_5 : decode cX7_missedSchedules 5 = .ok (.invokevirtual 99, 3) := by decide +kernel
theorem dX7_missedSchedules_8 : decode cX7_missedSchedules 8 = .ok (.ifCond .eq 15, 3) := by decide +kernel
theorem dX7_missedSchedules_11 : decode cX7_missedSchedules 11 = .ok (.aload_n 0, 1) := by decide +kernel
theorem dX7_missedSchedules_12 : decode cX7_missedSchedules 12 = .ok (.getfield 19, 3) := by decide +kernel
theorem dX7_missedSchedules_15 : decode cX7_missedSchedules 15 = .ok (.getfield 107, 3) := by decide +kernel
theorem dX7_missedSchedules_18 : decode cX7_missedSchedules 18 = .ok (.iload_n 1, 1) := by decide +kernel
theorem dX7_missedSchedules_19 : decode cX7_missedSchedules 19 = .ok (.iaload, 1) := by decide +kernel
theorem dX7_missedSchedules_20 : decode cX7_missedSchedules 20 = .ok (.goto 6, 3) := by decide +kernel
theorem dX7_missedSchedules_23 : decode cX7_missedSchedules 23 = .ok (.sipush (-1001), 3) := by decide +kernel
theorem dX7_missedSchedules_26 : decode cX7_missedSchedules 26 = .ok (.ireturn, 1) := by decide +kernel
set_option maxRecDepth 20000 in
theorem ggX7_transmissions_X3_has : GoodIn wsX7_transmissions wsX3_has := goodIn_r _ [7, 8, 18, 19, 20, 21, 22, 23] (by decide +kernel) (by decide +kernel)
set_option maxRecDepth 20000 in
theorem gX7_transmissions_X3_has : GoodIn wsX7_transmissions (wsV RX7 99 RX3 yX3_has wsX3_has) := goodIn_app (goodIn_of _ (by decide +kernel)) ggX7_transmissions_X3_has
theorem dX7_transmissions_0 : decode cX7_transmissions 0 = .ok (.aload_n 0, 1) := by decide +kernel
theorem dX7_transmissions_1 : decode cX7_transmissions 1 = .ok (.getfield 19, 3) := by decide +kernel
theorem dX7_transmissions_4 : decode cX7_transmissions 4 = .ok (.iload_n 1, 1) := by decide +kernel
theorem dX7_transmissions_5 : decode cX7_transmissions 5 = .ok (.invokevirtual 99, 3) := by decide +kernel
theorem dX7_transmissions_8 : decode cX7_transmissions 8 = .ok (.ifCond .eq 15, 3) := by decide +kernel
theorem dX7_transmissions_11 : decode cX7_transmissions 11 = .ok (.aload_n 0, 1) := by decide +kernel
theorem dX7_transmissions_12 : decode cX7_transmissions 12 = .ok (.getfield 19, 3) := by decide +kernel
theorem dX7_transmissions_15 : decode cX7_transmissions 15 = .ok (.getfield 161, 3) := by decide +kernel
theorem dX7_transmissions_18 : decode cX7_transmissions 18 = .ok (.iload_n 1, 1) := by decide +kernel
theorem dX7_transmissions_19 : decode cX7_transmissions 19 = .ok (.iaload, 1) := by decide +kernel
theorem dX7_transmissions_20 : decode cX7_transmissions 20 = .ok (.goto 6, 3) := by decide +kernel
theorem dX7_transmissions_23 : decode cX7_transmissions 23 = .ok (.sipush (-1001), 3) := by decide +kernel
theorem dX7_transmissions_26 : decode cX7_transmissions 26 = .ok (.ireturn, 1) := by decide +kernel
theorem dX7_roundNumber_0 : decode cX7_roundNumber 0 = .ok (.aload_n 0, 1) := by decide +kernel
theorem dX7_roundNumber_1 : decode cX7_roundNumber 1 = .ok (.getfield 54, 3) := by decide +kernel
theorem dX7_roundNumber_4 : decode cX7_roundNumber 4 = .ok (.ireturn, 1) := by decide +kernel
set_option maxRecDepth 20000 in
theorem ggX7_digest_X7_digestNodes : GoodIn wsX7_digest wsX7_digestNodes := goodIn_r _ [18, 19, 20, 2, 3, 21, 22, 23, 24, 25, 52, 53, 54, 55, 56, 57, 58, 59, 60, 77, 78, 79, 80, 81, 82, 61, 62, 63, 64, 65, 66] (by decide +kernel) (by decide +kernel)
set_option maxRecDepth 20000 in
theorem gX7_digest_X7_digestNodes : GoodIn wsX7_digest (wsV RX7 166 RX7 yX7_digestNodes wsX7_digestNodes) := goodIn_app (goodIn_of _ (by decide +kernel)) ggX7_digest_X7_digestNodes
set_option maxRecDepth 20000 in
theorem ggX7_digest_X7_digestStreams : GoodIn wsX7_digest wsX7_digestStreams := goodIn_r _ [29, 8, 30, 31, 2, 32, 33, 34, 52, 53, 54, 55, 56, 57, 58, 59, 60, 83, 84, 85, 86, 87, 88, 89, 90, 91] (by decide +kernel) (by decide +kernel)
set_option maxRecDepth 20000 in
theorem gX7_digest_X7_digestStreams : GoodIn wsX7_digest (wsV RX7 172 RX7 yX7_digestStreams wsX7_digestStreams) := goodIn_app (goodIn_of _ (by decide +kernel)) ggX7_digest_X7_digestStreams
set_option maxRecDepth 20000 in
theorem ggX7_digest_X4_encodedSize : GoodIn wsX7_digest wsX4_encodedSize := goodIn_r _ [39, 40, 41, 42, 43, 44, 45, 46, 47, 38, 48, 49, 50, 51, 67, 68, 83, 84, 85, 86, 87, 88, 89, 90, 91] (by decide +kernel) (by decide +kernel)
set_option maxRecDepth 20000 in
theorem gX7_digest_X4_encodedSize : GoodIn wsX7_digest (wsV RX7 157 RX4 yX4_encodedSize wsX4_encodedSize) := goodIn_app (goodIn_of _ (by decide +kernel)) ggX7_digest_X4_encodedSize
theorem dX7_digest_0 : decode cX7_digest 0 = .ok (.aload_n 0, 1) := by decide +kernel
theorem dX7_digest_1 : decode cX7_digest 1 = .ok (.ldc2_w 164, 3) := by decide +kernel
theorem dX7_digest_4 : decode cX7_digest 4 = .ok (.invokevirtual 166, 3) := by decide +kernel
theorem dX7_digest_7 : decode cX7_digest 7 = .ok (.lstore_n 1, 1) := by decide +kernel
theorem dX7_digest_8 : decode cX7_digest 8 = .ok (.ldc2_w 170, 3) := by decide +kernel
theorem dX7_digest_11 : decode cX7_digest 11 = .ok (.lload_n 1, 1) := by decide +kernel
theorem dX7_digest_12 : decode cX7_digest 12 = .ok (.lmul, 1) := by decide +kernel
theorem dX7_digest_13 : decode cX7_digest 13 = .ok (.aload_n 0, 1) := by decide +kernel
theorem dX7_digest_14 : decode cX7_digest 14 = .ok (.getfield 26, 3) := by decide +kernel
theorem dX7_digest_17 : decode cX7_digest 17 = .ok (.getfield 127, 3) := by decide +kernel
theorem dX7_digest_20 : decode cX7_digest 20 = .ok (.i2l, 1) := by decide +kernel
theorem dX7_digest_21 : decode cX7_digest 21 = .ok (.ladd, 1) := by decide +kernel
theorem dX7_digest_22 : decode cX7_digest 22 = .ok (.lstore_n 1, 1) := by decide +kernel
theorem dX7_digest_23 : decode cX7_digest 23 = .ok (.aload_n 0, 1) := by decide +kernel
theorem dX7_digest_24 : decode cX7_digest 24 = .ok (.lload_n 1, 1) := by decide +kernel
theorem dX7_digest_25 : decode cX7_digest 25 = .ok (.invokevirtual 172, 3) := by decide +kernel
theorem dX7_digest_28 : decode cX7_digest 28 = .ok (.lstore_n 1, 1) := by decide +kernel
theorem dX7_digest_29 : decode cX7_digest 29 = .ok (.iconst 0, 1) := by decide +kernel
theorem dX7_digest_30 : decode cX7_digest 30 = .ok (.istore_n 3, 1) := by decide +kernel
theorem dX7_digest_31 : decode cX7_digest 31 = .ok (.iload_n 3, 1) := by decide +kernel
theorem dX7_digest_32 : decode cX7_digest 32 = .ok (.aload_n 0, 1) := by decide +kernel
theorem dX7_digest_33 : decode cX7_digest 33 = .ok (.getfield 40, 3) := by decide +kernel
theorem dX7_digest_36 : decode cX7_digest 36 = .ok (.getfield 89, 3) := by decide +kernel
theorem dX7_digest_39 : decode cX7_digest 39 = .ok (.if_icmp .ge 26, 3) := by decide +kernel
theorem dX7_digest_42 : decode cX7_digest 42 = .ok (.ldc2_w 170, 3) := by decide +kernel
theorem dX7_digest_45 : decode cX7_digest 45 = .ok (.lload_n 1, 1) := by decide +kernel
theorem dX7_digest_46 : decode cX7_digest 46 = .ok (.lmul, 1) := by decide +kernel
theorem dX7_digest_47 : decode cX7_digest 47 = .ok (.aload_n 0, 1) := by decide +kernel
theorem dX7_digest_48 : decode cX7_digest 48 = .ok (.getfield 40, 3) := by decide +kernel
theorem dX7_digest_51 : decode cX7_digest 51 = .ok (.getfield 154, 3) := by decide +kernel
theorem dX7_digest_54 : decode cX7_digest 54 = .ok (.iload_n 3, 1) := by decide +kernel
theorem dX7_digest_55 : decode cX7_digest 55 = .ok (.iaload, 1) := by decide +kernel
theorem dX7_digest_56 : decode cX7_digest 56 = .ok (.i2l, 1) := by decide +kernel
theorem dX7_digest_57 : decode cX7_digest 57 = .ok (.ladd, 1) := by decide +kernel
theorem dX7_digest_58 : decode cX7_digest 58 = .ok (.lstore_n 1, 1) := by decide +kernel
theorem dX7_digest_59 : decode cX7_digest 59 = .ok (.iinc 3 1, 3) := by decide +kernel
theorem dX7_digest_62 : decode cX7_digest 62 = .ok (.goto (-31), 3) := by decide +kernel
theorem dX7_digest_65 : decode cX7_digest 65 = .ok (.ldc2_w 170, 3) := by decide +kernel
theorem dX7_digest_68 : decode cX7_digest 68 = .ok (.lload_n 1, 1) := by decide +kernel
theorem dX7_digest_69 : decode cX7_digest 69 = .ok (.lmul, 1) := by decide +kernel
theorem dX7_digest_70 : decode cX7_digest 70 = .ok (.aload_n 0, 1) := by decide +kernel
theorem dX7_digest_71 : decode cX7_digest 71 = .ok (.getfield 40, 3) := by decide +kernel
theorem dX7_digest_74 : decode cX7_digest 74 = .ok (.aload_n 0, 1) := by decide +kernel
theorem dX7_digest_75 : decode cX7_digest 75 = .ok (.getfield 33, 3) := by decide +kernel
theorem dX7_digest_78 : decode cX7_digest 78 = .ok (.invokevirtual 157, 3) := by decide +kernel
theorem dX7_digest_81 : decode cX7_digest 81 = .ok (.i2l, 1) := by decide +kernel
theorem dX7_digest_82 : decode cX7_digest 82 = .ok (.ladd, 1) := by decide +kernel
theorem dX7_digest_83 : decode cX7_digest 83 = .ok (.lstore_n 1, 1) := by decide +kernel
theorem dX7_digest_84 : decode cX7_digest 84 = .ok (.ldc2_w 170, 3) := by decide +kernel
theorem dX7_digest_87 : decode cX7_digest 87 = .ok (.lload_n 1, 1) := by decide +kernel
theorem dX7_digest_88 : decode cX7_digest 88 = .ok (.lmul, 1) := by decide +kernel
theorem dX7_digest_89 : decode cX7_digest 89 = .ok (.aload_n 0, 1) := by decide +kernel
theorem dX7_digest_90 : decode cX7_digest 90 = .ok (.getfield 51, 3) := by decide +kernel
theorem dX7_digest_93 : decode cX7_digest 93 = .ok (.i2l, 1) := by decide +kernel
theorem dX7_digest_94 : decode cX7_digest 94 = .ok (.ladd, 1) := by decide +kernel
theorem dX7_digest_95 : decode cX7_digest 95 = .ok (.lstore_n 1, 1) := by decide +kernel
theorem dX7_digest_96 : decode cX7_digest 96 = .ok (.ldc2_w 170, 3) := by decide +kernel
theorem dX7_digest_99 : decode cX7_digest 99 = .ok (.lload_n 1, 1) := by decide +kernel
theorem dX7_digest_100 : decode cX7_digest 100 = .ok (.lmul, 1) := by decide +kernel
theorem dX7_digest_101 : decode cX7_digest 101 = .ok (.aload_n 0, 1) := by decide +kernel
theorem dX7_digest_102 : decode cX7_digest 102 = .ok (.getfield 54, 3) := by decide +kernel
theorem dX7_digest_105 : decode cX7_digest 105 = .ok (.i2l, 1) := by decide +kernel
theorem dX7_digest_106 : decode cX7_digest 106 = .ok (.ladd, 1) := by decide +kernel
theorem dX7_digest_107 : decode cX7_digest 107 = .ok (.lstore_n 1, 1) := by decide +kernel
theorem dX7_digest_108 : decode cX7_digest 108 = .ok (.iconst 0, 1) := by decide +kernel
theorem dX7_digest_109 : decode cX7_digest 109 = .ok (.istore_n 3, 1) := by decide +kernel
theorem dX7_digest_110 : decode cX7_digest 110 = .ok (.iload_n 3, 1) := by decide +kernel
theorem dX7_digest_111 : decode cX7_digest 111 = .ok (.aload_n 0, 1) := by decide +kernel
theorem dX7_digest_112 : decode cX7_digest 112 = .ok (.getfield 10, 3) := by decide +kernel
theorem dX7_digest_115 : decode cX7_digest 115 = .ok (.getfield 61, 3) := by decide +kernel
theorem dX7_digest_118 : decode cX7_digest 118 = .ok (.if_icmp .ge 26, 3) := by decide +kernel
theorem dX7_digest_121 : decode cX7_digest 121 = .ok (.ldc2_w 170, 3) := by decide +kernel
theorem dX7_digest_124 : decode cX7_digest 124 = .ok (.lload_n 1, 1) := by decide +kernel
theorem dX7_digest_125 : decode cX7_digest 125 = .ok (.lmul, 1) := by decide +kernel
theorem dX7_digest_126 : decode cX7_digest 126 = .ok (.aload_n 0, 1) := by decide +kernel
theorem dX7_digest_127 : decode cX7_digest 127 = .ok (.getfield 10, 3) := by decide +kernel
theorem dX7_digest_130 : decode cX7_digest 130 = .ok (.getfield 175, 3) := by decide +kernel
theorem dX7_digest_133 : decode cX7_digest 133 = .ok (.iload_n 3, 1) := by decide +kernel
theorem dX7_digest_134 : decode cX7_digest 134 = .ok (.iaload, 1) := by decide +kernel
theorem dX7_digest_135 : decode cX7_digest 135 = .ok (.i2l, 1) := by decide +kernel
theorem dX7_digest_136 : decode cX7_digest 136 = .ok (.ladd, 1) := by decide +kernel
theorem dX7_digest_137 : decode cX7_digest 137 = .ok (.lstore_n 1, 1) := by decide +kernel
theorem dX7_digest_138 : decode cX7_digest 138 = .ok (.iinc 3 1, 3) := by decide +kernel
theorem dX7_digest_141 : decode cX7_digest 141 = .ok (.goto (-31), 3) := by decide +kernel
theorem dX7_digest_144 : decode cX7_digest 144 = .ok (.ldc2_w 170, 3) := by decide +kernel
theorem dX7_digest_147 : decode cX7_digest 147 = .ok (.lload_n 1, 1) := by decide +kernel
theorem dX7_digest_148 : decode cX7_digest 148 = .ok (.lmul, 1) := by decide +kernel
theorem dX7_digest_149 : decode cX7_digest 149 = .ok (.aload_n 0, 1) := by decide +kernel
theorem dX7_digest_150 : decode cX7_digest 150 = .ok (.getfield 10, 3) := by decide +kernel
theorem dX7_digest_153 : decode cX7_digest 153 = .ok (.getfield 61, 3) := by decide +kernel
theorem dX7_digest_156 : decode cX7_digest 156 = .ok (.i2l, 1) := by decide +kernel
theorem dX7_digest_157 : decode cX7_digest 157 = .ok (.ladd, 1) := by decide +kernel
theorem dX7_digest_158 : decode cX7_digest 158 = .ok (.lreturn, 1) := by decide +kernel
theorem dX7_digestNodes_0 : decode cX7_digestNodes 0 = .ok (.lload_n 1, 1) := by decide +kernel
theorem dX7_digestNodes_1 : decode cX7_digestNodes 1 = .ok (.lstore_n 3, 1) := by decide +kernel
theorem dX7_digestNodes_2 : decode cX7_digestNodes 2 = .ok (.iconst 0, 1) := by decide +kernel
theorem dX7_digestNodes_3 : decode cX7_digestNodes 3 = .ok (.istore 5, 2) := by decide +kernel
theorem dX7_digestNodes_5 : decode cX7_digestNodes 5 = .ok (.iload 5, 2) := by decide +kernel
theorem dX7_digestNodes_7 : decode cX7_digestNodes 7 = .ok (.aload_n 0, 1) := by decide +kernel
theorem dX7_digestNodes_8 : decode cX7_digestNodes 8 = .ok (.getfield 19, 3) := by decide +kernel
theorem dX7_digestNodes_11 : decode cX7_digestNodes 11 = .ok (.getfield 92, 3) := by decide +kernel
theorem dX7_digestNodes_14 : decode cX7_digestNodes 14 = .ok (.if_icmp .ge 107, 3) := by decide +kernel
theorem dX7_digestNodes_17 : decode cX7_digestNodes 17 = .ok (.ldc2_w 170, 3) := by decide +kernel
theorem dX7_digestNodes_20 : decode cX7_digestNodes 20 = .ok (.lload_n 3, 1) := by decide +kernel
theorem dX7_digestNodes_21 : decode cX7_digestNodes 21 = .ok (.lmul, 1) := by decide +kernel
theorem dX7_digestNodes_22 : decode cX7_digestNodes 22 = .ok (.aload_n 0, 1) := by decide +kernel
theorem dX7_digestNodes_23 : decode cX7_digestNodes 23 = .ok (.getfield 26, 3) := by decide +kernel
theorem dX7_digestNodes_26 : decode cX7_digestNodes 26 = .ok (.getfield 121, 3) := by decide +kernel
theorem dX7_digestNodes_29 : decode cX7_digestNodes 29 = .ok (.iload 5, 2) := by decide +kernel
theorem dX7_digestNodes_31 : decode cX7_digestNodes 31 = .ok (.iaload, 1) := by decide +kernel
theorem dX7_digestNodes_32 : decode cX7_digestNodes 32 = .ok (.i2l, 1) := by decide +kernel
theorem dX7_digestNodes_33 : decode cX7_digestNodes 33 = .ok (.ladd, 1) := by decide +kernel
theorem dX7_digestNodes_34 : decode cX7_digestNodes 34 = .ok (.lstore_n 3, 1) := by decide +kernel
theorem dX7_digestNodes_35 : decode cX7_digestNodes 35 = .ok (.ldc2_w 170, 3) := by decide +kernel
theorem dX7_digestNodes_38 : decode cX7_digestNodes 38 = .ok (.lload_n 3, 1) := by decide +kernel
theorem dX7_digestNodes_39 : decode cX7_digestNodes 39 = .ok (.lmul, 1) := by decide +kernel
theorem dX7_digestNodes_40 : decode cX7_digestNodes 40 = .ok (.aload_n 0, 1) := by decide +kernel
theorem dX7_digestNodes_41 : decode cX7_digestNodes 41 = .ok (.getfield 26, 3) := by decide +kernel
theorem dX7_digestNodes_44 : decode cX7_digestNodes 44 = .ok (.getfield 124, 3) := by decide +kernel
theorem dX7_digestNodes_47 : decode cX7_digestNodes 47 = .ok (.iload 5, 2) := by decide +kernel
theorem dX7_digestNodes_49 : decode cX7_digestNodes 49 = .ok (.iaload, 1) := by decide +kernel
theorem dX7_digestNodes_50 : decode cX7_digestNodes 50 = .ok (.i2l, 1) := by decide +kernel
theorem dX7_digestNodes_51 : decode cX7_digestNodes 51 = .ok (.ladd, 1) := by decide +kernel
theorem dX7_digestNodes_52 : decode cX7_digestNodes 52 = .ok (.lstore_n 3, 1) := by decide +kernel
theorem dX7_digestNodes_53 : decode cX7_digestNodes 53 = .ok (.ldc2_w 170, 3) := by decide +kernel
theorem dX7_digestNodes_56 : decode cX7_digestNodes 56 = .ok (.lload_n 3, 1) := by decide +kernel
theorem dX7_digestNodes_57 : decode cX7_digestNodes 57 = .ok (.lmul, 1) := by decide +kernel
theorem dX7_digestNodes_58 : decode cX7_digestNodes 58 = .ok (.aload_n 0, 1) := by decide +kernel
theorem dX7_digestNodes_59 : decode cX7_digestNodes 59 = .ok (.getfield 19, 3) := by decide +kernel
theorem dX7_digestNodes_62 : decode cX7_digestNodes 62 = .ok (.getfield 107, 3) := by decide +kernel
theorem dX7_digestNodes_65 : decode cX7_digestNodes 65 = .ok (.iload 5, 2) := by decide +kernel
theorem dX7_digestNodes_67 : decode cX7_digestNodes 67 = .ok (.iaload, 1) := by decide +kernel
theorem dX7_digestNodes_68 : decode cX7_digestNodes 68 = .ok (.i2l, 1) := by decide +kernel
theorem dX7_digestNodes_69 : decode cX7_digestNodes 69 = .ok (.ladd, 1) := by decide +kernel
theorem dX7_digestNodes_70 : decode cX7_digestNodes 70 = .ok (.lstore_n 3, 1) := by decide +kernel
theorem dX7_digestNodes_71 : decode cX7_digestNodes 71 = .ok (.ldc2_w 170, 3) := by decide +kernel
theorem dX7_digestNodes_74 : decode cX7_digestNodes 74 = .ok (.lload_n 3, 1) := by decide +kernel
theorem dX7_digestNodes_75 : decode cX7_digestNodes 75 = .ok (.lmul, 1) := by decide +kernel
theorem dX7_digestNodes_76 : decode cX7_digestNodes 76 = .ok (.aload_n 0, 1) := by decide +kernel
theorem dX7_digestNodes_77 : decode cX7_digestNodes 77 = .ok (.getfield 19, 3) := by decide +kernel
theorem dX7_digestNodes_80 : decode cX7_digestNodes 80 = .ok (.getfield 161, 3) := by decide +kernel
theorem dX7_digestNodes_83 : decode cX7_digestNodes 83 = .ok (.iload 5, 2) := by decide +kernel
theorem dX7_digestNodes_85 : decode cX7_digestNodes 85 = .ok (.iaload, 1) := by decide +kernel
theorem dX7_digestNodes_86 : decode cX7_digestNodes 86 = .ok (.i2l, 1) := by decide +kernel
theorem dX7_digestNodes_87 : decode cX7_digestNodes 87 = .ok (.ladd, 1) := by decide +kernel
theorem dX7_digestNodes_88 : decode cX7_digestNodes 88 = .ok (.lstore_n 3, 1) := by decide +kernel
theorem dX7_digestNodes_89 : decode cX7_digestNodes 89 = .ok (.ldc2_w 170, 3) := by decide +kernel
theorem dX7_digestNodes_92 : decode cX7_digestNodes 92 = .ok (.lload_n 3, 1) := by decide +kernel
theorem dX7_digestNodes_93 : decode cX7_digestNodes 93 = .ok (.lmul, 1) := by decide +kernel
theorem dX7_digestNodes_94 : decode cX7_digestNodes 94 = .ok (.aload_n 0, 1) := by decide +kernel
theorem dX7_digestNodes_95 : decode cX7_digestNodes 95 = .ok (.getfield 19, 3) := by decide +kernel
theorem dX7_digestNodes_98 : decode cX7_digestNodes 98 = .ok (.getfield 103, 3) := by decide +kernel
theorem dX7_digestNodes_101 : decode cX7_digestNodes 101 = .ok (.iload 5, 2) := by decide +kernel
theorem dX7_digestNodes_103 : decode cX7_digestNodes 103 = .ok (.baload, 1) := by decide +kernel
theorem dX7_digestNodes_104 : decode cX7_digestNodes 104 = .ok (.ifCond .eq 7, 3) := by decide +kernel
theorem dX7_digestNodes_107 : decode cX7_digestNodes 107 = .ok (.iconst 1, 1) := by decide +kernel
theorem dX7_digestNodes_108 : decode cX7_digestNodes 108 = .ok (.goto 4, 3) := by decide +kernel
theorem dX7_digestNodes_111 : decode cX7_digestNodes 111 = .ok (.iconst 0, 1) := by decide +kernel
theorem dX7_digestNodes_112 : decode cX7_digestNodes 112 = .ok (.i2l, 1) := by decide +kernel
theorem dX7_digestNodes_113 : decode cX7_digestNodes 113 = .ok (.ladd, 1) := by decide +kernel
theorem dX7_digestNodes_114 : decode cX7_digestNodes 114 = .ok (.lstore_n 3, 1) := by decide +kernel
theorem dX7_digestNodes_115 : decode cX7_digestNodes 115 = .ok (.iinc 5 1, 3) := by decide +kernel
theorem dX7_digestNodes_118 : decode cX7_digestNodes 118 = .ok (.goto (-113), 3) := by decide +kernel
theorem dX7_digestNodes_121 : decode cX7_digestNodes 121 = .ok (.lload_n 3, 1) := by decide +kernel
theorem dX7_digestNodes_122 : decode cX7_digestNodes 122 = .ok (.lreturn, 1) := by decide +kernel
theorem dX7_digestStreams_0 : decode cX7_digestStreams 0 = .ok (.lload_n 1, 1) := by decide +kernel
theorem dX7_digestStreams_1 : decode cX7_digestStreams 1 = .ok (.lstore_n 3, 1) := by decide +kernel
theorem dX7_digestStreams_2 : decode cX7_digestStreams 2 = .ok (.iconst 0, 1) := by decide +kernel
theorem dX7_digestStreams_3 : decode cX7_digestStreams 3 = .ok (.istore 5, 2) := by decide +kernel
theorem dX7_digestStreams_5 : decode cX7_digestStreams 5 = .ok (.iload 5, 2) := by decide +kernel
theorem dX7_digestStreams_7 : decode cX7_digestStreams 7 = .ok (.aload_n 0, 1) := by decide +kernel
theorem dX7_digestStreams_8 : decode cX7_digestStreams 8 = .ok (.getfield 33, 3) := by decide +kernel
theorem dX7_digestStreams_11 : decode cX7_digestStreams 11 = .ok (.getfield 86, 3) := by decide +kernel
theorem dX7_digestStreams_14 : decode cX7_digestStreams 14 = .ok (.if_icmp .ge 60, 3) := by decide +kernel
theorem dX7_digestStreams_17 : decode cX7_digestStreams 17 = .ok (.aload_n 0, 1) := by decide +kernel
theorem dX7_digestStreams_18 : decode cX7_digestStreams 18 = .ok (.getfield 33, 3) := by decide +kernel
theorem dX7_digestStreams_21 : decode cX7_digestStreams 21 = .ok (.getfield 136, 3) := by decide +kernel
theorem dX7_digestStreams_24 : decode cX7_digestStreams 24 = .ok (.iload 5, 2) := by decide +kernel
theorem dX7_digestStreams_26 : decode cX7_digestStreams 26 = .ok (.aaload, 1) := by decide +kernel
theorem dX7_digestStreams_27 : decode cX7_digestStreams 27 = .ok (.astore 6, 2) := by decide +kernel
theorem dX7_digestStreams_29 : decode cX7_digestStreams 29 = .ok (.ldc2_w 170, 3) := by decide +kernel
theorem dX7_digestStreams_32 : decode cX7_digestStreams 32 = .ok (.lload_n 3, 1) := by decide +kernel
theorem dX7_digestStreams_33 : decode cX7_digestStreams 33 = .ok (.lmul, 1) := by decide +kernel
theorem dX7_digestStreams_34 : decode cX7_digestStreams 34 = .ok (.aload 6, 2) := by decide +kernel
theorem dX7_digestStreams_36 : decode cX7_digestStreams 36 = .ok (.getfield 140, 3) := by decide +kernel
theorem dX7_digestStreams_39 : decode cX7_digestStreams 39 = .ok (.i2l, 1) := by decide +kernel
theorem dX7_digestStreams_40 : decode cX7_digestStreams 40 = .ok (.ladd, 1) := by decide +kernel
theorem dX7_digestStreams_41 : decode cX7_digestStreams 41 = .ok (.lstore_n 3, 1) := by decide +kernel
theorem dX7_digestStreams_42 : decode cX7_digestStreams 42 = .ok (.ldc2_w 170, 3) := by decide +kernel
theorem dX7_digestStreams_45 : decode cX7_digestStreams 45 = .ok (.lload_n 3, 1) := by decide +kernel
theorem dX7_digestStreams_46 : decode cX7_digestStreams 46 = .ok (.lmul, 1) := by decide +kernel
theorem dX7_digestStreams_47 : decode cX7_digestStreams 47 = .ok (.aload 6, 2) := by decide +kernel
theorem dX7_digestStreams_49 : decode cX7_digestStreams 49 = .ok (.getfield 145, 3) := by decide +kernel
theorem dX7_digestStreams_52 : decode cX7_digestStreams 52 = .ok (.i2l, 1) := by decide +kernel
theorem dX7_digestStreams_53 : decode cX7_digestStreams 53 = .ok (.ladd, 1) := by decide +kernel
theorem dX7_digestStreams_54 : decode cX7_digestStreams 54 = .ok (.lstore_n 3, 1) := by decide +kernel
theorem dX7_digestStreams_55 : decode cX7_digestStreams 55 = .ok (.ldc2_w 170, 3) := by decide +kernel
theorem dX7_digestStreams_58 : decode cX7_digestStreams 58 = .ok (.lload_n 3, 1) := by decide +kernel
theorem dX7_digestStreams_59 : decode cX7_digestStreams 59 = .ok (.lmul, 1) := by decide +kernel
theorem dX7_digestStreams_60 : decode cX7_digestStreams 60 = .ok (.aload 6, 2) := by decide +kernel
theorem dX7_digestStreams_62 : decode cX7_digestStreams 62 = .ok (.getfield 148, 3) := by decide +kernel
theorem dX7_digestStreams_65 : decode cX7_digestStreams 65 = .ok (.i2l, 1) := by decide +kernel
theorem dX7_digestStreams_66 : decode cX7_digestStreams 66 = .ok (.ladd, 1) := by decide +kernel
theorem dX7_digestStreams_67 : decode cX7_digestStreams 67 = .ok (.lstore_n 3, 1) := by decide +kernel
theorem dX7_digestStreams_68 : decode cX7_digestStreams 68 = .ok (.iinc 5 1, 3) := by decide +kernel
theorem dX7_digestStreams_71 : decode cX7_digestStreams 71 = .ok (.goto (-66), 3) := by decide +kernel
theorem dX7_digestStreams_74 : decode cX7_digestStreams 74 = .ok (.lload_n 3, 1) := by decide +kernel
theorem dX7_digestStreams_75 : decode cX7_digestStreams 75 = .ok (.lreturn, 1) := by decide +kernel
set_option maxRecDepth 20000 in
theorem ggX7_runOneRound_X6_generate : GoodIn wsX7_runOneRound wsX6_generate := goodIn_r _ [14, 15, 16, 17, 18, 19, 20, 21, 22, 23, 24, 25, 26, 156, 157, 158, 159, 160, 161, 162, 163, 164] (by decide +kernel) (by decide +kernel)
set_option maxRecDepth 20000 in
theorem gX7_runOneRound_X6_generate : GoodIn wsX7_runOneRound (wsV RX7 178 RX6 yX6_generate wsX6_generate) := goodIn_app (goodIn_of _ (by decide +kernel)) ggX7_runOneRound_X6_generate
set_option maxRecDepth 20000 in
theorem ggX7_runOneRound_X4_build : GoodIn wsX7_runOneRound wsX4_build := goodIn_r _ [31, 32, 33, 34, 35, 36, 37, 38, 39, 40, 41, 42, 30, 43, 44, 45, 46, 47, 20, 48, 26, 154, 155, 156, 157, 158, 159, 160, 161, 162, 163, 164] (by decide +kernel) (by decide +kernel)
set_option maxRecDepth 20000 in
theorem gX7_runOneRound_X4_build : GoodIn wsX7_runOneRound (wsV RX7 181 RX4 yX4_build wsX4_build) := goodIn_app (goodIn_of _ (by decide +kernel)) ggX7_runOneRound_X4_build
set_option maxRecDepth 20000 in
theorem ggX7_runOneRound_X1_run : GoodIn wsX7_runOneRound wsX1_run := goodIn_r _ [53, 54, 55, 56, 57, 58, 52, 59, 60, 61, 62, 63, 64, 65, 66, 67, 68, 69, 70, 71, 72, 73, 38, 74, 75, 76, 77, 78, 79, 80, 81, 82, 83, 84, 85, 86, 87, 88, 89, 90, 91, 92, 93, 94, 95, 96, 97, 98, 99, 100, 101, 148, 149, 150, 151, 152, 153, 165, 166, 167, 168, 169, 170, 171, 172] (by decide +kernel) (by decide +kernel)
set_option maxRecDepth 20000 in
theorem gX7_runOneRound_X1_run : GoodIn wsX7_runOneRound (wsV RX7 114 RX1 yX1_run wsX1_run) := goodIn_app (goodIn_of _ (by decide +kernel)) ggX7_runOneRound_X1_run
set_option maxRecDepth 20000 in
theorem ggX7_runOneRound_X3_noteSchedule : GoodIn wsX7_runOneRound wsX3_noteSchedule := goodIn_r _ [106, 107, 108, 109, 110, 111, 148, 149, 150, 151, 152, 153, 165, 166, 167, 168, 169, 170] (by decide +kernel) (by decide +kernel)
set_option maxRecDepth 20000 in
theorem gX7_runOneRound_X3_noteSchedule : GoodIn wsX7_runOneRound (wsV RX7 185 RX3 yX3_noteSchedule wsX3_noteSchedule) := goodIn_app (goodIn_of _ (by decide +kernel)) ggX7_runOneRound_X3_noteSchedule
set_option maxRecDepth 20000 in
theorem ggX7_runOneRound_X7_serveSchedule : GoodIn wsX7_runOneRound wsX7_serveSchedule := goodIn_r _ [116, 6, 9, 1, 117, 118, 3, 119, 120, 8, 121, 5, 122, 123, 124, 125, 126, 20, 127, 24, 26, 49, 50, 51, 52, 53, 54, 55, 56, 57, 58, 59, 60, 61, 62, 63, 64, 65, 66, 67, 68, 69, 70, 71, 72, 73, 38, 74, 75, 76, 77, 78, 79, 80, 81, 82, 83, 84, 85, 86, 87, 88, 89, 90, 91, 92, 93, 94, 95, 96, 97, 98, 99, 100, 101, 139, 140, 141, 142, 143, 144, 145, 146, 147, 154, 155, 156, 157, 148, 149, 150, 151, 152, 153, 158, 159, 160, 161, 162, 163, 164, 165, 166, 167, 168, 169, 170, 171, 172] (by decide +kernel) (by decide +kernel)
set_option maxRecDepth 20000 in
theorem gX7_runOneRound_X7_serveSchedule : GoodIn wsX7_runOneRound (wsV RX7 189 RX7 yX7_serveSchedule wsX7_serveSchedule) := goodIn_app (goodIn_of _ (by decide +kernel)) ggX7_runOneRound_X7_serveSchedule
set_option maxRecDepth 20000 in
theorem ggX7_runOneRound_X3_noteNoSchedule : GoodIn wsX7_runOneRound wsX3_noteNoSchedule := goodIn_r _ [131, 107, 111, 110, 148, 149, 150, 151, 152, 153] (by decide +kernel) (by decide +kernel)
set_option maxRecDepth 20000 in
theorem gX7_runOneRound_X3_noteNoSchedule : GoodIn wsX7_runOneRound (wsV RX7 192 RX3 yX3_noteNoSchedule wsX3_noteNoSchedule) := goodIn_app (goodIn_of _ (by decide +kernel)) ggX7_runOneRound_X3_noteNoSchedule
set_option maxRecDepth 20000 in
theorem ggX7_runOneRound_X7_takeOver : GoodIn wsX7_runOneRound wsX7_takeOver := goodIn_r _ [135, 3, 136, 4, 137, 138, 5, 139, 140, 141, 142, 143, 144, 145, 146, 147, 148, 149, 150, 151, 152, 153] (by decide +kernel) (by decide +kernel)
set_option maxRecDepth 20000 in
theorem gX7_runOneRound_X7_takeOver : GoodIn wsX7_runOneRound (wsV RX7 195 RX7 yX7_takeOver wsX7_takeOver) := goodIn_app (goodIn_of _ (by decide +kernel)) ggX7_runOneRound_X7_takeOver
theorem dX7_runOneRound_0 : decode cX7_runOneRound 0 = .ok (.aload_n 0, 1) := by decide +kernel
theorem dX7_runOneRound_1 : decode cX7_runOneRound 1 = .ok (.getfield 33, 3) := by decide +kernel
theorem dX7_runOneRound_4 : decode cX7_runOneRound 4 = .ok (.aload_n 0, 1) := by decide +kernel
theorem dX7_runOneRound_5 : decode cX7_runOneRound 5 = .ok (.getfield 54, 3) := by decide +kernel
theorem dX7_runOneRound_8 : decode cX7_runOneRound 8 = .ok (.invokevirtual 178, 3) := by decide +kernel
theorem dX7_runOneRound_11 : decode cX7_runOneRound 11 = .ok (.iconst 0, 1) := by decide +kernel
theorem dX7_runOneRound_12 : decode cX7_runOneRound 12 = .ok (.istore_n 1, 1) := by decide +kernel
theorem dX7_runOneRound_13 : decode cX7_runOneRound 13 = .ok (.aload_n 0, 1) := by decide +kernel
theorem dX7_runOneRound_14 : decode cX7_runOneRound 14 = .ok (.getfield 19, 3) := by decide +kernel
theorem dX7_runOneRound_17 : decode cX7_runOneRound 17 = .ok (.getfield 103, 3) := by decide +kernel
theorem dX7_runOneRound_20 : decode cX7_runOneRound 20 = .ok (.aload_n 0, 1) := by decide +kernel
theorem dX7_runOneRound_21 : decode cX7_runOneRound 21 = .ok (.getfield 51, 3) := by decide +kernel
theorem dX7_runOneRound_24 : decode cX7_runOneRound 24 = .ok (.baload, 1) := by decide +kernel
theorem dX7_runOneRound_25 : decode cX7_runOneRound 25 = .ok (.ifCond .eq 54, 3) := by decide +kernel
theorem dX7_runOneRound_28 : decode cX7_runOneRound 28 = .ok (.aload_n 0, 1) := by decide +kernel
theorem dX7_runOneRound_29 : decode cX7_runOneRound 29 = .ok (.getfield 40, 3) := by decide +kernel
theorem dX7_runOneRound_32 : decode cX7_runOneRound 32 = .ok (.aload_n 0, 1) := by decide +kernel
theorem dX7_runOneRound_33 : decode cX7_runOneRound 33 = .ok (.getfield 33, 3) := by decide +kernel
theorem dX7_runOneRound_36 : decode cX7_runOneRound 36 = .ok (.aload_n 0, 1) := by decide +kernel
theorem dX7_runOneRound_37 : decode cX7_runOneRound 37 = .ok (.getfield 44, 3) := by decide +kernel
theorem dX7_runOneRound_40 : decode cX7_runOneRound 40 = .ok (.invokevirtual 181, 3) := by decide +kernel
theorem dX7_runOneRound_43 : decode cX7_runOneRound 43 = .ok (.aload_n 0, 1) := by decide +kernel
theorem dX7_runOneRound_44 : decode cX7_runOneRound 44 = .ok (.getfield 26, 3) := by decide +kernel
theorem dX7_runOneRound_47 : decode cX7_runOneRound 47 = .ok (.aload_n 0, 1) := by decide +kernel
theorem dX7_runOneRound_48 : decode cX7_runOneRound 48 = .ok (.getfield 19, 3) := by decide +kernel
theorem dX7_runOneRound_51 : decode cX7_runOneRound 51 = .ok (.iconst 1, 1) := by decide +kernel
theorem dX7_runOneRound_52 : decode cX7_runOneRound 52 = .ok (.aload_n 0, 1) := by decide +kernel
theorem dX7_runOneRound_53 : decode cX7_runOneRound 53 = .ok (.getfield 51, 3) := by decide +kernel
theorem dX7_runOneRound_56 : decode cX7_runOneRound 56 = .ok (.ishl, 1) := by decide +kernel
theorem dX7_runOneRound_57 : decode cX7_runOneRound 57 = .ok (.invokevirtual 114, 3) := by decide +kernel
theorem dX7_runOneRound_60 : decode cX7_runOneRound 60 = .ok (.aload_n 0, 1) := by decide +kernel
theorem dX7_runOneRound_61 : decode cX7_runOneRound 61 = .ok (.getfield 19, 3) := by decide +kernel
theorem dX7_runOneRound_64 : decode cX7_runOneRound 64 = .ok (.aload_n 0, 1) := by decide +kernel
theorem dX7_runOneRound_65 : decode cX7_runOneRound 65 = .ok (.getfield 26, 3) := by decide +kernel
theorem dX7_runOneRound_68 : decode cX7_runOneRound 68 = .ok (.invokevirtual 185, 3) := by decide +kernel
theorem dX7_runOneRound_71 : decode cX7_runOneRound 71 = .ok (.aload_n 0, 1) := by decide +kernel
theorem dX7_runOneRound_72 : decode cX7_runOneRound 72 = .ok (.invokevirtual 189, 3) := by decide +kernel
theorem dX7_runOneRound_75 : decode cX7_runOneRound 75 = .ok (.istore_n 1, 1) := by decide +kernel
theorem dX7_runOneRound_76 : decode cX7_runOneRound 76 = .ok (.goto 22, 3) := by decide +kernel
theorem dX7_runOneRound_79 : decode cX7_runOneRound 79 = .ok (.aload_n 0, 1) := by decide +kernel
theorem dX7_runOneRound_80 : decode cX7_runOneRound 80 = .ok (.getfield 40, 3) := by decide +kernel
theorem dX7_runOneRound_83 : decode cX7_runOneRound 83 = .ok (.iconst 0, 1) := by decide +kernel
theorem dX7_runOneRound_84 : decode cX7_runOneRound 84 = .ok (.putfield 89, 3) := by decide +kernel
theorem dX7_runOneRound_87 : decode cX7_runOneRound 87 = .ok (.aload_n 0, 1) := by decide +kernel
theorem dX7_runOneRound_88 : decode cX7_runOneRound 88 = .ok (.getfield 19, 3) := by decide +kernel
theorem dX7_runOneRound_91 : decode cX7_runOneRound 91 = .ok (.invokevirtual 192, 3) := by decide +kernel
theorem dX7_runOneRound_94 : decode cX7_runOneRound 94 = .ok (.aload_n 0, 1) := by decide +kernel
theorem dX7_runOneRound_95 : decode cX7_runOneRound 95 = .ok (.invokevirtual 195, 3) := by decide +kernel
theorem dX7_runOneRound_98 : decode cX7_runOneRound 98 = .ok (.aload_n 0, 1) := by decide +kernel
theorem dX7_runOneRound_99 : decode cX7_runOneRound 99 = .ok (.dup, 1) := by decide +kernel
theorem dX7_runOneRound_100 : decode cX7_runOneRound 100 = .ok (.getfield 54, 3) := by decide +kernel
theorem dX7_runOneRound_103 : decode cX7_runOneRound 103 = .ok (.iconst 1, 1) := by decide +kernel
theorem dX7_runOneRound_104 : decode cX7_runOneRound 104 = .ok (.iadd, 1) := by decide +kernel
theorem dX7_runOneRound_105 : decode cX7_runOneRound 105 = .ok (.putfield 54, 3) := by decide +kernel
theorem dX7_runOneRound_108 : decode cX7_runOneRound 108 = .ok (.iload_n 1, 1) := by decide +kernel
theorem dX7_runOneRound_109 : decode cX7_runOneRound 109 = .ok (.ireturn, 1) := by decide +kernel
set_option maxRecDepth 20000 in
theorem ggX7_serveSchedule_X5_removeOldest : GoodIn wsX7_serveSchedule wsX5_removeOldest := goodIn_r _ [18, 19, 20, 94, 95, 96, 97, 98, 99, 100] (by decide +kernel) (by decide +kernel)
set_option maxRecDepth 20000 in
theorem gX7_serveSchedule_X5_removeOldest : GoodIn wsX7_serveSchedule (wsV RX7 198 RX5 yX5_removeOldest wsX5_removeOldest) := goodIn_app (goodIn_of _ (by decide +kernel)) ggX7_serveSchedule_X5_removeOldest
set_option maxRecDepth 20000 in
theorem ggX7_serveSchedule_X1_run : GoodIn wsX7_serveSchedule wsX1_run := goodIn_r _ [25, 26, 27, 28, 29, 30, 24, 31, 32, 33, 34, 35, 36, 37, 38, 39, 40, 41, 42, 43, 44, 45, 46, 47, 48, 49, 50, 51, 52, 53, 54, 55, 56, 57, 58, 59, 60, 61, 62, 63, 64, 65, 66, 67, 68, 69, 70, 71, 72, 73, 74, 88, 89, 90, 91, 92, 93, 101, 102, 103, 104, 105, 106, 107, 108] (by decide +kernel) (by decide +kernel)
set_option maxRecDepth 20000 in
theorem gX7_serveSchedule_X1_run : GoodIn wsX7_serveSchedule (wsV RX7 114 RX1 yX1_run wsX1_run) := goodIn_app (goodIn_of _ (by decide +kernel)) ggX7_serveSchedule_X1_run
theorem dX7_serveSchedule_0 : decode cX7_serveSchedule 0 = .ok (.iconst 0, 1) := by decide +kernel
theorem dX7_serveSchedule_1 : decode cX7_serveSchedule 1 = .ok (.istore_n 1, 1) := by decide +kernel
theorem dX7_serveSchedule_2 : decode cX7_serveSchedule 2 = .ok (.iconst 0, 1) := by decide +kernel
theorem dX7_serveSchedule_3 : decode cX7_serveSchedule 3 = .ok (.istore_n 2, 1) := by decide +kernel
theorem dX7_serveSchedule_4 : decode cX7_serveSchedule 4 = .ok (.iload_n 2, 1) := by decide +kernel
theorem dX7_serveSchedule_5 : decode cX7_serveSchedule 5 = .ok (.aload_n 0, 1) := by decide +kernel
theorem dX7_serveSchedule_6 : decode cX7_serveSchedule 6 = .ok (.getfield 40, 3) := by decide +kernel
theorem dX7_serveSchedule_9 : decode cX7_serveSchedule 9 = .ok (.getfield 89, 3) := by decide +kernel
theorem dX7_serveSchedule_12 : decode cX7_serveSchedule 12 = .ok (.if_icmp .ge 114, 3) := by decide +kernel
theorem dX7_serveSchedule_15 : decode cX7_serveSchedule 15 = .ok (.aload_n 0, 1) := by decide +kernel
theorem dX7_serveSchedule_16 : decode cX7_serveSchedule 16 = .ok (.getfield 33, 3) := by decide +kernel
theorem dX7_serveSchedule_19 : decode cX7_serveSchedule 19 = .ok (.getfield 136, 3) := by decide +kernel
theorem dX7_serveSchedule_22 : decode cX7_serveSchedule 22 = .ok (.aload_n 0, 1) := by decide +kernel
theorem dX7_serveSchedule_23 : decode cX7_serveSchedule 23 = .ok (.getfield 40, 3) := by decide +kernel
theorem dX7_serveSchedule_26 : decode cX7_serveSchedule 26 = .ok (.getfield 154, 3) := by decide +kernel
theorem dX7_serveSchedule_29 : decode cX7_serveSchedule 29 = .ok (.iload_n 2, 1) := by decide +kernel
theorem dX7_serveSchedule_30 : decode cX7_serveSchedule 30 = .ok (.iaload, 1) := by decide +kernel
theorem dX7_serveSchedule_31 : decode cX7_serveSchedule 31 = .ok (.aaload, 1) := by decide +kernel
theorem dX7_serveSchedule_32 : decode cX7_serveSchedule 32 = .ok (.astore_n 3, 1) := by decide +kernel
theorem dX7_serveSchedule_33 : decode cX7_serveSchedule 33 = .ok (.aload_n 3, 1) := by decide +kernel
theorem dX7_serveSchedule_34 : decode cX7_serveSchedule 34 = .ok (.invokevirtual 198, 3) := by decide +kernel
theorem dX7_serveSchedule_37 : decode cX7_serveSchedule 37 = .ok (.aload_n 0, 1) := by decide +kernel
theorem dX7_serveSchedule_38 : decode cX7_serveSchedule 38 = .ok (.getfield 19, 3) := by decide +kernel
theorem dX7_serveSchedule_41 : decode cX7_serveSchedule 41 = .ok (.getfield 201, 3) := by decide +kernel
theorem dX7_serveSchedule_44 : decode cX7_serveSchedule 44 = .ok (.aload_n 3, 1) := by decide +kernel
theorem dX7_serveSchedule_45 : decode cX7_serveSchedule 45 = .ok (.getfield 204, 3) := by decide +kernel
theorem dX7_serveSchedule_48 : decode cX7_serveSchedule 48 = .ok (.baload, 1) := by decide +kernel
theorem dX7_serveSchedule_49 : decode cX7_serveSchedule 49 = .ok (.istore 4, 2) := by decide +kernel
theorem dX7_serveSchedule_51 : decode cX7_serveSchedule 51 = .ok (.iload 4, 2) := by decide +kernel
theorem dX7_serveSchedule_53 : decode cX7_serveSchedule 53 = .ok (.ifCond .eq 20, 3) := by decide +kernel
theorem dX7_serveSchedule_56 : decode cX7_serveSchedule 56 = .ok (.aload_n 0, 1) := by decide +kernel
theorem dX7_serveSchedule_57 : decode cX7_serveSchedule 57 = .ok (.getfield 26, 3) := by decide +kernel
theorem dX7_serveSchedule_60 : decode cX7_serveSchedule 60 = .ok (.aload_n 0, 1) := by decide +kernel
theorem dX7_serveSchedule_61 : decode cX7_serveSchedule 61 = .ok (.getfield 19, 3) := by decide +kernel
theorem dX7_serveSchedule_64 : decode cX7_serveSchedule 64 = .ok (.iconst 1, 1) := by decide +kernel
theorem dX7_serveSchedule_65 : decode cX7_serveSchedule 65 = .ok (.aload_n 3, 1) := by decide +kernel
theorem dX7_serveSchedule_66 : decode cX7_serveSchedule 66 = .ok (.getfield 204, 3) := by decide +kernel
theorem dX7_serveSchedule_69 : decode cX7_serveSchedule 69 = .ok (.ishl, 1) := by decide +kernel
theorem dX7_serveSchedule_70 : decode cX7_serveSchedule 70 = .ok (.invokevirtual 114, 3) := by decide +kernel
theorem dX7_serveSchedule_73 : decode cX7_serveSchedule 73 = .ok (.iload 4, 2) := by decide +kernel
theorem dX7_serveSchedule_75 : decode cX7_serveSchedule 75 = .ok (.ifCond .eq 35, 3) := by decide +kernel
theorem dX7_serveSchedule_78 : decode cX7_serveSchedule 78 = .ok (.aload_n 0, 1) := by decide +kernel
theorem dX7_serveSchedule_79 : decode cX7_serveSchedule 79 = .ok (.getfield 26, 3) := by decide +kernel
theorem dX7_serveSchedule_82 : decode cX7_serveSchedule 82 = .ok (.getfield 121, 3) := by decide +kernel
theorem dX7_serveSchedule_85 : decode cX7_serveSchedule 85 = .ok (.aload_n 0, 1) := by decide +kernel
theorem dX7_serveSchedule_86 : decode cX7_serveSchedule 86 = .ok (.getfield 51, 3) := by decide +kernel
theorem dX7_serveSchedule_89 : decode cX7_serveSchedule 89 = .ok (.iaload, 1) := by decide +kernel
theorem dX7_serveSchedule_90 : decode cX7_serveSchedule 90 = .ok (.iconst (-1), 1) := by decide +kernel
theorem dX7_serveSchedule_91 : decode cX7_serveSchedule 91 = .ok (.if_icmp .eq 19, 3) := by decide +kernel
theorem dX7_serveSchedule_94 : decode cX7_serveSchedule 94 = .ok (.aload_n 3, 1) := by decide +kernel
theorem dX7_serveSchedule_95 : decode cX7_serveSchedule 95 = .ok (.dup, 1) := by decide +kernel
theorem dX7_serveSchedule_96 : decode cX7_serveSchedule 96 = .ok (.getfield 145, 3) := by decide +kernel
theorem dX7_serveSchedule_99 : decode cX7_serveSchedule 99 = .ok (.iconst 1, 1) := by decide +kernel
theorem dX7_serveSchedule_100 : decode cX7_serveSchedule 100 = .ok (.iadd, 1) := by decide +kernel
theorem dX7_serveSchedule_101 : decode cX7_serveSchedule 101 = .ok (.putfield 145, 3) := by decide +kernel
theorem dX7_serveSchedule_104 : decode cX7_serveSchedule 104 = .ok (.iinc 1 1, 3) := by decide +kernel
theorem dX7_serveSchedule_107 : decode cX7_serveSchedule 107 = .ok (.goto 13, 3) := by decide +kernel
theorem dX7_serveSchedule_110 : decode cX7_serveSchedule 110 = .ok (.aload_n 3, 1) := by decide +kernel
theorem dX7_serveSchedule_111 : decode cX7_serveSchedule 111 = .ok (.dup, 1) := by decide +kernel
theorem dX7_serveSchedule_112 : decode cX7_serveSchedule 112 = .ok (.getfield 148, 3) := by decide +kernel
theorem dX7_serveSchedule_115 : decode cX7_serveSchedule 115 = .ok (.iconst 1, 1) := by decide +kernel
theorem dX7_serveSchedule_116 : decode cX7_serveSchedule 116 = .ok (.iadd, 1) := by decide +kernel
theorem dX7_serveSchedule_117 : decode cX7_serveSchedule 117 = .ok (.putfield 148, 3) := by decide +kernel
theorem dX7_serveSchedule_120 : decode cX7_serveSchedule 120 = .ok (.iinc 2 1, 3) := by decide +kernel
theorem dX7_serveSchedule_123 : decode cX7_serveSchedule 123 = .ok (.goto (-119), 3) := by decide +kernel
theorem dX7_serveSchedule_126 : decode cX7_serveSchedule 126 = .ok (.iload_n 1, 1) := by decide +kernel
theorem dX7_serveSchedule_127 : decode cX7_serveSchedule 127 = .ok (.ireturn, 1) := by decide +kernel
theorem dX7_takeOver_0 : decode cX7_takeOver 0 = .ok (.iconst 0, 1) := by decide +kernel
theorem dX7_takeOver_1 : decode cX7_takeOver 1 = .ok (.istore_n 1, 1) := by decide +kernel
theorem dX7_takeOver_2 : decode cX7_takeOver 2 = .ok (.iload_n 1, 1) := by decide +kernel
theorem dX7_takeOver_3 : decode cX7_takeOver 3 = .ok (.aload_n 0, 1) := by decide +kernel
theorem dX7_takeOver_4 : decode cX7_takeOver 4 = .ok (.getfield 19, 3) := by decide +kernel
theorem dX7_takeOver_7 : decode cX7_takeOver 7 = .ok (.getfield 92, 3) := by decide +kernel
theorem dX7_takeOver_10 : decode cX7_takeOver 10 = .ok (.if_icmp .ge 53, 3) := by decide +kernel
theorem dX7_takeOver_13 : decode cX7_takeOver 13 = .ok (.aload_n 0, 1) := by decide +kernel
theorem dX7_takeOver_14 : decode cX7_takeOver 14 = .ok (.getfield 19, 3) := by decide +kernel
theorem dX7_takeOver_17 : decode cX7_takeOver 17 = .ok (.getfield 103, 3) := by decide +kernel
theorem dX7_takeOver_20 : decode cX7_takeOver 20 = .ok (.iload_n 1, 1) := by decide +kernel
theorem dX7_takeOver_21 : decode cX7_takeOver 21 = .ok (.baload, 1) := by decide +kernel
theorem dX7_takeOver_22 : decode cX7_takeOver 22 = .ok (.ifCond .eq 35, 3) := by decide +kernel
theorem dX7_takeOver_25 : decode cX7_takeOver 25 = .ok (.aload_n 0, 1) := by decide +kernel
theorem dX7_takeOver_26 : decode cX7_takeOver 26 = .ok (.getfield 19, 3) := by decide +kernel
theorem dX7_takeOver_29 : decode cX7_takeOver 29 = .ok (.getfield 107, 3) := by decide +kernel
theorem dX7_takeOver_32 : decode cX7_takeOver 32 = .ok (.iload_n 1, 1) := by decide +kernel
theorem dX7_takeOver_33 : decode cX7_takeOver 33 = .ok (.iaload, 1) := by decide +kernel
theorem dX7_takeOver_34 : decode cX7_takeOver 34 = .ok (.aload_n 0, 1) := by decide +kernel
theorem dX7_takeOver_35 : decode cX7_takeOver 35 = .ok (.getfield 48, 3) := by decide +kernel
theorem dX7_takeOver_38 : decode cX7_takeOver 38 = .ok (.if_icmp .lt 19, 3) := by decide +kernel
theorem dX7_takeOver_41 : decode cX7_takeOver 41 = .ok (.aload_n 0, 1) := by decide +kernel
theorem dX7_takeOver_42 : decode cX7_takeOver 42 = .ok (.iload_n 1, 1) := by decide +kernel
theorem dX7_takeOver_43 : decode cX7_takeOver 43 = .ok (.putfield 51, 3) := by decide +kernel
theorem dX7_takeOver_46 : decode cX7_takeOver 46 = .ok (.aload_n 0, 1) := by decide +kernel
theorem dX7_takeOver_47 : decode cX7_takeOver 47 = .ok (.getfield 19, 3) := by decide +kernel
theorem dX7_takeOver_50 : decode cX7_takeOver 50 = .ok (.getfield 107, 3) := by decide +kernel
theorem dX7_takeOver_53 : decode cX7_takeOver 53 = .ok (.iload_n 1, 1) := by decide +kernel
theorem dX7_takeOver_54 : decode cX7_takeOver 54 = .ok (.iconst 0, 1) := by decide +kernel
theorem dX7_takeOver_55 : decode cX7_takeOver 55 = .ok (.iastore, 1) := by decide +kernel
theorem dX7_takeOver_56 : decode cX7_takeOver 56 = .ok (.return_, 1) := by decide +kernel
theorem dX7_takeOver_57 : decode cX7_takeOver 57 = .ok (.iinc 1 1, 3) := by decide +kernel
theorem dX7_takeOver_60 : decode cX7_takeOver 60 = .ok (.goto (-58), 3) := by decide +kernel
theorem dX7_takeOver_63 : decode cX7_takeOver 63 = .ok (.return_, 1) := by decide +kernel
theorem dX8_init_0 : decode cX8_init 0 = .ok (.aload_n 0, 1) := by decide +kernel
theorem dX8_init_1 : decode cX8_init 1 = .ok (.invokespecial 1, 3) := by decide +kernel
theorem dX8_init_4 : decode cX8_init 4 = .ok (.aload_n 0, 1) := by decide +kernel
theorem dX8_init_5 : decode cX8_init 5 = .ok (.bipush 61, 2) := by decide +kernel
theorem dX8_init_7 : decode cX8_init 7 = .ok (.newarray .int, 2) := by decide +kernel
theorem dX8_init_9 : decode cX8_init 9 = .ok (.putfield 7, 3) := by decide +kernel
theorem dX8_init_12 : decode cX8_init 12 = .ok (.aload_n 0, 1) := by decide +kernel
theorem dX8_init_13 : decode cX8_init 13 = .ok (.bipush 12, 2) := by decide +kernel
theorem dX8_init_15 : decode cX8_init 15 = .ok (.newarray .int, 2) := by decide +kernel
theorem dX8_init_17 : decode cX8_init 17 = .ok (.putfield 13, 3) := by decide +kernel
theorem dX8_init_20 : decode cX8_init 20 = .ok (.aload_n 0, 1) := by decide +kernel
theorem dX8_init_21 : decode cX8_init 21 = .ok (.bipush 12, 2) := by decide +kernel
theorem dX8_init_23 : decode cX8_init 23 = .ok (.newarray .int, 2) := by decide +kernel
theorem dX8_init_25 : decode cX8_init 25 = .ok (.putfield 16, 3) := by decide +kernel
theorem dX8_init_28 : decode cX8_init 28 = .ok (.aload_n 0, 1) := by decide +kernel
theorem dX8_init_29 : decode cX8_init 29 = .ok (.bipush 12, 2) := by decide +kernel
theorem dX8_init_31 : decode cX8_init 31 = .ok (.newarray .int, 2) := by decide +kernel
theorem dX8_init_33 : decode cX8_init 33 = .ok (.putfield 19, 3) := by decide +kernel
theorem dX8_init_36 : decode cX8_init 36 = .ok (.aload_n 0, 1) := by decide +kernel
theorem dX8_init_37 : decode cX8_init 37 = .ok (.bipush 12, 2) := by decide +kernel
theorem dX8_init_39 : decode cX8_init 39 = .ok (.newarray .int, 2) := by decide +kernel
theorem dX8_init_41 : decode cX8_init 41 = .ok (.putfield 22, 3) := by decide +kernel
theorem dX8_init_44 : decode cX8_init 44 = .ok (.aload_n 0, 1) := by decide +kernel
theorem dX8_init_45 : decode cX8_init 45 = .ok (.bipush 8, 2) := by decide +kernel
theorem dX8_init_47 : decode cX8_init 47 = .ok (.newarray .boolean, 2) := by decide +kernel
theorem dX8_init_49 : decode cX8_init 49 = .ok (.putfield 25, 3) := by decide +kernel
theorem dX8_init_52 : decode cX8_init 52 = .ok (.aload_n 0, 1) := by decide +kernel
theorem dX8_init_53 : decode cX8_init 53 = .ok (.bipush 8, 2) := by decide +kernel
theorem dX8_init_55 : decode cX8_init 55 = .ok (.newarray .int, 2) := by decide +kernel
theorem dX8_init_57 : decode cX8_init 57 = .ok (.putfield 29, 3) := by decide +kernel
theorem dX8_init_60 : decode cX8_init 60 = .ok (.aload_n 0, 1) := by decide +kernel
theorem dX8_init_61 : decode cX8_init 61 = .ok (.bipush 8, 2) := by decide +kernel
theorem dX8_init_63 : decode cX8_init 63 = .ok (.newarray .int, 2) := by decide +kernel
theorem dX8_init_65 : decode cX8_init 65 = .ok (.putfield 32, 3) := by decide +kernel
theorem dX8_init_68 : decode cX8_init 68 = .ok (.aload_n 0, 1) := by decide +kernel
theorem dX8_init_69 : decode cX8_init 69 = .ok (.bipush 8, 2) := by decide +kernel
theorem dX8_init_71 : decode cX8_init 71 = .ok (.newarray .int, 2) := by decide +kernel
theorem dX8_init_73 : decode cX8_init 73 = .ok (.putfield 35, 3) := by decide +kernel
theorem dX8_init_76 : decode cX8_init 76 = .ok (.aload_n 0, 1) := by decide +kernel
theorem dX8_init_77 : decode cX8_init 77 = .ok (.bipush 8, 2) := by decide +kernel
theorem dX8_init_79 : decode cX8_init 79 = .ok (.newarray .int, 2) := by decide +kernel
theorem dX8_init_81 : decode cX8_init 81 = .ok (.putfield 38, 3) := by decide +kernel
theorem dX8_init_84 : decode cX8_init 84 = .ok (.aload_n 0, 1) := by decide +kernel
theorem dX8_init_85 : decode cX8_init 85 = .ok (.iconst (-1), 1) := by decide +kernel
theorem dX8_init_86 : decode cX8_init 86 = .ok (.putfield 41, 3) := by decide +kernel
theorem dX8_init_89 : decode cX8_init 89 = .ok (.aload_n 0, 1) := by decide +kernel
theorem dX8_init_90 : decode cX8_init 90 = .ok (.iconst 2, 1) := by decide +kernel
theorem dX8_init_91 : decode cX8_init 91 = .ok (.putfield 45, 3) := by decide +kernel
theorem dX8_init_94 : decode cX8_init 94 = .ok (.aload_n 0, 1) := by decide +kernel
theorem dX8_init_95 : decode cX8_init 95 = .ok (.iconst 3, 1) := by decide +kernel
theorem dX8_init_96 : decode cX8_init 96 = .ok (.putfield 48, 3) := by decide +kernel
theorem dX8_init_99 : decode cX8_init 99 = .ok (.aload_n 0, 1) := by decide +kernel
theorem dX8_init_100 : decode cX8_init 100 = .ok (.iconst 3, 1) := by decide +kernel
theorem dX8_init_101 : decode cX8_init 101 = .ok (.putfield 51, 3) := by decide +kernel
theorem dX8_init_104 : decode cX8_init 104 = .ok (.aload_n 0, 1) := by decide +kernel
theorem dX8_init_105 : decode cX8_init 105 = .ok (.iconst 2, 1) := by decide +kernel
theorem dX8_init_106 : decode cX8_init 106 = .ok (.putfield 54, 3) := by decide +kernel
theorem dX8_init_109 : decode cX8_init 109 = .ok (.aload_n 0, 1) := by decide +kernel
theorem dX8_init_110 : decode cX8_init 110 = .ok (.bipush 6, 2) := by decide +kernel
theorem dX8_init_112 : decode cX8_init 112 = .ok (.newarray .int, 2) := by decide +kernel
theorem dX8_init_114 : decode cX8_init 114 = .ok (.putfield 57, 3) := by decide +kernel
theorem dX8_init_117 : decode cX8_init 117 = .ok (.aload_n 0, 1) := by decide +kernel
theorem dX8_init_118 : decode cX8_init 118 = .ok (.bipush 6, 2) := by decide +kernel
theorem dX8_init_120 : decode cX8_init 120 = .ok (.newarray .int, 2) := by decide +kernel
theorem dX8_init_122 : decode cX8_init 122 = .ok (.putfield 60, 3) := by decide +kernel
theorem dX8_init_125 : decode cX8_init 125 = .ok (.aload_n 0, 1) := by decide +kernel
theorem dX8_init_126 : decode cX8_init 126 = .ok (.bipush 6, 2) := by decide +kernel
theorem dX8_init_128 : decode cX8_init 128 = .ok (.newarray .int, 2) := by decide +kernel
theorem dX8_init_130 : decode cX8_init 130 = .ok (.putfield 63, 3) := by decide +kernel
theorem dX8_init_133 : decode cX8_init 133 = .ok (.aload_n 0, 1) := by decide +kernel
theorem dX8_init_134 : decode cX8_init 134 = .ok (.bipush 6, 2) := by decide +kernel
theorem dX8_init_136 : decode cX8_init 136 = .ok (.newarray .int, 2) := by decide +kernel
theorem dX8_init_138 : decode cX8_init 138 = .ok (.putfield 66, 3) := by decide +kernel
theorem dX8_init_141 : decode cX8_init 141 = .ok (.aload_n 0, 1) := by decide +kernel
theorem dX8_init_142 : decode cX8_init 142 = .ok (.bipush 24, 2) := by decide +kernel
theorem dX8_init_144 : decode cX8_init 144 = .ok (.newarray .int, 2) := by decide +kernel
theorem dX8_init_146 : decode cX8_init 146 = .ok (.putfield 69, 3) := by decide +kernel
theorem dX8_init_149 : decode cX8_init 149 = .ok (.aload_n 0, 1) := by decide +kernel
theorem dX8_init_150 : decode cX8_init 150 = .ok (.bipush 6, 2) := by decide +kernel
theorem dX8_init_152 : decode cX8_init 152 = .ok (.newarray .int, 2) := by decide +kernel
theorem dX8_init_154 : decode cX8_init 154 = .ok (.putfield 72, 3) := by decide +kernel
theorem dX8_init_157 : decode cX8_init 157 = .ok (.aload_n 0, 1) := by decide +kernel
theorem dX8_init_158 : decode cX8_init 158 = .ok (.bipush 6, 2) := by decide +kernel
theorem dX8_init_160 : decode cX8_init 160 = .ok (.newarray .int, 2) := by decide +kernel
theorem dX8_init_162 : decode cX8_init 162 = .ok (.putfield 75, 3) := by decide +kernel
theorem dX8_init_165 : decode cX8_init 165 = .ok (.aload_n 0, 1) := by decide +kernel
theorem dX8_init_166 : decode cX8_init 166 = .ok (.bipush 6, 2) := by decide +kernel
theorem dX8_init_168 : decode cX8_init 168 = .ok (.newarray .int, 2) := by decide +kernel
theorem dX8_init_170 : decode cX8_init 170 = .ok (.putfield 78, 3) := by decide +kernel
theorem dX8_init_173 : decode cX8_init 173 = .ok (.aload_n 0, 1) := by decide +kernel
theorem dX8_init_174 : decode cX8_init 174 = .ok (.bipush 12, 2) := by decide +kernel
theorem dX8_init_176 : decode cX8_init 176 = .ok (.newarray .int, 2) := by decide +kernel
theorem dX8_init_178 : decode cX8_init 178 = .ok (.putfield 81, 3) := by decide +kernel
theorem dX8_init_181 : decode cX8_init 181 = .ok (.aload_n 0, 1) := by decide +kernel
theorem dX8_init_182 : decode cX8_init 182 = .ok (.bipush 12, 2) := by decide +kernel
theorem dX8_init_184 : decode cX8_init 184 = .ok (.newarray .int, 2) := by decide +kernel
theorem dX8_init_186 : decode cX8_init 186 = .ok (.putfield 84, 3) := by decide +kernel
theorem dX8_init_189 : decode cX8_init 189 = .ok (.aload_n 0, 1) := by decide +kernel
theorem dX8_init_190 : decode cX8_init 190 = .ok (.bipush 12, 2) := by decide +kernel
theorem dX8_init_192 : decode cX8_init 192 = .ok (.newarray .int, 2) := by decide +kernel
theorem dX8_init_194 : decode cX8_init 194 = .ok (.putfield 87, 3) := by decide +kernel
theorem dX8_init_197 : decode cX8_init 197 = .ok (.aload_n 0, 1) := by decide +kernel
theorem dX8_init_198 : decode cX8_init 198 = .ok (.bipush 12, 2) := by decide +kernel
theorem dX8_init_200 : decode cX8_init 200 = .ok (.newarray .int, 2) := by decide +kernel
theorem dX8_init_202 : decode cX8_init 202 = .ok (.putfield 90, 3) := by decide +kernel
theorem dX8_init_205 : decode cX8_init 205 = .ok (.aload_n 0, 1) := by decide +kernel
theorem dX8_init_206 : decode cX8_init 206 = .ok (.bipush 8, 2) := by decide +kernel
theorem dX8_init_208 : decode cX8_init 208 = .ok (.newarray .int, 2) := by decide +kernel
theorem dX8_init_210 : decode cX8_init 210 = .ok (.putfield 93, 3) := by decide +kernel
theorem dX8_init_213 : decode cX8_init 213 = .ok (.aload_n 0, 1) := by decide +kernel
theorem dX8_init_214 : decode cX8_init 214 = .ok (.bipush 8, 2) := by decide +kernel
theorem dX8_init_216 : decode cX8_init 216 = .ok (.newarray .int, 2) := by decide +kernel
theorem dX8_init_218 : decode cX8_init 218 = .ok (.putfield 96, 3) := by decide +kernel
theorem dX8_init_221 : decode cX8_init 221 = .ok (.aload_n 0, 1) := by decide +kernel
theorem dX8_init_222 : decode cX8_init 222 = .ok (.bipush 8, 2) := by decide +kernel
theorem dX8_init_224 : decode cX8_init 224 = .ok (.newarray .boolean, 2) := by decide +kernel
theorem dX8_init_226 : decode cX8_init 226 = .ok (.putfield 99, 3) := by decide +kernel
theorem dX8_init_229 : decode cX8_init 229 = .ok (.return_, 1) := by decide +kernel
theorem dX8_within_0 : decode cX8_within 0 = .ok (.iload_n 0, 1) := by decide +kernel
theorem dX8_within_1 : decode cX8_within 1 = .ok (.iload_n 1, 1) := by decide +kernel
theorem dX8_within_2 : decode cX8_within 2 = .ok (.if_icmp .lt 12, 3) := by decide +kernel
theorem dX8_within_5 : decode cX8_within 5 = .ok (.iload_n 0, 1) := by decide +kernel
theorem dX8_within_6 : decode cX8_within 6 = .ok (.iload_n 2, 1) := by decide +kernel
theorem dX8_within_7 : decode cX8_within 7 = .ok (.if_icmp .gt 7, 3) := by decide +kernel
theorem dX8_within_10 : decode cX8_within 10 = .ok (.iconst 1, 1) := by decide +kernel
theorem dX8_within_11 : decode cX8_within 11 = .ok (.goto 4, 3) := by decide +kernel
theorem dX8_within_14 : decode cX8_within 14 = .ok (.iconst 0, 1) := by decide +kernel
theorem dX8_within_15 : decode cX8_within 15 = .ok (.ireturn, 1) := by decide +kernel
set_option maxRecDepth 20000 in
theorem ggX8_append_X8_within : GoodIn wsX8_append wsX8_within := goodIn_r _ [6] (by decide +kernel) (by decide +kernel)
set_option maxRecDepth 20000 in
theorem gX8_append_X8_within : GoodIn wsX8_append (va_wsS RX8 102 yX8_within wsX8_within) := goodIn_app (goodIn_of _ (by decide +kernel)) ggX8_append_X8_within
theorem dX8_append_0 : decode cX8_append 0 = .ok (.iload_n 1, 1) := by decide +kernel
theorem dX8_append_1 : decode cX8_append 1 = .ok (.bipush 32, 2) := by decide +kernel
theorem dX8_append_3 : decode cX8_append 3 = .ok (.bipush 126, 2) := by decide +kernel
theorem dX8_append_5 : decode cX8_append 5 = .ok (.invokestatic 102, 3) := by decide +kernel
theorem dX8_append_8 : decode cX8_append 8 = .ok (.ifCond .ne 7, 3) := by decide +kernel
theorem dX8_append_11 : decode cX8_append 11 = .ok (.sipush (-1002), 3) := by decide +kernel
theorem dX8_append_14 : decode cX8_append 14 = .ok (.ireturn, 1) := by decide +kernel
theorem dX8_append_15 : decode cX8_append 15 = .ok (.aload_n 0, 1) := by decide +kernel
theorem dX8_append_16 : decode cX8_append 16 = .ok (.getfield 106, 3) := by decide +kernel
theorem dX8_append_19 : decode cX8_append 19 = .ok (.bipush 61, 2) := by decide +kernel
theorem dX8_append_21 : decode cX8_append 21 = .ok (.if_icmp .ne 7, 3) := by decide +kernel
theorem dX8_append_24 : decode cX8_append 24 = .ok (.sipush (-1004), 3) := by decide +kernel
theorem dX8_append_27 : decode cX8_append 27 = .ok (.ireturn, 1) := by decide +kernel
theorem dX8_append_28 : decode cX8_append 28 = .ok (.aload_n 0, 1) := by decide +kernel
theorem dX8_append_29 : decode cX8_append 29 = .ok (.getfield 7, 3) := by decide +kernel
theorem dX8_append_32 : decode cX8_append 32 = .ok (.aload_n 0, 1) := by decide +kernel
theorem dX8_append_33 : decode cX8_append 33 = .ok (.getfield 106, 3) := by decide +kernel
theorem dX8_append_36 : decode cX8_append 36 = .ok (.iload_n 1, 1) := by decide +kernel
theorem dX8_append_37 : decode cX8_append 37 = .ok (.iastore, 1) := by decide +kernel
theorem dX8_append_38 : decode cX8_append 38 = .ok (.aload_n 0, 1) := by decide +kernel
theorem dX8_append_39 : decode cX8_append 39 = .ok (.dup, 1) := by decide +kernel
theorem dX8_append_40 : decode cX8_append 40 = .ok (.getfield 106, 3) := by decide +kernel
theorem dX8_append_43 : decode cX8_append 43 = .ok (.iconst 1, 1) := by decide +kernel
theorem dX8_append_44 : decode cX8_append 44 = .ok (.iadd, 1) := by decide +kernel
theorem dX8_append_45 : decode cX8_append 45 = .ok (.putfield 106, 3) := by decide +kernel
theorem dX8_append_48 : decode cX8_append 48 = .ok (.aload_n 0, 1) := by decide +kernel
theorem dX8_append_49 : decode cX8_append 49 = .ok (.getfield 106, 3) := by decide +kernel
theorem dX8_append_52 : decode cX8_append 52 = .ok (.ireturn, 1) := by decide +kernel
theorem dX8_clearBuffer_0 : decode cX8_clearBuffer 0 = .ok (.aload_n 0, 1) := by decide +kernel
theorem dX8_clearBuffer_1 : decode cX8_clearBuffer 1 = .ok (.getfield 106, 3) := by decide +kernel
theorem dX8_clearBuffer_4 : decode cX8_clearBuffer 4 = .ok (.istore_n 1, 1) := by decide +kernel
theorem dX8_clearBuffer_5 : decode cX8_clearBuffer 5 = .ok (.aload_n 0, 1) := by decide +kernel
theorem dX8_clearBuffer_6 : decode cX8_clearBuffer 6 = .ok (.iconst 0, 1) := by decide +kernel
theorem dX8_clearBuffer_7 : decode cX8_clearBuffer 7 = .ok (.putfield 106, 3) := by decide +kernel
theorem dX8_clearBuffer_10 : decode cX8_clearBuffer 10 = .ok (.iload_n 1, 1) := by decide +kernel
theorem dX8_clearBuffer_11 : decode cX8_clearBuffer 11 = .ok (.ireturn, 1) := by decide +kernel
theorem dX8_isJoined_0 : decode cX8_isJoined 0 = .ok (.iconst 0, 1) := by decide +kernel
theorem dX8_isJoined_1 : decode cX8_isJoined 1 = .ok (.istore_n 3, 1) := by decide +kernel
theorem dX8_isJoined_2 : decode cX8_isJoined 2 = .ok (.iconst 0, 1) := by decide +kernel
theorem dX8_isJoined_3 : decode cX8_isJoined 3 = .ok (.istore 4, 2) := by decide +kernel
theorem dX8_isJoined_5 : decode cX8_isJoined 5 = .ok (.iload 4, 2) := by decide +kernel
theorem dX8_isJoined_7 : decode cX8_isJoined 7 = .ok (.aload_n 0, 1) := by decide +kernel
theorem dX8_isJoined_8 : decode cX8_isJoined 8 = .ok (.getfield 109, 3) := by decide +kernel
theorem dX8_isJoined_11 : decode cX8_isJoined 11 = .ok (.if_icmp .ge 41, 3) := by decide +kernel
theorem dX8_isJoined_14 : decode cX8_isJoined 14 = .ok (.iload_n 3, 1) := by decide +kernel
theorem dX8_isJoined_15 : decode cX8_isJoined 15 = .ok (.ifCond .ne 25, 3) := by decide +kernel
theorem dX8_isJoined_18 : decode cX8_isJoined 18 = .ok (.aload_n 0, 1) := by decide +kernel
theorem dX8_isJoined_19 : decode cX8_isJoined 19 = .ok (.getfield 81, 3) := by decide +kernel
theorem dX8_isJoined_22 : decode cX8_isJoined 22 = .ok (.iload 4, 2) := by decide +kernel
theorem dX8_isJoined_24 : decode cX8_isJoined 24 = .ok (.iaload, 1) := by decide +kernel
theorem dX8_isJoined_25 : decode cX8_isJoined 25 = .ok (.iload_n 1, 1) := by decide +kernel
theorem dX8_isJoined_26 : decode cX8_isJoined 26 = .ok (.if_icmp .ne 18, 3) := by decide +kernel
theorem dX8_isJoined_29 : decode cX8_isJoined 29 = .ok (.aload_n 0, 1) := by decide +kernel
theorem dX8_isJoined_30 : decode cX8_isJoined 30 = .ok (.getfield 84, 3) := by decide +kernel
theorem dX8_isJoined_33 : decode cX8_isJoined 33 = .ok (.iload 4, 2) := by decide +kernel
theorem dX8_isJoined_35 : decode cX8_isJoined 35 = .ok (.iaload, 1) := by decide +kernel
theorem dX8_isJoined_36 : decode cX8_isJoined 36 = .ok (.iload_n 2, 1) := by decide +kernel
theorem dX8_isJoined_37 : decode cX8_isJoined 37 = .ok (.if_icmp .ne 7, 3) := by decide +kernel
theorem dX8_isJoined_40 : decode cX8_isJoined 40 = .ok (.iconst 1, 1) := by decide +kernel
theorem dX8_isJoined_41 : decode cX8_isJoined 41 = .ok (.goto 4, 3) := by decide +kernel
theorem dX8_isJoined_44 : decode cX8_isJoined 44 = .ok (.iconst 0, 1) := by decide +kernel
theorem dX8_isJoined_45 : decode cX8_isJoined 45 = .ok (.istore_n 3, 1) := by decide +kernel
theorem dX8_isJoined_46 : decode cX8_isJoined 46 = .ok (.iinc 4 1, 3) := by decide +kernel
theorem dX8_isJoined_49 : decode cX8_isJoined 49 = .ok (.goto (-44), 3) := by decide +kernel
theorem dX8_isJoined_52 : decode cX8_isJoined 52 = .ok (.iload_n 3, 1) := by decide +kernel
theorem dX8_isJoined_53 : decode cX8_isJoined 53 = .ok (.ireturn, 1) := by decide +kernel
set_option maxRecDepth 20000 in
theorem ggX8_parse_X8_within : GoodIn wsX8_parse wsX8_within := goodIn_r _ [14] (by decide +kernel) (by decide +kernel)
set_option maxRecDepth 20000 in
theorem gX8_parse_X8_within : GoodIn wsX8_parse (va_wsS RX8 102 yX8_within wsX8_within) := goodIn_app (goodIn_of _ (by decide +kernel)) ggX8_parse_X8_within
set_option maxRecDepth 20000 in
theorem ggX8_parse_X8_isJoined : GoodIn wsX8_parse wsX8_isJoined := goodIn_r _ [18, 2, 6, 7, 19, 20, 21, 22, 23, 24, 25, 26, 27, 28, 29, 30, 31, 32, 33, 34, 35, 36, 37, 38, 39, 40, 41, 42, 43, 44, 45, 46, 47, 48, 49, 50, 51, 52, 53, 54, 55, 56, 57, 58, 59, 60] (by decide +kernel) (by decide +kernel)
set_option maxRecDepth 20000 in
theorem gX8_parse_X8_isJoined : GoodIn wsX8_parse (wsV RX8 118 RX8 yX8_isJoined wsX8_isJoined) := goodIn_app (goodIn_of _ (by decide +kernel)) ggX8_parse_X8_isJoined
theorem dX8_parse_0 : decode cX8_parse 0 = .ok (.iconst 0, 1) := by decide +kernel
theorem dX8_parse_1 : decode cX8_parse 1 = .ok (.istore_n 1, 1) := by decide +kernel
theorem dX8_parse_2 : decode cX8_parse 2 = .ok (.iconst 0, 1) := by decide +kernel
theorem dX8_parse_3 : decode cX8_parse 3 = .ok (.istore_n 2, 1) := by decide +kernel
theorem dX8_parse_4 : decode cX8_parse 4 = .ok (.iconst 0, 1) := by decide +kernel
theorem dX8_parse_5 : decode cX8_parse 5 = .ok (.istore_n 3, 1) := by decide +kernel
theorem dX8_parse_6 : decode cX8_parse 6 = .ok (.aload_n 0, 1) := by decide +kernel
theorem dX8_parse_7 : decode cX8_parse 7 = .ok (.iconst 0, 1) := by decide +kernel
theorem dX8_parse_8 : decode cX8_parse 8 = .ok (.putfield 112, 3) := by decide +kernel
theorem dX8_parse_11 : decode cX8_parse 11 = .ok (.aload_n 0, 1) := by decide +kernel
theorem dX8_parse_12 : decode cX8_parse 12 = .ok (.iconst 0, 1) := by decide +kernel
theorem dX8_parse_13 : decode cX8_parse 13 = .ok (.putfield 109, 3) := by decide +kernel
theorem dX8_parse_16 : decode cX8_parse 16 = .ok (.aload_n 0, 1) := by decide +kernel
theorem dX8_parse_17 : decode cX8_parse 17 = .ok (.iconst 0, 1) := by decide +kernel
theorem dX8_parse_18 : decode cX8_parse 18 = .ok (.putfield 115, 3) := by decide +kernel
theorem dX8_parse_21 : decode cX8_parse 21 = .ok (.iconst 1, 1) := by decide +kernel
theorem dX8_parse_22 : decode cX8_parse 22 = .ok (.istore 4, 2) := by decide +kernel
theorem dX8_parse_24 : decode cX8_parse 24 = .ok (.iload 4, 2) := by decide +kernel
theorem dX8_parse_26 : decode cX8_parse 26 = .ok (.ifCond .eq 321, 3) := by decide +kernel
theorem dX8_parse_29 : decode cX8_parse 29 = .ok (.aload_n 0, 1) := by decide +kernel
theorem dX8_parse_30 : decode cX8_parse 30 = .ok (.getfield 115, 3) := by decide +kernel
theorem dX8_parse_33 : decode cX8_parse 33 = .ok (.aload_n 0, 1) := by decide +kernel
theorem dX8_parse_34 : decode cX8_parse 34 = .ok (.getfield 106, 3) := by decide +kernel
theorem dX8_parse_37 : decode cX8_parse 37 = .ok (.if_icmp .ge 310, 3) := by decide +kernel
theorem dX8_parse_40 : decode cX8_parse 40 = .ok (.aload_n 0, 1) := by decide +kernel
theorem dX8_parse_41 : decode cX8_parse 41 = .ok (.getfield 7, 3) := by decide +kernel
theorem dX8_parse_44 : decode cX8_parse 44 = .ok (.aload_n 0, 1) := by decide +kernel
theorem dX8_parse_45 : decode cX8_parse 45 = .ok (.getfield 115, 3) := by decide +kernel
theorem dX8_parse_48 : decode cX8_parse 48 = .ok (.iaload, 1) := by decide +kernel
theorem dX8_parse_49 : decode cX8_parse 49 = .ok (.istore 5, 2) := by decide +kernel
theorem dX8_parse_51 : decode cX8_parse 51 = .ok (.iload 5, 2) := by decide +kernel
theorem dX8_parse_53 : decode cX8_parse 53 = .ok (.bipush 48, 2) := by decide +kernel
theorem dX8_parse_55 : decode cX8_parse 55 = .ok (.bipush 57, 2) := by decide +kernel
theorem dX8_parse_57 : decode cX8_parse 57 = .ok (.invokestatic 102, 3) := by decide +kernel
theorem dX8_parse_60 : decode cX8_parse 60 = .ok (.ifCond .eq 11, 3) := by decide +kernel
theorem dX8_parse_63 : decode cX8_parse 63 = .ok (.iload 5, 2) := by decide +kernel
theorem dX8_parse_65 : decode cX8_parse 65 = .ok (.bipush 48, 2) := by decide +kernel
theorem dX8_parse_67 : decode cX8_parse 67 = .ok (.isub, 1) := by decide +kernel
theorem dX8_parse_68 : decode cX8_parse 68 = .ok (.goto 4, 3) := by decide +kernel
theorem dX8_parse_71 : decode cX8_parse 71 = .ok (.iconst (-1), 1) := by decide +kernel
theorem dX8_parse_72 : decode cX8_parse 72 = .ok (.istore 6, 2) := by decide +kernel
theorem dX8_parse_74 : decode cX8_parse 74 = .ok (.iload_n 1, 1) := by decide +kernel
theorem dX8_parse_75 : decode cX8_parse 75 = .ok (.tableswitch 196 0 4 #[33, 196, 54, 83, 123], 33) := by decide +kernel
theorem dX8_parse_108 : decode cX8_parse 108 = .ok (.iload 6, 2) := by decide +kernel
theorem dX8_parse_110 : decode cX8_parse 110 = .ok (.iconst 2, 1) := by decide +kernel
theorem dX8_parse_111 : decode cX8_parse 111 = .ok (.bipush 8, 2) := by decide +kernel
theorem dX8_parse_113 : decode cX8_parse 113 = .ok (.invokestatic 102, 3) := by decide +kernel
theorem dX8_parse_116 : decode cX8_parse 116 = .ok (.istore 4, 2) := by decide +kernel
theorem dX8_parse_118 : decode cX8_parse 118 = .ok (.aload_n 0, 1) := by decide +kernel
theorem dX8_parse_119 : decode cX8_parse 119 = .ok (.iload 6, 2) := by decide +kernel
theorem dX8_parse_121 : decode cX8_parse 121 = .ok (.putfield 112, 3) := by decide +kernel
theorem dX8_parse_124 : decode cX8_parse 124 = .ok (.iconst 1, 1) := by decide +kernel
theorem dX8_parse_125 : decode cX8_parse 125 = .ok (.istore_n 1, 1) := by decide +kernel
theorem dX8_parse_126 : decode cX8_parse 126 = .ok (.goto 199, 3) := by decide +kernel
theorem dX8_parse_129 : decode cX8_parse 129 = .ok (.iload 6, 2) := by decide +kernel
theorem dX8_parse_131 : decode cX8_parse 131 = .ok (.ifCond .lt 16, 3) := by decide +kernel
theorem dX8_parse_134 : decode cX8_parse 134 = .ok (.iload 6, 2) := by decide +kernel
theorem dX8_parse_136 : decode cX8_parse 136 = .ok (.aload_n 0, 1) := by decide +kernel
theorem dX8_parse_137 : decode cX8_parse 137 = .ok (.getfield 112, 3) := by decide +kernel
theorem dX8_parse_140 : decode cX8_parse 140 = .ok (.if_icmp .ge 7, 3) := by decide +kernel
theorem dX8_parse_143 : decode cX8_parse 143 = .ok (.iconst 1, 1) := by decide +kernel
theorem dX8_parse_144 : decode cX8_parse 144 = .ok (.goto 4, 3) := by decide +kernel
theorem dX8_parse_147 : decode cX8_parse 147 = .ok (.iconst 0, 1) := by decide +kernel
theorem dX8_parse_148 : decode cX8_parse 148 = .ok (.istore 4, 2) := by decide +kernel
theorem dX8_parse_150 : decode cX8_parse 150 = .ok (.iload 6, 2) := by decide +kernel
theorem dX8_parse_152 : decode cX8_parse 152 = .ok (.istore_n 2, 1) := by decide +kernel
theorem dX8_parse_153 : decode cX8_parse 153 = .ok (.iconst 3, 1) := by decide +kernel
end
section
theorem dX8_parse_154 : decode cX8_parse 154 = .ok (.istore_n 1, 1) := by decide +kernel
theorem dX8_parse_155 : decode cX8_parse 155 = .ok (.goto 170, 3) := by decide +kernel
theorem dX8_parse_158 : decode cX8_parse 158 = .ok (.iload 6, 2) := by decide +kernel
theorem dX8_parse_160 : decode cX8_parse 160 = .ok (.iload_n 2, 1) := by decide +kernel
theorem dX8_parse_161 : decode cX8_parse 161 = .ok (.if_icmp .le 26, 3) := by decide +kernel
theorem dX8_parse_164 : decode cX8_parse 164 = .ok (.iload 6, 2) := by decide +kernel
theorem dX8_parse_166 : decode cX8_parse 166 = .ok (.aload_n 0, 1) := by decide +kernel
theorem dX8_parse_167 : decode cX8_parse 167 = .ok (.getfield 112, 3) := by decide +kernel
theorem dX8_parse_170 : decode cX8_parse 170 = .ok (.if_icmp .ge 17, 3) := by decide +kernel
theorem dX8_parse_173 : decode cX8_parse 173 = .ok (.aload_n 0, 1) := by decide +kernel
theorem dX8_parse_174 : decode cX8_parse 174 = .ok (.iload_n 2, 1) := by decide +kernel
theorem dX8_parse_175 : decode cX8_parse 175 = .ok (.iload 6, 2) := by decide +kernel
theorem dX8_parse_177 : decode cX8_parse 177 = .ok (.invokevirtual 118, 3) := by decide +kernel
theorem dX8_parse_180 : decode cX8_parse 180 = .ok (.ifCond .ne 7, 3) := by decide +kernel
theorem dX8_parse_183 : decode cX8_parse 183 = .ok (.iconst 1, 1) := by decide +kernel
theorem dX8_parse_184 : decode cX8_parse 184 = .ok (.goto 4, 3) := by decide +kernel
theorem dX8_parse_187 : decode cX8_parse 187 = .ok (.iconst 0, 1) := by decide +kernel
theorem dX8_parse_188 : decode cX8_parse 188 = .ok (.istore 4, 2) := by decide +kernel
theorem dX8_parse_190 : decode cX8_parse 190 = .ok (.iload 6, 2) := by decide +kernel
theorem dX8_parse_192 : decode cX8_parse 192 = .ok (.istore_n 3, 1) := by decide +kernel
theorem dX8_parse_193 : decode cX8_parse 193 = .ok (.iconst 4, 1) := by decide +kernel
theorem dX8_parse_194 : decode cX8_parse 194 = .ok (.istore_n 1, 1) := by decide +kernel
theorem dX8_parse_195 : decode cX8_parse 195 = .ok (.goto 130, 3) := by decide +kernel
theorem dX8_parse_198 : decode cX8_parse 198 = .ok (.iload 6, 2) := by decide +kernel
theorem dX8_parse_200 : decode cX8_parse 200 = .ok (.ifCond .le 7, 3) := by decide +kernel
theorem dX8_parse_203 : decode cX8_parse 203 = .ok (.iconst 1, 1) := by decide +kernel
theorem dX8_parse_204 : decode cX8_parse 204 = .ok (.goto 4, 3) := by decide +kernel
theorem dX8_parse_207 : decode cX8_parse 207 = .ok (.iconst 0, 1) := by decide +kernel
theorem dX8_parse_208 : decode cX8_parse 208 = .ok (.istore 4, 2) := by decide +kernel
theorem dX8_parse_210 : decode cX8_parse 210 = .ok (.iload 4, 2) := by decide +kernel
theorem dX8_parse_212 : decode cX8_parse 212 = .ok (.ifCond .eq 54, 3) := by decide +kernel
theorem dX8_parse_215 : decode cX8_parse 215 = .ok (.aload_n 0, 1) := by decide +kernel
theorem dX8_parse_216 : decode cX8_parse 216 = .ok (.getfield 81, 3) := by decide +kernel
theorem dX8_parse_219 : decode cX8_parse 219 = .ok (.aload_n 0, 1) := by decide +kernel
theorem dX8_parse_220 : decode cX8_parse 220 = .ok (.getfield 109, 3) := by decide +kernel
theorem dX8_parse_223 : decode cX8_parse 223 = .ok (.iload_n 2, 1) := by decide +kernel
theorem dX8_parse_224 : decode cX8_parse 224 = .ok (.iastore, 1) := by decide +kernel
theorem dX8_parse_225 : decode cX8_parse 225 = .ok (.aload_n 0, 1) := by decide +kernel
theorem dX8_parse_226 : decode cX8_parse 226 = .ok (.getfield 84, 3) := by decide +kernel
theorem dX8_parse_229 : decode cX8_parse 229 = .ok (.aload_n 0, 1) := by decide +kernel
theorem dX8_parse_230 : decode cX8_parse 230 = .ok (.getfield 109, 3) := by decide +kernel
theorem dX8_parse_233 : decode cX8_parse 233 = .ok (.iload_n 3, 1) := by decide +kernel
theorem dX8_parse_234 : decode cX8_parse 234 = .ok (.iastore, 1) := by decide +kernel
theorem dX8_parse_235 : decode cX8_parse 235 = .ok (.aload_n 0, 1) := by decide +kernel
theorem dX8_parse_236 : decode cX8_parse 236 = .ok (.getfield 87, 3) := by decide +kernel
theorem dX8_parse_239 : decode cX8_parse 239 = .ok (.aload_n 0, 1) := by decide +kernel
theorem dX8_parse_240 : decode cX8_parse 240 = .ok (.getfield 109, 3) := by decide +kernel
theorem dX8_parse_243 : decode cX8_parse 243 = .ok (.iload 6, 2) := by decide +kernel
theorem dX8_parse_245 : decode cX8_parse 245 = .ok (.iastore, 1) := by decide +kernel
theorem dX8_parse_246 : decode cX8_parse 246 = .ok (.aload_n 0, 1) := by decide +kernel
theorem dX8_parse_247 : decode cX8_parse 247 = .ok (.getfield 90, 3) := by decide +kernel
theorem dX8_parse_250 : decode cX8_parse 250 = .ok (.aload_n 0, 1) := by decide +kernel
theorem dX8_parse_251 : decode cX8_parse 251 = .ok (.getfield 109, 3) := by decide +kernel
theorem dX8_parse_254 : decode cX8_parse 254 = .ok (.iconst 0, 1) := by decide +kernel
theorem dX8_parse_255 : decode cX8_parse 255 = .ok (.iastore, 1) := by decide +kernel
theorem dX8_parse_256 : decode cX8_parse 256 = .ok (.aload_n 0, 1) := by decide +kernel
theorem dX8_parse_257 : decode cX8_parse 257 = .ok (.dup, 1) := by decide +kernel
theorem dX8_parse_258 : decode cX8_parse 258 = .ok (.getfield 109, 3) := by decide +kernel
theorem dX8_parse_261 : decode cX8_parse 261 = .ok (.iconst 1, 1) := by decide +kernel
theorem dX8_parse_262 : decode cX8_parse 262 = .ok (.iadd, 1) := by decide +kernel
theorem dX8_parse_263 : decode cX8_parse 263 = .ok (.putfield 109, 3) := by decide +kernel
theorem dX8_parse_266 : decode cX8_parse 266 = .ok (.iconst 5, 1) := by decide +kernel
theorem dX8_parse_267 : decode cX8_parse 267 = .ok (.istore_n 1, 1) := by decide +kernel
theorem dX8_parse_268 : decode cX8_parse 268 = .ok (.goto 57, 3) := by decide +kernel
theorem dX8_parse_271 : decode cX8_parse 271 = .ok (.iload_n 1, 1) := by decide +kernel
theorem dX8_parse_272 : decode cX8_parse 272 = .ok (.iconst 5, 1) := by decide +kernel
theorem dX8_parse_273 : decode cX8_parse 273 = .ok (.if_icmp .ne 27, 3) := by decide +kernel
theorem dX8_parse_276 : decode cX8_parse 276 = .ok (.iload 6, 2) := by decide +kernel
theorem dX8_parse_278 : decode cX8_parse 278 = .ok (.iconst 1, 1) := by decide +kernel
theorem dX8_parse_279 : decode cX8_parse 279 = .ok (.if_icmp .le 21, 3) := by decide +kernel
theorem dX8_parse_282 : decode cX8_parse 282 = .ok (.aload_n 0, 1) := by decide +kernel
theorem dX8_parse_283 : decode cX8_parse 283 = .ok (.getfield 90, 3) := by decide +kernel
theorem dX8_parse_286 : decode cX8_parse 286 = .ok (.aload_n 0, 1) := by decide +kernel
theorem dX8_parse_287 : decode cX8_parse 287 = .ok (.getfield 109, 3) := by decide +kernel
theorem dX8_parse_290 : decode cX8_parse 290 = .ok (.iconst 1, 1) := by decide +kernel
theorem dX8_parse_291 : decode cX8_parse 291 = .ok (.isub, 1) := by decide +kernel
theorem dX8_parse_292 : decode cX8_parse 292 = .ok (.iload 6, 2) := by decide +kernel
theorem dX8_parse_294 : decode cX8_parse 294 = .ok (.iastore, 1) := by decide +kernel
theorem dX8_parse_295 : decode cX8_parse 295 = .ok (.iconst 1, 1) := by decide +kernel
theorem dX8_parse_296 : decode cX8_parse 296 = .ok (.istore_n 1, 1) := by decide +kernel
theorem dX8_parse_297 : decode cX8_parse 297 = .ok (.goto 28, 3) := by decide +kernel
theorem dX8_parse_300 : decode cX8_parse 300 = .ok (.iload 5, 2) := by decide +kernel
theorem dX8_parse_302 : decode cX8_parse 302 = .ok (.bipush 59, 2) := by decide +kernel
theorem dX8_parse_304 : decode cX8_parse 304 = .ok (.if_icmp .ne 16, 3) := by decide +kernel
theorem dX8_parse_307 : decode cX8_parse 307 = .ok (.aload_n 0, 1) := by decide +kernel
theorem dX8_parse_308 : decode cX8_parse 308 = .ok (.getfield 109, 3) := by decide +kernel
theorem dX8_parse_311 : decode cX8_parse 311 = .ok (.bipush 12, 2) := by decide +kernel
theorem dX8_parse_313 : decode cX8_parse 313 = .ok (.if_icmp .ge 7, 3) := by decide +kernel
theorem dX8_parse_316 : decode cX8_parse 316 = .ok (.iconst 1, 1) := by decide +kernel
theorem dX8_parse_317 : decode cX8_parse 317 = .ok (.goto 4, 3) := by decide +kernel
theorem dX8_parse_320 : decode cX8_parse 320 = .ok (.iconst 0, 1) := by decide +kernel
theorem dX8_parse_321 : decode cX8_parse 321 = .ok (.istore 4, 2) := by decide +kernel
theorem dX8_parse_323 : decode cX8_parse 323 = .ok (.iconst 2, 1) := by decide +kernel
theorem dX8_parse_324 : decode cX8_parse 324 = .ok (.istore_n 1, 1) := by decide +kernel
theorem dX8_parse_325 : decode cX8_parse 325 = .ok (.aload_n 0, 1) := by decide +kernel
theorem dX8_parse_326 : decode cX8_parse 326 = .ok (.dup, 1) := by decide +kernel
theorem dX8_parse_327 : decode cX8_parse 327 = .ok (.getfield 115, 3) := by decide +kernel
theorem dX8_parse_330 : decode cX8_parse 330 = .ok (.iload 4, 2) := by decide +kernel
theorem dX8_parse_332 : decode cX8_parse 332 = .ok (.ifCond .eq 7, 3) := by decide +kernel
theorem dX8_parse_335 : decode cX8_parse 335 = .ok (.iconst 1, 1) := by decide +kernel
theorem dX8_parse_336 : decode cX8_parse 336 = .ok (.goto 4, 3) := by decide +kernel
theorem dX8_parse_339 : decode cX8_parse 339 = .ok (.iconst 0, 1) := by decide +kernel
theorem dX8_parse_340 : decode cX8_parse 340 = .ok (.iadd, 1) := by decide +kernel
theorem dX8_parse_341 : decode cX8_parse 341 = .ok (.putfield 115, 3) := by decide +kernel
theorem dX8_parse_344 : decode cX8_parse 344 = .ok (.goto (-320), 3) := by decide +kernel
theorem dX8_parse_347 : decode cX8_parse 347 = .ok (.aload_n 0, 1) := by decide +kernel
theorem dX8_parse_348 : decode cX8_parse 348 = .ok (.iload 4, 2) := by decide +kernel
theorem dX8_parse_350 : decode cX8_parse 350 = .ok (.ifCond .eq 17, 3) := by decide +kernel
theorem dX8_parse_353 : decode cX8_parse 353 = .ok (.iload_n 1, 1) := by decide +kernel
theorem dX8_parse_354 : decode cX8_parse 354 = .ok (.iconst 1, 1) := by decide +kernel
theorem dX8_parse_355 : decode cX8_parse 355 = .ok (.if_icmp .eq 8, 3) := by decide +kernel
theorem dX8_parse_358 : decode cX8_parse 358 = .ok (.iload_n 1, 1) := by decide +kernel
theorem dX8_parse_359 : decode cX8_parse 359 = .ok (.iconst 5, 1) := by decide +kernel
theorem dX8_parse_360 : decode cX8_parse 360 = .ok (.if_icmp .ne 7, 3) := by decide +kernel
theorem dX8_parse_363 : decode cX8_parse 363 = .ok (.iconst 1, 1) := by decide +kernel
theorem dX8_parse_364 : decode cX8_parse 364 = .ok (.goto 4, 3) := by decide +kernel
theorem dX8_parse_367 : decode cX8_parse 367 = .ok (.iconst 0, 1) := by decide +kernel
theorem dX8_parse_368 : decode cX8_parse 368 = .ok (.putfield 122, 3) := by decide +kernel
theorem dX8_parse_371 : decode cX8_parse 371 = .ok (.return_, 1) := by decide +kernel
set_option maxRecDepth 20000 in
theorem ggX8_errorPosition_X8_parse : GoodIn wsX8_errorPosition wsX8_parse := goodIn_r _ [6, 7, 8, 1, 9, 10, 11, 12, 13, 14, 15, 16, 17, 5, 18, 19, 20, 21, 22, 23, 24, 25, 26, 27, 28, 29, 30, 31, 32, 33, 34, 35, 36, 37, 38, 39, 40, 41, 42, 43, 44, 45, 46, 47, 48, 49, 50, 51, 52, 53, 54, 55, 56, 57, 58, 59, 60, 61, 62, 63, 64] (by decide +kernel) (by decide +kernel)
set_option maxRecDepth 20000 in
theorem gX8_errorPosition_X8_parse : GoodIn wsX8_errorPosition (wsV RX8 126 RX8 yX8_parse wsX8_parse) := goodIn_app (goodIn_of _ (by decide +kernel)) ggX8_errorPosition_X8_parse
theorem dX8_errorPosition_0 : decode cX8_errorPosition 0 = .ok (.aload_n 0, 1) := by decide +kernel
theorem dX8_errorPosition_1 : decode cX8_errorPosition 1 = .ok (.invokevirtual 126, 3) := by decide +kernel
theorem dX8_errorPosition_4 : decode cX8_errorPosition 4 = .ok (.aload_n 0, 1) := by decide +kernel
theorem dX8_errorPosition_5 : decode cX8_errorPosition 5 = .ok (.getfield 115, 3) := by decide +kernel
theorem dX8_errorPosition_8 : decode cX8_errorPosition 8 = .ok (.ireturn, 1) := by decide +kernel
set_option maxRecDepth 20000 in
theorem ggX8_loadNetwork_X8_parse : GoodIn wsX8_loadNetwork wsX8_parse := goodIn_r _ [26, 2, 4, 27, 21, 28, 7, 9, 11, 13, 1, 29, 30, 25, 31, 32, 33, 34, 35, 43, 44, 45, 46, 47, 48, 49, 50, 51, 52, 53, 54, 55, 56, 57, 58, 59, 60, 61, 62, 63, 64, 65, 66, 67, 68, 69, 70, 71, 72, 73, 74, 75, 76, 77, 78, 79, 80, 81, 82, 83, 84] (by decide +kernel) (by decide +kernel)
set_option maxRecDepth 20000 in
theorem gX8_loadNetwork_X8_parse : GoodIn wsX8_loadNetwork (wsV RX8 126 RX8 yX8_parse wsX8_parse) := goodIn_app (goodIn_of _ (by decide +kernel)) ggX8_loadNetwork_X8_parse
set_option maxRecDepth 20000 in
theorem ggX8_loadNetwork_X8_forgetFlood : GoodIn wsX8_loadNetwork wsX8_forgetFlood := goodIn_r _ [39, 40, 41, 42, 43, 44, 45, 46, 47, 48, 49, 50, 51, 52, 53, 54, 55, 56, 57, 58, 59, 60, 61, 62, 63, 64, 65, 66, 67, 68, 69, 70, 71, 72, 73, 74, 75, 76, 77, 78, 79, 80, 81, 82, 83, 84] (by decide +kernel) (by decide +kernel)
set_option maxRecDepth 20000 in
theorem gX8_loadNetwork_X8_forgetFlood : GoodIn wsX8_loadNetwork (wsV RX8 135 RX8 yX8_forgetFlood wsX8_forgetFlood) := goodIn_app (goodIn_of _ (by decide +kernel)) ggX8_loadNetwork_X8_forgetFlood
theorem dX8_loadNetwork_0 : decode cX8_loadNetwork 0 = .ok (.aload_n 0, 1) := by decide +kernel
theorem dX8_loadNetwork_1 : decode cX8_loadNetwork 1 = .ok (.invokevirtual 126, 3) := by decide +kernel
theorem dX8_loadNetwork_4 : decode cX8_loadNetwork 4 = .ok (.aload_n 0, 1) := by decide +kernel
theorem dX8_loadNetwork_5 : decode cX8_loadNetwork 5 = .ok (.getfield 122, 3) := by decide +kernel
theorem dX8_loadNetwork_8 : decode cX8_loadNetwork 8 = .ok (.ifCond .ne 7, 3) := by decide +kernel
theorem dX8_loadNetwork_11 : decode cX8_loadNetwork 11 = .ok (.sipush (-1003), 3) := by decide +kernel
theorem dX8_loadNetwork_14 : decode cX8_loadNetwork 14 = .ok (.ireturn, 1) := by decide +kernel
theorem dX8_loadNetwork_15 : decode cX8_loadNetwork 15 = .ok (.aload_n 0, 1) := by decide +kernel
theorem dX8_loadNetwork_16 : decode cX8_loadNetwork 16 = .ok (.aload_n 0, 1) := by decide +kernel
theorem dX8_loadNetwork_17 : decode cX8_loadNetwork 17 = .ok (.getfield 112, 3) := by decide +kernel
theorem dX8_loadNetwork_20 : decode cX8_loadNetwork 20 = .ok (.putfield 129, 3) := by decide +kernel
theorem dX8_loadNetwork_23 : decode cX8_loadNetwork 23 = .ok (.aload_n 0, 1) := by decide +kernel
theorem dX8_loadNetwork_24 : decode cX8_loadNetwork 24 = .ok (.aload_n 0, 1) := by decide +kernel
theorem dX8_loadNetwork_25 : decode cX8_loadNetwork 25 = .ok (.getfield 109, 3) := by decide +kernel
theorem dX8_loadNetwork_28 : decode cX8_loadNetwork 28 = .ok (.putfield 132, 3) := by decide +kernel
theorem dX8_loadNetwork_31 : decode cX8_loadNetwork 31 = .ok (.iconst 0, 1) := by decide +kernel
theorem dX8_loadNetwork_32 : decode cX8_loadNetwork 32 = .ok (.istore_n 1, 1) := by decide +kernel
theorem dX8_loadNetwork_33 : decode cX8_loadNetwork 33 = .ok (.iload_n 1, 1) := by decide +kernel
theorem dX8_loadNetwork_34 : decode cX8_loadNetwork 34 = .ok (.aload_n 0, 1) := by decide +kernel
theorem dX8_loadNetwork_35 : decode cX8_loadNetwork 35 = .ok (.getfield 132, 3) := by decide +kernel
theorem dX8_loadNetwork_38 : decode cX8_loadNetwork 38 = .ok (.if_icmp .ge 57, 3) := by decide +kernel
theorem dX8_loadNetwork_41 : decode cX8_loadNetwork 41 = .ok (.aload_n 0, 1) := by decide +kernel
theorem dX8_loadNetwork_42 : decode cX8_loadNetwork 42 = .ok (.getfield 13, 3) := by decide +kernel
theorem dX8_loadNetwork_45 : decode cX8_loadNetwork 45 = .ok (.iload_n 1, 1) := by decide +kernel
theorem dX8_loadNetwork_46 : decode cX8_loadNetwork 46 = .ok (.aload_n 0, 1) := by decide +kernel
theorem dX8_loadNetwork_47 : decode cX8_loadNetwork 47 = .ok (.getfield 81, 3) := by decide +kernel
theorem dX8_loadNetwork_50 : decode cX8_loadNetwork 50 = .ok (.iload_n 1, 1) := by decide +kernel
theorem dX8_loadNetwork_51 : decode cX8_loadNetwork 51 = .ok (.iaload, 1) := by decide +kernel
theorem dX8_loadNetwork_52 : decode cX8_loadNetwork 52 = .ok (.iastore, 1) := by decide +kernel
theorem dX8_loadNetwork_53 : decode cX8_loadNetwork 53 = .ok (.aload_n 0, 1) := by decide +kernel
theorem dX8_loadNetwork_54 : decode cX8_loadNetwork 54 = .ok (.getfield 16, 3) := by decide +kernel
theorem dX8_loadNetwork_57 : decode cX8_loadNetwork 57 = .ok (.iload_n 1, 1) := by decide +kernel
theorem dX8_loadNetwork_58 : decode cX8_loadNetwork 58 = .ok (.aload_n 0, 1) := by decide +kernel
theorem dX8_loadNetwork_59 : decode cX8_loadNetwork 59 = .ok (.getfield 84, 3) := by decide +kernel
theorem dX8_loadNetwork_62 : decode cX8_loadNetwork 62 = .ok (.iload_n 1, 1) := by decide +kernel
theorem dX8_loadNetwork_63 : decode cX8_loadNetwork 63 = .ok (.iaload, 1) := by decide +kernel
theorem dX8_loadNetwork_64 : decode cX8_loadNetwork 64 = .ok (.iastore, 1) := by decide +kernel
theorem dX8_loadNetwork_65 : decode cX8_loadNetwork 65 = .ok (.aload_n 0, 1) := by decide +kernel
theorem dX8_loadNetwork_66 : decode cX8_loadNetwork 66 = .ok (.getfield 19, 3) := by decide +kernel
theorem dX8_loadNetwork_69 : decode cX8_loadNetwork 69 = .ok (.iload_n 1, 1) := by decide +kernel
theorem dX8_loadNetwork_70 : decode cX8_loadNetwork 70 = .ok (.aload_n 0, 1) := by decide +kernel
theorem dX8_loadNetwork_71 : decode cX8_loadNetwork 71 = .ok (.getfield 87, 3) := by decide +kernel
theorem dX8_loadNetwork_74 : decode cX8_loadNetwork 74 = .ok (.iload_n 1, 1) := by decide +kernel
theorem dX8_loadNetwork_75 : decode cX8_loadNetwork 75 = .ok (.iaload, 1) := by decide +kernel
theorem dX8_loadNetwork_76 : decode cX8_loadNetwork 76 = .ok (.iastore, 1) := by decide +kernel
theorem dX8_loadNetwork_77 : decode cX8_loadNetwork 77 = .ok (.aload_n 0, 1) := by decide +kernel
theorem dX8_loadNetwork_78 : decode cX8_loadNetwork 78 = .ok (.getfield 22, 3) := by decide +kernel
theorem dX8_loadNetwork_81 : decode cX8_loadNetwork 81 = .ok (.iload_n 1, 1) := by decide +kernel
theorem dX8_loadNetwork_82 : decode cX8_loadNetwork 82 = .ok (.aload_n 0, 1) := by decide +kernel
theorem dX8_loadNetwork_83 : decode cX8_loadNetwork 83 = .ok (.getfield 90, 3) := by decide +kernel
theorem dX8_loadNetwork_86 : decode cX8_loadNetwork 86 = .ok (.iload_n 1, 1) := by decide +kernel
theorem dX8_loadNetwork_87 : decode cX8_loadNetwork 87 = .ok (.iaload, 1) := by decide +kernel
theorem dX8_loadNetwork_88 : decode cX8_loadNetwork 88 = .ok (.iastore, 1) := by decide +kernel
theorem dX8_loadNetwork_89 : decode cX8_loadNetwork 89 = .ok (.iinc 1 1, 3) := by decide +kernel
theorem dX8_loadNetwork_92 : decode cX8_loadNetwork 92 = .ok (.goto (-59), 3) := by decide +kernel
theorem dX8_loadNetwork_95 : decode cX8_loadNetwork 95 = .ok (.iconst 0, 1) := by decide +kernel
theorem dX8_loadNetwork_96 : decode cX8_loadNetwork 96 = .ok (.istore_n 1, 1) := by decide +kernel
theorem dX8_loadNetwork_97 : decode cX8_loadNetwork 97 = .ok (.iload_n 1, 1) := by decide +kernel
theorem dX8_loadNetwork_98 : decode cX8_loadNetwork 98 = .ok (.bipush 8, 2) := by decide +kernel
theorem dX8_loadNetwork_100 : decode cX8_loadNetwork 100 = .ok (.if_icmp .ge 30, 3) := by decide +kernel
theorem dX8_loadNetwork_103 : decode cX8_loadNetwork 103 = .ok (.aload_n 0, 1) := by decide +kernel
theorem dX8_loadNetwork_104 : decode cX8_loadNetwork 104 = .ok (.getfield 25, 3) := by decide +kernel
theorem dX8_loadNetwork_107 : decode cX8_loadNetwork 107 = .ok (.iload_n 1, 1) := by decide +kernel
theorem dX8_loadNetwork_108 : decode cX8_loadNetwork 108 = .ok (.iconst 1, 1) := by decide +kernel
theorem dX8_loadNetwork_109 : decode cX8_loadNetwork 109 = .ok (.bastore, 1) := by decide +kernel
theorem dX8_loadNetwork_110 : decode cX8_loadNetwork 110 = .ok (.aload_n 0, 1) := by decide +kernel
theorem dX8_loadNetwork_111 : decode cX8_loadNetwork 111 = .ok (.getfield 35, 3) := by decide +kernel
theorem dX8_loadNetwork_114 : decode cX8_loadNetwork 114 = .ok (.iload_n 1, 1) := by decide +kernel
theorem dX8_loadNetwork_115 : decode cX8_loadNetwork 115 = .ok (.iconst 0, 1) := by decide +kernel
theorem dX8_loadNetwork_116 : decode cX8_loadNetwork 116 = .ok (.iastore, 1) := by decide +kernel
theorem dX8_loadNetwork_117 : decode cX8_loadNetwork 117 = .ok (.aload_n 0, 1) := by decide +kernel
theorem dX8_loadNetwork_118 : decode cX8_loadNetwork 118 = .ok (.getfield 38, 3) := by decide +kernel
theorem dX8_loadNetwork_121 : decode cX8_loadNetwork 121 = .ok (.iload_n 1, 1) := by decide +kernel
theorem dX8_loadNetwork_122 : decode cX8_loadNetwork 122 = .ok (.iconst 0, 1) := by decide +kernel
theorem dX8_loadNetwork_123 : decode cX8_loadNetwork 123 = .ok (.iastore, 1) := by decide +kernel
theorem dX8_loadNetwork_124 : decode cX8_loadNetwork 124 = .ok (.iinc 1 1, 3) := by decide +kernel
theorem dX8_loadNetwork_127 : decode cX8_loadNetwork 127 = .ok (.goto (-30), 3) := by decide +kernel
theorem dX8_loadNetwork_130 : decode cX8_loadNetwork 130 = .ok (.aload_n 0, 1) := by decide +kernel
theorem dX8_loadNetwork_131 : decode cX8_loadNetwork 131 = .ok (.invokevirtual 135, 3) := by decide +kernel
theorem dX8_loadNetwork_134 : decode cX8_loadNetwork 134 = .ok (.aload_n 0, 1) := by decide +kernel
theorem dX8_loadNetwork_135 : decode cX8_loadNetwork 135 = .ok (.iconst 0, 1) := by decide +kernel
theorem dX8_loadNetwork_136 : decode cX8_loadNetwork 136 = .ok (.putfield 41, 3) := by decide +kernel
theorem dX8_loadNetwork_139 : decode cX8_loadNetwork 139 = .ok (.aload_n 0, 1) := by decide +kernel
theorem dX8_loadNetwork_140 : decode cX8_loadNetwork 140 = .ok (.iconst 0, 1) := by decide +kernel
theorem dX8_loadNetwork_141 : decode cX8_loadNetwork 141 = .ok (.putfield 138, 3) := by decide +kernel
theorem dX8_loadNetwork_144 : decode cX8_loadNetwork 144 = .ok (.aload_n 0, 1) := by decide +kernel
theorem dX8_loadNetwork_145 : decode cX8_loadNetwork 145 = .ok (.iconst 0, 1) := by decide +kernel
theorem dX8_loadNetwork_146 : decode cX8_loadNetwork 146 = .ok (.putfield 141, 3) := by decide +kernel
theorem dX8_loadNetwork_149 : decode cX8_loadNetwork 149 = .ok (.aload_n 0, 1) := by decide +kernel
theorem dX8_loadNetwork_150 : decode cX8_loadNetwork 150 = .ok (.iconst 0, 1) := by decide +kernel
theorem dX8_loadNetwork_151 : decode cX8_loadNetwork 151 = .ok (.putfield 144, 3) := by decide +kernel
theorem dX8_loadNetwork_154 : decode cX8_loadNetwork 154 = .ok (.aload_n 0, 1) := by decide +kernel
theorem dX8_loadNetwork_155 : decode cX8_loadNetwork 155 = .ok (.iconst 0, 1) := by decide +kernel
theorem dX8_loadNetwork_156 : decode cX8_loadNetwork 156 = .ok (.putfield 106, 3) := by decide +kernel
theorem dX8_loadNetwork_159 : decode cX8_loadNetwork 159 = .ok (.aload_n 0, 1) := by decide +kernel
theorem dX8_loadNetwork_160 : decode cX8_loadNetwork 160 = .ok (.getfield 129, 3) := by decide +kernel
theorem dX8_loadNetwork_163 : decode cX8_loadNetwork 163 = .ok (.ireturn, 1) := by decide +kernel
set_option maxRecDepth 20000 in
theorem ggX8_setTransmissionLimit_X8_within : GoodIn wsX8_setTransmissionLimit wsX8_within := goodIn_r _ [5] (by decide +kernel) (by decide +kernel)
set_option maxRecDepth 20000 in
theorem gX8_setTransmissionLimit_X8_within : GoodIn wsX8_setTransmissionLimit (va_wsS RX8 102 yX8_within wsX8_within) := goodIn_app (goodIn_of _ (by decide +kernel)) ggX8_setTransmissionLimit_X8_within
theorem dX8_setTransmissionLimit_0 : decode cX8_setTransmissionLimit 0 = .ok (.iload_n 1, 1) := by decide +kernel
theorem dX8_setTransmissionLimit_1 : decode cX8_setTransmissionLimit 1 = .ok (.iconst 1, 1) := by decide +kernel
theorem dX8_setTransmissionLimit_2 : decode cX8_setTransmissionLimit 2 = .ok (.iconst 4, 1) := by decide +kernel
theorem dX8_setTransmissionLimit_3 : decode cX8_setTransmissionLimit 3 = .ok (.invokestatic 102, 3) := by decide +kernel
theorem dX8_setTransmissionLimit_6 : decode cX8_setTransmissionLimit 6 = .ok (.ifCond .ne 7, 3) := by decide +kernel
theorem dX8_setTransmissionLimit_9 : decode cX8_setTransmissionLimit 9 = .ok (.sipush (-1002), 3) := by decide +kernel
theorem dX8_setTransmissionLimit_12 : decode cX8_setTransmissionLimit 12 = .ok (.ireturn, 1) := by decide +kernel
theorem dX8_setTransmissionLimit_13 : decode cX8_setTransmissionLimit 13 = .ok (.aload_n 0, 1) := by decide +kernel
theorem dX8_setTransmissionLimit_14 : decode cX8_setTransmissionLimit 14 = .ok (.getfield 45, 3) := by decide +kernel
theorem dX8_setTransmissionLimit_17 : decode cX8_setTransmissionLimit 17 = .ok (.istore_n 2, 1) := by decide +kernel
theorem dX8_setTransmissionLimit_18 : decode cX8_setTransmissionLimit 18 = .ok (.aload_n 0, 1) := by decide +kernel
theorem dX8_setTransmissionLimit_19 : decode cX8_setTransmissionLimit 19 = .ok (.iload_n 1, 1) := by decide +kernel
theorem dX8_setTransmissionLimit_20 : decode cX8_setTransmissionLimit 20 = .ok (.putfield 45, 3) := by decide +kernel
theorem dX8_setTransmissionLimit_23 : decode cX8_setTransmissionLimit 23 = .ok (.iload_n 2, 1) := by decide +kernel
theorem dX8_setTransmissionLimit_24 : decode cX8_setTransmissionLimit 24 = .ok (.ireturn, 1) := by decide +kernel
set_option maxRecDepth 20000 in
theorem ggX8_setCaptureMargin_X8_within : GoodIn wsX8_setCaptureMargin wsX8_within := goodIn_r _ [5] (by decide +kernel) (by decide +kernel)
set_option maxRecDepth 20000 in
theorem gX8_setCaptureMargin_X8_within : GoodIn wsX8_setCaptureMargin (va_wsS RX8 102 yX8_within wsX8_within) := goodIn_app (goodIn_of _ (by decide +kernel)) ggX8_setCaptureMargin_X8_within
theorem dX8_setCaptureMargin_0 : decode cX8_setCaptureMargin 0 = .ok (.iload_n 1, 1) := by decide +kernel
theorem dX8_setCaptureMargin_1 : decode cX8_setCaptureMargin 1 = .ok (.iconst 1, 1) := by decide +kernel
theorem dX8_setCaptureMargin_2 : decode cX8_setCaptureMargin 2 = .ok (.bipush 9, 2) := by decide +kernel
theorem dX8_setCaptureMargin_4 : decode cX8_setCaptureMargin 4 = .ok (.invokestatic 102, 3) := by decide +kernel
theorem dX8_setCaptureMargin_7 : decode cX8_setCaptureMargin 7 = .ok (.ifCond .ne 7, 3) := by decide +kernel
theorem dX8_setCaptureMargin_10 : decode cX8_setCaptureMargin 10 = .ok (.sipush (-1002), 3) := by decide +kernel
theorem dX8_setCaptureMargin_13 : decode cX8_setCaptureMargin 13 = .ok (.ireturn, 1) := by decide +kernel
theorem dX8_setCaptureMargin_14 : decode cX8_setCaptureMargin 14 = .ok (.aload_n 0, 1) := by decide +kernel
theorem dX8_setCaptureMargin_15 : decode cX8_setCaptureMargin 15 = .ok (.getfield 48, 3) := by decide +kernel
theorem dX8_setCaptureMargin_18 : decode cX8_setCaptureMargin 18 = .ok (.istore_n 2, 1) := by decide +kernel
theorem dX8_setCaptureMargin_19 : decode cX8_setCaptureMargin 19 = .ok (.aload_n 0, 1) := by decide +kernel
theorem dX8_setCaptureMargin_20 : decode cX8_setCaptureMargin 20 = .ok (.iload_n 1, 1) := by decide +kernel
theorem dX8_setCaptureMargin_21 : decode cX8_setCaptureMargin 21 = .ok (.putfield 48, 3) := by decide +kernel
theorem dX8_setCaptureMargin_24 : decode cX8_setCaptureMargin 24 = .ok (.iload_n 2, 1) := by decide +kernel
theorem dX8_setCaptureMargin_25 : decode cX8_setCaptureMargin 25 = .ok (.ireturn, 1) := by decide +kernel
set_option maxRecDepth 20000 in
theorem ggX8_setSlotLimit_X8_within : GoodIn wsX8_setSlotLimit wsX8_within := goodIn_r _ [5] (by decide +kernel) (by decide +kernel)
set_option maxRecDepth 20000 in
theorem gX8_setSlotLimit_X8_within : GoodIn wsX8_setSlotLimit (va_wsS RX8 102 yX8_within wsX8_within) := goodIn_app (goodIn_of _ (by decide +kernel)) ggX8_setSlotLimit_X8_within
theorem dX8_setSlotLimit_0 : decode cX8_setSlotLimit 0 = .ok (.iload_n 1, 1) := by decide +kernel
theorem dX8_setSlotLimit_1 : decode cX8_setSlotLimit 1 = .ok (.iconst 0, 1) := by decide +kernel
theorem dX8_setSlotLimit_2 : decode cX8_setSlotLimit 2 = .ok (.bipush 6, 2) := by decide +kernel
theorem dX8_setSlotLimit_4 : decode cX8_setSlotLimit 4 = .ok (.invokestatic 102, 3) := by decide +kernel
theorem dX8_setSlotLimit_7 : decode cX8_setSlotLimit 7 = .ok (.ifCond .ne 7, 3) := by decide +kernel
theorem dX8_setSlotLimit_10 : decode cX8_setSlotLimit 10 = .ok (.sipush (-1002), 3) := by decide +kernel
theorem dX8_setSlotLimit_13 : decode cX8_setSlotLimit 13 = .ok (.ireturn, 1) := by decide +kernel
theorem dX8_setSlotLimit_14 : decode cX8_setSlotLimit 14 = .ok (.aload_n 0, 1) := by decide +kernel
theorem dX8_setSlotLimit_15 : decode cX8_setSlotLimit 15 = .ok (.getfield 51, 3) := by decide +kernel
theorem dX8_setSlotLimit_18 : decode cX8_setSlotLimit 18 = .ok (.istore_n 2, 1) := by decide +kernel
theorem dX8_setSlotLimit_19 : decode cX8_setSlotLimit 19 = .ok (.aload_n 0, 1) := by decide +kernel
theorem dX8_setSlotLimit_20 : decode cX8_setSlotLimit 20 = .ok (.iload_n 1, 1) := by decide +kernel
theorem dX8_setSlotLimit_21 : decode cX8_setSlotLimit 21 = .ok (.putfield 51, 3) := by decide +kernel
theorem dX8_setSlotLimit_24 : decode cX8_setSlotLimit 24 = .ok (.iload_n 2, 1) := by decide +kernel
theorem dX8_setSlotLimit_25 : decode cX8_setSlotLimit 25 = .ok (.ireturn, 1) := by decide +kernel
set_option maxRecDepth 20000 in
theorem ggX8_setTakeoverLimit_X8_within : GoodIn wsX8_setTakeoverLimit wsX8_within := goodIn_r _ [5] (by decide +kernel) (by decide +kernel)
set_option maxRecDepth 20000 in
theorem gX8_setTakeoverLimit_X8_within : GoodIn wsX8_setTakeoverLimit (va_wsS RX8 102 yX8_within wsX8_within) := goodIn_app (goodIn_of _ (by decide +kernel)) ggX8_setTakeoverLimit_X8_within
theorem dX8_setTakeoverLimit_0 : decode cX8_setTakeoverLimit 0 = .ok (.iload_n 1, 1) := by decide +kernel
theorem dX8_setTakeoverLimit_1 : decode cX8_setTakeoverLimit 1 = .ok (.iconst 1, 1) := by decide +kernel
theorem dX8_setTakeoverLimit_2 : decode cX8_setTakeoverLimit 2 = .ok (.bipush 9, 2) := by decide +kernel
theorem dX8_setTakeoverLimit_4 : decode cX8_setTakeoverLimit 4 = .ok (.invokestatic 102, 3) := by decide +kernel
theorem dX8_setTakeoverLimit_7 : decode cX8_setTakeoverLimit 7 = .ok (.ifCond .ne 7, 3) := by decide +kernel
theorem dX8_setTakeoverLimit_10 : decode cX8_setTakeoverLimit 10 = .ok (.sipush (-1002), 3) := by decide +kernel
theorem dX8_setTakeoverLimit_13 : decode cX8_setTakeoverLimit 13 = .ok (.ireturn, 1) := by decide +kernel
theorem dX8_setTakeoverLimit_14 : decode cX8_setTakeoverLimit 14 = .ok (.aload_n 0, 1) := by decide +kernel
theorem dX8_setTakeoverLimit_15 : decode cX8_setTakeoverLimit 15 = .ok (.getfield 54, 3) := by decide +kernel
theorem dX8_setTakeoverLimit_18 : decode cX8_setTakeoverLimit 18 = .ok (.istore_n 2, 1) := by decide +kernel
theorem dX8_setTakeoverLimit_19 : decode cX8_setTakeoverLimit 19 = .ok (.aload_n 0, 1) := by decide +kernel
theorem dX8_setTakeoverLimit_20 : decode cX8_setTakeoverLimit 20 = .ok (.iload_n 1, 1) := by decide +kernel
theorem dX8_setTakeoverLimit_21 : decode cX8_setTakeoverLimit 21 = .ok (.putfield 54, 3) := by decide +kernel
theorem dX8_setTakeoverLimit_24 : decode cX8_setTakeoverLimit 24 = .ok (.iload_n 2, 1) := by decide +kernel
theorem dX8_setTakeoverLimit_25 : decode cX8_setTakeoverLimit 25 = .ok (.ireturn, 1) := by decide +kernel
set_option maxRecDepth 20000 in
theorem ggX8_isNode_X8_within : GoodIn wsX8_isNode wsX8_within := goodIn_r _ [5] (by decide +kernel) (by decide +kernel)
set_option maxRecDepth 20000 in
theorem gX8_isNode_X8_within : GoodIn wsX8_isNode (va_wsS RX8 102 yX8_within wsX8_within) := goodIn_app (goodIn_of _ (by decide +kernel)) ggX8_isNode_X8_within
theorem dX8_isNode_0 : decode cX8_isNode 0 = .ok (.iload_n 1, 1) := by decide +kernel
theorem dX8_isNode_1 : decode cX8_isNode 1 = .ok (.iconst 0, 1) := by decide +kernel
theorem dX8_isNode_2 : decode cX8_isNode 2 = .ok (.aload_n 0, 1) := by decide +kernel
theorem dX8_isNode_3 : decode cX8_isNode 3 = .ok (.getfield 129, 3) := by decide +kernel
theorem dX8_isNode_6 : decode cX8_isNode 6 = .ok (.iconst 1, 1) := by decide +kernel
theorem dX8_isNode_7 : decode cX8_isNode 7 = .ok (.isub, 1) := by decide +kernel
theorem dX8_isNode_8 : decode cX8_isNode 8 = .ok (.invokestatic 102, 3) := by decide +kernel
theorem dX8_isNode_11 : decode cX8_isNode 11 = .ok (.ireturn, 1) := by decide +kernel
set_option maxRecDepth 20000 in
theorem ggX8_setAlive_X8_isNode : GoodIn wsX8_setAlive wsX8_isNode := goodIn_r _ [7, 8, 9, 10, 6, 11, 12, 13, 14, 15, 16, 17, 18, 19, 20, 21, 22, 23, 24, 25, 26, 27, 28, 29, 30, 31, 32, 33, 34, 35, 36, 37, 38, 39, 40, 41, 42, 43, 44, 45, 46, 47, 48, 49, 50, 51, 52, 53] (by decide +kernel) (by decide +kernel)
set_option maxRecDepth 20000 in
theorem gX8_setAlive_X8_isNode : GoodIn wsX8_setAlive (wsV RX8 147 RX8 yX8_isNode wsX8_isNode) := goodIn_app (goodIn_of _ (by decide +kernel)) ggX8_setAlive_X8_isNode
theorem dX8_setAlive_0 : decode cX8_setAlive 0 = .ok (.aload_n 0, 1) := by decide +kernel
theorem dX8_setAlive_1 : decode cX8_setAlive 1 = .ok (.iload_n 1, 1) := by decide +kernel
theorem dX8_setAlive_2 : decode cX8_setAlive 2 = .ok (.invokevirtual 147, 3) := by decide +kernel
theorem dX8_setAlive_5 : decode cX8_setAlive 5 = .ok (.ifCond .ne 7, 3) := by decide +kernel
theorem dX8_setAlive_8 : decode cX8_setAlive 8 = .ok (.sipush (-1001), 3) := by decide +kernel
theorem dX8_setAlive_11 : decode cX8_setAlive 11 = .ok (.ireturn, 1) := by decide +kernel
theorem dX8_setAlive_12 : decode cX8_setAlive 12 = .ok (.aload_n 0, 1) := by decide +kernel
theorem dX8_setAlive_13 : decode cX8_setAlive 13 = .ok (.getfield 25, 3) := by decide +kernel
theorem dX8_setAlive_16 : decode cX8_setAlive 16 = .ok (.iload_n 1, 1) := by decide +kernel
theorem dX8_setAlive_17 : decode cX8_setAlive 17 = .ok (.baload, 1) := by decide +kernel
theorem dX8_setAlive_18 : decode cX8_setAlive 18 = .ok (.istore_n 3, 1) := by decide +kernel
theorem dX8_setAlive_19 : decode cX8_setAlive 19 = .ok (.aload_n 0, 1) := by decide +kernel
theorem dX8_setAlive_20 : decode cX8_setAlive 20 = .ok (.getfield 38, 3) := by decide +kernel
theorem dX8_setAlive_23 : decode cX8_setAlive 23 = .ok (.iload_n 1, 1) := by decide +kernel
theorem dX8_setAlive_24 : decode cX8_setAlive 24 = .ok (.iload_n 3, 1) := by decide +kernel
theorem dX8_setAlive_25 : decode cX8_setAlive 25 = .ok (.iload_n 2, 1) := by decide +kernel
theorem dX8_setAlive_26 : decode cX8_setAlive 26 = .ok (.if_icmp .ne 12, 3) := by decide +kernel
theorem dX8_setAlive_29 : decode cX8_setAlive 29 = .ok (.aload_n 0, 1) := by decide +kernel
theorem dX8_setAlive_30 : decode cX8_setAlive 30 = .ok (.getfield 38, 3) := by decide +kernel
theorem dX8_setAlive_33 : decode cX8_setAlive 33 = .ok (.iload_n 1, 1) := by decide +kernel
theorem dX8_setAlive_34 : decode cX8_setAlive 34 = .ok (.iaload, 1) := by decide +kernel
theorem dX8_setAlive_35 : decode cX8_setAlive 35 = .ok (.goto 4, 3) := by decide +kernel
theorem dX8_setAlive_38 : decode cX8_setAlive 38 = .ok (.iconst 0, 1) := by decide +kernel
theorem dX8_setAlive_39 : decode cX8_setAlive 39 = .ok (.iastore, 1) := by decide +kernel
theorem dX8_setAlive_40 : decode cX8_setAlive 40 = .ok (.aload_n 0, 1) := by decide +kernel
theorem dX8_setAlive_41 : decode cX8_setAlive 41 = .ok (.getfield 25, 3) := by decide +kernel
theorem dX8_setAlive_44 : decode cX8_setAlive 44 = .ok (.iload_n 1, 1) := by decide +kernel
theorem dX8_setAlive_45 : decode cX8_setAlive 45 = .ok (.iload_n 2, 1) := by decide +kernel
theorem dX8_setAlive_46 : decode cX8_setAlive 46 = .ok (.bastore, 1) := by decide +kernel
theorem dX8_setAlive_47 : decode cX8_setAlive 47 = .ok (.iload_n 3, 1) := by decide +kernel
theorem dX8_setAlive_48 : decode cX8_setAlive 48 = .ok (.ifCond .eq 7, 3) := by decide +kernel
theorem dX8_setAlive_51 : decode cX8_setAlive 51 = .ok (.iconst 1, 1) := by decide +kernel
theorem dX8_setAlive_52 : decode cX8_setAlive 52 = .ok (.goto 4, 3) := by decide +kernel
theorem dX8_setAlive_55 : decode cX8_setAlive 55 = .ok (.iconst 0, 1) := by decide +kernel
theorem dX8_setAlive_56 : decode cX8_setAlive 56 = .ok (.ireturn, 1) := by decide +kernel
theorem dX8_forgetFlood_0 : decode cX8_forgetFlood 0 = .ok (.iconst 0, 1) := by decide +kernel
theorem dX8_forgetFlood_1 : decode cX8_forgetFlood 1 = .ok (.istore_n 1, 1) := by decide +kernel
theorem dX8_forgetFlood_2 : decode cX8_forgetFlood 2 = .ok (.iload_n 1, 1) := by decide +kernel
theorem dX8_forgetFlood_3 : decode cX8_forgetFlood 3 = .ok (.bipush 8, 2) := by decide +kernel
theorem dX8_forgetFlood_5 : decode cX8_forgetFlood 5 = .ok (.if_icmp .ge 24, 3) := by decide +kernel
theorem dX8_forgetFlood_8 : decode cX8_forgetFlood 8 = .ok (.aload_n 0, 1) := by decide +kernel
theorem dX8_forgetFlood_9 : decode cX8_forgetFlood 9 = .ok (.getfield 29, 3) := by decide +kernel
theorem dX8_forgetFlood_12 : decode cX8_forgetFlood 12 = .ok (.iload_n 1, 1) := by decide +kernel
theorem dX8_forgetFlood_13 : decode cX8_forgetFlood 13 = .ok (.iconst (-1), 1) := by decide +kernel
theorem dX8_forgetFlood_14 : decode cX8_forgetFlood 14 = .ok (.iastore, 1) := by decide +kernel
theorem dX8_forgetFlood_15 : decode cX8_forgetFlood 15 = .ok (.aload_n 0, 1) := by decide +kernel
theorem dX8_forgetFlood_16 : decode cX8_forgetFlood 16 = .ok (.getfield 32, 3) := by decide +kernel
theorem dX8_forgetFlood_19 : decode cX8_forgetFlood 19 = .ok (.iload_n 1, 1) := by decide +kernel
theorem dX8_forgetFlood_20 : decode cX8_forgetFlood 20 = .ok (.bipush (-2), 2) := by decide +kernel
theorem dX8_forgetFlood_22 : decode cX8_forgetFlood 22 = .ok (.iastore, 1) := by decide +kernel
theorem dX8_forgetFlood_23 : decode cX8_forgetFlood 23 = .ok (.iinc 1 1, 3) := by decide +kernel
theorem dX8_forgetFlood_26 : decode cX8_forgetFlood 26 = .ok (.goto (-24), 3) := by decide +kernel
theorem dX8_forgetFlood_29 : decode cX8_forgetFlood 29 = .ok (.aload_n 0, 1) := by decide +kernel
theorem dX8_forgetFlood_30 : decode cX8_forgetFlood 30 = .ok (.iconst 0, 1) := by decide +kernel
theorem dX8_forgetFlood_31 : decode cX8_forgetFlood 31 = .ok (.putfield 151, 3) := by decide +kernel
theorem dX8_forgetFlood_34 : decode cX8_forgetFlood 34 = .ok (.return_, 1) := by decide +kernel
theorem dX8_transmits_0 : decode cX8_transmits 0 = .ok (.iload_n 2, 1) := by decide +kernel
theorem dX8_transmits_1 : decode cX8_transmits 1 = .ok (.aload_n 0, 1) := by decide +kernel
theorem dX8_transmits_2 : decode cX8_transmits 2 = .ok (.getfield 32, 3) := by decide +kernel
theorem dX8_transmits_5 : decode cX8_transmits 5 = .ok (.iload_n 1, 1) := by decide +kernel
theorem dX8_transmits_6 : decode cX8_transmits 6 = .ok (.iaload, 1) := by decide +kernel
theorem dX8_transmits_7 : decode cX8_transmits 7 = .ok (.isub, 1) := by decide +kernel
theorem dX8_transmits_8 : decode cX8_transmits 8 = .ok (.iconst 1, 1) := by decide +kernel
theorem dX8_transmits_9 : decode cX8_transmits 9 = .ok (.isub, 1) := by decide +kernel
theorem dX8_transmits_10 : decode cX8_transmits 10 = .ok (.istore_n 3, 1) := by decide +kernel
theorem dX8_transmits_11 : decode cX8_transmits 11 = .ok (.aload_n 0, 1) := by decide +kernel
theorem dX8_transmits_12 : decode cX8_transmits 12 = .ok (.getfield 32, 3) := by decide +kernel
theorem dX8_transmits_15 : decode cX8_transmits 15 = .ok (.iload_n 1, 1) := by decide +kernel
theorem dX8_transmits_16 : decode cX8_transmits 16 = .ok (.iaload, 1) := by decide +kernel
theorem dX8_transmits_17 : decode cX8_transmits 17 = .ok (.bipush (-2), 2) := by decide +kernel
theorem dX8_transmits_19 : decode cX8_transmits 19 = .ok (.if_icmp .eq 27, 3) := by decide +kernel
theorem dX8_transmits_22 : decode cX8_transmits 22 = .ok (.iload_n 3, 1) := by decide +kernel
theorem dX8_transmits_23 : decode cX8_transmits 23 = .ok (.ifCond .lt 23, 3) := by decide +kernel
theorem dX8_transmits_26 : decode cX8_transmits 26 = .ok (.iload_n 3, 1) := by decide +kernel
theorem dX8_transmits_27 : decode cX8_transmits 27 = .ok (.iconst 2, 1) := by decide +kernel
theorem dX8_transmits_28 : decode cX8_transmits 28 = .ok (.irem, 1) := by decide +kernel
theorem dX8_transmits_29 : decode cX8_transmits 29 = .ok (.ifCond .ne 17, 3) := by decide +kernel
theorem dX8_transmits_32 : decode cX8_transmits 32 = .ok (.iload_n 3, 1) := by decide +kernel
theorem dX8_transmits_33 : decode cX8_transmits 33 = .ok (.iconst 2, 1) := by decide +kernel
theorem dX8_transmits_34 : decode cX8_transmits 34 = .ok (.idiv, 1) := by decide +kernel
theorem dX8_transmits_35 : decode cX8_transmits 35 = .ok (.aload_n 0, 1) := by decide +kernel
theorem dX8_transmits_36 : decode cX8_transmits 36 = .ok (.getfield 45, 3) := by decide +kernel
theorem dX8_transmits_39 : decode cX8_transmits 39 = .ok (.if_icmp .ge 7, 3) := by decide +kernel
theorem dX8_transmits_42 : decode cX8_transmits 42 = .ok (.iconst 1, 1) := by decide +kernel
theorem dX8_transmits_43 : decode cX8_transmits 43 = .ok (.goto 4, 3) := by decide +kernel
theorem dX8_transmits_46 : decode cX8_transmits 46 = .ok (.iconst 0, 1) := by decide +kernel
theorem dX8_transmits_47 : decode cX8_transmits 47 = .ok (.ireturn, 1) := by decide +kernel
theorem dX8_lastSlot_0 : decode cX8_lastSlot 0 = .ok (.iconst (-1), 1) := by decide +kernel
theorem dX8_lastSlot_1 : decode cX8_lastSlot 1 = .ok (.istore_n 1, 1) := by decide +kernel
theorem dX8_lastSlot_2 : decode cX8_lastSlot 2 = .ok (.iconst 0, 1) := by decide +kernel
theorem dX8_lastSlot_3 : decode cX8_lastSlot 3 = .ok (.istore_n 2, 1) := by decide +kernel
theorem dX8_lastSlot_4 : decode cX8_lastSlot 4 = .ok (.iload_n 2, 1) := by decide +kernel
theorem dX8_lastSlot_5 : decode cX8_lastSlot 5 = .ok (.aload_n 0, 1) := by decide +kernel
theorem dX8_lastSlot_6 : decode cX8_lastSlot 6 = .ok (.getfield 129, 3) := by decide +kernel
theorem dX8_lastSlot_9 : decode cX8_lastSlot 9 = .ok (.if_icmp .ge 51, 3) := by decide +kernel
theorem dX8_lastSlot_12 : decode cX8_lastSlot 12 = .ok (.aload_n 0, 1) := by decide +kernel
theorem dX8_lastSlot_13 : decode cX8_lastSlot 13 = .ok (.getfield 32, 3) := by decide +kernel
theorem dX8_lastSlot_16 : decode cX8_lastSlot 16 = .ok (.iload_n 2, 1) := by decide +kernel
theorem dX8_lastSlot_17 : decode cX8_lastSlot 17 = .ok (.iaload, 1) := by decide +kernel
theorem dX8_lastSlot_18 : decode cX8_lastSlot 18 = .ok (.bipush (-2), 2) := by decide +kernel
theorem dX8_lastSlot_20 : decode cX8_lastSlot 20 = .ok (.if_icmp .ne 7, 3) := by decide +kernel
theorem dX8_lastSlot_23 : decode cX8_lastSlot 23 = .ok (.iconst (-1), 1) := by decide +kernel
theorem dX8_lastSlot_24 : decode cX8_lastSlot 24 = .ok (.goto 18, 3) := by decide +kernel
theorem dX8_lastSlot_27 : decode cX8_lastSlot 27 = .ok (.aload_n 0, 1) := by decide +kernel
theorem dX8_lastSlot_28 : decode cX8_lastSlot 28 = .ok (.getfield 32, 3) := by decide +kernel
theorem dX8_lastSlot_31 : decode cX8_lastSlot 31 = .ok (.iload_n 2, 1) := by decide +kernel
theorem dX8_lastSlot_32 : decode cX8_lastSlot 32 = .ok (.iaload, 1) := by decide +kernel
theorem dX8_lastSlot_33 : decode cX8_lastSlot 33 = .ok (.iconst 2, 1) := by decide +kernel
theorem dX8_lastSlot_34 : decode cX8_lastSlot 34 = .ok (.aload_n 0, 1) := by decide +kernel
theorem dX8_lastSlot_35 : decode cX8_lastSlot 35 = .ok (.getfield 45, 3) := by decide +kernel
theorem dX8_lastSlot_38 : decode cX8_lastSlot 38 = .ok (.imul, 1) := by decide +kernel
theorem dX8_lastSlot_39 : decode cX8_lastSlot 39 = .ok (.iadd, 1) := by decide +kernel
theorem dX8_lastSlot_40 : decode cX8_lastSlot 40 = .ok (.iconst 1, 1) := by decide +kernel
theorem dX8_lastSlot_41 : decode cX8_lastSlot 41 = .ok (.isub, 1) := by decide +kernel
theorem dX8_lastSlot_42 : decode cX8_lastSlot 42 = .ok (.istore_n 3, 1) := by decide +kernel
theorem dX8_lastSlot_43 : decode cX8_lastSlot 43 = .ok (.iload_n 3, 1) := by decide +kernel
theorem dX8_lastSlot_44 : decode cX8_lastSlot 44 = .ok (.iload_n 1, 1) := by decide +kernel
theorem dX8_lastSlot_45 : decode cX8_lastSlot 45 = .ok (.if_icmp .le 7, 3) := by decide +kernel
theorem dX8_lastSlot_48 : decode cX8_lastSlot 48 = .ok (.iload_n 3, 1) := by decide +kernel
theorem dX8_lastSlot_49 : decode cX8_lastSlot 49 = .ok (.goto 4, 3) := by decide +kernel
theorem dX8_lastSlot_52 : decode cX8_lastSlot 52 = .ok (.iload_n 1, 1) := by decide +kernel
theorem dX8_lastSlot_53 : decode cX8_lastSlot 53 = .ok (.istore_n 1, 1) := by decide +kernel
theorem dX8_lastSlot_54 : decode cX8_lastSlot 54 = .ok (.iinc 2 1, 3) := by decide +kernel
theorem dX8_lastSlot_57 : decode cX8_lastSlot 57 = .ok (.goto (-53), 3) := by decide +kernel
theorem dX8_lastSlot_60 : decode cX8_lastSlot 60 = .ok (.iload_n 1, 1) := by decide +kernel
theorem dX8_lastSlot_61 : decode cX8_lastSlot 61 = .ok (.ireturn, 1) := by decide +kernel
set_option maxRecDepth 20000 in
theorem ggX8_heard_X8_transmits : GoodIn wsX8_heard wsX8_transmits := goodIn_r _ [13, 14, 15, 16, 17, 18, 19, 20, 21, 22, 23, 24, 25, 26, 27, 28, 29, 30, 31, 32, 33, 34, 35, 36, 37, 38, 39, 40, 41, 42, 43, 44, 45, 46, 47, 48, 49, 50, 51, 52, 53, 54, 55, 56, 57] (by decide +kernel) (by decide +kernel)
set_option maxRecDepth 20000 in
theorem gX8_heard_X8_transmits : GoodIn wsX8_heard (wsV RX8 154 RX8 yX8_transmits wsX8_transmits) := goodIn_app (goodIn_of _ (by decide +kernel)) ggX8_heard_X8_transmits
theorem dX8_heard_0 : decode cX8_heard 0 = .ok (.iconst 0, 1) := by decide +kernel
theorem dX8_heard_1 : decode cX8_heard 1 = .ok (.istore_n 3, 1) := by decide +kernel
theorem dX8_heard_2 : decode cX8_heard 2 = .ok (.iload_n 3, 1) := by decide +kernel
theorem dX8_heard_3 : decode cX8_heard 3 = .ok (.bipush 8, 2) := by decide +kernel
theorem dX8_heard_5 : decode cX8_heard 5 = .ok (.if_icmp .ge 16, 3) := by decide +kernel
theorem dX8_heard_8 : decode cX8_heard 8 = .ok (.aload_n 0, 1) := by decide +kernel
theorem dX8_heard_9 : decode cX8_heard 9 = .ok (.getfield 93, 3) := by decide +kernel
theorem dX8_heard_12 : decode cX8_heard 12 = .ok (.iload_n 3, 1) := by decide +kernel
theorem dX8_heard_13 : decode cX8_heard 13 = .ok (.iconst 0, 1) := by decide +kernel
theorem dX8_heard_14 : decode cX8_heard 14 = .ok (.iastore, 1) := by decide +kernel
theorem dX8_heard_15 : decode cX8_heard 15 = .ok (.iinc 3 1, 3) := by decide +kernel
theorem dX8_heard_18 : decode cX8_heard 18 = .ok (.goto (-16), 3) := by decide +kernel
theorem dX8_heard_21 : decode cX8_heard 21 = .ok (.iconst 0, 1) := by decide +kernel
theorem dX8_heard_22 : decode cX8_heard 22 = .ok (.istore_n 3, 1) := by decide +kernel
theorem dX8_heard_23 : decode cX8_heard 23 = .ok (.iload_n 3, 1) := by decide +kernel
theorem dX8_heard_24 : decode cX8_heard 24 = .ok (.aload_n 0, 1) := by decide +kernel
theorem dX8_heard_25 : decode cX8_heard 25 = .ok (.getfield 132, 3) := by decide +kernel
theorem dX8_heard_28 : decode cX8_heard 28 = .ok (.if_icmp .ge 148, 3) := by decide +kernel
theorem dX8_heard_31 : decode cX8_heard 31 = .ok (.aload_n 0, 1) := by decide +kernel
theorem dX8_heard_32 : decode cX8_heard 32 = .ok (.getfield 13, 3) := by decide +kernel
theorem dX8_heard_35 : decode cX8_heard 35 = .ok (.iload_n 3, 1) := by decide +kernel
theorem dX8_heard_36 : decode cX8_heard 36 = .ok (.iaload, 1) := by decide +kernel
theorem dX8_heard_37 : decode cX8_heard 37 = .ok (.iload_n 1, 1) := by decide +kernel
theorem dX8_heard_38 : decode cX8_heard 38 = .ok (.if_icmp .ne 12, 3) := by decide +kernel
theorem dX8_heard_41 : decode cX8_heard 41 = .ok (.aload_n 0, 1) := by decide +kernel
theorem dX8_heard_42 : decode cX8_heard 42 = .ok (.getfield 16, 3) := by decide +kernel
theorem dX8_heard_45 : decode cX8_heard 45 = .ok (.iload_n 3, 1) := by decide +kernel
theorem dX8_heard_46 : decode cX8_heard 46 = .ok (.iaload, 1) := by decide +kernel
theorem dX8_heard_47 : decode cX8_heard 47 = .ok (.goto 23, 3) := by decide +kernel
theorem dX8_heard_50 : decode cX8_heard 50 = .ok (.aload_n 0, 1) := by decide +kernel
theorem dX8_heard_51 : decode cX8_heard 51 = .ok (.getfield 16, 3) := by decide +kernel
theorem dX8_heard_54 : decode cX8_heard 54 = .ok (.iload_n 3, 1) := by decide +kernel
theorem dX8_heard_55 : decode cX8_heard 55 = .ok (.iaload, 1) := by decide +kernel
theorem dX8_heard_56 : decode cX8_heard 56 = .ok (.iload_n 1, 1) := by decide +kernel
theorem dX8_heard_57 : decode cX8_heard 57 = .ok (.if_icmp .ne 12, 3) := by decide +kernel
theorem dX8_heard_60 : decode cX8_heard 60 = .ok (.aload_n 0, 1) := by decide +kernel
theorem dX8_heard_61 : decode cX8_heard 61 = .ok (.getfield 13, 3) := by decide +kernel
theorem dX8_heard_64 : decode cX8_heard 64 = .ok (.iload_n 3, 1) := by decide +kernel
theorem dX8_heard_65 : decode cX8_heard 65 = .ok (.iaload, 1) := by decide +kernel
theorem dX8_heard_66 : decode cX8_heard 66 = .ok (.goto 4, 3) := by decide +kernel
theorem dX8_heard_69 : decode cX8_heard 69 = .ok (.iconst (-1), 1) := by decide +kernel
theorem dX8_heard_70 : decode cX8_heard 70 = .ok (.istore 4, 2) := by decide +kernel
theorem dX8_heard_72 : decode cX8_heard 72 = .ok (.aload_n 0, 1) := by decide +kernel
theorem dX8_heard_73 : decode cX8_heard 73 = .ok (.getfield 22, 3) := by decide +kernel
theorem dX8_heard_76 : decode cX8_heard 76 = .ok (.iload_n 3, 1) := by decide +kernel
theorem dX8_heard_77 : decode cX8_heard 77 = .ok (.iaload, 1) := by decide +kernel
theorem dX8_heard_78 : decode cX8_heard 78 = .ok (.ifCond .le 20, 3) := by decide +kernel
theorem dX8_heard_81 : decode cX8_heard 81 = .ok (.iload_n 2, 1) := by decide +kernel
theorem dX8_heard_82 : decode cX8_heard 82 = .ok (.iconst 1, 1) := by decide +kernel
theorem dX8_heard_83 : decode cX8_heard 83 = .ok (.iadd, 1) := by decide +kernel
theorem dX8_heard_84 : decode cX8_heard 84 = .ok (.aload_n 0, 1) := by decide +kernel
theorem dX8_heard_85 : decode cX8_heard 85 = .ok (.getfield 22, 3) := by decide +kernel
theorem dX8_heard_88 : decode cX8_heard 88 = .ok (.iload_n 3, 1) := by decide +kernel
theorem dX8_heard_89 : decode cX8_heard 89 = .ok (.iaload, 1) := by decide +kernel
theorem dX8_heard_90 : decode cX8_heard 90 = .ok (.irem, 1) := by decide +kernel
theorem dX8_heard_91 : decode cX8_heard 91 = .ok (.ifCond .ne 7, 3) := by decide +kernel
theorem dX8_heard_94 : decode cX8_heard 94 = .ok (.iconst 1, 1) := by decide +kernel
theorem dX8_heard_95 : decode cX8_heard 95 = .ok (.goto 4, 3) := by decide +kernel
theorem dX8_heard_98 : decode cX8_heard 98 = .ok (.iconst 0, 1) := by decide +kernel
theorem dX8_heard_99 : decode cX8_heard 99 = .ok (.istore 5, 2) := by decide +kernel
theorem dX8_heard_101 : decode cX8_heard 101 = .ok (.iload 4, 2) := by decide +kernel
theorem dX8_heard_103 : decode cX8_heard 103 = .ok (.iconst (-1), 1) := by decide +kernel
theorem dX8_heard_104 : decode cX8_heard 104 = .ok (.if_icmp .eq 66, 3) := by decide +kernel
theorem dX8_heard_107 : decode cX8_heard 107 = .ok (.iload 5, 2) := by decide +kernel
theorem dX8_heard_109 : decode cX8_heard 109 = .ok (.ifCond .ne 61, 3) := by decide +kernel
theorem dX8_heard_112 : decode cX8_heard 112 = .ok (.aload_n 0, 1) := by decide +kernel
theorem dX8_heard_113 : decode cX8_heard 113 = .ok (.iload 4, 2) := by decide +kernel
theorem dX8_heard_115 : decode cX8_heard 115 = .ok (.iload_n 2, 1) := by decide +kernel
theorem dX8_heard_116 : decode cX8_heard 116 = .ok (.invokevirtual 154, 3) := by decide +kernel
theorem dX8_heard_119 : decode cX8_heard 119 = .ok (.ifCond .eq 51, 3) := by decide +kernel
theorem dX8_heard_122 : decode cX8_heard 122 = .ok (.aload_n 0, 1) := by decide +kernel
theorem dX8_heard_123 : decode cX8_heard 123 = .ok (.getfield 29, 3) := by decide +kernel
theorem dX8_heard_126 : decode cX8_heard 126 = .ok (.iload 4, 2) := by decide +kernel
theorem dX8_heard_128 : decode cX8_heard 128 = .ok (.iaload, 1) := by decide +kernel
theorem dX8_heard_129 : decode cX8_heard 129 = .ok (.istore 6, 2) := by decide +kernel
theorem dX8_heard_131 : decode cX8_heard 131 = .ok (.aload_n 0, 1) := by decide +kernel
theorem dX8_heard_132 : decode cX8_heard 132 = .ok (.getfield 93, 3) := by decide +kernel
theorem dX8_heard_135 : decode cX8_heard 135 = .ok (.iload 6, 2) := by decide +kernel
theorem dX8_heard_137 : decode cX8_heard 137 = .ok (.aload_n 0, 1) := by decide +kernel
theorem dX8_heard_138 : decode cX8_heard 138 = .ok (.getfield 19, 3) := by decide +kernel
theorem dX8_heard_141 : decode cX8_heard 141 = .ok (.iload_n 3, 1) := by decide +kernel
theorem dX8_heard_142 : decode cX8_heard 142 = .ok (.iaload, 1) := by decide +kernel
theorem dX8_heard_143 : decode cX8_heard 143 = .ok (.aload_n 0, 1) := by decide +kernel
theorem dX8_heard_144 : decode cX8_heard 144 = .ok (.getfield 93, 3) := by decide +kernel
theorem dX8_heard_147 : decode cX8_heard 147 = .ok (.iload 6, 2) := by decide +kernel
theorem dX8_heard_149 : decode cX8_heard 149 = .ok (.iaload, 1) := by decide +kernel
theorem dX8_heard_150 : decode cX8_heard 150 = .ok (.if_icmp .le 12, 3) := by decide +kernel
theorem dX8_heard_153 : decode cX8_heard 153 = .ok (.aload_n 0, 1) := by decide +kernel
theorem dX8_heard_154 : decode cX8_heard 154 = .ok (.getfield 19, 3) := by decide +kernel
theorem dX8_heard_157 : decode cX8_heard 157 = .ok (.iload_n 3, 1) := by decide +kernel
theorem dX8_heard_158 : decode cX8_heard 158 = .ok (.iaload, 1) := by decide +kernel
theorem dX8_heard_159 : decode cX8_heard 159 = .ok (.goto 10, 3) := by decide +kernel
theorem dX8_heard_162 : decode cX8_heard 162 = .ok (.aload_n 0, 1) := by decide +kernel
theorem dX8_heard_163 : decode cX8_heard 163 = .ok (.getfield 93, 3) := by decide +kernel
theorem dX8_heard_166 : decode cX8_heard 166 = .ok (.iload 6, 2) := by decide +kernel
theorem dX8_heard_168 : decode cX8_heard 168 = .ok (.iaload, 1) := by decide +kernel
theorem dX8_heard_169 : decode cX8_heard 169 = .ok (.iastore, 1) := by decide +kernel
theorem dX8_heard_170 : decode cX8_heard 170 = .ok (.iinc 3 1, 3) := by decide +kernel
theorem dX8_heard_173 : decode cX8_heard 173 = .ok (.goto (-150), 3) := by decide +kernel
theorem dX8_heard_176 : decode cX8_heard 176 = .ok (.iconst (-1), 1) := by decide +kernel
theorem dX8_heard_177 : decode cX8_heard 177 = .ok (.istore_n 3, 1) := by decide +kernel
theorem dX8_heard_178 : decode cX8_heard 178 = .ok (.iconst 0, 1) := by decide +kernel
theorem dX8_heard_179 : decode cX8_heard 179 = .ok (.istore 4, 2) := by decide +kernel
theorem dX8_heard_181 : decode cX8_heard 181 = .ok (.iconst 0, 1) := by decide +kernel
theorem dX8_heard_182 : decode cX8_heard 182 = .ok (.istore 5, 2) := by decide +kernel
theorem dX8_heard_184 : decode cX8_heard 184 = .ok (.iconst 0, 1) := by decide +kernel
theorem dX8_heard_185 : decode cX8_heard 185 = .ok (.istore 6, 2) := by decide +kernel
theorem dX8_heard_187 : decode cX8_heard 187 = .ok (.iload 6, 2) := by decide +kernel
theorem dX8_heard_189 : decode cX8_heard 189 = .ok (.bipush 8, 2) := by decide +kernel
theorem dX8_heard_191 : decode cX8_heard 191 = .ok (.if_icmp .ge 66, 3) := by decide +kernel
theorem dX8_heard_194 : decode cX8_heard 194 = .ok (.aload_n 0, 1) := by decide +kernel
theorem dX8_heard_195 : decode cX8_heard 195 = .ok (.getfield 93, 3) := by decide +kernel
theorem dX8_heard_198 : decode cX8_heard 198 = .ok (.iload 6, 2) := by decide +kernel
theorem dX8_heard_200 : decode cX8_heard 200 = .ok (.iaload, 1) := by decide +kernel
theorem dX8_heard_201 : decode cX8_heard 201 = .ok (.iload 4, 2) := by decide +kernel
theorem dX8_heard_203 : decode cX8_heard 203 = .ok (.if_icmp .le 22, 3) := by decide +kernel
theorem dX8_heard_206 : decode cX8_heard 206 = .ok (.iload 4, 2) := by decide +kernel
theorem dX8_heard_208 : decode cX8_heard 208 = .ok (.istore 5, 2) := by decide +kernel
theorem dX8_heard_210 : decode cX8_heard 210 = .ok (.aload_n 0, 1) := by decide +kernel
theorem dX8_heard_211 : decode cX8_heard 211 = .ok (.getfield 93, 3) := by decide +kernel
theorem dX8_heard_214 : decode cX8_heard 214 = .ok (.iload 6, 2) := by decide +kernel
theorem dX8_heard_216 : decode cX8_heard 216 = .ok (.iaload, 1) := by decide +kernel
theorem dX8_heard_217 : decode cX8_heard 217 = .ok (.istore 4, 2) := by decide +kernel
theorem dX8_heard_219 : decode cX8_heard 219 = .ok (.iload 6, 2) := by decide +kernel
theorem dX8_heard_221 : decode cX8_heard 221 = .ok (.istore_n 3, 1) := by decide +kernel
theorem dX8_heard_222 : decode cX8_heard 222 = .ok (.goto 29, 3) := by decide +kernel
theorem dX8_heard_225 : decode cX8_heard 225 = .ok (.aload_n 0, 1) := by decide +kernel
theorem dX8_heard_226 : decode cX8_heard 226 = .ok (.getfield 93, 3) := by decide +kernel
theorem dX8_heard_229 : decode cX8_heard 229 = .ok (.iload 6, 2) := by decide +kernel
theorem dX8_heard_231 : decode cX8_heard 231 = .ok (.iaload, 1) := by decide +kernel
theorem dX8_heard_232 : decode cX8_heard 232 = .ok (.iload 5, 2) := by decide +kernel
theorem dX8_heard_234 : decode cX8_heard 234 = .ok (.if_icmp .le 13, 3) := by decide +kernel
theorem dX8_heard_237 : decode cX8_heard 237 = .ok (.aload_n 0, 1) := by decide +kernel
theorem dX8_heard_238 : decode cX8_heard 238 = .ok (.getfield 93, 3) := by decide +kernel
theorem dX8_heard_241 : decode cX8_heard 241 = .ok (.iload 6, 2) := by decide +kernel
theorem dX8_heard_243 : decode cX8_heard 243 = .ok (.iaload, 1) := by decide +kernel
theorem dX8_heard_244 : decode cX8_heard 244 = .ok (.goto 5, 3) := by decide +kernel
theorem dX8_heard_247 : decode cX8_heard 247 = .ok (.iload 5, 2) := by decide +kernel
theorem dX8_heard_249 : decode cX8_heard 249 = .ok (.istore 5, 2) := by decide +kernel
theorem dX8_heard_251 : decode cX8_heard 251 = .ok (.iinc 6 1, 3) := by decide +kernel
theorem dX8_heard_254 : decode cX8_heard 254 = .ok (.goto (-67), 3) := by decide +kernel
theorem dX8_heard_257 : decode cX8_heard 257 = .ok (.iload_n 3, 1) := by decide +kernel
theorem dX8_heard_258 : decode cX8_heard 258 = .ok (.iconst (-1), 1) := by decide +kernel
theorem dX8_heard_259 : decode cX8_heard 259 = .ok (.if_icmp .eq 24, 3) := by decide +kernel
theorem dX8_heard_262 : decode cX8_heard 262 = .ok (.iload 5, 2) := by decide +kernel
theorem dX8_heard_264 : decode cX8_heard 264 = .ok (.ifCond .eq 15, 3) := by decide +kernel
theorem dX8_heard_267 : decode cX8_heard 267 = .ok (.iload 4, 2) := by decide +kernel
theorem dX8_heard_269 : decode cX8_heard 269 = .ok (.iload 5, 2) := by decide +kernel
theorem dX8_heard_271 : decode cX8_heard 271 = .ok (.isub, 1) := by decide +kernel
theorem dX8_heard_272 : decode cX8_heard 272 = .ok (.aload_n 0, 1) := by decide +kernel
theorem dX8_heard_273 : decode cX8_heard 273 = .ok (.getfield 48, 3) := by decide +kernel
theorem dX8_heard_276 : decode cX8_heard 276 = .ok (.if_icmp .lt 7, 3) := by decide +kernel
theorem dX8_heard_279 : decode cX8_heard 279 = .ok (.iload_n 3, 1) := by decide +kernel
theorem dX8_heard_280 : decode cX8_heard 280 = .ok (.goto 4, 3) := by decide +kernel
theorem dX8_heard_283 : decode cX8_heard 283 = .ok (.iconst (-1), 1) := by decide +kernel
theorem dX8_heard_284 : decode cX8_heard 284 = .ok (.ireturn, 1) := by decide +kernel
set_option maxRecDepth 20000 in
theorem ggX8_floodNow_X8_forgetFlood : GoodIn wsX8_floodNow wsX8_forgetFlood := goodIn_r _ [12, 2, 3, 7, 37, 38, 39, 40, 41, 42, 43, 44, 45, 46, 47, 48, 49, 50, 51, 52, 53, 54, 55, 56, 57, 58, 59, 60, 61, 62, 63, 64, 65, 66, 67, 68, 69, 70, 71, 72, 73, 74, 75, 76, 77, 78] (by decide +kernel) (by decide +kernel)
set_option maxRecDepth 20000 in
theorem gX8_floodNow_X8_forgetFlood : GoodIn wsX8_floodNow (wsV RX8 135 RX8 yX8_forgetFlood wsX8_forgetFlood) := goodIn_app (goodIn_of _ (by decide +kernel)) ggX8_floodNow_X8_forgetFlood
set_option maxRecDepth 20000 in
theorem ggX8_floodNow_X8_lastSlot : GoodIn wsX8_floodNow wsX8_lastSlot := goodIn_r _ [16, 1, 3, 17, 37, 38, 39, 40, 41, 42, 43, 44, 45, 46, 47, 48, 49, 50, 51, 52, 53, 54, 55, 56, 57, 58, 59, 60, 61, 62, 63, 64, 65, 66, 67, 68, 69, 70, 71, 72, 73, 74, 75, 76, 77, 78] (by decide +kernel) (by decide +kernel)
set_option maxRecDepth 20000 in
theorem gX8_floodNow_X8_lastSlot : GoodIn wsX8_floodNow (wsV RX8 157 RX8 yX8_lastSlot wsX8_lastSlot) := goodIn_app (goodIn_of _ (by decide +kernel)) ggX8_floodNow_X8_lastSlot
set_option maxRecDepth 20000 in
theorem ggX8_floodNow_X8_heard : GoodIn wsX8_floodNow wsX8_heard := goodIn_r _ [21, 22, 23, 24, 25, 26, 2, 27, 28, 29, 30, 31, 11, 32, 3, 17, 37, 38, 39, 40, 41, 42, 43, 44, 45, 46, 47, 48, 49, 50, 51, 52, 53, 54, 55, 56, 57, 58, 59, 60, 61, 62, 63, 64, 65, 66, 67, 68, 69, 70, 71, 72, 73, 74, 75, 76, 77, 78] (by decide +kernel) (by decide +kernel)
set_option maxRecDepth 20000 in
theorem gX8_floodNow_X8_heard : GoodIn wsX8_floodNow (wsV RX8 161 RX8 yX8_heard wsX8_heard) := goodIn_app (goodIn_of _ (by decide +kernel)) ggX8_floodNow_X8_heard
set_option maxRecDepth 20000 in
theorem ggX8_floodNow_X8_transmits : GoodIn wsX8_floodNow wsX8_transmits := goodIn_r _ [32, 3, 17, 37, 38, 39, 40, 41, 42, 43, 44, 45, 46, 47, 48, 49, 50, 51, 52, 53, 54, 55, 56, 57, 58, 59, 60, 61, 62, 63, 64, 65, 66, 67, 68, 69, 70, 71, 72, 73, 74, 75, 76, 77, 78] (by decide +kernel) (by decide +kernel)
set_option maxRecDepth 20000 in
theorem gX8_floodNow_X8_transmits : GoodIn wsX8_floodNow (wsV RX8 154 RX8 yX8_transmits wsX8_transmits) := goodIn_app (goodIn_of _ (by decide +kernel)) ggX8_floodNow_X8_transmits
set_option maxRecDepth 20000 in
theorem ggX8_floodNow_X8_holders : GoodIn wsX8_floodNow wsX8_holders := goodIn_r _ [36, 1, 2, 37, 38, 39, 40, 41, 42, 43, 44, 45, 46, 47, 48, 49, 50, 51, 52, 53, 54, 55, 56, 57, 58, 59, 60, 61, 62, 63, 64, 65, 66, 67, 68, 69, 70, 71, 72, 73, 74, 75, 76, 77, 78] (by decide +kernel) (by decide +kernel)
set_option maxRecDepth 20000 in
theorem gX8_floodNow_X8_holders : GoodIn wsX8_floodNow (wsV RX8 165 RX8 yX8_holders wsX8_holders) := goodIn_app (goodIn_of _ (by decide +kernel)) ggX8_floodNow_X8_holders
theorem dX8_floodNow_0 : decode cX8_floodNow 0 = .ok (.aload_n 0, 1) := by decide +kernel
theorem dX8_floodNow_1 : decode cX8_floodNow 1 = .ok (.invokevirtual 135, 3) := by decide +kernel
theorem dX8_floodNow_4 : decode cX8_floodNow 4 = .ok (.iconst 0, 1) := by decide +kernel
theorem dX8_floodNow_5 : decode cX8_floodNow 5 = .ok (.istore_n 2, 1) := by decide +kernel
theorem dX8_floodNow_6 : decode cX8_floodNow 6 = .ok (.iload_n 2, 1) := by decide +kernel
theorem dX8_floodNow_7 : decode cX8_floodNow 7 = .ok (.aload_n 0, 1) := by decide +kernel
theorem dX8_floodNow_8 : decode cX8_floodNow 8 = .ok (.getfield 129, 3) := by decide +kernel
theorem dX8_floodNow_11 : decode cX8_floodNow 11 = .ok (.if_icmp .ge 32, 3) := by decide +kernel
theorem dX8_floodNow_14 : decode cX8_floodNow 14 = .ok (.iload_n 1, 1) := by decide +kernel
theorem dX8_floodNow_15 : decode cX8_floodNow 15 = .ok (.iload_n 2, 1) := by decide +kernel
theorem dX8_floodNow_16 : decode cX8_floodNow 16 = .ok (.ishr, 1) := by decide +kernel
theorem dX8_floodNow_17 : decode cX8_floodNow 17 = .ok (.iconst 1, 1) := by decide +kernel
theorem dX8_floodNow_18 : decode cX8_floodNow 18 = .ok (.iand, 1) := by decide +kernel
theorem dX8_floodNow_19 : decode cX8_floodNow 19 = .ok (.iconst 1, 1) := by decide +kernel
theorem dX8_floodNow_20 : decode cX8_floodNow 20 = .ok (.if_icmp .ne 17, 3) := by decide +kernel
theorem dX8_floodNow_23 : decode cX8_floodNow 23 = .ok (.aload_n 0, 1) := by decide +kernel
theorem dX8_floodNow_24 : decode cX8_floodNow 24 = .ok (.getfield 29, 3) := by decide +kernel
theorem dX8_floodNow_27 : decode cX8_floodNow 27 = .ok (.iload_n 2, 1) := by decide +kernel
theorem dX8_floodNow_28 : decode cX8_floodNow 28 = .ok (.iload_n 2, 1) := by decide +kernel
theorem dX8_floodNow_29 : decode cX8_floodNow 29 = .ok (.iastore, 1) := by decide +kernel
theorem dX8_floodNow_30 : decode cX8_floodNow 30 = .ok (.aload_n 0, 1) := by decide +kernel
theorem dX8_floodNow_31 : decode cX8_floodNow 31 = .ok (.getfield 32, 3) := by decide +kernel
theorem dX8_floodNow_34 : decode cX8_floodNow 34 = .ok (.iload_n 2, 1) := by decide +kernel
theorem dX8_floodNow_35 : decode cX8_floodNow 35 = .ok (.iconst (-1), 1) := by decide +kernel
theorem dX8_floodNow_36 : decode cX8_floodNow 36 = .ok (.iastore, 1) := by decide +kernel
theorem dX8_floodNow_37 : decode cX8_floodNow 37 = .ok (.iinc 2 1, 3) := by decide +kernel
theorem dX8_floodNow_40 : decode cX8_floodNow 40 = .ok (.goto (-34), 3) := by decide +kernel
theorem dX8_floodNow_43 : decode cX8_floodNow 43 = .ok (.iconst 0, 1) := by decide +kernel
theorem dX8_floodNow_44 : decode cX8_floodNow 44 = .ok (.istore_n 2, 1) := by decide +kernel
theorem dX8_floodNow_45 : decode cX8_floodNow 45 = .ok (.iload_n 2, 1) := by decide +kernel
theorem dX8_floodNow_46 : decode cX8_floodNow 46 = .ok (.aload_n 0, 1) := by decide +kernel
theorem dX8_floodNow_47 : decode cX8_floodNow 47 = .ok (.invokevirtual 157, 3) := by decide +kernel
theorem dX8_floodNow_50 : decode cX8_floodNow 50 = .ok (.if_icmp .gt 145, 3) := by decide +kernel
theorem dX8_floodNow_53 : decode cX8_floodNow 53 = .ok (.iconst 0, 1) := by decide +kernel
theorem dX8_floodNow_54 : decode cX8_floodNow 54 = .ok (.istore_n 3, 1) := by decide +kernel
theorem dX8_floodNow_55 : decode cX8_floodNow 55 = .ok (.iload_n 3, 1) := by decide +kernel
theorem dX8_floodNow_56 : decode cX8_floodNow 56 = .ok (.aload_n 0, 1) := by decide +kernel
theorem dX8_floodNow_57 : decode cX8_floodNow 57 = .ok (.getfield 129, 3) := by decide +kernel
theorem dX8_floodNow_60 : decode cX8_floodNow 60 = .ok (.if_icmp .ge 45, 3) := by decide +kernel
theorem dX8_floodNow_63 : decode cX8_floodNow 63 = .ok (.aload_n 0, 1) := by decide +kernel
theorem dX8_floodNow_64 : decode cX8_floodNow 64 = .ok (.getfield 96, 3) := by decide +kernel
theorem dX8_floodNow_67 : decode cX8_floodNow 67 = .ok (.iload_n 3, 1) := by decide +kernel
theorem dX8_floodNow_68 : decode cX8_floodNow 68 = .ok (.aload_n 0, 1) := by decide +kernel
theorem dX8_floodNow_69 : decode cX8_floodNow 69 = .ok (.getfield 25, 3) := by decide +kernel
theorem dX8_floodNow_72 : decode cX8_floodNow 72 = .ok (.iload_n 3, 1) := by decide +kernel
theorem dX8_floodNow_73 : decode cX8_floodNow 73 = .ok (.baload, 1) := by decide +kernel
theorem dX8_floodNow_74 : decode cX8_floodNow 74 = .ok (.ifCond .eq 23, 3) := by decide +kernel
theorem dX8_floodNow_77 : decode cX8_floodNow 77 = .ok (.aload_n 0, 1) := by decide +kernel
theorem dX8_floodNow_78 : decode cX8_floodNow 78 = .ok (.getfield 32, 3) := by decide +kernel
theorem dX8_floodNow_81 : decode cX8_floodNow 81 = .ok (.iload_n 3, 1) := by decide +kernel
theorem dX8_floodNow_82 : decode cX8_floodNow 82 = .ok (.iaload, 1) := by decide +kernel
theorem dX8_floodNow_83 : decode cX8_floodNow 83 = .ok (.bipush (-2), 2) := by decide +kernel
theorem dX8_floodNow_85 : decode cX8_floodNow 85 = .ok (.if_icmp .ne 12, 3) := by decide +kernel
theorem dX8_floodNow_88 : decode cX8_floodNow 88 = .ok (.aload_n 0, 1) := by decide +kernel
theorem dX8_floodNow_89 : decode cX8_floodNow 89 = .ok (.iload_n 3, 1) := by decide +kernel
theorem dX8_floodNow_90 : decode cX8_floodNow 90 = .ok (.iload_n 2, 1) := by decide +kernel
theorem dX8_floodNow_91 : decode cX8_floodNow 91 = .ok (.invokevirtual 161, 3) := by decide +kernel
theorem dX8_floodNow_94 : decode cX8_floodNow 94 = .ok (.goto 4, 3) := by decide +kernel
theorem dX8_floodNow_97 : decode cX8_floodNow 97 = .ok (.iconst (-1), 1) := by decide +kernel
theorem dX8_floodNow_98 : decode cX8_floodNow 98 = .ok (.iastore, 1) := by decide +kernel
theorem dX8_floodNow_99 : decode cX8_floodNow 99 = .ok (.iinc 3 1, 3) := by decide +kernel
theorem dX8_floodNow_102 : decode cX8_floodNow 102 = .ok (.goto (-47), 3) := by decide +kernel
theorem dX8_floodNow_105 : decode cX8_floodNow 105 = .ok (.iconst 0, 1) := by decide +kernel
theorem dX8_floodNow_106 : decode cX8_floodNow 106 = .ok (.istore_n 3, 1) := by decide +kernel
theorem dX8_floodNow_107 : decode cX8_floodNow 107 = .ok (.iload_n 3, 1) := by decide +kernel
theorem dX8_floodNow_108 : decode cX8_floodNow 108 = .ok (.aload_n 0, 1) := by decide +kernel
theorem dX8_floodNow_109 : decode cX8_floodNow 109 = .ok (.getfield 129, 3) := by decide +kernel
theorem dX8_floodNow_112 : decode cX8_floodNow 112 = .ok (.if_icmp .ge 32, 3) := by decide +kernel
theorem dX8_floodNow_115 : decode cX8_floodNow 115 = .ok (.aload_n 0, 1) := by decide +kernel
theorem dX8_floodNow_116 : decode cX8_floodNow 116 = .ok (.getfield 35, 3) := by decide +kernel
theorem dX8_floodNow_119 : decode cX8_floodNow 119 = .ok (.iload_n 3, 1) := by decide +kernel
theorem dX8_floodNow_120 : decode cX8_floodNow 120 = .ok (.dup2, 1) := by decide +kernel
theorem dX8_floodNow_121 : decode cX8_floodNow 121 = .ok (.iaload, 1) := by decide +kernel
theorem dX8_floodNow_122 : decode cX8_floodNow 122 = .ok (.aload_n 0, 1) := by decide +kernel
theorem dX8_floodNow_123 : decode cX8_floodNow 123 = .ok (.iload_n 3, 1) := by decide +kernel
theorem dX8_floodNow_124 : decode cX8_floodNow 124 = .ok (.iload_n 2, 1) := by decide +kernel
theorem dX8_floodNow_125 : decode cX8_floodNow 125 = .ok (.invokevirtual 154, 3) := by decide +kernel
theorem dX8_floodNow_128 : decode cX8_floodNow 128 = .ok (.ifCond .eq 7, 3) := by decide +kernel
theorem dX8_floodNow_131 : decode cX8_floodNow 131 = .ok (.iconst 1, 1) := by decide +kernel
theorem dX8_floodNow_132 : decode cX8_floodNow 132 = .ok (.goto 4, 3) := by decide +kernel
theorem dX8_floodNow_135 : decode cX8_floodNow 135 = .ok (.iconst 0, 1) := by decide +kernel
theorem dX8_floodNow_136 : decode cX8_floodNow 136 = .ok (.iadd, 1) := by decide +kernel
theorem dX8_floodNow_137 : decode cX8_floodNow 137 = .ok (.iastore, 1) := by decide +kernel
theorem dX8_floodNow_138 : decode cX8_floodNow 138 = .ok (.iinc 3 1, 3) := by decide +kernel
theorem dX8_floodNow_141 : decode cX8_floodNow 141 = .ok (.goto (-34), 3) := by decide +kernel
theorem dX8_floodNow_144 : decode cX8_floodNow 144 = .ok (.iconst 0, 1) := by decide +kernel
theorem dX8_floodNow_145 : decode cX8_floodNow 145 = .ok (.istore_n 3, 1) := by decide +kernel
theorem dX8_floodNow_146 : decode cX8_floodNow 146 = .ok (.iload_n 3, 1) := by decide +kernel
theorem dX8_floodNow_147 : decode cX8_floodNow 147 = .ok (.aload_n 0, 1) := by decide +kernel
theorem dX8_floodNow_148 : decode cX8_floodNow 148 = .ok (.getfield 129, 3) := by decide +kernel
theorem dX8_floodNow_151 : decode cX8_floodNow 151 = .ok (.if_icmp .ge 38, 3) := by decide +kernel
theorem dX8_floodNow_154 : decode cX8_floodNow 154 = .ok (.aload_n 0, 1) := by decide +kernel
theorem dX8_floodNow_155 : decode cX8_floodNow 155 = .ok (.getfield 96, 3) := by decide +kernel
theorem dX8_floodNow_158 : decode cX8_floodNow 158 = .ok (.iload_n 3, 1) := by decide +kernel
theorem dX8_floodNow_159 : decode cX8_floodNow 159 = .ok (.iaload, 1) := by decide +kernel
theorem dX8_floodNow_160 : decode cX8_floodNow 160 = .ok (.iconst (-1), 1) := by decide +kernel
theorem dX8_floodNow_161 : decode cX8_floodNow 161 = .ok (.if_icmp .eq 22, 3) := by decide +kernel
theorem dX8_floodNow_164 : decode cX8_floodNow 164 = .ok (.aload_n 0, 1) := by decide +kernel
theorem dX8_floodNow_165 : decode cX8_floodNow 165 = .ok (.getfield 29, 3) := by decide +kernel
theorem dX8_floodNow_168 : decode cX8_floodNow 168 = .ok (.iload_n 3, 1) := by decide +kernel
theorem dX8_floodNow_169 : decode cX8_floodNow 169 = .ok (.aload_n 0, 1) := by decide +kernel
theorem dX8_floodNow_170 : decode cX8_floodNow 170 = .ok (.getfield 96, 3) := by decide +kernel
theorem dX8_floodNow_173 : decode cX8_floodNow 173 = .ok (.iload_n 3, 1) := by decide +kernel
theorem dX8_floodNow_174 : decode cX8_floodNow 174 = .ok (.iaload, 1) := by decide +kernel
theorem dX8_floodNow_175 : decode cX8_floodNow 175 = .ok (.iastore, 1) := by decide +kernel
theorem dX8_floodNow_176 : decode cX8_floodNow 176 = .ok (.aload_n 0, 1) := by decide +kernel
theorem dX8_floodNow_177 : decode cX8_floodNow 177 = .ok (.getfield 32, 3) := by decide +kernel
theorem dX8_floodNow_180 : decode cX8_floodNow 180 = .ok (.iload_n 3, 1) := by decide +kernel
theorem dX8_floodNow_181 : decode cX8_floodNow 181 = .ok (.iload_n 2, 1) := by decide +kernel
theorem dX8_floodNow_182 : decode cX8_floodNow 182 = .ok (.iastore, 1) := by decide +kernel
theorem dX8_floodNow_183 : decode cX8_floodNow 183 = .ok (.iinc 3 1, 3) := by decide +kernel
theorem dX8_floodNow_186 : decode cX8_floodNow 186 = .ok (.goto (-40), 3) := by decide +kernel
theorem dX8_floodNow_189 : decode cX8_floodNow 189 = .ok (.iinc 2 1, 3) := by decide +kernel
theorem dX8_floodNow_192 : decode cX8_floodNow 192 = .ok (.goto (-147), 3) := by decide +kernel
theorem dX8_floodNow_195 : decode cX8_floodNow 195 = .ok (.aload_n 0, 1) := by decide +kernel
theorem dX8_floodNow_196 : decode cX8_floodNow 196 = .ok (.iload_n 2, 1) := by decide +kernel
theorem dX8_floodNow_197 : decode cX8_floodNow 197 = .ok (.putfield 151, 3) := by decide +kernel
theorem dX8_floodNow_200 : decode cX8_floodNow 200 = .ok (.aload_n 0, 1) := by decide +kernel
theorem dX8_floodNow_201 : decode cX8_floodNow 201 = .ok (.invokevirtual 165, 3) := by decide +kernel
theorem dX8_floodNow_204 : decode cX8_floodNow 204 = .ok (.ireturn, 1) := by decide +kernel
theorem dX8_holders_0 : decode cX8_holders 0 = .ok (.iconst 0, 1) := by decide +kernel
theorem dX8_holders_1 : decode cX8_holders 1 = .ok (.istore_n 1, 1) := by decide +kernel
theorem dX8_holders_2 : decode cX8_holders 2 = .ok (.iconst 0, 1) := by decide +kernel
theorem dX8_holders_3 : decode cX8_holders 3 = .ok (.istore_n 2, 1) := by decide +kernel
theorem dX8_holders_4 : decode cX8_holders 4 = .ok (.iload_n 2, 1) := by decide +kernel
theorem dX8_holders_5 : decode cX8_holders 5 = .ok (.aload_n 0, 1) := by decide +kernel
theorem dX8_holders_6 : decode cX8_holders 6 = .ok (.getfield 129, 3) := by decide +kernel
theorem dX8_holders_9 : decode cX8_holders 9 = .ok (.if_icmp .ge 27, 3) := by decide +kernel
theorem dX8_holders_12 : decode cX8_holders 12 = .ok (.iload_n 1, 1) := by decide +kernel
theorem dX8_holders_13 : decode cX8_holders 13 = .ok (.aload_n 0, 1) := by decide +kernel
theorem dX8_holders_14 : decode cX8_holders 14 = .ok (.getfield 29, 3) := by decide +kernel
theorem dX8_holders_17 : decode cX8_holders 17 = .ok (.iload_n 2, 1) := by decide +kernel
theorem dX8_holders_18 : decode cX8_holders 18 = .ok (.iaload, 1) := by decide +kernel
theorem dX8_holders_19 : decode cX8_holders 19 = .ok (.iconst (-1), 1) := by decide +kernel
theorem dX8_holders_20 : decode cX8_holders 20 = .ok (.if_icmp .ne 7, 3) := by decide +kernel
theorem dX8_holders_23 : decode cX8_holders 23 = .ok (.iconst 0, 1) := by decide +kernel
theorem dX8_holders_24 : decode cX8_holders 24 = .ok (.goto 4, 3) := by decide +kernel
theorem dX8_holders_27 : decode cX8_holders 27 = .ok (.iconst 1, 1) := by decide +kernel
theorem dX8_holders_28 : decode cX8_holders 28 = .ok (.iadd, 1) := by decide +kernel
theorem dX8_holders_29 : decode cX8_holders 29 = .ok (.istore_n 1, 1) := by decide +kernel
theorem dX8_holders_30 : decode cX8_holders 30 = .ok (.iinc 2 1, 3) := by decide +kernel
theorem dX8_holders_33 : decode cX8_holders 33 = .ok (.goto (-29), 3) := by decide +kernel
theorem dX8_holders_36 : decode cX8_holders 36 = .ok (.iload_n 1, 1) := by decide +kernel
theorem dX8_holders_37 : decode cX8_holders 37 = .ok (.ireturn, 1) := by decide +kernel
set_option maxRecDepth 20000 in
theorem ggX8_flood_X8_floodNow : GoodIn wsX8_flood wsX8_floodNow := goodIn_r _ [7, 1, 8, 9, 10, 2, 11, 12, 13, 14, 15, 6, 16, 17, 18, 19, 20, 21, 22, 23, 24, 25, 26, 27, 28, 29, 30, 31, 32, 33, 34, 35, 36, 37, 38, 39, 40, 41, 42, 43, 44, 45, 46, 47, 48, 49, 50, 51, 52, 53, 54, 55, 56, 57, 58, 59, 60, 61, 62, 63, 64, 65, 66, 67, 68, 69, 70, 71, 72, 73, 74, 75, 76, 77, 78, 79, 80, 81, 82] (by decide +kernel) (by decide +kernel)
set_option maxRecDepth 20000 in
theorem gX8_flood_X8_floodNow : GoodIn wsX8_flood (wsV RX8 168 RX8 yX8_floodNow wsX8_floodNow) := goodIn_app (goodIn_of _ (by decide +kernel)) ggX8_flood_X8_floodNow
theorem dX8_flood_0 : decode cX8_flood 0 = .ok (.iload_n 1, 1) := by decide +kernel
theorem dX8_flood_1 : decode cX8_flood 1 = .ok (.ifCond .le 13, 3) := by decide +kernel
theorem dX8_flood_4 : decode cX8_flood 4 = .ok (.iload_n 1, 1) := by decide +kernel
theorem dX8_flood_5 : decode cX8_flood 5 = .ok (.iconst 1, 1) := by decide +kernel
theorem dX8_flood_6 : decode cX8_flood 6 = .ok (.aload_n 0, 1) := by decide +kernel
theorem dX8_flood_7 : decode cX8_flood 7 = .ok (.getfield 129, 3) := by decide +kernel
theorem dX8_flood_10 : decode cX8_flood 10 = .ok (.ishl, 1) := by decide +kernel
theorem dX8_flood_11 : decode cX8_flood 11 = .ok (.if_icmp .lt 7, 3) := by decide +kernel
theorem dX8_flood_14 : decode cX8_flood 14 = .ok (.sipush (-1002), 3) := by decide +kernel
theorem dX8_flood_17 : decode cX8_flood 17 = .ok (.ireturn, 1) := by decide +kernel
theorem dX8_flood_18 : decode cX8_flood 18 = .ok (.iconst 1, 1) := by decide +kernel
theorem dX8_flood_19 : decode cX8_flood 19 = .ok (.istore_n 2, 1) := by decide +kernel
theorem dX8_flood_20 : decode cX8_flood 20 = .ok (.iconst 0, 1) := by decide +kernel
theorem dX8_flood_21 : decode cX8_flood 21 = .ok (.istore_n 3, 1) := by decide +kernel
theorem dX8_flood_22 : decode cX8_flood 22 = .ok (.iload_n 3, 1) := by decide +kernel
theorem dX8_flood_23 : decode cX8_flood 23 = .ok (.aload_n 0, 1) := by decide +kernel
theorem dX8_flood_24 : decode cX8_flood 24 = .ok (.getfield 129, 3) := by decide +kernel
theorem dX8_flood_27 : decode cX8_flood 27 = .ok (.if_icmp .ge 36, 3) := by decide +kernel
theorem dX8_flood_30 : decode cX8_flood 30 = .ok (.iload_n 2, 1) := by decide +kernel
theorem dX8_flood_31 : decode cX8_flood 31 = .ok (.ifCond .eq 24, 3) := by decide +kernel
theorem dX8_flood_34 : decode cX8_flood 34 = .ok (.iload_n 1, 1) := by decide +kernel
theorem dX8_flood_35 : decode cX8_flood 35 = .ok (.iload_n 3, 1) := by decide +kernel
theorem dX8_flood_36 : decode cX8_flood 36 = .ok (.ishr, 1) := by decide +kernel
theorem dX8_flood_37 : decode cX8_flood 37 = .ok (.iconst 1, 1) := by decide +kernel
theorem dX8_flood_38 : decode cX8_flood 38 = .ok (.iand, 1) := by decide +kernel
theorem dX8_flood_39 : decode cX8_flood 39 = .ok (.ifCond .eq 12, 3) := by decide +kernel
theorem dX8_flood_42 : decode cX8_flood 42 = .ok (.aload_n 0, 1) := by decide +kernel
theorem dX8_flood_43 : decode cX8_flood 43 = .ok (.getfield 25, 3) := by decide +kernel
theorem dX8_flood_46 : decode cX8_flood 46 = .ok (.iload_n 3, 1) := by decide +kernel
theorem dX8_flood_47 : decode cX8_flood 47 = .ok (.baload, 1) := by decide +kernel
theorem dX8_flood_48 : decode cX8_flood 48 = .ok (.ifCond .eq 7, 3) := by decide +kernel
theorem dX8_flood_51 : decode cX8_flood 51 = .ok (.iconst 1, 1) := by decide +kernel
theorem dX8_flood_52 : decode cX8_flood 52 = .ok (.goto 4, 3) := by decide +kernel
theorem dX8_flood_55 : decode cX8_flood 55 = .ok (.iconst 0, 1) := by decide +kernel
theorem dX8_flood_56 : decode cX8_flood 56 = .ok (.istore_n 2, 1) := by decide +kernel
theorem dX8_flood_57 : decode cX8_flood 57 = .ok (.iinc 3 1, 3) := by decide +kernel
theorem dX8_flood_60 : decode cX8_flood 60 = .ok (.goto (-38), 3) := by decide +kernel
theorem dX8_flood_63 : decode cX8_flood 63 = .ok (.iload_n 2, 1) := by decide +kernel
theorem dX8_flood_64 : decode cX8_flood 64 = .ok (.ifCond .eq 11, 3) := by decide +kernel
theorem dX8_flood_67 : decode cX8_flood 67 = .ok (.aload_n 0, 1) := by decide +kernel
theorem dX8_flood_68 : decode cX8_flood 68 = .ok (.iload_n 1, 1) := by decide +kernel
theorem dX8_flood_69 : decode cX8_flood 69 = .ok (.invokevirtual 168, 3) := by decide +kernel
theorem dX8_flood_72 : decode cX8_flood 72 = .ok (.goto 6, 3) := by decide +kernel
theorem dX8_flood_75 : decode cX8_flood 75 = .ok (.sipush (-1003), 3) := by decide +kernel
theorem dX8_flood_78 : decode cX8_flood 78 = .ok (.ireturn, 1) := by decide +kernel
set_option maxRecDepth 20000 in
theorem ggX8_packetAt_X8_isNode : GoodIn wsX8_packetAt wsX8_isNode := goodIn_r _ [6, 7, 8, 9, 5, 10, 11, 12, 13, 14, 15, 16, 17, 18, 19, 20, 21, 22, 23, 24, 25, 26, 27, 28, 29, 30, 31, 32, 33, 34, 35, 36, 37, 38, 39, 40, 41, 42, 43, 44, 45, 46, 47, 48, 49, 50, 51, 52] (by decide +kernel) (by decide +kernel)
set_option maxRecDepth 20000 in
theorem gX8_packetAt_X8_isNode : GoodIn wsX8_packetAt (wsV RX8 147 RX8 yX8_isNode wsX8_isNode) := goodIn_app (goodIn_of _ (by decide +kernel)) ggX8_packetAt_X8_isNode
theorem dX8_packetAt_0 : decode cX8_packetAt 0 = .ok (.aload_n 0, 1) := by decide +kernel
theorem dX8_packetAt_1 : decode cX8_packetAt 1 = .ok (.iload_n 1, 1) := by decide +kernel
theorem dX8_packetAt_2 : decode cX8_packetAt 2 = .ok (.invokevirtual 147, 3) := by decide +kernel
theorem dX8_packetAt_5 : decode cX8_packetAt 5 = .ok (.ifCond .eq 12, 3) := by decide +kernel
theorem dX8_packetAt_8 : decode cX8_packetAt 8 = .ok (.aload_n 0, 1) := by decide +kernel
theorem dX8_packetAt_9 : decode cX8_packetAt 9 = .ok (.getfield 29, 3) := by decide +kernel
theorem dX8_packetAt_12 : decode cX8_packetAt 12 = .ok (.iload_n 1, 1) := by decide +kernel
theorem dX8_packetAt_13 : decode cX8_packetAt 13 = .ok (.iaload, 1) := by decide +kernel
theorem dX8_packetAt_14 : decode cX8_packetAt 14 = .ok (.goto 6, 3) := by decide +kernel
theorem dX8_packetAt_17 : decode cX8_packetAt 17 = .ok (.sipush (-1001), 3) := by decide +kernel
theorem dX8_packetAt_20 : decode cX8_packetAt 20 = .ok (.ireturn, 1) := by decide +kernel
theorem dX8_hops_0 : decode cX8_hops 0 = .ok (.aload_n 0, 1) := by decide +kernel
theorem dX8_hops_1 : decode cX8_hops 1 = .ok (.getfield 32, 3) := by decide +kernel
theorem dX8_hops_4 : decode cX8_hops 4 = .ok (.iload_n 1, 1) := by decide +kernel
theorem dX8_hops_5 : decode cX8_hops 5 = .ok (.iaload, 1) := by decide +kernel
theorem dX8_hops_6 : decode cX8_hops 6 = .ok (.bipush (-2), 2) := by decide +kernel
theorem dX8_hops_8 : decode cX8_hops 8 = .ok (.if_icmp .ne 7, 3) := by decide +kernel
theorem dX8_hops_11 : decode cX8_hops 11 = .ok (.iconst (-1), 1) := by decide +kernel
theorem dX8_hops_12 : decode cX8_hops 12 = .ok (.goto 11, 3) := by decide +kernel
theorem dX8_hops_15 : decode cX8_hops 15 = .ok (.aload_n 0, 1) := by decide +kernel
theorem dX8_hops_16 : decode cX8_hops 16 = .ok (.getfield 32, 3) := by decide +kernel
theorem dX8_hops_19 : decode cX8_hops 19 = .ok (.iload_n 1, 1) := by decide +kernel
theorem dX8_hops_20 : decode cX8_hops 20 = .ok (.iaload, 1) := by decide +kernel
theorem dX8_hops_21 : decode cX8_hops 21 = .ok (.iconst 1, 1) := by decide +kernel
theorem dX8_hops_22 : decode cX8_hops 22 = .ok (.iadd, 1) := by decide +kernel
theorem dX8_hops_23 : decode cX8_hops 23 = .ok (.ireturn, 1) := by decide +kernel
set_option maxRecDepth 20000 in
theorem ggX8_hopCount_X8_isNode : GoodIn wsX8_hopCount wsX8_isNode := goodIn_r _ [5, 6, 7, 8, 4, 9, 15, 16, 17, 18, 19, 20, 21, 22, 23, 24, 25, 26, 27, 28, 29, 30, 31, 32, 33, 34, 35, 36, 37, 38, 39, 40, 41, 42, 43, 44, 45, 46, 47, 48, 49, 50, 51, 52, 53, 54, 55, 56] (by decide +kernel) (by decide +kernel)
set_option maxRecDepth 20000 in
theorem gX8_hopCount_X8_isNode : GoodIn wsX8_hopCount (wsV RX8 147 RX8 yX8_isNode wsX8_isNode) := goodIn_app (goodIn_of _ (by decide +kernel)) ggX8_hopCount_X8_isNode
set_option maxRecDepth 20000 in
theorem ggX8_hopCount_X8_hops : GoodIn wsX8_hopCount wsX8_hops := goodIn_r _ [13, 14, 15, 16, 17, 18, 19, 20, 21, 22, 23, 24, 25, 26, 27, 28, 29, 30, 31, 32, 33, 34, 35, 36, 37, 38, 39, 40, 41, 42, 43, 44, 45, 46, 47, 48, 49, 50, 51, 52, 53, 54, 55, 56] (by decide +kernel) (by decide +kernel)
set_option maxRecDepth 20000 in
theorem gX8_hopCount_X8_hops : GoodIn wsX8_hopCount (wsV RX8 172 RX8 yX8_hops wsX8_hops) := goodIn_app (goodIn_of _ (by decide +kernel)) ggX8_hopCount_X8_hops
theorem dX8_hopCount_0 : decode cX8_hopCount 0 = .ok (.aload_n 0, 1) := by decide +kernel
theorem dX8_hopCount_1 : decode cX8_hopCount 1 = .ok (.iload_n 1, 1) := by decide +kernel
theorem dX8_hopCount_2 : decode cX8_hopCount 2 = .ok (.invokevirtual 147, 3) := by decide +kernel
theorem dX8_hopCount_5 : decode cX8_hopCount 5 = .ok (.ifCond .eq 11, 3) := by decide +kernel
theorem dX8_hopCount_8 : decode cX8_hopCount 8 = .ok (.aload_n 0, 1) := by decide +kernel
theorem dX8_hopCount_9 : decode cX8_hopCount 9 = .ok (.iload_n 1, 1) := by decide +kernel
theorem dX8_hopCount_10 : decode cX8_hopCount 10 = .ok (.invokevirtual 172, 3) := by decide +kernel
theorem dX8_hopCount_13 : decode cX8_hopCount 13 = .ok (.goto 6, 3) := by decide +kernel
theorem dX8_hopCount_16 : decode cX8_hopCount 16 = .ok (.sipush (-1001), 3) := by decide +kernel
theorem dX8_hopCount_19 : decode cX8_hopCount 19 = .ok (.ireturn, 1) := by decide +kernel
theorem dX8_floodLength_0 : decode cX8_floodLength 0 = .ok (.aload_n 0, 1) := by decide +kernel
theorem dX8_floodLength_1 : decode cX8_floodLength 1 = .ok (.getfield 151, 3) := by decide +kernel
theorem dX8_floodLength_4 : decode cX8_floodLength 4 = .ok (.ireturn, 1) := by decide +kernel
set_option maxRecDepth 20000 in
theorem ggX8_addStream_X8_isNode : GoodIn wsX8_addStream wsX8_isNode := goodIn_r _ [12, 13, 14, 15, 11, 16, 17, 18, 19, 20, 21, 22, 23, 24, 25, 26, 27, 28, 29, 30, 31, 32, 33, 34, 35, 36, 37, 38, 39, 40, 41, 42, 43, 44, 45, 46, 47, 48, 49, 50, 51, 52, 53, 54, 55, 56, 57, 58] (by decide +kernel) (by decide +kernel)
set_option maxRecDepth 20000 in
theorem gX8_addStream_X8_isNode : GoodIn wsX8_addStream (wsV RX8 147 RX8 yX8_isNode wsX8_isNode) := goodIn_app (goodIn_of _ (by decide +kernel)) ggX8_addStream_X8_isNode
set_option maxRecDepth 20000 in
theorem ggX8_addStream_X8_within : GoodIn wsX8_addStream wsX8_within := goodIn_r _ [16] (by decide +kernel) (by decide +kernel)
set_option maxRecDepth 20000 in
theorem gX8_addStream_X8_within : GoodIn wsX8_addStream (va_wsS RX8 102 yX8_within wsX8_within) := goodIn_app (goodIn_of _ (by decide +kernel)) ggX8_addStream_X8_within
theorem dX8_addStream_0 : decode cX8_addStream 0 = .ok (.aload_n 0, 1) := by decide +kernel
theorem dX8_addStream_1 : decode cX8_addStream 1 = .ok (.iload_n 1, 1) := by decide +kernel
theorem dX8_addStream_2 : decode cX8_addStream 2 = .ok (.invokevirtual 147, 3) := by decide +kernel
theorem dX8_addStream_5 : decode cX8_addStream 5 = .ok (.ifCond .ne 7, 3) := by decide +kernel
theorem dX8_addStream_8 : decode cX8_addStream 8 = .ok (.sipush (-1001), 3) := by decide +kernel
theorem dX8_addStream_11 : decode cX8_addStream 11 = .ok (.ireturn, 1) := by decide +kernel
theorem dX8_addStream_12 : decode cX8_addStream 12 = .ok (.iload_n 2, 1) := by decide +kernel
theorem dX8_addStream_13 : decode cX8_addStream 13 = .ok (.iconst 1, 1) := by decide +kernel
theorem dX8_addStream_14 : decode cX8_addStream 14 = .ok (.bipush 9, 2) := by decide +kernel
theorem dX8_addStream_16 : decode cX8_addStream 16 = .ok (.invokestatic 102, 3) := by decide +kernel
theorem dX8_addStream_19 : decode cX8_addStream 19 = .ok (.ifCond .eq 13, 3) := by decide +kernel
theorem dX8_addStream_22 : decode cX8_addStream 22 = .ok (.iload_n 3, 1) := by decide +kernel
theorem dX8_addStream_23 : decode cX8_addStream 23 = .ok (.iconst 0, 1) := by decide +kernel
theorem dX8_addStream_24 : decode cX8_addStream 24 = .ok (.bipush 99, 2) := by decide +kernel
theorem dX8_addStream_26 : decode cX8_addStream 26 = .ok (.invokestatic 102, 3) := by decide +kernel
theorem dX8_addStream_29 : decode cX8_addStream 29 = .ok (.ifCond .ne 7, 3) := by decide +kernel
theorem dX8_addStream_32 : decode cX8_addStream 32 = .ok (.sipush (-1002), 3) := by decide +kernel
theorem dX8_addStream_35 : decode cX8_addStream 35 = .ok (.ireturn, 1) := by decide +kernel
theorem dX8_addStream_36 : decode cX8_addStream 36 = .ok (.aload_n 0, 1) := by decide +kernel
theorem dX8_addStream_37 : decode cX8_addStream 37 = .ok (.getfield 141, 3) := by decide +kernel
theorem dX8_addStream_40 : decode cX8_addStream 40 = .ok (.bipush 6, 2) := by decide +kernel
theorem dX8_addStream_42 : decode cX8_addStream 42 = .ok (.if_icmp .ne 7, 3) := by decide +kernel
theorem dX8_addStream_45 : decode cX8_addStream 45 = .ok (.sipush (-1004), 3) := by decide +kernel
theorem dX8_addStream_48 : decode cX8_addStream 48 = .ok (.ireturn, 1) := by decide +kernel
theorem dX8_addStream_49 : decode cX8_addStream 49 = .ok (.aload_n 0, 1) := by decide +kernel
theorem dX8_addStream_50 : decode cX8_addStream 50 = .ok (.getfield 57, 3) := by decide +kernel
theorem dX8_addStream_53 : decode cX8_addStream 53 = .ok (.aload_n 0, 1) := by decide +kernel
theorem dX8_addStream_54 : decode cX8_addStream 54 = .ok (.getfield 141, 3) := by decide +kernel
theorem dX8_addStream_57 : decode cX8_addStream 57 = .ok (.iload_n 1, 1) := by decide +kernel
theorem dX8_addStream_58 : decode cX8_addStream 58 = .ok (.iastore, 1) := by decide +kernel
theorem dX8_addStream_59 : decode cX8_addStream 59 = .ok (.aload_n 0, 1) := by decide +kernel
theorem dX8_addStream_60 : decode cX8_addStream 60 = .ok (.getfield 60, 3) := by decide +kernel
theorem dX8_addStream_63 : decode cX8_addStream 63 = .ok (.aload_n 0, 1) := by decide +kernel
theorem dX8_addStream_64 : decode cX8_addStream 64 = .ok (.getfield 141, 3) := by decide +kernel
theorem dX8_addStream_67 : decode cX8_addStream 67 = .ok (.iload_n 2, 1) := by decide +kernel
theorem dX8_addStream_68 : decode cX8_addStream 68 = .ok (.iastore, 1) := by decide +kernel
theorem dX8_addStream_69 : decode cX8_addStream 69 = .ok (.aload_n 0, 1) := by decide +kernel
theorem dX8_addStream_70 : decode cX8_addStream 70 = .ok (.getfield 63, 3) := by decide +kernel
theorem dX8_addStream_73 : decode cX8_addStream 73 = .ok (.aload_n 0, 1) := by decide +kernel
theorem dX8_addStream_74 : decode cX8_addStream 74 = .ok (.getfield 141, 3) := by decide +kernel
theorem dX8_addStream_77 : decode cX8_addStream 77 = .ok (.iload_n 3, 1) := by decide +kernel
theorem dX8_addStream_78 : decode cX8_addStream 78 = .ok (.iastore, 1) := by decide +kernel
theorem dX8_addStream_79 : decode cX8_addStream 79 = .ok (.aload_n 0, 1) := by decide +kernel
theorem dX8_addStream_80 : decode cX8_addStream 80 = .ok (.getfield 66, 3) := by decide +kernel
theorem dX8_addStream_83 : decode cX8_addStream 83 = .ok (.aload_n 0, 1) := by decide +kernel
theorem dX8_addStream_84 : decode cX8_addStream 84 = .ok (.getfield 141, 3) := by decide +kernel
theorem dX8_addStream_87 : decode cX8_addStream 87 = .ok (.iconst 0, 1) := by decide +kernel
theorem dX8_addStream_88 : decode cX8_addStream 88 = .ok (.iastore, 1) := by decide +kernel
theorem dX8_addStream_89 : decode cX8_addStream 89 = .ok (.aload_n 0, 1) := by decide +kernel
theorem dX8_addStream_90 : decode cX8_addStream 90 = .ok (.getfield 72, 3) := by decide +kernel
theorem dX8_addStream_93 : decode cX8_addStream 93 = .ok (.aload_n 0, 1) := by decide +kernel
theorem dX8_addStream_94 : decode cX8_addStream 94 = .ok (.getfield 141, 3) := by decide +kernel
theorem dX8_addStream_97 : decode cX8_addStream 97 = .ok (.iconst 0, 1) := by decide +kernel
theorem dX8_addStream_98 : decode cX8_addStream 98 = .ok (.iastore, 1) := by decide +kernel
theorem dX8_addStream_99 : decode cX8_addStream 99 = .ok (.aload_n 0, 1) := by decide +kernel
theorem dX8_addStream_100 : decode cX8_addStream 100 = .ok (.getfield 75, 3) := by decide +kernel
theorem dX8_addStream_103 : decode cX8_addStream 103 = .ok (.aload_n 0, 1) := by decide +kernel
theorem dX8_addStream_104 : decode cX8_addStream 104 = .ok (.getfield 141, 3) := by decide +kernel
theorem dX8_addStream_107 : decode cX8_addStream 107 = .ok (.iconst 0, 1) := by decide +kernel
theorem dX8_addStream_108 : decode cX8_addStream 108 = .ok (.iastore, 1) := by decide +kernel
theorem dX8_addStream_109 : decode cX8_addStream 109 = .ok (.aload_n 0, 1) := by decide +kernel
theorem dX8_addStream_110 : decode cX8_addStream 110 = .ok (.dup, 1) := by decide +kernel
theorem dX8_addStream_111 : decode cX8_addStream 111 = .ok (.getfield 141, 3) := by decide +kernel
theorem dX8_addStream_114 : decode cX8_addStream 114 = .ok (.iconst 1, 1) := by decide +kernel
theorem dX8_addStream_115 : decode cX8_addStream 115 = .ok (.iadd, 1) := by decide +kernel
theorem dX8_addStream_116 : decode cX8_addStream 116 = .ok (.putfield 141, 3) := by decide +kernel
theorem dX8_addStream_119 : decode cX8_addStream 119 = .ok (.aload_n 0, 1) := by decide +kernel
theorem dX8_addStream_120 : decode cX8_addStream 120 = .ok (.getfield 141, 3) := by decide +kernel
theorem dX8_addStream_123 : decode cX8_addStream 123 = .ok (.iconst 1, 1) := by decide +kernel
theorem dX8_addStream_124 : decode cX8_addStream 124 = .ok (.isub, 1) := by decide +kernel
theorem dX8_addStream_125 : decode cX8_addStream 125 = .ok (.ireturn, 1) := by decide +kernel
set_option maxRecDepth 20000 in
theorem ggX8_isStream_X8_within : GoodIn wsX8_isStream wsX8_within := goodIn_r _ [5] (by decide +kernel) (by decide +kernel)
set_option maxRecDepth 20000 in
theorem gX8_isStream_X8_within : GoodIn wsX8_isStream (va_wsS RX8 102 yX8_within wsX8_within) := goodIn_app (goodIn_of _ (by decide +kernel)) ggX8_isStream_X8_within
theorem dX8_isStream_0 : decode cX8_isStream 0 = .ok (.iload_n 1, 1) := by decide +kernel
theorem dX8_isStream_1 : decode cX8_isStream 1 = .ok (.iconst 0, 1) := by decide +kernel
theorem dX8_isStream_2 : decode cX8_isStream 2 = .ok (.aload_n 0, 1) := by decide +kernel
theorem dX8_isStream_3 : decode cX8_isStream 3 = .ok (.getfield 141, 3) := by decide +kernel
theorem dX8_isStream_6 : decode cX8_isStream 6 = .ok (.iconst 1, 1) := by decide +kernel
theorem dX8_isStream_7 : decode cX8_isStream 7 = .ok (.isub, 1) := by decide +kernel
theorem dX8_isStream_8 : decode cX8_isStream 8 = .ok (.invokestatic 102, 3) := by decide +kernel
theorem dX8_isStream_11 : decode cX8_isStream 11 = .ok (.ireturn, 1) := by decide +kernel
set_option maxRecDepth 20000 in
theorem ggX8_removeStream_X8_isStream : GoodIn wsX8_removeStream wsX8_isStream := goodIn_r _ [14, 1, 15, 16, 13, 17, 18, 19, 20, 21, 22, 23, 24, 25, 26, 27, 28, 29, 30, 31, 32, 33, 34, 35, 36, 37, 38, 39, 40, 41, 42, 43, 44, 45, 46, 47, 48, 49, 50, 51, 52, 53, 54, 55, 56, 57, 58, 59] (by decide +kernel) (by decide +kernel)
set_option maxRecDepth 20000 in
theorem gX8_removeStream_X8_isStream : GoodIn wsX8_removeStream (wsV RX8 175 RX8 yX8_isStream wsX8_isStream) := goodIn_app (goodIn_of _ (by decide +kernel)) ggX8_removeStream_X8_isStream
theorem dX8_removeStream_0 : decode cX8_removeStream 0 = .ok (.aload_n 0, 1) := by decide +kernel
theorem dX8_removeStream_1 : decode cX8_removeStream 1 = .ok (.iload_n 1, 1) := by decide +kernel
theorem dX8_removeStream_2 : decode cX8_removeStream 2 = .ok (.invokevirtual 175, 3) := by decide +kernel
theorem dX8_removeStream_5 : decode cX8_removeStream 5 = .ok (.ifCond .ne 7, 3) := by decide +kernel
theorem dX8_removeStream_8 : decode cX8_removeStream 8 = .ok (.sipush (-1001), 3) := by decide +kernel
theorem dX8_removeStream_11 : decode cX8_removeStream 11 = .ok (.ireturn, 1) := by decide +kernel
theorem dX8_removeStream_12 : decode cX8_removeStream 12 = .ok (.aload_n 0, 1) := by decide +kernel
theorem dX8_removeStream_13 : decode cX8_removeStream 13 = .ok (.dup, 1) := by decide +kernel
theorem dX8_removeStream_14 : decode cX8_removeStream 14 = .ok (.getfield 141, 3) := by decide +kernel
theorem dX8_removeStream_17 : decode cX8_removeStream 17 = .ok (.iconst 1, 1) := by decide +kernel
theorem dX8_removeStream_18 : decode cX8_removeStream 18 = .ok (.isub, 1) := by decide +kernel
theorem dX8_removeStream_19 : decode cX8_removeStream 19 = .ok (.putfield 141, 3) := by decide +kernel
theorem dX8_removeStream_22 : decode cX8_removeStream 22 = .ok (.iload_n 1, 1) := by decide +kernel
theorem dX8_removeStream_23 : decode cX8_removeStream 23 = .ok (.istore_n 2, 1) := by decide +kernel
theorem dX8_removeStream_24 : decode cX8_removeStream 24 = .ok (.iload_n 2, 1) := by decide +kernel
theorem dX8_removeStream_25 : decode cX8_removeStream 25 = .ok (.aload_n 0, 1) := by decide +kernel
theorem dX8_removeStream_26 : decode cX8_removeStream 26 = .ok (.getfield 141, 3) := by decide +kernel
theorem dX8_removeStream_29 : decode cX8_removeStream 29 = .ok (.if_icmp .ge 128, 3) := by decide +kernel
theorem dX8_removeStream_32 : decode cX8_removeStream 32 = .ok (.aload_n 0, 1) := by decide +kernel
theorem dX8_removeStream_33 : decode cX8_removeStream 33 = .ok (.getfield 57, 3) := by decide +kernel
theorem dX8_removeStream_36 : decode cX8_removeStream 36 = .ok (.iload_n 2, 1) := by decide +kernel
theorem dX8_removeStream_37 : decode cX8_removeStream 37 = .ok (.aload_n 0, 1) := by decide +kernel
theorem dX8_removeStream_38 : decode cX8_removeStream 38 = .ok (.getfield 57, 3) := by decide +kernel
theorem dX8_removeStream_41 : decode cX8_removeStream 41 = .ok (.iload_n 2, 1) := by decide +kernel
theorem dX8_removeStream_42 : decode cX8_removeStream 42 = .ok (.iconst 1, 1) := by decide +kernel
theorem dX8_removeStream_43 : decode cX8_removeStream 43 = .ok (.iadd, 1) := by decide +kernel
theorem dX8_removeStream_44 : decode cX8_removeStream 44 = .ok (.iaload, 1) := by decide +kernel
theorem dX8_removeStream_45 : decode cX8_removeStream 45 = .ok (.iastore, 1) := by decide +kernel
theorem dX8_removeStream_46 : decode cX8_removeStream 46 = .ok (.aload_n 0, 1) := by decide +kernel
theorem dX8_removeStream_47 : decode cX8_removeStream 47 = .ok (.getfield 60, 3) := by decide +kernel
theorem dX8_removeStream_50 : decode cX8_removeStream 50 = .ok (.iload_n 2, 1) := by decide +kernel
theorem dX8_removeStream_51 : decode cX8_removeStream 51 = .ok (.aload_n 0, 1) := by decide +kernel
theorem dX8_removeStream_52 : decode cX8_removeStream 52 = .ok (.getfield 60, 3) := by decide +kernel
theorem dX8_removeStream_55 : decode cX8_removeStream 55 = .ok (.iload_n 2, 1) := by decide +kernel
theorem dX8_removeStream_56 : decode cX8_removeStream 56 = .ok (.iconst 1, 1) := by decide +kernel
theorem dX8_removeStream_57 : decode cX8_removeStream 57 = .ok (.iadd, 1) := by decide +kernel
theorem dX8_removeStream_58 : decode cX8_removeStream 58 = .ok (.iaload, 1) := by decide +kernel
theorem dX8_removeStream_59 : decode cX8_removeStream 59 = .ok (.iastore, 1) := by decide +kernel
theorem dX8_removeStream_60 : decode cX8_removeStream 60 = .ok (.aload_n 0, 1) := by decide +kernel
theorem dX8_removeStream_61 : decode cX8_removeStream 61 = .ok (.getfield 63, 3) := by decide +kernel
theorem dX8_removeStream_64 : decode cX8_removeStream 64 = .ok (.iload_n 2, 1) := by decide +kernel
theorem dX8_removeStream_65 : decode cX8_removeStream 65 = .ok (.aload_n 0, 1) := by decide +kernel
theorem dX8_removeStream_66 : decode cX8_removeStream 66 = .ok (.getfield 63, 3) := by decide +kernel
theorem dX8_removeStream_69 : decode cX8_removeStream 69 = .ok (.iload_n 2, 1) := by decide +kernel
theorem dX8_removeStream_70 : decode cX8_removeStream 70 = .ok (.iconst 1, 1) := by decide +kernel
theorem dX8_removeStream_71 : decode cX8_removeStream 71 = .ok (.iadd, 1) := by decide +kernel
theorem dX8_removeStream_72 : decode cX8_removeStream 72 = .ok (.iaload, 1) := by decide +kernel
theorem dX8_removeStream_73 : decode cX8_removeStream 73 = .ok (.iastore, 1) := by decide +kernel
theorem dX8_removeStream_74 : decode cX8_removeStream 74 = .ok (.aload_n 0, 1) := by decide +kernel
theorem dX8_removeStream_75 : decode cX8_removeStream 75 = .ok (.getfield 66, 3) := by decide +kernel
theorem dX8_removeStream_78 : decode cX8_removeStream 78 = .ok (.iload_n 2, 1) := by decide +kernel
theorem dX8_removeStream_79 : decode cX8_removeStream 79 = .ok (.aload_n 0, 1) := by decide +kernel
theorem dX8_removeStream_80 : decode cX8_removeStream 80 = .ok (.getfield 66, 3) := by decide +kernel
theorem dX8_removeStream_83 : decode cX8_removeStream 83 = .ok (.iload_n 2, 1) := by decide +kernel
theorem dX8_removeStream_84 : decode cX8_removeStream 84 = .ok (.iconst 1, 1) := by decide +kernel
theorem dX8_removeStream_85 : decode cX8_removeStream 85 = .ok (.iadd, 1) := by decide +kernel
theorem dX8_removeStream_86 : decode cX8_removeStream 86 = .ok (.iaload, 1) := by decide +kernel
theorem dX8_removeStream_87 : decode cX8_removeStream 87 = .ok (.iastore, 1) := by decide +kernel
theorem dX8_removeStream_88 : decode cX8_removeStream 88 = .ok (.aload_n 0, 1) := by decide +kernel
theorem dX8_removeStream_89 : decode cX8_removeStream 89 = .ok (.getfield 72, 3) := by decide +kernel
theorem dX8_removeStream_92 : decode cX8_removeStream 92 = .ok (.iload_n 2, 1) := by decide +kernel
theorem dX8_removeStream_93 : decode cX8_removeStream 93 = .ok (.aload_n 0, 1) := by decide +kernel
theorem dX8_removeStream_94 : decode cX8_removeStream 94 = .ok (.getfield 72, 3) := by decide +kernel
theorem dX8_removeStream_97 : decode cX8_removeStream 97 = .ok (.iload_n 2, 1) := by decide +kernel
theorem dX8_removeStream_98 : decode cX8_removeStream 98 = .ok (.iconst 1, 1) := by decide +kernel
theorem dX8_removeStream_99 : decode cX8_removeStream 99 = .ok (.iadd, 1) := by decide +kernel
theorem dX8_removeStream_100 : decode cX8_removeStream 100 = .ok (.iaload, 1) := by decide +kernel
theorem dX8_removeStream_101 : decode cX8_removeStream 101 = .ok (.iastore, 1) := by decide +kernel
theorem dX8_removeStream_102 : decode cX8_removeStream 102 = .ok (.aload_n 0, 1) := by decide +kernel
theorem dX8_removeStream_103 : decode cX8_removeStream 103 = .ok (.getfield 75, 3) := by decide +kernel
theorem dX8_removeStream_106 : decode cX8_removeStream 106 = .ok (.iload_n 2, 1) := by decide +kernel
theorem dX8_removeStream_107 : decode cX8_removeStream 107 = .ok (.aload_n 0, 1) := by decide +kernel
theorem dX8_removeStream_108 : decode cX8_removeStream 108 = .ok (.getfield 75, 3) := by decide +kernel
theorem dX8_removeStream_111 : decode cX8_removeStream 111 = .ok (.iload_n 2, 1) := by decide +kernel
theorem dX8_removeStream_112 : decode cX8_removeStream 112 = .ok (.iconst 1, 1) := by decide +kernel
theorem dX8_removeStream_113 : decode cX8_removeStream 113 = .ok (.iadd, 1) := by decide +kernel
theorem dX8_removeStream_114 : decode cX8_removeStream 114 = .ok (.iaload, 1) := by decide +kernel
theorem dX8_removeStream_115 : decode cX8_removeStream 115 = .ok (.iastore, 1) := by decide +kernel
theorem dX8_removeStream_116 : decode cX8_removeStream 116 = .ok (.iconst 0, 1) := by decide +kernel
theorem dX8_removeStream_117 : decode cX8_removeStream 117 = .ok (.istore_n 3, 1) := by decide +kernel
theorem dX8_removeStream_118 : decode cX8_removeStream 118 = .ok (.iload_n 3, 1) := by decide +kernel
theorem dX8_removeStream_119 : decode cX8_removeStream 119 = .ok (.iconst 4, 1) := by decide +kernel
theorem dX8_removeStream_120 : decode cX8_removeStream 120 = .ok (.if_icmp .ge 31, 3) := by decide +kernel
theorem dX8_removeStream_123 : decode cX8_removeStream 123 = .ok (.aload_n 0, 1) := by decide +kernel
theorem dX8_removeStream_124 : decode cX8_removeStream 124 = .ok (.getfield 69, 3) := by decide +kernel
theorem dX8_removeStream_127 : decode cX8_removeStream 127 = .ok (.iconst 4, 1) := by decide +kernel
theorem dX8_removeStream_128 : decode cX8_removeStream 128 = .ok (.iload_n 2, 1) := by decide +kernel
theorem dX8_removeStream_129 : decode cX8_removeStream 129 = .ok (.imul, 1) := by decide +kernel
theorem dX8_removeStream_130 : decode cX8_removeStream 130 = .ok (.iload_n 3, 1) := by decide +kernel
theorem dX8_removeStream_131 : decode cX8_removeStream 131 = .ok (.iadd, 1) := by decide +kernel
theorem dX8_removeStream_132 : decode cX8_removeStream 132 = .ok (.aload_n 0, 1) := by decide +kernel
theorem dX8_removeStream_133 : decode cX8_removeStream 133 = .ok (.getfield 69, 3) := by decide +kernel
theorem dX8_removeStream_136 : decode cX8_removeStream 136 = .ok (.iconst 4, 1) := by decide +kernel
theorem dX8_removeStream_137 : decode cX8_removeStream 137 = .ok (.iload_n 2, 1) := by decide +kernel
theorem dX8_removeStream_138 : decode cX8_removeStream 138 = .ok (.imul, 1) := by decide +kernel
theorem dX8_removeStream_139 : decode cX8_removeStream 139 = .ok (.iconst 4, 1) := by decide +kernel
theorem dX8_removeStream_140 : decode cX8_removeStream 140 = .ok (.iadd, 1) := by decide +kernel
theorem dX8_removeStream_141 : decode cX8_removeStream 141 = .ok (.iload_n 3, 1) := by decide +kernel
theorem dX8_removeStream_142 : decode cX8_removeStream 142 = .ok (.iadd, 1) := by decide +kernel
theorem dX8_removeStream_143 : decode cX8_removeStream 143 = .ok (.iaload, 1) := by decide +kernel
theorem dX8_removeStream_144 : decode cX8_removeStream 144 = .ok (.iastore, 1) := by decide +kernel
theorem dX8_removeStream_145 : decode cX8_removeStream 145 = .ok (.iinc 3 1, 3) := by decide +kernel
theorem dX8_removeStream_148 : decode cX8_removeStream 148 = .ok (.goto (-30), 3) := by decide +kernel
theorem dX8_removeStream_151 : decode cX8_removeStream 151 = .ok (.iinc 2 1, 3) := by decide +kernel
theorem dX8_removeStream_154 : decode cX8_removeStream 154 = .ok (.goto (-130), 3) := by decide +kernel
theorem dX8_removeStream_157 : decode cX8_removeStream 157 = .ok (.aload_n 0, 1) := by decide +kernel
theorem dX8_removeStream_158 : decode cX8_removeStream 158 = .ok (.iconst 0, 1) := by decide +kernel
theorem dX8_removeStream_159 : decode cX8_removeStream 159 = .ok (.putfield 144, 3) := by decide +kernel
theorem dX8_removeStream_162 : decode cX8_removeStream 162 = .ok (.aload_n 0, 1) := by decide +kernel
theorem dX8_removeStream_163 : decode cX8_removeStream 163 = .ok (.getfield 141, 3) := by decide +kernel
theorem dX8_removeStream_166 : decode cX8_removeStream 166 = .ok (.ireturn, 1) := by decide +kernel
set_option maxRecDepth 20000 in
theorem ggX8_waitingPackets_X8_isStream : GoodIn wsX8_waitingPackets wsX8_isStream := goodIn_r _ [6, 7, 8, 9, 5, 10, 11, 12, 13, 14, 15, 16, 17, 18, 19, 20, 21, 22, 23, 24, 25, 26, 27, 28, 29, 30, 31, 32, 33, 34, 35, 36, 37, 38, 39, 40, 41, 42, 43, 44, 45, 46, 47, 48, 49, 50, 51, 52] (by decide +kernel) (by decide +kernel)
set_option maxRecDepth 20000 in
theorem gX8_waitingPackets_X8_isStream : GoodIn wsX8_waitingPackets (wsV RX8 175 RX8 yX8_isStream wsX8_isStream) := goodIn_app (goodIn_of _ (by decide +kernel)) ggX8_waitingPackets_X8_isStream
theorem dX8_waitingPackets_0 : decode cX8_waitingPackets 0 = .ok (.aload_n 0, 1) := by decide +kernel
theorem dX8_waitingPackets_1 : decode cX8_waitingPackets 1 = .ok (.iload_n 1, 1) := by decide +kernel
theorem dX8_waitingPackets_2 : decode cX8_waitingPackets 2 = .ok (.invokevirtual 175, 3) := by decide +kernel
theorem dX8_waitingPackets_5 : decode cX8_waitingPackets 5 = .ok (.ifCond .eq 12, 3) := by decide +kernel
theorem dX8_waitingPackets_8 : decode cX8_waitingPackets 8 = .ok (.aload_n 0, 1) := by decide +kernel
theorem dX8_waitingPackets_9 : decode cX8_waitingPackets 9 = .ok (.getfield 66, 3) := by decide +kernel
theorem dX8_waitingPackets_12 : decode cX8_waitingPackets 12 = .ok (.iload_n 1, 1) := by decide +kernel
theorem dX8_waitingPackets_13 : decode cX8_waitingPackets 13 = .ok (.iaload, 1) := by decide +kernel
theorem dX8_waitingPackets_14 : decode cX8_waitingPackets 14 = .ok (.goto 6, 3) := by decide +kernel
theorem dX8_waitingPackets_17 : decode cX8_waitingPackets 17 = .ok (.sipush (-1001), 3) := by decide +kernel
theorem dX8_waitingPackets_20 : decode cX8_waitingPackets 20 = .ok (.ireturn, 1) := by decide +kernel
set_option maxRecDepth 20000 in
theorem ggX8_deliveredPackets_X8_isStream : GoodIn wsX8_deliveredPackets wsX8_isStream := goodIn_r _ [6, 7, 8, 9, 5, 10, 11, 12, 13, 14, 15, 16, 17, 18, 19, 20, 21, 22, 23, 24, 25, 26, 27, 28, 29, 30, 31, 32, 33, 34, 35, 36, 37, 38, 39, 40, 41, 42, 43, 44, 45, 46, 47, 48, 49, 50, 51, 52] (by decide +kernel) (by decide +kernel)
set_option maxRecDepth 20000 in
theorem gX8_deliveredPackets_X8_isStream : GoodIn wsX8_deliveredPackets (wsV RX8 175 RX8 yX8_isStream wsX8_isStream) := goodIn_app (goodIn_of _ (by decide +kernel)) ggX8_deliveredPackets_X8_isStream
theorem dX8_deliveredPackets_0 : decode cX8_deliveredPackets 0 = .ok (.aload_n 0, 1) := by decide +kernel
theorem dX8_deliveredPackets_1 : decode cX8_deliveredPackets 1 = .ok (.iload_n 1, 1) := by decide +kernel
theorem dX8_deliveredPackets_2 : decode cX8_deliveredPackets 2 = .ok (.invokevirtual 175, 3) := by decide +kernel
theorem dX8_deliveredPackets_5 : decode cX8_deliveredPackets 5 = .ok (.ifCond .eq 12, 3) := by decide +kernel
theorem dX8_deliveredPackets_8 : decode cX8_deliveredPackets 8 = .ok (.aload_n 0, 1) := by decide +kernel
theorem dX8_deliveredPackets_9 : decode cX8_deliveredPackets 9 = .ok (.getfield 72, 3) := by decide +kernel
theorem dX8_deliveredPackets_12 : decode cX8_deliveredPackets 12 = .ok (.iload_n 1, 1) := by decide +kernel
theorem dX8_deliveredPackets_13 : decode cX8_deliveredPackets 13 = .ok (.iaload, 1) := by decide +kernel
theorem dX8_deliveredPackets_14 : decode cX8_deliveredPackets 14 = .ok (.goto 6, 3) := by decide +kernel
theorem dX8_deliveredPackets_17 : decode cX8_deliveredPackets 17 = .ok (.sipush (-1001), 3) := by decide +kernel
theorem dX8_deliveredPackets_20 : decode cX8_deliveredPackets 20 = .ok (.ireturn, 1) := by decide +kernel
set_option maxRecDepth 20000 in
theorem ggX8_lostPackets_X8_isStream : GoodIn wsX8_lostPackets wsX8_isStream := goodIn_r _ [6, 7, 8, 9, 5, 10, 11, 12, 13, 14, 15, 16, 17, 18, 19, 20, 21, 22, 23, 24, 25, 26, 27, 28, 29, 30, 31, 32, 33, 34, 35, 36, 37, 38, 39, 40, 41, 42, 43, 44, 45, 46, 47, 48, 49, 50, 51, 52] (by decide +kernel) (by decide +kernel)
set_option maxRecDepth 20000 in
theorem gX8_lostPackets_X8_isStream : GoodIn wsX8_lostPackets (wsV RX8 175 RX8 yX8_isStream wsX8_isStream) := goodIn_app (goodIn_of _ (by decide +kernel)) ggX8_lostPackets_X8_isStream
theorem dX8_lostPackets_0 : decode cX8_lostPackets 0 = .ok (.aload_n 0, 1) := by decide +kernel
theorem dX8_lostPackets_1 : decode cX8_lostPackets 1 = .ok (.iload_n 1, 1) := by decide +kernel
theorem dX8_lostPackets_2 : decode cX8_lostPackets 2 = .ok (.invokevirtual 175, 3) := by decide +kernel
theorem dX8_lostPackets_5 : decode cX8_lostPackets 5 = .ok (.ifCond .eq 12, 3) := by decide +kernel
theorem dX8_lostPackets_8 : decode cX8_lostPackets 8 = .ok (.aload_n 0, 1) := by decide +kernel
theorem dX8_lostPackets_9 : decode cX8_lostPackets 9 = .ok (.getfield 75, 3) := by decide +kernel
theorem dX8_lostPackets_12 : decode cX8_lostPackets 12 = .ok (.iload_n 1, 1) := by decide +kernel
theorem dX8_lostPackets_13 : decode cX8_lostPackets 13 = .ok (.iaload, 1) := by decide +kernel
theorem dX8_lostPackets_14 : decode cX8_lostPackets 14 = .ok (.goto 6, 3) := by decide +kernel
theorem dX8_lostPackets_17 : decode cX8_lostPackets 17 = .ok (.sipush (-1001), 3) := by decide +kernel
theorem dX8_lostPackets_20 : decode cX8_lostPackets 20 = .ok (.ireturn, 1) := by decide +kernel
theorem dX8_generate_0 : decode cX8_generate 0 = .ok (.iconst 0, 1) := by decide +kernel
theorem dX8_generate_1 : decode cX8_generate 1 = .ok (.istore_n 1, 1) := by decide +kernel
theorem dX8_generate_2 : decode cX8_generate 2 = .ok (.iload_n 1, 1) := by decide +kernel
theorem dX8_generate_3 : decode cX8_generate 3 = .ok (.aload_n 0, 1) := by decide +kernel
theorem dX8_generate_4 : decode cX8_generate 4 = .ok (.getfield 141, 3) := by decide +kernel
theorem dX8_generate_7 : decode cX8_generate 7 = .ok (.if_icmp .ge 95, 3) := by decide +kernel
theorem dX8_generate_10 : decode cX8_generate 10 = .ok (.aload_n 0, 1) := by decide +kernel
theorem dX8_generate_11 : decode cX8_generate 11 = .ok (.getfield 138, 3) := by decide +kernel
theorem dX8_generate_14 : decode cX8_generate 14 = .ok (.aload_n 0, 1) := by decide +kernel
theorem dX8_generate_15 : decode cX8_generate 15 = .ok (.getfield 63, 3) := by decide +kernel
theorem dX8_generate_18 : decode cX8_generate 18 = .ok (.iload_n 1, 1) := by decide +kernel
theorem dX8_generate_19 : decode cX8_generate 19 = .ok (.iaload, 1) := by decide +kernel
theorem dX8_generate_20 : decode cX8_generate 20 = .ok (.if_icmp .lt 76, 3) := by decide +kernel
theorem dX8_generate_23 : decode cX8_generate 23 = .ok (.aload_n 0, 1) := by decide +kernel
theorem dX8_generate_24 : decode cX8_generate 24 = .ok (.getfield 138, 3) := by decide +kernel
theorem dX8_generate_27 : decode cX8_generate 27 = .ok (.aload_n 0, 1) := by decide +kernel
theorem dX8_generate_28 : decode cX8_generate 28 = .ok (.getfield 63, 3) := by decide +kernel
theorem dX8_generate_31 : decode cX8_generate 31 = .ok (.iload_n 1, 1) := by decide +kernel
theorem dX8_generate_32 : decode cX8_generate 32 = .ok (.iaload, 1) := by decide +kernel
theorem dX8_generate_33 : decode cX8_generate 33 = .ok (.isub, 1) := by decide +kernel
theorem dX8_generate_34 : decode cX8_generate 34 = .ok (.aload_n 0, 1) := by decide +kernel
theorem dX8_generate_35 : decode cX8_generate 35 = .ok (.getfield 60, 3) := by decide +kernel
theorem dX8_generate_38 : decode cX8_generate 38 = .ok (.iload_n 1, 1) := by decide +kernel
theorem dX8_generate_39 : decode cX8_generate 39 = .ok (.iaload, 1) := by decide +kernel
theorem dX8_generate_40 : decode cX8_generate 40 = .ok (.irem, 1) := by decide +kernel
theorem dX8_generate_41 : decode cX8_generate 41 = .ok (.ifCond .ne 55, 3) := by decide +kernel
theorem dX8_generate_44 : decode cX8_generate 44 = .ok (.aload_n 0, 1) := by decide +kernel
theorem dX8_generate_45 : decode cX8_generate 45 = .ok (.getfield 66, 3) := by decide +kernel
theorem dX8_generate_48 : decode cX8_generate 48 = .ok (.iload_n 1, 1) := by decide +kernel
theorem dX8_generate_49 : decode cX8_generate 49 = .ok (.iaload, 1) := by decide +kernel
theorem dX8_generate_50 : decode cX8_generate 50 = .ok (.iconst 4, 1) := by decide +kernel
theorem dX8_generate_51 : decode cX8_generate 51 = .ok (.if_icmp .ne 16, 3) := by decide +kernel
theorem dX8_generate_54 : decode cX8_generate 54 = .ok (.aload_n 0, 1) := by decide +kernel
theorem dX8_generate_55 : decode cX8_generate 55 = .ok (.getfield 75, 3) := by decide +kernel
theorem dX8_generate_58 : decode cX8_generate 58 = .ok (.iload_n 1, 1) := by decide +kernel
theorem dX8_generate_59 : decode cX8_generate 59 = .ok (.dup2, 1) := by decide +kernel
theorem dX8_generate_60 : decode cX8_generate 60 = .ok (.iaload, 1) := by decide +kernel
theorem dX8_generate_61 : decode cX8_generate 61 = .ok (.iconst 1, 1) := by decide +kernel
theorem dX8_generate_62 : decode cX8_generate 62 = .ok (.iadd, 1) := by decide +kernel
theorem dX8_generate_63 : decode cX8_generate 63 = .ok (.iastore, 1) := by decide +kernel
theorem dX8_generate_64 : decode cX8_generate 64 = .ok (.goto 32, 3) := by decide +kernel
theorem dX8_generate_67 : decode cX8_generate 67 = .ok (.aload_n 0, 1) := by decide +kernel
theorem dX8_generate_68 : decode cX8_generate 68 = .ok (.getfield 69, 3) := by decide +kernel
theorem dX8_generate_71 : decode cX8_generate 71 = .ok (.iconst 4, 1) := by decide +kernel
theorem dX8_generate_72 : decode cX8_generate 72 = .ok (.iload_n 1, 1) := by decide +kernel
theorem dX8_generate_73 : decode cX8_generate 73 = .ok (.imul, 1) := by decide +kernel
theorem dX8_generate_74 : decode cX8_generate 74 = .ok (.aload_n 0, 1) := by decide +kernel
theorem dX8_generate_75 : decode cX8_generate 75 = .ok (.getfield 66, 3) := by decide +kernel
theorem dX8_generate_78 : decode cX8_generate 78 = .ok (.iload_n 1, 1) := by decide +kernel
theorem dX8_generate_79 : decode cX8_generate 79 = .ok (.iaload, 1) := by decide +kernel
theorem dX8_generate_80 : decode cX8_generate 80 = .ok (.iadd, 1) := by decide +kernel
theorem dX8_generate_81 : decode cX8_generate 81 = .ok (.aload_n 0, 1) := by decide +kernel
theorem dX8_generate_82 : decode cX8_generate 82 = .ok (.getfield 138, 3) := by decide +kernel
theorem dX8_generate_85 : decode cX8_generate 85 = .ok (.iastore, 1) := by decide +kernel
theorem dX8_generate_86 : decode cX8_generate 86 = .ok (.aload_n 0, 1) := by decide +kernel
theorem dX8_generate_87 : decode cX8_generate 87 = .ok (.getfield 66, 3) := by decide +kernel
theorem dX8_generate_90 : decode cX8_generate 90 = .ok (.iload_n 1, 1) := by decide +kernel
theorem dX8_generate_91 : decode cX8_generate 91 = .ok (.dup2, 1) := by decide +kernel
theorem dX8_generate_92 : decode cX8_generate 92 = .ok (.iaload, 1) := by decide +kernel
theorem dX8_generate_93 : decode cX8_generate 93 = .ok (.iconst 1, 1) := by decide +kernel
theorem dX8_generate_94 : decode cX8_generate 94 = .ok (.iadd, 1) := by decide +kernel
theorem dX8_generate_95 : decode cX8_generate 95 = .ok (.iastore, 1) := by decide +kernel
theorem dX8_generate_96 : decode cX8_generate 96 = .ok (.iinc 1 1, 3) := by decide +kernel
theorem dX8_generate_99 : decode cX8_generate 99 = .ok (.goto (-97), 3) := by decide +kernel
theorem dX8_generate_102 : decode cX8_generate 102 = .ok (.return_, 1) := by decide +kernel
theorem dX8_isScheduled_0 : decode cX8_isScheduled 0 = .ok (.iconst 0, 1) := by decide +kernel
theorem dX8_isScheduled_1 : decode cX8_isScheduled 1 = .ok (.istore_n 2, 1) := by decide +kernel
theorem dX8_isScheduled_2 : decode cX8_isScheduled 2 = .ok (.iconst 0, 1) := by decide +kernel
theorem dX8_isScheduled_3 : decode cX8_isScheduled 3 = .ok (.istore_n 3, 1) := by decide +kernel
theorem dX8_isScheduled_4 : decode cX8_isScheduled 4 = .ok (.iload_n 3, 1) := by decide +kernel
theorem dX8_isScheduled_5 : decode cX8_isScheduled 5 = .ok (.aload_n 0, 1) := by decide +kernel
theorem dX8_isScheduled_6 : decode cX8_isScheduled 6 = .ok (.getfield 144, 3) := by decide +kernel
theorem dX8_isScheduled_9 : decode cX8_isScheduled 9 = .ok (.if_icmp .ge 29, 3) := by decide +kernel
theorem dX8_isScheduled_12 : decode cX8_isScheduled 12 = .ok (.iload_n 2, 1) := by decide +kernel
theorem dX8_isScheduled_13 : decode cX8_isScheduled 13 = .ok (.ifCond .ne 13, 3) := by decide +kernel
theorem dX8_isScheduled_16 : decode cX8_isScheduled 16 = .ok (.aload_n 0, 1) := by decide +kernel
theorem dX8_isScheduled_17 : decode cX8_isScheduled 17 = .ok (.getfield 78, 3) := by decide +kernel
theorem dX8_isScheduled_20 : decode cX8_isScheduled 20 = .ok (.iload_n 3, 1) := by decide +kernel
theorem dX8_isScheduled_21 : decode cX8_isScheduled 21 = .ok (.iaload, 1) := by decide +kernel
theorem dX8_isScheduled_22 : decode cX8_isScheduled 22 = .ok (.iload_n 1, 1) := by decide +kernel
theorem dX8_isScheduled_23 : decode cX8_isScheduled 23 = .ok (.if_icmp .ne 7, 3) := by decide +kernel
theorem dX8_isScheduled_26 : decode cX8_isScheduled 26 = .ok (.iconst 1, 1) := by decide +kernel
theorem dX8_isScheduled_27 : decode cX8_isScheduled 27 = .ok (.goto 4, 3) := by decide +kernel
theorem dX8_isScheduled_30 : decode cX8_isScheduled 30 = .ok (.iconst 0, 1) := by decide +kernel
theorem dX8_isScheduled_31 : decode cX8_isScheduled 31 = .ok (.istore_n 2, 1) := by decide +kernel
theorem dX8_isScheduled_32 : decode cX8_isScheduled 32 = .ok (.iinc 3 1, 3) := by decide +kernel
theorem dX8_isScheduled_35 : decode cX8_isScheduled 35 = .ok (.goto (-31), 3) := by decide +kernel
theorem dX8_isScheduled_38 : decode cX8_isScheduled 38 = .ok (.iload_n 2, 1) := by decide +kernel
theorem dX8_isScheduled_39 : decode cX8_isScheduled 39 = .ok (.ireturn, 1) := by decide +kernel
set_option maxRecDepth 20000 in
theorem ggX8_buildSchedule_X8_isScheduled : GoodIn wsX8_buildSchedule wsX8_isScheduled := goodIn_r _ [11, 1, 6, 12, 13, 14, 15, 16, 17, 18, 19, 20, 21, 22, 23, 24, 25, 26, 27, 28, 29, 30, 31, 32, 33, 34, 35, 36, 37, 38, 39, 40, 41, 42, 43, 44, 45, 46, 47, 48, 49, 50, 51, 52, 53] (by decide +kernel) (by decide +kernel)
set_option maxRecDepth 20000 in
theorem gX8_buildSchedule_X8_isScheduled : GoodIn wsX8_buildSchedule (wsV RX8 178 RX8 yX8_isScheduled wsX8_isScheduled) := goodIn_app (goodIn_of _ (by decide +kernel)) ggX8_buildSchedule_X8_isScheduled
theorem dX8_buildSchedule_0 : decode cX8_buildSchedule 0 = .ok (.aload_n 0, 1) := by decide +kernel
theorem dX8_buildSchedule_1 : decode cX8_buildSchedule 1 = .ok (.iconst 0, 1) := by decide +kernel
theorem dX8_buildSchedule_2 : decode cX8_buildSchedule 2 = .ok (.putfield 144, 3) := by decide +kernel
theorem dX8_buildSchedule_5 : decode cX8_buildSchedule 5 = .ok (.iconst 1, 1) := by decide +kernel
theorem dX8_buildSchedule_6 : decode cX8_buildSchedule 6 = .ok (.istore_n 1, 1) := by decide +kernel
theorem dX8_buildSchedule_7 : decode cX8_buildSchedule 7 = .ok (.iload_n 1, 1) := by decide +kernel
theorem dX8_buildSchedule_8 : decode cX8_buildSchedule 8 = .ok (.ifCond .eq 129, 3) := by decide +kernel
theorem dX8_buildSchedule_11 : decode cX8_buildSchedule 11 = .ok (.aload_n 0, 1) := by decide +kernel
theorem dX8_buildSchedule_12 : decode cX8_buildSchedule 12 = .ok (.getfield 144, 3) := by decide +kernel
theorem dX8_buildSchedule_15 : decode cX8_buildSchedule 15 = .ok (.aload_n 0, 1) := by decide +kernel
theorem dX8_buildSchedule_16 : decode cX8_buildSchedule 16 = .ok (.getfield 51, 3) := by decide +kernel
theorem dX8_buildSchedule_19 : decode cX8_buildSchedule 19 = .ok (.if_icmp .ge 118, 3) := by decide +kernel
theorem dX8_buildSchedule_22 : decode cX8_buildSchedule 22 = .ok (.iconst (-1), 1) := by decide +kernel
theorem dX8_buildSchedule_23 : decode cX8_buildSchedule 23 = .ok (.istore_n 2, 1) := by decide +kernel
theorem dX8_buildSchedule_24 : decode cX8_buildSchedule 24 = .ok (.iconst 0, 1) := by decide +kernel
theorem dX8_buildSchedule_25 : decode cX8_buildSchedule 25 = .ok (.istore_n 3, 1) := by decide +kernel
theorem dX8_buildSchedule_26 : decode cX8_buildSchedule 26 = .ok (.iload_n 3, 1) := by decide +kernel
theorem dX8_buildSchedule_27 : decode cX8_buildSchedule 27 = .ok (.aload_n 0, 1) := by decide +kernel
theorem dX8_buildSchedule_28 : decode cX8_buildSchedule 28 = .ok (.getfield 141, 3) := by decide +kernel
theorem dX8_buildSchedule_31 : decode cX8_buildSchedule 31 = .ok (.if_icmp .ge 68, 3) := by decide +kernel
theorem dX8_buildSchedule_34 : decode cX8_buildSchedule 34 = .ok (.aload_n 0, 1) := by decide +kernel
theorem dX8_buildSchedule_35 : decode cX8_buildSchedule 35 = .ok (.getfield 66, 3) := by decide +kernel
theorem dX8_buildSchedule_38 : decode cX8_buildSchedule 38 = .ok (.iload_n 3, 1) := by decide +kernel
theorem dX8_buildSchedule_39 : decode cX8_buildSchedule 39 = .ok (.iaload, 1) := by decide +kernel
theorem dX8_buildSchedule_40 : decode cX8_buildSchedule 40 = .ok (.ifCond .le 15, 3) := by decide +kernel
theorem dX8_buildSchedule_43 : decode cX8_buildSchedule 43 = .ok (.aload_n 0, 1) := by decide +kernel
theorem dX8_buildSchedule_44 : decode cX8_buildSchedule 44 = .ok (.iload_n 3, 1) := by decide +kernel
theorem dX8_buildSchedule_45 : decode cX8_buildSchedule 45 = .ok (.invokevirtual 178, 3) := by decide +kernel
theorem dX8_buildSchedule_48 : decode cX8_buildSchedule 48 = .ok (.ifCond .ne 7, 3) := by decide +kernel
theorem dX8_buildSchedule_51 : decode cX8_buildSchedule 51 = .ok (.iconst 1, 1) := by decide +kernel
theorem dX8_buildSchedule_52 : decode cX8_buildSchedule 52 = .ok (.goto 4, 3) := by decide +kernel
theorem dX8_buildSchedule_55 : decode cX8_buildSchedule 55 = .ok (.iconst 0, 1) := by decide +kernel
theorem dX8_buildSchedule_56 : decode cX8_buildSchedule 56 = .ok (.istore 4, 2) := by decide +kernel
theorem dX8_buildSchedule_58 : decode cX8_buildSchedule 58 = .ok (.iload 4, 2) := by decide +kernel
theorem dX8_buildSchedule_60 : decode cX8_buildSchedule 60 = .ok (.ifCond .eq 31, 3) := by decide +kernel
theorem dX8_buildSchedule_63 : decode cX8_buildSchedule 63 = .ok (.iload_n 2, 1) := by decide +kernel
theorem dX8_buildSchedule_64 : decode cX8_buildSchedule 64 = .ok (.iconst (-1), 1) := by decide +kernel
theorem dX8_buildSchedule_65 : decode cX8_buildSchedule 65 = .ok (.if_icmp .eq 22, 3) := by decide +kernel
theorem dX8_buildSchedule_68 : decode cX8_buildSchedule 68 = .ok (.aload_n 0, 1) := by decide +kernel
theorem dX8_buildSchedule_69 : decode cX8_buildSchedule 69 = .ok (.getfield 69, 3) := by decide +kernel
theorem dX8_buildSchedule_72 : decode cX8_buildSchedule 72 = .ok (.iconst 4, 1) := by decide +kernel
theorem dX8_buildSchedule_73 : decode cX8_buildSchedule 73 = .ok (.iload_n 3, 1) := by decide +kernel
theorem dX8_buildSchedule_74 : decode cX8_buildSchedule 74 = .ok (.imul, 1) := by decide +kernel
theorem dX8_buildSchedule_75 : decode cX8_buildSchedule 75 = .ok (.iaload, 1) := by decide +kernel
theorem dX8_buildSchedule_76 : decode cX8_buildSchedule 76 = .ok (.aload_n 0, 1) := by decide +kernel
theorem dX8_buildSchedule_77 : decode cX8_buildSchedule 77 = .ok (.getfield 69, 3) := by decide +kernel
theorem dX8_buildSchedule_80 : decode cX8_buildSchedule 80 = .ok (.iconst 4, 1) := by decide +kernel
theorem dX8_buildSchedule_81 : decode cX8_buildSchedule 81 = .ok (.iload_n 2, 1) := by decide +kernel
theorem dX8_buildSchedule_82 : decode cX8_buildSchedule 82 = .ok (.imul, 1) := by decide +kernel
theorem dX8_buildSchedule_83 : decode cX8_buildSchedule 83 = .ok (.iaload, 1) := by decide +kernel
theorem dX8_buildSchedule_84 : decode cX8_buildSchedule 84 = .ok (.if_icmp .ge 7, 3) := by decide +kernel
theorem dX8_buildSchedule_87 : decode cX8_buildSchedule 87 = .ok (.iload_n 3, 1) := by decide +kernel
theorem dX8_buildSchedule_88 : decode cX8_buildSchedule 88 = .ok (.goto 4, 3) := by decide +kernel
theorem dX8_buildSchedule_91 : decode cX8_buildSchedule 91 = .ok (.iload_n 2, 1) := by decide +kernel
theorem dX8_buildSchedule_92 : decode cX8_buildSchedule 92 = .ok (.istore_n 2, 1) := by decide +kernel
theorem dX8_buildSchedule_93 : decode cX8_buildSchedule 93 = .ok (.iinc 3 1, 3) := by decide +kernel
theorem dX8_buildSchedule_96 : decode cX8_buildSchedule 96 = .ok (.goto (-70), 3) := by decide +kernel
theorem dX8_buildSchedule_99 : decode cX8_buildSchedule 99 = .ok (.iload_n 2, 1) := by decide +kernel
theorem dX8_buildSchedule_100 : decode cX8_buildSchedule 100 = .ok (.iconst (-1), 1) := by decide +kernel
theorem dX8_buildSchedule_101 : decode cX8_buildSchedule 101 = .ok (.if_icmp .eq 7, 3) := by decide +kernel
theorem dX8_buildSchedule_104 : decode cX8_buildSchedule 104 = .ok (.iconst 1, 1) := by decide +kernel
theorem dX8_buildSchedule_105 : decode cX8_buildSchedule 105 = .ok (.goto 4, 3) := by decide +kernel
theorem dX8_buildSchedule_108 : decode cX8_buildSchedule 108 = .ok (.iconst 0, 1) := by decide +kernel
theorem dX8_buildSchedule_109 : decode cX8_buildSchedule 109 = .ok (.istore_n 1, 1) := by decide +kernel
theorem dX8_buildSchedule_110 : decode cX8_buildSchedule 110 = .ok (.iload_n 1, 1) := by decide +kernel
theorem dX8_buildSchedule_111 : decode cX8_buildSchedule 111 = .ok (.ifCond .eq 23, 3) := by decide +kernel
theorem dX8_buildSchedule_114 : decode cX8_buildSchedule 114 = .ok (.aload_n 0, 1) := by decide +kernel
theorem dX8_buildSchedule_115 : decode cX8_buildSchedule 115 = .ok (.getfield 78, 3) := by decide +kernel
theorem dX8_buildSchedule_118 : decode cX8_buildSchedule 118 = .ok (.aload_n 0, 1) := by decide +kernel
theorem dX8_buildSchedule_119 : decode cX8_buildSchedule 119 = .ok (.getfield 144, 3) := by decide +kernel
theorem dX8_buildSchedule_122 : decode cX8_buildSchedule 122 = .ok (.iload_n 2, 1) := by decide +kernel
theorem dX8_buildSchedule_123 : decode cX8_buildSchedule 123 = .ok (.iastore, 1) := by decide +kernel
theorem dX8_buildSchedule_124 : decode cX8_buildSchedule 124 = .ok (.aload_n 0, 1) := by decide +kernel
theorem dX8_buildSchedule_125 : decode cX8_buildSchedule 125 = .ok (.dup, 1) := by decide +kernel
theorem dX8_buildSchedule_126 : decode cX8_buildSchedule 126 = .ok (.getfield 144, 3) := by decide +kernel
theorem dX8_buildSchedule_129 : decode cX8_buildSchedule 129 = .ok (.iconst 1, 1) := by decide +kernel
theorem dX8_buildSchedule_130 : decode cX8_buildSchedule 130 = .ok (.iadd, 1) := by decide +kernel
theorem dX8_buildSchedule_131 : decode cX8_buildSchedule 131 = .ok (.putfield 144, 3) := by decide +kernel
theorem dX8_buildSchedule_134 : decode cX8_buildSchedule 134 = .ok (.goto (-127), 3) := by decide +kernel
theorem dX8_buildSchedule_137 : decode cX8_buildSchedule 137 = .ok (.return_, 1) := by decide +kernel
theorem dX8_takePacket_0 : decode cX8_takePacket 0 = .ok (.iconst 1, 1) := by decide +kernel
end
section
theorem dX8_takePacket_1 : decode cX8_takePacket 1 = .ok (.istore_n 2, 1) := by decide +kernel
theorem dX8_takePacket_2 : decode cX8_takePacket 2 = .ok (.iload_n 2, 1) := by decide +kernel
theorem dX8_takePacket_3 : decode cX8_takePacket 3 = .ok (.aload_n 0, 1) := by decide +kernel
theorem dX8_takePacket_4 : decode cX8_takePacket 4 = .ok (.getfield 66, 3) := by decide +kernel
theorem dX8_takePacket_7 : decode cX8_takePacket 7 = .ok (.iload_n 1, 1) := by decide +kernel
theorem dX8_takePacket_8 : decode cX8_takePacket 8 = .ok (.iaload, 1) := by decide +kernel
theorem dX8_takePacket_9 : decode cX8_takePacket 9 = .ok (.if_icmp .ge 31, 3) := by decide +kernel
theorem dX8_takePacket_12 : decode cX8_takePacket 12 = .ok (.aload_n 0, 1) := by decide +kernel
theorem dX8_takePacket_13 : decode cX8_takePacket 13 = .ok (.getfield 69, 3) := by decide +kernel
theorem dX8_takePacket_16 : decode cX8_takePacket 16 = .ok (.iconst 4, 1) := by decide +kernel
theorem dX8_takePacket_17 : decode cX8_takePacket 17 = .ok (.iload_n 1, 1) := by decide +kernel
theorem dX8_takePacket_18 : decode cX8_takePacket 18 = .ok (.imul, 1) := by decide +kernel
theorem dX8_takePacket_19 : decode cX8_takePacket 19 = .ok (.iload_n 2, 1) := by decide +kernel
theorem dX8_takePacket_20 : decode cX8_takePacket 20 = .ok (.iadd, 1) := by decide +kernel
theorem dX8_takePacket_21 : decode cX8_takePacket 21 = .ok (.iconst 1, 1) := by decide +kernel
theorem dX8_takePacket_22 : decode cX8_takePacket 22 = .ok (.isub, 1) := by decide +kernel
theorem dX8_takePacket_23 : decode cX8_takePacket 23 = .ok (.aload_n 0, 1) := by decide +kernel
theorem dX8_takePacket_24 : decode cX8_takePacket 24 = .ok (.getfield 69, 3) := by decide +kernel
theorem dX8_takePacket_27 : decode cX8_takePacket 27 = .ok (.iconst 4, 1) := by decide +kernel
theorem dX8_takePacket_28 : decode cX8_takePacket 28 = .ok (.iload_n 1, 1) := by decide +kernel
theorem dX8_takePacket_29 : decode cX8_takePacket 29 = .ok (.imul, 1) := by decide +kernel
theorem dX8_takePacket_30 : decode cX8_takePacket 30 = .ok (.iload_n 2, 1) := by decide +kernel
theorem dX8_takePacket_31 : decode cX8_takePacket 31 = .ok (.iadd, 1) := by decide +kernel
theorem dX8_takePacket_32 : decode cX8_takePacket 32 = .ok (.iaload, 1) := by decide +kernel
theorem dX8_takePacket_33 : decode cX8_takePacket 33 = .ok (.iastore, 1) := by decide +kernel
theorem dX8_takePacket_34 : decode cX8_takePacket 34 = .ok (.iinc 2 1, 3) := by decide +kernel
theorem dX8_takePacket_37 : decode cX8_takePacket 37 = .ok (.goto (-35), 3) := by decide +kernel
theorem dX8_takePacket_40 : decode cX8_takePacket 40 = .ok (.aload_n 0, 1) := by decide +kernel
theorem dX8_takePacket_41 : decode cX8_takePacket 41 = .ok (.getfield 66, 3) := by decide +kernel
theorem dX8_takePacket_44 : decode cX8_takePacket 44 = .ok (.iload_n 1, 1) := by decide +kernel
theorem dX8_takePacket_45 : decode cX8_takePacket 45 = .ok (.dup2, 1) := by decide +kernel
theorem dX8_takePacket_46 : decode cX8_takePacket 46 = .ok (.iaload, 1) := by decide +kernel
theorem dX8_takePacket_47 : decode cX8_takePacket 47 = .ok (.iconst 1, 1) := by decide +kernel
theorem dX8_takePacket_48 : decode cX8_takePacket 48 = .ok (.isub, 1) := by decide +kernel
theorem dX8_takePacket_49 : decode cX8_takePacket 49 = .ok (.iastore, 1) := by decide +kernel
theorem dX8_takePacket_50 : decode cX8_takePacket 50 = .ok (.return_, 1) := by decide +kernel
set_option maxRecDepth 20000 in
theorem ggX8_spreadSchedule_X8_buildSchedule : GoodIn wsX8_spreadSchedule wsX8_buildSchedule := goodIn_r _ [12, 3, 13, 14, 15, 16, 17, 18, 19, 20, 11, 21, 58, 59, 60, 61, 62, 63, 64, 65, 66, 67, 68, 69, 70, 71, 72, 73, 74, 75, 76, 77, 78, 79, 80, 81, 82, 83, 84, 85, 86, 87, 88, 89, 90, 91, 92, 93, 94, 95, 96, 97, 98, 99] (by decide +kernel) (by decide +kernel)
set_option maxRecDepth 20000 in
theorem gX8_spreadSchedule_X8_buildSchedule : GoodIn wsX8_spreadSchedule (wsV RX8 181 RX8 yX8_buildSchedule wsX8_buildSchedule) := goodIn_app (goodIn_of _ (by decide +kernel)) ggX8_spreadSchedule_X8_buildSchedule
set_option maxRecDepth 20000 in
theorem ggX8_spreadSchedule_X8_floodNow : GoodIn wsX8_spreadSchedule wsX8_floodNow := goodIn_r _ [25, 4, 6, 26, 27, 1, 28, 29, 30, 31, 32, 11, 33, 34, 35, 36, 37, 38, 39, 40, 41, 42, 43, 44, 45, 46, 47, 48, 49, 50, 51, 52, 53, 54, 55, 56, 57, 58, 59, 60, 61, 62, 63, 64, 65, 66, 67, 68, 69, 70, 71, 72, 73, 74, 75, 76, 77, 78, 79, 80, 81, 82, 83, 84, 85, 86, 87, 88, 89, 90, 91, 92, 93, 94, 95, 96, 97, 98, 99] (by decide +kernel) (by decide +kernel)
set_option maxRecDepth 20000 in
theorem gX8_spreadSchedule_X8_floodNow : GoodIn wsX8_spreadSchedule (wsV RX8 168 RX8 yX8_floodNow wsX8_floodNow) := goodIn_app (goodIn_of _ (by decide +kernel)) ggX8_spreadSchedule_X8_floodNow
theorem dX8_spreadSchedule_0 : decode cX8_spreadSchedule 0 = .ok (.aload_n 0, 1) := by decide +kernel
theorem dX8_spreadSchedule_1 : decode cX8_spreadSchedule 1 = .ok (.getfield 25, 3) := by decide +kernel
theorem dX8_spreadSchedule_4 : decode cX8_spreadSchedule 4 = .ok (.aload_n 0, 1) := by decide +kernel
theorem dX8_spreadSchedule_5 : decode cX8_spreadSchedule 5 = .ok (.getfield 41, 3) := by decide +kernel
theorem dX8_spreadSchedule_8 : decode cX8_spreadSchedule 8 = .ok (.baload, 1) := by decide +kernel
theorem dX8_spreadSchedule_9 : decode cX8_spreadSchedule 9 = .ok (.istore_n 1, 1) := by decide +kernel
theorem dX8_spreadSchedule_10 : decode cX8_spreadSchedule 10 = .ok (.aload_n 0, 1) := by decide +kernel
theorem dX8_spreadSchedule_11 : decode cX8_spreadSchedule 11 = .ok (.iconst 0, 1) := by decide +kernel
theorem dX8_spreadSchedule_12 : decode cX8_spreadSchedule 12 = .ok (.putfield 144, 3) := by decide +kernel
theorem dX8_spreadSchedule_15 : decode cX8_spreadSchedule 15 = .ok (.iload_n 1, 1) := by decide +kernel
theorem dX8_spreadSchedule_16 : decode cX8_spreadSchedule 16 = .ok (.ifCond .eq 18, 3) := by decide +kernel
theorem dX8_spreadSchedule_19 : decode cX8_spreadSchedule 19 = .ok (.aload_n 0, 1) := by decide +kernel
theorem dX8_spreadSchedule_20 : decode cX8_spreadSchedule 20 = .ok (.invokevirtual 181, 3) := by decide +kernel
theorem dX8_spreadSchedule_23 : decode cX8_spreadSchedule 23 = .ok (.aload_n 0, 1) := by decide +kernel
theorem dX8_spreadSchedule_24 : decode cX8_spreadSchedule 24 = .ok (.iconst 1, 1) := by decide +kernel
theorem dX8_spreadSchedule_25 : decode cX8_spreadSchedule 25 = .ok (.aload_n 0, 1) := by decide +kernel
theorem dX8_spreadSchedule_26 : decode cX8_spreadSchedule 26 = .ok (.getfield 41, 3) := by decide +kernel
theorem dX8_spreadSchedule_29 : decode cX8_spreadSchedule 29 = .ok (.ishl, 1) := by decide +kernel
theorem dX8_spreadSchedule_30 : decode cX8_spreadSchedule 30 = .ok (.invokevirtual 168, 3) := by decide +kernel
theorem dX8_spreadSchedule_33 : decode cX8_spreadSchedule 33 = .ok (.pop, 1) := by decide +kernel
theorem dX8_spreadSchedule_34 : decode cX8_spreadSchedule 34 = .ok (.iconst 0, 1) := by decide +kernel
theorem dX8_spreadSchedule_35 : decode cX8_spreadSchedule 35 = .ok (.istore_n 2, 1) := by decide +kernel
theorem dX8_spreadSchedule_36 : decode cX8_spreadSchedule 36 = .ok (.iload_n 2, 1) := by decide +kernel
theorem dX8_spreadSchedule_37 : decode cX8_spreadSchedule 37 = .ok (.aload_n 0, 1) := by decide +kernel
theorem dX8_spreadSchedule_38 : decode cX8_spreadSchedule 38 = .ok (.getfield 129, 3) := by decide +kernel
theorem dX8_spreadSchedule_41 : decode cX8_spreadSchedule 41 = .ok (.if_icmp .ge 79, 3) := by decide +kernel
theorem dX8_spreadSchedule_44 : decode cX8_spreadSchedule 44 = .ok (.aload_n 0, 1) := by decide +kernel
theorem dX8_spreadSchedule_45 : decode cX8_spreadSchedule 45 = .ok (.getfield 99, 3) := by decide +kernel
theorem dX8_spreadSchedule_48 : decode cX8_spreadSchedule 48 = .ok (.iload_n 2, 1) := by decide +kernel
theorem dX8_spreadSchedule_49 : decode cX8_spreadSchedule 49 = .ok (.iload_n 1, 1) := by decide +kernel
theorem dX8_spreadSchedule_50 : decode cX8_spreadSchedule 50 = .ok (.ifCond .eq 26, 3) := by decide +kernel
theorem dX8_spreadSchedule_53 : decode cX8_spreadSchedule 53 = .ok (.aload_n 0, 1) := by decide +kernel
theorem dX8_spreadSchedule_54 : decode cX8_spreadSchedule 54 = .ok (.getfield 25, 3) := by decide +kernel
theorem dX8_spreadSchedule_57 : decode cX8_spreadSchedule 57 = .ok (.iload_n 2, 1) := by decide +kernel
theorem dX8_spreadSchedule_58 : decode cX8_spreadSchedule 58 = .ok (.baload, 1) := by decide +kernel
theorem dX8_spreadSchedule_59 : decode cX8_spreadSchedule 59 = .ok (.ifCond .eq 17, 3) := by decide +kernel
theorem dX8_spreadSchedule_62 : decode cX8_spreadSchedule 62 = .ok (.aload_n 0, 1) := by decide +kernel
theorem dX8_spreadSchedule_63 : decode cX8_spreadSchedule 63 = .ok (.getfield 29, 3) := by decide +kernel
theorem dX8_spreadSchedule_66 : decode cX8_spreadSchedule 66 = .ok (.iload_n 2, 1) := by decide +kernel
theorem dX8_spreadSchedule_67 : decode cX8_spreadSchedule 67 = .ok (.iaload, 1) := by decide +kernel
theorem dX8_spreadSchedule_68 : decode cX8_spreadSchedule 68 = .ok (.iconst (-1), 1) := by decide +kernel
theorem dX8_spreadSchedule_69 : decode cX8_spreadSchedule 69 = .ok (.if_icmp .eq 7, 3) := by decide +kernel
theorem dX8_spreadSchedule_72 : decode cX8_spreadSchedule 72 = .ok (.iconst 1, 1) := by decide +kernel
theorem dX8_spreadSchedule_73 : decode cX8_spreadSchedule 73 = .ok (.goto 4, 3) := by decide +kernel
theorem dX8_spreadSchedule_76 : decode cX8_spreadSchedule 76 = .ok (.iconst 0, 1) := by decide +kernel
theorem dX8_spreadSchedule_77 : decode cX8_spreadSchedule 77 = .ok (.bastore, 1) := by decide +kernel
theorem dX8_spreadSchedule_78 : decode cX8_spreadSchedule 78 = .ok (.aload_n 0, 1) := by decide +kernel
theorem dX8_spreadSchedule_79 : decode cX8_spreadSchedule 79 = .ok (.getfield 38, 3) := by decide +kernel
theorem dX8_spreadSchedule_82 : decode cX8_spreadSchedule 82 = .ok (.iload_n 2, 1) := by decide +kernel
theorem dX8_spreadSchedule_83 : decode cX8_spreadSchedule 83 = .ok (.aload_n 0, 1) := by decide +kernel
theorem dX8_spreadSchedule_84 : decode cX8_spreadSchedule 84 = .ok (.getfield 99, 3) := by decide +kernel
theorem dX8_spreadSchedule_87 : decode cX8_spreadSchedule 87 = .ok (.iload_n 2, 1) := by decide +kernel
theorem dX8_spreadSchedule_88 : decode cX8_spreadSchedule 88 = .ok (.baload, 1) := by decide +kernel
theorem dX8_spreadSchedule_89 : decode cX8_spreadSchedule 89 = .ok (.ifCond .ne 12, 3) := by decide +kernel
theorem dX8_spreadSchedule_92 : decode cX8_spreadSchedule 92 = .ok (.aload_n 0, 1) := by decide +kernel
theorem dX8_spreadSchedule_93 : decode cX8_spreadSchedule 93 = .ok (.getfield 25, 3) := by decide +kernel
theorem dX8_spreadSchedule_96 : decode cX8_spreadSchedule 96 = .ok (.iload_n 2, 1) := by decide +kernel
theorem dX8_spreadSchedule_97 : decode cX8_spreadSchedule 97 = .ok (.baload, 1) := by decide +kernel
theorem dX8_spreadSchedule_98 : decode cX8_spreadSchedule 98 = .ok (.ifCond .ne 7, 3) := by decide +kernel
theorem dX8_spreadSchedule_101 : decode cX8_spreadSchedule 101 = .ok (.iconst 0, 1) := by decide +kernel
theorem dX8_spreadSchedule_102 : decode cX8_spreadSchedule 102 = .ok (.goto 11, 3) := by decide +kernel
theorem dX8_spreadSchedule_105 : decode cX8_spreadSchedule 105 = .ok (.aload_n 0, 1) := by decide +kernel
theorem dX8_spreadSchedule_106 : decode cX8_spreadSchedule 106 = .ok (.getfield 38, 3) := by decide +kernel
theorem dX8_spreadSchedule_109 : decode cX8_spreadSchedule 109 = .ok (.iload_n 2, 1) := by decide +kernel
theorem dX8_spreadSchedule_110 : decode cX8_spreadSchedule 110 = .ok (.iaload, 1) := by decide +kernel
theorem dX8_spreadSchedule_111 : decode cX8_spreadSchedule 111 = .ok (.iconst 1, 1) := by decide +kernel
theorem dX8_spreadSchedule_112 : decode cX8_spreadSchedule 112 = .ok (.iadd, 1) := by decide +kernel
theorem dX8_spreadSchedule_113 : decode cX8_spreadSchedule 113 = .ok (.iastore, 1) := by decide +kernel
theorem dX8_spreadSchedule_114 : decode cX8_spreadSchedule 114 = .ok (.iinc 2 1, 3) := by decide +kernel
theorem dX8_spreadSchedule_117 : decode cX8_spreadSchedule 117 = .ok (.goto (-81), 3) := by decide +kernel
theorem dX8_spreadSchedule_120 : decode cX8_spreadSchedule 120 = .ok (.return_, 1) := by decide +kernel
set_option maxRecDepth 20000 in
theorem ggX8_serve_X8_takePacket : GoodIn wsX8_serve wsX8_takePacket := goodIn_r _ [12, 13, 14, 52, 53, 54, 55, 56, 57, 58, 59, 60, 61, 62, 63, 64, 65, 66, 67, 68, 69, 70, 71, 72, 73, 74, 75, 76, 77, 78, 79, 80, 81, 82, 83, 84, 85, 86, 87, 88, 89, 90, 91, 92, 93] (by decide +kernel) (by decide +kernel)
set_option maxRecDepth 20000 in
theorem gX8_serve_X8_takePacket : GoodIn wsX8_serve (wsV RX8 184 RX8 yX8_takePacket wsX8_takePacket) := goodIn_app (goodIn_of _ (by decide +kernel)) ggX8_serve_X8_takePacket
set_option maxRecDepth 20000 in
theorem ggX8_serve_X8_floodNow : GoodIn wsX8_serve wsX8_floodNow := goodIn_r _ [18, 19, 4, 20, 21, 2, 22, 23, 24, 25, 26, 11, 27, 28, 29, 30, 31, 32, 33, 34, 35, 36, 37, 38, 39, 40, 41, 42, 43, 44, 45, 46, 47, 48, 49, 50, 51, 52, 53, 54, 55, 56, 57, 58, 59, 60, 61, 62, 63, 64, 65, 66, 67, 68, 69, 70, 71, 72, 73, 74, 75, 76, 77, 78, 79, 80, 81, 82, 83, 84, 85, 86, 87, 88, 89, 90, 91, 92, 93] (by decide +kernel) (by decide +kernel)
set_option maxRecDepth 20000 in
theorem gX8_serve_X8_floodNow : GoodIn wsX8_serve (wsV RX8 168 RX8 yX8_floodNow wsX8_floodNow) := goodIn_app (goodIn_of _ (by decide +kernel)) ggX8_serve_X8_floodNow
theorem dX8_serve_0 : decode cX8_serve 0 = .ok (.aload_n 0, 1) := by decide +kernel
theorem dX8_serve_1 : decode cX8_serve 1 = .ok (.iload_n 1, 1) := by decide +kernel
theorem dX8_serve_2 : decode cX8_serve 2 = .ok (.invokevirtual 184, 3) := by decide +kernel
theorem dX8_serve_5 : decode cX8_serve 5 = .ok (.aload_n 0, 1) := by decide +kernel
theorem dX8_serve_6 : decode cX8_serve 6 = .ok (.getfield 57, 3) := by decide +kernel
theorem dX8_serve_9 : decode cX8_serve 9 = .ok (.iload_n 1, 1) := by decide +kernel
theorem dX8_serve_10 : decode cX8_serve 10 = .ok (.iaload, 1) := by decide +kernel
theorem dX8_serve_11 : decode cX8_serve 11 = .ok (.istore_n 2, 1) := by decide +kernel
theorem dX8_serve_12 : decode cX8_serve 12 = .ok (.aload_n 0, 1) := by decide +kernel
theorem dX8_serve_13 : decode cX8_serve 13 = .ok (.getfield 25, 3) := by decide +kernel
theorem dX8_serve_16 : decode cX8_serve 16 = .ok (.iload_n 2, 1) := by decide +kernel
theorem dX8_serve_17 : decode cX8_serve 17 = .ok (.baload, 1) := by decide +kernel
theorem dX8_serve_18 : decode cX8_serve 18 = .ok (.ifCond .eq 16, 3) := by decide +kernel
theorem dX8_serve_21 : decode cX8_serve 21 = .ok (.aload_n 0, 1) := by decide +kernel
theorem dX8_serve_22 : decode cX8_serve 22 = .ok (.getfield 99, 3) := by decide +kernel
theorem dX8_serve_25 : decode cX8_serve 25 = .ok (.iload_n 2, 1) := by decide +kernel
theorem dX8_serve_26 : decode cX8_serve 26 = .ok (.baload, 1) := by decide +kernel
theorem dX8_serve_27 : decode cX8_serve 27 = .ok (.ifCond .eq 7, 3) := by decide +kernel
theorem dX8_serve_30 : decode cX8_serve 30 = .ok (.iconst 1, 1) := by decide +kernel
theorem dX8_serve_31 : decode cX8_serve 31 = .ok (.goto 4, 3) := by decide +kernel
theorem dX8_serve_34 : decode cX8_serve 34 = .ok (.iconst 0, 1) := by decide +kernel
theorem dX8_serve_35 : decode cX8_serve 35 = .ok (.istore_n 3, 1) := by decide +kernel
theorem dX8_serve_36 : decode cX8_serve 36 = .ok (.iload_n 3, 1) := by decide +kernel
theorem dX8_serve_37 : decode cX8_serve 37 = .ok (.ifCond .eq 11, 3) := by decide +kernel
theorem dX8_serve_40 : decode cX8_serve 40 = .ok (.aload_n 0, 1) := by decide +kernel
theorem dX8_serve_41 : decode cX8_serve 41 = .ok (.iconst 1, 1) := by decide +kernel
theorem dX8_serve_42 : decode cX8_serve 42 = .ok (.iload_n 2, 1) := by decide +kernel
theorem dX8_serve_43 : decode cX8_serve 43 = .ok (.ishl, 1) := by decide +kernel
theorem dX8_serve_44 : decode cX8_serve 44 = .ok (.invokevirtual 168, 3) := by decide +kernel
theorem dX8_serve_47 : decode cX8_serve 47 = .ok (.pop, 1) := by decide +kernel
theorem dX8_serve_48 : decode cX8_serve 48 = .ok (.iload_n 3, 1) := by decide +kernel
theorem dX8_serve_49 : decode cX8_serve 49 = .ok (.ifCond .eq 20, 3) := by decide +kernel
theorem dX8_serve_52 : decode cX8_serve 52 = .ok (.aload_n 0, 1) := by decide +kernel
theorem dX8_serve_53 : decode cX8_serve 53 = .ok (.getfield 29, 3) := by decide +kernel
theorem dX8_serve_56 : decode cX8_serve 56 = .ok (.aload_n 0, 1) := by decide +kernel
theorem dX8_serve_57 : decode cX8_serve 57 = .ok (.getfield 41, 3) := by decide +kernel
theorem dX8_serve_60 : decode cX8_serve 60 = .ok (.iaload, 1) := by decide +kernel
theorem dX8_serve_61 : decode cX8_serve 61 = .ok (.iconst (-1), 1) := by decide +kernel
theorem dX8_serve_62 : decode cX8_serve 62 = .ok (.if_icmp .eq 7, 3) := by decide +kernel
theorem dX8_serve_65 : decode cX8_serve 65 = .ok (.iconst 1, 1) := by decide +kernel
theorem dX8_serve_66 : decode cX8_serve 66 = .ok (.goto 4, 3) := by decide +kernel
theorem dX8_serve_69 : decode cX8_serve 69 = .ok (.iconst 0, 1) := by decide +kernel
theorem dX8_serve_70 : decode cX8_serve 70 = .ok (.istore 4, 2) := by decide +kernel
theorem dX8_serve_72 : decode cX8_serve 72 = .ok (.aload_n 0, 1) := by decide +kernel
theorem dX8_serve_73 : decode cX8_serve 73 = .ok (.getfield 72, 3) := by decide +kernel
theorem dX8_serve_76 : decode cX8_serve 76 = .ok (.iload_n 1, 1) := by decide +kernel
theorem dX8_serve_77 : decode cX8_serve 77 = .ok (.dup2, 1) := by decide +kernel
theorem dX8_serve_78 : decode cX8_serve 78 = .ok (.iaload, 1) := by decide +kernel
theorem dX8_serve_79 : decode cX8_serve 79 = .ok (.iload 4, 2) := by decide +kernel
theorem dX8_serve_81 : decode cX8_serve 81 = .ok (.ifCond .eq 7, 3) := by decide +kernel
theorem dX8_serve_84 : decode cX8_serve 84 = .ok (.iconst 1, 1) := by decide +kernel
theorem dX8_serve_85 : decode cX8_serve 85 = .ok (.goto 4, 3) := by decide +kernel
theorem dX8_serve_88 : decode cX8_serve 88 = .ok (.iconst 0, 1) := by decide +kernel
theorem dX8_serve_89 : decode cX8_serve 89 = .ok (.iadd, 1) := by decide +kernel
theorem dX8_serve_90 : decode cX8_serve 90 = .ok (.iastore, 1) := by decide +kernel
theorem dX8_serve_91 : decode cX8_serve 91 = .ok (.aload_n 0, 1) := by decide +kernel
theorem dX8_serve_92 : decode cX8_serve 92 = .ok (.getfield 75, 3) := by decide +kernel
theorem dX8_serve_95 : decode cX8_serve 95 = .ok (.iload_n 1, 1) := by decide +kernel
theorem dX8_serve_96 : decode cX8_serve 96 = .ok (.dup2, 1) := by decide +kernel
theorem dX8_serve_97 : decode cX8_serve 97 = .ok (.iaload, 1) := by decide +kernel
theorem dX8_serve_98 : decode cX8_serve 98 = .ok (.iload 4, 2) := by decide +kernel
theorem dX8_serve_100 : decode cX8_serve 100 = .ok (.ifCond .eq 7, 3) := by decide +kernel
theorem dX8_serve_103 : decode cX8_serve 103 = .ok (.iconst 0, 1) := by decide +kernel
theorem dX8_serve_104 : decode cX8_serve 104 = .ok (.goto 4, 3) := by decide +kernel
theorem dX8_serve_107 : decode cX8_serve 107 = .ok (.iconst 1, 1) := by decide +kernel
theorem dX8_serve_108 : decode cX8_serve 108 = .ok (.iadd, 1) := by decide +kernel
theorem dX8_serve_109 : decode cX8_serve 109 = .ok (.iastore, 1) := by decide +kernel
theorem dX8_serve_110 : decode cX8_serve 110 = .ok (.iload 4, 2) := by decide +kernel
theorem dX8_serve_112 : decode cX8_serve 112 = .ok (.ifCond .eq 7, 3) := by decide +kernel
theorem dX8_serve_115 : decode cX8_serve 115 = .ok (.iconst 1, 1) := by decide +kernel
theorem dX8_serve_116 : decode cX8_serve 116 = .ok (.goto 4, 3) := by decide +kernel
theorem dX8_serve_119 : decode cX8_serve 119 = .ok (.iconst 0, 1) := by decide +kernel
theorem dX8_serve_120 : decode cX8_serve 120 = .ok (.ireturn, 1) := by decide +kernel
theorem dX8_takeOver_0 : decode cX8_takeOver 0 = .ok (.iconst 0, 1) := by decide +kernel
theorem dX8_takeOver_1 : decode cX8_takeOver 1 = .ok (.istore_n 1, 1) := by decide +kernel
theorem dX8_takeOver_2 : decode cX8_takeOver 2 = .ok (.iload_n 1, 1) := by decide +kernel
theorem dX8_takeOver_3 : decode cX8_takeOver 3 = .ok (.aload_n 0, 1) := by decide +kernel
theorem dX8_takeOver_4 : decode cX8_takeOver 4 = .ok (.getfield 129, 3) := by decide +kernel
theorem dX8_takeOver_7 : decode cX8_takeOver 7 = .ok (.if_icmp .ge 55, 3) := by decide +kernel
theorem dX8_takeOver_10 : decode cX8_takeOver 10 = .ok (.aload_n 0, 1) := by decide +kernel
theorem dX8_takeOver_11 : decode cX8_takeOver 11 = .ok (.getfield 25, 3) := by decide +kernel
theorem dX8_takeOver_14 : decode cX8_takeOver 14 = .ok (.aload_n 0, 1) := by decide +kernel
theorem dX8_takeOver_15 : decode cX8_takeOver 15 = .ok (.getfield 41, 3) := by decide +kernel
theorem dX8_takeOver_18 : decode cX8_takeOver 18 = .ok (.baload, 1) := by decide +kernel
theorem dX8_takeOver_19 : decode cX8_takeOver 19 = .ok (.ifCond .ne 43, 3) := by decide +kernel
theorem dX8_takeOver_22 : decode cX8_takeOver 22 = .ok (.aload_n 0, 1) := by decide +kernel
theorem dX8_takeOver_23 : decode cX8_takeOver 23 = .ok (.getfield 25, 3) := by decide +kernel
theorem dX8_takeOver_26 : decode cX8_takeOver 26 = .ok (.iload_n 1, 1) := by decide +kernel
theorem dX8_takeOver_27 : decode cX8_takeOver 27 = .ok (.baload, 1) := by decide +kernel
theorem dX8_takeOver_28 : decode cX8_takeOver 28 = .ok (.ifCond .eq 28, 3) := by decide +kernel
theorem dX8_takeOver_31 : decode cX8_takeOver 31 = .ok (.aload_n 0, 1) := by decide +kernel
theorem dX8_takeOver_32 : decode cX8_takeOver 32 = .ok (.getfield 38, 3) := by decide +kernel
theorem dX8_takeOver_35 : decode cX8_takeOver 35 = .ok (.iload_n 1, 1) := by decide +kernel
theorem dX8_takeOver_36 : decode cX8_takeOver 36 = .ok (.iaload, 1) := by decide +kernel
theorem dX8_takeOver_37 : decode cX8_takeOver 37 = .ok (.aload_n 0, 1) := by decide +kernel
theorem dX8_takeOver_38 : decode cX8_takeOver 38 = .ok (.getfield 54, 3) := by decide +kernel
theorem dX8_takeOver_41 : decode cX8_takeOver 41 = .ok (.if_icmp .lt 15, 3) := by decide +kernel
theorem dX8_takeOver_44 : decode cX8_takeOver 44 = .ok (.aload_n 0, 1) := by decide +kernel
theorem dX8_takeOver_45 : decode cX8_takeOver 45 = .ok (.iload_n 1, 1) := by decide +kernel
theorem dX8_takeOver_46 : decode cX8_takeOver 46 = .ok (.putfield 41, 3) := by decide +kernel
theorem dX8_takeOver_49 : decode cX8_takeOver 49 = .ok (.aload_n 0, 1) := by decide +kernel
theorem dX8_takeOver_50 : decode cX8_takeOver 50 = .ok (.getfield 38, 3) := by decide +kernel
theorem dX8_takeOver_53 : decode cX8_takeOver 53 = .ok (.iload_n 1, 1) := by decide +kernel
theorem dX8_takeOver_54 : decode cX8_takeOver 54 = .ok (.iconst 0, 1) := by decide +kernel
theorem dX8_takeOver_55 : decode cX8_takeOver 55 = .ok (.iastore, 1) := by decide +kernel
theorem dX8_takeOver_56 : decode cX8_takeOver 56 = .ok (.iinc 1 1, 3) := by decide +kernel
theorem dX8_takeOver_59 : decode cX8_takeOver 59 = .ok (.goto (-57), 3) := by decide +kernel
theorem dX8_takeOver_62 : decode cX8_takeOver 62 = .ok (.return_, 1) := by decide +kernel
set_option maxRecDepth 20000 in
theorem ggX8_runRound_X8_generate : GoodIn wsX8_runRound wsX8_generate := goodIn_r _ [8, 9, 3, 10, 11, 12, 13, 14, 85, 86, 87, 88, 89, 90, 91, 92, 93, 94, 95, 96, 97, 98, 99, 100, 101, 102, 103, 104, 105, 106, 107, 108, 109, 110, 111, 112, 113, 114, 115, 116, 117, 118, 119, 120, 121, 122, 123, 124, 125, 126] (by decide +kernel) (by decide +kernel)
set_option maxRecDepth 20000 in
theorem gX8_runRound_X8_generate : GoodIn wsX8_runRound (wsV RX8 188 RX8 yX8_generate wsX8_generate) := goodIn_app (goodIn_of _ (by decide +kernel)) ggX8_runRound_X8_generate
set_option maxRecDepth 20000 in
theorem ggX8_runRound_X8_spreadSchedule : GoodIn wsX8_runRound wsX8_spreadSchedule := goodIn_r _ [18, 19, 20, 1, 21, 22, 23, 24, 25, 26, 27, 7, 28, 29, 9, 12, 14, 2, 30, 31, 32, 33, 34, 35, 36, 37, 38, 39, 40, 41, 42, 43, 44, 45, 46, 47, 48, 49, 50, 51, 52, 53, 54, 55, 56, 57, 58, 59, 60, 61, 62, 63, 64, 65, 66, 67, 68, 69, 85, 86, 87, 88, 89, 90, 91, 92, 93, 94, 95, 96, 97, 98, 99, 100, 101, 102, 103, 104, 105, 106, 107, 108, 109, 110, 111, 112, 113, 114, 115, 116, 117, 118, 119, 120, 121, 122, 123, 124, 125, 126] (by decide +kernel) (by decide +kernel)
set_option maxRecDepth 20000 in
theorem gX8_runRound_X8_spreadSchedule : GoodIn wsX8_runRound (wsV RX8 191 RX8 yX8_spreadSchedule wsX8_spreadSchedule) := goodIn_app (goodIn_of _ (by decide +kernel)) ggX8_runRound_X8_spreadSchedule
set_option maxRecDepth 20000 in
theorem ggX8_runRound_X8_serve : GoodIn wsX8_runRound wsX8_serve := goodIn_r _ [73, 74, 19, 22, 23, 20, 75, 13, 76, 77, 78, 7, 79, 12, 14, 34, 35, 36, 37, 21, 38, 39, 40, 41, 42, 43, 44, 45, 46, 47, 48, 49, 50, 51, 52, 53, 54, 55, 56, 57, 58, 59, 60, 61, 62, 63, 64, 65, 66, 67, 68, 69, 85, 86, 87, 88, 89, 90, 91, 92, 93, 94, 95, 96, 97, 98, 99, 100, 101, 102, 103, 104, 105, 106, 107, 108, 109, 110, 111, 112, 113, 114, 115, 116, 117, 118, 119, 120, 121, 122, 123, 124, 125, 126] (by decide +kernel) (by decide +kernel)
set_option maxRecDepth 20000 in
theorem gX8_runRound_X8_serve : GoodIn wsX8_runRound (wsV RX8 194 RX8 yX8_serve wsX8_serve) := goodIn_app (goodIn_of _ (by decide +kernel)) ggX8_runRound_X8_serve
set_option maxRecDepth 20000 in
theorem ggX8_runRound_X8_takeOver : GoodIn wsX8_runRound wsX8_takeOver := goodIn_r _ [83, 21, 19, 20, 24, 84, 85, 86, 87, 88, 89, 90, 91, 92, 93, 94, 95, 96, 97, 98, 99, 100, 101, 102, 103, 104, 105, 106, 107, 108, 109, 110, 111, 112, 113, 114, 115, 116, 117, 118, 119, 120, 121, 122, 123, 124, 125, 126] (by decide +kernel) (by decide +kernel)
set_option maxRecDepth 20000 in
theorem gX8_runRound_X8_takeOver : GoodIn wsX8_runRound (wsV RX8 197 RX8 yX8_takeOver wsX8_takeOver) := goodIn_app (goodIn_of _ (by decide +kernel)) ggX8_runRound_X8_takeOver
theorem dX8_runRound_0 : decode cX8_runRound 0 = .ok (.aload_n 0, 1) := by decide +kernel
theorem dX8_runRound_1 : decode cX8_runRound 1 = .ok (.invokevirtual 188, 3) := by decide +kernel
theorem dX8_runRound_4 : decode cX8_runRound 4 = .ok (.aload_n 0, 1) := by decide +kernel
theorem dX8_runRound_5 : decode cX8_runRound 5 = .ok (.invokevirtual 191, 3) := by decide +kernel
theorem dX8_runRound_8 : decode cX8_runRound 8 = .ok (.iconst 0, 1) := by decide +kernel
theorem dX8_runRound_9 : decode cX8_runRound 9 = .ok (.istore_n 1, 1) := by decide +kernel
theorem dX8_runRound_10 : decode cX8_runRound 10 = .ok (.iconst 0, 1) := by decide +kernel
theorem dX8_runRound_11 : decode cX8_runRound 11 = .ok (.istore_n 2, 1) := by decide +kernel
theorem dX8_runRound_12 : decode cX8_runRound 12 = .ok (.iload_n 2, 1) := by decide +kernel
theorem dX8_runRound_13 : decode cX8_runRound 13 = .ok (.aload_n 0, 1) := by decide +kernel
theorem dX8_runRound_14 : decode cX8_runRound 14 = .ok (.getfield 144, 3) := by decide +kernel
theorem dX8_runRound_17 : decode cX8_runRound 17 = .ok (.if_icmp .ge 22, 3) := by decide +kernel
theorem dX8_runRound_20 : decode cX8_runRound 20 = .ok (.iload_n 1, 1) := by decide +kernel
theorem dX8_runRound_21 : decode cX8_runRound 21 = .ok (.aload_n 0, 1) := by decide +kernel
theorem dX8_runRound_22 : decode cX8_runRound 22 = .ok (.aload_n 0, 1) := by decide +kernel
theorem dX8_runRound_23 : decode cX8_runRound 23 = .ok (.getfield 78, 3) := by decide +kernel
theorem dX8_runRound_26 : decode cX8_runRound 26 = .ok (.iload_n 2, 1) := by decide +kernel
theorem dX8_runRound_27 : decode cX8_runRound 27 = .ok (.iaload, 1) := by decide +kernel
theorem dX8_runRound_28 : decode cX8_runRound 28 = .ok (.invokevirtual 194, 3) := by decide +kernel
theorem dX8_runRound_31 : decode cX8_runRound 31 = .ok (.iadd, 1) := by decide +kernel
theorem dX8_runRound_32 : decode cX8_runRound 32 = .ok (.istore_n 1, 1) := by decide +kernel
theorem dX8_runRound_33 : decode cX8_runRound 33 = .ok (.iinc 2 1, 3) := by decide +kernel
theorem dX8_runRound_36 : decode cX8_runRound 36 = .ok (.goto (-24), 3) := by decide +kernel
theorem dX8_runRound_39 : decode cX8_runRound 39 = .ok (.aload_n 0, 1) := by decide +kernel
theorem dX8_runRound_40 : decode cX8_runRound 40 = .ok (.invokevirtual 197, 3) := by decide +kernel
theorem dX8_runRound_43 : decode cX8_runRound 43 = .ok (.aload_n 0, 1) := by decide +kernel
theorem dX8_runRound_44 : decode cX8_runRound 44 = .ok (.dup, 1) := by decide +kernel
theorem dX8_runRound_45 : decode cX8_runRound 45 = .ok (.getfield 138, 3) := by decide +kernel
theorem dX8_runRound_48 : decode cX8_runRound 48 = .ok (.iconst 1, 1) := by decide +kernel
theorem dX8_runRound_49 : decode cX8_runRound 49 = .ok (.iadd, 1) := by decide +kernel
theorem dX8_runRound_50 : decode cX8_runRound 50 = .ok (.putfield 138, 3) := by decide +kernel
theorem dX8_runRound_53 : decode cX8_runRound 53 = .ok (.iload_n 1, 1) := by decide +kernel
theorem dX8_runRound_54 : decode cX8_runRound 54 = .ok (.ireturn, 1) := by decide +kernel
set_option maxRecDepth 20000 in
theorem ggX8_runRounds_X8_within : GoodIn wsX8_runRounds wsX8_within := goodIn_r _ [6] (by decide +kernel) (by decide +kernel)
set_option maxRecDepth 20000 in
theorem gX8_runRounds_X8_within : GoodIn wsX8_runRounds (va_wsS RX8 102 yX8_within wsX8_within) := goodIn_app (goodIn_of _ (by decide +kernel)) ggX8_runRounds_X8_within
set_option maxRecDepth 20000 in
theorem ggX8_runRounds_X8_runRound : GoodIn wsX8_runRounds wsX8_runRound := goodIn_r _ [10, 11, 12, 2, 13, 14, 15, 5, 16, 17, 18, 19, 20, 21, 22, 23, 24, 25, 26, 27, 28, 1, 29, 30, 31, 32, 33, 34, 35, 36, 37, 38, 39, 40, 41, 42, 43, 44, 45, 46, 47, 48, 49, 50, 51, 52, 53, 54, 55, 56, 57, 58, 59, 60, 61, 62, 63, 64, 65, 66, 67, 68, 69, 70, 71, 72, 73, 74, 75, 76, 77, 78, 79, 80, 81, 82, 83, 84, 85, 86, 87, 88, 89, 90, 91, 92, 93, 94, 95, 96, 97, 98, 99, 100, 101, 102, 103, 104, 105, 106, 107, 108, 109, 110, 111, 112, 113, 114, 115, 116, 117, 118, 119, 120, 121, 122, 123, 124, 125, 126, 127, 128, 129, 130, 131, 132, 133] (by decide +kernel) (by decide +kernel)
set_option maxRecDepth 20000 in
theorem gX8_runRounds_X8_runRound : GoodIn wsX8_runRounds (wsV RX8 200 RX8 yX8_runRound wsX8_runRound) := goodIn_app (goodIn_of _ (by decide +kernel)) ggX8_runRounds_X8_runRound
theorem dX8_runRounds_0 : decode cX8_runRounds 0 = .ok (.iload_n 1, 1) := by decide +kernel
theorem dX8_runRounds_1 : decode cX8_runRounds 1 = .ok (.iconst 1, 1) := by decide +kernel
theorem dX8_runRounds_2 : decode cX8_runRounds 2 = .ok (.bipush 20, 2) := by decide +kernel
theorem dX8_runRounds_4 : decode cX8_runRounds 4 = .ok (.invokestatic 102, 3) := by decide +kernel
theorem dX8_runRounds_7 : decode cX8_runRounds 7 = .ok (.ifCond .ne 7, 3) := by decide +kernel
theorem dX8_runRounds_10 : decode cX8_runRounds 10 = .ok (.sipush (-1002), 3) := by decide +kernel
theorem dX8_runRounds_13 : decode cX8_runRounds 13 = .ok (.ireturn, 1) := by decide +kernel
theorem dX8_runRounds_14 : decode cX8_runRounds 14 = .ok (.aload_n 0, 1) := by decide +kernel
theorem dX8_runRounds_15 : decode cX8_runRounds 15 = .ok (.getfield 129, 3) := by decide +kernel
theorem dX8_runRounds_18 : decode cX8_runRounds 18 = .ok (.ifCond .ne 7, 3) := by decide +kernel
theorem dX8_runRounds_21 : decode cX8_runRounds 21 = .ok (.sipush (-1003), 3) := by decide +kernel
theorem dX8_runRounds_24 : decode cX8_runRounds 24 = .ok (.ireturn, 1) := by decide +kernel
theorem dX8_runRounds_25 : decode cX8_runRounds 25 = .ok (.aload_n 0, 1) := by decide +kernel
theorem dX8_runRounds_26 : decode cX8_runRounds 26 = .ok (.getfield 138, 3) := by decide +kernel
theorem dX8_runRounds_29 : decode cX8_runRounds 29 = .ok (.iload_n 1, 1) := by decide +kernel
theorem dX8_runRounds_30 : decode cX8_runRounds 30 = .ok (.iadd, 1) := by decide +kernel
theorem dX8_runRounds_31 : decode cX8_runRounds 31 = .ok (.sipush 9999, 3) := by decide +kernel
theorem dX8_runRounds_34 : decode cX8_runRounds 34 = .ok (.if_icmp .le 7, 3) := by decide +kernel
theorem dX8_runRounds_37 : decode cX8_runRounds 37 = .ok (.sipush (-1004), 3) := by decide +kernel
theorem dX8_runRounds_40 : decode cX8_runRounds 40 = .ok (.ireturn, 1) := by decide +kernel
theorem dX8_runRounds_41 : decode cX8_runRounds 41 = .ok (.iconst 0, 1) := by decide +kernel
theorem dX8_runRounds_42 : decode cX8_runRounds 42 = .ok (.istore_n 2, 1) := by decide +kernel
theorem dX8_runRounds_43 : decode cX8_runRounds 43 = .ok (.iconst 0, 1) := by decide +kernel
theorem dX8_runRounds_44 : decode cX8_runRounds 44 = .ok (.istore_n 3, 1) := by decide +kernel
theorem dX8_runRounds_45 : decode cX8_runRounds 45 = .ok (.iload_n 3, 1) := by decide +kernel
theorem dX8_runRounds_46 : decode cX8_runRounds 46 = .ok (.iload_n 1, 1) := by decide +kernel
theorem dX8_runRounds_47 : decode cX8_runRounds 47 = .ok (.if_icmp .ge 16, 3) := by decide +kernel
theorem dX8_runRounds_50 : decode cX8_runRounds 50 = .ok (.iload_n 2, 1) := by decide +kernel
theorem dX8_runRounds_51 : decode cX8_runRounds 51 = .ok (.aload_n 0, 1) := by decide +kernel
theorem dX8_runRounds_52 : decode cX8_runRounds 52 = .ok (.invokevirtual 200, 3) := by decide +kernel
theorem dX8_runRounds_55 : decode cX8_runRounds 55 = .ok (.iadd, 1) := by decide +kernel
theorem dX8_runRounds_56 : decode cX8_runRounds 56 = .ok (.istore_n 2, 1) := by decide +kernel
theorem dX8_runRounds_57 : decode cX8_runRounds 57 = .ok (.iinc 3 1, 3) := by decide +kernel
theorem dX8_runRounds_60 : decode cX8_runRounds 60 = .ok (.goto (-15), 3) := by decide +kernel
theorem dX8_runRounds_63 : decode cX8_runRounds 63 = .ok (.iload_n 2, 1) := by decide +kernel
theorem dX8_runRounds_64 : decode cX8_runRounds 64 = .ok (.ireturn, 1) := by decide +kernel
set_option maxRecDepth 20000 in
theorem ggX8_scheduledStream_X8_within : GoodIn wsX8_scheduledStream wsX8_within := goodIn_r _ [6] (by decide +kernel) (by decide +kernel)
set_option maxRecDepth 20000 in
theorem gX8_scheduledStream_X8_within : GoodIn wsX8_scheduledStream (va_wsS RX8 102 yX8_within wsX8_within) := goodIn_app (goodIn_of _ (by decide +kernel)) ggX8_scheduledStream_X8_within
theorem dX8_scheduledStream_0 : decode cX8_scheduledStream 0 = .ok (.iload_n 1, 1) := by decide +kernel
theorem dX8_scheduledStream_1 : decode cX8_scheduledStream 1 = .ok (.iconst 0, 1) := by decide +kernel
theorem dX8_scheduledStream_2 : decode cX8_scheduledStream 2 = .ok (.aload_n 0, 1) := by decide +kernel
theorem dX8_scheduledStream_3 : decode cX8_scheduledStream 3 = .ok (.getfield 144, 3) := by decide +kernel
theorem dX8_scheduledStream_6 : decode cX8_scheduledStream 6 = .ok (.iconst 1, 1) := by decide +kernel
theorem dX8_scheduledStream_7 : decode cX8_scheduledStream 7 = .ok (.isub, 1) := by decide +kernel
theorem dX8_scheduledStream_8 : decode cX8_scheduledStream 8 = .ok (.invokestatic 102, 3) := by decide +kernel
theorem dX8_scheduledStream_11 : decode cX8_scheduledStream 11 = .ok (.ifCond .eq 12, 3) := by decide +kernel
theorem dX8_scheduledStream_14 : decode cX8_scheduledStream 14 = .ok (.aload_n 0, 1) := by decide +kernel
theorem dX8_scheduledStream_15 : decode cX8_scheduledStream 15 = .ok (.getfield 78, 3) := by decide +kernel
theorem dX8_scheduledStream_18 : decode cX8_scheduledStream 18 = .ok (.iload_n 1, 1) := by decide +kernel
theorem dX8_scheduledStream_19 : decode cX8_scheduledStream 19 = .ok (.iaload, 1) := by decide +kernel
theorem dX8_scheduledStream_20 : decode cX8_scheduledStream 20 = .ok (.goto 4, 3) := by decide +kernel
theorem dX8_scheduledStream_23 : decode cX8_scheduledStream 23 = .ok (.iconst (-1), 1) := by decide +kernel
theorem dX8_scheduledStream_24 : decode cX8_scheduledStream 24 = .ok (.ireturn, 1) := by decide +kernel
theorem dX8_areSourcesDifferent_0 : decode cX8_areSourcesDifferent 0 = .ok (.iconst 1, 1) := by decide +kernel
theorem dX8_areSourcesDifferent_1 : decode cX8_areSourcesDifferent 1 = .ok (.istore_n 1, 1) := by decide +kernel
theorem dX8_areSourcesDifferent_2 : decode cX8_areSourcesDifferent 2 = .ok (.iconst 0, 1) := by decide +kernel
theorem dX8_areSourcesDifferent_3 : decode cX8_areSourcesDifferent 3 = .ok (.istore_n 2, 1) := by decide +kernel
theorem dX8_areSourcesDifferent_4 : decode cX8_areSourcesDifferent 4 = .ok (.iload_n 2, 1) := by decide +kernel
theorem dX8_areSourcesDifferent_5 : decode cX8_areSourcesDifferent 5 = .ok (.aload_n 0, 1) := by decide +kernel
theorem dX8_areSourcesDifferent_6 : decode cX8_areSourcesDifferent 6 = .ok (.getfield 144, 3) := by decide +kernel
theorem dX8_areSourcesDifferent_9 : decode cX8_areSourcesDifferent 9 = .ok (.if_icmp .ge 57, 3) := by decide +kernel
theorem dX8_areSourcesDifferent_12 : decode cX8_areSourcesDifferent 12 = .ok (.iconst 0, 1) := by decide +kernel
theorem dX8_areSourcesDifferent_13 : decode cX8_areSourcesDifferent 13 = .ok (.istore_n 3, 1) := by decide +kernel
theorem dX8_areSourcesDifferent_14 : decode cX8_areSourcesDifferent 14 = .ok (.iload_n 3, 1) := by decide +kernel
theorem dX8_areSourcesDifferent_15 : decode cX8_areSourcesDifferent 15 = .ok (.iload_n 2, 1) := by decide +kernel
theorem dX8_areSourcesDifferent_16 : decode cX8_areSourcesDifferent 16 = .ok (.if_icmp .ge 44, 3) := by decide +kernel
theorem dX8_areSourcesDifferent_19 : decode cX8_areSourcesDifferent 19 = .ok (.iload_n 1, 1) := by decide +kernel
theorem dX8_areSourcesDifferent_20 : decode cX8_areSourcesDifferent 20 = .ok (.ifCond .eq 32, 3) := by decide +kernel
theorem dX8_areSourcesDifferent_23 : decode cX8_areSourcesDifferent 23 = .ok (.aload_n 0, 1) := by decide +kernel
theorem dX8_areSourcesDifferent_24 : decode cX8_areSourcesDifferent 24 = .ok (.getfield 57, 3) := by decide +kernel
theorem dX8_areSourcesDifferent_27 : decode cX8_areSourcesDifferent 27 = .ok (.aload_n 0, 1) := by decide +kernel
theorem dX8_areSourcesDifferent_28 : decode cX8_areSourcesDifferent 28 = .ok (.getfield 78, 3) := by decide +kernel
theorem dX8_areSourcesDifferent_31 : decode cX8_areSourcesDifferent 31 = .ok (.iload_n 2, 1) := by decide +kernel
theorem dX8_areSourcesDifferent_32 : decode cX8_areSourcesDifferent 32 = .ok (.iaload, 1) := by decide +kernel
theorem dX8_areSourcesDifferent_33 : decode cX8_areSourcesDifferent 33 = .ok (.iaload, 1) := by decide +kernel
theorem dX8_areSourcesDifferent_34 : decode cX8_areSourcesDifferent 34 = .ok (.aload_n 0, 1) := by decide +kernel
theorem dX8_areSourcesDifferent_35 : decode cX8_areSourcesDifferent 35 = .ok (.getfield 57, 3) := by decide +kernel
theorem dX8_areSourcesDifferent_38 : decode cX8_areSourcesDifferent 38 = .ok (.aload_n 0, 1) := by decide +kernel
theorem dX8_areSourcesDifferent_39 : decode cX8_areSourcesDifferent 39 = .ok (.getfield 78, 3) := by decide +kernel
theorem dX8_areSourcesDifferent_42 : decode cX8_areSourcesDifferent 42 = .ok (.iload_n 3, 1) := by decide +kernel
theorem dX8_areSourcesDifferent_43 : decode cX8_areSourcesDifferent 43 = .ok (.iaload, 1) := by decide +kernel
theorem dX8_areSourcesDifferent_44 : decode cX8_areSourcesDifferent 44 = .ok (.iaload, 1) := by decide +kernel
theorem dX8_areSourcesDifferent_45 : decode cX8_areSourcesDifferent 45 = .ok (.if_icmp .eq 7, 3) := by decide +kernel
theorem dX8_areSourcesDifferent_48 : decode cX8_areSourcesDifferent 48 = .ok (.iconst 1, 1) := by decide +kernel
theorem dX8_areSourcesDifferent_49 : decode cX8_areSourcesDifferent 49 = .ok (.goto 4, 3) := by decide +kernel
theorem dX8_areSourcesDifferent_52 : decode cX8_areSourcesDifferent 52 = .ok (.iconst 0, 1) := by decide +kernel
theorem dX8_areSourcesDifferent_53 : decode cX8_areSourcesDifferent 53 = .ok (.istore_n 1, 1) := by decide +kernel
theorem dX8_areSourcesDifferent_54 : decode cX8_areSourcesDifferent 54 = .ok (.iinc 3 1, 3) := by decide +kernel
theorem dX8_areSourcesDifferent_57 : decode cX8_areSourcesDifferent 57 = .ok (.goto (-43), 3) := by decide +kernel
theorem dX8_areSourcesDifferent_60 : decode cX8_areSourcesDifferent 60 = .ok (.iinc 2 1, 3) := by decide +kernel
theorem dX8_areSourcesDifferent_63 : decode cX8_areSourcesDifferent 63 = .ok (.goto (-59), 3) := by decide +kernel
theorem dX8_areSourcesDifferent_66 : decode cX8_areSourcesDifferent 66 = .ok (.iload_n 1, 1) := by decide +kernel
theorem dX8_areSourcesDifferent_67 : decode cX8_areSourcesDifferent 67 = .ok (.ireturn, 1) := by decide +kernel
set_option maxRecDepth 20000 in
theorem ggX8_scheduleBits_X8_areSourcesDifferent : GoodIn wsX8_scheduleBits wsX8_areSourcesDifferent := goodIn_r _ [6, 1, 7, 8, 9, 10, 11, 12, 13, 14, 15, 16, 17, 18, 19, 20, 21, 22, 23, 24, 25, 26, 27, 28, 29, 30, 31, 32, 33, 34, 35, 36, 37, 38, 39, 40, 41, 42, 43, 44, 45, 46, 47, 48, 49, 50] (by decide +kernel) (by decide +kernel)
set_option maxRecDepth 20000 in
theorem gX8_scheduleBits_X8_areSourcesDifferent : GoodIn wsX8_scheduleBits (wsV RX8 203 RX8 yX8_areSourcesDifferent wsX8_areSourcesDifferent) := goodIn_app (goodIn_of _ (by decide +kernel)) ggX8_scheduleBits_X8_areSourcesDifferent
theorem dX8_scheduleBits_0 : decode cX8_scheduleBits 0 = .ok (.iconst 3, 1) := by decide +kernel
theorem dX8_scheduleBits_1 : decode cX8_scheduleBits 1 = .ok (.aload_n 0, 1) := by decide +kernel
theorem dX8_scheduleBits_2 : decode cX8_scheduleBits 2 = .ok (.getfield 144, 3) := by decide +kernel
theorem dX8_scheduleBits_5 : decode cX8_scheduleBits 5 = .ok (.imul, 1) := by decide +kernel
theorem dX8_scheduleBits_6 : decode cX8_scheduleBits 6 = .ok (.istore_n 1, 1) := by decide +kernel
theorem dX8_scheduleBits_7 : decode cX8_scheduleBits 7 = .ok (.bipush 8, 2) := by decide +kernel
theorem dX8_scheduleBits_9 : decode cX8_scheduleBits 9 = .ok (.iload_n 1, 1) := by decide +kernel
theorem dX8_scheduleBits_10 : decode cX8_scheduleBits 10 = .ok (.bipush 8, 2) := by decide +kernel
theorem dX8_scheduleBits_12 : decode cX8_scheduleBits 12 = .ok (.if_icmp .le 15, 3) := by decide +kernel
theorem dX8_scheduleBits_15 : decode cX8_scheduleBits 15 = .ok (.aload_n 0, 1) := by decide +kernel
theorem dX8_scheduleBits_16 : decode cX8_scheduleBits 16 = .ok (.invokevirtual 203, 3) := by decide +kernel
theorem dX8_scheduleBits_19 : decode cX8_scheduleBits 19 = .ok (.ifCond .eq 8, 3) := by decide +kernel
theorem dX8_scheduleBits_22 : decode cX8_scheduleBits 22 = .ok (.bipush 8, 2) := by decide +kernel
theorem dX8_scheduleBits_24 : decode cX8_scheduleBits 24 = .ok (.goto 4, 3) := by decide +kernel
theorem dX8_scheduleBits_27 : decode cX8_scheduleBits 27 = .ok (.iload_n 1, 1) := by decide +kernel
theorem dX8_scheduleBits_28 : decode cX8_scheduleBits 28 = .ok (.iadd, 1) := by decide +kernel
theorem dX8_scheduleBits_29 : decode cX8_scheduleBits 29 = .ok (.ireturn, 1) := by decide +kernel
theorem dX8_host_0 : decode cX8_host 0 = .ok (.aload_n 0, 1) := by decide +kernel
theorem dX8_host_1 : decode cX8_host 1 = .ok (.getfield 41, 3) := by decide +kernel
theorem dX8_host_4 : decode cX8_host 4 = .ok (.ireturn, 1) := by decide +kernel
set_option maxRecDepth 20000 in
theorem ggX8_missedSchedules_X8_isNode : GoodIn wsX8_missedSchedules wsX8_isNode := goodIn_r _ [6, 7, 8, 9, 5, 10, 11, 12, 13, 14, 15, 16, 17, 18, 19, 20, 21, 22, 23, 24, 25, 26, 27, 28, 29, 30, 31, 32, 33, 34, 35, 36, 37, 38, 39, 40, 41, 42, 43, 44, 45, 46, 47, 48, 49, 50, 51, 52] (by decide +kernel) (by decide +kernel)
set_option maxRecDepth 20000 in
theorem gX8_missedSchedules_X8_isNode : GoodIn wsX8_missedSchedules (wsV RX8 147 RX8 yX8_isNode wsX8_isNode) := goodIn_app (goodIn_of _ (by decide +kernel)) ggX8_missedSchedules_X8_isNode
theorem dX8_missedSchedules_0 : decode cX8_missedSchedules 0 = .ok (.aload_n 0, 1) := by decide +kernel
theorem dX8_missedSchedules_1 : decode cX8_missedSchedules 1 = .ok (.iload_n 1, 1) := by decide +kernel
theorem dX8_missedSchedules_2 : decode cX8_missedSchedules 2 = .ok (.invokevirtual 147, 3) := by decide +kernel
theorem dX8_missedSchedules_5 : decode cX8_missedSchedules 5 = .ok (.ifCond .eq 12, 3) := by decide +kernel
theorem dX8_missedSchedules_8 : decode cX8_missedSchedules 8 = .ok (.aload_n 0, 1) := by decide +kernel
theorem dX8_missedSchedules_9 : decode cX8_missedSchedules 9 = .ok (.getfield 38, 3) := by decide +kernel
theorem dX8_missedSchedules_12 : decode cX8_missedSchedules 12 = .ok (.iload_n 1, 1) := by decide +kernel
theorem dX8_missedSchedules_13 : decode cX8_missedSchedules 13 = .ok (.iaload, 1) := by decide +kernel
theorem dX8_missedSchedules_14 : decode cX8_missedSchedules 14 = .ok (.goto 6, 3) := by decide +kernel
theorem dX8_missedSchedules_17 : decode cX8_missedSchedules 17 = .ok (.sipush (-1001), 3) := by decide +kernel
theorem dX8_missedSchedules_20 : decode cX8_missedSchedules 20 = .ok (.ireturn, 1) := by decide +kernel
set_option maxRecDepth 20000 in
theorem ggX8_transmissions_X8_isNode : GoodIn wsX8_transmissions wsX8_isNode := goodIn_r _ [6, 7, 8, 9, 5, 10, 11, 12, 13, 14, 15, 16, 17, 18, 19, 20, 21, 22, 23, 24, 25, 26, 27, 28, 29, 30, 31, 32, 33, 34, 35, 36, 37, 38, 39, 40, 41, 42, 43, 44, 45, 46, 47, 48, 49, 50, 51, 52] (by decide +kernel) (by decide +kernel)
set_option maxRecDepth 20000 in
theorem gX8_transmissions_X8_isNode : GoodIn wsX8_transmissions (wsV RX8 147 RX8 yX8_isNode wsX8_isNode) := goodIn_app (goodIn_of _ (by decide +kernel)) ggX8_transmissions_X8_isNode
theorem dX8_transmissions_0 : decode cX8_transmissions 0 = .ok (.aload_n 0, 1) := by decide +kernel
theorem dX8_transmissions_1 : decode cX8_transmissions 1 = .ok (.iload_n 1, 1) := by decide +kernel
theorem dX8_transmissions_2 : decode cX8_transmissions 2 = .ok (.invokevirtual 147, 3) := by decide +kernel
theorem dX8_transmissions_5 : decode cX8_transmissions 5 = .ok (.ifCond .eq 12, 3) := by decide +kernel
theorem dX8_transmissions_8 : decode cX8_transmissions 8 = .ok (.aload_n 0, 1) := by decide +kernel
theorem dX8_transmissions_9 : decode cX8_transmissions 9 = .ok (.getfield 35, 3) := by decide +kernel
theorem dX8_transmissions_12 : decode cX8_transmissions 12 = .ok (.iload_n 1, 1) := by decide +kernel
theorem dX8_transmissions_13 : decode cX8_transmissions 13 = .ok (.iaload, 1) := by decide +kernel
theorem dX8_transmissions_14 : decode cX8_transmissions 14 = .ok (.goto 6, 3) := by decide +kernel
theorem dX8_transmissions_17 : decode cX8_transmissions 17 = .ok (.sipush (-1001), 3) := by decide +kernel
theorem dX8_transmissions_20 : decode cX8_transmissions 20 = .ok (.ireturn, 1) := by decide +kernel
theorem dX8_roundNumber_0 : decode cX8_roundNumber 0 = .ok (.aload_n 0, 1) := by decide +kernel
theorem dX8_roundNumber_1 : decode cX8_roundNumber 1 = .ok (.getfield 138, 3) := by decide +kernel
theorem dX8_roundNumber_4 : decode cX8_roundNumber 4 = .ok (.ireturn, 1) := by decide +kernel
theorem dX8_mix_0 : decode cX8_mix 0 = .ok (.aload_n 0, 1) := by decide +kernel
theorem dX8_mix_1 : decode cX8_mix 1 = .ok (.ldc2_w 207, 3) := by decide +kernel
theorem dX8_mix_4 : decode cX8_mix 4 = .ok (.aload_n 0, 1) := by decide +kernel
theorem dX8_mix_5 : decode cX8_mix 5 = .ok (.getfield 209, 3) := by decide +kernel
theorem dX8_mix_8 : decode cX8_mix 8 = .ok (.lmul, 1) := by decide +kernel
theorem dX8_mix_9 : decode cX8_mix 9 = .ok (.lload_n 1, 1) := by decide +kernel
theorem dX8_mix_10 : decode cX8_mix 10 = .ok (.ladd, 1) := by decide +kernel
theorem dX8_mix_11 : decode cX8_mix 11 = .ok (.putfield 209, 3) := by decide +kernel
theorem dX8_mix_14 : decode cX8_mix 14 = .ok (.return_, 1) := by decide +kernel
set_option maxRecDepth 20000 in
theorem ggX8_digest_X8_mix : GoodIn wsX8_digest wsX8_mix := goodIn_r _ [23, 24, 2, 39, 40, 41, 42, 43, 44, 45, 46, 47, 48, 49, 50, 51, 52, 53, 54, 55, 56, 57, 58, 59, 60, 61, 62, 63, 64, 65, 66, 67, 68, 69, 70, 71, 72, 73, 74, 75, 76, 77, 78, 79, 80] (by decide +kernel) (by decide +kernel)
set_option maxRecDepth 20000 in
theorem gX8_digest_X8_mix : GoodIn wsX8_digest (wsV RX8 215 RX8 yX8_mix wsX8_mix) := goodIn_app (goodIn_of _ (by decide +kernel)) ggX8_digest_X8_mix
set_option maxRecDepth 20000 in
theorem ggX8_digest_X8_hops : GoodIn wsX8_digest wsX8_hops := goodIn_r _ [28, 29, 39, 40, 41, 42, 43, 44, 45, 46, 47, 48, 49, 50, 51, 52, 53, 54, 55, 56, 57, 58, 59, 60, 61, 62, 63, 64, 65, 66, 67, 68, 69, 70, 71, 72, 73, 74, 75, 76, 77, 78, 79, 80] (by decide +kernel) (by decide +kernel)
set_option maxRecDepth 20000 in
theorem gX8_digest_X8_hops : GoodIn wsX8_digest (wsV RX8 172 RX8 yX8_hops wsX8_hops) := goodIn_app (goodIn_of _ (by decide +kernel)) ggX8_digest_X8_hops
set_option maxRecDepth 20000 in
theorem ggX8_digest_X8_scheduleBits : GoodIn wsX8_digest wsX8_scheduleBits := goodIn_r _ [33, 13, 34, 35, 36, 22, 37, 38, 14, 39, 40, 41, 42, 43, 44, 45, 46, 47, 48, 49, 50, 51, 52, 53, 54, 55, 56, 57, 58, 59, 60, 61, 62, 63, 64, 65, 66, 67, 68, 69, 70, 71, 72, 73, 74, 75, 76, 77, 78, 79, 80] (by decide +kernel) (by decide +kernel)
set_option maxRecDepth 20000 in
theorem gX8_digest_X8_scheduleBits : GoodIn wsX8_digest (wsV RX8 219 RX8 yX8_scheduleBits wsX8_scheduleBits) := goodIn_app (goodIn_of _ (by decide +kernel)) ggX8_digest_X8_scheduleBits
theorem dX8_digest_0 : decode cX8_digest 0 = .ok (.aload_n 0, 1) := by decide +kernel
theorem dX8_digest_1 : decode cX8_digest 1 = .ok (.ldc2_w 213, 3) := by decide +kernel
theorem dX8_digest_4 : decode cX8_digest 4 = .ok (.putfield 209, 3) := by decide +kernel
theorem dX8_digest_7 : decode cX8_digest 7 = .ok (.iconst 0, 1) := by decide +kernel
theorem dX8_digest_8 : decode cX8_digest 8 = .ok (.istore_n 1, 1) := by decide +kernel
theorem dX8_digest_9 : decode cX8_digest 9 = .ok (.iload_n 1, 1) := by decide +kernel
theorem dX8_digest_10 : decode cX8_digest 10 = .ok (.aload_n 0, 1) := by decide +kernel
theorem dX8_digest_11 : decode cX8_digest 11 = .ok (.getfield 129, 3) := by decide +kernel
theorem dX8_digest_14 : decode cX8_digest 14 = .ok (.if_icmp .ge 70, 3) := by decide +kernel
theorem dX8_digest_17 : decode cX8_digest 17 = .ok (.aload_n 0, 1) := by decide +kernel
theorem dX8_digest_18 : decode cX8_digest 18 = .ok (.aload_n 0, 1) := by decide +kernel
theorem dX8_digest_19 : decode cX8_digest 19 = .ok (.getfield 29, 3) := by decide +kernel
theorem dX8_digest_22 : decode cX8_digest 22 = .ok (.iload_n 1, 1) := by decide +kernel
theorem dX8_digest_23 : decode cX8_digest 23 = .ok (.iaload, 1) := by decide +kernel
theorem dX8_digest_24 : decode cX8_digest 24 = .ok (.i2l, 1) := by decide +kernel
theorem dX8_digest_25 : decode cX8_digest 25 = .ok (.invokevirtual 215, 3) := by decide +kernel
theorem dX8_digest_28 : decode cX8_digest 28 = .ok (.aload_n 0, 1) := by decide +kernel
theorem dX8_digest_29 : decode cX8_digest 29 = .ok (.aload_n 0, 1) := by decide +kernel
theorem dX8_digest_30 : decode cX8_digest 30 = .ok (.iload_n 1, 1) := by decide +kernel
theorem dX8_digest_31 : decode cX8_digest 31 = .ok (.invokevirtual 172, 3) := by decide +kernel
theorem dX8_digest_34 : decode cX8_digest 34 = .ok (.i2l, 1) := by decide +kernel
theorem dX8_digest_35 : decode cX8_digest 35 = .ok (.invokevirtual 215, 3) := by decide +kernel
theorem dX8_digest_38 : decode cX8_digest 38 = .ok (.aload_n 0, 1) := by decide +kernel
theorem dX8_digest_39 : decode cX8_digest 39 = .ok (.aload_n 0, 1) := by decide +kernel
theorem dX8_digest_40 : decode cX8_digest 40 = .ok (.getfield 38, 3) := by decide +kernel
theorem dX8_digest_43 : decode cX8_digest 43 = .ok (.iload_n 1, 1) := by decide +kernel
theorem dX8_digest_44 : decode cX8_digest 44 = .ok (.iaload, 1) := by decide +kernel
theorem dX8_digest_45 : decode cX8_digest 45 = .ok (.i2l, 1) := by decide +kernel
theorem dX8_digest_46 : decode cX8_digest 46 = .ok (.invokevirtual 215, 3) := by decide +kernel
theorem dX8_digest_49 : decode cX8_digest 49 = .ok (.aload_n 0, 1) := by decide +kernel
theorem dX8_digest_50 : decode cX8_digest 50 = .ok (.aload_n 0, 1) := by decide +kernel
theorem dX8_digest_51 : decode cX8_digest 51 = .ok (.getfield 35, 3) := by decide +kernel
theorem dX8_digest_54 : decode cX8_digest 54 = .ok (.iload_n 1, 1) := by decide +kernel
theorem dX8_digest_55 : decode cX8_digest 55 = .ok (.iaload, 1) := by decide +kernel
theorem dX8_digest_56 : decode cX8_digest 56 = .ok (.i2l, 1) := by decide +kernel
theorem dX8_digest_57 : decode cX8_digest 57 = .ok (.invokevirtual 215, 3) := by decide +kernel
theorem dX8_digest_60 : decode cX8_digest 60 = .ok (.aload_n 0, 1) := by decide +kernel
theorem dX8_digest_61 : decode cX8_digest 61 = .ok (.aload_n 0, 1) := by decide +kernel
theorem dX8_digest_62 : decode cX8_digest 62 = .ok (.getfield 25, 3) := by decide +kernel
theorem dX8_digest_65 : decode cX8_digest 65 = .ok (.iload_n 1, 1) := by decide +kernel
theorem dX8_digest_66 : decode cX8_digest 66 = .ok (.baload, 1) := by decide +kernel
theorem dX8_digest_67 : decode cX8_digest 67 = .ok (.ifCond .eq 7, 3) := by decide +kernel
theorem dX8_digest_70 : decode cX8_digest 70 = .ok (.lconst 1, 1) := by decide +kernel
theorem dX8_digest_71 : decode cX8_digest 71 = .ok (.goto 4, 3) := by decide +kernel
theorem dX8_digest_74 : decode cX8_digest 74 = .ok (.lconst 0, 1) := by decide +kernel
theorem dX8_digest_75 : decode cX8_digest 75 = .ok (.invokevirtual 215, 3) := by decide +kernel
theorem dX8_digest_78 : decode cX8_digest 78 = .ok (.iinc 1 1, 3) := by decide +kernel
theorem dX8_digest_81 : decode cX8_digest 81 = .ok (.goto (-72), 3) := by decide +kernel
theorem dX8_digest_84 : decode cX8_digest 84 = .ok (.aload_n 0, 1) := by decide +kernel
theorem dX8_digest_85 : decode cX8_digest 85 = .ok (.aload_n 0, 1) := by decide +kernel
theorem dX8_digest_86 : decode cX8_digest 86 = .ok (.getfield 151, 3) := by decide +kernel
theorem dX8_digest_89 : decode cX8_digest 89 = .ok (.i2l, 1) := by decide +kernel
theorem dX8_digest_90 : decode cX8_digest 90 = .ok (.invokevirtual 215, 3) := by decide +kernel
theorem dX8_digest_93 : decode cX8_digest 93 = .ok (.iconst 0, 1) := by decide +kernel
theorem dX8_digest_94 : decode cX8_digest 94 = .ok (.istore_n 1, 1) := by decide +kernel
theorem dX8_digest_95 : decode cX8_digest 95 = .ok (.iload_n 1, 1) := by decide +kernel
theorem dX8_digest_96 : decode cX8_digest 96 = .ok (.aload_n 0, 1) := by decide +kernel
theorem dX8_digest_97 : decode cX8_digest 97 = .ok (.getfield 141, 3) := by decide +kernel
theorem dX8_digest_100 : decode cX8_digest 100 = .ok (.if_icmp .ge 42, 3) := by decide +kernel
theorem dX8_digest_103 : decode cX8_digest 103 = .ok (.aload_n 0, 1) := by decide +kernel
theorem dX8_digest_104 : decode cX8_digest 104 = .ok (.aload_n 0, 1) := by decide +kernel
theorem dX8_digest_105 : decode cX8_digest 105 = .ok (.getfield 66, 3) := by decide +kernel
theorem dX8_digest_108 : decode cX8_digest 108 = .ok (.iload_n 1, 1) := by decide +kernel
theorem dX8_digest_109 : decode cX8_digest 109 = .ok (.iaload, 1) := by decide +kernel
theorem dX8_digest_110 : decode cX8_digest 110 = .ok (.i2l, 1) := by decide +kernel
theorem dX8_digest_111 : decode cX8_digest 111 = .ok (.invokevirtual 215, 3) := by decide +kernel
theorem dX8_digest_114 : decode cX8_digest 114 = .ok (.aload_n 0, 1) := by decide +kernel
theorem dX8_digest_115 : decode cX8_digest 115 = .ok (.aload_n 0, 1) := by decide +kernel
theorem dX8_digest_116 : decode cX8_digest 116 = .ok (.getfield 72, 3) := by decide +kernel
theorem dX8_digest_119 : decode cX8_digest 119 = .ok (.iload_n 1, 1) := by decide +kernel
theorem dX8_digest_120 : decode cX8_digest 120 = .ok (.iaload, 1) := by decide +kernel
theorem dX8_digest_121 : decode cX8_digest 121 = .ok (.i2l, 1) := by decide +kernel
theorem dX8_digest_122 : decode cX8_digest 122 = .ok (.invokevirtual 215, 3) := by decide +kernel
theorem dX8_digest_125 : decode cX8_digest 125 = .ok (.aload_n 0, 1) := by decide +kernel
theorem dX8_digest_126 : decode cX8_digest 126 = .ok (.aload_n 0, 1) := by decide +kernel
theorem dX8_digest_127 : decode cX8_digest 127 = .ok (.getfield 75, 3) := by decide +kernel
theorem dX8_digest_130 : decode cX8_digest 130 = .ok (.iload_n 1, 1) := by decide +kernel
theorem dX8_digest_131 : decode cX8_digest 131 = .ok (.iaload, 1) := by decide +kernel
theorem dX8_digest_132 : decode cX8_digest 132 = .ok (.i2l, 1) := by decide +kernel
theorem dX8_digest_133 : decode cX8_digest 133 = .ok (.invokevirtual 215, 3) := by decide +kernel
theorem dX8_digest_136 : decode cX8_digest 136 = .ok (.iinc 1 1, 3) := by decide +kernel
theorem dX8_digest_139 : decode cX8_digest 139 = .ok (.goto (-44), 3) := by decide +kernel
theorem dX8_digest_142 : decode cX8_digest 142 = .ok (.iconst 0, 1) := by decide +kernel
theorem dX8_digest_143 : decode cX8_digest 143 = .ok (.istore_n 1, 1) := by decide +kernel
theorem dX8_digest_144 : decode cX8_digest 144 = .ok (.iload_n 1, 1) := by decide +kernel
theorem dX8_digest_145 : decode cX8_digest 145 = .ok (.aload_n 0, 1) := by decide +kernel
theorem dX8_digest_146 : decode cX8_digest 146 = .ok (.getfield 144, 3) := by decide +kernel
theorem dX8_digest_149 : decode cX8_digest 149 = .ok (.if_icmp .ge 20, 3) := by decide +kernel
theorem dX8_digest_152 : decode cX8_digest 152 = .ok (.aload_n 0, 1) := by decide +kernel
theorem dX8_digest_153 : decode cX8_digest 153 = .ok (.aload_n 0, 1) := by decide +kernel
theorem dX8_digest_154 : decode cX8_digest 154 = .ok (.getfield 78, 3) := by decide +kernel
theorem dX8_digest_157 : decode cX8_digest 157 = .ok (.iload_n 1, 1) := by decide +kernel
theorem dX8_digest_158 : decode cX8_digest 158 = .ok (.iaload, 1) := by decide +kernel
theorem dX8_digest_159 : decode cX8_digest 159 = .ok (.i2l, 1) := by decide +kernel
theorem dX8_digest_160 : decode cX8_digest 160 = .ok (.invokevirtual 215, 3) := by decide +kernel
theorem dX8_digest_163 : decode cX8_digest 163 = .ok (.iinc 1 1, 3) := by decide +kernel
theorem dX8_digest_166 : decode cX8_digest 166 = .ok (.goto (-22), 3) := by decide +kernel
theorem dX8_digest_169 : decode cX8_digest 169 = .ok (.aload_n 0, 1) := by decide +kernel
theorem dX8_digest_170 : decode cX8_digest 170 = .ok (.aload_n 0, 1) := by decide +kernel
theorem dX8_digest_171 : decode cX8_digest 171 = .ok (.invokevirtual 219, 3) := by decide +kernel
theorem dX8_digest_174 : decode cX8_digest 174 = .ok (.i2l, 1) := by decide +kernel
theorem dX8_digest_175 : decode cX8_digest 175 = .ok (.invokevirtual 215, 3) := by decide +kernel
theorem dX8_digest_178 : decode cX8_digest 178 = .ok (.aload_n 0, 1) := by decide +kernel
theorem dX8_digest_179 : decode cX8_digest 179 = .ok (.aload_n 0, 1) := by decide +kernel
theorem dX8_digest_180 : decode cX8_digest 180 = .ok (.getfield 41, 3) := by decide +kernel
theorem dX8_digest_183 : decode cX8_digest 183 = .ok (.i2l, 1) := by decide +kernel
theorem dX8_digest_184 : decode cX8_digest 184 = .ok (.invokevirtual 215, 3) := by decide +kernel
theorem dX8_digest_187 : decode cX8_digest 187 = .ok (.aload_n 0, 1) := by decide +kernel
theorem dX8_digest_188 : decode cX8_digest 188 = .ok (.aload_n 0, 1) := by decide +kernel
theorem dX8_digest_189 : decode cX8_digest 189 = .ok (.getfield 138, 3) := by decide +kernel
theorem dX8_digest_192 : decode cX8_digest 192 = .ok (.i2l, 1) := by decide +kernel
theorem dX8_digest_193 : decode cX8_digest 193 = .ok (.invokevirtual 215, 3) := by decide +kernel
theorem dX8_digest_196 : decode cX8_digest 196 = .ok (.iconst 0, 1) := by decide +kernel
theorem dX8_digest_197 : decode cX8_digest 197 = .ok (.istore_n 1, 1) := by decide +kernel
theorem dX8_digest_198 : decode cX8_digest 198 = .ok (.iload_n 1, 1) := by decide +kernel
theorem dX8_digest_199 : decode cX8_digest 199 = .ok (.aload_n 0, 1) := by decide +kernel
theorem dX8_digest_200 : decode cX8_digest 200 = .ok (.getfield 106, 3) := by decide +kernel
theorem dX8_digest_203 : decode cX8_digest 203 = .ok (.if_icmp .ge 20, 3) := by decide +kernel
theorem dX8_digest_206 : decode cX8_digest 206 = .ok (.aload_n 0, 1) := by decide +kernel
theorem dX8_digest_207 : decode cX8_digest 207 = .ok (.aload_n 0, 1) := by decide +kernel
theorem dX8_digest_208 : decode cX8_digest 208 = .ok (.getfield 7, 3) := by decide +kernel
theorem dX8_digest_211 : decode cX8_digest 211 = .ok (.iload_n 1, 1) := by decide +kernel
theorem dX8_digest_212 : decode cX8_digest 212 = .ok (.iaload, 1) := by decide +kernel
theorem dX8_digest_213 : decode cX8_digest 213 = .ok (.i2l, 1) := by decide +kernel
theorem dX8_digest_214 : decode cX8_digest 214 = .ok (.invokevirtual 215, 3) := by decide +kernel
theorem dX8_digest_217 : decode cX8_digest 217 = .ok (.iinc 1 1, 3) := by decide +kernel
theorem dX8_digest_220 : decode cX8_digest 220 = .ok (.goto (-22), 3) := by decide +kernel
theorem dX8_digest_223 : decode cX8_digest 223 = .ok (.aload_n 0, 1) := by decide +kernel
theorem dX8_digest_224 : decode cX8_digest 224 = .ok (.aload_n 0, 1) := by decide +kernel
theorem dX8_digest_225 : decode cX8_digest 225 = .ok (.getfield 106, 3) := by decide +kernel
theorem dX8_digest_228 : decode cX8_digest 228 = .ok (.i2l, 1) := by decide +kernel
theorem dX8_digest_229 : decode cX8_digest 229 = .ok (.invokevirtual 215, 3) := by decide +kernel
theorem dX8_digest_232 : decode cX8_digest 232 = .ok (.aload_n 0, 1) := by decide +kernel
theorem dX8_digest_233 : decode cX8_digest 233 = .ok (.getfield 209, 3) := by decide +kernel
theorem dX8_digest_236 : decode cX8_digest 236 = .ok (.lreturn, 1) := by decide +kernel
theorem dJ9_max_7cf53_0 : decode cJ9_max_7cf53 0 = .ok (.iload_n 0, 1) := by decide +kernel
theorem dJ9_max_7cf53_1 : decode cJ9_max_7cf53 1 = .ok (.iload_n 1, 1) := by decide +kernel
theorem dJ9_max_7cf53_2 : decode cJ9_max_7cf53 2 = .ok (.if_icmp .lt 7, 3) := by decide +kernel
theorem dJ9_max_7cf53_5 : decode cJ9_max_7cf53 5 = .ok (.iload_n 0, 1) := by decide +kernel
theorem dJ9_max_7cf53_6 : decode cJ9_max_7cf53 6 = .ok (.goto 4, 3) := by decide +kernel
theorem dJ9_max_7cf53_9 : decode cJ9_max_7cf53 9 = .ok (.iload_n 1, 1) := by decide +kernel
theorem dJ9_max_7cf53_10 : decode cJ9_max_7cf53 10 = .ok (.ireturn, 1) := by decide +kernel
theorem dJ9_min_7cf53_0 : decode cJ9_min_7cf53 0 = .ok (.iload_n 0, 1) := by decide +kernel
theorem dJ9_min_7cf53_1 : decode cJ9_min_7cf53 1 = .ok (.iload_n 1, 1) := by decide +kernel
theorem dJ9_min_7cf53_2 : decode cJ9_min_7cf53 2 = .ok (.if_icmp .gt 7, 3) := by decide +kernel
theorem dJ9_min_7cf53_5 : decode cJ9_min_7cf53 5 = .ok (.iload_n 0, 1) := by decide +kernel
theorem dJ9_min_7cf53_6 : decode cJ9_min_7cf53 6 = .ok (.goto 4, 3) := by decide +kernel
theorem dJ9_min_7cf53_9 : decode cJ9_min_7cf53 9 = .ok (.iload_n 1, 1) := by decide +kernel
theorem dJ9_min_7cf53_10 : decode cJ9_min_7cf53 10 = .ok (.ireturn, 1) := by decide +kernel
theorem dJ7_fill_53178_0 : decode cJ7_fill_53178 0 = .ok (.iconst 0, 1) := by decide +kernel
theorem dJ7_fill_53178_1 : decode cJ7_fill_53178 1 = .ok (.istore_n 2, 1) := by decide +kernel
theorem dJ7_fill_53178_2 : decode cJ7_fill_53178 2 = .ok (.aload_n 0, 1) := by decide +kernel
theorem dJ7_fill_53178_3 : decode cJ7_fill_53178 3 = .ok (.arraylength, 1) := by decide +kernel
theorem dJ7_fill_53178_4 : decode cJ7_fill_53178 4 = .ok (.istore_n 3, 1) := by decide +kernel
theorem dJ7_fill_53178_5 : decode cJ7_fill_53178 5 = .ok (.iload_n 2, 1) := by decide +kernel
theorem dJ7_fill_53178_6 : decode cJ7_fill_53178 6 = .ok (.iload_n 3, 1) := by decide +kernel
theorem dJ7_fill_53178_7 : decode cJ7_fill_53178 7 = .ok (.if_icmp .ge 13, 3) := by decide +kernel
theorem dJ7_fill_53178_10 : decode cJ7_fill_53178 10 = .ok (.aload_n 0, 1) := by decide +kernel
theorem dJ7_fill_53178_11 : decode cJ7_fill_53178 11 = .ok (.iload_n 2, 1) := by decide +kernel
theorem dJ7_fill_53178_12 : decode cJ7_fill_53178 12 = .ok (.iload_n 1, 1) := by decide +kernel
theorem dJ7_fill_53178_13 : decode cJ7_fill_53178 13 = .ok (.iastore, 1) := by decide +kernel
theorem dJ7_fill_53178_14 : decode cJ7_fill_53178 14 = .ok (.iinc 2 1, 3) := by decide +kernel
theorem dJ7_fill_53178_17 : decode cJ7_fill_53178 17 = .ok (.goto (-12), 3) := by decide +kernel
theorem dJ7_fill_53178_20 : decode cJ7_fill_53178 20 = .ok (.return_, 1) := by decide +kernel
end
section
theorem bl_cases {x : Int32} (h : x &&& 1 = x) : x = 0 ∨ x = 1 := by
  have h1 : x.toBitVec &&& 1#32 = x.toBitVec := congrArg Int32.toBitVec h
  have h2 : x.toBitVec = 0#32 ∨ x.toBitVec = 1#32 := by
    have h3 : (x.toBitVec &&& 1#32).toNat ≤ 1 := by rw [BitVec.toNat_and]; exact Nat.and_le_right
    rw [h1] at h3
    rcases (show x.toBitVec.toNat = 0 ∨ x.toBitVec.toNat = 1 by omega) with q | q
    · exact Or.inl (BitVec.eq_of_toNat_eq (by rw [q]; rfl))
    · exact Or.inr (BitVec.eq_of_toNat_eq (by rw [q]; rfl))
  rcases h2 with q | q
  · exact Or.inl (Int32.toBitVec_inj.mp q)
  · exact Or.inr (Int32.toBitVec_inj.mp q)
theorem bl_fits {x : Int32} (h : x &&& 1 = x) : fits .boolean (.int x) = true := by
  rcases bl_cases h with rfl | rfl <;> decide +kernel
theorem bl_nar {x : Int32} (h : x &&& 1 = x) : vp_nar .boolean x = x := by
  rcases bl_cases h with rfl | rfl <;> decide +kernel

/-! PART 02: THE FIXED WORLD. Both constructors make 92 cells, no call makes one more: the cells bear the numbers 0 .. 91 (0 .. 65 the class's, 66 .. 91 the reference's), cell i lies at ρ i. What changes is numbers alone: C i k (class), N.1 i k (reference), N.2 (the reference's long h). -/
abbrev Xm : Type := Nat → Nat → Int32
abbrev Nm : Type := (Nat → Nat → Int32) × Int64
/-- the array kinds' identities: int, boolean, Stream, int[] -/
abbrev Gc : Type := ClassId × ClassId × ClassId × ClassId
/-- shapes: an object (its kind in vwCl, its fields: 0 int, 1 long, j+2 a reference to cell j), an array (0 int, 1 boolean, 2 of Streams, b+3 of int rows from cell b on; length) -/
def shL : List ((Nat × List Nat) ⊕ (Nat × Nat)) := [.inl (7, [3, 24, 48, 52, 66, 0, 0, 0, 0]), .inl (0, [4, 0, 5, 0, 0, 0, 0, 0]), .inr (0, 61), .inl (2, [6, 15]), .inr (8, 8), .inr (0, 8), .inr (0, 8), .inr (0, 8), .inr (0, 8), .inr (0, 8), .inr (0, 8), .inr (0, 8), .inr (0, 8), .inr (17, 8), .inr (0, 8), .inr (0, 8), .inr (0, 8), .inr (0, 8), .inr (0, 8), .inr (0, 8), .inr (0, 8), .inr (0, 8), .inl (3, [25, 0, 44, 45, 46, 47]), .inl (2, [26, 35]), .inr (28, 8), .inr (0, 8), .inr (0, 8), .inr (0, 8), .inr (0, 8), .inr (0, 8), .inr (0, 8), .inr (0, 8), .inr (0, 8), .inr (37, 8), .inr (0, 8), .inr (0, 8), .inr (0, 8), .inr (0, 8), .inr (0, 8), .inr (0, 8), .inr (0, 8), .inr (0, 8), .inr (1, 8), .inr (0, 8), .inr (0, 8), .inr (1, 8), .inl (1, [49, 50, 51, 0, 0, 0]), .inr (0, 8), .inr (0, 8), .inr (0, 8), .inl (6, [53, 0]), .inr (2, 6), .inl (5, [55, 0, 0, 0, 0, 0, 0]), .inr (0, 4), .inl (5, [57, 0, 0, 0, 0, 0, 0]), .inr (0, 4), .inl (5, [59, 0, 0, 0, 0, 0, 0]), .inr (0, 4), .inl (5, [61, 0, 0, 0, 0, 0, 0]), .inr (0, 4), .inl (5, [63, 0, 0, 0, 0, 0, 0]), .inr (0, 4), .inl (5, [65, 0, 0, 0, 0, 0, 0]), .inr (0, 4), .inl (4, [67, 0]), .inr (0, 6), .inl (8, [0, 69, 0, 0, 70, 71, 72, 73, 74, 75, 76, 77, 78, 0, 0, 0, 0, 0, 0, 0, 0, 79, 80, 81, 82, 83, 84, 85, 0, 86, 0, 0, 87, 88, 89, 90, 0, 0, 91, 92, 93, 1]), .inr (0, 61), .inr (0, 12), .inr (0, 12), .inr (0, 12), .inr (0, 12), .inr (1, 8), .inr (0, 8), .inr (0, 8), .inr (0, 8), .inr (0, 8), .inr (0, 6), .inr (0, 6), .inr (0, 6), .inr (0, 6), .inr (0, 24), .inr (0, 6), .inr (0, 6), .inr (0, 6), .inr (0, 12), .inr (0, 12), .inr (0, 12), .inr (0, 12), .inr (0, 8), .inr (0, 8), .inr (1, 8)]
def shp (i : Nat) : (Nat × List Nat) ⊕ (Nat × Nat) := shL.getD i (.inr (0, 0))
def rd (C : Xm) (N : Nm) (i : Nat) : Nat → Int32 := if i < 66 then C i else N.1 i
def fv (ρ : Nat → Nat) (f : Nat → Int32) (h : Int64) (k : Nat) (code : Nat) : Value := match code with
  | 0 => .int (f k)
  | 1 => .long h
  | j + 2 => .ref (ρ j)
def fvs (ρ : Nat → Nat) (f : Nat → Int32) (h : Int64) (fc : List Nat) : List Value := fc.zipIdx.map (fun q => fv ρ f h q.2 q.1)
def arE (G : Gc) (ρ : Nat → Nat) (f : Nat → Int32) (t n : Nat) : va_E := match t with
  | 0 => .inl (G.1, n, .inl f)
  | 1 => .inl (G.2.1, n, .inl f)
  | 2 => .inl (G.2.2.1, n, .inr (.inr (.inr (.inr (fun j => some (ρ (52 + 2 * (f j).toNatClampNeg)))))))
  | b + 3 => .inl (G.2.2.2, n, .inr (.inr (.inr (.inr (fun j => if j < n then some (ρ (b + j)) else none)))))
def ceE (G : Gc) (ρ : Nat → Nat) (f : Nat → Int32) (h : Int64) (i : Nat) : va_E := match shp i with
  | .inl q => .inr (q.1, fvs ρ f h q.2)
  | .inr q => arE G ρ f q.1 q.2
def wld (G : Gc) (ρ : Nat → Nat) (C : Xm) (N : Nm) : va_W := (List.range 92).map (fun i => (ρ i, ceE G ρ (rd C N i) N.2 i))
def tyG (G : Gc) : List (ClassId × FieldType) := [(G.1, .int), (G.2.1, .boolean), (G.2.2.1, .object RX5), (G.2.2.2, .array .int)]
def wr (C : Xm) (i k : Nat) (v : Int32) : Xm := fun a b => if a = i ∧ b = k then v else C a b
def wrN (N : Nm) (i k : Nat) (v : Int32) : Nm := (fun a b => if a = i ∧ b = k then v else N.1 a b, N.2)
theorem wld_at {G : Gc} {ρ : Nat → Nat} {C : Xm} {N : Nm} {i : Nat} (hi : i < 92) : (wld G ρ C N)[i]? = some (ρ i, ceE G ρ (rd C N i) N.2 i) := by
  unfold wld
  rw [List.getElem?_map, List.getElem?_range hi]
  rfl
theorem wld_obj {G : Gc} {ρ : Nat → Nat} {C : Xm} {N : Nm} {i : Nat} {ci : Nat} {fc : List Nat} (hi : i < 92) (hs : shp i = .inl (ci, fc)) : (wld G ρ C N)[i]? = some (ρ i, .inr (ci, fvs ρ (rd C N i) N.2 fc)) := by
  rw [wld_at hi]; unfold ceE; rw [hs]
theorem wld_arr {G : Gc} {ρ : Nat → Nat} {C : Xm} {N : Nm} {i : Nat} {t n : Nat} (hi : i < 92) (hs : shp i = .inr (t, n)) : (wld G ρ C N)[i]? = some (ρ i, arE G ρ (rd C N i) t n) := by
  rw [wld_at hi]; unfold ceE; rw [hs]
theorem wld_len {G : Gc} {ρ : Nat → Nat} {C : Xm} {N : Nm} : (wld G ρ C N).length = 92 := by simp [wld]
theorem wld_set {G : Gc} {ρ : Nat → Nat} {C C' : Xm} {N N' : Nm} {i : Nat} {e : va_E} (hi : i < 92) (he : ceE G ρ (rd C' N' i) N'.2 i = e) (ho : ∀ j, j < 92 → j ≠ i → ceE G ρ (rd C' N' j) N'.2 j = ceE G ρ (rd C N j) N.2 j) : (wld G ρ C N).set i (ρ i, e) = wld G ρ C' N' := by
  apply List.ext_getElem?
  intro k
  rw [List.getElem?_set]
  by_cases hk : k < 92
  · by_cases e1 : i = k
    · subst e1
      rw [if_pos rfl, if_pos (by rw [wld_len]; exact hi), wld_at hi, he]
    · rw [if_neg e1, wld_at hk, wld_at hk, ho k hk (fun q => e1 q.symm)]
  · rw [if_neg (by omega)]
    rw [List.getElem?_eq_none (by rw [wld_len]; omega), List.getElem?_eq_none (by rw [wld_len]; omega)]
theorem wr_row {C : Xm} {i k : Nat} {v : Int32} : wr C i k v i = upd (C i) k v := by
  funext b; unfold wr upd; simp
theorem wr_off {C : Xm} {i k j : Nat} {v : Int32} (h : j ≠ i) : wr C i k v j = C j := by
  funext b; unfold wr; simp [h]
theorem rd_x {C : Xm} {N : Nm} {i : Nat} (h : i < 66) : rd C N i = C i := if_pos h
theorem rd_n {C : Xm} {N : Nm} {i : Nat} (h : 66 ≤ i) : rd C N i = N.1 i := if_neg (by omega)
theorem rd_wx {C : Xm} {N : Nm} {i k : Nat} {v : Int32} (h : i < 66) : rd (wr C i k v) N i = upd (rd C N i) k v := by rw [rd_x h, rd_x h, wr_row]
theorem rd_wx_off {C : Xm} {N : Nm} {i k j : Nat} {v : Int32} (h : j ≠ i) : rd (wr C i k v) N j = rd C N j := by unfold rd; rw [wr_off h]
theorem rd_wn {C : Xm} {N : Nm} {i k : Nat} {v : Int32} (h : 66 ≤ i) : rd C (wrN N i k v) i = upd (rd C N i) k v := by
  rw [rd_n h, rd_n h]; funext b; unfold wrN upd; simp
theorem rd_wn_off {C : Xm} {N : Nm} {i k j : Nat} {v : Int32} (h : j ≠ i) : rd C (wrN N i k v) j = rd C N j := by
  unfold rd wrN; split
  · rfl
  · funext b; simp [h]
theorem fvs_at {ρ : Nat → Nat} {f : Nat → Int32} {h : Int64} {fc : List Nat} {k code : Nat} (hk : fc[k]? = some code) : (fvs ρ f h fc)[k]? = some (fv ρ f h k code) := by
  unfold fvs
  rw [List.getElem?_map, List.getElem?_zipIdx, hk]
  simp
theorem fvs_len {ρ : Nat → Nat} {f : Nat → Int32} {h : Int64} {fc : List Nat} : (fvs ρ f h fc).length = fc.length := by simp [fvs]
theorem fvs_upd {ρ : Nat → Nat} {f : Nat → Int32} {h : Int64} {fc : List Nat} {k : Nat} {v : Int32} (hk : fc[k]? = some 0) : fvs ρ (upd f k v) h fc = (fvs ρ f h fc).set k (.int v) := by
  apply List.ext_getElem?
  intro j
  rw [List.getElem?_set]
  by_cases e : k = j
  · subst e
    rw [if_pos rfl, if_pos (by rw [fvs_len]; exact (List.getElem?_eq_some_iff.mp hk).1), fvs_at hk]
    simp [fv, upd]
  · rw [if_neg e]
    cases hj : fc[j]? with
    | none =>
      rw [List.getElem?_eq_none (by rw [fvs_len]; exact List.getElem?_eq_none_iff.mp hj), List.getElem?_eq_none (by rw [fvs_len]; exact List.getElem?_eq_none_iff.mp hj)]
    | some code =>
      rw [fvs_at hj, fvs_at hj]
      unfold fv
      split
      · have e2 : ¬ j = k := fun q => e q.symm
        simp [upd, e2]
      · rfl
      · rfl
theorem fvs_long {ρ : Nat → Nat} {f : Nat → Int32} {h h' : Int64} {fc : List Nat} {k : Nat} (hk : fc[k]? = some 1) (ho : ∀ j, j ≠ k → fc[j]? ≠ some 1) : fvs ρ f h' fc = (fvs ρ f h fc).set k (.long h') := by
  apply List.ext_getElem?
  intro j
  rw [List.getElem?_set]
  by_cases e : k = j
  · subst e
    rw [if_pos rfl, if_pos (by rw [fvs_len]; exact (List.getElem?_eq_some_iff.mp hk).1), fvs_at hk]
    rfl
  · rw [if_neg e]
    cases hj : fc[j]? with
    | none =>
      rw [List.getElem?_eq_none (by rw [fvs_len]; exact List.getElem?_eq_none_iff.mp hj), List.getElem?_eq_none (by rw [fvs_len]; exact List.getElem?_eq_none_iff.mp hj)]
    | some code =>
      rw [fvs_at hj, fvs_at hj]
      have h1 := ho j (fun q => e q.symm)
      rw [hj] at h1
      match code, h1 with
      | 0, _ => rfl
      | 1, h1 => exact absurd rfl h1
      | _ + 2, _ => rfl
theorem wld_putX {G : Gc} {ρ : Nat → Nat} {C : Xm} {N : Nm} {i k ci : Nat} {fc : List Nat} {v : Int32} (hi : i < 66) (hs : shp i = .inl (ci, fc)) (hk : fc[k]? = some 0) : (wld G ρ C N).set i (ρ i, .inr (ci, (fvs ρ (rd C N i) N.2 fc).set k (.int v))) = wld G ρ (wr C i k v) N :=
  wld_set (by omega) (by unfold ceE; rw [hs]; show Sum.inr (ci, fvs ρ (rd (wr C i k v) N i) N.2 fc) = _; rw [rd_wx hi, fvs_upd hk]) (fun j _ hj => by rw [rd_wx_off hj])
theorem wld_putN {G : Gc} {ρ : Nat → Nat} {C : Xm} {N : Nm} {i k ci : Nat} {fc : List Nat} {v : Int32} (hi : 66 ≤ i) (hi2 : i < 92) (hs : shp i = .inl (ci, fc)) (hk : fc[k]? = some 0) : (wld G ρ C N).set i (ρ i, .inr (ci, (fvs ρ (rd C N i) N.2 fc).set k (.int v))) = wld G ρ C (wrN N i k v) :=
  wld_set hi2 (by unfold ceE; rw [hs]; show Sum.inr (ci, fvs ρ (rd C (wrN N i k v) i) N.2 fc) = _; rw [rd_wn hi, fvs_upd hk]) (fun j _ hj => by rw [rd_wn_off hj]; rfl)
theorem no_long : ∀ i, i < 92 → i ≠ 66 → (match shp i with | .inl q => q.2.all (fun c => !(c == 1)) | .inr _ => true) = true := by decide +kernel
theorem fvs_nolong {ρ : Nat → Nat} {f : Nat → Int32} {h h' : Int64} {fc : List Nat} (ha : fc.all (fun c => !(c == 1)) = true) : fvs ρ f h' fc = fvs ρ f h fc := by
  apply List.ext_getElem?
  intro j
  cases hj : fc[j]? with
  | none => rw [List.getElem?_eq_none (by rw [fvs_len]; exact List.getElem?_eq_none_iff.mp hj), List.getElem?_eq_none (by rw [fvs_len]; exact List.getElem?_eq_none_iff.mp hj)]
  | some code =>
    rw [fvs_at hj, fvs_at hj]
    have h1 := List.all_eq_true.mp ha code (List.mem_of_getElem? hj)
    match code, h1 with
    | 0, _ => rfl
    | 1, h1 => simp at h1
    | _ + 2, _ => rfl
theorem wld_long {G : Gc} {ρ : Nat → Nat} {C : Xm} {N : Nm} {k ci : Nat} {fc : List Nat} {v : Int64} (hs : shp 66 = .inl (ci, fc)) (hk : fc[k]? = some 1) (ho : ∀ j, j ≠ k → fc[j]? ≠ some 1) : (wld G ρ C N).set 66 (ρ 66, .inr (ci, (fvs ρ (rd C N 66) N.2 fc).set k (.long v))) = wld G ρ C (N.1, v) :=
  wld_set (by omega) (by unfold ceE; rw [hs]; show Sum.inr (ci, fvs ρ (rd C (N.1, v) 66) v fc) = _; rw [fvs_long (h := N.2) hk ho]; rfl) (fun j hj h6 => by
    have h1 := no_long j hj h6
    show ceE G ρ (rd C N j) v j = _
    unfold ceE
    cases hsj : shp j with
    | inl q => rw [hsj] at h1; simp only; rw [fvs_nolong (h := N.2) h1]
    | inr q => rfl)
theorem wld_setX {G : Gc} {ρ : Nat → Nat} {C : Xm} {N : Nm} {i k n t : Nat} {v : Int32} {e : va_E} (hi : i < 66) (hs : shp i = .inr (t, n)) (he : arE G ρ (upd (rd C N i) k v) t n = e) : (wld G ρ C N).set i (ρ i, e) = wld G ρ (wr C i k v) N :=
  wld_set (by omega) (by unfold ceE; rw [hs]; show arE G ρ (rd (wr C i k v) N i) t n = _; rw [rd_wx hi, he]) (fun j _ hj => by rw [rd_wx_off hj])
theorem wld_setN {G : Gc} {ρ : Nat → Nat} {C : Xm} {N : Nm} {i k n t : Nat} {v : Int32} {e : va_E} (hi : 66 ≤ i) (hi2 : i < 92) (hs : shp i = .inr (t, n)) (he : arE G ρ (upd (rd C N i) k v) t n = e) : (wld G ρ C N).set i (ρ i, e) = wld G ρ C (wrN N i k v) :=
  wld_set hi2 (by unfold ceE; rw [hs]; show arE G ρ (rd C (wrN N i k v) i) t n = _; rw [rd_wn hi, he]) (fun j _ hj => by rw [rd_wn_off hj]; rfl)
/-- a whole row of the class's copied or filled -/
def wrR (C : Xm) (i : Nat) (g : Nat → Int32) : Xm := fun a => if a = i then g else C a
theorem wld_rowX {G : Gc} {ρ : Nat → Nat} {C : Xm} {N : Nm} {i n t : Nat} {g : Nat → Int32} {e : va_E} (hi : i < 66) (hs : shp i = .inr (t, n)) (he : arE G ρ g t n = e) : (wld G ρ C N).set i (ρ i, e) = wld G ρ (wrR C i g) N :=
  wld_set (by omega) (by unfold ceE; rw [hs]; show arE G ρ (rd (wrR C i g) N i) t n = _; rw [rd_x hi]; unfold wrR; rw [if_pos rfl, he]) (fun j _ hj => by
    have : rd (wrR C i g) N j = rd C N j := by unfold rd wrR; rw [if_neg hj]
    rw [this])
def Inj (ρ : Nat → Nat) : Prop := ∀ i j, i < 92 → j < 92 → ρ i = ρ j → i = j
theorem wld_D {G : Gc} {ρ : Nat → Nat} {C : Xm} {N : Nm} {A : Nat → Prop} (hI : Inj ρ) (hA : ∀ i, i < 92 → A (ρ i)) : va_D A (wld G ρ C N) := by
  have lt : ∀ (k : Nat) (q : Nat × va_E), (wld G ρ C N)[k]? = some q → k < 92 ∧ q.1 = ρ k := by
    intro k q h
    have h1 : k < 92 := by rw [← wld_len (G := G) (ρ := ρ) (C := C) (N := N)]; exact (List.getElem?_eq_some_iff.mp h).1
    rw [wld_at h1] at h
    exact ⟨h1, by rw [← Option.some.inj h]⟩
  refine ⟨fun i j a b hi hj hab => ?_, fun k q h => ?_⟩
  · obtain ⟨h1, h2⟩ := lt i a hi
    obtain ⟨h3, h4⟩ := lt j b hj
    exact hI i j h1 h3 (by rw [← h2, ← h4]; exact hab)
  · obtain ⟨h1, h2⟩ := lt k q h
    rw [h2]; exact hA k h1
/-- which cells a method may change: the world's, and later ones -/
def WA (ρ : Nat → Nat) (sz : Nat) : Nat → Prop := fun q => (∃ i, i < 92 ∧ q = ρ i) ∨ sz ≤ q
def Bw (D : va_G) (G : Gc) (ρ : Nat → Nat) (C : Xm) (N : Nm) (t : State) : Prop := va_P D vwCl (wld G ρ C N) t.heap ∧ va_K D vwCl (tyG G) t
def Pw (D : va_G) (G : Gc) (ρ : Nat → Nat) (sz : Nat) (C : Xm) (N : Nm) (U : State) : Prop := U.heap.size = sz ∧ va_P D vwCl (wld G ρ C N) U.heap ∧ va_K D vwCl (tyG G) U ∧ Inj ρ
/-- THE CONTRACTS: called with these values in the world (C, N), y returns r (a long, nothing) in a world (C', N') with P -/
def Ki (l : Launch) (y : MethodName) (ws : List Cond) (rm : Room) (D : va_G) (G : Gc) (ρ : Nat → Nat) (vals : List Value) (C : Xm) (N : Nm) (P : Int32 → Xm → Nm → Prop) : Prop := ∀ sz, Met l y ws rm (va_Pc vals (Pw D G ρ sz C N)) (va_Qi (fun r (u : Xm × Nm) => P r u.1 u.2) (fun u t => Bw D G ρ u.1 u.2 t) (WA ρ sz)) 0 0 (WA ρ sz)
def Kl (l : Launch) (y : MethodName) (ws : List Cond) (rm : Room) (D : va_G) (G : Gc) (ρ : Nat → Nat) (vals : List Value) (C : Xm) (N : Nm) (P : Int64 → Xm → Nm → Prop) : Prop := ∀ sz, Met l y ws rm (va_Pc vals (Pw D G ρ sz C N)) (va_Ql (fun r (u : Xm × Nm) => P r u.1 u.2) (fun u t => Bw D G ρ u.1 u.2 t) (WA ρ sz)) 0 0 (WA ρ sz)
def Kv (l : Launch) (y : MethodName) (ws : List Cond) (rm : Room) (D : va_G) (G : Gc) (ρ : Nat → Nat) (vals : List Value) (C : Xm) (N : Nm) (P : Xm → Nm → Prop) : Prop := ∀ sz, Met l y ws rm (va_Pc vals (Pw D G ρ sz C N)) (va_Qv (fun (u : Xm × Nm) => P u.1 u.2) (fun u t => Bw D G ρ u.1 u.2 t) (WA ρ sz)) 0 0 (WA ρ sz)
theorem Pw_blind {D : va_G} {G : Gc} {ρ : Nat → Nat} {sz : Nat} {C : Xm} {N : Nm} {vals : List Value} : FrameBlind (va_Pc vals (Pw D G ρ sz C N)) := fun a U g mk q => by
  obtain ⟨q0, q1, qP, qK, qD⟩ := q
  exact ⟨q0, q1, qP, va_K.moved (u := U) (U := U.calling g mk a) (Vm.Alike.refl U.vm) qK, qD⟩
def Qi (D : va_G) (G : Gc) (ρ : Nat → Nat) (s : State) (args : Array Value) (below : List Frame) (P : Int32 → Xm → Nm → Prop) : State → Prop := MQ below (va_Qi (fun r (u : Xm × Nm) => P r u.1 u.2) (fun u t => Bw D G ρ u.1 u.2 t) (WA ρ s.heap.size)) args s 0 0 (WA ρ s.heap.size)
def Ql (D : va_G) (G : Gc) (ρ : Nat → Nat) (s : State) (args : Array Value) (below : List Frame) (P : Int64 → Xm → Nm → Prop) : State → Prop := MQ below (va_Ql (fun r (u : Xm × Nm) => P r u.1 u.2) (fun u t => Bw D G ρ u.1 u.2 t) (WA ρ s.heap.size)) args s 0 0 (WA ρ s.heap.size)
def Qv (D : va_G) (G : Gc) (ρ : Nat → Nat) (s : State) (args : Array Value) (below : List Frame) (P : Xm → Nm → Prop) : State → Prop := MQ below (va_Qv (fun (u : Xm × Nm) => P u.1 u.2) (fun u t => Bw D G ρ u.1 u.2 t) (WA ρ s.heap.size)) args s 0 0 (WA ρ s.heap.size)
/-- THE JUDGEMENT: at pc, with locals L, stack st, in the world (C, N), the machine comes to a state with Q -/
def V (p : Program) (l : Launch) (e : Env) (R : Room) (s : State) (m : MethodId) (args : Array Value) (below : List Frame) (meth : Method) (c : Code) (D : va_G) (G : Gc) (ρ : Nat → Nat) (A : Nat → Prop) (H0 : Heap) (nL cells slots : Nat) (Q : State → Prop) (pc : Nat) (L : List (Nat × Value)) (st : List Value) (C : Xm) (N : Nm) : Prop :=
  ∀ (H : Heap) (locs : List Loc) (ls : Array Slot), va_P D vwCl (wld G ρ C N) H → va_S A H0 H locs → lv_has ls nL L → W p l e R s m args below meth c H locs cells slots Q (F0 m pc ls st)
/-- what stands fast in a method's body -/
def Cx (p : Program) (s : State) (m : MethodId) (args : Array Value) (c : Code) (cc : ByteArray) (nL : Nat) (own : String) (Ts : List Cond) (D : va_G) (G : Gc) (ρ : Nat → Nat) (A : Nat → Prop) (H0 : Heap) : Prop :=
  p.tables.exec = Jvm.exec ∧ c.code = cc ∧ c.maxLocals = nL ∧ s.vm.findClass own = some m.cls ∧ (∀ w ∈ Ts, w.before args s = true) ∧ va_K D vwCl (tyG G) s ∧ Inj ρ ∧ (∀ i, i < 92 → A (ρ i)) ∧ (∀ q, H0.size ≤ q → A q)
/-- the words of the functions that are read off the bytecode: a name for a value, a place where ways meet, an index in its row, a boolean -/
def bd {α : Type} (x : α) (f : α → Prop) : Prop := f x
theorem bd_at {α : Type} {x y : α} {f : α → Prop} (h : bd x f) (e : y = x) : f y := by subst e; exact h
def jn {α : Type} (J : α) (b : α → Prop) : Prop := b J
theorem jn_o {α : Type} {J : α} {b : α → Prop} {P : Prop} (h : jn J b) (k : ∀ j, j = J → b j → P) : P := k J rfl h
theorem ite_t {c : Prop} {hd : Decidable c} {A B : Prop} (h : if c then A else B) (hc : c) : A := by rwa [if_pos hc] at h
theorem ite_f {c : Prop} {hd : Decidable c} {A B : Prop} (h : if c then A else B) (hc : ¬ c) : B := by rwa [if_neg hc] at h
abbrev inb (x : Int32) (n : Nat) : Prop := 0 ≤ x.toInt ∧ x.toInt < n
theorem inb_in {x : Int32} {n : Nat} (h : inb x n) : vp_in x n := vp_in_iff.mpr h
abbrev bl (x : Int32) : Prop := x &&& 1 = x
def irm (x y : Int32) : Int32 := x - x / y * y

section VB
variable {p : Program} {l : Launch} {e : Env} {R : Room} {s : State} {m : MethodId} {args : Array Value} {below : List Frame} {meth : Method} {c : Code} {cells slots : Nat} {Q : State → Prop}
variable {cc : ByteArray} {nL : Nat} {own : String} {Ts : List Cond} {D : va_G} {G : Gc} {ρ : Nat → Nat} {A : Nat → Prop} {H0 : Heap}
variable {pc n tgt : Nat} {L L2 : List (Nat × Value)} {st : List Value} {C : Xm} {N : Nm}
theorem V_iconst (X : Cx p s m args c cc nL own Ts D G ρ A H0) {i : Int} {v : Int32} (hv : Int32.ofInt i = v) (hd : decode cc pc = .ok (.iconst i, 1)) (hn : pc + 1 = n) (k : V p l e R s m args below meth c D G ρ A H0 nL cells slots Q n L (.int v :: st) C N) : V p l e R s m args below meth c D G ρ A H0 nL cells slots Q pc L st C N := by
  subst hn; exact fun H locs ls hP hS hl => lv_iconst X.1 X.2.1 hd hv (k H locs ls hP hS hl)
theorem V_bipush (X : Cx p s m args c cc nL own Ts D G ρ A H0) {i : Int} {v : Int32} (hv : (Int8.ofInt i).toInt32 = v) (hd : decode cc pc = .ok (.bipush i, 2)) (hn : pc + 2 = n) (k : V p l e R s m args below meth c D G ρ A H0 nL cells slots Q n L (.int v :: st) C N) : V p l e R s m args below meth c D G ρ A H0 nL cells slots Q pc L st C N := by
  subst hn; exact fun H locs ls hP hS hl => lv_bipush X.1 X.2.1 hd hv (k H locs ls hP hS hl)
theorem V_sipush (X : Cx p s m args c cc nL own Ts D G ρ A H0) {i : Int} {v : Int32} (hv : (Int16.ofInt i).toInt32 = v) (hd : decode cc pc = .ok (.sipush i, 3)) (hn : pc + 3 = n) (k : V p l e R s m args below meth c D G ρ A H0 nL cells slots Q n L (.int v :: st) C N) : V p l e R s m args below meth c D G ρ A H0 nL cells slots Q pc L st C N := by
  subst hn; exact fun H locs ls hP hS hl => lv_sipush X.1 X.2.1 hd hv (k H locs ls hP hS hl)
theorem V_lconst (X : Cx p s m args c cc nL own Ts D G ρ A H0) {i : Fin 2} {v : Int64} (hv : Int64.ofNat (i : Nat) = v) (hd : decode cc pc = .ok (.lconst i, 1)) (hn : pc + 1 = n) (k : V p l e R s m args below meth c D G ρ A H0 nL cells slots Q n L (.long v :: st) C N) : V p l e R s m args below meth c D G ρ A H0 nL cells slots Q pc L st C N := by
  subst hn; exact fun H locs ls hP hS hl => lv_lconst X.1 X.2.1 hd hv (k H locs ls hP hS hl)
theorem V_iload_n (X : Cx p s m args c cc nL own Ts D G ρ A H0) {i : Fin 4} {j q : Nat} {x : Int32} (hj : (i : Nat) = j) (hq : L[q]? = some (j, .int x)) (hd : decode cc pc = .ok (.iload_n i, 1)) (hn : pc + 1 = n) (k : V p l e R s m args below meth c D G ρ A H0 nL cells slots Q n L (.int x :: st) C N) : V p l e R s m args below meth c D G ρ A H0 nL cells slots Q pc L st C N := by
  subst hn; exact fun H locs ls hP hS hl => lv_iload_n X.1 X.2.1 hd hj (lv_at hl q hq) (k H locs ls hP hS hl)
theorem V_iload (X : Cx p s m args c cc nL own Ts D G ρ A H0) {j q : Nat} {x : Int32} (hq : L[q]? = some (j, .int x)) (hd : decode cc pc = .ok (.iload j, 2)) (hn : pc + 2 = n) (k : V p l e R s m args below meth c D G ρ A H0 nL cells slots Q n L (.int x :: st) C N) : V p l e R s m args below meth c D G ρ A H0 nL cells slots Q pc L st C N := by
  subst hn; exact fun H locs ls hP hS hl => lv_iload X.1 X.2.1 hd (lv_at hl q hq) (k H locs ls hP hS hl)
theorem V_aload_n (X : Cx p s m args c cc nL own Ts D G ρ A H0) {i : Fin 4} {j q : Nat} {x : Nat} (hj : (i : Nat) = j) (hq : L[q]? = some (j, .ref x)) (hd : decode cc pc = .ok (.aload_n i, 1)) (hn : pc + 1 = n) (k : V p l e R s m args below meth c D G ρ A H0 nL cells slots Q n L (.ref x :: st) C N) : V p l e R s m args below meth c D G ρ A H0 nL cells slots Q pc L st C N := by
  subst hn; exact fun H locs ls hP hS hl => lv_aload_n X.1 X.2.1 hd hj (lv_at hl q hq) (k H locs ls hP hS hl)
theorem V_aload (X : Cx p s m args c cc nL own Ts D G ρ A H0) {j q : Nat} {x : Nat} (hq : L[q]? = some (j, .ref x)) (hd : decode cc pc = .ok (.aload j, 2)) (hn : pc + 2 = n) (k : V p l e R s m args below meth c D G ρ A H0 nL cells slots Q n L (.ref x :: st) C N) : V p l e R s m args below meth c D G ρ A H0 nL cells slots Q pc L st C N := by
  subst hn; exact fun H locs ls hP hS hl => lv_aload X.1 X.2.1 hd (lv_at hl q hq) (k H locs ls hP hS hl)
theorem V_lload_n (X : Cx p s m args c cc nL own Ts D G ρ A H0) {i : Fin 4} {j q : Nat} {x : Int64} (hj : (i : Nat) = j) (hq : L[q]? = some (j, .long x)) (hd : decode cc pc = .ok (.lload_n i, 1)) (hn : pc + 1 = n) (k : V p l e R s m args below meth c D G ρ A H0 nL cells slots Q n L (.long x :: st) C N) : V p l e R s m args below meth c D G ρ A H0 nL cells slots Q pc L st C N := by
  subst hn; exact fun H locs ls hP hS hl => lv_lload_n X.1 X.2.1 hd hj (lv_at hl q hq) (k H locs ls hP hS hl)
theorem V_lload (X : Cx p s m args c cc nL own Ts D G ρ A H0) {j q : Nat} {x : Int64} (hq : L[q]? = some (j, .long x)) (hd : decode cc pc = .ok (.lload j, 2)) (hn : pc + 2 = n) (k : V p l e R s m args below meth c D G ρ A H0 nL cells slots Q n L (.long x :: st) C N) : V p l e R s m args below meth c D G ρ A H0 nL cells slots Q pc L st C N := by
  subst hn; exact fun H locs ls hP hS hl => lv_lload X.1 X.2.1 hd (lv_at hl q hq) (k H locs ls hP hS hl)
theorem V_istore_n (X : Cx p s m args c cc nL own Ts D G ρ A H0) {i : Fin 4} {j : Nat} {x : Int32} (hj : (i : Nat) = j) (hlt : j < nL) (hL : (j, Value.int x) :: L.filter (fun q => !(q.1 == j) && !(q.1 + 1 == j && q.2.category == 2)) = L2) (hd : decode cc pc = .ok (.istore_n i, 1)) (hn : pc + 1 = n) (k : V p l e R s m args below meth c D G ρ A H0 nL cells slots Q n L2 st C N) : V p l e R s m args below meth c D G ρ A H0 nL cells slots Q pc L (.int x :: st) C N := by
  subst hn; exact fun H locs ls hP hS hl => lv_istore_n X.1 X.2.1 hd hj hl hlt hL (fun ls hl => k H locs ls hP hS hl)
theorem V_istore (X : Cx p s m args c cc nL own Ts D G ρ A H0) {j : Nat} {x : Int32} (hlt : j < nL) (hL : (j, Value.int x) :: L.filter (fun q => !(q.1 == j) && !(q.1 + 1 == j && q.2.category == 2)) = L2) (hd : decode cc pc = .ok (.istore j, 2)) (hn : pc + 2 = n) (k : V p l e R s m args below meth c D G ρ A H0 nL cells slots Q n L2 st C N) : V p l e R s m args below meth c D G ρ A H0 nL cells slots Q pc L (.int x :: st) C N := by
  subst hn; exact fun H locs ls hP hS hl => lv_istore X.1 X.2.1 hd hl hlt hL (fun ls hl => k H locs ls hP hS hl)
theorem V_astore_n (X : Cx p s m args c cc nL own Ts D G ρ A H0) {i : Fin 4} {j : Nat} {x : Nat} (hj : (i : Nat) = j) (hlt : j < nL) (hL : (j, Value.ref x) :: L.filter (fun q => !(q.1 == j) && !(q.1 + 1 == j && q.2.category == 2)) = L2) (hd : decode cc pc = .ok (.astore_n i, 1)) (hn : pc + 1 = n) (k : V p l e R s m args below meth c D G ρ A H0 nL cells slots Q n L2 st C N) : V p l e R s m args below meth c D G ρ A H0 nL cells slots Q pc L (.ref x :: st) C N := by
  subst hn; exact fun H locs ls hP hS hl => lv_astore_n X.1 X.2.1 hd hj hl hlt hL (fun ls hl => k H locs ls hP hS hl)
theorem V_astore (X : Cx p s m args c cc nL own Ts D G ρ A H0) {j : Nat} {x : Nat} (hlt : j < nL) (hL : (j, Value.ref x) :: L.filter (fun q => !(q.1 == j) && !(q.1 + 1 == j && q.2.category == 2)) = L2) (hd : decode cc pc = .ok (.astore j, 2)) (hn : pc + 2 = n) (k : V p l e R s m args below meth c D G ρ A H0 nL cells slots Q n L2 st C N) : V p l e R s m args below meth c D G ρ A H0 nL cells slots Q pc L (.ref x :: st) C N := by
  subst hn; exact fun H locs ls hP hS hl => lv_astore X.1 X.2.1 hd hl hlt hL (fun ls hl => k H locs ls hP hS hl)
theorem V_lstore_n (X : Cx p s m args c cc nL own Ts D G ρ A H0) {i : Fin 4} {j : Nat} {x : Int64} (hj : (i : Nat) = j) (hlt : j + 1 < nL) (hL : (j, Value.long x) :: L.filter (fun q => !(q.1 == j) && (!(q.1 == j + 1) && !(q.1 + 1 == j && q.2.category == 2))) = L2) (hd : decode cc pc = .ok (.lstore_n i, 1)) (hn : pc + 1 = n) (k : V p l e R s m args below meth c D G ρ A H0 nL cells slots Q n L2 st C N) : V p l e R s m args below meth c D G ρ A H0 nL cells slots Q pc L (.long x :: st) C N := by
  subst hn; exact fun H locs ls hP hS hl => lv_lstore_n X.1 X.2.1 hd hj hl hlt hL (fun ls hl => k H locs ls hP hS hl)
theorem V_lstore (X : Cx p s m args c cc nL own Ts D G ρ A H0) {j : Nat} {x : Int64} (hlt : j + 1 < nL) (hL : (j, Value.long x) :: L.filter (fun q => !(q.1 == j) && (!(q.1 == j + 1) && !(q.1 + 1 == j && q.2.category == 2))) = L2) (hd : decode cc pc = .ok (.lstore j, 2)) (hn : pc + 2 = n) (k : V p l e R s m args below meth c D G ρ A H0 nL cells slots Q n L2 st C N) : V p l e R s m args below meth c D G ρ A H0 nL cells slots Q pc L (.long x :: st) C N := by
  subst hn; exact fun H locs ls hP hS hl => lv_lstore X.1 X.2.1 hd hl hlt hL (fun ls hl => k H locs ls hP hS hl)
theorem V_topi {x : Int32} (k : ∀ y, y = x → V p l e R s m args below meth c D G ρ A H0 nL cells slots Q pc L (.int y :: st) C N) : V p l e R s m args below meth c D G ρ A H0 nL cells slots Q pc L (.int x :: st) C N := k x rfl
theorem V_topl {x : Int64} (k : ∀ y, y = x → V p l e R s m args below meth c D G ρ A H0 nL cells slots Q pc L (.long y :: st) C N) : V p l e R s m args below meth c D G ρ A H0 nL cells slots Q pc L (.long x :: st) C N := k x rfl
theorem V_iinc (X : Cx p s m args c cc nL own Ts D G ρ A H0) {j q : Nat} {i : Int} {x d : Int32} (hq : L[q]? = some (j, .int x)) (hv : Int32.ofInt i = d) (hlt : j < nL) {y : Int32} (hy : y = x + d) (hL : (j, Value.int y) :: L.filter (fun q => !(q.1 == j) && !(q.1 + 1 == j && q.2.category == 2)) = L2) (hd : decode cc pc = .ok (.iinc j i, 3)) (hn : pc + 3 = n) (k : V p l e R s m args below meth c D G ρ A H0 nL cells slots Q n L2 st C N) : V p l e R s m args below meth c D G ρ A H0 nL cells slots Q pc L st C N := by
  subst hn; exact fun H locs ls hP hS hl => lv_iinc X.1 X.2.1 hd hl hq (by rw [hv, hy]) hlt hL (fun ls hl => k H locs ls hP hS hl)
theorem V_iadd (X : Cx p s m args c cc nL own Ts D G ρ A H0) {x y : Int32} (hd : decode cc pc = .ok (.iadd, 1)) (hn : pc + 1 = n) (k : V p l e R s m args below meth c D G ρ A H0 nL cells slots Q n L (.int (x + y) :: st) C N) : V p l e R s m args below meth c D G ρ A H0 nL cells slots Q pc L (.int y :: .int x :: st) C N := by
  subst hn; exact fun H locs ls hP hS hl => lv_iadd X.1 X.2.1 hd  (k H locs ls hP hS hl)
theorem V_isub (X : Cx p s m args c cc nL own Ts D G ρ A H0) {x y : Int32} (hd : decode cc pc = .ok (.isub, 1)) (hn : pc + 1 = n) (k : V p l e R s m args below meth c D G ρ A H0 nL cells slots Q n L (.int (x - y) :: st) C N) : V p l e R s m args below meth c D G ρ A H0 nL cells slots Q pc L (.int y :: .int x :: st) C N := by
  subst hn; exact fun H locs ls hP hS hl => lv_isub X.1 X.2.1 hd  (k H locs ls hP hS hl)
theorem V_imul (X : Cx p s m args c cc nL own Ts D G ρ A H0) {x y : Int32} (hd : decode cc pc = .ok (.imul, 1)) (hn : pc + 1 = n) (k : V p l e R s m args below meth c D G ρ A H0 nL cells slots Q n L (.int (x * y) :: st) C N) : V p l e R s m args below meth c D G ρ A H0 nL cells slots Q pc L (.int y :: .int x :: st) C N := by
  subst hn; exact fun H locs ls hP hS hl => lv_imul X.1 X.2.1 hd  (k H locs ls hP hS hl)
theorem V_ishl (X : Cx p s m args c cc nL own Ts D G ρ A H0) {x y : Int32} (hd : decode cc pc = .ok (.ishl, 1)) (hn : pc + 1 = n) (k : V p l e R s m args below meth c D G ρ A H0 nL cells slots Q n L (.int (x <<< (y &&& 31)) :: st) C N) : V p l e R s m args below meth c D G ρ A H0 nL cells slots Q pc L (.int y :: .int x :: st) C N := by
  subst hn; exact fun H locs ls hP hS hl => lv_ishl X.1 X.2.1 hd  (k H locs ls hP hS hl)
theorem V_ishr (X : Cx p s m args c cc nL own Ts D G ρ A H0) {x y : Int32} (hd : decode cc pc = .ok (.ishr, 1)) (hn : pc + 1 = n) (k : V p l e R s m args below meth c D G ρ A H0 nL cells slots Q n L (.int (x >>> (y &&& 31)) :: st) C N) : V p l e R s m args below meth c D G ρ A H0 nL cells slots Q pc L (.int y :: .int x :: st) C N := by
  subst hn; exact fun H locs ls hP hS hl => lv_ishr X.1 X.2.1 hd  (k H locs ls hP hS hl)
theorem V_iand (X : Cx p s m args c cc nL own Ts D G ρ A H0) {x y : Int32} (hd : decode cc pc = .ok (.iand, 1)) (hn : pc + 1 = n) (k : V p l e R s m args below meth c D G ρ A H0 nL cells slots Q n L (.int (x &&& y) :: st) C N) : V p l e R s m args below meth c D G ρ A H0 nL cells slots Q pc L (.int y :: .int x :: st) C N := by
  subst hn; exact fun H locs ls hP hS hl => lv_iand X.1 X.2.1 hd  (k H locs ls hP hS hl)
theorem V_ior (X : Cx p s m args c cc nL own Ts D G ρ A H0) {x y : Int32} (hd : decode cc pc = .ok (.ior, 1)) (hn : pc + 1 = n) (k : V p l e R s m args below meth c D G ρ A H0 nL cells slots Q n L (.int (x ||| y) :: st) C N) : V p l e R s m args below meth c D G ρ A H0 nL cells slots Q pc L (.int y :: .int x :: st) C N := by
  subst hn; exact fun H locs ls hP hS hl => lv_ior X.1 X.2.1 hd  (k H locs ls hP hS hl)
theorem V_irem (X : Cx p s m args c cc nL own Ts D G ρ A H0) {x y : Int32} (hne : ¬ y = 0) (hd : decode cc pc = .ok (.irem, 1)) (hn : pc + 1 = n) (k : V p l e R s m args below meth c D G ρ A H0 nL cells slots Q n L (.int (irm x y) :: st) C N) : V p l e R s m args below meth c D G ρ A H0 nL cells slots Q pc L (.int y :: .int x :: st) C N := by
  subst hn; exact fun H locs ls hP hS hl => lv_irem X.1 X.2.1 hd hne (k H locs ls hP hS hl)
theorem V_idiv (X : Cx p s m args c cc nL own Ts D G ρ A H0) {x y : Int32} (hne : ¬ y = 0) (hd : decode cc pc = .ok (.idiv, 1)) (hn : pc + 1 = n) (k : V p l e R s m args below meth c D G ρ A H0 nL cells slots Q n L (.int (x / y) :: st) C N) : V p l e R s m args below meth c D G ρ A H0 nL cells slots Q pc L (.int y :: .int x :: st) C N := by
  subst hn; exact fun H locs ls hP hS hl => lv_idiv X.1 X.2.1 hd hne (k H locs ls hP hS hl)
theorem V_i2l (X : Cx p s m args c cc nL own Ts D G ρ A H0) {x : Int32} (hd : decode cc pc = .ok (.i2l, 1)) (hn : pc + 1 = n) (k : V p l e R s m args below meth c D G ρ A H0 nL cells slots Q n L (.long x.toInt64 :: st) C N) : V p l e R s m args below meth c D G ρ A H0 nL cells slots Q pc L (.int x :: st) C N := by
  subst hn; exact fun H locs ls hP hS hl => lv_i2l X.1 X.2.1 hd rfl (k H locs ls hP hS hl)
theorem V_ladd (X : Cx p s m args c cc nL own Ts D G ρ A H0) {x y : Int64} (hd : decode cc pc = .ok (.ladd, 1)) (hn : pc + 1 = n) (k : V p l e R s m args below meth c D G ρ A H0 nL cells slots Q n L (.long (x + y) :: st) C N) : V p l e R s m args below meth c D G ρ A H0 nL cells slots Q pc L (.long y :: .long x :: st) C N := by
  subst hn; exact fun H locs ls hP hS hl => lv_ladd X.1 X.2.1 hd  (k H locs ls hP hS hl)
theorem V_lmul (X : Cx p s m args c cc nL own Ts D G ρ A H0) {x y : Int64} (hd : decode cc pc = .ok (.lmul, 1)) (hn : pc + 1 = n) (k : V p l e R s m args below meth c D G ρ A H0 nL cells slots Q n L (.long (x * y) :: st) C N) : V p l e R s m args below meth c D G ρ A H0 nL cells slots Q pc L (.long y :: .long x :: st) C N := by
  subst hn; exact fun H locs ls hP hS hl => lv_lmul X.1 X.2.1 hd  (k H locs ls hP hS hl)
theorem V_lcmp (X : Cx p s m args c cc nL own Ts D G ρ A H0) {x y : Int64} (hd : decode cc pc = .ok (.lcmp, 1)) (hn : pc + 1 = n) (k : V p l e R s m args below meth c D G ρ A H0 nL cells slots Q n L (.int (lg_cmp x y) :: st) C N) : V p l e R s m args below meth c D G ρ A H0 nL cells slots Q pc L (.long y :: .long x :: st) C N := by
  subst hn; exact fun H locs ls hP hS hl => W.lcmp X.1 X.2.1 hd  (k H locs ls hP hS hl)
theorem V_dup (X : Cx p s m args c cc nL own Ts D G ρ A H0) {v : Value} (hv : v.category = 1) (hd : decode cc pc = .ok (.dup, 1)) (hn : pc + 1 = n) (k : V p l e R s m args below meth c D G ρ A H0 nL cells slots Q n L (v :: v :: st) C N) : V p l e R s m args below meth c D G ρ A H0 nL cells slots Q pc L (v :: st) C N := by
  subst hn; exact fun H locs ls hP hS hl => lv_dup X.1 X.2.1 hd hv (k H locs ls hP hS hl)
theorem V_dup2 (X : Cx p s m args c cc nL own Ts D G ρ A H0) {v u : Value} (hv : v.category = 1) (hu : u.category = 1) (hd : decode cc pc = .ok (.dup2, 1)) (hn : pc + 1 = n) (k : V p l e R s m args below meth c D G ρ A H0 nL cells slots Q n L (v :: u :: v :: u :: st) C N) : V p l e R s m args below meth c D G ρ A H0 nL cells slots Q pc L (v :: u :: st) C N := by
  subst hn; exact fun H locs ls hP hS hl => lv_dup2_11 X.1 X.2.1 hd hv hu (k H locs ls hP hS hl)
theorem V_pop (X : Cx p s m args c cc nL own Ts D G ρ A H0) {v : Value} (hv : v.category = 1) (hd : decode cc pc = .ok (.pop, 1)) (hn : pc + 1 = n) (k : V p l e R s m args below meth c D G ρ A H0 nL cells slots Q n L st C N) : V p l e R s m args below meth c D G ρ A H0 nL cells slots Q pc L (v :: st) C N := by
  subst hn; exact fun H locs ls hP hS hl => lv_pop X.1 X.2.1 hd hv (k H locs ls hP hS hl)
theorem V_goto (X : Cx p s m args c cc nL own Ts D G ρ A H0) {off : Int} (hd : decode cc pc = .ok (.goto off, 3)) (ht : (pc : Int) + off = (tgt : Int)) (k : V p l e R s m args below meth c D G ρ A H0 nL cells slots Q tgt L st C N) : V p l e R s m args below meth c D G ρ A H0 nL cells slots Q pc L st C N :=
  fun H locs ls hP hS hl => lv_goto X.1 X.2.1 hd ht (k H locs ls hP hS hl)
theorem V_if_eq (X : Cx p s m args c cc nL own Ts D G ρ A H0) {x : Int32} {off : Int} (hd : decode cc pc = .ok (.ifCond .eq off, 3)) (ht : (pc : Int) + off = (tgt : Int)) (hn : pc + 3 = n) (kt : x = 0 → V p l e R s m args below meth c D G ρ A H0 nL cells slots Q tgt L st C N) (kf : ¬ x = 0 → V p l e R s m args below meth c D G ρ A H0 nL cells slots Q n L st C N) : V p l e R s m args below meth c D G ρ A H0 nL cells slots Q pc L (.int x :: st) C N := by
  subst hn; exact fun H locs ls hP hS hl => lv_if_eq X.1 X.2.1 hd ht (fun h => kt h H locs ls hP hS hl) (fun h => kf h H locs ls hP hS hl)
theorem V_if_ne (X : Cx p s m args c cc nL own Ts D G ρ A H0) {x : Int32} {off : Int} (hd : decode cc pc = .ok (.ifCond .ne off, 3)) (ht : (pc : Int) + off = (tgt : Int)) (hn : pc + 3 = n) (kt : ¬ x = 0 → V p l e R s m args below meth c D G ρ A H0 nL cells slots Q tgt L st C N) (kf : x = 0 → V p l e R s m args below meth c D G ρ A H0 nL cells slots Q n L st C N) : V p l e R s m args below meth c D G ρ A H0 nL cells slots Q pc L (.int x :: st) C N := by
  subst hn; exact fun H locs ls hP hS hl => lv_if_ne X.1 X.2.1 hd ht (fun h => kt h H locs ls hP hS hl) (fun h => kf h H locs ls hP hS hl)
theorem V_if_lt (X : Cx p s m args c cc nL own Ts D G ρ A H0) {x : Int32} {off : Int} (hd : decode cc pc = .ok (.ifCond .lt off, 3)) (ht : (pc : Int) + off = (tgt : Int)) (hn : pc + 3 = n) (kt : x < 0 → V p l e R s m args below meth c D G ρ A H0 nL cells slots Q tgt L st C N) (kf : ¬ x < 0 → V p l e R s m args below meth c D G ρ A H0 nL cells slots Q n L st C N) : V p l e R s m args below meth c D G ρ A H0 nL cells slots Q pc L (.int x :: st) C N := by
  subst hn; exact fun H locs ls hP hS hl => lv_if_lt X.1 X.2.1 hd ht (fun h => kt h H locs ls hP hS hl) (fun h => kf h H locs ls hP hS hl)
theorem V_if_ge (X : Cx p s m args c cc nL own Ts D G ρ A H0) {x : Int32} {off : Int} (hd : decode cc pc = .ok (.ifCond .ge off, 3)) (ht : (pc : Int) + off = (tgt : Int)) (hn : pc + 3 = n) (kt : 0 ≤ x → V p l e R s m args below meth c D G ρ A H0 nL cells slots Q tgt L st C N) (kf : ¬ 0 ≤ x → V p l e R s m args below meth c D G ρ A H0 nL cells slots Q n L st C N) : V p l e R s m args below meth c D G ρ A H0 nL cells slots Q pc L (.int x :: st) C N := by
  subst hn; exact fun H locs ls hP hS hl => lv_if_ge X.1 X.2.1 hd ht (fun h => kt h H locs ls hP hS hl) (fun h => kf h H locs ls hP hS hl)
theorem V_if_gt (X : Cx p s m args c cc nL own Ts D G ρ A H0) {x : Int32} {off : Int} (hd : decode cc pc = .ok (.ifCond .gt off, 3)) (ht : (pc : Int) + off = (tgt : Int)) (hn : pc + 3 = n) (kt : 0 < x → V p l e R s m args below meth c D G ρ A H0 nL cells slots Q tgt L st C N) (kf : ¬ 0 < x → V p l e R s m args below meth c D G ρ A H0 nL cells slots Q n L st C N) : V p l e R s m args below meth c D G ρ A H0 nL cells slots Q pc L (.int x :: st) C N := by
  subst hn; exact fun H locs ls hP hS hl => lv_if_gt X.1 X.2.1 hd ht (fun h => kt h H locs ls hP hS hl) (fun h => kf h H locs ls hP hS hl)
theorem V_if_le (X : Cx p s m args c cc nL own Ts D G ρ A H0) {x : Int32} {off : Int} (hd : decode cc pc = .ok (.ifCond .le off, 3)) (ht : (pc : Int) + off = (tgt : Int)) (hn : pc + 3 = n) (kt : x ≤ 0 → V p l e R s m args below meth c D G ρ A H0 nL cells slots Q tgt L st C N) (kf : ¬ x ≤ 0 → V p l e R s m args below meth c D G ρ A H0 nL cells slots Q n L st C N) : V p l e R s m args below meth c D G ρ A H0 nL cells slots Q pc L (.int x :: st) C N := by
  subst hn; exact fun H locs ls hP hS hl => lv_if_le X.1 X.2.1 hd ht (fun h => kt h H locs ls hP hS hl) (fun h => kf h H locs ls hP hS hl)
theorem V_icmp_eq (X : Cx p s m args c cc nL own Ts D G ρ A H0) {x y : Int32} {off : Int} (hd : decode cc pc = .ok (.if_icmp .eq off, 3)) (ht : (pc : Int) + off = (tgt : Int)) (hn : pc + 3 = n) (kt : x = y → V p l e R s m args below meth c D G ρ A H0 nL cells slots Q tgt L st C N) (kf : ¬ x = y → V p l e R s m args below meth c D G ρ A H0 nL cells slots Q n L st C N) : V p l e R s m args below meth c D G ρ A H0 nL cells slots Q pc L (.int y :: .int x :: st) C N := by
  subst hn; exact fun H locs ls hP hS hl => lv_icmp_eq X.1 X.2.1 hd ht (fun h => kt h H locs ls hP hS hl) (fun h => kf h H locs ls hP hS hl)
theorem V_icmp_ne (X : Cx p s m args c cc nL own Ts D G ρ A H0) {x y : Int32} {off : Int} (hd : decode cc pc = .ok (.if_icmp .ne off, 3)) (ht : (pc : Int) + off = (tgt : Int)) (hn : pc + 3 = n) (kt : ¬ x = y → V p l e R s m args below meth c D G ρ A H0 nL cells slots Q tgt L st C N) (kf : x = y → V p l e R s m args below meth c D G ρ A H0 nL cells slots Q n L st C N) : V p l e R s m args below meth c D G ρ A H0 nL cells slots Q pc L (.int y :: .int x :: st) C N := by
  subst hn; exact fun H locs ls hP hS hl => lv_icmp_ne X.1 X.2.1 hd ht (fun h => kt h H locs ls hP hS hl) (fun h => kf h H locs ls hP hS hl)
theorem V_icmp_lt (X : Cx p s m args c cc nL own Ts D G ρ A H0) {x y : Int32} {off : Int} (hd : decode cc pc = .ok (.if_icmp .lt off, 3)) (ht : (pc : Int) + off = (tgt : Int)) (hn : pc + 3 = n) (kt : x < y → V p l e R s m args below meth c D G ρ A H0 nL cells slots Q tgt L st C N) (kf : ¬ x < y → V p l e R s m args below meth c D G ρ A H0 nL cells slots Q n L st C N) : V p l e R s m args below meth c D G ρ A H0 nL cells slots Q pc L (.int y :: .int x :: st) C N := by
  subst hn; exact fun H locs ls hP hS hl => lv_icmp_lt X.1 X.2.1 hd ht (fun h => kt h H locs ls hP hS hl) (fun h => kf h H locs ls hP hS hl)
theorem V_icmp_ge (X : Cx p s m args c cc nL own Ts D G ρ A H0) {x y : Int32} {off : Int} (hd : decode cc pc = .ok (.if_icmp .ge off, 3)) (ht : (pc : Int) + off = (tgt : Int)) (hn : pc + 3 = n) (kt : y ≤ x → V p l e R s m args below meth c D G ρ A H0 nL cells slots Q tgt L st C N) (kf : ¬ y ≤ x → V p l e R s m args below meth c D G ρ A H0 nL cells slots Q n L st C N) : V p l e R s m args below meth c D G ρ A H0 nL cells slots Q pc L (.int y :: .int x :: st) C N := by
  subst hn; exact fun H locs ls hP hS hl => lv_icmp_ge X.1 X.2.1 hd ht (fun h => kt h H locs ls hP hS hl) (fun h => kf h H locs ls hP hS hl)
theorem V_icmp_gt (X : Cx p s m args c cc nL own Ts D G ρ A H0) {x y : Int32} {off : Int} (hd : decode cc pc = .ok (.if_icmp .gt off, 3)) (ht : (pc : Int) + off = (tgt : Int)) (hn : pc + 3 = n) (kt : y < x → V p l e R s m args below meth c D G ρ A H0 nL cells slots Q tgt L st C N) (kf : ¬ y < x → V p l e R s m args below meth c D G ρ A H0 nL cells slots Q n L st C N) : V p l e R s m args below meth c D G ρ A H0 nL cells slots Q pc L (.int y :: .int x :: st) C N := by
  subst hn; exact fun H locs ls hP hS hl => lv_icmp_gt X.1 X.2.1 hd ht (fun h => kt h H locs ls hP hS hl) (fun h => kf h H locs ls hP hS hl)
theorem V_icmp_le (X : Cx p s m args c cc nL own Ts D G ρ A H0) {x y : Int32} {off : Int} (hd : decode cc pc = .ok (.if_icmp .le off, 3)) (ht : (pc : Int) + off = (tgt : Int)) (hn : pc + 3 = n) (kt : x ≤ y → V p l e R s m args below meth c D G ρ A H0 nL cells slots Q tgt L st C N) (kf : ¬ x ≤ y → V p l e R s m args below meth c D G ρ A H0 nL cells slots Q n L st C N) : V p l e R s m args below meth c D G ρ A H0 nL cells slots Q pc L (.int y :: .int x :: st) C N := by
  subst hn; exact fun H locs ls hP hS hl => lv_icmp_le X.1 X.2.1 hd ht (fun h => kt h H locs ls hP hS hl) (fun h => kf h H locs ls hP hS hl)
theorem V_tableIn (X : Cx p s m args c cc nL own Ts D G ρ A H0) {dflt lo hi : Int} {offs : Array Int} {len : Nat} {x : Int32} {off : Int} (hd : decode cc pc = .ok (.tableswitch dflt lo hi offs, len)) (h1 : ¬ x.toInt < lo) (h2 : ¬ hi < x.toInt) (ho : offs[(x.toInt - lo).toNat]? = some off) (ht : (pc : Int) + off = (tgt : Int)) (k : V p l e R s m args below meth c D G ρ A H0 nL cells slots Q tgt L st C N) : V p l e R s m args below meth c D G ρ A H0 nL cells slots Q pc L (.int x :: st) C N :=
  fun H locs ls hP hS hl => lv_tableIn X.1 X.2.1 hd h1 h2 ho ht (k H locs ls hP hS hl)
theorem V_tableOut (X : Cx p s m args c cc nL own Ts D G ρ A H0) {dflt lo hi : Int} {offs : Array Int} {len : Nat} {x : Int32} (hd : decode cc pc = .ok (.tableswitch dflt lo hi offs, len)) (h : x.toInt < lo ∨ hi < x.toInt) (ht : (pc : Int) + dflt = (tgt : Int)) (k : V p l e R s m args below meth c D G ρ A H0 nL cells slots Q tgt L st C N) : V p l e R s m args below meth c D G ρ A H0 nL cells slots Q pc L (.int x :: st) C N :=
  fun H locs ls hP hS hl => lv_tableOut X.1 X.2.1 hd h ht (k H locs ls hP hS hl)
theorem V_ldc2 (X : Cx p s m args c cc nL own Ts D G ρ A H0) {index : Nat} {v : Int64} (hw : Cond.constantLong own index v ∈ Ts) (hd : decode cc pc = .ok (.ldc2_w index, 3)) (hn : pc + 3 = n) (k : V p l e R s m args below meth c D G ρ A H0 nL cells slots Q n L (.long v :: st) C N) : V p l e R s m args below meth c D G ρ A H0 nL cells slots Q pc L st C N := by
  subst hn; exact fun H locs ls hP hS hl => lv_ldc2 X.1 X.2.1 X.2.2.2.1 (X.2.2.2.2.1 _ hw) hd (k H locs ls hP hS hl)
theorem V_getX (X : Cx p s m args c cc nL own Ts D G ρ A H0) {index i k ci : Nat} {fc : List Nat} {Cn : String} {T : u_T} {NF : Nat} (hi : i < 66) (hs : shp i = .inl (ci, fc)) (hf : fc[k]? = some 0) (hin : ∀ w ∈ u_ws Cn T NF, w ∈ Ts) (hc : vwCl[ci]? = some (Cn, T, NF)) (hk : k < NF) (hw : Cond.fieldLink own index (T k).1 (T k).2.1 (T k).2.2.1 ∈ Ts) (hd : decode cc pc = .ok (.getfield index, 3)) (hn : pc + 3 = n) (kk : V p l e R s m args below meth c D G ρ A H0 nL cells slots Q n L (.int (C i k) :: st) C N) : V p l e R s m args below meth c D G ρ A H0 nL cells slots Q pc L (.ref (ρ i) :: st) C N := by
  subst hn; exact fun H locs ls hP hS hl => va_get X.1 X.2.1 X.2.2.2.2.1 hin X.2.2.2.1 X.2.2.2.2.2.1 hP i (wld_obj (by omega) hs) hc k hk (X.2.2.2.2.1 _ hw) (fun _ h => h) (fvs_at hf) hd (by show W p l e R s m args below meth c H locs cells slots Q (F0 m (pc + 3) ls (.int (rd C N i k) :: st)); rw [rd_x hi]; exact kk H locs ls hP hS hl)
theorem V_getN (X : Cx p s m args c cc nL own Ts D G ρ A H0) {index i k ci : Nat} {fc : List Nat} {Cn : String} {T : u_T} {NF : Nat} (hi : 66 ≤ i) (hi2 : i < 92) (hs : shp i = .inl (ci, fc)) (hf : fc[k]? = some 0) (hin : ∀ w ∈ u_ws Cn T NF, w ∈ Ts) (hc : vwCl[ci]? = some (Cn, T, NF)) (hk : k < NF) (hw : Cond.fieldLink own index (T k).1 (T k).2.1 (T k).2.2.1 ∈ Ts) (hd : decode cc pc = .ok (.getfield index, 3)) (hn : pc + 3 = n) (kk : V p l e R s m args below meth c D G ρ A H0 nL cells slots Q n L (.int (N.1 i k) :: st) C N) : V p l e R s m args below meth c D G ρ A H0 nL cells slots Q pc L (.ref (ρ i) :: st) C N := by
  subst hn; exact fun H locs ls hP hS hl => va_get X.1 X.2.1 X.2.2.2.2.1 hin X.2.2.2.1 X.2.2.2.2.2.1 hP i (wld_obj hi2 hs) hc k hk (X.2.2.2.2.1 _ hw) (fun _ h => h) (fvs_at hf) hd (by show W p l e R s m args below meth c H locs cells slots Q (F0 m (pc + 3) ls (.int (rd C N i k) :: st)); rw [rd_n hi]; exact kk H locs ls hP hS hl)
theorem V_getR (X : Cx p s m args c cc nL own Ts D G ρ A H0) {index i k ci : Nat} {fc : List Nat} {Cn : String} {T : u_T} {NF : Nat} {j : Nat} (hi : i < 92) (hs : shp i = .inl (ci, fc)) (hf : fc[k]? = some (j + 2)) (hin : ∀ w ∈ u_ws Cn T NF, w ∈ Ts) (hc : vwCl[ci]? = some (Cn, T, NF)) (hk : k < NF) (hw : Cond.fieldLink own index (T k).1 (T k).2.1 (T k).2.2.1 ∈ Ts) (hd : decode cc pc = .ok (.getfield index, 3)) (hn : pc + 3 = n) (kk : V p l e R s m args below meth c D G ρ A H0 nL cells slots Q n L (.ref (ρ j) :: st) C N) : V p l e R s m args below meth c D G ρ A H0 nL cells slots Q pc L (.ref (ρ i) :: st) C N := by
  subst hn; exact fun H locs ls hP hS hl => va_get X.1 X.2.1 X.2.2.2.2.1 hin X.2.2.2.1 X.2.2.2.2.2.1 hP i (wld_obj hi hs) hc k hk (X.2.2.2.2.1 _ hw) (fun _ h => h) (fvs_at hf) hd (kk H locs ls hP hS hl)
theorem V_getL (X : Cx p s m args c cc nL own Ts D G ρ A H0) {index i k ci : Nat} {fc : List Nat} {Cn : String} {T : u_T} {NF : Nat} (hi : i < 92) (hs : shp i = .inl (ci, fc)) (hf : fc[k]? = some 1) (hin : ∀ w ∈ u_ws Cn T NF, w ∈ Ts) (hc : vwCl[ci]? = some (Cn, T, NF)) (hk : k < NF) (hw : Cond.fieldLink own index (T k).1 (T k).2.1 (T k).2.2.1 ∈ Ts) (hd : decode cc pc = .ok (.getfield index, 3)) (hn : pc + 3 = n) (kk : V p l e R s m args below meth c D G ρ A H0 nL cells slots Q n L (.long N.2 :: st) C N) : V p l e R s m args below meth c D G ρ A H0 nL cells slots Q pc L (.ref (ρ i) :: st) C N := by
  subst hn; exact fun H locs ls hP hS hl => va_get X.1 X.2.1 X.2.2.2.2.1 hin X.2.2.2.1 X.2.2.2.2.2.1 hP i (wld_obj hi hs) hc k hk (X.2.2.2.2.1 _ hw) (fun _ h => h) (fvs_at hf) hd (kk H locs ls hP hS hl)
theorem V_putX (X : Cx p s m args c cc nL own Ts D G ρ A H0) {index i k ci : Nat} {fc : List Nat} {Cn : String} {T : u_T} {NF : Nat} {x : Int32} (hi : i < 66) (hs : shp i = .inl (ci, fc)) (hf : fc[k]? = some 0) (hin : ∀ w ∈ u_ws Cn T NF, w ∈ Ts) (hc : vwCl[ci]? = some (Cn, T, NF)) (hk : k < NF) (hw : Cond.fieldLink own index (T k).1 (T k).2.1 (T k).2.2.1 ∈ Ts) (ty0 : Nat → FieldType) (hty : ∀ k, k < NF → parseFieldDescriptor (T k).2.2.1 = some (ty0 k)) (hnm : ∀ a, a < NF → ∀ b, b < NF → a ≠ b → (T a).2.1 ≠ (T b).2.1) (hfin : (T k).2.2.2 = false) (hd0 : parseFieldDescriptor (T k).2.2.1 = some .int) (hd : decode cc pc = .ok (.putfield index, 3)) (hn : pc + 3 = n) (kk : ∀ C1, C1 = wr C i k x → V p l e R s m args below meth c D G ρ A H0 nL cells slots Q n L st C1 N) : V p l e R s m args below meth c D G ρ A H0 nL cells slots Q pc L (.int x :: .ref (ρ i) :: st) C N := by
  subst hn; exact fun H locs ls hP hS hl => va_put (ty := .int) (v := .int x) X.1 X.2.1 X.2.2.2.2.1 hin ty0 hty hnm X.2.2.2.1 X.2.2.2.2.2.1 hP (wld_D X.2.2.2.2.2.2.1 X.2.2.2.2.2.2.2.1) hS i (wld_obj (by omega) hs) hc k hk (X.2.2.2.2.1 _ hw) (fun _ h => h) hfin hd0 rfl rfl (by rw [fvs_len]; exact (List.getElem?_eq_some_iff.mp hf).1) hd (fun H1 locs1 hP1 _ hS1 => kk _ rfl H1 locs1 ls (by rw [wld_putX hi hs hf] at hP1; exact hP1) hS1 hl)
theorem V_putN (X : Cx p s m args c cc nL own Ts D G ρ A H0) {index i k ci : Nat} {fc : List Nat} {Cn : String} {T : u_T} {NF : Nat} {x : Int32} (hi : 66 ≤ i) (hi2 : i < 92) (hs : shp i = .inl (ci, fc)) (hf : fc[k]? = some 0) (hin : ∀ w ∈ u_ws Cn T NF, w ∈ Ts) (hc : vwCl[ci]? = some (Cn, T, NF)) (hk : k < NF) (hw : Cond.fieldLink own index (T k).1 (T k).2.1 (T k).2.2.1 ∈ Ts) (ty0 : Nat → FieldType) (hty : ∀ k, k < NF → parseFieldDescriptor (T k).2.2.1 = some (ty0 k)) (hnm : ∀ a, a < NF → ∀ b, b < NF → a ≠ b → (T a).2.1 ≠ (T b).2.1) (hfin : (T k).2.2.2 = false) (hd0 : parseFieldDescriptor (T k).2.2.1 = some .int) (hd : decode cc pc = .ok (.putfield index, 3)) (hn : pc + 3 = n) (kk : ∀ N1, N1 = wrN N i k x → V p l e R s m args below meth c D G ρ A H0 nL cells slots Q n L st C N1) : V p l e R s m args below meth c D G ρ A H0 nL cells slots Q pc L (.int x :: .ref (ρ i) :: st) C N := by
  subst hn; exact fun H locs ls hP hS hl => va_put (ty := .int) (v := .int x) X.1 X.2.1 X.2.2.2.2.1 hin ty0 hty hnm X.2.2.2.1 X.2.2.2.2.2.1 hP (wld_D X.2.2.2.2.2.2.1 X.2.2.2.2.2.2.2.1) hS i (wld_obj hi2 hs) hc k hk (X.2.2.2.2.1 _ hw) (fun _ h => h) hfin hd0 rfl rfl (by rw [fvs_len]; exact (List.getElem?_eq_some_iff.mp hf).1) hd (fun H1 locs1 hP1 _ hS1 => kk _ rfl H1 locs1 ls (by rw [wld_putN hi hi2 hs hf] at hP1; exact hP1) hS1 hl)
theorem V_putB (X : Cx p s m args c cc nL own Ts D G ρ A H0) {index i k ci : Nat} {fc : List Nat} {Cn : String} {T : u_T} {NF : Nat} {x : Int32} (hx : bl x) (hi : 66 ≤ i) (hi2 : i < 92) (hs : shp i = .inl (ci, fc)) (hf : fc[k]? = some 0) (hin : ∀ w ∈ u_ws Cn T NF, w ∈ Ts) (hc : vwCl[ci]? = some (Cn, T, NF)) (hk : k < NF) (hw : Cond.fieldLink own index (T k).1 (T k).2.1 (T k).2.2.1 ∈ Ts) (ty0 : Nat → FieldType) (hty : ∀ k, k < NF → parseFieldDescriptor (T k).2.2.1 = some (ty0 k)) (hnm : ∀ a, a < NF → ∀ b, b < NF → a ≠ b → (T a).2.1 ≠ (T b).2.1) (hfin : (T k).2.2.2 = false) (hd0 : parseFieldDescriptor (T k).2.2.1 = some .boolean) (hd : decode cc pc = .ok (.putfield index, 3)) (hn : pc + 3 = n) (kk : ∀ N1, N1 = wrN N i k x → V p l e R s m args below meth c D G ρ A H0 nL cells slots Q n L st C N1) : V p l e R s m args below meth c D G ρ A H0 nL cells slots Q pc L (.int x :: .ref (ρ i) :: st) C N := by
  subst hn; exact fun H locs ls hP hS hl => va_put (ty := .boolean) (v := .int x) X.1 X.2.1 X.2.2.2.2.1 hin ty0 hty hnm X.2.2.2.1 X.2.2.2.2.2.1 hP (wld_D X.2.2.2.2.2.2.1 X.2.2.2.2.2.2.2.1) hS i (wld_obj hi2 hs) hc k hk (X.2.2.2.2.1 _ hw) (fun _ h => h) hfin hd0 (congrArg Value.int hx) (bl_fits hx) (by rw [fvs_len]; exact (List.getElem?_eq_some_iff.mp hf).1) hd (fun H1 locs1 hP1 _ hS1 => kk _ rfl H1 locs1 ls (by rw [wld_putN hi hi2 hs hf] at hP1; exact hP1) hS1 hl)
theorem V_putL (X : Cx p s m args c cc nL own Ts D G ρ A H0) {index i k ci : Nat} {fc : List Nat} {Cn : String} {T : u_T} {NF : Nat} {x : Int64} (hi : i = 66) (hs : shp i = .inl (ci, fc)) (hf : fc[k]? = some 1) (ho : ∀ j, j ≠ k → fc[j]? ≠ some 1) (hin : ∀ w ∈ u_ws Cn T NF, w ∈ Ts) (hc : vwCl[ci]? = some (Cn, T, NF)) (hk : k < NF) (hw : Cond.fieldLink own index (T k).1 (T k).2.1 (T k).2.2.1 ∈ Ts) (ty0 : Nat → FieldType) (hty : ∀ k, k < NF → parseFieldDescriptor (T k).2.2.1 = some (ty0 k)) (hnm : ∀ a, a < NF → ∀ b, b < NF → a ≠ b → (T a).2.1 ≠ (T b).2.1) (hfin : (T k).2.2.2 = false) (hd0 : parseFieldDescriptor (T k).2.2.1 = some .long) (hd : decode cc pc = .ok (.putfield index, 3)) (hn : pc + 3 = n) (kk : ∀ N1, N1 = (N.1, x) → V p l e R s m args below meth c D G ρ A H0 nL cells slots Q n L st C N1) : V p l e R s m args below meth c D G ρ A H0 nL cells slots Q pc L (.long x :: .ref (ρ i) :: st) C N := by
  subst hn; subst hi; exact fun H locs ls hP hS hl => va_put (ty := .long) (v := .long x) X.1 X.2.1 X.2.2.2.2.1 hin ty0 hty hnm X.2.2.2.1 X.2.2.2.2.2.1 hP (wld_D X.2.2.2.2.2.2.1 X.2.2.2.2.2.2.2.1) hS 66 (wld_obj (by omega) hs) hc k hk (X.2.2.2.2.1 _ hw) (fun _ h => h) hfin hd0 rfl rfl (by rw [fvs_len]; exact (List.getElem?_eq_some_iff.mp hf).1) hd (fun H1 locs1 hP1 _ hS1 => kk _ rfl H1 locs1 ls (by rw [wld_long hs hf ho] at hP1; exact hP1) hS1 hl)
theorem V_ildX (X : Cx p s m args c cc nL own Ts D G ρ A H0) {i n0 : Nat} {x : Int32} (hi : i < 66) (hs : shp i = .inr (0, n0)) (hb : inb x n0) (hd : decode cc pc = .ok (.iaload, 1)) (hn : pc + 1 = n) (kk : V p l e R s m args below meth c D G ρ A H0 nL cells slots Q n L (.int (C i x.toNatClampNeg) :: st) C N) : V p l e R s m args below meth c D G ρ A H0 nL cells slots Q pc L (.int x :: .ref (ρ i) :: st) C N := by
  subst hn; exact fun H locs ls hP hS hl => va_iald (f := rd C N i) X.1 X.2.1 X.2.2.2.2.2.1 hP i 0 (wld_arr (by omega) hs) rfl (inb_in hb) hd (by rw [rd_x hi]; exact kk H locs ls hP hS hl)
theorem V_ildN (X : Cx p s m args c cc nL own Ts D G ρ A H0) {i n0 : Nat} {x : Int32} (hi : 66 ≤ i) (hi2 : i < 92) (hs : shp i = .inr (0, n0)) (hb : inb x n0) (hd : decode cc pc = .ok (.iaload, 1)) (hn : pc + 1 = n) (kk : V p l e R s m args below meth c D G ρ A H0 nL cells slots Q n L (.int (N.1 i x.toNatClampNeg) :: st) C N) : V p l e R s m args below meth c D G ρ A H0 nL cells slots Q pc L (.int x :: .ref (ρ i) :: st) C N := by
  subst hn; exact fun H locs ls hP hS hl => va_iald (f := rd C N i) X.1 X.2.1 X.2.2.2.2.2.1 hP i 0 (wld_arr hi2 hs) rfl (inb_in hb) hd (by rw [rd_n hi]; exact kk H locs ls hP hS hl)
theorem V_zldX (X : Cx p s m args c cc nL own Ts D G ρ A H0) {i n0 : Nat} {x : Int32} (hi : i < 66) (hs : shp i = .inr (1, n0)) (hb : inb x n0) (hd : decode cc pc = .ok (.baload, 1)) (hn : pc + 1 = n) (kk : V p l e R s m args below meth c D G ρ A H0 nL cells slots Q n L (.int (C i x.toNatClampNeg) :: st) C N) : V p l e R s m args below meth c D G ρ A H0 nL cells slots Q pc L (.int x :: .ref (ρ i) :: st) C N := by
  subst hn; exact fun H locs ls hP hS hl => va_zald (f := rd C N i) X.1 X.2.1 X.2.2.2.2.2.1 hP i 1 (wld_arr (by omega) hs) rfl (inb_in hb) hd (by rw [rd_x hi]; exact kk H locs ls hP hS hl)
theorem V_zldN (X : Cx p s m args c cc nL own Ts D G ρ A H0) {i n0 : Nat} {x : Int32} (hi : 66 ≤ i) (hi2 : i < 92) (hs : shp i = .inr (1, n0)) (hb : inb x n0) (hd : decode cc pc = .ok (.baload, 1)) (hn : pc + 1 = n) (kk : V p l e R s m args below meth c D G ρ A H0 nL cells slots Q n L (.int (N.1 i x.toNatClampNeg) :: st) C N) : V p l e R s m args below meth c D G ρ A H0 nL cells slots Q pc L (.int x :: .ref (ρ i) :: st) C N := by
  subst hn; exact fun H locs ls hP hS hl => va_zald (f := rd C N i) X.1 X.2.1 X.2.2.2.2.2.1 hP i 1 (wld_arr hi2 hs) rfl (inb_in hb) hd (by rw [rd_n hi]; exact kk H locs ls hP hS hl)
theorem V_istX (X : Cx p s m args c cc nL own Ts D G ρ A H0) {i n0 : Nat} {x v : Int32}  (hi : i < 66) (hs : shp i = .inr (0, n0)) (hb : inb x n0) (hd : decode cc pc = .ok (.iastore, 1)) (hn : pc + 1 = n) (kk : ∀ C1, C1 = wr C i x.toNatClampNeg v → V p l e R s m args below meth c D G ρ A H0 nL cells slots Q n L st C1 N) : V p l e R s m args below meth c D G ρ A H0 nL cells slots Q pc L (.int v :: .int x :: .ref (ρ i) :: st) C N := by
  subst hn; exact fun H locs ls hP hS hl => va_iast (f := rd C N i) X.1 X.2.1 X.2.2.2.2.2.1 hP (wld_D X.2.2.2.2.2.2.1 X.2.2.2.2.2.2.2.1) hS i 0 (wld_arr (by omega) hs) rfl (inb_in hb) hd (fun H1 locs1 hP1 _ hS1 => kk _ rfl H1 locs1 ls (by rw [wld_setX (k := x.toNatClampNeg) (v := v) (e := Sum.inl (G.1, n0, Sum.inl (upd (rd C N i) x.toNatClampNeg v))) hi hs rfl] at hP1; exact hP1) hS1 hl)
theorem V_istN (X : Cx p s m args c cc nL own Ts D G ρ A H0) {i n0 : Nat} {x v : Int32}  (hi : 66 ≤ i) (hi2 : i < 92) (hs : shp i = .inr (0, n0)) (hb : inb x n0) (hd : decode cc pc = .ok (.iastore, 1)) (hn : pc + 1 = n) (kk : ∀ N1, N1 = wrN N i x.toNatClampNeg v → V p l e R s m args below meth c D G ρ A H0 nL cells slots Q n L st C N1) : V p l e R s m args below meth c D G ρ A H0 nL cells slots Q pc L (.int v :: .int x :: .ref (ρ i) :: st) C N := by
  subst hn; exact fun H locs ls hP hS hl => va_iast (f := rd C N i) X.1 X.2.1 X.2.2.2.2.2.1 hP (wld_D X.2.2.2.2.2.2.1 X.2.2.2.2.2.2.2.1) hS i 0 (wld_arr hi2 hs) rfl (inb_in hb) hd (fun H1 locs1 hP1 _ hS1 => kk _ rfl H1 locs1 ls (by rw [wld_setN (k := x.toNatClampNeg) (v := v) (e := Sum.inl (G.1, n0, Sum.inl (upd (rd C N i) x.toNatClampNeg v))) hi hi2 hs rfl] at hP1; exact hP1) hS1 hl)
theorem V_zstX (X : Cx p s m args c cc nL own Ts D G ρ A H0) {i n0 : Nat} {x v : Int32} (hx : bl v) (hi : i < 66) (hs : shp i = .inr (1, n0)) (hb : inb x n0) (hd : decode cc pc = .ok (.bastore, 1)) (hn : pc + 1 = n) (kk : ∀ C1, C1 = wr C i x.toNatClampNeg v → V p l e R s m args below meth c D G ρ A H0 nL cells slots Q n L st C1 N) : V p l e R s m args below meth c D G ρ A H0 nL cells slots Q pc L (.int v :: .int x :: .ref (ρ i) :: st) C N := by
  subst hn; exact fun H locs ls hP hS hl => va_zast (f := rd C N i) X.1 X.2.1 X.2.2.2.2.2.1 hP (wld_D X.2.2.2.2.2.2.1 X.2.2.2.2.2.2.2.1) hS i 1 (wld_arr (by omega) hs) rfl (inb_in hb) hd (fun H1 locs1 hP1 _ hS1 => kk _ rfl H1 locs1 ls (by rw [bl_nar hx] at hP1; rw [wld_setX (k := x.toNatClampNeg) (v := v) (e := Sum.inl (G.2.1, n0, Sum.inl (upd (rd C N i) x.toNatClampNeg v))) hi hs rfl] at hP1; exact hP1) hS1 hl)
theorem V_zstN (X : Cx p s m args c cc nL own Ts D G ρ A H0) {i n0 : Nat} {x v : Int32} (hx : bl v) (hi : 66 ≤ i) (hi2 : i < 92) (hs : shp i = .inr (1, n0)) (hb : inb x n0) (hd : decode cc pc = .ok (.bastore, 1)) (hn : pc + 1 = n) (kk : ∀ N1, N1 = wrN N i x.toNatClampNeg v → V p l e R s m args below meth c D G ρ A H0 nL cells slots Q n L st C N1) : V p l e R s m args below meth c D G ρ A H0 nL cells slots Q pc L (.int v :: .int x :: .ref (ρ i) :: st) C N := by
  subst hn; exact fun H locs ls hP hS hl => va_zast (f := rd C N i) X.1 X.2.1 X.2.2.2.2.2.1 hP (wld_D X.2.2.2.2.2.2.1 X.2.2.2.2.2.2.2.1) hS i 1 (wld_arr hi2 hs) rfl (inb_in hb) hd (fun H1 locs1 hP1 _ hS1 => kk _ rfl H1 locs1 ls (by rw [bl_nar hx] at hP1; rw [wld_setN (k := x.toNatClampNeg) (v := v) (e := Sum.inl (G.2.1, n0, Sum.inl (upd (rd C N i) x.toNatClampNeg v))) hi hi2 hs rfl] at hP1; exact hP1) hS1 hl)
theorem V_aaR (X : Cx p s m args c cc nL own Ts D G ρ A H0) {i n0 b : Nat} {x : Int32} (hi : i < 92) (hs : shp i = .inr (b + 3, n0)) (hb : inb x n0) (hd : decode cc pc = .ok (.aaload, 1)) (hn : pc + 1 = n) (kk : V p l e R s m args below meth c D G ρ A H0 nL cells slots Q n L (.ref (ρ (b + x.toNatClampNeg)) :: st) C N) : V p l e R s m args below meth c D G ρ A H0 nL cells slots Q pc L (.int x :: .ref (ρ i) :: st) C N := by
  subst hn
  intro H locs ls hP hS hl
  have hin := inb_in hb
  have hlt : x.toNatClampNeg < n0 := Nat.not_le.mp fun q => hin (Or.inr q)
  refine W.aald (v := .ref (ρ (b + x.toNatClampNeg))) (ty := .array .int) X.1 X.2.1 (hP i _ (wld_arr hi hs)) ((X.2.2.2.2.2.1.2 3 _ rfl).1 n0 (fun j => va_rf (if j < n0 then some (ρ (b + j)) else none))) rfl (fun q => by cases q) (by show ¬ (x < 0 ∨ (arrV _ _ _).slots.size ≤ _); rw [arrV_size]; exact hin) (by show (arrV _ _ _).slots[_]? = _; rw [arrV_read _ _ hlt]; simp [hlt, va_rf]) rfl rfl hd (kk H locs ls hP hS hl)
theorem V_aaS (X : Cx p s m args c cc nL own Ts D G ρ A H0) {i n0 : Nat} {x : Int32} (hi : i < 66) (hs : shp i = .inr (2, n0)) (hb : inb x n0) (hd : decode cc pc = .ok (.aaload, 1)) (hn : pc + 1 = n) (kk : V p l e R s m args below meth c D G ρ A H0 nL cells slots Q n L (.ref (ρ (52 + 2 * (C i x.toNatClampNeg).toNatClampNeg)) :: st) C N) : V p l e R s m args below meth c D G ρ A H0 nL cells slots Q pc L (.int x :: .ref (ρ i) :: st) C N := by
  subst hn; exact fun H locs ls hP hS hl => va_aldq (C := RX5) X.1 X.2.1 X.2.2.2.2.2.1 hP i 2 (wld_arr (by omega) hs) rfl (inb_in hb) hd (by show W p l e R s m args below meth c H locs cells slots Q (F0 m (pc + 1) ls (.ref (ρ (52 + 2 * (rd C N i x.toNatClampNeg).toNatClampNeg)) :: st)); rw [rd_x hi]; exact kk H locs ls hP hS hl)
theorem shp_S : ∀ k, k < 6 → shp (52 + 2 * k) = .inl (5, [53 + 2 * k + 2, 0, 0, 0, 0, 0, 0]) := by decide +kernel
theorem shp_SG : ∀ k, k < 6 → shp (53 + 2 * k) = .inr (0, 4) := by decide +kernel
theorem V_aastS (X : Cx p s m args c cc nL own Ts D G ρ A H0) {i n0 : Nat} {x v : Int32} (hi : i < 66) (hs : shp i = .inr (2, n0)) (hb : inb x n0) (hv : v.toNatClampNeg < 6) (hd : decode cc pc = .ok (.aastore, 1)) (hn : pc + 1 = n) (kk : ∀ C1, C1 = wr C i x.toNatClampNeg v → V p l e R s m args below meth c D G ρ A H0 nL cells slots Q n L st C1 N) : V p l e R s m args below meth c D G ρ A H0 nL cells slots Q pc L (.ref (ρ (52 + 2 * v.toNatClampNeg)) :: .int x :: .ref (ρ i) :: st) C N := by
  subst hn
  exact fun H locs ls hP hS hl => va_astq (r := (RX5, TX5, 7)) X.1 X.2.1 X.2.2.2.2.2.1 hP (wld_D X.2.2.2.2.2.2.1 X.2.2.2.2.2.2.2.1) hS i 2 (52 + 2 * v.toNatClampNeg) 5 (wld_arr (by omega) hs) rfl (wld_obj (by omega) (shp_S _ hv)) rfl (inb_in hb) hd (fun H1 locs1 hP1 _ hS1 => kk _ rfl H1 locs1 ls (by
    rw [wld_setX (k := x.toNatClampNeg) (v := v) hi hs ?_] at hP1
    · exact hP1
    · show Sum.inl (G.2.2.1, n0, _) = _
      congr 7
      funext j
      unfold va_up upd
      split
      · rfl
      · rfl) hS1 hl)
theorem V_iret (X : Cx p s m args c cc nL own Ts D G ρ (WA ρ s.heap.size) s.heap) (hr : meth.sig.returnType = some .int) (hlk : meth.locks = false) {v : Int32} {P : Int32 → Xm → Nm → Prop} (hd : decode cc pc = .ok (.ireturn, 1)) (hk : P v C N) : V p l e R s m args below meth c D G ρ (WA ρ s.heap.size) s.heap nL 0 0 (Qi D G ρ s args below P) pc L [.int v] C N :=
  fun H locs ls hP hS hl => W.iret X.1 X.2.1 hr (fun t ht hW => ⟨⟨v, (C, N), rfl, hk, by rw [ht]; exact hP, va_K.moved hW.alike X.2.2.2.2.2.1⟩, hS.F ht⟩) hS.2.2 hd hlk
theorem V_zret (X : Cx p s m args c cc nL own Ts D G ρ (WA ρ s.heap.size) s.heap) (hr : meth.sig.returnType = some .boolean) (hlk : meth.locks = false) {v : Int32} (hv : bl v) {P : Int32 → Xm → Nm → Prop} (hd : decode cc pc = .ok (.ireturn, 1)) (hk : P v C N) : V p l e R s m args below meth c D G ρ (WA ρ s.heap.size) s.heap nL 0 0 (Qi D G ρ s args below P) pc L [.int v] C N :=
  fun H locs ls hP hS hl => W.zret X.1 X.2.1 hr (congrArg Value.int hv) (fun t ht hW => ⟨⟨v, (C, N), rfl, hk, by rw [ht]; exact hP, va_K.moved hW.alike X.2.2.2.2.2.1⟩, hS.F ht⟩) hS.2.2 hd hlk
theorem V_lret (X : Cx p s m args c cc nL own Ts D G ρ (WA ρ s.heap.size) s.heap) (hr : meth.sig.returnType = some .long) (hlk : meth.locks = false) {v : Int64} {P : Int64 → Xm → Nm → Prop} (hd : decode cc pc = .ok (.lreturn, 1)) (hk : P v C N) : V p l e R s m args below meth c D G ρ (WA ρ s.heap.size) s.heap nL 0 0 (Ql D G ρ s args below P) pc L [.long v] C N :=
  fun H locs ls hP hS hl => W.lret X.1 X.2.1 hr (fun t ht hW => ⟨⟨v, (C, N), rfl, hk, by rw [ht]; exact hP, va_K.moved hW.alike X.2.2.2.2.2.1⟩, hS.F ht⟩) hS.2.2 hd hlk
theorem V_vret (X : Cx p s m args c cc nL own Ts D G ρ (WA ρ s.heap.size) s.heap) (hr : meth.sig.returnType = none) (hlk : meth.locks = false) {P : Xm → Nm → Prop} (hd : decode cc pc = .ok (.return_, 1)) (hk : P C N) : V p l e R s m args below meth c D G ρ (WA ρ s.heap.size) s.heap nL 0 0 (Qv D G ρ s args below P) pc L [] C N :=
  fun H locs ls hP hS hl => W.vret X.1 X.2.1 hr (fun t ht hW => ⟨⟨(C, N), rfl, hk, by rw [ht]; exact hP, va_K.moved hW.alike X.2.2.2.2.2.1⟩, hS.F ht⟩) hS.2.2 hd hlk
theorem WA_to {H : Heap} {locs : List Loc} (X : Cx p s m args c cc nL own Ts D G ρ A H0) (hS : va_S A H0 H locs) {q : Nat} (h : WA ρ H.size q) : A q := by
  rcases h with ⟨i, hi, rfl⟩ | h
  · exact X.2.2.2.2.2.2.2.1 i hi
  · exact X.2.2.2.2.2.2.2.2 q (Nat.le_trans hS.1 h)
theorem V_calli (X : Cx p s m args c cc nL own Ts D G ρ A H0) {y : MethodName} {bytes : ByteArray} {maxL : Nat} {ret : Option FieldType} {ws ws' : List Cond} {rm : Room} {index : Nat} {As rest : List Value} {nA : Nat} {i ci : Nat} {fc : List Nat} {q : vw_C} {P : Int32 → Xm → Nm → Prop} (hM : Ki l y ws rm D G ρ (.ref (ρ i) :: As) C N P) (hg : GoodIn Ts (wsV own index q.1 y ws)) (hw : ws = Cond.code y bytes maxL ret :: ws') (hrc : rm.cells = 0) (hrs : rm.slots = 0) (hy : y.cls = q.1 ∧ y.cls ≠ "java/lang/invoke/MethodHandle" ∧ y.cls ≠ "java/lang/invoke/VarHandle" ∧ (parseMethodDescriptor y.desc).map (fun d => d.parameters.length) = some nA) (hA : As.length = nA) (hR : rm.frames + 1 ≤ R.frames ∧ 8 + (maxL + 11) + rm.locals ≤ R.locals) (hroom : (rest.map fun v => v.category).sum ≤ 8) (hcs : cells ≤ R.cells ∧ slots ≤ R.slots) (hi : i < 92) (hs : shp i = .inl (ci, fc)) (hc : vwCl[ci]? = some q) (hst : st = As.reverse ++ .ref (ρ i) :: rest) (hd : decode cc pc = .ok (.invokevirtual index, 3)) (hn : pc + 3 = n) (k : ∀ r C1 N1, P r C1 N1 → V p l e R s m args below meth c D G ρ A H0 nL cells slots Q n L (.int r :: rest) C1 N1) : V p l e R s m args below meth c D G ρ A H0 nL cells slots Q pc L st C N := by
  subst hn; subst hst; exact fun H locs ls hP hS hl => va_calli (va_runV (As := As) (rest := rest) ⟨X.1, X.2.1, X.2.2.1, X.2.2.2.1, X.2.2.2.2.1⟩ (hM H.size) (cwV nA X.2.2.2.2.1 hg hw hrc hrs hy hR) ⟨Pw_blind, va_recv X.2.2.2.2.2.1 hP hc (wld_obj hi hs), fun U hU hW => ⟨rfl, by rw [hU], by rw [hU]; exact hP, va_K.moved hW.alike X.2.2.2.2.2.1, X.2.2.2.2.2.2.1⟩⟩ rfl hA hl.1 rfl (lv_room hroom) hd hcs) hS (fun q _ h => WA_to X hS h) (fun q h => WA_to X hS h) (fun r u t H1 locs1 ht hvm hw1 hB hz1 hk1 hS1 => k r u.1 u.2 hw1 H1 locs1 ls (by rw [← ht]; exact hB.1) hS1 hl)
theorem V_callsi (X : Cx p s m args c cc nL own Ts D G ρ A H0) {y : MethodName} {bytes : ByteArray} {maxL : Nat} {ret : Option FieldType} {ws ws' : List Cond} {rm : Room} {index : Nat} {As rest : List Value} {nA : Nat} {P : Int32 → Xm → Nm → Prop} (hM : Ki l y ws rm D G ρ As C N P) (hg : GoodIn Ts (va_wsS own index y ws)) (hw : ws = Cond.code y bytes maxL ret :: ws') (hrc : rm.cells = 0) (hrs : rm.slots = 0) (hy : y.cls ≠ "java/lang/invoke/MethodHandle" ∧ y.cls ≠ "java/lang/invoke/VarHandle" ∧ (parseMethodDescriptor y.desc).map (fun d => d.parameters.length) = some nA) (hA : As.length = nA) (hR : rm.frames + 1 ≤ R.frames ∧ 8 + (maxL + 11) + rm.locals ≤ R.locals) (hroom : (rest.map fun v => v.category).sum ≤ 8) (hcs : cells ≤ R.cells ∧ slots ≤ R.slots) (hst : st = As.reverse ++ rest) (hd : decode cc pc = .ok (.invokestatic index, 3)) (hn : pc + 3 = n) (k : ∀ r C1 N1, P r C1 N1 → V p l e R s m args below meth c D G ρ A H0 nL cells slots Q n L (.int r :: rest) C1 N1) : V p l e R s m args below meth c D G ρ A H0 nL cells slots Q pc L st C N := by
  subst hn; subst hst; exact fun H locs ls hP hS hl => va_calli (va_runS (As := As) (rest := rest) ⟨X.1, X.2.1, X.2.2.1, X.2.2.2.1, X.2.2.2.2.1⟩ (hM H.size) (va_cwS nA X.2.2.2.2.1 hg hw hrc hrs hy hR) ⟨Pw_blind, fun U hU hW => ⟨rfl, by rw [hU], by rw [hU]; exact hP, va_K.moved hW.alike X.2.2.2.2.2.1, X.2.2.2.2.2.2.1⟩⟩ rfl hA hl.1 rfl (lv_room hroom) hd hcs) hS (fun q _ h => WA_to X hS h) (fun q h => WA_to X hS h) (fun r u t H1 locs1 ht hvm hw1 hB hz1 hk1 hS1 => k r u.1 u.2 hw1 H1 locs1 ls (by rw [← ht]; exact hB.1) hS1 hl)
theorem V_calll (X : Cx p s m args c cc nL own Ts D G ρ A H0) {y : MethodName} {bytes : ByteArray} {maxL : Nat} {ret : Option FieldType} {ws ws' : List Cond} {rm : Room} {index : Nat} {As rest : List Value} {nA : Nat} {i ci : Nat} {fc : List Nat} {q : vw_C} {P : Int64 → Xm → Nm → Prop} (hM : Kl l y ws rm D G ρ (.ref (ρ i) :: As) C N P) (hg : GoodIn Ts (wsV own index q.1 y ws)) (hw : ws = Cond.code y bytes maxL ret :: ws') (hrc : rm.cells = 0) (hrs : rm.slots = 0) (hy : y.cls = q.1 ∧ y.cls ≠ "java/lang/invoke/MethodHandle" ∧ y.cls ≠ "java/lang/invoke/VarHandle" ∧ (parseMethodDescriptor y.desc).map (fun d => d.parameters.length) = some nA) (hA : As.length = nA) (hR : rm.frames + 1 ≤ R.frames ∧ 8 + (maxL + 11) + rm.locals ≤ R.locals) (hroom : (rest.map fun v => v.category).sum ≤ 8) (hcs : cells ≤ R.cells ∧ slots ≤ R.slots) (hi : i < 92) (hs : shp i = .inl (ci, fc)) (hc : vwCl[ci]? = some q) (hst : st = As.reverse ++ .ref (ρ i) :: rest) (hd : decode cc pc = .ok (.invokevirtual index, 3)) (hn : pc + 3 = n) (k : ∀ r C1 N1, P r C1 N1 → V p l e R s m args below meth c D G ρ A H0 nL cells slots Q n L (.long r :: rest) C1 N1) : V p l e R s m args below meth c D G ρ A H0 nL cells slots Q pc L st C N := by
  subst hn; subst hst; exact fun H locs ls hP hS hl => va_calll (va_runV (As := As) (rest := rest) ⟨X.1, X.2.1, X.2.2.1, X.2.2.2.1, X.2.2.2.2.1⟩ (hM H.size) (cwV nA X.2.2.2.2.1 hg hw hrc hrs hy hR) ⟨Pw_blind, va_recv X.2.2.2.2.2.1 hP hc (wld_obj hi hs), fun U hU hW => ⟨rfl, by rw [hU], by rw [hU]; exact hP, va_K.moved hW.alike X.2.2.2.2.2.1, X.2.2.2.2.2.2.1⟩⟩ rfl hA hl.1 rfl (lv_room hroom) hd hcs) hS (fun q _ h => WA_to X hS h) (fun q h => WA_to X hS h) (fun r u t H1 locs1 ht hvm hw1 hB hz1 hk1 hS1 => k r u.1 u.2 hw1 H1 locs1 ls (by rw [← ht]; exact hB.1) hS1 hl)
theorem V_callsl (X : Cx p s m args c cc nL own Ts D G ρ A H0) {y : MethodName} {bytes : ByteArray} {maxL : Nat} {ret : Option FieldType} {ws ws' : List Cond} {rm : Room} {index : Nat} {As rest : List Value} {nA : Nat} {P : Int64 → Xm → Nm → Prop} (hM : Kl l y ws rm D G ρ As C N P) (hg : GoodIn Ts (va_wsS own index y ws)) (hw : ws = Cond.code y bytes maxL ret :: ws') (hrc : rm.cells = 0) (hrs : rm.slots = 0) (hy : y.cls ≠ "java/lang/invoke/MethodHandle" ∧ y.cls ≠ "java/lang/invoke/VarHandle" ∧ (parseMethodDescriptor y.desc).map (fun d => d.parameters.length) = some nA) (hA : As.length = nA) (hR : rm.frames + 1 ≤ R.frames ∧ 8 + (maxL + 11) + rm.locals ≤ R.locals) (hroom : (rest.map fun v => v.category).sum ≤ 8) (hcs : cells ≤ R.cells ∧ slots ≤ R.slots) (hst : st = As.reverse ++ rest) (hd : decode cc pc = .ok (.invokestatic index, 3)) (hn : pc + 3 = n) (k : ∀ r C1 N1, P r C1 N1 → V p l e R s m args below meth c D G ρ A H0 nL cells slots Q n L (.long r :: rest) C1 N1) : V p l e R s m args below meth c D G ρ A H0 nL cells slots Q pc L st C N := by
  subst hn; subst hst; exact fun H locs ls hP hS hl => va_calll (va_runS (As := As) (rest := rest) ⟨X.1, X.2.1, X.2.2.1, X.2.2.2.1, X.2.2.2.2.1⟩ (hM H.size) (va_cwS nA X.2.2.2.2.1 hg hw hrc hrs hy hR) ⟨Pw_blind, fun U hU hW => ⟨rfl, by rw [hU], by rw [hU]; exact hP, va_K.moved hW.alike X.2.2.2.2.2.1, X.2.2.2.2.2.2.1⟩⟩ rfl hA hl.1 rfl (lv_room hroom) hd hcs) hS (fun q _ h => WA_to X hS h) (fun q h => WA_to X hS h) (fun r u t H1 locs1 ht hvm hw1 hB hz1 hk1 hS1 => k r u.1 u.2 hw1 H1 locs1 ls (by rw [← ht]; exact hB.1) hS1 hl)
theorem V_callv (X : Cx p s m args c cc nL own Ts D G ρ A H0) {y : MethodName} {bytes : ByteArray} {maxL : Nat} {ret : Option FieldType} {ws ws' : List Cond} {rm : Room} {index : Nat} {As rest : List Value} {nA : Nat} {i ci : Nat} {fc : List Nat} {q : vw_C} {P : Xm → Nm → Prop} (hM : Kv l y ws rm D G ρ (.ref (ρ i) :: As) C N P) (hg : GoodIn Ts (wsV own index q.1 y ws)) (hw : ws = Cond.code y bytes maxL ret :: ws') (hrc : rm.cells = 0) (hrs : rm.slots = 0) (hy : y.cls = q.1 ∧ y.cls ≠ "java/lang/invoke/MethodHandle" ∧ y.cls ≠ "java/lang/invoke/VarHandle" ∧ (parseMethodDescriptor y.desc).map (fun d => d.parameters.length) = some nA) (hA : As.length = nA) (hR : rm.frames + 1 ≤ R.frames ∧ 8 + (maxL + 11) + rm.locals ≤ R.locals) (hroom : (rest.map fun v => v.category).sum ≤ 8) (hcs : cells ≤ R.cells ∧ slots ≤ R.slots) (hi : i < 92) (hs : shp i = .inl (ci, fc)) (hc : vwCl[ci]? = some q) (hst : st = As.reverse ++ .ref (ρ i) :: rest) (hd : decode cc pc = .ok (.invokevirtual index, 3)) (hn : pc + 3 = n) (k : ∀ C1 N1, P C1 N1 → V p l e R s m args below meth c D G ρ A H0 nL cells slots Q n L rest C1 N1) : V p l e R s m args below meth c D G ρ A H0 nL cells slots Q pc L st C N := by
  subst hn; subst hst; exact fun H locs ls hP hS hl => va_callv (va_runV (As := As) (rest := rest) ⟨X.1, X.2.1, X.2.2.1, X.2.2.2.1, X.2.2.2.2.1⟩ (hM H.size) (cwV nA X.2.2.2.2.1 hg hw hrc hrs hy hR) ⟨Pw_blind, va_recv X.2.2.2.2.2.1 hP hc (wld_obj hi hs), fun U hU hW => ⟨rfl, by rw [hU], by rw [hU]; exact hP, va_K.moved hW.alike X.2.2.2.2.2.1, X.2.2.2.2.2.2.1⟩⟩ rfl hA hl.1 rfl (lv_room hroom) hd hcs) hS (fun q _ h => WA_to X hS h) (fun q h => WA_to X hS h) (fun u t H1 locs1 ht hvm hw1 hB hz1 hk1 hS1 => k u.1 u.2 hw1 H1 locs1 ls (by rw [← ht]; exact hB.1) hS1 hl)
theorem V_callsv (X : Cx p s m args c cc nL own Ts D G ρ A H0) {y : MethodName} {bytes : ByteArray} {maxL : Nat} {ret : Option FieldType} {ws ws' : List Cond} {rm : Room} {index : Nat} {As rest : List Value} {nA : Nat} {P : Xm → Nm → Prop} (hM : Kv l y ws rm D G ρ As C N P) (hg : GoodIn Ts (va_wsS own index y ws)) (hw : ws = Cond.code y bytes maxL ret :: ws') (hrc : rm.cells = 0) (hrs : rm.slots = 0) (hy : y.cls ≠ "java/lang/invoke/MethodHandle" ∧ y.cls ≠ "java/lang/invoke/VarHandle" ∧ (parseMethodDescriptor y.desc).map (fun d => d.parameters.length) = some nA) (hA : As.length = nA) (hR : rm.frames + 1 ≤ R.frames ∧ 8 + (maxL + 11) + rm.locals ≤ R.locals) (hroom : (rest.map fun v => v.category).sum ≤ 8) (hcs : cells ≤ R.cells ∧ slots ≤ R.slots) (hst : st = As.reverse ++ rest) (hd : decode cc pc = .ok (.invokestatic index, 3)) (hn : pc + 3 = n) (k : ∀ C1 N1, P C1 N1 → V p l e R s m args below meth c D G ρ A H0 nL cells slots Q n L rest C1 N1) : V p l e R s m args below meth c D G ρ A H0 nL cells slots Q pc L st C N := by
  subst hn; subst hst; exact fun H locs ls hP hS hl => va_callv (va_runS (As := As) (rest := rest) ⟨X.1, X.2.1, X.2.2.1, X.2.2.2.1, X.2.2.2.2.1⟩ (hM H.size) (va_cwS nA X.2.2.2.2.1 hg hw hrc hrs hy hR) ⟨Pw_blind, fun U hU hW => ⟨rfl, by rw [hU], by rw [hU]; exact hP, va_K.moved hW.alike X.2.2.2.2.2.1, X.2.2.2.2.2.2.1⟩⟩ rfl hA hl.1 rfl (lv_room hroom) hd hcs) hS (fun q _ h => WA_to X hS h) (fun q h => WA_to X hS h) (fun u t H1 locs1 ht hvm hw1 hB hz1 hk1 hS1 => k u.1 u.2 hw1 H1 locs1 ls (by rw [← ht]; exact hB.1) hS1 hl)
theorem V_mmax (X : Cx p s m args c cc nL own Ts D G ρ A H0) {index : Nat} {x y : Int32} (h1 : Cond.methodLink own index Lib.Math.max.name ∈ Ts) (h2 : Cond.static Lib.Math.max.name ∈ Ts) (h3 : Cond.initialized "java/lang/Math" ∈ Ts) (h4 : Cond.code Lib.Math.max.name Lib.Math.max.code 2 (some .int) ∈ Ts) (hfr : 1 ≤ R.frames) (hlo : (st.map fun v => v.category).sum + 13 ≤ R.locals) (hcs : cells ≤ R.cells ∧ slots ≤ R.slots) (hd : decode cc pc = .ok (.invokestatic index, 3)) (hn : pc + 3 = n) (k : V p l e R s m args below meth c D G ρ A H0 nL cells slots Q n L (.int (if x < y then y else x) :: st) C N) : V p l e R s m args below meth c D G ρ A H0 nL cells slots Q pc L (.int y :: .int x :: st) C N := by
  subst hn; exact fun H locs ls hP hS hl => va_mmax X.1 X.2.1 (X.2.2.1.trans hl.1.symm) X.2.2.2.1 (X.2.2.2.2.1 _ h1) (X.2.2.2.2.1 _ h2) (X.2.2.2.2.1 _ h3) (X.2.2.2.2.1 _ h4) hfr hlo hcs.1 hcs.2 hd (k H locs ls hP hS hl)
theorem V_mmin (X : Cx p s m args c cc nL own Ts D G ρ A H0) {index : Nat} {x y : Int32} (h1 : Cond.methodLink own index Lib.Math.min.name ∈ Ts) (h2 : Cond.static Lib.Math.min.name ∈ Ts) (h3 : Cond.initialized "java/lang/Math" ∈ Ts) (h4 : Cond.code Lib.Math.min.name Lib.Math.min.code 2 (some .int) ∈ Ts) (hfr : 1 ≤ R.frames) (hlo : (st.map fun v => v.category).sum + 13 ≤ R.locals) (hcs : cells ≤ R.cells ∧ slots ≤ R.slots) (hd : decode cc pc = .ok (.invokestatic index, 3)) (hn : pc + 3 = n) (k : V p l e R s m args below meth c D G ρ A H0 nL cells slots Q n L (.int (if y < x then y else x) :: st) C N) : V p l e R s m args below meth c D G ρ A H0 nL cells slots Q pc L (.int y :: .int x :: st) C N := by
  subst hn; exact fun H locs ls hP hS hl => va_mmin X.1 X.2.1 (X.2.2.1.trans hl.1.symm) X.2.2.2.1 (X.2.2.2.2.1 _ h1) (X.2.2.2.2.1 _ h2) (X.2.2.2.2.1 _ h3) (X.2.2.2.2.1 _ h4) hfr hlo hcs.1 hcs.2 hd (k H locs ls hP hS hl)
theorem V_copy (X : Cx p s m args c cc nL own Ts D G ρ A H0) {index i j n0 n1 : Nat} {sp dp len : Int32} (h1 : Cond.methodLink own index arraycopyName ∈ Ts) (h2 : Cond.native arraycopyName ∈ Ts) (h3 : Cond.static arraycopyName ∈ Ts) (h4 : Cond.initialized "java/lang/System" ∈ Ts) (hi : i < 66) (hj : j < 66) (hsi : shp i = .inr (0, n0)) (hsj : shp j = .inr (0, n1)) (g1 : ¬ sp < 0) (g2 : ¬ dp < 0) (g3 : ¬ len < 0) (g4 : sp.toNatClampNeg + len.toNatClampNeg ≤ n0) (g5 : dp.toNatClampNeg + len.toNatClampNeg ≤ n1) (hfr : 1 ≤ R.frames) (hlo : (st.map fun v => v.category).sum + (nativeFrameWords "java/lang/System" "arraycopy" 5 + 11) ≤ R.locals) (hd : decode cc pc = .ok (.invokestatic index, 3)) (hn : pc + 3 = n) (kk : ∀ C1, C1 = wrR C j (va_cpy (C i) (C j) sp.toNatClampNeg dp.toNatClampNeg len.toNatClampNeg) → V p l e R s m args below meth c D G ρ A H0 nL cells slots Q n L st C1 N) : V p l e R s m args below meth c D G ρ A H0 nL cells slots Q pc L (.int len :: .int dp :: .ref (ρ j) :: .int sp :: .ref (ρ i) :: st) C N := by
  subst hn; exact fun H locs ls hP hS hl => va_copyi (f := rd C N i) (g := rd C N j) (ty := .int) X.1 X.2.1 (X.2.2.1.trans hl.1.symm) X.2.2.2.1 (X.2.2.2.2.1 _ h1) (X.2.2.2.2.1 _ h2) (X.2.2.2.2.1 _ h3) (X.2.2.2.2.1 _ h4) X.2.2.2.2.2.1 hP (wld_D X.2.2.2.2.2.2.1 X.2.2.2.2.2.2.2.1) hS i j 0 0 (wld_arr (by omega) hsi) (wld_arr (by omega) hsj) rfl rfl rfl g1 g2 g3 g4 g5 (fun _ _ => rfl) hfr hlo hd (fun H1 locs1 hP1 _ hS1 => kk _ rfl H1 locs1 ls (by rw [wld_rowX (g := va_cpy (rd C N i) (rd C N j) sp.toNatClampNeg dp.toNatClampNeg len.toNatClampNeg) (e := Sum.inl (G.1, n1, Sum.inl (va_cpy (rd C N i) (rd C N j) sp.toNatClampNeg dp.toNatClampNeg len.toNatClampNeg))) hj hsj rfl, rd_x hi, rd_x hj] at hP1; exact hP1) hS1 hl)
theorem V_alenX (X : Cx p s m args c cc nL own Ts D G ρ A H0) {i n0 : Nat} {v : Int32} (hi : i < 66) (hs : shp i = .inr (0, n0)) (hv : Int32.ofNat n0 = v) (hd : decode cc pc = .ok (.arraylength, 1)) (hn : pc + 1 = n) (kk : V p l e R s m args below meth c D G ρ A H0 nL cells slots Q n L (.int v :: st) C N) : V p l e R s m args below meth c D G ρ A H0 nL cells slots Q pc L (.ref (ρ i) :: st) C N := by
  subst hn; exact fun H locs ls hP hS hl => va_alen X.1 X.2.1 X.2.2.2.2.2.1 hP i 0 (wld_arr (by omega) hs) rfl hv hd (kk H locs ls hP hS hl)
theorem V_loc (ks : List Nat) (hL : lv_pick L ks = L2) (k : V p l e R s m args below meth c D G ρ A H0 nL cells slots Q pc L2 st C N) : V p l e R s m args below meth c D G ρ A H0 nL cells slots Q pc L st C N := fun H locs ls hP hS hl => k H locs ls hP hS (lv_sub hl ks hL)
theorem V_tableAt (X : Cx p s m args c cc nL own Ts D G ρ A H0) {dflt lo hi : Int} {offs : Array Int} {len : Nat} {x v : Int32} {off : Int} (hx : x = v) (hd : decode cc pc = .ok (.tableswitch dflt lo hi offs, len)) (h1 : ¬ v.toInt < lo) (h2 : ¬ hi < v.toInt) (ho : offs[(v.toInt - lo).toNat]? = some off) (ht : (pc : Int) + off = (tgt : Int)) (k : V p l e R s m args below meth c D G ρ A H0 nL cells slots Q tgt L st C N) : V p l e R s m args below meth c D G ρ A H0 nL cells slots Q pc L (.int x :: st) C N := by
  subst hx; exact V_tableIn X hd h1 h2 ho ht k
theorem V_sld (X : Cx p s m args c cc nL own Ts D G ρ A H0) {b Ln : Nat} {xs : Nat → Int32} (hX : va_X b Ln xs s H0) (hbl : b < H0.size) (hbA : ¬ A b) {x : Int32} (hb : inb x Ln) (hd : decode cc pc = .ok (.iaload, 1)) (hn : pc + 1 = n) (kk : V p l e R s m args below meth c D G ρ A H0 nL cells slots Q n L (.int (xs x.toNatClampNeg) :: st) C N) : V p l e R s m args below meth c D G ρ A H0 nL cells slots Q pc L (.int x :: .ref b :: st) C N := by
  subst hn; exact fun H locs ls hP hS hl => va_sld X.1 X.2.1 hX hbl hbA hS (inb_in hb) hd (kk H locs ls hP hS hl)
theorem V_slen (X : Cx p s m args c cc nL own Ts D G ρ A H0) {b Ln : Nat} {xs : Nat → Int32} (hX : va_X b Ln xs s H0) (hbl : b < H0.size) (hbA : ¬ A b) (hd : decode cc pc = .ok (.arraylength, 1)) (hn : pc + 1 = n) (kk : V p l e R s m args below meth c D G ρ A H0 nL cells slots Q n L (.int (Int32.ofNat Ln) :: st) C N) : V p l e R s m args below meth c D G ρ A H0 nL cells slots Q pc L (.ref b :: st) C N := by
  subst hn; exact fun H locs ls hP hS hl => va_slen X.1 X.2.1 hX hbl hbA hS hd (kk H locs ls hP hS hl)
end VB
theorem inb_nat {x : Int32} {n : Nat} (h : inb x n) : x.toNatClampNeg < n := Nat.not_le.mp fun q => inb_in h (Or.inr q)
theorem row_lt {x : Int32} {b : Nat} (h : inb x 8) (hb : b + 8 ≤ 66) : b + x.toNatClampNeg < 66 := by have := inb_nat h; omega
theorem row_s5 : ∀ k, k < 8 → shp (5 + k) = .inr (0, 8) := by decide +kernel
theorem row_sh5 {x : Int32} (h : inb x 8) : shp (5 + x.toNatClampNeg) = .inr (0, 8) := row_s5 _ (inb_nat h)
theorem row_s14 : ∀ k, k < 8 → shp (14 + k) = .inr (0, 8) := by decide +kernel
theorem row_sh14 {x : Int32} (h : inb x 8) : shp (14 + x.toNatClampNeg) = .inr (0, 8) := row_s14 _ (inb_nat h)
theorem row_s25 : ∀ k, k < 8 → shp (25 + k) = .inr (0, 8) := by decide +kernel
theorem row_sh25 {x : Int32} (h : inb x 8) : shp (25 + x.toNatClampNeg) = .inr (0, 8) := row_s25 _ (inb_nat h)
theorem row_s34 : ∀ k, k < 8 → shp (34 + k) = .inr (0, 8) := by decide +kernel
theorem row_sh34 {x : Int32} (h : inb x 8) : shp (34 + x.toNatClampNeg) = .inr (0, 8) := row_s34 _ (inb_nat h)
theorem only41a : ∀ j, j < 42 → j ≠ 41 → ([0, 69, 0, 0, 70, 71, 72, 73, 74, 75, 76, 77, 78, 0, 0, 0, 0, 0, 0, 0, 0, 79, 80, 81, 82, 83, 84, 85, 0, 86, 0, 0, 87, 88, 89, 90, 0, 0, 91, 92, 93, 1] : List Nat)[j]? ≠ some 1 := by decide +kernel
theorem only41 : ∀ j, j ≠ 41 → ([0, 69, 0, 0, 70, 71, 72, 73, 74, 75, 76, 77, 78, 0, 0, 0, 0, 0, 0, 0, 0, 79, 80, 81, 82, 83, 84, 85, 0, 86, 0, 0, 87, 88, 89, 90, 0, 0, 91, 92, 93, 1] : List Nat)[j]? ≠ some 1 := fun j h => by
  rcases Nat.lt_or_ge j 42 with q | q
  · exact only41a j q h
  · rw [List.getElem?_eq_none (by simpa using q)]; exact fun z => by cases z
theorem ts_out5 {x : Int32} (c0 : ¬ x = 0) (c1 : ¬ x = 1) (c2 : ¬ x = 2) (c3 : ¬ x = 3) (c4 : ¬ x = 4) : x.toInt < 0 ∨ 4 < x.toInt := by
  have d0 : x.toInt ≠ 0 := fun q => c0 (Int32.toInt_inj.mp (q.trans (by decide)))
  have d1 : x.toInt ≠ 1 := fun q => c1 (Int32.toInt_inj.mp (q.trans (by decide)))
  have d2 : x.toInt ≠ 2 := fun q => c2 (Int32.toInt_inj.mp (q.trans (by decide)))
  have d3 : x.toInt ≠ 3 := fun q => c3 (Int32.toInt_inj.mp (q.trans (by decide)))
  have d4 : x.toInt ≠ 4 := fun q => c4 (Int32.toInt_inj.mp (q.trans (by decide)))
  omega
theorem ts_out26 {x : Int32} (c0 : ¬ x = 0) (c1 : ¬ x = 1) (c2 : ¬ x = 2) (c3 : ¬ x = 3) (c4 : ¬ x = 4) (c5 : ¬ x = 5) (c6 : ¬ x = 6) (c7 : ¬ x = 7) (c8 : ¬ x = 8) (c9 : ¬ x = 9) (c10 : ¬ x = 10) (c11 : ¬ x = 11) (c12 : ¬ x = 12) (c13 : ¬ x = 13) (c14 : ¬ x = 14) (c15 : ¬ x = 15) (c16 : ¬ x = 16) (c17 : ¬ x = 17) (c18 : ¬ x = 18) (c19 : ¬ x = 19) (c20 : ¬ x = 20) (c21 : ¬ x = 21) (c22 : ¬ x = 22) (c23 : ¬ x = 23) (c24 : ¬ x = 24) (c25 : ¬ x = 25) : x.toInt < 0 ∨ 25 < x.toInt := by
  have d0 : x.toInt ≠ 0 := fun q => c0 (Int32.toInt_inj.mp (q.trans (by decide)))
  have d1 : x.toInt ≠ 1 := fun q => c1 (Int32.toInt_inj.mp (q.trans (by decide)))
  have d2 : x.toInt ≠ 2 := fun q => c2 (Int32.toInt_inj.mp (q.trans (by decide)))
  have d3 : x.toInt ≠ 3 := fun q => c3 (Int32.toInt_inj.mp (q.trans (by decide)))
  have d4 : x.toInt ≠ 4 := fun q => c4 (Int32.toInt_inj.mp (q.trans (by decide)))
  have d5 : x.toInt ≠ 5 := fun q => c5 (Int32.toInt_inj.mp (q.trans (by decide)))
  have d6 : x.toInt ≠ 6 := fun q => c6 (Int32.toInt_inj.mp (q.trans (by decide)))
  have d7 : x.toInt ≠ 7 := fun q => c7 (Int32.toInt_inj.mp (q.trans (by decide)))
  have d8 : x.toInt ≠ 8 := fun q => c8 (Int32.toInt_inj.mp (q.trans (by decide)))
  have d9 : x.toInt ≠ 9 := fun q => c9 (Int32.toInt_inj.mp (q.trans (by decide)))
  have d10 : x.toInt ≠ 10 := fun q => c10 (Int32.toInt_inj.mp (q.trans (by decide)))
  have d11 : x.toInt ≠ 11 := fun q => c11 (Int32.toInt_inj.mp (q.trans (by decide)))
  have d12 : x.toInt ≠ 12 := fun q => c12 (Int32.toInt_inj.mp (q.trans (by decide)))
  have d13 : x.toInt ≠ 13 := fun q => c13 (Int32.toInt_inj.mp (q.trans (by decide)))
  have d14 : x.toInt ≠ 14 := fun q => c14 (Int32.toInt_inj.mp (q.trans (by decide)))
  have d15 : x.toInt ≠ 15 := fun q => c15 (Int32.toInt_inj.mp (q.trans (by decide)))
  have d16 : x.toInt ≠ 16 := fun q => c16 (Int32.toInt_inj.mp (q.trans (by decide)))
  have d17 : x.toInt ≠ 17 := fun q => c17 (Int32.toInt_inj.mp (q.trans (by decide)))
  have d18 : x.toInt ≠ 18 := fun q => c18 (Int32.toInt_inj.mp (q.trans (by decide)))
  have d19 : x.toInt ≠ 19 := fun q => c19 (Int32.toInt_inj.mp (q.trans (by decide)))
  have d20 : x.toInt ≠ 20 := fun q => c20 (Int32.toInt_inj.mp (q.trans (by decide)))
  have d21 : x.toInt ≠ 21 := fun q => c21 (Int32.toInt_inj.mp (q.trans (by decide)))
  have d22 : x.toInt ≠ 22 := fun q => c22 (Int32.toInt_inj.mp (q.trans (by decide)))
  have d23 : x.toInt ≠ 23 := fun q => c23 (Int32.toInt_inj.mp (q.trans (by decide)))
  have d24 : x.toInt ≠ 24 := fun q => c24 (Int32.toInt_inj.mp (q.trans (by decide)))
  have d25 : x.toInt ≠ 25 := fun q => c25 (Int32.toInt_inj.mp (q.trans (by decide)))
  omega
/-- a row of the class filled with v -/
def flR (C : Xm) (i n : Nat) (v : Int32) : Xm := wrR C i (fun j => if j < n then v else C i j)
theorem Ki.ofV {l : Launch} {y : MethodName} {ws ws' : List Cond} {rm : Room} {D : va_G} {G : Gc} {ρ : Nat → Nat} {vals : List Value} {C : Xm} {N : Nm} {P : Int32 → Xm → Nm → Prop} {cc : ByteArray} {maxL : Nat} {ret : Option FieldType} (hy : plainName y.cls = true) (hw : ws = Cond.code y cc maxL ret :: ws') (hlen : (lg_sl vals).length ≤ maxL)
    (body : ∀ (p : Program) (e : Env) (s : State) (m : MethodId) (args : Array Value) (below : List Frame) (meth : Method) (c : Code), Cx p s m args c cc maxL y.cls ws D G ρ (WA ρ s.heap.size) s.heap → meth.sig.returnType = ret → meth.locks = false → V p l e rm s m args below meth c D G ρ (WA ρ s.heap.size) s.heap maxL 0 0 (Qi D G ρ s args below P) 0 (lv_args 0 vals) [] C N) : Ki l y ws rm D G ρ vals C N P := by
  intro sz
  refine Met.ofW (cc := cc) (maxL := maxL) (ret := ret) hy hw ?_
  intro p e s m args below meth c s₁ B hml hv
  obtain ⟨rfl, hsz, hP, hK, hI⟩ := hv
  subst hsz
  have X : Cx p s m vals.toArray c cc maxL y.cls ws D G ρ (WA ρ s.heap.size) s.heap := ⟨B.exec, B.bytes, hml, findClass_of_methodNamed B.named, atoms_spec (ws := ws) B.pre, hK, hI, fun i hi => Or.inl ⟨i, hi, rfl⟩, fun q h => Or.inr h⟩
  have k := body p e s m vals.toArray below meth c X B.returns B.notSynchronized
  have hl := lv_entry vals (n := maxL) hlen
  rw [lg_entry_eq]
  exact k s.heap [] _ hP va_S.rf hl
theorem Kl.ofV {l : Launch} {y : MethodName} {ws ws' : List Cond} {rm : Room} {D : va_G} {G : Gc} {ρ : Nat → Nat} {vals : List Value} {C : Xm} {N : Nm} {P : Int64 → Xm → Nm → Prop} {cc : ByteArray} {maxL : Nat} {ret : Option FieldType} (hy : plainName y.cls = true) (hw : ws = Cond.code y cc maxL ret :: ws') (hlen : (lg_sl vals).length ≤ maxL)
    (body : ∀ (p : Program) (e : Env) (s : State) (m : MethodId) (args : Array Value) (below : List Frame) (meth : Method) (c : Code), Cx p s m args c cc maxL y.cls ws D G ρ (WA ρ s.heap.size) s.heap → meth.sig.returnType = ret → meth.locks = false → V p l e rm s m args below meth c D G ρ (WA ρ s.heap.size) s.heap maxL 0 0 (Ql D G ρ s args below P) 0 (lv_args 0 vals) [] C N) : Kl l y ws rm D G ρ vals C N P := by
  intro sz
  refine Met.ofW (cc := cc) (maxL := maxL) (ret := ret) hy hw ?_
  intro p e s m args below meth c s₁ B hml hv
  obtain ⟨rfl, hsz, hP, hK, hI⟩ := hv
  subst hsz
  have X : Cx p s m vals.toArray c cc maxL y.cls ws D G ρ (WA ρ s.heap.size) s.heap := ⟨B.exec, B.bytes, hml, findClass_of_methodNamed B.named, atoms_spec (ws := ws) B.pre, hK, hI, fun i hi => Or.inl ⟨i, hi, rfl⟩, fun q h => Or.inr h⟩
  have k := body p e s m vals.toArray below meth c X B.returns B.notSynchronized
  have hl := lv_entry vals (n := maxL) hlen
  rw [lg_entry_eq]
  exact k s.heap [] _ hP va_S.rf hl
theorem Kv.ofV {l : Launch} {y : MethodName} {ws ws' : List Cond} {rm : Room} {D : va_G} {G : Gc} {ρ : Nat → Nat} {vals : List Value} {C : Xm} {N : Nm} {P : Xm → Nm → Prop} {cc : ByteArray} {maxL : Nat} {ret : Option FieldType} (hy : plainName y.cls = true) (hw : ws = Cond.code y cc maxL ret :: ws') (hlen : (lg_sl vals).length ≤ maxL)
    (body : ∀ (p : Program) (e : Env) (s : State) (m : MethodId) (args : Array Value) (below : List Frame) (meth : Method) (c : Code), Cx p s m args c cc maxL y.cls ws D G ρ (WA ρ s.heap.size) s.heap → meth.sig.returnType = ret → meth.locks = false → V p l e rm s m args below meth c D G ρ (WA ρ s.heap.size) s.heap maxL 0 0 (Qv D G ρ s args below P) 0 (lv_args 0 vals) [] C N) : Kv l y ws rm D G ρ vals C N P := by
  intro sz
  refine Met.ofW (cc := cc) (maxL := maxL) (ret := ret) hy hw ?_
  intro p e s m args below meth c s₁ B hml hv
  obtain ⟨rfl, hsz, hP, hK, hI⟩ := hv
  subst hsz
  have X : Cx p s m vals.toArray c cc maxL y.cls ws D G ρ (WA ρ s.heap.size) s.heap := ⟨B.exec, B.bytes, hml, findClass_of_methodNamed B.named, atoms_spec (ws := ws) B.pre, hK, hI, fun i hi => Or.inl ⟨i, hi, rfl⟩, fun q h => Or.inr h⟩
  have k := body p e s m vals.toArray below meth c X B.returns B.notSynchronized
  have hl := lv_entry vals (n := maxL) hlen
  rw [lg_entry_eq]
  exact k s.heap [] _ hP va_S.rf hl
end
section
/-! Arrays.fill over a row of the class -/
abbrev rmfill : Room := { frames := 0, cells := 0, slots := 0, locals := 0 }
theorem flR_step {C C1 : Xm} {i n0 j : Nat} {v : Int32} (hj : j < n0) (e : C1 = wr C i j v) : flR C1 i n0 v = flR C i n0 v := by
  subst e
  unfold flR wrR
  funext a b
  by_cases ha : a = i
  · subst ha
    simp only [if_true]
    by_cases hb : b < n0
    · rw [if_pos hb, if_pos hb]
    · rw [if_neg hb, if_neg hb]
      unfold wr
      rw [if_neg (by omega)]
  · rw [if_neg ha, if_neg ha]
    unfold wr
    rw [if_neg (fun q => ha q.1)]
set_option maxRecDepth 100000 in
set_option maxHeartbeats 4000000 in
theorem Tfill_L {p : Program} {l : Launch} {e : Env} {s : State} {m : MethodId} {args : Array Value} {below : List Frame} {meth : Method} {c : Code} {D : va_G} {G : Gc} {ρ : Nat → Nat} (X : Cx p s m args c cJ7_fill_53178 4 RJ7 wsJ7_fill_53178 D G ρ (WA ρ s.heap.size) s.heap) (hr : meth.sig.returnType = none) (hlk : meth.locks = false) (C0 : Xm) (N : Nm) {i n0 : Nat} (hi : i < 66) (hs : shp i = .inr (0, n0)) (hn0 : n0 < 100) (v : Int32) :
    ∀ (k j : Nat) (C : Xm), j + k = n0 → flR C i n0 v = flR C0 i n0 v → (∀ b, b < j → C i b = v) → V p l e rmfill s m args below meth c D G ρ (WA ρ s.heap.size) s.heap 4 0 0 (Qv D G ρ s args below (fun C1 N1 => C1 = flR C0 i n0 v ∧ N1 = N)) 5 [(0, .ref (ρ i)), (1, .int v), (2, .int (nI j)), (3, .int (nI n0))] [] C N := by
  intro k
  induction k with
  | zero =>
    intro j C hj hfl hlo
    refine V_iload_n X (q := 2) rfl rfl dJ7_fill_53178_5 (n := 6) rfl ?_
    refine V_iload_n X (q := 3) rfl rfl dJ7_fill_53178_6 (n := 7) rfl ?_
    refine V_icmp_ge X dJ7_fill_53178_7 (tgt := 20) (n := 10) (by decide) rfl (fun c1 => ?_) (fun c1 => ?_)
    · refine V_vret X hr hlk dJ7_fill_53178_20 ⟨?_, rfl⟩
      rw [← hfl]
      unfold flR wrR
      funext a b
      by_cases ha : a = i
      · subst ha
        simp only [if_true]
        by_cases hb : b < n0
        · rw [if_pos hb, hlo b (by omega)]
        · rw [if_neg hb]
      · rw [if_neg ha]
    · exact absurd (nI_le (by omega) (by omega)) c1
  | succ k ih =>
    intro j C hj hfl hlo
    refine V_iload_n X (q := 2) rfl rfl dJ7_fill_53178_5 (n := 6) rfl ?_
    refine V_iload_n X (q := 3) rfl rfl dJ7_fill_53178_6 (n := 7) rfl ?_
    refine V_icmp_ge X dJ7_fill_53178_7 (tgt := 20) (n := 10) (by decide) rfl (fun c1 => ?_) (fun c1 => ?_)
    · exact absurd c1 (nI_ge (by omega) (by omega))
    · have hb : inb (nI j) n0 := vp_in_iff.mp (vp_in_nI (by omega) (by omega))
      refine V_aload_n X (q := 0) rfl rfl dJ7_fill_53178_10 (n := 11) rfl ?_
      refine V_iload_n X (q := 2) rfl rfl dJ7_fill_53178_11 (n := 12) rfl ?_
      refine V_iload_n X (q := 1) rfl rfl dJ7_fill_53178_12 (n := 13) rfl ?_
      refine V_istX X hi hs hb dJ7_fill_53178_13 (n := 14) rfl (fun C1 e1 => ?_)
      refine V_iinc X (q := 2) (d := 1) (y := nI (j + 1)) (L2 := [(2, .int (nI (j + 1))), (0, .ref (ρ i)), (1, .int v), (3, .int (nI n0))]) rfl (by decide) (by decide) (nI_1 j).symm rfl dJ7_fill_53178_14 (n := 17) rfl ?_
      refine V_goto X dJ7_fill_53178_17 (tgt := 5) (by decide) ?_
      refine V_loc [1, 2, 0, 3] rfl ?_
      rw [nI_clamp (by omega)] at e1
      refine ih (j + 1) C1 (by omega) ((flR_step (by omega) e1).trans hfl) (fun b hb => ?_)
      rw [e1, wr_row]
      unfold upd
      by_cases hbj : b = j
      · rw [if_pos hbj]
      · rw [if_neg hbj]; exact hlo b (by omega)
set_option maxRecDepth 100000 in
set_option maxHeartbeats 4000000 in
theorem T_fill (l : Launch) (D : va_G) (G : Gc) (ρ : Nat → Nat) (C : Xm) (N : Nm) {i n0 : Nat} (hi : i < 66) (hs : shp i = .inr (0, n0)) (hn0 : n0 < 100) (v : Int32) : Kv l yJ7_fill_53178 wsJ7_fill_53178 rmfill D G ρ [.ref (ρ i), .int v] C N (fun C1 N1 => C1 = flR C i n0 v ∧ N1 = N) := by
  refine Kv.ofV (cc := cJ7_fill_53178) (maxL := 4) (ret := none) (by decide +kernel) rfl (Nat.le_of_ble_eq_true rfl) ?_
  intro p e s m args below meth c X hr hlk
  show V p l e rmfill s m args below meth c D G ρ (WA ρ s.heap.size) s.heap 4 0 0 (Qv D G ρ s args below (fun C1 N1 => C1 = flR C i n0 v ∧ N1 = N)) 0 [(0, .ref (ρ i)), (1, .int v)] [] C N
  refine V_iconst X (v := 0) (by decide) dJ7_fill_53178_0 (n := 1) rfl ?_
  refine V_istore_n X (L2 := [(2, .int 0), (0, .ref (ρ i)), (1, .int v)]) rfl (by decide) rfl dJ7_fill_53178_1 (n := 2) rfl ?_
  refine V_aload_n X (q := 1) rfl rfl dJ7_fill_53178_2 (n := 3) rfl ?_
  refine V_alenX X hi hs (v := nI n0) rfl dJ7_fill_53178_3 (n := 4) rfl ?_
  refine V_istore_n X (L2 := [(3, .int (nI n0)), (2, .int 0), (0, .ref (ρ i)), (1, .int v)]) rfl (by decide) rfl dJ7_fill_53178_4 (n := 5) rfl ?_
  refine V_loc [2, 3, 1, 0] rfl ?_
  exact Tfill_L X hr hlk C N hi hs hn0 v n0 0 C (by omega) rfl (fun b hb => absurd hb (Nat.not_lt_zero b))
end
section
/-! what each method does, read off its bytecode by program (wip/whole/gen/gen.py) -/
def fX0_add (C : Xm) (a1 : Int32) (K : Int32 → Xm → Prop) : Prop :=
  if (C 1 1) < (61 : Int32) then
  (inb (C 1 1) 61 ∧
  bd (wr C 2 (Int32.toNatClampNeg (C 1 1)) a1) fun C3 =>
  bd (wr C3 1 1 ((C3 1 1) + (1 : Int32))) fun C4 =>
  K (C4 1 1) C4)
  else
  (K (-1004 : Int32) C)
def fX7_append (C : Xm) (a1 : Int32) (K : Int32 → Xm → Prop) : Prop :=
  jn (α := Prop) (K (-1002 : Int32) C) fun j1 =>
  if a1 < (32 : Int32) then
  (j1)
  else
  (if a1 ≤ (126 : Int32) then
  (fX0_add C a1 fun r4 C5 =>
  K r4 C5)
  else
  (j1))
def fX7_clearBuffer (C : Xm) (K : Int32 → Xm → Prop) : Prop :=
  bd ((C 1 1)) fun x1 =>
  bd (wr C 1 1 (0 : Int32)) fun C2 =>
  K x1 C2
def fX2_clear_L2  (E : Int32 → Xm → Prop) (K : Xm → Prop) : Nat → Int32 → Xm → Prop
  | 0, _, _ => False
  | n + 1, v1, C =>
  if (8 : Int32) ≤ v1 then
  (E v1 C)
  else
  (inb v1 8 ∧
  bd (flR C (5 + Int32.toNatClampNeg v1) 8 (0 : Int32)) fun C3 =>
  inb v1 8 ∧
  bd (flR C3 (14 + Int32.toNatClampNeg v1) 8 (0 : Int32)) fun C5 =>
  bd (v1 + (1 : Int32)) fun x6 =>
  fX2_clear_L2 E K n x6 C5)
def fX2_clear (C : Xm) (K : Xm → Prop) : Prop :=
  jn (α := Int32 → Xm → Prop) (fun (x8 : Int32) (C9 : Xm) =>
  K C9) fun j7 =>
  fX2_clear_L2  j7 K 200 (0 : Int32) C
def fX0_acceptsNodeCount (C : Xm) (a1 : Int32) (K : Int32 → Xm → Prop) : Prop :=
  jn (α := Prop) (K (0 : Int32) C) fun j1 =>
  if a1 < (2 : Int32) then
  (j1)
  else
  (if a1 ≤ (8 : Int32) then
  (bd (wr C 1 3 a1) fun C4 =>
  bd (wr C4 1 5 (1 : Int32)) fun C5 =>
  K (1 : Int32) C5)
  else
  (j1))
def fX0_acceptsLinkMark (C : Xm) (a1 : Int32) (K : Int32 → Xm → Prop) : Prop :=
  jn (α := Prop) (K (0 : Int32) C) fun j1 =>
  if a1 = (59 : Int32) then
  (if (C 1 4) < (12 : Int32) then
  (bd (wr C 1 4 ((C 1 4) + (1 : Int32))) fun C4 =>
  bd (wr C4 1 5 (2 : Int32)) fun C5 =>
  K (1 : Int32) C5)
  else
  (j1))
  else
  (j1)
def fX0_acceptsFirstNode (C : Xm) (a1 : Int32) (K : Int32 → Xm → Prop) : Prop :=
  jn (α := Prop) (K (0 : Int32) C) fun j1 =>
  if a1 < 0 then
  (j1)
  else
  (if a1 < (C 1 3) then
  (bd (wr C 1 6 a1) fun C4 =>
  bd (wr C4 1 5 (3 : Int32)) fun C5 =>
  K (1 : Int32) C5)
  else
  (j1))
def fX2_join (C : Xm) (a1 : Int32) (a2 : Int32) (K : Int32 → Prop) : Prop :=
  inb a1 8 ∧
  inb a2 8 ∧
  jn (α := Int32 → Prop) (fun (x5 : Int32) =>
  bl x5 ∧
  K x5) fun j3 =>
  if (C (5 + Int32.toNatClampNeg a1) (Int32.toNatClampNeg a2)) = 0 then
  (j3 (0 : Int32))
  else
  (j3 (1 : Int32))
def fX0_acceptsSecondNode (C : Xm) (a1 : Int32) (K : Int32 → Xm → Prop) : Prop :=
  jn (α := Prop) (K (0 : Int32) C) fun j1 =>
  if a1 ≤ (C 1 6) then
  (j1)
  else
  (if (C 1 3) ≤ a1 then
  (j1)
  else
  (fX2_join C (C 1 6) a1 fun r4 =>
  if r4 = 0 then
  (bd (wr C 1 7 a1) fun C6 =>
  bd (wr C6 1 5 (4 : Int32)) fun C7 =>
  K (1 : Int32) C7)
  else
  (j1)))
def fX2_setStrength (C : Xm) (a1 : Int32) (a2 : Int32) (a3 : Int32) (K : Xm → Prop) : Prop :=
  inb a1 8 ∧
  inb a2 8 ∧
  bd (wr C (5 + Int32.toNatClampNeg a1) (Int32.toNatClampNeg a2) a3) fun C3 =>
  inb a2 8 ∧
  inb a1 8 ∧
  bd (wr C3 (5 + Int32.toNatClampNeg a2) (Int32.toNatClampNeg a1) a3) fun C6 =>
  K C6
def fX0_acceptsStrength (C : Xm) (a1 : Int32) (K : Int32 → Xm → Prop) : Prop :=
  jn (α := Prop) (K (0 : Int32) C) fun j1 =>
  if a1 < (1 : Int32) then
  (j1)
  else
  (if a1 ≤ (9 : Int32) then
  (fX2_setStrength C (C 1 6) (C 1 7) a1 fun C4 =>
  bd (wr C4 1 5 (5 : Int32)) fun C5 =>
  K (1 : Int32) C5)
  else
  (j1))
def fX2_setLossPeriod (C : Xm) (a1 : Int32) (a2 : Int32) (a3 : Int32) (K : Xm → Prop) : Prop :=
  inb a1 8 ∧
  inb a2 8 ∧
  bd (wr C (14 + Int32.toNatClampNeg a1) (Int32.toNatClampNeg a2) a3) fun C3 =>
  inb a2 8 ∧
  inb a1 8 ∧
  bd (wr C3 (14 + Int32.toNatClampNeg a2) (Int32.toNatClampNeg a1) a3) fun C6 =>
  K C6
def fX0_acceptsLossPeriod (C : Xm) (a1 : Int32) (K : Int32 → Xm → Prop) : Prop :=
  jn (α := Prop) (K (0 : Int32) C) fun j1 =>
  if a1 < (2 : Int32) then
  (j1)
  else
  (if a1 ≤ (9 : Int32) then
  (fX2_setLossPeriod C (C 1 6) (C 1 7) a1 fun C4 =>
  bd (wr C4 1 5 (1 : Int32)) fun C5 =>
  K (1 : Int32) C5)
  else
  (j1))
def fX0_accepts (C : Xm) (a1 : Int32) (K : Int32 → Xm → Prop) : Prop :=
  if (C 1 5) = 0 then
  (fX0_acceptsNodeCount C (a1 - (48 : Int32)) fun r6 C7 =>
  bl r6 ∧
  K r6 C7)
  else
  if (C 1 5) = 1 then
  (fX0_acceptsLinkMark C a1 fun r9 C10 =>
  bl r9 ∧
  K r9 C10)
  else
  if (C 1 5) = 2 then
  (fX0_acceptsFirstNode C (a1 - (48 : Int32)) fun r12 C13 =>
  bl r12 ∧
  K r12 C13)
  else
  if (C 1 5) = 3 then
  (fX0_acceptsSecondNode C (a1 - (48 : Int32)) fun r15 C16 =>
  bl r15 ∧
  K r15 C16)
  else
  if (C 1 5) = 4 then
  (fX0_acceptsStrength C (a1 - (48 : Int32)) fun r18 C19 =>
  bl r18 ∧
  K r18 C19)
  else
  fX0_acceptsLossPeriod C (a1 - (48 : Int32)) fun r21 C22 =>
  jn (α := Int32 → Xm → Prop) (fun (x30 : Int32) (C31 : Xm) =>
  bl x30 ∧
  K x30 C31) fun j24 =>
  jn (α := Xm → Prop) (fun (C29 : Xm) =>
  j24 (1 : Int32) C29) fun j23 =>
  if r21 = 0 then
  (fX0_acceptsLinkMark C22 a1 fun r26 C27 =>
  if r26 = 0 then
  (j24 (0 : Int32) C27)
  else
  (j23 C27))
  else
  (j23 C22)
def fX0_findError_L19  (E : Int32 → Xm → Prop) (K : Int32 → Xm → Prop) : Nat → Int32 → Xm → Prop
  | 0, _, _ => False
  | n + 1, v1, C =>
  if (C 1 1) ≤ v1 then
  (E v1 C)
  else
  (inb v1 61 ∧
  fX0_accepts C (C 2 (Int32.toNatClampNeg v1)) fun r6 C7 =>
  if r6 = 0 then
  (K v1 C7)
  else
  (bd (v1 + (1 : Int32)) fun x9 =>
  fX0_findError_L19 E K n x9 C7))
def fX0_findError (C : Xm) (K : Int32 → Xm → Prop) : Prop :=
  fX2_clear C fun C1 =>
  bd (wr C1 1 4 (0 : Int32)) fun C2 =>
  bd (wr C2 1 5 (0 : Int32)) fun C3 =>
  jn (α := Int32 → Xm → Prop) (fun (x11 : Int32) (C12 : Xm) =>
  K (C12 1 1) C12) fun j10 =>
  fX0_findError_L19  j10 K 200 (0 : Int32) C3
def fX7_errorPosition (C : Xm) (K : Int32 → Xm → Prop) : Prop :=
  fX0_findError C fun r1 C2 =>
  K r1 C2
def fX0_isComplete (C : Xm) (K : Int32 → Xm → Prop) : Prop :=
  fX0_findError C fun r1 C2 =>
  jn (α := Int32 → Prop) (fun (x9 : Int32) =>
  bl x9 ∧
  K x9 C2) fun j4 =>
  jn (α := Prop) (j4 (0 : Int32)) fun j3 =>
  if r1 = (C2 1 1) then
  (jn (α := Prop) (j4 (1 : Int32)) fun j6 =>
  if (C2 1 5) = (1 : Int32) then
  (j6)
  else
  (if (C2 1 5) = (5 : Int32) then
  (j6)
  else
  (j3)))
  else
  (j3)
def fX2_copyFrom_L2  (E : Int32 → Xm → Prop) (K : Xm → Prop) : Nat → Int32 → Xm → Prop
  | 0, _, _ => False
  | n + 1, v2, C =>
  if (8 : Int32) ≤ v2 then
  (E v2 C)
  else
  (inb v2 8 ∧
  inb v2 8 ∧
  bd (wrR C (25 + Int32.toNatClampNeg v2) (va_cpy (C (5 + Int32.toNatClampNeg v2)) (C (25 + Int32.toNatClampNeg v2)) (Int32.toNatClampNeg 0) (Int32.toNatClampNeg 0) (Int32.toNatClampNeg 8))) fun C4 =>
  inb v2 8 ∧
  inb v2 8 ∧
  bd (wrR C4 (34 + Int32.toNatClampNeg v2) (va_cpy (C4 (14 + Int32.toNatClampNeg v2)) (C4 (34 + Int32.toNatClampNeg v2)) (Int32.toNatClampNeg 0) (Int32.toNatClampNeg 0) (Int32.toNatClampNeg 8))) fun C7 =>
  bd (v2 + (1 : Int32)) fun x8 =>
  fX2_copyFrom_L2 E K n x8 C7)
def fX2_copyFrom (C : Xm) (K : Xm → Prop) : Prop :=
  jn (α := Int32 → Xm → Prop) (fun (x10 : Int32) (C11 : Xm) =>
  K C11) fun j9 =>
  fX2_copyFrom_L2  j9 K 200 (0 : Int32) C
def fX3_startAnew_L15 (p1 : Int32) (E : Int32 → Xm → Prop) (K : Xm → Prop) : Nat → Int32 → Xm → Prop
  | 0, _, _ => False
  | n + 1, v3, C =>
  if (8 : Int32) ≤ v3 then
  (E v3 C)
  else
  (inb v3 8 ∧
  bd (wr C 42 (Int32.toNatClampNeg v3) (1 : Int32)) fun C5 =>
  inb v3 8 ∧
  bd (wr C5 43 (Int32.toNatClampNeg v3) (0 : Int32)) fun C7 =>
  inb v3 8 ∧
  bd (wr C7 44 (Int32.toNatClampNeg v3) (0 : Int32)) fun C9 =>
  bd (v3 + (1 : Int32)) fun x10 =>
  fX3_startAnew_L15 p1 E K n x10 C9)
def fX3_startAnew (C : Xm) (a1 : Int32) (K : Xm → Prop) : Prop :=
  fX2_copyFrom C fun C1 =>
  bd (wr C1 22 1 a1) fun C2 =>
  jn (α := Int32 → Xm → Prop) (fun (x12 : Int32) (C13 : Xm) =>
  K C13) fun j11 =>
  fX3_startAnew_L15 a1 j11 K 200 (0 : Int32) C2
def fX1_forget (C : Xm) (K : Xm → Prop) : Prop :=
  bd (flR C 48 8 (-1 : Int32)) fun C1 =>
  bd (flR C1 49 8 (-1 : Int32)) fun C2 =>
  bd (wr C2 46 3 (0 : Int32)) fun C3 =>
  K C3
def fX7_loadNetwork (C : Xm) (K : Int32 → Xm → Prop) : Prop :=
  fX0_isComplete C fun r1 C2 =>
  if r1 = 0 then
  (K (-1003 : Int32) C2)
  else
  (fX3_startAnew C2 (C2 1 3) fun C4 =>
  bd (wr C4 1 1 (0 : Int32)) fun C5 =>
  fX1_forget C5 fun C6 =>
  bd (wr C6 50 1 (0 : Int32)) fun C7 =>
  bd (wr C7 64 1 (0 : Int32)) fun C8 =>
  bd (wr C8 0 7 (0 : Int32)) fun C9 =>
  bd (wr C9 0 8 (0 : Int32)) fun C10 =>
  K (C10 22 1) C10)
def fX7_setTransmissionLimit (C : Xm) (a1 : Int32) (K : Int32 → Xm → Prop) : Prop :=
  jn (α := Prop) (K (-1002 : Int32) C) fun j1 =>
  if a1 < (1 : Int32) then
  (j1)
  else
  (if a1 ≤ (4 : Int32) then
  (bd ((C 46 4)) fun x4 =>
  bd (wr C 46 4 a1) fun C5 =>
  K x4 C5)
  else
  (j1))
def fX7_setCaptureMargin (C : Xm) (a1 : Int32) (K : Int32 → Xm → Prop) : Prop :=
  jn (α := Prop) (K (-1002 : Int32) C) fun j1 =>
  if a1 < (1 : Int32) then
  (j1)
  else
  (if a1 ≤ (9 : Int32) then
  (bd ((C 46 5)) fun x4 =>
  bd (wr C 46 5 a1) fun C5 =>
  K x4 C5)
  else
  (j1))
def fX7_setSlotLimit (C : Xm) (a1 : Int32) (K : Int32 → Xm → Prop) : Prop :=
  jn (α := Prop) (K (-1002 : Int32) C) fun j1 =>
  if a1 < 0 then
  (j1)
  else
  (if a1 ≤ (6 : Int32) then
  (bd ((C 0 5)) fun x4 =>
  bd (wr C 0 5 a1) fun C5 =>
  K x4 C5)
  else
  (j1))
def fX7_setTakeoverLimit (C : Xm) (a1 : Int32) (K : Int32 → Xm → Prop) : Prop :=
  jn (α := Prop) (K (-1002 : Int32) C) fun j1 =>
  if a1 < (1 : Int32) then
  (j1)
  else
  (if a1 ≤ (9 : Int32) then
  (bd ((C 0 6)) fun x4 =>
  bd (wr C 0 6 a1) fun C5 =>
  K x4 C5)
  else
  (j1))
def fX3_has (C : Xm) (a1 : Int32) (K : Int32 → Prop) : Prop :=
  jn (α := Int32 → Prop) (fun (x5 : Int32) =>
  bl x5 ∧
  K x5) fun j2 =>
  jn (α := Prop) (j2 (0 : Int32)) fun j1 =>
  if a1 < 0 then
  (j1)
  else
  (if (C 22 1) ≤ a1 then
  (j1)
  else
  (j2 (1 : Int32)))
def fX7_setAlive (C : Xm) (a1 : Int32) (a2 : Int32) (K : Int32 → Xm → Prop) : Prop :=
  fX3_has C a1 fun r1 =>
  if r1 = 0 then
  (K (-1001 : Int32) C)
  else
  (inb a1 8 ∧
  bd ((C 42 (Int32.toNatClampNeg a1))) fun x4 =>
  jn (α := Xm → Prop) (fun (C12 : Xm) =>
  jn (α := Int32 → Prop) (fun (x15 : Int32) =>
  K x15 C12) fun j13 =>
  if x4 = 0 then
  (j13 (0 : Int32))
  else
  (j13 (1 : Int32))) fun j5 =>
  if x4 = a2 then
  (j5 C)
  else
  (inb a1 8 ∧
  bl a2 ∧
  bd (wr C 42 (Int32.toNatClampNeg a1) a2) fun C9 =>
  inb a1 8 ∧
  bd (wr C9 43 (Int32.toNatClampNeg a1) (0 : Int32)) fun C11 =>
  j5 C11))
def fX3_areAlive_L2 (C : Xm) (p1 : Int32) (E : Int32 → Prop) (K : Int32 → Prop) : Nat → Int32 → Prop
  | 0, _ => False
  | n + 1, v2 =>
  if (C 22 1) ≤ v2 then
  (E v2)
  else
  (jn (α := Prop) (bd (v2 + (1 : Int32)) fun x6 =>
  fX3_areAlive_L2 C p1 E K n x6) fun j2 =>
  if ((p1 >>> (v2 &&& 31)) &&& (1 : Int32)) = (1 : Int32) then
  (inb v2 8 ∧
  if (C 42 (Int32.toNatClampNeg v2)) = 0 then
  (K (0 : Int32))
  else
  (j2))
  else
  (j2))
def fX3_areAlive (C : Xm) (a1 : Int32) (K : Int32 → Prop) : Prop :=
  jn (α := Int32 → Prop) (fun (x8 : Int32) =>
  K (1 : Int32)) fun j7 =>
  fX3_areAlive_L2 C a1 j7 K 200 (0 : Int32)
def fX1_hold (C : Xm) (a2 : Int32) (a3 : Int32) (a4 : Int32) (K : Xm → Prop) : Prop :=
  inb a2 8 ∧
  bd (wr C 48 (Int32.toNatClampNeg a2) a3) fun C2 =>
  inb a2 8 ∧
  bd (wr C2 49 (Int32.toNatClampNeg a2) a4) fun C4 =>
  inb a2 8 ∧
  inb a2 8 ∧
  bd (wr C4 44 (Int32.toNatClampNeg a2) ((C4 44 (Int32.toNatClampNeg a2)) + (C4 46 4))) fun C7 =>
  bd (wr C7 46 3 (if (C7 46 3) < ((a4 + ((2 : Int32) * (C7 46 4))) - (1 : Int32)) then ((a4 + ((2 : Int32) * (C7 46 4))) - (1 : Int32)) else (C7 46 3))) fun C8 =>
  K C8
def fX1_transmits (C : Xm) (a1 : Int32) (a2 : Int32) (K : Int32 → Prop) : Prop :=
  inb a1 8 ∧
  if (C 48 (Int32.toNatClampNeg a1)) = (-1 : Int32) then
  (K (0 : Int32))
  else
  (inb a1 8 ∧
  bd ((a2 - (C 49 (Int32.toNatClampNeg a1)))) fun x4 =>
  jn (α := Int32 → Prop) (fun (x10 : Int32) =>
  bl x10 ∧
  K x10) fun j6 =>
  jn (α := Prop) (j6 (0 : Int32)) fun j5 =>
  if x4 < 0 then
  (j5)
  else
  (if (irm x4 (2 : Int32)) = 0 then
  (if (C 46 4) ≤ (x4 / (2 : Int32)) then
  (j5)
  else
  (j6 (1 : Int32)))
  else
  (j5)))
def fX2_signal (C : Xm) (a1 : Int32) (a2 : Int32) (a3 : Int32) (K : Int32 → Prop) : Prop :=
  inb a1 8 ∧
  inb a2 8 ∧
  bd ((C (34 + Int32.toNatClampNeg a1) (Int32.toNatClampNeg a2))) fun x3 =>
  jn (α := Prop) (inb a1 8 ∧
  inb a2 8 ∧
  K (C (25 + Int32.toNatClampNeg a1) (Int32.toNatClampNeg a2))) fun j4 =>
  if x3 ≤ 0 then
  (j4)
  else
  (¬ x3 = 0 ∧
  if (irm (a3 + (1 : Int32)) x3) = 0 then
  (K (0 : Int32))
  else
  (j4))
def fX1_measureLevels_L11 (p2 : Int32) (p3 : Int32) (E : Int32 → Xm → Prop) (K : Xm → Prop) : Nat → Int32 → Xm → Prop
  | 0, _, _ => False
  | n + 1, v4, C =>
  if (8 : Int32) ≤ v4 then
  (E v4 C)
  else
  (fX1_transmits C v4 p3 fun r3 =>
  jn (α := Xm → Prop) (fun (C12 : Xm) =>
  bd (v4 + (1 : Int32)) fun x13 =>
  fX1_measureLevels_L11 p2 p3 E K n x13 C12) fun j4 =>
  if r3 = 0 then
  (j4 C)
  else
  (inb v4 8 ∧
  bd ((C 48 (Int32.toNatClampNeg v4))) fun x7 =>
  inb x7 8 ∧
  fX2_signal C v4 p2 p3 fun r9 =>
  inb x7 8 ∧
  bd (wr C 47 (Int32.toNatClampNeg x7) (if (C 47 (Int32.toNatClampNeg x7)) < r9 then r9 else (C 47 (Int32.toNatClampNeg x7)))) fun C11 =>
  j4 C11))
def fX1_measureLevels (C : Xm) (a2 : Int32) (a3 : Int32) (K : Xm → Prop) : Prop :=
  bd (flR C 47 8 (0 : Int32)) fun C1 =>
  jn (α := Int32 → Xm → Prop) (fun (x15 : Int32) (C16 : Xm) =>
  K C16) fun j14 =>
  fX1_measureLevels_L11 a2 a3 j14 K 200 (0 : Int32) C1
def fX1_capturedPacket_L9 (C : Xm) (E : Int32 → Int32 → Int32 → Int32 → Prop) (K : Int32 → Prop) : Nat → Int32 → Int32 → Int32 → Int32 → Prop
  | 0, _, _, _, _ => False
  | n + 1, v1, v2, v3, v4 =>
  if (8 : Int32) ≤ v4 then
  (E v1 v2 v3 v4)
  else
  (inb v4 8 ∧
  jn (α := Int32 → Int32 → Int32 → Prop) (fun (x11 : Int32) (x12 : Int32) (x13 : Int32) =>
  bd (v4 + (1 : Int32)) fun x14 =>
  fX1_capturedPacket_L9 C E K n x11 x12 x13 x14) fun j3 =>
  if (C 47 (Int32.toNatClampNeg v4)) ≤ v2 then
  (inb v4 8 ∧
  if (C 47 (Int32.toNatClampNeg v4)) ≤ v3 then
  (j3 v1 v2 v3)
  else
  (inb v4 8 ∧
  bd ((C 47 (Int32.toNatClampNeg v4))) fun x8 =>
  j3 v1 v2 x8))
  else
  (inb v4 8 ∧
  bd ((C 47 (Int32.toNatClampNeg v4))) fun x10 =>
  j3 v4 x10 v2))
def fX1_capturedPacket (C : Xm) (K : Int32 → Prop) : Prop :=
  jn (α := Int32 → Int32 → Int32 → Int32 → Prop) (fun (x16 : Int32) (x17 : Int32) (x18 : Int32) (x19 : Int32) =>
  jn (α := Int32 → Prop) (fun (x22 : Int32) =>
  jn (α := Int32 → Prop) (fun (x27 : Int32) =>
  K x27) fun j24 =>
  jn (α := Prop) (j24 x16) fun j23 =>
  if x22 = 0 then
  (if (x17 - x18) < (C 46 5) then
  (j24 (-1 : Int32))
  else
  (j23))
  else
  (j23)) fun j20 =>
  if x18 = 0 then
  (j20 (1 : Int32))
  else
  (j20 (0 : Int32))) fun j15 =>
  fX1_capturedPacket_L9 C j15 K 200 (-1 : Int32) (0 : Int32) (0 : Int32) (0 : Int32)
def fX1_runSlot_L2 (p2 : Int32) (E : Int32 → Xm → Prop) (K : Xm → Prop) : Nat → Int32 → Xm → Prop
  | 0, _, _ => False
  | n + 1, v3, C =>
  if (C 22 1) ≤ v3 then
  (E v3 C)
  else
  (inb v3 8 ∧
  jn (α := Xm → Prop) (fun (C11 : Xm) =>
  bd (v3 + (1 : Int32)) fun x12 =>
  fX1_runSlot_L2 p2 E K n x12 C11) fun j3 =>
  if (C 42 (Int32.toNatClampNeg v3)) = 0 then
  (j3 C)
  else
  (inb v3 8 ∧
  if (C 48 (Int32.toNatClampNeg v3)) = (-1 : Int32) then
  (fX1_measureLevels C v3 p2 fun C7 =>
  fX1_capturedPacket C7 fun r8 =>
  if r8 = (-1 : Int32) then
  (j3 C7)
  else
  (fX1_hold C7 v3 r8 (p2 + (1 : Int32)) fun C10 =>
  j3 C10))
  else
  (j3 C)))
def fX1_runSlot (C : Xm) (a2 : Int32) (K : Xm → Prop) : Prop :=
  jn (α := Int32 → Xm → Prop) (fun (x14 : Int32) (C15 : Xm) =>
  K C15) fun j13 =>
  fX1_runSlot_L2 a2 j13 K 200 (0 : Int32) C
def fX1_run_L6 (p2 : Int32) (E : Int32 → Xm → Prop) (K : Xm → Prop) : Nat → Int32 → Xm → Prop
  | 0, _, _ => False
  | n + 1, v3, C =>
  if (C 22 1) ≤ v3 then
  (E v3 C)
  else
  (jn (α := Xm → Prop) (fun (C6 : Xm) =>
  bd (v3 + (1 : Int32)) fun x7 =>
  fX1_run_L6 p2 E K n x7 C6) fun j3 =>
  if ((p2 >>> (v3 &&& 31)) &&& (1 : Int32)) = (1 : Int32) then
  (fX1_hold C v3 v3 (0 : Int32) fun C5 =>
  j3 C5)
  else
  (j3 C))
def fX1_run_L39 (p2 : Int32) (E : Int32 → Xm → Prop) (K : Xm → Prop) : Nat → Int32 → Xm → Prop
  | 0, _, _ => False
  | n + 1, v3, C =>
  if (64 : Int32) ≤ v3 then
  (E v3 C)
  else
  (if (C 46 3) ≤ v3 then
  (E v3 C)
  else
  (fX1_runSlot C v3 fun C13 =>
  bd (v3 + (1 : Int32)) fun x14 =>
  fX1_run_L39 p2 E K n x14 C13))
def fX1_run (C : Xm) (a2 : Int32) (K : Xm → Prop) : Prop :=
  fX1_forget C fun C1 =>
  jn (α := Int32 → Xm → Prop) (fun (x9 : Int32) (C10 : Xm) =>
  jn (α := Int32 → Xm → Prop) (fun (x16 : Int32) (C17 : Xm) =>
  K C17) fun j15 =>
  fX1_run_L39 a2 j15 K 200 (0 : Int32) C10) fun j8 =>
  fX1_run_L6 a2 j8 K 200 (0 : Int32) C1
def fX1_countHolders_L4 (C : Xm) (E : Int32 → Int32 → Prop) (K : Int32 → Prop) : Nat → Int32 → Int32 → Prop
  | 0, _, _ => False
  | n + 1, v1, v2 =>
  if (8 : Int32) ≤ v2 then
  (E v1 v2)
  else
  (inb v2 8 ∧
  jn (α := Int32 → Prop) (fun (x6 : Int32) =>
  bd (v2 + (1 : Int32)) fun x7 =>
  fX1_countHolders_L4 C E K n x6 x7) fun j3 =>
  if (C 48 (Int32.toNatClampNeg v2)) = (-1 : Int32) then
  (j3 v1)
  else
  (bd (v1 + (1 : Int32)) fun x5 =>
  j3 x5))
def fX1_countHolders (C : Xm) (K : Int32 → Prop) : Prop :=
  jn (α := Int32 → Int32 → Prop) (fun (x9 : Int32) (x10 : Int32) =>
  K x9) fun j8 =>
  fX1_countHolders_L4 C j8 K 200 (0 : Int32) (0 : Int32)
def fX7_flood (C : Xm) (a1 : Int32) (K : Int32 → Xm → Prop) : Prop :=
  jn (α := Prop) (K (-1002 : Int32) C) fun j1 =>
  if a1 ≤ 0 then
  (j1)
  else
  (if (a1 >>> ((C 22 1) &&& 31)) = 0 then
  (fX3_areAlive C a1 fun r4 =>
  if r4 = 0 then
  (K (-1003 : Int32) C)
  else
  (fX1_run C a1 fun C6 =>
  fX1_countHolders C6 fun r7 =>
  K r7 C6))
  else
  (j1))
def fX7_packetAt (C : Xm) (a1 : Int32) (K : Int32 → Prop) : Prop :=
  fX3_has C a1 fun r1 =>
  jn (α := Int32 → Prop) (fun (x5 : Int32) =>
  K x5) fun j2 =>
  if r1 = 0 then
  (j2 (-1001 : Int32))
  else
  (inb a1 8 ∧
  j2 (C 48 (Int32.toNatClampNeg a1)))
def fX7_hopCount (C : Xm) (a1 : Int32) (K : Int32 → Prop) : Prop :=
  fX3_has C a1 fun r1 =>
  jn (α := Int32 → Prop) (fun (x5 : Int32) =>
  K x5) fun j2 =>
  if r1 = 0 then
  (j2 (-1001 : Int32))
  else
  (inb a1 8 ∧
  j2 (C 49 (Int32.toNatClampNeg a1)))
def fX7_floodLength (C : Xm) (K : Int32 → Prop) : Prop :=
  K (C 46 3)
def fX5_startAnew (C : Xm) (kx : Int32) (a1 : Int32) (a2 : Int32) (a3 : Int32) (K : Xm → Prop) : Prop :=
  bd (wr C (52 + 2 * Int32.toNatClampNeg kx) 1 a1) fun C1 =>
  bd (wr C1 (52 + 2 * Int32.toNatClampNeg kx) 2 a2) fun C2 =>
  bd (wr C2 (52 + 2 * Int32.toNatClampNeg kx) 3 a3) fun C3 =>
  bd (wr C3 (52 + 2 * Int32.toNatClampNeg kx) 4 (0 : Int32)) fun C4 =>
  bd (wr C4 (52 + 2 * Int32.toNatClampNeg kx) 5 (0 : Int32)) fun C5 =>
  bd (wr C5 (52 + 2 * Int32.toNatClampNeg kx) 6 (0 : Int32)) fun C6 =>
  K C6
def fX6_add (C : Xm) (a1 : Int32) (a2 : Int32) (a3 : Int32) (K : Int32 → Xm → Prop) : Prop :=
  if (C 50 1) < (6 : Int32) then
  (inb (C 50 1) 6 ∧
  Int32.toNatClampNeg (C 51 (Int32.toNatClampNeg (C 50 1))) < 6 ∧
  fX5_startAnew C (C 51 (Int32.toNatClampNeg (C 50 1))) a1 a2 a3 fun C4 =>
  bd (wr C4 50 1 ((C4 50 1) + (1 : Int32))) fun C5 =>
  K ((C5 50 1) - (1 : Int32)) C5)
  else
  (K (-1004 : Int32) C)
def fX7_addStream (C : Xm) (a1 : Int32) (a2 : Int32) (a3 : Int32) (K : Int32 → Xm → Prop) : Prop :=
  fX3_has C a1 fun r1 =>
  if r1 = 0 then
  (K (-1001 : Int32) C)
  else
  (jn (α := Prop) (K (-1002 : Int32) C) fun j3 =>
  if a2 < (1 : Int32) then
  (j3)
  else
  (if (9 : Int32) < a2 then
  (j3)
  else
  (if a3 < 0 then
  (j3)
  else
  (if a3 ≤ (99 : Int32) then
  (fX6_add C a1 a2 a3 fun r8 C9 =>
  K r8 C9)
  else
  (j3)))))
def fX6_has (C : Xm) (a1 : Int32) (K : Int32 → Prop) : Prop :=
  jn (α := Int32 → Prop) (fun (x5 : Int32) =>
  bl x5 ∧
  K x5) fun j2 =>
  jn (α := Prop) (j2 (0 : Int32)) fun j1 =>
  if a1 < 0 then
  (j1)
  else
  (if (C 50 1) ≤ a1 then
  (j1)
  else
  (j2 (1 : Int32)))
def fX6_remove_L11 (p1 : Int32) (E : Int32 → Xm → Prop) (K : Xm → Prop) : Nat → Int32 → Xm → Prop
  | 0, _, _ => False
  | n + 1, v3, C =>
  if (C 50 1) ≤ v3 then
  (E v3 C)
  else
  (inb v3 6 ∧
  Int32.toNatClampNeg (C 51 (Int32.toNatClampNeg v3)) < 6 ∧
  inb (v3 - (1 : Int32)) 6 ∧
  bd (wr C 51 (Int32.toNatClampNeg (v3 - (1 : Int32))) (C 51 (Int32.toNatClampNeg v3))) fun C8 =>
  bd (v3 + (1 : Int32)) fun x9 =>
  fX6_remove_L11 p1 E K n x9 C8)
def fX6_remove (C : Xm) (a1 : Int32) (K : Xm → Prop) : Prop :=
  inb a1 6 ∧
  Int32.toNatClampNeg (C 51 (Int32.toNatClampNeg a1)) < 6 ∧
  bd ((a1 + (1 : Int32))) fun x3 =>
  jn (α := Int32 → Xm → Prop) (fun (x11 : Int32) (C12 : Xm) =>
  bd (wr C12 50 1 ((C12 50 1) - (1 : Int32))) fun C13 =>
  inb (C13 50 1) 6 ∧
  bd (wr C13 51 (Int32.toNatClampNeg (C13 50 1)) (C 51 (Int32.toNatClampNeg a1))) fun C15 =>
  K C15) fun j10 =>
  fX6_remove_L11 a1 j10 K 200 x3 C
def fX7_removeStream (C : Xm) (a1 : Int32) (K : Int32 → Xm → Prop) : Prop :=
  fX6_has C a1 fun r1 =>
  if r1 = 0 then
  (K (-1001 : Int32) C)
  else
  (fX6_remove C a1 fun C3 =>
  bd (wr C3 64 1 (0 : Int32)) fun C4 =>
  K (C4 50 1) C4)
def fX7_waitingPackets (C : Xm) (a1 : Int32) (K : Int32 → Prop) : Prop :=
  fX6_has C a1 fun r1 =>
  jn (α := Int32 → Prop) (fun (x6 : Int32) =>
  K x6) fun j2 =>
  if r1 = 0 then
  (j2 (-1001 : Int32))
  else
  (inb a1 6 ∧
  Int32.toNatClampNeg (C 51 (Int32.toNatClampNeg a1)) < 6 ∧
  j2 (C (52 + 2 * Int32.toNatClampNeg (C 51 (Int32.toNatClampNeg a1))) 4))
def fX7_deliveredPackets (C : Xm) (a1 : Int32) (K : Int32 → Prop) : Prop :=
  fX6_has C a1 fun r1 =>
  jn (α := Int32 → Prop) (fun (x6 : Int32) =>
  K x6) fun j2 =>
  if r1 = 0 then
  (j2 (-1001 : Int32))
  else
  (inb a1 6 ∧
  Int32.toNatClampNeg (C 51 (Int32.toNatClampNeg a1)) < 6 ∧
  j2 (C (52 + 2 * Int32.toNatClampNeg (C 51 (Int32.toNatClampNeg a1))) 5))
def fX7_lostPackets (C : Xm) (a1 : Int32) (K : Int32 → Prop) : Prop :=
  fX6_has C a1 fun r1 =>
  jn (α := Int32 → Prop) (fun (x6 : Int32) =>
  K x6) fun j2 =>
  if r1 = 0 then
  (j2 (-1001 : Int32))
  else
  (inb a1 6 ∧
  Int32.toNatClampNeg (C 51 (Int32.toNatClampNeg a1)) < 6 ∧
  j2 (C (52 + 2 * Int32.toNatClampNeg (C 51 (Int32.toNatClampNeg a1))) 6))
def fX5_generate (C : Xm) (kx : Int32) (a1 : Int32) (K : Xm → Prop) : Prop :=
  jn (α := Prop) (K C) fun j1 =>
  if a1 < (C (52 + 2 * Int32.toNatClampNeg kx) 3) then
  (j1)
  else
  (if (C (52 + 2 * Int32.toNatClampNeg kx) 2) < (1 : Int32) then
  (j1)
  else
  (¬ (C (52 + 2 * Int32.toNatClampNeg kx) 2) = 0 ∧
  if (irm (a1 - (C (52 + 2 * Int32.toNatClampNeg kx) 3)) (C (52 + 2 * Int32.toNatClampNeg kx) 2)) = 0 then
  (if (C (52 + 2 * Int32.toNatClampNeg kx) 4) < (4 : Int32) then
  (inb (C (52 + 2 * Int32.toNatClampNeg kx) 4) 4 ∧
  bd (wr C (53 + 2 * Int32.toNatClampNeg kx) (Int32.toNatClampNeg (C (52 + 2 * Int32.toNatClampNeg kx) 4)) a1) fun C8 =>
  bd (wr C8 (52 + 2 * Int32.toNatClampNeg kx) 4 ((C8 (52 + 2 * Int32.toNatClampNeg kx) 4) + (1 : Int32))) fun C9 =>
  K C9)
  else
  (bd (wr C (52 + 2 * Int32.toNatClampNeg kx) 6 ((C (52 + 2 * Int32.toNatClampNeg kx) 6) + (1 : Int32))) fun C10 =>
  K C10))
  else
  (j1)))
def fX6_generate_L2 (p1 : Int32) (E : Int32 → Xm → Prop) (K : Xm → Prop) : Nat → Int32 → Xm → Prop
  | 0, _, _ => False
  | n + 1, v2, C =>
  if (C 50 1) ≤ v2 then
  (E v2 C)
  else
  (inb v2 6 ∧
  Int32.toNatClampNeg (C 51 (Int32.toNatClampNeg v2)) < 6 ∧
  fX5_generate C (C 51 (Int32.toNatClampNeg v2)) p1 fun C4 =>
  bd (v2 + (1 : Int32)) fun x5 =>
  fX6_generate_L2 p1 E K n x5 C4)
def fX6_generate (C : Xm) (a1 : Int32) (K : Xm → Prop) : Prop :=
  jn (α := Int32 → Xm → Prop) (fun (x7 : Int32) (C8 : Xm) =>
  K C8) fun j6 =>
  fX6_generate_L2 a1 j6 K 200 (0 : Int32) C
def fX5_oldestRound (C : Xm) (kx : Int32) (K : Int32 → Prop) : Prop :=
  inb (0 : Int32) 4 ∧
  K (C (53 + 2 * Int32.toNatClampNeg kx) (Int32.toNatClampNeg (0 : Int32)))
def fX4_insert_L16 (p2 : Int32) (p3 : Int32) (E : Int32 → Xm → Prop) (K : Xm → Prop) : Nat → Int32 → Xm → Prop
  | 0, _, _ => False
  | n + 1, v4, C =>
  if v4 ≤ 0 then
  (E v4 C)
  else
  (inb (v4 - (1 : Int32)) 6 ∧
  inb (C 65 (Int32.toNatClampNeg (v4 - (1 : Int32)))) 6 ∧
  Int32.toNatClampNeg (C 51 (Int32.toNatClampNeg (C 65 (Int32.toNatClampNeg (v4 - (1 : Int32)))))) < 6 ∧
  fX5_oldestRound C (C 51 (Int32.toNatClampNeg (C 65 (Int32.toNatClampNeg (v4 - (1 : Int32)))))) fun r9 =>
  if r9 ≤ p3 then
  (E v4 C)
  else
  (inb (v4 - (1 : Int32)) 6 ∧
  inb v4 6 ∧
  bd (wr C 65 (Int32.toNatClampNeg v4) (C 65 (Int32.toNatClampNeg (v4 - (1 : Int32))))) fun C13 =>
  bd (v4 + (-1 : Int32)) fun x14 =>
  fX4_insert_L16 p2 p3 E K n x14 C13))
def fX4_insert (C : Xm) (a2 : Int32) (K : Xm → Prop) : Prop :=
  inb a2 6 ∧
  Int32.toNatClampNeg (C 51 (Int32.toNatClampNeg a2)) < 6 ∧
  fX5_oldestRound C (C 51 (Int32.toNatClampNeg a2)) fun r3 =>
  bd ((C 64 1)) fun x4 =>
  jn (α := Int32 → Xm → Prop) (fun (x16 : Int32) (C17 : Xm) =>
  inb x16 6 ∧
  bd (wr C17 65 (Int32.toNatClampNeg x16) a2) fun C19 =>
  bd (wr C19 64 1 ((C19 64 1) + (1 : Int32))) fun C20 =>
  K C20) fun j15 =>
  fX4_insert_L16 a2 r3 j15 K 200 x4 C
def fX4_build_L7 (p2 : Int32) (E : Int32 → Xm → Prop) (K : Xm → Prop) : Nat → Int32 → Xm → Prop
  | 0, _, _ => False
  | n + 1, v3, C =>
  if (C 50 1) ≤ v3 then
  (E v3 C)
  else
  (inb v3 6 ∧
  Int32.toNatClampNeg (C 51 (Int32.toNatClampNeg v3)) < 6 ∧
  jn (α := Xm → Prop) (fun (C8 : Xm) =>
  bd (v3 + (1 : Int32)) fun x9 =>
  fX4_build_L7 p2 E K n x9 C8) fun j5 =>
  if (C (52 + 2 * Int32.toNatClampNeg (C 51 (Int32.toNatClampNeg v3))) 4) ≤ 0 then
  (j5 C)
  else
  (fX4_insert C v3 fun C7 =>
  j5 C7))
def fX4_build (C : Xm) (a2 : Int32) (K : Xm → Prop) : Prop :=
  bd (wr C 64 1 (0 : Int32)) fun C1 =>
  jn (α := Int32 → Xm → Prop) (fun (x11 : Int32) (C12 : Xm) =>
  bd (wr C12 64 1 (if a2 < (C12 64 1) then a2 else (C12 64 1))) fun C13 =>
  K C13) fun j10 =>
  fX4_build_L7 a2 j10 K 200 (0 : Int32) C1
def fX3_noteSchedule_L2  (E : Int32 → Xm → Prop) (K : Xm → Prop) : Nat → Int32 → Xm → Prop
  | 0, _, _ => False
  | n + 1, v2, C =>
  if (C 22 1) ≤ v2 then
  (E v2 C)
  else
  (inb v2 8 ∧
  jn (α := Int32 → Prop) (fun (x5 : Int32) =>
  inb v2 8 ∧
  bl x5 ∧
  bd (wr C 45 (Int32.toNatClampNeg v2) x5) fun C8 =>
  inb v2 8 ∧
  jn (α := Xm → Prop) (fun (C19 : Xm) =>
  bd (v2 + (1 : Int32)) fun x20 =>
  fX3_noteSchedule_L2 E K n x20 C19) fun j10 =>
  if (C8 45 (Int32.toNatClampNeg v2)) = 0 then
  (inb v2 8 ∧
  if (C8 42 (Int32.toNatClampNeg v2)) = 0 then
  (j10 C8)
  else
  (inb v2 8 ∧
  inb v2 8 ∧
  bd (wr C8 43 (Int32.toNatClampNeg v2) ((C8 43 (Int32.toNatClampNeg v2)) + (1 : Int32))) fun C16 =>
  j10 C16))
  else
  (inb v2 8 ∧
  bd (wr C8 43 (Int32.toNatClampNeg v2) (0 : Int32)) fun C18 =>
  j10 C18)) fun j3 =>
  if (C 48 (Int32.toNatClampNeg v2)) = (-1 : Int32) then
  (j3 (0 : Int32))
  else
  (j3 (1 : Int32)))
def fX3_noteSchedule (C : Xm) (K : Xm → Prop) : Prop :=
  jn (α := Int32 → Xm → Prop) (fun (x22 : Int32) (C23 : Xm) =>
  K C23) fun j21 =>
  fX3_noteSchedule_L2  j21 K 200 (0 : Int32) C
def fX5_removeOldest_L2 (kx : Int32) (E : Int32 → Xm → Prop) (K : Xm → Prop) : Nat → Int32 → Xm → Prop
  | 0, _, _ => False
  | n + 1, v1, C =>
  if (C (52 + 2 * Int32.toNatClampNeg kx) 4) ≤ v1 then
  (E v1 C)
  else
  (inb v1 4 ∧
  inb (v1 - (1 : Int32)) 4 ∧
  bd (wr C (53 + 2 * Int32.toNatClampNeg kx) (Int32.toNatClampNeg (v1 - (1 : Int32))) (C (53 + 2 * Int32.toNatClampNeg kx) (Int32.toNatClampNeg v1))) fun C4 =>
  bd (v1 + (1 : Int32)) fun x5 =>
  fX5_removeOldest_L2 kx E K n x5 C4)
def fX5_removeOldest (C : Xm) (kx : Int32) (K : Xm → Prop) : Prop :=
  jn (α := Int32 → Xm → Prop) (fun (x7 : Int32) (C8 : Xm) =>
  jn (α := Xm → Prop) (fun (C12 : Xm) =>
  K C12) fun j9 =>
  if (C8 (52 + 2 * Int32.toNatClampNeg kx) 4) ≤ 0 then
  (j9 C8)
  else
  (bd (wr C8 (52 + 2 * Int32.toNatClampNeg kx) 4 ((C8 (52 + 2 * Int32.toNatClampNeg kx) 4) - (1 : Int32))) fun C11 =>
  j9 C11)) fun j6 =>
  fX5_removeOldest_L2 kx j6 K 200 (1 : Int32) C
def fX7_serveSchedule_L4  (E : Int32 → Int32 → Xm → Prop) (K : Int32 → Xm → Prop) : Nat → Int32 → Int32 → Xm → Prop
  | 0, _, _, _ => False
  | n + 1, v1, v2, C =>
  if (C 64 1) ≤ v2 then
  (E v1 v2 C)
  else
  (inb v2 6 ∧
  inb (C 65 (Int32.toNatClampNeg v2)) 6 ∧
  Int32.toNatClampNeg (C 51 (Int32.toNatClampNeg (C 65 (Int32.toNatClampNeg v2)))) < 6 ∧
  fX5_removeOldest C (C 51 (Int32.toNatClampNeg (C 65 (Int32.toNatClampNeg v2)))) fun C5 =>
  inb (C5 (52 + 2 * Int32.toNatClampNeg (C 51 (Int32.toNatClampNeg (C 65 (Int32.toNatClampNeg v2))))) 1) 8 ∧
  bd ((C5 45 (Int32.toNatClampNeg (C5 (52 + 2 * Int32.toNatClampNeg (C 51 (Int32.toNatClampNeg (C 65 (Int32.toNatClampNeg v2))))) 1)))) fun x7 =>
  jn (α := Xm → Prop) (fun (C11 : Xm) =>
  jn (α := Int32 → Xm → Prop) (fun (x20 : Int32) (C21 : Xm) =>
  bd (v2 + (1 : Int32)) fun x22 =>
  fX7_serveSchedule_L4 E K n x20 x22 C21) fun j13 =>
  jn (α := Prop) (bd (wr C11 (52 + 2 * Int32.toNatClampNeg (C 51 (Int32.toNatClampNeg (C 65 (Int32.toNatClampNeg v2))))) 6 ((C11 (52 + 2 * Int32.toNatClampNeg (C 51 (Int32.toNatClampNeg (C 65 (Int32.toNatClampNeg v2))))) 6) + (1 : Int32))) fun C19 =>
  j13 v1 C19) fun j12 =>
  if x7 = 0 then
  (j12)
  else
  (inb (C11 0 7) 8 ∧
  if (C11 48 (Int32.toNatClampNeg (C11 0 7))) = (-1 : Int32) then
  (j12)
  else
  (bd (wr C11 (52 + 2 * Int32.toNatClampNeg (C 51 (Int32.toNatClampNeg (C 65 (Int32.toNatClampNeg v2))))) 5 ((C11 (52 + 2 * Int32.toNatClampNeg (C 51 (Int32.toNatClampNeg (C 65 (Int32.toNatClampNeg v2))))) 5) + (1 : Int32))) fun C17 =>
  bd (v1 + (1 : Int32)) fun x18 =>
  j13 x18 C17))) fun j8 =>
  if x7 = 0 then
  (j8 C5)
  else
  (fX1_run C5 ((1 : Int32) <<< ((C5 (52 + 2 * Int32.toNatClampNeg (C 51 (Int32.toNatClampNeg (C 65 (Int32.toNatClampNeg v2))))) 1) &&& 31)) fun C10 =>
  j8 C10))
def fX7_serveSchedule (C : Xm) (K : Int32 → Xm → Prop) : Prop :=
  jn (α := Int32 → Int32 → Xm → Prop) (fun (x24 : Int32) (x25 : Int32) (C26 : Xm) =>
  K x24 C26) fun j23 =>
  fX7_serveSchedule_L4  j23 K 200 (0 : Int32) (0 : Int32) C
def fX3_noteNoSchedule_L2  (E : Int32 → Xm → Prop) (K : Xm → Prop) : Nat → Int32 → Xm → Prop
  | 0, _, _ => False
  | n + 1, v1, C =>
  if (C 22 1) ≤ v1 then
  (E v1 C)
  else
  (inb v1 8 ∧
  jn (α := Xm → Prop) (fun (C8 : Xm) =>
  bd (v1 + (1 : Int32)) fun x9 =>
  fX3_noteNoSchedule_L2 E K n x9 C8) fun j3 =>
  if (C 42 (Int32.toNatClampNeg v1)) = 0 then
  (j3 C)
  else
  (inb v1 8 ∧
  inb v1 8 ∧
  bd (wr C 43 (Int32.toNatClampNeg v1) ((C 43 (Int32.toNatClampNeg v1)) + (1 : Int32))) fun C7 =>
  j3 C7))
def fX3_noteNoSchedule (C : Xm) (K : Xm → Prop) : Prop :=
  jn (α := Int32 → Xm → Prop) (fun (x11 : Int32) (C12 : Xm) =>
  K C12) fun j10 =>
  fX3_noteNoSchedule_L2  j10 K 200 (0 : Int32) C
def fX7_takeOver_L2  (E : Int32 → Xm → Prop) (K : Xm → Prop) : Nat → Int32 → Xm → Prop
  | 0, _, _ => False
  | n + 1, v1, C =>
  if (C 22 1) ≤ v1 then
  (E v1 C)
  else
  (inb v1 8 ∧
  jn (α := Prop) (bd (v1 + (1 : Int32)) fun x10 =>
  fX7_takeOver_L2 E K n x10 C) fun j3 =>
  if (C 42 (Int32.toNatClampNeg v1)) = 0 then
  (j3)
  else
  (inb v1 8 ∧
  if (C 43 (Int32.toNatClampNeg v1)) < (C 0 6) then
  (j3)
  else
  (bd (wr C 0 7 v1) fun C7 =>
  inb v1 8 ∧
  bd (wr C7 43 (Int32.toNatClampNeg v1) (0 : Int32)) fun C9 =>
  K C9)))
def fX7_takeOver (C : Xm) (K : Xm → Prop) : Prop :=
  jn (α := Int32 → Xm → Prop) (fun (x12 : Int32) (C13 : Xm) =>
  K C13) fun j11 =>
  fX7_takeOver_L2  j11 K 200 (0 : Int32) C
def fX7_runOneRound (C : Xm) (K : Int32 → Xm → Prop) : Prop :=
  fX6_generate C (C 0 8) fun C1 =>
  inb (C1 0 7) 8 ∧
  jn (α := Int32 → Xm → Prop) (fun (x13 : Int32) (C14 : Xm) =>
  bd (wr C14 0 8 ((C14 0 8) + (1 : Int32))) fun C15 =>
  K x13 C15) fun j3 =>
  if (C1 42 (Int32.toNatClampNeg (C1 0 7))) = 0 then
  (bd (wr C1 64 1 (0 : Int32)) fun C5 =>
  fX3_noteNoSchedule C5 fun C6 =>
  fX7_takeOver C6 fun C7 =>
  j3 (0 : Int32) C7)
  else
  (fX4_build C1 (C1 0 5) fun C8 =>
  fX1_run C8 ((1 : Int32) <<< ((C8 0 7) &&& 31)) fun C9 =>
  fX3_noteSchedule C9 fun C10 =>
  fX7_serveSchedule C10 fun r11 C12 =>
  j3 r11 C12)
def fX7_runRounds_L53 (p1 : Int32) (E : Int32 → Int32 → Xm → Prop) (K : Int32 → Xm → Prop) : Nat → Int32 → Int32 → Xm → Prop
  | 0, _, _, _ => False
  | n + 1, v2, v3, C =>
  if p1 ≤ v3 then
  (E v2 v3 C)
  else
  (fX7_runOneRound C fun r8 C9 =>
  bd ((v2 + r8)) fun x10 =>
  bd (v3 + (1 : Int32)) fun x11 =>
  fX7_runRounds_L53 p1 E K n x10 x11 C9)
def fX7_runRounds (C : Xm) (a1 : Int32) (K : Int32 → Xm → Prop) : Prop :=
  jn (α := Prop) (K (-1002 : Int32) C) fun j1 =>
  if a1 < (1 : Int32) then
  (j1)
  else
  (if a1 ≤ (20 : Int32) then
  (fX3_has C (C 0 7) fun r4 =>
  if r4 = 0 then
  (K (-1003 : Int32) C)
  else
  (if ((C 0 8) + a1) ≤ (9999 : Int32) then
  (jn (α := Int32 → Int32 → Xm → Prop) (fun (x13 : Int32) (x14 : Int32) (C15 : Xm) =>
  K x13 C15) fun j12 =>
  fX7_runRounds_L53 a1 j12 K 200 (0 : Int32) (0 : Int32) C)
  else
  (K (-1004 : Int32) C)))
  else
  (j1))
def fX7_scheduledStream (C : Xm) (a1 : Int32) (K : Int32 → Prop) : Prop :=
  jn (α := Int32 → Prop) (fun (x6 : Int32) =>
  K x6) fun j2 =>
  jn (α := Prop) (j2 (-1 : Int32)) fun j1 =>
  if a1 < 0 then
  (j1)
  else
  (if (C 64 1) ≤ a1 then
  (j1)
  else
  (inb a1 6 ∧
  j2 (C 65 (Int32.toNatClampNeg a1))))
def fX4_hasRepeatedSource_L4 (C : Xm) (E : Int32 → Int32 → Prop) (K : Int32 → Prop) : Nat → Int32 → Int32 → Prop
  | 0, _, _ => False
  | n + 1, v2, v3 =>
  if (C 64 1) ≤ v3 then
  (E v2 v3)
  else
  (inb v3 6 ∧
  inb (C 65 (Int32.toNatClampNeg v3)) 6 ∧
  Int32.toNatClampNeg (C 51 (Int32.toNatClampNeg (C 65 (Int32.toNatClampNeg v3)))) < 6 ∧
  bd (((1 : Int32) <<< ((C (52 + 2 * Int32.toNatClampNeg (C 51 (Int32.toNatClampNeg (C 65 (Int32.toNatClampNeg v3))))) 1) &&& 31))) fun x5 =>
  if (v2 &&& x5) = 0 then
  (bd ((v2 ||| x5)) fun x7 =>
  bd (v3 + (1 : Int32)) fun x8 =>
  fX4_hasRepeatedSource_L4 C E K n x7 x8)
  else
  (K (1 : Int32)))
def fX4_hasRepeatedSource (C : Xm) (K : Int32 → Prop) : Prop :=
  jn (α := Int32 → Int32 → Prop) (fun (x10 : Int32) (x11 : Int32) =>
  K (0 : Int32)) fun j9 =>
  fX4_hasRepeatedSource_L4 C j9 K 200 (0 : Int32) (0 : Int32)
def fX4_encodedSize (C : Xm) (K : Int32 → Prop) : Prop :=
  bd (((3 : Int32) * (C 64 1))) fun x1 =>
  fX4_hasRepeatedSource C fun r2 =>
  jn (α := Int32 → Prop) (fun (x5 : Int32) =>
  K ((8 : Int32) + x5)) fun j3 =>
  if r2 = 0 then
  (j3 (if (8 : Int32) < x1 then (8 : Int32) else x1))
  else
  (j3 x1)
def fX7_scheduleBits (C : Xm) (K : Int32 → Prop) : Prop :=
  fX4_encodedSize C fun r1 =>
  K r1
def fX7_host (C : Xm) (K : Int32 → Prop) : Prop :=
  K (C 0 7)
def fX7_missedSchedules (C : Xm) (a1 : Int32) (K : Int32 → Prop) : Prop :=
  fX3_has C a1 fun r1 =>
  jn (α := Int32 → Prop) (fun (x5 : Int32) =>
  K x5) fun j2 =>
  if r1 = 0 then
  (j2 (-1001 : Int32))
  else
  (inb a1 8 ∧
  j2 (C 43 (Int32.toNatClampNeg a1)))
def fX7_transmissions (C : Xm) (a1 : Int32) (K : Int32 → Prop) : Prop :=
  fX3_has C a1 fun r1 =>
  jn (α := Int32 → Prop) (fun (x5 : Int32) =>
  K x5) fun j2 =>
  if r1 = 0 then
  (j2 (-1001 : Int32))
  else
  (inb a1 8 ∧
  j2 (C 44 (Int32.toNatClampNeg a1)))
def fX7_roundNumber (C : Xm) (K : Int32 → Prop) : Prop :=
  K (C 0 8)
def fX7_digestNodes_L5 (C : Xm) (p1 : Int64) (E : Int64 → Int32 → Prop) (K : Int64 → Prop) : Nat → Int64 → Int32 → Prop
  | 0, _, _ => False
  | n + 1, v3, v5 =>
  if (C 22 1) ≤ v5 then
  (E v3 v5)
  else
  (inb v5 8 ∧
  bd ((((31 : Int64) * v3) + (Int32.toInt64 (C 48 (Int32.toNatClampNeg v5))))) fun x3 =>
  inb v5 8 ∧
  bd ((((31 : Int64) * x3) + (Int32.toInt64 (C 49 (Int32.toNatClampNeg v5))))) fun x5 =>
  inb v5 8 ∧
  bd ((((31 : Int64) * x5) + (Int32.toInt64 (C 43 (Int32.toNatClampNeg v5))))) fun x7 =>
  inb v5 8 ∧
  bd ((((31 : Int64) * x7) + (Int32.toInt64 (C 44 (Int32.toNatClampNeg v5))))) fun x9 =>
  inb v5 8 ∧
  jn (α := Int32 → Prop) (fun (x13 : Int32) =>
  bd ((((31 : Int64) * x9) + (Int32.toInt64 x13))) fun x14 =>
  bd (v5 + (1 : Int32)) fun x15 =>
  fX7_digestNodes_L5 C p1 E K n x14 x15) fun j11 =>
  if (C 42 (Int32.toNatClampNeg v5)) = 0 then
  (j11 (0 : Int32))
  else
  (j11 (1 : Int32)))
def fX7_digestNodes (C : Xm) (a1 : Int64) (K : Int64 → Prop) : Prop :=
  jn (α := Int64 → Int32 → Prop) (fun (x17 : Int64) (x18 : Int32) =>
  K x17) fun j16 =>
  fX7_digestNodes_L5 C a1 j16 K 200 a1 (0 : Int32)
def fX7_digestStreams_L5 (C : Xm) (p1 : Int64) (E : Int64 → Int32 → Prop) (K : Int64 → Prop) : Nat → Int64 → Int32 → Prop
  | 0, _, _ => False
  | n + 1, v3, v5 =>
  if (C 50 1) ≤ v5 then
  (E v3 v5)
  else
  (inb v5 6 ∧
  Int32.toNatClampNeg (C 51 (Int32.toNatClampNeg v5)) < 6 ∧
  bd ((((31 : Int64) * v3) + (Int32.toInt64 (C (52 + 2 * Int32.toNatClampNeg (C 51 (Int32.toNatClampNeg v5))) 4)))) fun x4 =>
  bd ((((31 : Int64) * x4) + (Int32.toInt64 (C (52 + 2 * Int32.toNatClampNeg (C 51 (Int32.toNatClampNeg v5))) 5)))) fun x5 =>
  bd ((((31 : Int64) * x5) + (Int32.toInt64 (C (52 + 2 * Int32.toNatClampNeg (C 51 (Int32.toNatClampNeg v5))) 6)))) fun x6 =>
  bd (v5 + (1 : Int32)) fun x7 =>
  fX7_digestStreams_L5 C p1 E K n x6 x7)
def fX7_digestStreams (C : Xm) (a1 : Int64) (K : Int64 → Prop) : Prop :=
  jn (α := Int64 → Int32 → Prop) (fun (x9 : Int64) (x10 : Int32) =>
  K x9) fun j8 =>
  fX7_digestStreams_L5 C a1 j8 K 200 a1 (0 : Int32)
def fX7_digest_L31 (C : Xm) (E : Int64 → Int32 → Prop) (K : Int64 → Prop) : Nat → Int64 → Int32 → Prop
  | 0, _, _ => False
  | n + 1, v1, v3 =>
  if (C 64 1) ≤ v3 then
  (E v1 v3)
  else
  (inb v3 6 ∧
  bd ((((31 : Int64) * v1) + (Int32.toInt64 (C 65 (Int32.toNatClampNeg v3))))) fun x6 =>
  bd (v3 + (1 : Int32)) fun x7 =>
  fX7_digest_L31 C E K n x6 x7)
def fX7_digest_L110 (C : Xm) (E : Int64 → Int32 → Prop) (K : Int64 → Prop) : Nat → Int64 → Int32 → Prop
  | 0, _, _ => False
  | n + 1, v1, v3 =>
  if (C 1 1) ≤ v3 then
  (E v1 v3)
  else
  (inb v3 61 ∧
  bd ((((31 : Int64) * v1) + (Int32.toInt64 (C 2 (Int32.toNatClampNeg v3))))) fun x17 =>
  bd (v3 + (1 : Int32)) fun x18 =>
  fX7_digest_L110 C E K n x17 x18)
def fX7_digest (C : Xm) (K : Int64 → Prop) : Prop :=
  fX7_digestNodes C (1753 : Int64) fun r1 =>
  bd ((((31 : Int64) * r1) + (Int32.toInt64 (C 46 3)))) fun x2 =>
  fX7_digestStreams C x2 fun r3 =>
  jn (α := Int64 → Int32 → Prop) (fun (x9 : Int64) (x10 : Int32) =>
  fX4_encodedSize C fun r11 =>
  bd ((((31 : Int64) * x9) + (Int32.toInt64 r11))) fun x12 =>
  bd ((((31 : Int64) * x12) + (Int32.toInt64 (C 0 7)))) fun x13 =>
  bd ((((31 : Int64) * x13) + (Int32.toInt64 (C 0 8)))) fun x14 =>
  jn (α := Int64 → Int32 → Prop) (fun (x20 : Int64) (x21 : Int32) =>
  K (((31 : Int64) * x20) + (Int32.toInt64 (C 1 1)))) fun j19 =>
  fX7_digest_L110 C j19 K 200 x14 (0 : Int32)) fun j8 =>
  fX7_digest_L31 C j8 K 200 r3 (0 : Int32)
def fX8_within (a1 : Int32) (a2 : Int32) (a3 : Int32) (K : Int32 → Prop) : Prop :=
  jn (α := Int32 → Prop) (fun (x5 : Int32) =>
  bl x5 ∧
  K x5) fun j2 =>
  jn (α := Prop) (j2 (0 : Int32)) fun j1 =>
  if a1 < a2 then
  (j1)
  else
  (if a3 < a1 then
  (j1)
  else
  (j2 (1 : Int32)))
def fX8_append (N : Nm) (a1 : Int32) (K : Int32 → Nm → Prop) : Prop :=
  fX8_within a1 (32 : Int32) (126 : Int32) fun r1 =>
  if r1 = 0 then
  (K (-1002 : Int32) N)
  else
  (if (N.1 66 0) = (61 : Int32) then
  (K (-1004 : Int32) N)
  else
  (inb (N.1 66 0) 61 ∧
  bd (wrN N 67 (Int32.toNatClampNeg (N.1 66 0)) a1) fun N5 =>
  bd (wrN N5 66 0 ((N5.1 66 0) + (1 : Int32))) fun N6 =>
  K (N6.1 66 0) N6))
def fX8_clearBuffer (N : Nm) (K : Int32 → Nm → Prop) : Prop :=
  bd ((N.1 66 0)) fun x1 =>
  bd (wrN N 66 0 (0 : Int32)) fun N2 =>
  K x1 N2
def fX8_isJoined_L5 (N : Nm) (p1 : Int32) (p2 : Int32) (E : Int32 → Int32 → Prop) (K : Int32 → Prop) : Nat → Int32 → Int32 → Prop
  | 0, _, _ => False
  | n + 1, v3, v4 =>
  if (N.1 66 31) ≤ v4 then
  (E v3 v4)
  else
  (jn (α := Int32 → Prop) (fun (x10 : Int32) =>
  bd (v4 + (1 : Int32)) fun x11 =>
  fX8_isJoined_L5 N p1 p2 E K n x10 x11) fun j3 =>
  jn (α := Prop) (j3 (1 : Int32)) fun j2 =>
  if v3 = 0 then
  (inb v4 12 ∧
  jn (α := Prop) (j3 (0 : Int32)) fun j6 =>
  if (N.1 85 (Int32.toNatClampNeg v4)) = p1 then
  (inb v4 12 ∧
  if (N.1 86 (Int32.toNatClampNeg v4)) = p2 then
  (j2)
  else
  (j6))
  else
  (j6))
  else
  (j2))
def fX8_isJoined (N : Nm) (a1 : Int32) (a2 : Int32) (K : Int32 → Prop) : Prop :=
  jn (α := Int32 → Int32 → Prop) (fun (x13 : Int32) (x14 : Int32) =>
  bl x13 ∧
  K x13) fun j12 =>
  fX8_isJoined_L5 N a1 a2 j12 K 200 (0 : Int32) (0 : Int32)
def fX8_parse_L24  (E : Int32 → Int32 → Int32 → Int32 → Nm → Prop) (K : Nm → Prop) : Nat → Int32 → Int32 → Int32 → Int32 → Nm → Prop
  | 0, _, _, _, _, _ => False
  | n + 1, v1, v2, v3, v4, N =>
  if v4 = 0 then
  (E v1 v2 v3 v4 N)
  else
  (if (N.1 66 0) ≤ (N.1 66 36) then
  (E v1 v2 v3 v4 N)
  else
  (inb (N.1 66 36) 61 ∧
  bd ((N.1 67 (Int32.toNatClampNeg (N.1 66 36)))) fun x7 =>
  fX8_within x7 (48 : Int32) (57 : Int32) fun r8 =>
  jn (α := Int32 → Prop) (fun (x11 : Int32) =>
  jn (α := Int32 → Int32 → Int32 → Int32 → Nm → Prop) (fun (x57 : Int32) (x58 : Int32) (x59 : Int32) (x60 : Int32) (N61 : Nm) =>
  jn (α := Int32 → Prop) (fun (x64 : Int32) =>
  bd (wrN N61 66 36 ((N61.1 66 36) + x64)) fun N65 =>
  fX8_parse_L24 E K n x57 x58 x59 x60 N65) fun j62 =>
  if x60 = 0 then
  (j62 (0 : Int32))
  else
  (j62 (1 : Int32))) fun j12 =>
  if v1 = 0 then
  (fX8_within x11 (2 : Int32) (8 : Int32) fun r18 =>
  bd (wrN N 66 30 x11) fun N19 =>
  j12 (1 : Int32) v2 v3 r18 N19)
  else
  if v1 = 2 then
  (jn (α := Int32 → Prop) (fun (x24 : Int32) =>
  j12 (3 : Int32) x11 v3 x24 N) fun j21 =>
  jn (α := Prop) (j21 (0 : Int32)) fun j20 =>
  if x11 < 0 then
  (j20)
  else
  (if (N.1 66 30) ≤ x11 then
  (j20)
  else
  (j21 (1 : Int32))))
  else
  if v1 = 3 then
  (jn (α := Int32 → Prop) (fun (x31 : Int32) =>
  j12 (4 : Int32) v2 x11 x31 N) fun j26 =>
  jn (α := Prop) (j26 (0 : Int32)) fun j25 =>
  if x11 ≤ v2 then
  (j25)
  else
  (if (N.1 66 30) ≤ x11 then
  (j25)
  else
  (fX8_isJoined N v2 x11 fun r29 =>
  if r29 = 0 then
  (j26 (1 : Int32))
  else
  (j25))))
  else
  if v1 = 4 then
  (jn (α := Int32 → Prop) (fun (x34 : Int32) =>
  jn (α := Nm → Prop) (fun (N46 : Nm) =>
  j12 (5 : Int32) v2 v3 x34 N46) fun j35 =>
  if x34 = 0 then
  (j35 N)
  else
  (inb (N.1 66 31) 12 ∧
  bd (wrN N 85 (Int32.toNatClampNeg (N.1 66 31)) v2) fun N38 =>
  inb (N38.1 66 31) 12 ∧
  bd (wrN N38 86 (Int32.toNatClampNeg (N38.1 66 31)) v3) fun N40 =>
  inb (N40.1 66 31) 12 ∧
  bd (wrN N40 87 (Int32.toNatClampNeg (N40.1 66 31)) x11) fun N42 =>
  inb (N42.1 66 31) 12 ∧
  bd (wrN N42 88 (Int32.toNatClampNeg (N42.1 66 31)) (0 : Int32)) fun N44 =>
  bd (wrN N44 66 31 ((N44.1 66 31) + (1 : Int32))) fun N45 =>
  j35 N45)) fun j32 =>
  if x11 ≤ 0 then
  (j32 (0 : Int32))
  else
  (j32 (1 : Int32)))
  else
  jn (α := Prop) (jn (α := Int32 → Prop) (fun (x56 : Int32) =>
  j12 (2 : Int32) v2 v3 x56 N) fun j53 =>
  jn (α := Prop) (j53 (0 : Int32)) fun j52 =>
  if x7 = (59 : Int32) then
  (if (12 : Int32) ≤ (N.1 66 31) then
  (j52)
  else
  (j53 (1 : Int32)))
  else
  (j52)) fun j47 =>
  if v1 = (5 : Int32) then
  (if x11 ≤ (1 : Int32) then
  (j47)
  else
  (inb ((N.1 66 31) - (1 : Int32)) 12 ∧
  bd (wrN N 88 (Int32.toNatClampNeg ((N.1 66 31) - (1 : Int32))) x11) fun N51 =>
  j12 (1 : Int32) v2 v3 v4 N51))
  else
  (j47)) fun j9 =>
  if r8 = 0 then
  (j9 (-1 : Int32))
  else
  (j9 (x7 - (48 : Int32)))))
def fX8_parse (N : Nm) (K : Nm → Prop) : Prop :=
  bd (wrN N 66 30 (0 : Int32)) fun N1 =>
  bd (wrN N1 66 31 (0 : Int32)) fun N2 =>
  bd (wrN N2 66 36 (0 : Int32)) fun N3 =>
  jn (α := Int32 → Int32 → Int32 → Int32 → Nm → Prop) (fun (x67 : Int32) (x68 : Int32) (x69 : Int32) (x70 : Int32) (N71 : Nm) =>
  jn (α := Int32 → Prop) (fun (x78 : Int32) =>
  bl x78 ∧
  bd (wrN N71 66 37 x78) fun N79 =>
  K N79) fun j73 =>
  jn (α := Prop) (j73 (0 : Int32)) fun j72 =>
  if x70 = 0 then
  (j72)
  else
  (jn (α := Prop) (j73 (1 : Int32)) fun j75 =>
  if x67 = (1 : Int32) then
  (j75)
  else
  (if x67 = (5 : Int32) then
  (j75)
  else
  (j72)))) fun j66 =>
  fX8_parse_L24  j66 K 200 (0 : Int32) (0 : Int32) (0 : Int32) (1 : Int32) N3
def fX8_errorPosition (N : Nm) (K : Int32 → Nm → Prop) : Prop :=
  fX8_parse N fun N1 =>
  K (N1.1 66 36) N1
def fX8_forgetFlood_L2  (E : Int32 → Nm → Prop) (K : Nm → Prop) : Nat → Int32 → Nm → Prop
  | 0, _, _ => False
  | n + 1, v1, N =>
  if (8 : Int32) ≤ v1 then
  (E v1 N)
  else
  (inb v1 8 ∧
  bd (wrN N 73 (Int32.toNatClampNeg v1) (-1 : Int32)) fun N3 =>
  inb v1 8 ∧
  bd (wrN N3 74 (Int32.toNatClampNeg v1) (-2 : Int32)) fun N5 =>
  bd (v1 + (1 : Int32)) fun x6 =>
  fX8_forgetFlood_L2 E K n x6 N5)
def fX8_forgetFlood (N : Nm) (K : Nm → Prop) : Prop :=
  jn (α := Int32 → Nm → Prop) (fun (x8 : Int32) (N9 : Nm) =>
  bd (wrN N9 66 13 (0 : Int32)) fun N10 =>
  K N10) fun j7 =>
  fX8_forgetFlood_L2  j7 K 200 (0 : Int32) N
def fX8_loadNetwork_L33  (E : Int32 → Nm → Prop) (K : Int32 → Nm → Prop) : Nat → Int32 → Nm → Prop
  | 0, _, _ => False
  | n + 1, v1, N =>
  if (N.1 66 3) ≤ v1 then
  (E v1 N)
  else
  (inb v1 12 ∧
  inb v1 12 ∧
  bd (wrN N 68 (Int32.toNatClampNeg v1) (N.1 85 (Int32.toNatClampNeg v1))) fun N8 =>
  inb v1 12 ∧
  inb v1 12 ∧
  bd (wrN N8 69 (Int32.toNatClampNeg v1) (N8.1 86 (Int32.toNatClampNeg v1))) fun N11 =>
  inb v1 12 ∧
  inb v1 12 ∧
  bd (wrN N11 70 (Int32.toNatClampNeg v1) (N11.1 87 (Int32.toNatClampNeg v1))) fun N14 =>
  inb v1 12 ∧
  inb v1 12 ∧
  bd (wrN N14 71 (Int32.toNatClampNeg v1) (N14.1 88 (Int32.toNatClampNeg v1))) fun N17 =>
  bd (v1 + (1 : Int32)) fun x18 =>
  fX8_loadNetwork_L33 E K n x18 N17)
def fX8_loadNetwork_L97  (E : Int32 → Nm → Prop) (K : Int32 → Nm → Prop) : Nat → Int32 → Nm → Prop
  | 0, _, _ => False
  | n + 1, v1, N =>
  if (8 : Int32) ≤ v1 then
  (E v1 N)
  else
  (inb v1 8 ∧
  bd (wrN N 72 (Int32.toNatClampNeg v1) (1 : Int32)) fun N24 =>
  inb v1 8 ∧
  bd (wrN N24 75 (Int32.toNatClampNeg v1) (0 : Int32)) fun N26 =>
  inb v1 8 ∧
  bd (wrN N26 76 (Int32.toNatClampNeg v1) (0 : Int32)) fun N28 =>
  bd (v1 + (1 : Int32)) fun x29 =>
  fX8_loadNetwork_L97 E K n x29 N28)
def fX8_loadNetwork (N : Nm) (K : Int32 → Nm → Prop) : Prop :=
  fX8_parse N fun N1 =>
  if (N1.1 66 37) = 0 then
  (K (-1003 : Int32) N1)
  else
  (bd (wrN N1 66 2 (N1.1 66 30)) fun N3 =>
  bd (wrN N3 66 3 (N3.1 66 31)) fun N4 =>
  jn (α := Int32 → Nm → Prop) (fun (x20 : Int32) (N21 : Nm) =>
  jn (α := Int32 → Nm → Prop) (fun (x31 : Int32) (N32 : Nm) =>
  fX8_forgetFlood N32 fun N33 =>
  bd (wrN N33 66 14 (0 : Int32)) fun N34 =>
  bd (wrN N34 66 15 (0 : Int32)) fun N35 =>
  bd (wrN N35 66 20 (0 : Int32)) fun N36 =>
  bd (wrN N36 66 28 (0 : Int32)) fun N37 =>
  bd (wrN N37 66 0 (0 : Int32)) fun N38 =>
  K (N38.1 66 2) N38) fun j30 =>
  fX8_loadNetwork_L97  j30 K 200 (0 : Int32) N21) fun j19 =>
  fX8_loadNetwork_L33  j19 K 200 (0 : Int32) N4)
def fX8_setTransmissionLimit (N : Nm) (a1 : Int32) (K : Int32 → Nm → Prop) : Prop :=
  fX8_within a1 (1 : Int32) (4 : Int32) fun r1 =>
  if r1 = 0 then
  (K (-1002 : Int32) N)
  else
  (bd ((N.1 66 16)) fun x3 =>
  bd (wrN N 66 16 a1) fun N4 =>
  K x3 N4)
def fX8_setCaptureMargin (N : Nm) (a1 : Int32) (K : Int32 → Nm → Prop) : Prop :=
  fX8_within a1 (1 : Int32) (9 : Int32) fun r1 =>
  if r1 = 0 then
  (K (-1002 : Int32) N)
  else
  (bd ((N.1 66 17)) fun x3 =>
  bd (wrN N 66 17 a1) fun N4 =>
  K x3 N4)
def fX8_setSlotLimit (N : Nm) (a1 : Int32) (K : Int32 → Nm → Prop) : Prop :=
  fX8_within a1 (0 : Int32) (6 : Int32) fun r1 =>
  if r1 = 0 then
  (K (-1002 : Int32) N)
  else
  (bd ((N.1 66 18)) fun x3 =>
  bd (wrN N 66 18 a1) fun N4 =>
  K x3 N4)
def fX8_setTakeoverLimit (N : Nm) (a1 : Int32) (K : Int32 → Nm → Prop) : Prop :=
  fX8_within a1 (1 : Int32) (9 : Int32) fun r1 =>
  if r1 = 0 then
  (K (-1002 : Int32) N)
  else
  (bd ((N.1 66 19)) fun x3 =>
  bd (wrN N 66 19 a1) fun N4 =>
  K x3 N4)
def fX8_isNode (N : Nm) (a1 : Int32) (K : Int32 → Prop) : Prop :=
  fX8_within a1 (0 : Int32) ((N.1 66 2) - (1 : Int32)) fun r1 =>
  bl r1 ∧
  K r1
def fX8_setAlive (N : Nm) (a1 : Int32) (a2 : Int32) (K : Int32 → Nm → Prop) : Prop :=
  fX8_isNode N a1 fun r1 =>
  if r1 = 0 then
  (K (-1001 : Int32) N)
  else
  (inb a1 8 ∧
  bd ((N.1 72 (Int32.toNatClampNeg a1))) fun x4 =>
  jn (α := Int32 → Prop) (fun (x8 : Int32) =>
  inb a1 8 ∧
  bd (wrN N 76 (Int32.toNatClampNeg a1) x8) fun N10 =>
  inb a1 8 ∧
  bl a2 ∧
  bd (wrN N10 72 (Int32.toNatClampNeg a1) a2) fun N13 =>
  jn (α := Int32 → Prop) (fun (x16 : Int32) =>
  K x16 N13) fun j14 =>
  if x4 = 0 then
  (j14 (0 : Int32))
  else
  (j14 (1 : Int32))) fun j5 =>
  if x4 = a2 then
  (inb a1 8 ∧
  j5 (N.1 76 (Int32.toNatClampNeg a1)))
  else
  (j5 (0 : Int32)))
def fX8_transmits (N : Nm) (a1 : Int32) (a2 : Int32) (K : Int32 → Prop) : Prop :=
  inb a1 8 ∧
  bd (((a2 - (N.1 74 (Int32.toNatClampNeg a1))) - (1 : Int32))) fun x2 =>
  inb a1 8 ∧
  jn (α := Int32 → Prop) (fun (x10 : Int32) =>
  bl x10 ∧
  K x10) fun j5 =>
  jn (α := Prop) (j5 (0 : Int32)) fun j4 =>
  if (N.1 74 (Int32.toNatClampNeg a1)) = (-2 : Int32) then
  (j4)
  else
  (if x2 < 0 then
  (j4)
  else
  (if (irm x2 (2 : Int32)) = 0 then
  (if (N.1 66 16) ≤ (x2 / (2 : Int32)) then
  (j4)
  else
  (j5 (1 : Int32)))
  else
  (j4)))
def fX8_lastSlot_L4 (N : Nm) (E : Int32 → Int32 → Prop) (K : Int32 → Prop) : Nat → Int32 → Int32 → Prop
  | 0, _, _ => False
  | n + 1, v1, v2 =>
  if (N.1 66 2) ≤ v2 then
  (E v1 v2)
  else
  (inb v2 8 ∧
  jn (α := Int32 → Prop) (fun (x6 : Int32) =>
  jn (α := Int32 → Prop) (fun (x9 : Int32) =>
  bd (v2 + (1 : Int32)) fun x10 =>
  fX8_lastSlot_L4 N E K n x9 x10) fun j7 =>
  if x6 ≤ v1 then
  (j7 v1)
  else
  (j7 x6)) fun j3 =>
  if (N.1 74 (Int32.toNatClampNeg v2)) = (-2 : Int32) then
  (j3 (-1 : Int32))
  else
  (inb v2 8 ∧
  j3 (((N.1 74 (Int32.toNatClampNeg v2)) + ((2 : Int32) * (N.1 66 16))) - (1 : Int32))))
def fX8_lastSlot (N : Nm) (K : Int32 → Prop) : Prop :=
  jn (α := Int32 → Int32 → Prop) (fun (x12 : Int32) (x13 : Int32) =>
  K x12) fun j11 =>
  fX8_lastSlot_L4 N j11 K 200 (-1 : Int32) (0 : Int32)
def fX8_heard_L2 (p1 : Int32) (p2 : Int32) (E : Int32 → Nm → Prop) (K : Int32 → Nm → Prop) : Nat → Int32 → Nm → Prop
  | 0, _, _ => False
  | n + 1, v3, N =>
  if (8 : Int32) ≤ v3 then
  (E v3 N)
  else
  (inb v3 8 ∧
  bd (wrN N 89 (Int32.toNatClampNeg v3) (0 : Int32)) fun N3 =>
  bd (v3 + (1 : Int32)) fun x4 =>
  fX8_heard_L2 p1 p2 E K n x4 N3)
def fX8_heard_L23 (p1 : Int32) (p2 : Int32) (E : Int32 → Nm → Prop) (K : Int32 → Nm → Prop) : Nat → Int32 → Nm → Prop
  | 0, _, _ => False
  | n + 1, v3, N =>
  if (N.1 66 3) ≤ v3 then
  (E v3 N)
  else
  (inb v3 12 ∧
  jn (α := Int32 → Prop) (fun (x16 : Int32) =>
  inb v3 12 ∧
  jn (α := Int32 → Prop) (fun (x24 : Int32) =>
  jn (α := Nm → Prop) (fun (N41 : Nm) =>
  bd (v3 + (1 : Int32)) fun x42 =>
  fX8_heard_L23 p1 p2 E K n x42 N41) fun j25 =>
  if x16 = (-1 : Int32) then
  (j25 N)
  else
  (if x24 = 0 then
  (fX8_transmits N x16 p2 fun r28 =>
  if r28 = 0 then
  (j25 N)
  else
  (inb x16 8 ∧
  bd ((N.1 73 (Int32.toNatClampNeg x16))) fun x31 =>
  inb v3 12 ∧
  inb x31 8 ∧
  jn (α := Int32 → Prop) (fun (x38 : Int32) =>
  inb x31 8 ∧
  bd (wrN N 89 (Int32.toNatClampNeg x31) x38) fun N40 =>
  j25 N40) fun j34 =>
  if (N.1 70 (Int32.toNatClampNeg v3)) ≤ (N.1 89 (Int32.toNatClampNeg x31)) then
  (inb x31 8 ∧
  j34 (N.1 89 (Int32.toNatClampNeg x31)))
  else
  (inb v3 12 ∧
  j34 (N.1 70 (Int32.toNatClampNeg v3)))))
  else
  (j25 N))) fun j19 =>
  jn (α := Prop) (j19 (0 : Int32)) fun j18 =>
  if (N.1 71 (Int32.toNatClampNeg v3)) ≤ 0 then
  (j18)
  else
  (inb v3 12 ∧
  ¬ (N.1 71 (Int32.toNatClampNeg v3)) = 0 ∧
  if (irm (p2 + (1 : Int32)) (N.1 71 (Int32.toNatClampNeg v3))) = 0 then
  (j19 (1 : Int32))
  else
  (j18))) fun j10 =>
  if (N.1 68 (Int32.toNatClampNeg v3)) = p1 then
  (inb v3 12 ∧
  j10 (N.1 69 (Int32.toNatClampNeg v3)))
  else
  (inb v3 12 ∧
  if (N.1 69 (Int32.toNatClampNeg v3)) = p1 then
  (inb v3 12 ∧
  j10 (N.1 68 (Int32.toNatClampNeg v3)))
  else
  (j10 (-1 : Int32))))
def fX8_heard_L187 (N : Nm) (p1 : Int32) (p2 : Int32) (E : Int32 → Int32 → Int32 → Int32 → Prop) (K : Int32 → Nm → Prop) : Nat → Int32 → Int32 → Int32 → Int32 → Prop
  | 0, _, _, _, _ => False
  | n + 1, v3, v4, v5, v6 =>
  if (8 : Int32) ≤ v6 then
  (E v3 v4 v5 v6)
  else
  (inb v6 8 ∧
  jn (α := Int32 → Int32 → Int32 → Prop) (fun (x57 : Int32) (x58 : Int32) (x59 : Int32) =>
  bd (v6 + (1 : Int32)) fun x60 =>
  fX8_heard_L187 N p1 p2 E K n x57 x58 x59 x60) fun j48 =>
  if (N.1 89 (Int32.toNatClampNeg v6)) ≤ v4 then
  (inb v6 8 ∧
  jn (α := Int32 → Prop) (fun (x54 : Int32) =>
  j48 v3 v4 x54) fun j51 =>
  if (N.1 89 (Int32.toNatClampNeg v6)) ≤ v5 then
  (j51 v5)
  else
  (inb v6 8 ∧
  j51 (N.1 89 (Int32.toNatClampNeg v6))))
  else
  (inb v6 8 ∧
  bd ((N.1 89 (Int32.toNatClampNeg v6))) fun x56 =>
  j48 v6 x56 v4))
def fX8_heard (N : Nm) (a1 : Int32) (a2 : Int32) (K : Int32 → Nm → Prop) : Prop :=
  jn (α := Int32 → Nm → Prop) (fun (x6 : Int32) (N7 : Nm) =>
  jn (α := Int32 → Nm → Prop) (fun (x44 : Int32) (N45 : Nm) =>
  jn (α := Int32 → Int32 → Int32 → Int32 → Prop) (fun (x62 : Int32) (x63 : Int32) (x64 : Int32) (x65 : Int32) =>
  jn (α := Int32 → Prop) (fun (x72 : Int32) =>
  K x72 N45) fun j67 =>
  jn (α := Prop) (j67 (-1 : Int32)) fun j66 =>
  if x62 = (-1 : Int32) then
  (j66)
  else
  (jn (α := Prop) (j67 x62) fun j69 =>
  if x64 = 0 then
  (j69)
  else
  (if (x63 - x64) < (N45.1 66 17) then
  (j66)
  else
  (j69)))) fun j61 =>
  fX8_heard_L187 N45 a1 a2 j61 K 200 (-1 : Int32) (0 : Int32) (0 : Int32) (0 : Int32)) fun j43 =>
  fX8_heard_L23 a1 a2 j43 K 200 (0 : Int32) N7) fun j5 =>
  fX8_heard_L2 a1 a2 j5 K 200 (0 : Int32) N
def fX8_holders_L4 (N : Nm) (E : Int32 → Int32 → Prop) (K : Int32 → Prop) : Nat → Int32 → Int32 → Prop
  | 0, _, _ => False
  | n + 1, v1, v2 =>
  if (N.1 66 2) ≤ v2 then
  (E v1 v2)
  else
  (inb v2 8 ∧
  jn (α := Int32 → Prop) (fun (x5 : Int32) =>
  bd ((v1 + x5)) fun x6 =>
  bd (v2 + (1 : Int32)) fun x7 =>
  fX8_holders_L4 N E K n x6 x7) fun j3 =>
  if (N.1 73 (Int32.toNatClampNeg v2)) = (-1 : Int32) then
  (j3 (0 : Int32))
  else
  (j3 (1 : Int32)))
def fX8_holders (N : Nm) (K : Int32 → Prop) : Prop :=
  jn (α := Int32 → Int32 → Prop) (fun (x9 : Int32) (x10 : Int32) =>
  K x9) fun j8 =>
  fX8_holders_L4 N j8 K 200 (0 : Int32) (0 : Int32)
def fX8_floodNow_L6 (p1 : Int32) (E : Int32 → Nm → Prop) (K : Int32 → Nm → Prop) : Nat → Int32 → Nm → Prop
  | 0, _, _ => False
  | n + 1, v2, N =>
  if (N.1 66 2) ≤ v2 then
  (E v2 N)
  else
  (jn (α := Nm → Prop) (fun (N9 : Nm) =>
  bd (v2 + (1 : Int32)) fun x10 =>
  fX8_floodNow_L6 p1 E K n x10 N9) fun j3 =>
  if ((p1 >>> (v2 &&& 31)) &&& (1 : Int32)) = (1 : Int32) then
  (inb v2 8 ∧
  bd (wrN N 73 (Int32.toNatClampNeg v2) v2) fun N6 =>
  inb v2 8 ∧
  bd (wrN N6 74 (Int32.toNatClampNeg v2) (-1 : Int32)) fun N8 =>
  j3 N8)
  else
  (j3 N))
def fX8_floodNow_L55 (p1 : Int32) (p2 : Int32) (E : Int32 → Nm → Prop) (K : Int32 → Nm → Prop) : Nat → Int32 → Nm → Prop
  | 0, _, _ => False
  | n + 1, v3, N =>
  if (N.1 66 2) ≤ v3 then
  (E v3 N)
  else
  (inb v3 8 ∧
  jn (α := Int32 → Nm → Prop) (fun (x25 : Int32) (N26 : Nm) =>
  inb v3 8 ∧
  bd (wrN N26 90 (Int32.toNatClampNeg v3) x25) fun N28 =>
  bd (v3 + (1 : Int32)) fun x29 =>
  fX8_floodNow_L55 p1 p2 E K n x29 N28) fun j19 =>
  jn (α := Prop) (j19 (-1 : Int32) N) fun j18 =>
  if (N.1 72 (Int32.toNatClampNeg v3)) = 0 then
  (j18)
  else
  (inb v3 8 ∧
  if (N.1 74 (Int32.toNatClampNeg v3)) = (-2 : Int32) then
  (fX8_heard N v3 p2 fun r23 N24 =>
  j19 r23 N24)
  else
  (j18)))
def fX8_floodNow_L107 (p1 : Int32) (p2 : Int32) (E : Int32 → Nm → Prop) (K : Int32 → Nm → Prop) : Nat → Int32 → Nm → Prop
  | 0, _, _ => False
  | n + 1, v3, N =>
  if (N.1 66 2) ≤ v3 then
  (E v3 N)
  else
  (inb v3 8 ∧
  fX8_transmits N v3 p2 fun r35 =>
  jn (α := Int32 → Prop) (fun (x38 : Int32) =>
  inb v3 8 ∧
  bd (wrN N 75 (Int32.toNatClampNeg v3) ((N.1 75 (Int32.toNatClampNeg v3)) + x38)) fun N40 =>
  bd (v3 + (1 : Int32)) fun x41 =>
  fX8_floodNow_L107 p1 p2 E K n x41 N40) fun j36 =>
  if r35 = 0 then
  (j36 (0 : Int32))
  else
  (j36 (1 : Int32)))
def fX8_floodNow_L146 (p1 : Int32) (p2 : Int32) (E : Int32 → Nm → Prop) (K : Int32 → Nm → Prop) : Nat → Int32 → Nm → Prop
  | 0, _, _ => False
  | n + 1, v3, N =>
  if (N.1 66 2) ≤ v3 then
  (E v3 N)
  else
  (inb v3 8 ∧
  jn (α := Nm → Prop) (fun (N54 : Nm) =>
  bd (v3 + (1 : Int32)) fun x55 =>
  fX8_floodNow_L146 p1 p2 E K n x55 N54) fun j47 =>
  if (N.1 90 (Int32.toNatClampNeg v3)) = (-1 : Int32) then
  (j47 N)
  else
  (inb v3 8 ∧
  inb v3 8 ∧
  bd (wrN N 73 (Int32.toNatClampNeg v3) (N.1 90 (Int32.toNatClampNeg v3))) fun N51 =>
  inb v3 8 ∧
  bd (wrN N51 74 (Int32.toNatClampNeg v3) p2) fun N53 =>
  j47 N53))
def fX8_floodNow_L45 (p1 : Int32) (E : Int32 → Nm → Prop) (K : Int32 → Nm → Prop) : Nat → Int32 → Nm → Prop
  | 0, _, _ => False
  | n + 1, v2, N =>
  fX8_lastSlot N fun r14 =>
  if r14 < v2 then
  (E v2 N)
  else
  (jn (α := Int32 → Nm → Prop) (fun (x31 : Int32) (N32 : Nm) =>
  jn (α := Int32 → Nm → Prop) (fun (x43 : Int32) (N44 : Nm) =>
  jn (α := Int32 → Nm → Prop) (fun (x57 : Int32) (N58 : Nm) =>
  bd (v2 + (1 : Int32)) fun x59 =>
  fX8_floodNow_L45 p1 E K n x59 N58) fun j56 =>
  fX8_floodNow_L146 p1 v2 j56 K 200 (0 : Int32) N44) fun j42 =>
  fX8_floodNow_L107 p1 v2 j42 K 200 (0 : Int32) N32) fun j30 =>
  fX8_floodNow_L55 p1 v2 j30 K 200 (0 : Int32) N)
def fX8_floodNow (N : Nm) (a1 : Int32) (K : Int32 → Nm → Prop) : Prop :=
  fX8_forgetFlood N fun N1 =>
  jn (α := Int32 → Nm → Prop) (fun (x12 : Int32) (N13 : Nm) =>
  jn (α := Int32 → Nm → Prop) (fun (x61 : Int32) (N62 : Nm) =>
  bd (wrN N62 66 13 x61) fun N63 =>
  fX8_holders N63 fun r64 =>
  K r64 N63) fun j60 =>
  fX8_floodNow_L45 a1 j60 K 200 (0 : Int32) N13) fun j11 =>
  fX8_floodNow_L6 a1 j11 K 200 (0 : Int32) N1
def fX8_flood_L22 (N : Nm) (p1 : Int32) (E : Int32 → Int32 → Prop) (K : Int32 → Nm → Prop) : Nat → Int32 → Int32 → Prop
  | 0, _, _ => False
  | n + 1, v2, v3 =>
  if (N.1 66 2) ≤ v3 then
  (E v2 v3)
  else
  (jn (α := Int32 → Prop) (fun (x12 : Int32) =>
  bd (v3 + (1 : Int32)) fun x13 =>
  fX8_flood_L22 N p1 E K n x12 x13) fun j6 =>
  jn (α := Prop) (j6 (0 : Int32)) fun j5 =>
  if v2 = 0 then
  (j5)
  else
  (jn (α := Prop) (j6 (1 : Int32)) fun j8 =>
  if ((p1 >>> (v3 &&& 31)) &&& (1 : Int32)) = 0 then
  (j8)
  else
  (inb v3 8 ∧
  if (N.1 72 (Int32.toNatClampNeg v3)) = 0 then
  (j5)
  else
  (j8))))
def fX8_flood (N : Nm) (a1 : Int32) (K : Int32 → Nm → Prop) : Prop :=
  jn (α := Prop) (K (-1002 : Int32) N) fun j1 =>
  if a1 ≤ 0 then
  (j1)
  else
  (if a1 < ((1 : Int32) <<< ((N.1 66 2) &&& 31)) then
  (jn (α := Int32 → Int32 → Prop) (fun (x15 : Int32) (x16 : Int32) =>
  jn (α := Int32 → Nm → Prop) (fun (x21 : Int32) (N22 : Nm) =>
  K x21 N22) fun j17 =>
  if x15 = 0 then
  (j17 (-1003 : Int32) N)
  else
  (fX8_floodNow N a1 fun r19 N20 =>
  j17 r19 N20)) fun j14 =>
  fX8_flood_L22 N a1 j14 K 200 (1 : Int32) (0 : Int32))
  else
  (j1))
def fX8_packetAt (N : Nm) (a1 : Int32) (K : Int32 → Prop) : Prop :=
  fX8_isNode N a1 fun r1 =>
  jn (α := Int32 → Prop) (fun (x5 : Int32) =>
  K x5) fun j2 =>
  if r1 = 0 then
  (j2 (-1001 : Int32))
  else
  (inb a1 8 ∧
  j2 (N.1 73 (Int32.toNatClampNeg a1)))
def fX8_hops (N : Nm) (a1 : Int32) (K : Int32 → Prop) : Prop :=
  inb a1 8 ∧
  jn (α := Int32 → Prop) (fun (x5 : Int32) =>
  K x5) fun j2 =>
  if (N.1 74 (Int32.toNatClampNeg a1)) = (-2 : Int32) then
  (j2 (-1 : Int32))
  else
  (inb a1 8 ∧
  j2 ((N.1 74 (Int32.toNatClampNeg a1)) + (1 : Int32)))
def fX8_hopCount (N : Nm) (a1 : Int32) (K : Int32 → Prop) : Prop :=
  fX8_isNode N a1 fun r1 =>
  jn (α := Int32 → Prop) (fun (x5 : Int32) =>
  K x5) fun j2 =>
  if r1 = 0 then
  (j2 (-1001 : Int32))
  else
  (fX8_hops N a1 fun r4 =>
  j2 r4)
def fX8_floodLength (N : Nm) (K : Int32 → Prop) : Prop :=
  K (N.1 66 13)
def fX8_addStream (N : Nm) (a1 : Int32) (a2 : Int32) (a3 : Int32) (K : Int32 → Nm → Prop) : Prop :=
  fX8_isNode N a1 fun r1 =>
  if r1 = 0 then
  (K (-1001 : Int32) N)
  else
  (fX8_within a2 (1 : Int32) (9 : Int32) fun r3 =>
  jn (α := Prop) (K (-1002 : Int32) N) fun j4 =>
  if r3 = 0 then
  (j4)
  else
  (fX8_within a3 (0 : Int32) (99 : Int32) fun r6 =>
  if r6 = 0 then
  (j4)
  else
  (if (N.1 66 20) = (6 : Int32) then
  (K (-1004 : Int32) N)
  else
  (inb (N.1 66 20) 6 ∧
  bd (wrN N 77 (Int32.toNatClampNeg (N.1 66 20)) a1) fun N10 =>
  inb (N10.1 66 20) 6 ∧
  bd (wrN N10 78 (Int32.toNatClampNeg (N10.1 66 20)) a2) fun N12 =>
  inb (N12.1 66 20) 6 ∧
  bd (wrN N12 79 (Int32.toNatClampNeg (N12.1 66 20)) a3) fun N14 =>
  inb (N14.1 66 20) 6 ∧
  bd (wrN N14 80 (Int32.toNatClampNeg (N14.1 66 20)) (0 : Int32)) fun N16 =>
  inb (N16.1 66 20) 6 ∧
  bd (wrN N16 82 (Int32.toNatClampNeg (N16.1 66 20)) (0 : Int32)) fun N18 =>
  inb (N18.1 66 20) 6 ∧
  bd (wrN N18 83 (Int32.toNatClampNeg (N18.1 66 20)) (0 : Int32)) fun N20 =>
  bd (wrN N20 66 20 ((N20.1 66 20) + (1 : Int32))) fun N21 =>
  K ((N21.1 66 20) - (1 : Int32)) N21))))
def fX8_isStream (N : Nm) (a1 : Int32) (K : Int32 → Prop) : Prop :=
  fX8_within a1 (0 : Int32) ((N.1 66 20) - (1 : Int32)) fun r1 =>
  bl r1 ∧
  K r1
def fX8_removeStream_L118 (p1 : Int32) (p2 : Int32) (E : Int32 → Nm → Prop) (K : Int32 → Nm → Prop) : Nat → Int32 → Nm → Prop
  | 0, _, _ => False
  | n + 1, v3, N =>
  if (4 : Int32) ≤ v3 then
  (E v3 N)
  else
  (inb ((((4 : Int32) * p2) + (4 : Int32)) + v3) 24 ∧
  inb (((4 : Int32) * p2) + v3) 24 ∧
  bd (wrN N 81 (Int32.toNatClampNeg (((4 : Int32) * p2) + v3)) (N.1 81 (Int32.toNatClampNeg ((((4 : Int32) * p2) + (4 : Int32)) + v3)))) fun N26 =>
  bd (v3 + (1 : Int32)) fun x27 =>
  fX8_removeStream_L118 p1 p2 E K n x27 N26)
def fX8_removeStream_L24 (p1 : Int32) (E : Int32 → Nm → Prop) (K : Int32 → Nm → Prop) : Nat → Int32 → Nm → Prop
  | 0, _, _ => False
  | n + 1, v2, N =>
  if (N.1 66 20) ≤ v2 then
  (E v2 N)
  else
  (inb (v2 + (1 : Int32)) 6 ∧
  inb v2 6 ∧
  bd (wrN N 77 (Int32.toNatClampNeg v2) (N.1 77 (Int32.toNatClampNeg (v2 + (1 : Int32))))) fun N7 =>
  inb (v2 + (1 : Int32)) 6 ∧
  inb v2 6 ∧
  bd (wrN N7 78 (Int32.toNatClampNeg v2) (N7.1 78 (Int32.toNatClampNeg (v2 + (1 : Int32))))) fun N10 =>
  inb (v2 + (1 : Int32)) 6 ∧
  inb v2 6 ∧
  bd (wrN N10 79 (Int32.toNatClampNeg v2) (N10.1 79 (Int32.toNatClampNeg (v2 + (1 : Int32))))) fun N13 =>
  inb (v2 + (1 : Int32)) 6 ∧
  inb v2 6 ∧
  bd (wrN N13 80 (Int32.toNatClampNeg v2) (N13.1 80 (Int32.toNatClampNeg (v2 + (1 : Int32))))) fun N16 =>
  inb (v2 + (1 : Int32)) 6 ∧
  inb v2 6 ∧
  bd (wrN N16 82 (Int32.toNatClampNeg v2) (N16.1 82 (Int32.toNatClampNeg (v2 + (1 : Int32))))) fun N19 =>
  inb (v2 + (1 : Int32)) 6 ∧
  inb v2 6 ∧
  bd (wrN N19 83 (Int32.toNatClampNeg v2) (N19.1 83 (Int32.toNatClampNeg (v2 + (1 : Int32))))) fun N22 =>
  jn (α := Int32 → Nm → Prop) (fun (x29 : Int32) (N30 : Nm) =>
  bd (v2 + (1 : Int32)) fun x31 =>
  fX8_removeStream_L24 p1 E K n x31 N30) fun j28 =>
  fX8_removeStream_L118 p1 v2 j28 K 200 (0 : Int32) N22)
def fX8_removeStream (N : Nm) (a1 : Int32) (K : Int32 → Nm → Prop) : Prop :=
  fX8_isStream N a1 fun r1 =>
  if r1 = 0 then
  (K (-1001 : Int32) N)
  else
  (bd (wrN N 66 20 ((N.1 66 20) - (1 : Int32))) fun N3 =>
  jn (α := Int32 → Nm → Prop) (fun (x33 : Int32) (N34 : Nm) =>
  bd (wrN N34 66 28 (0 : Int32)) fun N35 =>
  K (N35.1 66 20) N35) fun j32 =>
  fX8_removeStream_L24 a1 j32 K 200 a1 N3)
def fX8_waitingPackets (N : Nm) (a1 : Int32) (K : Int32 → Prop) : Prop :=
  fX8_isStream N a1 fun r1 =>
  jn (α := Int32 → Prop) (fun (x5 : Int32) =>
  K x5) fun j2 =>
  if r1 = 0 then
  (j2 (-1001 : Int32))
  else
  (inb a1 6 ∧
  j2 (N.1 80 (Int32.toNatClampNeg a1)))
def fX8_deliveredPackets (N : Nm) (a1 : Int32) (K : Int32 → Prop) : Prop :=
  fX8_isStream N a1 fun r1 =>
  jn (α := Int32 → Prop) (fun (x5 : Int32) =>
  K x5) fun j2 =>
  if r1 = 0 then
  (j2 (-1001 : Int32))
  else
  (inb a1 6 ∧
  j2 (N.1 82 (Int32.toNatClampNeg a1)))
def fX8_lostPackets (N : Nm) (a1 : Int32) (K : Int32 → Prop) : Prop :=
  fX8_isStream N a1 fun r1 =>
  jn (α := Int32 → Prop) (fun (x5 : Int32) =>
  K x5) fun j2 =>
  if r1 = 0 then
  (j2 (-1001 : Int32))
  else
  (inb a1 6 ∧
  j2 (N.1 83 (Int32.toNatClampNeg a1)))
def fX8_generate_L2  (E : Int32 → Nm → Prop) (K : Nm → Prop) : Nat → Int32 → Nm → Prop
  | 0, _, _ => False
  | n + 1, v1, N =>
  if (N.1 66 20) ≤ v1 then
  (E v1 N)
  else
  (inb v1 6 ∧
  jn (α := Nm → Prop) (fun (N20 : Nm) =>
  bd (v1 + (1 : Int32)) fun x21 =>
  fX8_generate_L2 E K n x21 N20) fun j3 =>
  if (N.1 66 15) < (N.1 79 (Int32.toNatClampNeg v1)) then
  (j3 N)
  else
  (inb v1 6 ∧
  inb v1 6 ∧
  ¬ (N.1 78 (Int32.toNatClampNeg v1)) = 0 ∧
  if (irm ((N.1 66 15) - (N.1 79 (Int32.toNatClampNeg v1))) (N.1 78 (Int32.toNatClampNeg v1))) = 0 then
  (inb v1 6 ∧
  if (N.1 80 (Int32.toNatClampNeg v1)) = (4 : Int32) then
  (inb v1 6 ∧
  inb v1 6 ∧
  bd (wrN N 83 (Int32.toNatClampNeg v1) ((N.1 83 (Int32.toNatClampNeg v1)) + (1 : Int32))) fun N19 =>
  j3 N19)
  else
  (inb v1 6 ∧
  inb (((4 : Int32) * v1) + (N.1 80 (Int32.toNatClampNeg v1))) 24 ∧
  bd (wrN N 81 (Int32.toNatClampNeg (((4 : Int32) * v1) + (N.1 80 (Int32.toNatClampNeg v1)))) (N.1 66 15)) fun N13 =>
  inb v1 6 ∧
  inb v1 6 ∧
  bd (wrN N13 80 (Int32.toNatClampNeg v1) ((N13.1 80 (Int32.toNatClampNeg v1)) + (1 : Int32))) fun N16 =>
  j3 N16))
  else
  (j3 N)))
def fX8_generate (N : Nm) (K : Nm → Prop) : Prop :=
  jn (α := Int32 → Nm → Prop) (fun (x23 : Int32) (N24 : Nm) =>
  K N24) fun j22 =>
  fX8_generate_L2  j22 K 200 (0 : Int32) N
def fX8_isScheduled_L4 (N : Nm) (p1 : Int32) (E : Int32 → Int32 → Prop) (K : Int32 → Prop) : Nat → Int32 → Int32 → Prop
  | 0, _, _ => False
  | n + 1, v2, v3 =>
  if (N.1 66 28) ≤ v3 then
  (E v2 v3)
  else
  (jn (α := Int32 → Prop) (fun (x7 : Int32) =>
  bd (v3 + (1 : Int32)) fun x8 =>
  fX8_isScheduled_L4 N p1 E K n x7 x8) fun j3 =>
  jn (α := Prop) (j3 (1 : Int32)) fun j2 =>
  if v2 = 0 then
  (inb v3 6 ∧
  if (N.1 84 (Int32.toNatClampNeg v3)) = p1 then
  (j2)
  else
  (j3 (0 : Int32)))
  else
  (j2))
def fX8_isScheduled (N : Nm) (a1 : Int32) (K : Int32 → Prop) : Prop :=
  jn (α := Int32 → Int32 → Prop) (fun (x10 : Int32) (x11 : Int32) =>
  bl x10 ∧
  K x10) fun j9 =>
  fX8_isScheduled_L4 N a1 j9 K 200 (0 : Int32) (0 : Int32)
def fX8_buildSchedule_L26 (N : Nm) (p1 : Int32) (E : Int32 → Int32 → Prop) (K : Nm → Prop) : Nat → Int32 → Int32 → Prop
  | 0, _, _ => False
  | n + 1, v2, v3 =>
  if (N.1 66 20) ≤ v3 then
  (E v2 v3)
  else
  (inb v3 6 ∧
  jn (α := Int32 → Prop) (fun (x11 : Int32) =>
  jn (α := Int32 → Prop) (fun (x20 : Int32) =>
  bd (v3 + (1 : Int32)) fun x21 =>
  fX8_buildSchedule_L26 N p1 E K n x20 x21) fun j13 =>
  jn (α := Prop) (j13 v2) fun j12 =>
  if x11 = 0 then
  (j12)
  else
  (jn (α := Prop) (j13 v3) fun j15 =>
  if v2 = (-1 : Int32) then
  (j15)
  else
  (inb ((4 : Int32) * v3) 24 ∧
  inb ((4 : Int32) * v2) 24 ∧
  if (N.1 81 (Int32.toNatClampNeg ((4 : Int32) * v2))) ≤ (N.1 81 (Int32.toNatClampNeg ((4 : Int32) * v3))) then
  (j12)
  else
  (j15)))) fun j7 =>
  jn (α := Prop) (j7 (0 : Int32)) fun j6 =>
  if (N.1 80 (Int32.toNatClampNeg v3)) ≤ 0 then
  (j6)
  else
  (fX8_isScheduled N v3 fun r9 =>
  if r9 = 0 then
  (j7 (1 : Int32))
  else
  (j6)))
def fX8_buildSchedule_L7  (E : Int32 → Nm → Prop) (K : Nm → Prop) : Nat → Int32 → Nm → Prop
  | 0, _, _ => False
  | n + 1, v1, N =>
  if v1 = 0 then
  (E v1 N)
  else
  (if (N.1 66 18) ≤ (N.1 66 28) then
  (E v1 N)
  else
  (jn (α := Int32 → Int32 → Prop) (fun (x23 : Int32) (x24 : Int32) =>
  jn (α := Int32 → Prop) (fun (x27 : Int32) =>
  jn (α := Nm → Prop) (fun (N33 : Nm) =>
  fX8_buildSchedule_L7 E K n x27 N33) fun j28 =>
  if x27 = 0 then
  (j28 N)
  else
  (inb (N.1 66 28) 6 ∧
  bd (wrN N 84 (Int32.toNatClampNeg (N.1 66 28)) x23) fun N31 =>
  bd (wrN N31 66 28 ((N31.1 66 28) + (1 : Int32))) fun N32 =>
  j28 N32)) fun j25 =>
  if x23 = (-1 : Int32) then
  (j25 (0 : Int32))
  else
  (j25 (1 : Int32))) fun j22 =>
  fX8_buildSchedule_L26 N v1 j22 K 200 (-1 : Int32) (0 : Int32)))
def fX8_buildSchedule (N : Nm) (K : Nm → Prop) : Prop :=
  bd (wrN N 66 28 (0 : Int32)) fun N1 =>
  jn (α := Int32 → Nm → Prop) (fun (x35 : Int32) (N36 : Nm) =>
  K N36) fun j34 =>
  fX8_buildSchedule_L7  j34 K 200 (1 : Int32) N1
def fX8_takePacket_L2 (p1 : Int32) (E : Int32 → Nm → Prop) (K : Nm → Prop) : Nat → Int32 → Nm → Prop
  | 0, _, _ => False
  | n + 1, v2, N =>
  inb p1 6 ∧
  if (N.1 80 (Int32.toNatClampNeg p1)) ≤ v2 then
  (E v2 N)
  else
  (inb (((4 : Int32) * p1) + v2) 24 ∧
  inb ((((4 : Int32) * p1) + v2) - (1 : Int32)) 24 ∧
  bd (wrN N 81 (Int32.toNatClampNeg ((((4 : Int32) * p1) + v2) - (1 : Int32))) (N.1 81 (Int32.toNatClampNeg (((4 : Int32) * p1) + v2)))) fun N5 =>
  bd (v2 + (1 : Int32)) fun x6 =>
  fX8_takePacket_L2 p1 E K n x6 N5)
def fX8_takePacket (N : Nm) (a1 : Int32) (K : Nm → Prop) : Prop :=
  jn (α := Int32 → Nm → Prop) (fun (x8 : Int32) (N9 : Nm) =>
  inb a1 6 ∧
  inb a1 6 ∧
  bd (wrN N9 80 (Int32.toNatClampNeg a1) ((N9.1 80 (Int32.toNatClampNeg a1)) - (1 : Int32))) fun N12 =>
  K N12) fun j7 =>
  fX8_takePacket_L2 a1 j7 K 200 (1 : Int32) N
def fX8_spreadSchedule_L36 (p1 : Int32) (E : Int32 → Nm → Prop) (K : Nm → Prop) : Nat → Int32 → Nm → Prop
  | 0, _, _ => False
  | n + 1, v2, N =>
  if (N.1 66 2) ≤ v2 then
  (E v2 N)
  else
  (jn (α := Int32 → Prop) (fun (x18 : Int32) =>
  inb v2 8 ∧
  bl x18 ∧
  bd (wrN N 91 (Int32.toNatClampNeg v2) x18) fun N21 =>
  inb v2 8 ∧
  jn (α := Int32 → Prop) (fun (x29 : Int32) =>
  inb v2 8 ∧
  bd (wrN N21 76 (Int32.toNatClampNeg v2) x29) fun N31 =>
  bd (v2 + (1 : Int32)) fun x32 =>
  fX8_spreadSchedule_L36 p1 E K n x32 N31) fun j24 =>
  jn (α := Prop) (j24 (0 : Int32)) fun j23 =>
  if (N21.1 91 (Int32.toNatClampNeg v2)) = 0 then
  (inb v2 8 ∧
  if (N21.1 72 (Int32.toNatClampNeg v2)) = 0 then
  (j23)
  else
  (inb v2 8 ∧
  j24 ((N21.1 76 (Int32.toNatClampNeg v2)) + (1 : Int32))))
  else
  (j23)) fun j12 =>
  jn (α := Prop) (j12 (0 : Int32)) fun j11 =>
  if p1 = 0 then
  (j11)
  else
  (inb v2 8 ∧
  if (N.1 72 (Int32.toNatClampNeg v2)) = 0 then
  (j11)
  else
  (inb v2 8 ∧
  if (N.1 73 (Int32.toNatClampNeg v2)) = (-1 : Int32) then
  (j11)
  else
  (j12 (1 : Int32)))))
def fX8_spreadSchedule (N : Nm) (K : Nm → Prop) : Prop :=
  inb (N.1 66 14) 8 ∧
  bd ((N.1 72 (Int32.toNatClampNeg (N.1 66 14)))) fun x2 =>
  bd (wrN N 66 28 (0 : Int32)) fun N3 =>
  jn (α := Nm → Prop) (fun (N9 : Nm) =>
  jn (α := Int32 → Nm → Prop) (fun (x34 : Int32) (N35 : Nm) =>
  K N35) fun j33 =>
  fX8_spreadSchedule_L36 x2 j33 K 200 (0 : Int32) N9) fun j4 =>
  if x2 = 0 then
  (j4 N3)
  else
  (fX8_buildSchedule N3 fun N6 =>
  fX8_floodNow N6 ((1 : Int32) <<< ((N6.1 66 14) &&& 31)) fun r7 N8 =>
  j4 N8)
def fX8_serve (N : Nm) (a1 : Int32) (K : Int32 → Nm → Prop) : Prop :=
  fX8_takePacket N a1 fun N1 =>
  inb a1 6 ∧
  bd ((N1.1 77 (Int32.toNatClampNeg a1))) fun x3 =>
  inb x3 8 ∧
  jn (α := Int32 → Prop) (fun (x10 : Int32) =>
  jn (α := Nm → Prop) (fun (N15 : Nm) =>
  jn (α := Int32 → Prop) (fun (x21 : Int32) =>
  inb a1 6 ∧
  jn (α := Int32 → Prop) (fun (x25 : Int32) =>
  inb a1 6 ∧
  bd (wrN N15 82 (Int32.toNatClampNeg a1) ((N15.1 82 (Int32.toNatClampNeg a1)) + x25)) fun N27 =>
  inb a1 6 ∧
  jn (α := Int32 → Prop) (fun (x31 : Int32) =>
  inb a1 6 ∧
  bd (wrN N27 83 (Int32.toNatClampNeg a1) ((N27.1 83 (Int32.toNatClampNeg a1)) + x31)) fun N33 =>
  jn (α := Int32 → Prop) (fun (x36 : Int32) =>
  K x36 N33) fun j34 =>
  if x21 = 0 then
  (j34 (0 : Int32))
  else
  (j34 (1 : Int32))) fun j29 =>
  if x21 = 0 then
  (j29 (1 : Int32))
  else
  (j29 (0 : Int32))) fun j23 =>
  if x21 = 0 then
  (j23 (0 : Int32))
  else
  (j23 (1 : Int32))) fun j17 =>
  jn (α := Prop) (j17 (0 : Int32)) fun j16 =>
  if x10 = 0 then
  (j16)
  else
  (inb (N15.1 66 14) 8 ∧
  if (N15.1 73 (Int32.toNatClampNeg (N15.1 66 14))) = (-1 : Int32) then
  (j16)
  else
  (j17 (1 : Int32)))) fun j11 =>
  if x10 = 0 then
  (j11 N1)
  else
  (fX8_floodNow N1 ((1 : Int32) <<< (x3 &&& 31)) fun r13 N14 =>
  j11 N14)) fun j6 =>
  jn (α := Prop) (j6 (0 : Int32)) fun j5 =>
  if (N1.1 72 (Int32.toNatClampNeg x3)) = 0 then
  (j5)
  else
  (inb x3 8 ∧
  if (N1.1 91 (Int32.toNatClampNeg x3)) = 0 then
  (j5)
  else
  (j6 (1 : Int32)))
def fX8_takeOver_L2  (E : Int32 → Nm → Prop) (K : Nm → Prop) : Nat → Int32 → Nm → Prop
  | 0, _, _ => False
  | n + 1, v1, N =>
  if (N.1 66 2) ≤ v1 then
  (E v1 N)
  else
  (inb (N.1 66 14) 8 ∧
  if (N.1 72 (Int32.toNatClampNeg (N.1 66 14))) = 0 then
  (inb v1 8 ∧
  jn (α := Nm → Prop) (fun (N12 : Nm) =>
  bd (v1 + (1 : Int32)) fun x13 =>
  fX8_takeOver_L2 E K n x13 N12) fun j5 =>
  if (N.1 72 (Int32.toNatClampNeg v1)) = 0 then
  (j5 N)
  else
  (inb v1 8 ∧
  if (N.1 76 (Int32.toNatClampNeg v1)) < (N.1 66 19) then
  (j5 N)
  else
  (bd (wrN N 66 14 v1) fun N9 =>
  inb v1 8 ∧
  bd (wrN N9 76 (Int32.toNatClampNeg v1) (0 : Int32)) fun N11 =>
  j5 N11)))
  else
  (E v1 N))
def fX8_takeOver (N : Nm) (K : Nm → Prop) : Prop :=
  jn (α := Int32 → Nm → Prop) (fun (x15 : Int32) (N16 : Nm) =>
  K N16) fun j14 =>
  fX8_takeOver_L2  j14 K 200 (0 : Int32) N
def fX8_runRound_L12  (E : Int32 → Int32 → Nm → Prop) (K : Int32 → Nm → Prop) : Nat → Int32 → Int32 → Nm → Prop
  | 0, _, _, _ => False
  | n + 1, v1, v2, N =>
  if (N.1 66 28) ≤ v2 then
  (E v1 v2 N)
  else
  (inb v2 6 ∧
  fX8_serve N (N.1 84 (Int32.toNatClampNeg v2)) fun r5 N6 =>
  bd ((v1 + r5)) fun x7 =>
  bd (v2 + (1 : Int32)) fun x8 =>
  fX8_runRound_L12 E K n x7 x8 N6)
def fX8_runRound (N : Nm) (K : Int32 → Nm → Prop) : Prop :=
  fX8_generate N fun N1 =>
  fX8_spreadSchedule N1 fun N2 =>
  jn (α := Int32 → Int32 → Nm → Prop) (fun (x10 : Int32) (x11 : Int32) (N12 : Nm) =>
  fX8_takeOver N12 fun N13 =>
  bd (wrN N13 66 15 ((N13.1 66 15) + (1 : Int32))) fun N14 =>
  K x10 N14) fun j9 =>
  fX8_runRound_L12  j9 K 200 (0 : Int32) (0 : Int32) N2
def fX8_runRounds_L45 (p1 : Int32) (E : Int32 → Int32 → Nm → Prop) (K : Int32 → Nm → Prop) : Nat → Int32 → Int32 → Nm → Prop
  | 0, _, _, _ => False
  | n + 1, v2, v3, N =>
  if p1 ≤ v3 then
  (E v2 v3 N)
  else
  (fX8_runRound N fun r6 N7 =>
  bd ((v2 + r6)) fun x8 =>
  bd (v3 + (1 : Int32)) fun x9 =>
  fX8_runRounds_L45 p1 E K n x8 x9 N7)
def fX8_runRounds (N : Nm) (a1 : Int32) (K : Int32 → Nm → Prop) : Prop :=
  fX8_within a1 (1 : Int32) (20 : Int32) fun r1 =>
  if r1 = 0 then
  (K (-1002 : Int32) N)
  else
  (if (N.1 66 2) = 0 then
  (K (-1003 : Int32) N)
  else
  (if ((N.1 66 15) + a1) ≤ (9999 : Int32) then
  (jn (α := Int32 → Int32 → Nm → Prop) (fun (x11 : Int32) (x12 : Int32) (N13 : Nm) =>
  K x11 N13) fun j10 =>
  fX8_runRounds_L45 a1 j10 K 200 (0 : Int32) (0 : Int32) N)
  else
  (K (-1004 : Int32) N)))
def fX8_scheduledStream (N : Nm) (a1 : Int32) (K : Int32 → Prop) : Prop :=
  fX8_within a1 (0 : Int32) ((N.1 66 28) - (1 : Int32)) fun r1 =>
  jn (α := Int32 → Prop) (fun (x5 : Int32) =>
  K x5) fun j2 =>
  if r1 = 0 then
  (j2 (-1 : Int32))
  else
  (inb a1 6 ∧
  j2 (N.1 84 (Int32.toNatClampNeg a1)))
def fX8_areSourcesDifferent_L14 (N : Nm) (p2 : Int32) (E : Int32 → Int32 → Prop) (K : Int32 → Prop) : Nat → Int32 → Int32 → Prop
  | 0, _, _ => False
  | n + 1, v1, v3 =>
  if p2 ≤ v3 then
  (E v1 v3)
  else
  (jn (α := Int32 → Prop) (fun (x11 : Int32) =>
  bd (v3 + (1 : Int32)) fun x12 =>
  fX8_areSourcesDifferent_L14 N p2 E K n x11 x12) fun j4 =>
  jn (α := Prop) (j4 (0 : Int32)) fun j3 =>
  if v1 = 0 then
  (j3)
  else
  (inb p2 6 ∧
  inb (N.1 84 (Int32.toNatClampNeg p2)) 6 ∧
  inb v3 6 ∧
  inb (N.1 84 (Int32.toNatClampNeg v3)) 6 ∧
  if (N.1 77 (Int32.toNatClampNeg (N.1 84 (Int32.toNatClampNeg p2)))) = (N.1 77 (Int32.toNatClampNeg (N.1 84 (Int32.toNatClampNeg v3)))) then
  (j3)
  else
  (j4 (1 : Int32))))
def fX8_areSourcesDifferent_L4 (N : Nm) (E : Int32 → Int32 → Prop) (K : Int32 → Prop) : Nat → Int32 → Int32 → Prop
  | 0, _, _ => False
  | n + 1, v1, v2 =>
  if (N.1 66 28) ≤ v2 then
  (E v1 v2)
  else
  (jn (α := Int32 → Int32 → Prop) (fun (x14 : Int32) (x15 : Int32) =>
  bd (v2 + (1 : Int32)) fun x16 =>
  fX8_areSourcesDifferent_L4 N E K n x14 x16) fun j13 =>
  fX8_areSourcesDifferent_L14 N v2 j13 K 200 v1 (0 : Int32))
def fX8_areSourcesDifferent (N : Nm) (K : Int32 → Prop) : Prop :=
  jn (α := Int32 → Int32 → Prop) (fun (x18 : Int32) (x19 : Int32) =>
  bl x18 ∧
  K x18) fun j17 =>
  fX8_areSourcesDifferent_L4 N j17 K 200 (1 : Int32) (0 : Int32)
def fX8_scheduleBits (N : Nm) (K : Int32 → Prop) : Prop :=
  bd (((3 : Int32) * (N.1 66 28))) fun x1 =>
  jn (α := Int32 → Prop) (fun (x7 : Int32) =>
  K ((8 : Int32) + x7)) fun j3 =>
  jn (α := Prop) (j3 x1) fun j2 =>
  if x1 ≤ (8 : Int32) then
  (j2)
  else
  (fX8_areSourcesDifferent N fun r5 =>
  if r5 = 0 then
  (j2)
  else
  (j3 (8 : Int32)))
def fX8_host (N : Nm) (K : Int32 → Prop) : Prop :=
  K (N.1 66 14)
def fX8_missedSchedules (N : Nm) (a1 : Int32) (K : Int32 → Prop) : Prop :=
  fX8_isNode N a1 fun r1 =>
  jn (α := Int32 → Prop) (fun (x5 : Int32) =>
  K x5) fun j2 =>
  if r1 = 0 then
  (j2 (-1001 : Int32))
  else
  (inb a1 8 ∧
  j2 (N.1 76 (Int32.toNatClampNeg a1)))
def fX8_transmissions (N : Nm) (a1 : Int32) (K : Int32 → Prop) : Prop :=
  fX8_isNode N a1 fun r1 =>
  jn (α := Int32 → Prop) (fun (x5 : Int32) =>
  K x5) fun j2 =>
  if r1 = 0 then
  (j2 (-1001 : Int32))
  else
  (inb a1 8 ∧
  j2 (N.1 75 (Int32.toNatClampNeg a1)))
def fX8_roundNumber (N : Nm) (K : Int32 → Prop) : Prop :=
  K (N.1 66 15)
def fX8_mix (N : Nm) (a1 : Int64) (K : Nm → Prop) : Prop :=
  bd (N.1, (((31 : Int64) * N.2) + a1)) fun N1 =>
  K N1
def fX8_digest_L9  (E : Int32 → Nm → Prop) (K : Int64 → Nm → Prop) : Nat → Int32 → Nm → Prop
  | 0, _, _ => False
  | n + 1, v1, N =>
  if (N.1 66 2) ≤ v1 then
  (E v1 N)
  else
  (inb v1 8 ∧
  fX8_mix N (Int32.toInt64 (N.1 73 (Int32.toNatClampNeg v1))) fun N4 =>
  fX8_hops N4 v1 fun r5 =>
  fX8_mix N4 (Int32.toInt64 r5) fun N6 =>
  inb v1 8 ∧
  fX8_mix N6 (Int32.toInt64 (N6.1 76 (Int32.toNatClampNeg v1))) fun N8 =>
  inb v1 8 ∧
  fX8_mix N8 (Int32.toInt64 (N8.1 75 (Int32.toNatClampNeg v1))) fun N10 =>
  inb v1 8 ∧
  jn (α := Int64 → Prop) (fun (x14 : Int64) =>
  fX8_mix N10 x14 fun N15 =>
  bd (v1 + (1 : Int32)) fun x16 =>
  fX8_digest_L9 E K n x16 N15) fun j12 =>
  if (N10.1 72 (Int32.toNatClampNeg v1)) = 0 then
  (j12 (0 : Int64))
  else
  (j12 (1 : Int64)))
def fX8_digest_L95  (E : Int32 → Nm → Prop) (K : Int64 → Nm → Prop) : Nat → Int32 → Nm → Prop
  | 0, _, _ => False
  | n + 1, v1, N =>
  if (N.1 66 20) ≤ v1 then
  (E v1 N)
  else
  (inb v1 6 ∧
  fX8_mix N (Int32.toInt64 (N.1 80 (Int32.toNatClampNeg v1))) fun N23 =>
  inb v1 6 ∧
  fX8_mix N23 (Int32.toInt64 (N23.1 82 (Int32.toNatClampNeg v1))) fun N25 =>
  inb v1 6 ∧
  fX8_mix N25 (Int32.toInt64 (N25.1 83 (Int32.toNatClampNeg v1))) fun N27 =>
  bd (v1 + (1 : Int32)) fun x28 =>
  fX8_digest_L95 E K n x28 N27)
def fX8_digest_L144  (E : Int32 → Nm → Prop) (K : Int64 → Nm → Prop) : Nat → Int32 → Nm → Prop
  | 0, _, _ => False
  | n + 1, v1, N =>
  if (N.1 66 28) ≤ v1 then
  (E v1 N)
  else
  (inb v1 6 ∧
  fX8_mix N (Int32.toInt64 (N.1 84 (Int32.toNatClampNeg v1))) fun N34 =>
  bd (v1 + (1 : Int32)) fun x35 =>
  fX8_digest_L144 E K n x35 N34)
def fX8_digest_L198  (E : Int32 → Nm → Prop) (K : Int64 → Nm → Prop) : Nat → Int32 → Nm → Prop
  | 0, _, _ => False
  | n + 1, v1, N =>
  if (N.1 66 0) ≤ v1 then
  (E v1 N)
  else
  (inb v1 61 ∧
  fX8_mix N (Int32.toInt64 (N.1 67 (Int32.toNatClampNeg v1))) fun N45 =>
  bd (v1 + (1 : Int32)) fun x46 =>
  fX8_digest_L198 E K n x46 N45)
def fX8_digest (N : Nm) (K : Int64 → Nm → Prop) : Prop :=
  bd (N.1, (1753 : Int64)) fun N1 =>
  jn (α := Int32 → Nm → Prop) (fun (x18 : Int32) (N19 : Nm) =>
  fX8_mix N19 (Int32.toInt64 (N19.1 66 13)) fun N20 =>
  jn (α := Int32 → Nm → Prop) (fun (x30 : Int32) (N31 : Nm) =>
  jn (α := Int32 → Nm → Prop) (fun (x37 : Int32) (N38 : Nm) =>
  fX8_scheduleBits N38 fun r39 =>
  fX8_mix N38 (Int32.toInt64 r39) fun N40 =>
  fX8_mix N40 (Int32.toInt64 (N40.1 66 14)) fun N41 =>
  fX8_mix N41 (Int32.toInt64 (N41.1 66 15)) fun N42 =>
  jn (α := Int32 → Nm → Prop) (fun (x48 : Int32) (N49 : Nm) =>
  fX8_mix N49 (Int32.toInt64 (N49.1 66 0)) fun N50 =>
  K N50.2 N50) fun j47 =>
  fX8_digest_L198  j47 K 200 (0 : Int32) N42) fun j36 =>
  fX8_digest_L144  j36 K 200 (0 : Int32) N31) fun j29 =>
  fX8_digest_L95  j29 K 200 (0 : Int32) N20) fun j17 =>
  fX8_digest_L9  j17 K 200 (0 : Int32) N1
end
section
abbrev rmX0_add : Room := { frames := 0, cells := 0, slots := 0, locals := 0 }
theorem wX0_add_15 : Cond.fieldLink RX0 15 "FloodBus$Description" "length" "I" ∈ wsX0_add := by decide +kernel
theorem wX0_add_9 : Cond.fieldLink RX0 9 "FloodBus$Description" "characters" "[I" ∈ wsX0_add := by decide +kernel
theorem inX0_add_X0 : ∀ w ∈ wsX00, w ∈ wsX0_add := by decide +kernel
set_option maxRecDepth 100000 in
set_option maxHeartbeats 4000000 in
theorem TX0_add (l : Launch) (D : va_G) (G : Gc) (ρ : Nat → Nat) (C : Xm) (N : Nm)  (a1 : Int32) (K : Int32 → Xm → Prop) (h : fX0_add C a1 K) : Ki l yX0_add wsX0_add rmX0_add D G ρ [.ref (ρ 1), .int a1] C N (fun r C1 N1 => K r C1 ∧ N1 = N) := by
  refine Ki.ofV (cc := cX0_add) (maxL := 2) (ret := (some .int)) (by decide +kernel) rfl (Nat.le_of_ble_eq_true rfl) ?_
  intro p e s m args below meth c X hr hlk
  show V p l e rmX0_add s m args below meth c D G ρ (WA ρ s.heap.size) s.heap 2 0 0 (Qi D G ρ s args below (fun r C1 N1 => K r C1 ∧ N1 = N)) 0 [(0, .ref (ρ 1)), (1, .int a1)] [] C N
  unfold fX0_add at h
  refine V_aload_n X (q := 0) rfl rfl dX0_add_0 (n := 1) rfl ?_
  refine V_getX X (by decide) rfl rfl (k := 1) inX0_add_X0 rfl (by decide) wX0_add_15 dX0_add_1 (n := 4) rfl ?_
  refine V_bipush X (v := 61) (by decide) dX0_add_4 (n := 6) rfl ?_
  refine V_icmp_lt X dX0_add_6 (tgt := 13) (n := 9) (by decide) rfl (fun c1 => ?_) (fun c1 => ?_)
  · have h := ite_t h c1
    refine V_aload_n X (q := 0) rfl rfl dX0_add_13 (n := 14) rfl ?_
    refine V_getR X (by decide) rfl rfl (k := 0) inX0_add_X0 rfl (by decide) wX0_add_9 dX0_add_14 (n := 17) rfl ?_
    refine V_aload_n X (q := 0) rfl rfl dX0_add_17 (n := 18) rfl ?_
    refine V_getX X (by decide) rfl rfl (k := 1) inX0_add_X0 rfl (by decide) wX0_add_15 dX0_add_18 (n := 21) rfl ?_
    refine V_iload_n X (q := 1) rfl rfl dX0_add_21 (n := 22) rfl ?_
    obtain ⟨g2, h⟩ := h
    refine V_istX X (by decide) rfl g2 dX0_add_22 (n := 23) rfl (fun C3 eC3 => ?_)
    have h := bd_at h eC3
    refine V_aload_n X (q := 0) rfl rfl dX0_add_23 (n := 24) rfl ?_
    refine V_dup X rfl dX0_add_24 (n := 25) rfl ?_
    refine V_getX X (by decide) rfl rfl (k := 1) inX0_add_X0 rfl (by decide) wX0_add_15 dX0_add_25 (n := 28) rfl ?_
    refine V_iconst X (v := 1) (by decide) dX0_add_28 (n := 29) rfl ?_
    refine V_iadd X dX0_add_29 (n := 30) rfl ?_
    refine V_putX X (by decide) rfl rfl (k := 1) inX0_add_X0 rfl (by decide) wX0_add_15 tyX0 tyX0_ok nmX0 rfl (by decide +kernel) dX0_add_30 (n := 33) rfl (fun C4 eC4 => ?_)
    have h := bd_at h eC4
    refine V_aload_n X (q := 0) rfl rfl dX0_add_33 (n := 34) rfl ?_
    refine V_getX X (by decide) rfl rfl (k := 1) inX0_add_X0 rfl (by decide) wX0_add_15 dX0_add_34 (n := 37) rfl ?_
    exact V_iret X hr hlk dX0_add_37 ⟨h, rfl⟩
  · have h := ite_f h c1
    refine V_sipush X (v := -1004) (by decide) dX0_add_9 (n := 12) rfl ?_
    exact V_iret X hr hlk dX0_add_12 ⟨h, rfl⟩
abbrev rmX7_append : Room := { frames := 1, cells := 0, slots := 0, locals := 21 }
theorem wX7_append_10 : Cond.fieldLink RX7 10 "FloodBus" "description" "LFloodBus$Description;" ∈ wsX7_append := by decide +kernel
theorem inX7_append_X7 : ∀ w ∈ wsX70, w ∈ wsX7_append := by decide +kernel
set_option maxRecDepth 100000 in
set_option maxHeartbeats 4000000 in
theorem TX7_append (l : Launch) (D : va_G) (G : Gc) (ρ : Nat → Nat) (C : Xm) (N : Nm)  (a1 : Int32) (K : Int32 → Xm → Prop) (h : fX7_append C a1 K) : Ki l yX7_append wsX7_append rmX7_append D G ρ [.ref (ρ 0), .int a1] C N (fun r C1 N1 => K r C1 ∧ N1 = N) := by
  refine Ki.ofV (cc := cX7_append) (maxL := 2) (ret := (some .int)) (by decide +kernel) rfl (Nat.le_of_ble_eq_true rfl) ?_
  intro p e s m args below meth c X hr hlk
  show V p l e rmX7_append s m args below meth c D G ρ (WA ρ s.heap.size) s.heap 2 0 0 (Qi D G ρ s args below (fun r C1 N1 => K r C1 ∧ N1 = N)) 0 [(0, .ref (ρ 0)), (1, .int a1)] [] C N
  unfold fX7_append at h
  refine V_iload_n X (q := 1) rfl rfl dX7_append_0 (n := 1) rfl ?_
  refine V_bipush X (v := 32) (by decide) dX7_append_1 (n := 3) rfl ?_
  refine jn_o h (fun j1 ej1 h => ?_)
  have kj1 : j1 → V p l e rmX7_append s m args below meth c D G ρ (WA ρ s.heap.size) s.heap 2 0 0 (Qi D G ρ s args below (fun r C1 N1 => K r C1 ∧ N1 = N)) 12 [(0, .ref (ρ 0)), (1, .int a1)] [] C N := by
    intro  h
    rw [ej1] at h
    refine V_sipush X (v := -1002) (by decide) dX7_append_12 (n := 15) rfl ?_
    exact V_iret X hr hlk dX7_append_15 ⟨h, rfl⟩
  refine V_icmp_lt X dX7_append_3 (tgt := 12) (n := 6) (by decide) rfl (fun c2 => ?_) (fun c2 => ?_)
  · have h := ite_t h c2
    exact kj1  h
  · have h := ite_f h c2
    refine V_iload_n X (q := 1) rfl rfl dX7_append_6 (n := 7) rfl ?_
    refine V_bipush X (v := 126) (by decide) dX7_append_7 (n := 9) rfl ?_
    refine V_icmp_le X dX7_append_9 (tgt := 16) (n := 12) (by decide) rfl (fun c3 => ?_) (fun c3 => ?_)
    · have h := ite_t h c3
      refine V_aload_n X (q := 0) rfl rfl dX7_append_16 (n := 17) rfl ?_
      refine V_getR X (by decide) rfl rfl (k := 0) inX7_append_X7 rfl (by decide) wX7_append_10 dX7_append_17 (n := 20) rfl ?_
      refine V_iload_n X (q := 1) rfl rfl dX7_append_20 (n := 21) rfl ?_
      refine V_calli X (As := [.int a1]) (rest := []) (nA := 1) (i := 1) (q := (RX0, TX0, 8)) (TX0_add l D G ρ C N a1 _ h) gX7_append_X0_add rfl rfl rfl (by decide +kernel) rfl ⟨by decide, by decide⟩ (Nat.le_of_ble_eq_true rfl) ⟨by decide, by decide⟩ (by decide) rfl rfl rfl dX7_append_21 (n := 24) rfl (fun r4 C5 M0 h => ?_)
      obtain ⟨h, eo⟩ := h
      rw [eo]
      exact V_iret X hr hlk dX7_append_24 ⟨h, rfl⟩
    · have h := ite_f h c3
      exact kj1  h
abbrev rmX7_clearBuffer : Room := { frames := 0, cells := 0, slots := 0, locals := 0 }
theorem wX7_clearBuffer_10 : Cond.fieldLink RX7 10 "FloodBus" "description" "LFloodBus$Description;" ∈ wsX7_clearBuffer := by decide +kernel
theorem wX7_clearBuffer_61 : Cond.fieldLink RX7 61 "FloodBus$Description" "length" "I" ∈ wsX7_clearBuffer := by decide +kernel
theorem inX7_clearBuffer_X7 : ∀ w ∈ wsX70, w ∈ wsX7_clearBuffer := by decide +kernel
theorem inX7_clearBuffer_X0 : ∀ w ∈ wsX00, w ∈ wsX7_clearBuffer := by decide +kernel
set_option maxRecDepth 100000 in
set_option maxHeartbeats 4000000 in
theorem TX7_clearBuffer (l : Launch) (D : va_G) (G : Gc) (ρ : Nat → Nat) (C : Xm) (N : Nm)   (K : Int32 → Xm → Prop) (h : fX7_clearBuffer C K) : Ki l yX7_clearBuffer wsX7_clearBuffer rmX7_clearBuffer D G ρ [.ref (ρ 0)] C N (fun r C1 N1 => K r C1 ∧ N1 = N) := by
  refine Ki.ofV (cc := cX7_clearBuffer) (maxL := 2) (ret := (some .int)) (by decide +kernel) rfl (Nat.le_of_ble_eq_true rfl) ?_
  intro p e s m args below meth c X hr hlk
  show V p l e rmX7_clearBuffer s m args below meth c D G ρ (WA ρ s.heap.size) s.heap 2 0 0 (Qi D G ρ s args below (fun r C1 N1 => K r C1 ∧ N1 = N)) 0 [(0, .ref (ρ 0))] [] C N
  unfold fX7_clearBuffer at h
  refine V_aload_n X (q := 0) rfl rfl dX7_clearBuffer_0 (n := 1) rfl ?_
  refine V_getR X (by decide) rfl rfl (k := 0) inX7_clearBuffer_X7 rfl (by decide) wX7_clearBuffer_10 dX7_clearBuffer_1 (n := 4) rfl ?_
  refine V_getX X (by decide) rfl rfl (k := 1) inX7_clearBuffer_X0 rfl (by decide) wX7_clearBuffer_61 dX7_clearBuffer_4 (n := 7) rfl ?_
  refine V_topi (fun x1 ex1 => ?_)
  have h := bd_at h ex1
  refine V_istore_n X (L2 := [(1, .int x1), (0, .ref (ρ 0))]) rfl (by decide) rfl dX7_clearBuffer_7 (n := 8) rfl ?_
  refine V_aload_n X (q := 1) rfl rfl dX7_clearBuffer_8 (n := 9) rfl ?_
  refine V_getR X (by decide) rfl rfl (k := 0) inX7_clearBuffer_X7 rfl (by decide) wX7_clearBuffer_10 dX7_clearBuffer_9 (n := 12) rfl ?_
  refine V_iconst X (v := 0) (by decide) dX7_clearBuffer_12 (n := 13) rfl ?_
  refine V_putX X (by decide) rfl rfl (k := 1) inX7_clearBuffer_X0 rfl (by decide) wX7_clearBuffer_61 tyX0 tyX0_ok nmX0 rfl (by decide +kernel) dX7_clearBuffer_13 (n := 16) rfl (fun C2 eC2 => ?_)
  have h := bd_at h eC2
  refine V_iload_n X (q := 0) rfl rfl dX7_clearBuffer_16 (n := 17) rfl ?_
  exact V_iret X hr hlk dX7_clearBuffer_17 ⟨h, rfl⟩
abbrev rmX2_clear : Room := { frames := 1, cells := 0, slots := 0, locals := 23 }
theorem wX2_clear_11 : Cond.fieldLink RX2 11 "FloodBus$Links" "strength" "[[I" ∈ wsX2_clear := by decide +kernel
theorem wX2_clear_16 : Cond.fieldLink RX2 16 "FloodBus$Links" "lossPeriod" "[[I" ∈ wsX2_clear := by decide +kernel
theorem inX2_clear_X2 : ∀ w ∈ wsX20, w ∈ wsX2_clear := by decide +kernel
set_option maxRecDepth 100000 in
set_option maxHeartbeats 4000000 in
theorem TX2_clear_L2 {p : Program} {l : Launch} {e : Env} {s : State} {m : MethodId} {args : Array Value} {below : List Frame} {meth : Method} {c : Code} {D : va_G} {G : Gc} {ρ : Nat → Nat} (X : Cx p s m args c cX2_clear 2 RX2 wsX2_clear D G ρ (WA ρ s.heap.size) s.heap) (hr : meth.sig.returnType = none) (hlk : meth.locks = false) (N : Nm)   {E : Int32 → Xm → Prop} {K : Xm → Prop} (hE : ∀ (v1 : Int32) (C : Xm), E v1 C → V p l e rmX2_clear s m args below meth c D G ρ (WA ρ s.heap.size) s.heap 2 0 0 (Qv D G ρ s args below (fun C1 N1 => K C1 ∧ N1 = N)) 34 [(0, .ref (ρ 3)), (1, .int v1)] [] C N) : ∀ (n : Nat) (v1 : Int32) (C : Xm), fX2_clear_L2  E K n v1 C → V p l e rmX2_clear s m args below meth c D G ρ (WA ρ s.heap.size) s.heap 2 0 0 (Qv D G ρ s args below (fun C1 N1 => K C1 ∧ N1 = N)) 2 [(0, .ref (ρ 3)), (1, .int v1)] [] C N := by
  intro n
  induction n with
  | zero => intro v1 C h; exact h.elim
  | succ n ih =>
    intro v1 C h
    unfold fX2_clear_L2 at h
    refine V_iload_n X (q := 1) rfl rfl dX2_clear_2 (n := 3) rfl ?_
    refine V_bipush X (v := 8) (by decide) dX2_clear_3 (n := 5) rfl ?_
    refine V_icmp_ge X dX2_clear_5 (tgt := 34) (n := 8) (by decide) rfl (fun c1 => ?_) (fun c1 => ?_)
    · have h := ite_t h c1
      exact hE v1 C h
    · have h := ite_f h c1
      refine V_aload_n X (q := 0) rfl rfl dX2_clear_8 (n := 9) rfl ?_
      refine V_getR X (by decide) rfl rfl (k := 0) inX2_clear_X2 rfl (by decide) wX2_clear_11 dX2_clear_9 (n := 12) rfl ?_
      refine V_iload_n X (q := 1) rfl rfl dX2_clear_12 (n := 13) rfl ?_
      obtain ⟨g2, h⟩ := h
      refine V_aaR X (by decide) rfl g2 dX2_clear_13 (n := 14) rfl ?_
      refine V_iconst X (v := 0) (by decide) dX2_clear_14 (n := 15) rfl ?_
      refine V_callsv X (As := [.ref (ρ (5 + Int32.toNatClampNeg v1)), .int (0 : Int32)]) (rest := []) (nA := 2) (T_fill l D G ρ C N (row_lt g2 (by decide)) (row_sh5 g2) (n0 := 8) (by decide) (0 : Int32)) gX2_clear_J7_fill_53178 rfl rfl rfl (by decide +kernel) rfl ⟨by decide, by decide⟩ (Nat.le_of_ble_eq_true rfl) ⟨by decide, by decide⟩ rfl dX2_clear_15 (n := 18) rfl (fun C3 N0 hp => ?_)
      obtain ⟨eC3, eo⟩ := hp
      rw [eo]
      have h := bd_at h eC3
      refine V_aload_n X (q := 0) rfl rfl dX2_clear_18 (n := 19) rfl ?_
      refine V_getR X (by decide) rfl rfl (k := 1) inX2_clear_X2 rfl (by decide) wX2_clear_16 dX2_clear_19 (n := 22) rfl ?_
      refine V_iload_n X (q := 1) rfl rfl dX2_clear_22 (n := 23) rfl ?_
      obtain ⟨g4, h⟩ := h
      refine V_aaR X (by decide) rfl g4 dX2_clear_23 (n := 24) rfl ?_
      refine V_iconst X (v := 0) (by decide) dX2_clear_24 (n := 25) rfl ?_
      refine V_callsv X (As := [.ref (ρ (14 + Int32.toNatClampNeg v1)), .int (0 : Int32)]) (rest := []) (nA := 2) (T_fill l D G ρ C3 N (row_lt g4 (by decide)) (row_sh14 g4) (n0 := 8) (by decide) (0 : Int32)) gX2_clear_J7_fill_53178 rfl rfl rfl (by decide +kernel) rfl ⟨by decide, by decide⟩ (Nat.le_of_ble_eq_true rfl) ⟨by decide, by decide⟩ rfl dX2_clear_25 (n := 28) rfl (fun C5 N0 hp => ?_)
      obtain ⟨eC5, eo⟩ := hp
      rw [eo]
      have h := bd_at h eC5
      obtain ⟨x6, ex6⟩ : ∃ z : Int32, z = v1 + (1 : Int32) := ⟨_, rfl⟩
      have h := bd_at h ex6
      refine V_iinc X (q := 1) (d := 1) (L2 := [(1, .int x6), (0, .ref (ρ 3))]) rfl (by decide) (by decide) ex6 rfl dX2_clear_28 (n := 31) rfl ?_
      refine V_goto X dX2_clear_31 (tgt := 2) (by decide) ?_
      refine V_loc [1, 0] rfl ?_
      exact ih x6 C5 h
set_option maxRecDepth 100000 in
set_option maxHeartbeats 4000000 in
theorem TX2_clear (l : Launch) (D : va_G) (G : Gc) (ρ : Nat → Nat) (C : Xm) (N : Nm)   (K : Xm → Prop) (h : fX2_clear C K) : Kv l yX2_clear wsX2_clear rmX2_clear D G ρ [.ref (ρ 3)] C N (fun C1 N1 => K C1 ∧ N1 = N) := by
  refine Kv.ofV (cc := cX2_clear) (maxL := 2) (ret := none) (by decide +kernel) rfl (Nat.le_of_ble_eq_true rfl) ?_
  intro p e s m args below meth c X hr hlk
  show V p l e rmX2_clear s m args below meth c D G ρ (WA ρ s.heap.size) s.heap 2 0 0 (Qv D G ρ s args below (fun C1 N1 => K C1 ∧ N1 = N)) 0 [(0, .ref (ρ 3))] [] C N
  unfold fX2_clear at h
  refine V_iconst X (v := 0) (by decide) dX2_clear_0 (n := 1) rfl ?_
  refine V_istore_n X (L2 := [(1, .int (0 : Int32)), (0, .ref (ρ 3))]) rfl (by decide) rfl dX2_clear_1 (n := 2) rfl ?_
  refine jn_o h (fun j7 ej7 h => ?_)
  have kj7 : ∀ (x8 : Int32) (C9 : Xm), j7 x8 C9 → V p l e rmX2_clear s m args below meth c D G ρ (WA ρ s.heap.size) s.heap 2 0 0 (Qv D G ρ s args below (fun C1 N1 => K C1 ∧ N1 = N)) 34 [(0, .ref (ρ 3)), (1, .int x8)] [] C9 N := by
    intro x8 C9 h
    rw [ej7] at h
    try dsimp only at h
    exact V_vret X hr hlk dX2_clear_34 ⟨h, rfl⟩
  refine V_loc [1, 0] rfl ?_
  exact TX2_clear_L2 X hr hlk N  (E := j7) (K := K) kj7 200 (0 : Int32) C h
abbrev rmX0_acceptsNodeCount : Room := { frames := 0, cells := 0, slots := 0, locals := 0 }
theorem wX0_acceptsNodeCount_26 : Cond.fieldLink RX0 26 "FloodBus$Description" "nodeCount" "I" ∈ wsX0_acceptsNodeCount := by decide +kernel
theorem wX0_acceptsNodeCount_32 : Cond.fieldLink RX0 32 "FloodBus$Description" "expected" "I" ∈ wsX0_acceptsNodeCount := by decide +kernel
theorem inX0_acceptsNodeCount_X0 : ∀ w ∈ wsX00, w ∈ wsX0_acceptsNodeCount := by decide +kernel
set_option maxRecDepth 100000 in
set_option maxHeartbeats 4000000 in
theorem TX0_acceptsNodeCount (l : Launch) (D : va_G) (G : Gc) (ρ : Nat → Nat) (C : Xm) (N : Nm)  (a1 : Int32) (K : Int32 → Xm → Prop) (h : fX0_acceptsNodeCount C a1 K) : Ki l yX0_acceptsNodeCount wsX0_acceptsNodeCount rmX0_acceptsNodeCount D G ρ [.ref (ρ 1), .int a1] C N (fun r C1 N1 => K r C1 ∧ N1 = N) := by
  refine Ki.ofV (cc := cX0_acceptsNodeCount) (maxL := 2) (ret := (some .boolean)) (by decide +kernel) rfl (Nat.le_of_ble_eq_true rfl) ?_
  intro p e s m args below meth c X hr hlk
  show V p l e rmX0_acceptsNodeCount s m args below meth c D G ρ (WA ρ s.heap.size) s.heap 2 0 0 (Qi D G ρ s args below (fun r C1 N1 => K r C1 ∧ N1 = N)) 0 [(0, .ref (ρ 1)), (1, .int a1)] [] C N
  unfold fX0_acceptsNodeCount at h
  refine V_iload_n X (q := 1) rfl rfl dX0_acceptsNodeCount_0 (n := 1) rfl ?_
  refine V_iconst X (v := 2) (by decide) dX0_acceptsNodeCount_1 (n := 2) rfl ?_
  refine jn_o h (fun j1 ej1 h => ?_)
  have kj1 : j1 → V p l e rmX0_acceptsNodeCount s m args below meth c D G ρ (WA ρ s.heap.size) s.heap 2 0 0 (Qi D G ρ s args below (fun r C1 N1 => K r C1 ∧ N1 = N)) 11 [(0, .ref (ρ 1)), (1, .int a1)] [] C N := by
    intro  h
    rw [ej1] at h
    refine V_iconst X (v := 0) (by decide) dX0_acceptsNodeCount_11 (n := 12) rfl ?_
    exact V_zret X hr hlk (by decide) dX0_acceptsNodeCount_12 ⟨h, rfl⟩
  refine V_icmp_lt X dX0_acceptsNodeCount_2 (tgt := 11) (n := 5) (by decide) rfl (fun c2 => ?_) (fun c2 => ?_)
  · have h := ite_t h c2
    exact kj1  h
  · have h := ite_f h c2
    refine V_iload_n X (q := 1) rfl rfl dX0_acceptsNodeCount_5 (n := 6) rfl ?_
    refine V_bipush X (v := 8) (by decide) dX0_acceptsNodeCount_6 (n := 8) rfl ?_
    refine V_icmp_le X dX0_acceptsNodeCount_8 (tgt := 13) (n := 11) (by decide) rfl (fun c3 => ?_) (fun c3 => ?_)
    · have h := ite_t h c3
      refine V_aload_n X (q := 0) rfl rfl dX0_acceptsNodeCount_13 (n := 14) rfl ?_
      refine V_iload_n X (q := 1) rfl rfl dX0_acceptsNodeCount_14 (n := 15) rfl ?_
      refine V_putX X (by decide) rfl rfl (k := 3) inX0_acceptsNodeCount_X0 rfl (by decide) wX0_acceptsNodeCount_26 tyX0 tyX0_ok nmX0 rfl (by decide +kernel) dX0_acceptsNodeCount_15 (n := 18) rfl (fun C4 eC4 => ?_)
      have h := bd_at h eC4
      refine V_aload_n X (q := 0) rfl rfl dX0_acceptsNodeCount_18 (n := 19) rfl ?_
      refine V_iconst X (v := 1) (by decide) dX0_acceptsNodeCount_19 (n := 20) rfl ?_
      refine V_putX X (by decide) rfl rfl (k := 5) inX0_acceptsNodeCount_X0 rfl (by decide) wX0_acceptsNodeCount_32 tyX0 tyX0_ok nmX0 rfl (by decide +kernel) dX0_acceptsNodeCount_20 (n := 23) rfl (fun C5 eC5 => ?_)
      have h := bd_at h eC5
      refine V_iconst X (v := 1) (by decide) dX0_acceptsNodeCount_23 (n := 24) rfl ?_
      exact V_zret X hr hlk (by decide) dX0_acceptsNodeCount_24 ⟨h, rfl⟩
    · have h := ite_f h c3
      exact kj1  h
abbrev rmX0_acceptsLinkMark : Room := { frames := 0, cells := 0, slots := 0, locals := 0 }
theorem wX0_acceptsLinkMark_29 : Cond.fieldLink RX0 29 "FloodBus$Description" "linkCount" "I" ∈ wsX0_acceptsLinkMark := by decide +kernel
theorem wX0_acceptsLinkMark_32 : Cond.fieldLink RX0 32 "FloodBus$Description" "expected" "I" ∈ wsX0_acceptsLinkMark := by decide +kernel
theorem inX0_acceptsLinkMark_X0 : ∀ w ∈ wsX00, w ∈ wsX0_acceptsLinkMark := by decide +kernel
set_option maxRecDepth 100000 in
set_option maxHeartbeats 4000000 in
theorem TX0_acceptsLinkMark (l : Launch) (D : va_G) (G : Gc) (ρ : Nat → Nat) (C : Xm) (N : Nm)  (a1 : Int32) (K : Int32 → Xm → Prop) (h : fX0_acceptsLinkMark C a1 K) : Ki l yX0_acceptsLinkMark wsX0_acceptsLinkMark rmX0_acceptsLinkMark D G ρ [.ref (ρ 1), .int a1] C N (fun r C1 N1 => K r C1 ∧ N1 = N) := by
  refine Ki.ofV (cc := cX0_acceptsLinkMark) (maxL := 2) (ret := (some .boolean)) (by decide +kernel) rfl (Nat.le_of_ble_eq_true rfl) ?_
  intro p e s m args below meth c X hr hlk
  show V p l e rmX0_acceptsLinkMark s m args below meth c D G ρ (WA ρ s.heap.size) s.heap 2 0 0 (Qi D G ρ s args below (fun r C1 N1 => K r C1 ∧ N1 = N)) 0 [(0, .ref (ρ 1)), (1, .int a1)] [] C N
  unfold fX0_acceptsLinkMark at h
  refine V_iload_n X (q := 1) rfl rfl dX0_acceptsLinkMark_0 (n := 1) rfl ?_
  refine V_bipush X (v := 59) (by decide) dX0_acceptsLinkMark_1 (n := 3) rfl ?_
  refine jn_o h (fun j1 ej1 h => ?_)
  have kj1 : j1 → V p l e rmX0_acceptsLinkMark s m args below meth c D G ρ (WA ρ s.heap.size) s.heap 2 0 0 (Qi D G ρ s args below (fun r C1 N1 => K r C1 ∧ N1 = N)) 15 [(0, .ref (ρ 1)), (1, .int a1)] [] C N := by
    intro  h
    rw [ej1] at h
    refine V_iconst X (v := 0) (by decide) dX0_acceptsLinkMark_15 (n := 16) rfl ?_
    exact V_zret X hr hlk (by decide) dX0_acceptsLinkMark_16 ⟨h, rfl⟩
  refine V_icmp_ne X dX0_acceptsLinkMark_3 (tgt := 15) (n := 6) (by decide) rfl (fun c2 => ?_) (fun c2 => ?_)
  · have h := ite_f h c2
    exact kj1  h
  · have h := ite_t h c2
    refine V_aload_n X (q := 0) rfl rfl dX0_acceptsLinkMark_6 (n := 7) rfl ?_
    refine V_getX X (by decide) rfl rfl (k := 4) inX0_acceptsLinkMark_X0 rfl (by decide) wX0_acceptsLinkMark_29 dX0_acceptsLinkMark_7 (n := 10) rfl ?_
    refine V_bipush X (v := 12) (by decide) dX0_acceptsLinkMark_10 (n := 12) rfl ?_
    refine V_icmp_lt X dX0_acceptsLinkMark_12 (tgt := 17) (n := 15) (by decide) rfl (fun c3 => ?_) (fun c3 => ?_)
    · have h := ite_t h c3
      refine V_aload_n X (q := 0) rfl rfl dX0_acceptsLinkMark_17 (n := 18) rfl ?_
      refine V_dup X rfl dX0_acceptsLinkMark_18 (n := 19) rfl ?_
      refine V_getX X (by decide) rfl rfl (k := 4) inX0_acceptsLinkMark_X0 rfl (by decide) wX0_acceptsLinkMark_29 dX0_acceptsLinkMark_19 (n := 22) rfl ?_
      refine V_iconst X (v := 1) (by decide) dX0_acceptsLinkMark_22 (n := 23) rfl ?_
      refine V_iadd X dX0_acceptsLinkMark_23 (n := 24) rfl ?_
      refine V_putX X (by decide) rfl rfl (k := 4) inX0_acceptsLinkMark_X0 rfl (by decide) wX0_acceptsLinkMark_29 tyX0 tyX0_ok nmX0 rfl (by decide +kernel) dX0_acceptsLinkMark_24 (n := 27) rfl (fun C4 eC4 => ?_)
      have h := bd_at h eC4
      refine V_aload_n X (q := 0) rfl rfl dX0_acceptsLinkMark_27 (n := 28) rfl ?_
      refine V_iconst X (v := 2) (by decide) dX0_acceptsLinkMark_28 (n := 29) rfl ?_
      refine V_putX X (by decide) rfl rfl (k := 5) inX0_acceptsLinkMark_X0 rfl (by decide) wX0_acceptsLinkMark_32 tyX0 tyX0_ok nmX0 rfl (by decide +kernel) dX0_acceptsLinkMark_29 (n := 32) rfl (fun C5 eC5 => ?_)
      have h := bd_at h eC5
      refine V_iconst X (v := 1) (by decide) dX0_acceptsLinkMark_32 (n := 33) rfl ?_
      exact V_zret X hr hlk (by decide) dX0_acceptsLinkMark_33 ⟨h, rfl⟩
    · have h := ite_f h c3
      exact kj1  h
abbrev rmX0_acceptsFirstNode : Room := { frames := 0, cells := 0, slots := 0, locals := 0 }
theorem wX0_acceptsFirstNode_26 : Cond.fieldLink RX0 26 "FloodBus$Description" "nodeCount" "I" ∈ wsX0_acceptsFirstNode := by decide +kernel
theorem wX0_acceptsFirstNode_35 : Cond.fieldLink RX0 35 "FloodBus$Description" "firstNode" "I" ∈ wsX0_acceptsFirstNode := by decide +kernel
theorem wX0_acceptsFirstNode_32 : Cond.fieldLink RX0 32 "FloodBus$Description" "expected" "I" ∈ wsX0_acceptsFirstNode := by decide +kernel
theorem inX0_acceptsFirstNode_X0 : ∀ w ∈ wsX00, w ∈ wsX0_acceptsFirstNode := by decide +kernel
set_option maxRecDepth 100000 in
set_option maxHeartbeats 4000000 in
theorem TX0_acceptsFirstNode (l : Launch) (D : va_G) (G : Gc) (ρ : Nat → Nat) (C : Xm) (N : Nm)  (a1 : Int32) (K : Int32 → Xm → Prop) (h : fX0_acceptsFirstNode C a1 K) : Ki l yX0_acceptsFirstNode wsX0_acceptsFirstNode rmX0_acceptsFirstNode D G ρ [.ref (ρ 1), .int a1] C N (fun r C1 N1 => K r C1 ∧ N1 = N) := by
  refine Ki.ofV (cc := cX0_acceptsFirstNode) (maxL := 2) (ret := (some .boolean)) (by decide +kernel) rfl (Nat.le_of_ble_eq_true rfl) ?_
  intro p e s m args below meth c X hr hlk
  show V p l e rmX0_acceptsFirstNode s m args below meth c D G ρ (WA ρ s.heap.size) s.heap 2 0 0 (Qi D G ρ s args below (fun r C1 N1 => K r C1 ∧ N1 = N)) 0 [(0, .ref (ρ 1)), (1, .int a1)] [] C N
  unfold fX0_acceptsFirstNode at h
  refine V_iload_n X (q := 1) rfl rfl dX0_acceptsFirstNode_0 (n := 1) rfl ?_
  refine jn_o h (fun j1 ej1 h => ?_)
  have kj1 : j1 → V p l e rmX0_acceptsFirstNode s m args below meth c D G ρ (WA ρ s.heap.size) s.heap 2 0 0 (Qi D G ρ s args below (fun r C1 N1 => K r C1 ∧ N1 = N)) 12 [(0, .ref (ρ 1)), (1, .int a1)] [] C N := by
    intro  h
    rw [ej1] at h
    refine V_iconst X (v := 0) (by decide) dX0_acceptsFirstNode_12 (n := 13) rfl ?_
    exact V_zret X hr hlk (by decide) dX0_acceptsFirstNode_13 ⟨h, rfl⟩
  refine V_if_lt X dX0_acceptsFirstNode_1 (tgt := 12) (n := 4) (by decide) rfl (fun c2 => ?_) (fun c2 => ?_)
  · have h := ite_t h c2
    exact kj1  h
  · have h := ite_f h c2
    refine V_iload_n X (q := 1) rfl rfl dX0_acceptsFirstNode_4 (n := 5) rfl ?_
    refine V_aload_n X (q := 0) rfl rfl dX0_acceptsFirstNode_5 (n := 6) rfl ?_
    refine V_getX X (by decide) rfl rfl (k := 3) inX0_acceptsFirstNode_X0 rfl (by decide) wX0_acceptsFirstNode_26 dX0_acceptsFirstNode_6 (n := 9) rfl ?_
    refine V_icmp_lt X dX0_acceptsFirstNode_9 (tgt := 14) (n := 12) (by decide) rfl (fun c3 => ?_) (fun c3 => ?_)
    · have h := ite_t h c3
      refine V_aload_n X (q := 0) rfl rfl dX0_acceptsFirstNode_14 (n := 15) rfl ?_
      refine V_iload_n X (q := 1) rfl rfl dX0_acceptsFirstNode_15 (n := 16) rfl ?_
      refine V_putX X (by decide) rfl rfl (k := 6) inX0_acceptsFirstNode_X0 rfl (by decide) wX0_acceptsFirstNode_35 tyX0 tyX0_ok nmX0 rfl (by decide +kernel) dX0_acceptsFirstNode_16 (n := 19) rfl (fun C4 eC4 => ?_)
      have h := bd_at h eC4
      refine V_aload_n X (q := 0) rfl rfl dX0_acceptsFirstNode_19 (n := 20) rfl ?_
      refine V_iconst X (v := 3) (by decide) dX0_acceptsFirstNode_20 (n := 21) rfl ?_
      refine V_putX X (by decide) rfl rfl (k := 5) inX0_acceptsFirstNode_X0 rfl (by decide) wX0_acceptsFirstNode_32 tyX0 tyX0_ok nmX0 rfl (by decide +kernel) dX0_acceptsFirstNode_21 (n := 24) rfl (fun C5 eC5 => ?_)
      have h := bd_at h eC5
      refine V_iconst X (v := 1) (by decide) dX0_acceptsFirstNode_24 (n := 25) rfl ?_
      exact V_zret X hr hlk (by decide) dX0_acceptsFirstNode_25 ⟨h, rfl⟩
    · have h := ite_f h c3
      exact kj1  h
abbrev rmX2_join : Room := { frames := 0, cells := 0, slots := 0, locals := 0 }
theorem wX2_join_11 : Cond.fieldLink RX2 11 "FloodBus$Links" "strength" "[[I" ∈ wsX2_join := by decide +kernel
theorem inX2_join_X2 : ∀ w ∈ wsX20, w ∈ wsX2_join := by decide +kernel
set_option maxRecDepth 100000 in
set_option maxHeartbeats 4000000 in
theorem TX2_join (l : Launch) (D : va_G) (G : Gc) (ρ : Nat → Nat) (C : Xm) (N : Nm)  (a1 : Int32) (a2 : Int32) (K : Int32 → Prop) (h : fX2_join C a1 a2 K) : Ki l yX2_join wsX2_join rmX2_join D G ρ [.ref (ρ 3), .int a1, .int a2] C N (fun r C1 N1 => K r ∧ C1 = C ∧ N1 = N) := by
  refine Ki.ofV (cc := cX2_join) (maxL := 3) (ret := (some .boolean)) (by decide +kernel) rfl (Nat.le_of_ble_eq_true rfl) ?_
  intro p e s m args below meth c X hr hlk
  show V p l e rmX2_join s m args below meth c D G ρ (WA ρ s.heap.size) s.heap 3 0 0 (Qi D G ρ s args below (fun r C1 N1 => K r ∧ C1 = C ∧ N1 = N)) 0 [(0, .ref (ρ 3)), (1, .int a1), (2, .int a2)] [] C N
  unfold fX2_join at h
  refine V_aload_n X (q := 0) rfl rfl dX2_join_0 (n := 1) rfl ?_
  refine V_getR X (by decide) rfl rfl (k := 0) inX2_join_X2 rfl (by decide) wX2_join_11 dX2_join_1 (n := 4) rfl ?_
  refine V_iload_n X (q := 1) rfl rfl dX2_join_4 (n := 5) rfl ?_
  obtain ⟨g1, h⟩ := h
  refine V_aaR X (by decide) rfl g1 dX2_join_5 (n := 6) rfl ?_
  refine V_iload_n X (q := 2) rfl rfl dX2_join_6 (n := 7) rfl ?_
  obtain ⟨g2, h⟩ := h
  refine V_ildX X (row_lt g1 (by decide)) (row_sh5 g1) g2 dX2_join_7 (n := 8) rfl ?_
  refine jn_o h (fun j3 ej3 h => ?_)
  have kj3 : ∀ (x5 : Int32), j3 x5 → V p l e rmX2_join s m args below meth c D G ρ (WA ρ s.heap.size) s.heap 3 0 0 (Qi D G ρ s args below (fun r C1 N1 => K r ∧ C1 = C ∧ N1 = N)) 16 [(0, .ref (ρ 3)), (1, .int a1), (2, .int a2)] [.int x5] C N := by
    intro x5 h
    rw [ej3] at h
    try dsimp only at h
    obtain ⟨g6, h⟩ := h
    exact V_zret X hr hlk g6 dX2_join_16 ⟨h, rfl, rfl⟩
  refine V_if_eq X dX2_join_8 (tgt := 15) (n := 11) (by decide) rfl (fun c4 => ?_) (fun c4 => ?_)
  · have h := ite_t h c4
    refine V_iconst X (v := 0) (by decide) dX2_join_15 (n := 16) rfl ?_
    exact kj3 (0 : Int32) h
  · have h := ite_f h c4
    refine V_iconst X (v := 1) (by decide) dX2_join_11 (n := 12) rfl ?_
    refine V_goto X dX2_join_12 (tgt := 16) (by decide) ?_
    exact kj3 (1 : Int32) h
abbrev rmX0_acceptsSecondNode : Room := { frames := 1, cells := 0, slots := 0, locals := 22 }
theorem wX0_acceptsSecondNode_35 : Cond.fieldLink RX0 35 "FloodBus$Description" "firstNode" "I" ∈ wsX0_acceptsSecondNode := by decide +kernel
theorem wX0_acceptsSecondNode_26 : Cond.fieldLink RX0 26 "FloodBus$Description" "nodeCount" "I" ∈ wsX0_acceptsSecondNode := by decide +kernel
theorem wX0_acceptsSecondNode_22 : Cond.fieldLink RX0 22 "FloodBus$Description" "links" "LFloodBus$Links;" ∈ wsX0_acceptsSecondNode := by decide +kernel
theorem wX0_acceptsSecondNode_38 : Cond.fieldLink RX0 38 "FloodBus$Description" "secondNode" "I" ∈ wsX0_acceptsSecondNode := by decide +kernel
theorem wX0_acceptsSecondNode_32 : Cond.fieldLink RX0 32 "FloodBus$Description" "expected" "I" ∈ wsX0_acceptsSecondNode := by decide +kernel
theorem inX0_acceptsSecondNode_X0 : ∀ w ∈ wsX00, w ∈ wsX0_acceptsSecondNode := by decide +kernel
set_option maxRecDepth 100000 in
set_option maxHeartbeats 4000000 in
theorem TX0_acceptsSecondNode (l : Launch) (D : va_G) (G : Gc) (ρ : Nat → Nat) (C : Xm) (N : Nm)  (a1 : Int32) (K : Int32 → Xm → Prop) (h : fX0_acceptsSecondNode C a1 K) : Ki l yX0_acceptsSecondNode wsX0_acceptsSecondNode rmX0_acceptsSecondNode D G ρ [.ref (ρ 1), .int a1] C N (fun r C1 N1 => K r C1 ∧ N1 = N) := by
  refine Ki.ofV (cc := cX0_acceptsSecondNode) (maxL := 2) (ret := (some .boolean)) (by decide +kernel) rfl (Nat.le_of_ble_eq_true rfl) ?_
  intro p e s m args below meth c X hr hlk
  show V p l e rmX0_acceptsSecondNode s m args below meth c D G ρ (WA ρ s.heap.size) s.heap 2 0 0 (Qi D G ρ s args below (fun r C1 N1 => K r C1 ∧ N1 = N)) 0 [(0, .ref (ρ 1)), (1, .int a1)] [] C N
  unfold fX0_acceptsSecondNode at h
  refine V_iload_n X (q := 1) rfl rfl dX0_acceptsSecondNode_0 (n := 1) rfl ?_
  refine V_aload_n X (q := 0) rfl rfl dX0_acceptsSecondNode_1 (n := 2) rfl ?_
  refine V_getX X (by decide) rfl rfl (k := 6) inX0_acceptsSecondNode_X0 rfl (by decide) wX0_acceptsSecondNode_35 dX0_acceptsSecondNode_2 (n := 5) rfl ?_
  refine jn_o h (fun j1 ej1 h => ?_)
  have kj1 : j1 → V p l e rmX0_acceptsSecondNode s m args below meth c D G ρ (WA ρ s.heap.size) s.heap 2 0 0 (Qi D G ρ s args below (fun r C1 N1 => K r C1 ∧ N1 = N)) 31 [(0, .ref (ρ 1)), (1, .int a1)] [] C N := by
    intro  h
    rw [ej1] at h
    refine V_iconst X (v := 0) (by decide) dX0_acceptsSecondNode_31 (n := 32) rfl ?_
    exact V_zret X hr hlk (by decide) dX0_acceptsSecondNode_32 ⟨h, rfl⟩
  refine V_icmp_le X dX0_acceptsSecondNode_5 (tgt := 31) (n := 8) (by decide) rfl (fun c2 => ?_) (fun c2 => ?_)
  · have h := ite_t h c2
    exact kj1  h
  · have h := ite_f h c2
    refine V_iload_n X (q := 1) rfl rfl dX0_acceptsSecondNode_8 (n := 9) rfl ?_
    refine V_aload_n X (q := 0) rfl rfl dX0_acceptsSecondNode_9 (n := 10) rfl ?_
    refine V_getX X (by decide) rfl rfl (k := 3) inX0_acceptsSecondNode_X0 rfl (by decide) wX0_acceptsSecondNode_26 dX0_acceptsSecondNode_10 (n := 13) rfl ?_
    refine V_icmp_ge X dX0_acceptsSecondNode_13 (tgt := 31) (n := 16) (by decide) rfl (fun c3 => ?_) (fun c3 => ?_)
    · have h := ite_t h c3
      exact kj1  h
    · have h := ite_f h c3
      refine V_aload_n X (q := 0) rfl rfl dX0_acceptsSecondNode_16 (n := 17) rfl ?_
      refine V_getR X (by decide) rfl rfl (k := 2) inX0_acceptsSecondNode_X0 rfl (by decide) wX0_acceptsSecondNode_22 dX0_acceptsSecondNode_17 (n := 20) rfl ?_
      refine V_aload_n X (q := 0) rfl rfl dX0_acceptsSecondNode_20 (n := 21) rfl ?_
      refine V_getX X (by decide) rfl rfl (k := 6) inX0_acceptsSecondNode_X0 rfl (by decide) wX0_acceptsSecondNode_35 dX0_acceptsSecondNode_21 (n := 24) rfl ?_
      refine V_iload_n X (q := 1) rfl rfl dX0_acceptsSecondNode_24 (n := 25) rfl ?_
      refine V_calli X (As := [.int (C 1 6), .int a1]) (rest := []) (nA := 2) (i := 3) (q := (RX2, TX2, 2)) (TX2_join l D G ρ C N (C 1 6) a1 _ h) gX0_acceptsSecondNode_X2_join rfl rfl rfl (by decide +kernel) rfl ⟨by decide, by decide⟩ (Nat.le_of_ble_eq_true rfl) ⟨by decide, by decide⟩ (by decide) rfl rfl rfl dX0_acceptsSecondNode_25 (n := 28) rfl (fun r4 M1 M0 h => ?_)
      obtain ⟨h, eo, eo2⟩ := h
      rw [eo, eo2]
      refine V_if_eq X dX0_acceptsSecondNode_28 (tgt := 33) (n := 31) (by decide) rfl (fun c5 => ?_) (fun c5 => ?_)
      · have h := ite_t h c5
        refine V_aload_n X (q := 0) rfl rfl dX0_acceptsSecondNode_33 (n := 34) rfl ?_
        refine V_iload_n X (q := 1) rfl rfl dX0_acceptsSecondNode_34 (n := 35) rfl ?_
        refine V_putX X (by decide) rfl rfl (k := 7) inX0_acceptsSecondNode_X0 rfl (by decide) wX0_acceptsSecondNode_38 tyX0 tyX0_ok nmX0 rfl (by decide +kernel) dX0_acceptsSecondNode_35 (n := 38) rfl (fun C6 eC6 => ?_)
        have h := bd_at h eC6
        refine V_aload_n X (q := 0) rfl rfl dX0_acceptsSecondNode_38 (n := 39) rfl ?_
        refine V_iconst X (v := 4) (by decide) dX0_acceptsSecondNode_39 (n := 40) rfl ?_
        refine V_putX X (by decide) rfl rfl (k := 5) inX0_acceptsSecondNode_X0 rfl (by decide) wX0_acceptsSecondNode_32 tyX0 tyX0_ok nmX0 rfl (by decide +kernel) dX0_acceptsSecondNode_40 (n := 43) rfl (fun C7 eC7 => ?_)
        have h := bd_at h eC7
        refine V_iconst X (v := 1) (by decide) dX0_acceptsSecondNode_43 (n := 44) rfl ?_
        exact V_zret X hr hlk (by decide) dX0_acceptsSecondNode_44 ⟨h, rfl⟩
      · have h := ite_f h c5
        exact kj1  h
abbrev rmX2_setStrength : Room := { frames := 0, cells := 0, slots := 0, locals := 0 }
theorem wX2_setStrength_11 : Cond.fieldLink RX2 11 "FloodBus$Links" "strength" "[[I" ∈ wsX2_setStrength := by decide +kernel
theorem inX2_setStrength_X2 : ∀ w ∈ wsX20, w ∈ wsX2_setStrength := by decide +kernel
set_option maxRecDepth 100000 in
set_option maxHeartbeats 4000000 in
theorem TX2_setStrength (l : Launch) (D : va_G) (G : Gc) (ρ : Nat → Nat) (C : Xm) (N : Nm)  (a1 : Int32) (a2 : Int32) (a3 : Int32) (K : Xm → Prop) (h : fX2_setStrength C a1 a2 a3 K) : Kv l yX2_setStrength wsX2_setStrength rmX2_setStrength D G ρ [.ref (ρ 3), .int a1, .int a2, .int a3] C N (fun C1 N1 => K C1 ∧ N1 = N) := by
  refine Kv.ofV (cc := cX2_setStrength) (maxL := 4) (ret := none) (by decide +kernel) rfl (Nat.le_of_ble_eq_true rfl) ?_
  intro p e s m args below meth c X hr hlk
  show V p l e rmX2_setStrength s m args below meth c D G ρ (WA ρ s.heap.size) s.heap 4 0 0 (Qv D G ρ s args below (fun C1 N1 => K C1 ∧ N1 = N)) 0 [(0, .ref (ρ 3)), (1, .int a1), (2, .int a2), (3, .int a3)] [] C N
  unfold fX2_setStrength at h
  refine V_aload_n X (q := 0) rfl rfl dX2_setStrength_0 (n := 1) rfl ?_
  refine V_getR X (by decide) rfl rfl (k := 0) inX2_setStrength_X2 rfl (by decide) wX2_setStrength_11 dX2_setStrength_1 (n := 4) rfl ?_
  refine V_iload_n X (q := 1) rfl rfl dX2_setStrength_4 (n := 5) rfl ?_
  obtain ⟨g1, h⟩ := h
  refine V_aaR X (by decide) rfl g1 dX2_setStrength_5 (n := 6) rfl ?_
  refine V_iload_n X (q := 2) rfl rfl dX2_setStrength_6 (n := 7) rfl ?_
  refine V_iload_n X (q := 3) rfl rfl dX2_setStrength_7 (n := 8) rfl ?_
  obtain ⟨g2, h⟩ := h
  refine V_istX X (row_lt g1 (by decide)) (row_sh5 g1) g2 dX2_setStrength_8 (n := 9) rfl (fun C3 eC3 => ?_)
  have h := bd_at h eC3
  refine V_aload_n X (q := 0) rfl rfl dX2_setStrength_9 (n := 10) rfl ?_
  refine V_getR X (by decide) rfl rfl (k := 0) inX2_setStrength_X2 rfl (by decide) wX2_setStrength_11 dX2_setStrength_10 (n := 13) rfl ?_
  refine V_iload_n X (q := 2) rfl rfl dX2_setStrength_13 (n := 14) rfl ?_
  obtain ⟨g4, h⟩ := h
  refine V_aaR X (by decide) rfl g4 dX2_setStrength_14 (n := 15) rfl ?_
  refine V_iload_n X (q := 1) rfl rfl dX2_setStrength_15 (n := 16) rfl ?_
  refine V_iload_n X (q := 3) rfl rfl dX2_setStrength_16 (n := 17) rfl ?_
  obtain ⟨g5, h⟩ := h
  refine V_istX X (row_lt g4 (by decide)) (row_sh5 g4) g5 dX2_setStrength_17 (n := 18) rfl (fun C6 eC6 => ?_)
  have h := bd_at h eC6
  exact V_vret X hr hlk dX2_setStrength_18 ⟨h, rfl⟩
abbrev rmX0_acceptsStrength : Room := { frames := 1, cells := 0, slots := 0, locals := 23 }
theorem wX0_acceptsStrength_22 : Cond.fieldLink RX0 22 "FloodBus$Description" "links" "LFloodBus$Links;" ∈ wsX0_acceptsStrength := by decide +kernel
theorem wX0_acceptsStrength_35 : Cond.fieldLink RX0 35 "FloodBus$Description" "firstNode" "I" ∈ wsX0_acceptsStrength := by decide +kernel
theorem wX0_acceptsStrength_38 : Cond.fieldLink RX0 38 "FloodBus$Description" "secondNode" "I" ∈ wsX0_acceptsStrength := by decide +kernel
theorem wX0_acceptsStrength_32 : Cond.fieldLink RX0 32 "FloodBus$Description" "expected" "I" ∈ wsX0_acceptsStrength := by decide +kernel
theorem inX0_acceptsStrength_X0 : ∀ w ∈ wsX00, w ∈ wsX0_acceptsStrength := by decide +kernel
set_option maxRecDepth 100000 in
set_option maxHeartbeats 4000000 in
theorem TX0_acceptsStrength (l : Launch) (D : va_G) (G : Gc) (ρ : Nat → Nat) (C : Xm) (N : Nm)  (a1 : Int32) (K : Int32 → Xm → Prop) (h : fX0_acceptsStrength C a1 K) : Ki l yX0_acceptsStrength wsX0_acceptsStrength rmX0_acceptsStrength D G ρ [.ref (ρ 1), .int a1] C N (fun r C1 N1 => K r C1 ∧ N1 = N) := by
  refine Ki.ofV (cc := cX0_acceptsStrength) (maxL := 2) (ret := (some .boolean)) (by decide +kernel) rfl (Nat.le_of_ble_eq_true rfl) ?_
  intro p e s m args below meth c X hr hlk
  show V p l e rmX0_acceptsStrength s m args below meth c D G ρ (WA ρ s.heap.size) s.heap 2 0 0 (Qi D G ρ s args below (fun r C1 N1 => K r C1 ∧ N1 = N)) 0 [(0, .ref (ρ 1)), (1, .int a1)] [] C N
  unfold fX0_acceptsStrength at h
  refine V_iload_n X (q := 1) rfl rfl dX0_acceptsStrength_0 (n := 1) rfl ?_
  refine V_iconst X (v := 1) (by decide) dX0_acceptsStrength_1 (n := 2) rfl ?_
  refine jn_o h (fun j1 ej1 h => ?_)
  have kj1 : j1 → V p l e rmX0_acceptsStrength s m args below meth c D G ρ (WA ρ s.heap.size) s.heap 2 0 0 (Qi D G ρ s args below (fun r C1 N1 => K r C1 ∧ N1 = N)) 11 [(0, .ref (ρ 1)), (1, .int a1)] [] C N := by
    intro  h
    rw [ej1] at h
    refine V_iconst X (v := 0) (by decide) dX0_acceptsStrength_11 (n := 12) rfl ?_
    exact V_zret X hr hlk (by decide) dX0_acceptsStrength_12 ⟨h, rfl⟩
  refine V_icmp_lt X dX0_acceptsStrength_2 (tgt := 11) (n := 5) (by decide) rfl (fun c2 => ?_) (fun c2 => ?_)
  · have h := ite_t h c2
    exact kj1  h
  · have h := ite_f h c2
    refine V_iload_n X (q := 1) rfl rfl dX0_acceptsStrength_5 (n := 6) rfl ?_
    refine V_bipush X (v := 9) (by decide) dX0_acceptsStrength_6 (n := 8) rfl ?_
    refine V_icmp_le X dX0_acceptsStrength_8 (tgt := 13) (n := 11) (by decide) rfl (fun c3 => ?_) (fun c3 => ?_)
    · have h := ite_t h c3
      refine V_aload_n X (q := 0) rfl rfl dX0_acceptsStrength_13 (n := 14) rfl ?_
      refine V_getR X (by decide) rfl rfl (k := 2) inX0_acceptsStrength_X0 rfl (by decide) wX0_acceptsStrength_22 dX0_acceptsStrength_14 (n := 17) rfl ?_
      refine V_aload_n X (q := 0) rfl rfl dX0_acceptsStrength_17 (n := 18) rfl ?_
      refine V_getX X (by decide) rfl rfl (k := 6) inX0_acceptsStrength_X0 rfl (by decide) wX0_acceptsStrength_35 dX0_acceptsStrength_18 (n := 21) rfl ?_
      refine V_aload_n X (q := 0) rfl rfl dX0_acceptsStrength_21 (n := 22) rfl ?_
      refine V_getX X (by decide) rfl rfl (k := 7) inX0_acceptsStrength_X0 rfl (by decide) wX0_acceptsStrength_38 dX0_acceptsStrength_22 (n := 25) rfl ?_
      refine V_iload_n X (q := 1) rfl rfl dX0_acceptsStrength_25 (n := 26) rfl ?_
      refine V_callv X (As := [.int (C 1 6), .int (C 1 7), .int a1]) (rest := []) (nA := 3) (i := 3) (q := (RX2, TX2, 2)) (TX2_setStrength l D G ρ C N (C 1 6) (C 1 7) a1 _ h) gX0_acceptsStrength_X2_setStrength rfl rfl rfl (by decide +kernel) rfl ⟨by decide, by decide⟩ (Nat.le_of_ble_eq_true rfl) ⟨by decide, by decide⟩ (by decide) rfl rfl rfl dX0_acceptsStrength_26 (n := 29) rfl (fun C4 M0 h => ?_)
      obtain ⟨h, eo⟩ := h
      rw [eo]
      refine V_aload_n X (q := 0) rfl rfl dX0_acceptsStrength_29 (n := 30) rfl ?_
      refine V_iconst X (v := 5) (by decide) dX0_acceptsStrength_30 (n := 31) rfl ?_
      refine V_putX X (by decide) rfl rfl (k := 5) inX0_acceptsStrength_X0 rfl (by decide) wX0_acceptsStrength_32 tyX0 tyX0_ok nmX0 rfl (by decide +kernel) dX0_acceptsStrength_31 (n := 34) rfl (fun C5 eC5 => ?_)
      have h := bd_at h eC5
      refine V_iconst X (v := 1) (by decide) dX0_acceptsStrength_34 (n := 35) rfl ?_
      exact V_zret X hr hlk (by decide) dX0_acceptsStrength_35 ⟨h, rfl⟩
    · have h := ite_f h c3
      exact kj1  h
abbrev rmX2_setLossPeriod : Room := { frames := 0, cells := 0, slots := 0, locals := 0 }
theorem wX2_setLossPeriod_16 : Cond.fieldLink RX2 16 "FloodBus$Links" "lossPeriod" "[[I" ∈ wsX2_setLossPeriod := by decide +kernel
theorem inX2_setLossPeriod_X2 : ∀ w ∈ wsX20, w ∈ wsX2_setLossPeriod := by decide +kernel
set_option maxRecDepth 100000 in
set_option maxHeartbeats 4000000 in
theorem TX2_setLossPeriod (l : Launch) (D : va_G) (G : Gc) (ρ : Nat → Nat) (C : Xm) (N : Nm)  (a1 : Int32) (a2 : Int32) (a3 : Int32) (K : Xm → Prop) (h : fX2_setLossPeriod C a1 a2 a3 K) : Kv l yX2_setLossPeriod wsX2_setLossPeriod rmX2_setLossPeriod D G ρ [.ref (ρ 3), .int a1, .int a2, .int a3] C N (fun C1 N1 => K C1 ∧ N1 = N) := by
  refine Kv.ofV (cc := cX2_setLossPeriod) (maxL := 4) (ret := none) (by decide +kernel) rfl (Nat.le_of_ble_eq_true rfl) ?_
  intro p e s m args below meth c X hr hlk
  show V p l e rmX2_setLossPeriod s m args below meth c D G ρ (WA ρ s.heap.size) s.heap 4 0 0 (Qv D G ρ s args below (fun C1 N1 => K C1 ∧ N1 = N)) 0 [(0, .ref (ρ 3)), (1, .int a1), (2, .int a2), (3, .int a3)] [] C N
  unfold fX2_setLossPeriod at h
  refine V_aload_n X (q := 0) rfl rfl dX2_setLossPeriod_0 (n := 1) rfl ?_
  refine V_getR X (by decide) rfl rfl (k := 1) inX2_setLossPeriod_X2 rfl (by decide) wX2_setLossPeriod_16 dX2_setLossPeriod_1 (n := 4) rfl ?_
  refine V_iload_n X (q := 1) rfl rfl dX2_setLossPeriod_4 (n := 5) rfl ?_
  obtain ⟨g1, h⟩ := h
  refine V_aaR X (by decide) rfl g1 dX2_setLossPeriod_5 (n := 6) rfl ?_
  refine V_iload_n X (q := 2) rfl rfl dX2_setLossPeriod_6 (n := 7) rfl ?_
  refine V_iload_n X (q := 3) rfl rfl dX2_setLossPeriod_7 (n := 8) rfl ?_
  obtain ⟨g2, h⟩ := h
  refine V_istX X (row_lt g1 (by decide)) (row_sh14 g1) g2 dX2_setLossPeriod_8 (n := 9) rfl (fun C3 eC3 => ?_)
  have h := bd_at h eC3
  refine V_aload_n X (q := 0) rfl rfl dX2_setLossPeriod_9 (n := 10) rfl ?_
  refine V_getR X (by decide) rfl rfl (k := 1) inX2_setLossPeriod_X2 rfl (by decide) wX2_setLossPeriod_16 dX2_setLossPeriod_10 (n := 13) rfl ?_
  refine V_iload_n X (q := 2) rfl rfl dX2_setLossPeriod_13 (n := 14) rfl ?_
  obtain ⟨g4, h⟩ := h
  refine V_aaR X (by decide) rfl g4 dX2_setLossPeriod_14 (n := 15) rfl ?_
  refine V_iload_n X (q := 1) rfl rfl dX2_setLossPeriod_15 (n := 16) rfl ?_
  refine V_iload_n X (q := 3) rfl rfl dX2_setLossPeriod_16 (n := 17) rfl ?_
  obtain ⟨g5, h⟩ := h
  refine V_istX X (row_lt g4 (by decide)) (row_sh14 g4) g5 dX2_setLossPeriod_17 (n := 18) rfl (fun C6 eC6 => ?_)
  have h := bd_at h eC6
  exact V_vret X hr hlk dX2_setLossPeriod_18 ⟨h, rfl⟩
abbrev rmX0_acceptsLossPeriod : Room := { frames := 1, cells := 0, slots := 0, locals := 23 }
theorem wX0_acceptsLossPeriod_22 : Cond.fieldLink RX0 22 "FloodBus$Description" "links" "LFloodBus$Links;" ∈ wsX0_acceptsLossPeriod := by decide +kernel
theorem wX0_acceptsLossPeriod_35 : Cond.fieldLink RX0 35 "FloodBus$Description" "firstNode" "I" ∈ wsX0_acceptsLossPeriod := by decide +kernel
theorem wX0_acceptsLossPeriod_38 : Cond.fieldLink RX0 38 "FloodBus$Description" "secondNode" "I" ∈ wsX0_acceptsLossPeriod := by decide +kernel
theorem wX0_acceptsLossPeriod_32 : Cond.fieldLink RX0 32 "FloodBus$Description" "expected" "I" ∈ wsX0_acceptsLossPeriod := by decide +kernel
theorem inX0_acceptsLossPeriod_X0 : ∀ w ∈ wsX00, w ∈ wsX0_acceptsLossPeriod := by decide +kernel
set_option maxRecDepth 100000 in
set_option maxHeartbeats 4000000 in
theorem TX0_acceptsLossPeriod (l : Launch) (D : va_G) (G : Gc) (ρ : Nat → Nat) (C : Xm) (N : Nm)  (a1 : Int32) (K : Int32 → Xm → Prop) (h : fX0_acceptsLossPeriod C a1 K) : Ki l yX0_acceptsLossPeriod wsX0_acceptsLossPeriod rmX0_acceptsLossPeriod D G ρ [.ref (ρ 1), .int a1] C N (fun r C1 N1 => K r C1 ∧ N1 = N) := by
  refine Ki.ofV (cc := cX0_acceptsLossPeriod) (maxL := 2) (ret := (some .boolean)) (by decide +kernel) rfl (Nat.le_of_ble_eq_true rfl) ?_
  intro p e s m args below meth c X hr hlk
  show V p l e rmX0_acceptsLossPeriod s m args below meth c D G ρ (WA ρ s.heap.size) s.heap 2 0 0 (Qi D G ρ s args below (fun r C1 N1 => K r C1 ∧ N1 = N)) 0 [(0, .ref (ρ 1)), (1, .int a1)] [] C N
  unfold fX0_acceptsLossPeriod at h
  refine V_iload_n X (q := 1) rfl rfl dX0_acceptsLossPeriod_0 (n := 1) rfl ?_
  refine V_iconst X (v := 2) (by decide) dX0_acceptsLossPeriod_1 (n := 2) rfl ?_
  refine jn_o h (fun j1 ej1 h => ?_)
  have kj1 : j1 → V p l e rmX0_acceptsLossPeriod s m args below meth c D G ρ (WA ρ s.heap.size) s.heap 2 0 0 (Qi D G ρ s args below (fun r C1 N1 => K r C1 ∧ N1 = N)) 11 [(0, .ref (ρ 1)), (1, .int a1)] [] C N := by
    intro  h
    rw [ej1] at h
    refine V_iconst X (v := 0) (by decide) dX0_acceptsLossPeriod_11 (n := 12) rfl ?_
    exact V_zret X hr hlk (by decide) dX0_acceptsLossPeriod_12 ⟨h, rfl⟩
  refine V_icmp_lt X dX0_acceptsLossPeriod_2 (tgt := 11) (n := 5) (by decide) rfl (fun c2 => ?_) (fun c2 => ?_)
  · have h := ite_t h c2
    exact kj1  h
  · have h := ite_f h c2
    refine V_iload_n X (q := 1) rfl rfl dX0_acceptsLossPeriod_5 (n := 6) rfl ?_
    refine V_bipush X (v := 9) (by decide) dX0_acceptsLossPeriod_6 (n := 8) rfl ?_
    refine V_icmp_le X dX0_acceptsLossPeriod_8 (tgt := 13) (n := 11) (by decide) rfl (fun c3 => ?_) (fun c3 => ?_)
    · have h := ite_t h c3
      refine V_aload_n X (q := 0) rfl rfl dX0_acceptsLossPeriod_13 (n := 14) rfl ?_
      refine V_getR X (by decide) rfl rfl (k := 2) inX0_acceptsLossPeriod_X0 rfl (by decide) wX0_acceptsLossPeriod_22 dX0_acceptsLossPeriod_14 (n := 17) rfl ?_
      refine V_aload_n X (q := 0) rfl rfl dX0_acceptsLossPeriod_17 (n := 18) rfl ?_
      refine V_getX X (by decide) rfl rfl (k := 6) inX0_acceptsLossPeriod_X0 rfl (by decide) wX0_acceptsLossPeriod_35 dX0_acceptsLossPeriod_18 (n := 21) rfl ?_
      refine V_aload_n X (q := 0) rfl rfl dX0_acceptsLossPeriod_21 (n := 22) rfl ?_
      refine V_getX X (by decide) rfl rfl (k := 7) inX0_acceptsLossPeriod_X0 rfl (by decide) wX0_acceptsLossPeriod_38 dX0_acceptsLossPeriod_22 (n := 25) rfl ?_
      refine V_iload_n X (q := 1) rfl rfl dX0_acceptsLossPeriod_25 (n := 26) rfl ?_
      refine V_callv X (As := [.int (C 1 6), .int (C 1 7), .int a1]) (rest := []) (nA := 3) (i := 3) (q := (RX2, TX2, 2)) (TX2_setLossPeriod l D G ρ C N (C 1 6) (C 1 7) a1 _ h) gX0_acceptsLossPeriod_X2_setLossPeriod rfl rfl rfl (by decide +kernel) rfl ⟨by decide, by decide⟩ (Nat.le_of_ble_eq_true rfl) ⟨by decide, by decide⟩ (by decide) rfl rfl rfl dX0_acceptsLossPeriod_26 (n := 29) rfl (fun C4 M0 h => ?_)
      obtain ⟨h, eo⟩ := h
      rw [eo]
      refine V_aload_n X (q := 0) rfl rfl dX0_acceptsLossPeriod_29 (n := 30) rfl ?_
      refine V_iconst X (v := 1) (by decide) dX0_acceptsLossPeriod_30 (n := 31) rfl ?_
      refine V_putX X (by decide) rfl rfl (k := 5) inX0_acceptsLossPeriod_X0 rfl (by decide) wX0_acceptsLossPeriod_32 tyX0 tyX0_ok nmX0 rfl (by decide +kernel) dX0_acceptsLossPeriod_31 (n := 34) rfl (fun C5 eC5 => ?_)
      have h := bd_at h eC5
      refine V_iconst X (v := 1) (by decide) dX0_acceptsLossPeriod_34 (n := 35) rfl ?_
      exact V_zret X hr hlk (by decide) dX0_acceptsLossPeriod_35 ⟨h, rfl⟩
    · have h := ite_f h c3
      exact kj1  h
abbrev rmX0_accepts : Room := { frames := 2, cells := 0, slots := 0, locals := 44 }
theorem wX0_accepts_32 : Cond.fieldLink RX0 32 "FloodBus$Description" "expected" "I" ∈ wsX0_accepts := by decide +kernel
theorem inX0_accepts_X0 : ∀ w ∈ wsX00, w ∈ wsX0_accepts := by decide +kernel
set_option maxRecDepth 100000 in
set_option maxHeartbeats 4000000 in
theorem TX0_accepts (l : Launch) (D : va_G) (G : Gc) (ρ : Nat → Nat) (C : Xm) (N : Nm)  (a1 : Int32) (K : Int32 → Xm → Prop) (h : fX0_accepts C a1 K) : Ki l yX0_accepts wsX0_accepts rmX0_accepts D G ρ [.ref (ρ 1), .int a1] C N (fun r C1 N1 => K r C1 ∧ N1 = N) := by
  refine Ki.ofV (cc := cX0_accepts) (maxL := 2) (ret := (some .boolean)) (by decide +kernel) rfl (Nat.le_of_ble_eq_true rfl) ?_
  intro p e s m args below meth c X hr hlk
  show V p l e rmX0_accepts s m args below meth c D G ρ (WA ρ s.heap.size) s.heap 2 0 0 (Qi D G ρ s args below (fun r C1 N1 => K r C1 ∧ N1 = N)) 0 [(0, .ref (ρ 1)), (1, .int a1)] [] C N
  unfold fX0_accepts at h
  refine V_aload_n X (q := 0) rfl rfl dX0_accepts_0 (n := 1) rfl ?_
  refine V_getX X (by decide) rfl rfl (k := 5) inX0_accepts_X0 rfl (by decide) wX0_accepts_32 dX0_accepts_1 (n := 4) rfl ?_
  by_cases c1 : (C 1 5) = 0
  · have h := ite_t h c1
    refine V_tableAt X c1 dX0_accepts_4 (by decide) (by decide) rfl (tgt := 40) (by decide) ?_
    refine V_aload_n X (q := 0) rfl rfl dX0_accepts_40 (n := 41) rfl ?_
    refine V_iload_n X (q := 1) rfl rfl dX0_accepts_41 (n := 42) rfl ?_
    refine V_bipush X (v := 48) (by decide) dX0_accepts_42 (n := 44) rfl ?_
    refine V_isub X dX0_accepts_44 (n := 45) rfl ?_
    refine V_calli X (As := [.int (a1 - (48 : Int32))]) (rest := []) (nA := 1) (i := 1) (q := (RX0, TX0, 8)) (TX0_acceptsNodeCount l D G ρ C N (a1 - (48 : Int32)) _ h) gX0_accepts_X0_acceptsNodeCount rfl rfl rfl (by decide +kernel) rfl ⟨by decide, by decide⟩ (Nat.le_of_ble_eq_true rfl) ⟨by decide, by decide⟩ (by decide) rfl rfl rfl dX0_accepts_45 (n := 48) rfl (fun r6 C7 M0 h => ?_)
    obtain ⟨h, eo⟩ := h
    rw [eo]
    obtain ⟨g8, h⟩ := h
    exact V_zret X hr hlk g8 dX0_accepts_48 ⟨h, rfl⟩
  · have h := ite_f h c1
    by_cases c2 : (C 1 5) = 1
    · have h := ite_t h c2
      refine V_tableAt X c2 dX0_accepts_4 (by decide) (by decide) rfl (tgt := 49) (by decide) ?_
      refine V_aload_n X (q := 0) rfl rfl dX0_accepts_49 (n := 50) rfl ?_
      refine V_iload_n X (q := 1) rfl rfl dX0_accepts_50 (n := 51) rfl ?_
      refine V_calli X (As := [.int a1]) (rest := []) (nA := 1) (i := 1) (q := (RX0, TX0, 8)) (TX0_acceptsLinkMark l D G ρ C N a1 _ h) gX0_accepts_X0_acceptsLinkMark rfl rfl rfl (by decide +kernel) rfl ⟨by decide, by decide⟩ (Nat.le_of_ble_eq_true rfl) ⟨by decide, by decide⟩ (by decide) rfl rfl rfl dX0_accepts_51 (n := 54) rfl (fun r9 C10 M0 h => ?_)
      obtain ⟨h, eo⟩ := h
      rw [eo]
      obtain ⟨g11, h⟩ := h
      exact V_zret X hr hlk g11 dX0_accepts_54 ⟨h, rfl⟩
    · have h := ite_f h c2
      by_cases c3 : (C 1 5) = 2
      · have h := ite_t h c3
        refine V_tableAt X c3 dX0_accepts_4 (by decide) (by decide) rfl (tgt := 55) (by decide) ?_
        refine V_aload_n X (q := 0) rfl rfl dX0_accepts_55 (n := 56) rfl ?_
        refine V_iload_n X (q := 1) rfl rfl dX0_accepts_56 (n := 57) rfl ?_
        refine V_bipush X (v := 48) (by decide) dX0_accepts_57 (n := 59) rfl ?_
        refine V_isub X dX0_accepts_59 (n := 60) rfl ?_
        refine V_calli X (As := [.int (a1 - (48 : Int32))]) (rest := []) (nA := 1) (i := 1) (q := (RX0, TX0, 8)) (TX0_acceptsFirstNode l D G ρ C N (a1 - (48 : Int32)) _ h) gX0_accepts_X0_acceptsFirstNode rfl rfl rfl (by decide +kernel) rfl ⟨by decide, by decide⟩ (Nat.le_of_ble_eq_true rfl) ⟨by decide, by decide⟩ (by decide) rfl rfl rfl dX0_accepts_60 (n := 63) rfl (fun r12 C13 M0 h => ?_)
        obtain ⟨h, eo⟩ := h
        rw [eo]
        obtain ⟨g14, h⟩ := h
        exact V_zret X hr hlk g14 dX0_accepts_63 ⟨h, rfl⟩
      · have h := ite_f h c3
        by_cases c4 : (C 1 5) = 3
        · have h := ite_t h c4
          refine V_tableAt X c4 dX0_accepts_4 (by decide) (by decide) rfl (tgt := 64) (by decide) ?_
          refine V_aload_n X (q := 0) rfl rfl dX0_accepts_64 (n := 65) rfl ?_
          refine V_iload_n X (q := 1) rfl rfl dX0_accepts_65 (n := 66) rfl ?_
          refine V_bipush X (v := 48) (by decide) dX0_accepts_66 (n := 68) rfl ?_
          refine V_isub X dX0_accepts_68 (n := 69) rfl ?_
          refine V_calli X (As := [.int (a1 - (48 : Int32))]) (rest := []) (nA := 1) (i := 1) (q := (RX0, TX0, 8)) (TX0_acceptsSecondNode l D G ρ C N (a1 - (48 : Int32)) _ h) gX0_accepts_X0_acceptsSecondNode rfl rfl rfl (by decide +kernel) rfl ⟨by decide, by decide⟩ (Nat.le_of_ble_eq_true rfl) ⟨by decide, by decide⟩ (by decide) rfl rfl rfl dX0_accepts_69 (n := 72) rfl (fun r15 C16 M0 h => ?_)
          obtain ⟨h, eo⟩ := h
          rw [eo]
          obtain ⟨g17, h⟩ := h
          exact V_zret X hr hlk g17 dX0_accepts_72 ⟨h, rfl⟩
        · have h := ite_f h c4
          by_cases c5 : (C 1 5) = 4
          · have h := ite_t h c5
            refine V_tableAt X c5 dX0_accepts_4 (by decide) (by decide) rfl (tgt := 73) (by decide) ?_
            refine V_aload_n X (q := 0) rfl rfl dX0_accepts_73 (n := 74) rfl ?_
            refine V_iload_n X (q := 1) rfl rfl dX0_accepts_74 (n := 75) rfl ?_
            refine V_bipush X (v := 48) (by decide) dX0_accepts_75 (n := 77) rfl ?_
            refine V_isub X dX0_accepts_77 (n := 78) rfl ?_
            refine V_calli X (As := [.int (a1 - (48 : Int32))]) (rest := []) (nA := 1) (i := 1) (q := (RX0, TX0, 8)) (TX0_acceptsStrength l D G ρ C N (a1 - (48 : Int32)) _ h) gX0_accepts_X0_acceptsStrength rfl rfl rfl (by decide +kernel) rfl ⟨by decide, by decide⟩ (Nat.le_of_ble_eq_true rfl) ⟨by decide, by decide⟩ (by decide) rfl rfl rfl dX0_accepts_78 (n := 81) rfl (fun r18 C19 M0 h => ?_)
            obtain ⟨h, eo⟩ := h
            rw [eo]
            obtain ⟨g20, h⟩ := h
            exact V_zret X hr hlk g20 dX0_accepts_81 ⟨h, rfl⟩
          · have h := ite_f h c5
            have kd : V p l e rmX0_accepts s m args below meth c D G ρ (WA ρ s.heap.size) s.heap 2 0 0 (Qi D G ρ s args below (fun r C1 N1 => K r C1 ∧ N1 = N)) 82 [(0, .ref (ρ 1)), (1, .int a1)] [] C N := by
              refine V_aload_n X (q := 0) rfl rfl dX0_accepts_82 (n := 83) rfl ?_
              refine V_iload_n X (q := 1) rfl rfl dX0_accepts_83 (n := 84) rfl ?_
              refine V_bipush X (v := 48) (by decide) dX0_accepts_84 (n := 86) rfl ?_
              refine V_isub X dX0_accepts_86 (n := 87) rfl ?_
              refine V_calli X (As := [.int (a1 - (48 : Int32))]) (rest := []) (nA := 1) (i := 1) (q := (RX0, TX0, 8)) (TX0_acceptsLossPeriod l D G ρ C N (a1 - (48 : Int32)) _ h) gX0_accepts_X0_acceptsLossPeriod rfl rfl rfl (by decide +kernel) rfl ⟨by decide, by decide⟩ (Nat.le_of_ble_eq_true rfl) ⟨by decide, by decide⟩ (by decide) rfl rfl rfl dX0_accepts_87 (n := 90) rfl (fun r21 C22 M0 h => ?_)
              obtain ⟨h, eo⟩ := h
              rw [eo]
              refine jn_o h (fun j24 ej24 h => ?_)
              have kj24 : ∀ (x30 : Int32) (C31 : Xm), j24 x30 C31 → V p l e rmX0_accepts s m args below meth c D G ρ (WA ρ s.heap.size) s.heap 2 0 0 (Qi D G ρ s args below (fun r C1 N1 => K r C1 ∧ N1 = N)) 106 [(0, .ref (ρ 1)), (1, .int a1)] [.int x30] C31 N := by
                intro x30 C31 h
                rw [ej24] at h
                try dsimp only at h
                obtain ⟨g32, h⟩ := h
                exact V_zret X hr hlk g32 dX0_accepts_106 ⟨h, rfl⟩
              refine jn_o h (fun j23 ej23 h => ?_)
              have kj23 : ∀ (C29 : Xm), j23 C29 → V p l e rmX0_accepts s m args below meth c D G ρ (WA ρ s.heap.size) s.heap 2 0 0 (Qi D G ρ s args below (fun r C1 N1 => K r C1 ∧ N1 = N)) 101 [(0, .ref (ρ 1)), (1, .int a1)] [] C29 N := by
                intro C29 h
                rw [ej23] at h
                try dsimp only at h
                refine V_iconst X (v := 1) (by decide) dX0_accepts_101 (n := 102) rfl ?_
                refine V_goto X dX0_accepts_102 (tgt := 106) (by decide) ?_
                exact kj24 (1 : Int32) C29 h
              refine V_if_ne X dX0_accepts_90 (tgt := 101) (n := 93) (by decide) rfl (fun c25 => ?_) (fun c25 => ?_)
              · have h := ite_f h c25
                exact kj23 C22 h
              · have h := ite_t h c25
                refine V_aload_n X (q := 0) rfl rfl dX0_accepts_93 (n := 94) rfl ?_
                refine V_iload_n X (q := 1) rfl rfl dX0_accepts_94 (n := 95) rfl ?_
                refine V_calli X (As := [.int a1]) (rest := []) (nA := 1) (i := 1) (q := (RX0, TX0, 8)) (TX0_acceptsLinkMark l D G ρ C22 N a1 _ h) gX0_accepts_X0_acceptsLinkMark rfl rfl rfl (by decide +kernel) rfl ⟨by decide, by decide⟩ (Nat.le_of_ble_eq_true rfl) ⟨by decide, by decide⟩ (by decide) rfl rfl rfl dX0_accepts_95 (n := 98) rfl (fun r26 C27 M0 h => ?_)
                obtain ⟨h, eo⟩ := h
                rw [eo]
                refine V_if_eq X dX0_accepts_98 (tgt := 105) (n := 101) (by decide) rfl (fun c28 => ?_) (fun c28 => ?_)
                · have h := ite_t h c28
                  refine V_iconst X (v := 0) (by decide) dX0_accepts_105 (n := 106) rfl ?_
                  exact kj24 (0 : Int32) C27 h
                · have h := ite_f h c28
                  exact kj23 C27 h
            exact V_tableOut X dX0_accepts_4 (ts_out5 c1 c2 c3 c4 c5) (tgt := 82) (by decide) kd
abbrev rmX0_findError : Room := { frames := 3, cells := 0, slots := 0, locals := 65 }
theorem wX0_findError_22 : Cond.fieldLink RX0 22 "FloodBus$Description" "links" "LFloodBus$Links;" ∈ wsX0_findError := by decide +kernel
theorem wX0_findError_29 : Cond.fieldLink RX0 29 "FloodBus$Description" "linkCount" "I" ∈ wsX0_findError := by decide +kernel
theorem wX0_findError_32 : Cond.fieldLink RX0 32 "FloodBus$Description" "expected" "I" ∈ wsX0_findError := by decide +kernel
theorem wX0_findError_15 : Cond.fieldLink RX0 15 "FloodBus$Description" "length" "I" ∈ wsX0_findError := by decide +kernel
theorem wX0_findError_9 : Cond.fieldLink RX0 9 "FloodBus$Description" "characters" "[I" ∈ wsX0_findError := by decide +kernel
theorem inX0_findError_X0 : ∀ w ∈ wsX00, w ∈ wsX0_findError := by decide +kernel
set_option maxRecDepth 100000 in
set_option maxHeartbeats 4000000 in
theorem TX0_findError_L19 {p : Program} {l : Launch} {e : Env} {s : State} {m : MethodId} {args : Array Value} {below : List Frame} {meth : Method} {c : Code} {D : va_G} {G : Gc} {ρ : Nat → Nat} (X : Cx p s m args c cX0_findError 2 RX0 wsX0_findError D G ρ (WA ρ s.heap.size) s.heap) (hr : meth.sig.returnType = some .int) (hlk : meth.locks = false) (N : Nm)   {E : Int32 → Xm → Prop} {K : Int32 → Xm → Prop} (hE : ∀ (v1 : Int32) (C : Xm), E v1 C → V p l e rmX0_findError s m args below meth c D G ρ (WA ρ s.heap.size) s.heap 2 0 0 (Qi D G ρ s args below (fun r C1 N1 => K r C1 ∧ N1 = N)) 48 [(0, .ref (ρ 1)), (1, .int v1)] [] C N) : ∀ (n : Nat) (v1 : Int32) (C : Xm), fX0_findError_L19  E K n v1 C → V p l e rmX0_findError s m args below meth c D G ρ (WA ρ s.heap.size) s.heap 2 0 0 (Qi D G ρ s args below (fun r C1 N1 => K r C1 ∧ N1 = N)) 19 [(0, .ref (ρ 1)), (1, .int v1)] [] C N := by
  intro n
  induction n with
  | zero => intro v1 C h; exact h.elim
  | succ n ih =>
    intro v1 C h
    unfold fX0_findError_L19 at h
    refine V_iload_n X (q := 1) rfl rfl dX0_findError_19 (n := 20) rfl ?_
    refine V_aload_n X (q := 0) rfl rfl dX0_findError_20 (n := 21) rfl ?_
    refine V_getX X (by decide) rfl rfl (k := 1) inX0_findError_X0 rfl (by decide) wX0_findError_15 dX0_findError_21 (n := 24) rfl ?_
    refine V_icmp_ge X dX0_findError_24 (tgt := 48) (n := 27) (by decide) rfl (fun c4 => ?_) (fun c4 => ?_)
    · have h := ite_t h c4
      exact hE v1 C h
    · have h := ite_f h c4
      refine V_aload_n X (q := 0) rfl rfl dX0_findError_27 (n := 28) rfl ?_
      refine V_aload_n X (q := 0) rfl rfl dX0_findError_28 (n := 29) rfl ?_
      refine V_getR X (by decide) rfl rfl (k := 0) inX0_findError_X0 rfl (by decide) wX0_findError_9 dX0_findError_29 (n := 32) rfl ?_
      refine V_iload_n X (q := 1) rfl rfl dX0_findError_32 (n := 33) rfl ?_
      obtain ⟨g5, h⟩ := h
      refine V_ildX X (by decide) rfl g5 dX0_findError_33 (n := 34) rfl ?_
      refine V_calli X (As := [.int (C 2 (Int32.toNatClampNeg v1))]) (rest := []) (nA := 1) (i := 1) (q := (RX0, TX0, 8)) (TX0_accepts l D G ρ C N (C 2 (Int32.toNatClampNeg v1)) _ h) gX0_findError_X0_accepts rfl rfl rfl (by decide +kernel) rfl ⟨by decide, by decide⟩ (Nat.le_of_ble_eq_true rfl) ⟨by decide, by decide⟩ (by decide) rfl rfl rfl dX0_findError_34 (n := 37) rfl (fun r6 C7 M0 h => ?_)
      obtain ⟨h, eo⟩ := h
      rw [eo]
      refine V_if_ne X dX0_findError_37 (tgt := 42) (n := 40) (by decide) rfl (fun c8 => ?_) (fun c8 => ?_)
      · have h := ite_f h c8
        obtain ⟨x9, ex9⟩ : ∃ z : Int32, z = v1 + (1 : Int32) := ⟨_, rfl⟩
        have h := bd_at h ex9
        refine V_iinc X (q := 1) (d := 1) (L2 := [(1, .int x9), (0, .ref (ρ 1))]) rfl (by decide) (by decide) ex9 rfl dX0_findError_42 (n := 45) rfl ?_
        refine V_goto X dX0_findError_45 (tgt := 19) (by decide) ?_
        refine V_loc [1, 0] rfl ?_
        exact ih x9 C7 h
      · have h := ite_t h c8
        refine V_iload_n X (q := 1) rfl rfl dX0_findError_40 (n := 41) rfl ?_
        exact V_iret X hr hlk dX0_findError_41 ⟨h, rfl⟩
set_option maxRecDepth 100000 in
set_option maxHeartbeats 4000000 in
theorem TX0_findError (l : Launch) (D : va_G) (G : Gc) (ρ : Nat → Nat) (C : Xm) (N : Nm)   (K : Int32 → Xm → Prop) (h : fX0_findError C K) : Ki l yX0_findError wsX0_findError rmX0_findError D G ρ [.ref (ρ 1)] C N (fun r C1 N1 => K r C1 ∧ N1 = N) := by
  refine Ki.ofV (cc := cX0_findError) (maxL := 2) (ret := (some .int)) (by decide +kernel) rfl (Nat.le_of_ble_eq_true rfl) ?_
  intro p e s m args below meth c X hr hlk
  show V p l e rmX0_findError s m args below meth c D G ρ (WA ρ s.heap.size) s.heap 2 0 0 (Qi D G ρ s args below (fun r C1 N1 => K r C1 ∧ N1 = N)) 0 [(0, .ref (ρ 1))] [] C N
  unfold fX0_findError at h
  refine V_aload_n X (q := 0) rfl rfl dX0_findError_0 (n := 1) rfl ?_
  refine V_getR X (by decide) rfl rfl (k := 2) inX0_findError_X0 rfl (by decide) wX0_findError_22 dX0_findError_1 (n := 4) rfl ?_
  refine V_callv X (As := []) (rest := []) (nA := 0) (i := 3) (q := (RX2, TX2, 2)) (TX2_clear l D G ρ C N  _ h) gX0_findError_X2_clear rfl rfl rfl (by decide +kernel) rfl ⟨by decide, by decide⟩ (Nat.le_of_ble_eq_true rfl) ⟨by decide, by decide⟩ (by decide) rfl rfl rfl dX0_findError_4 (n := 7) rfl (fun C1 M0 h => ?_)
  obtain ⟨h, eo⟩ := h
  rw [eo]
  refine V_aload_n X (q := 0) rfl rfl dX0_findError_7 (n := 8) rfl ?_
  refine V_iconst X (v := 0) (by decide) dX0_findError_8 (n := 9) rfl ?_
  refine V_putX X (by decide) rfl rfl (k := 4) inX0_findError_X0 rfl (by decide) wX0_findError_29 tyX0 tyX0_ok nmX0 rfl (by decide +kernel) dX0_findError_9 (n := 12) rfl (fun C2 eC2 => ?_)
  have h := bd_at h eC2
  refine V_aload_n X (q := 0) rfl rfl dX0_findError_12 (n := 13) rfl ?_
  refine V_iconst X (v := 0) (by decide) dX0_findError_13 (n := 14) rfl ?_
  refine V_putX X (by decide) rfl rfl (k := 5) inX0_findError_X0 rfl (by decide) wX0_findError_32 tyX0 tyX0_ok nmX0 rfl (by decide +kernel) dX0_findError_14 (n := 17) rfl (fun C3 eC3 => ?_)
  have h := bd_at h eC3
  refine V_iconst X (v := 0) (by decide) dX0_findError_17 (n := 18) rfl ?_
  refine V_istore_n X (L2 := [(1, .int (0 : Int32)), (0, .ref (ρ 1))]) rfl (by decide) rfl dX0_findError_18 (n := 19) rfl ?_
  refine jn_o h (fun j10 ej10 h => ?_)
  have kj10 : ∀ (x11 : Int32) (C12 : Xm), j10 x11 C12 → V p l e rmX0_findError s m args below meth c D G ρ (WA ρ s.heap.size) s.heap 2 0 0 (Qi D G ρ s args below (fun r C1 N1 => K r C1 ∧ N1 = N)) 48 [(0, .ref (ρ 1)), (1, .int x11)] [] C12 N := by
    intro x11 C12 h
    rw [ej10] at h
    try dsimp only at h
    refine V_aload_n X (q := 0) rfl rfl dX0_findError_48 (n := 49) rfl ?_
    refine V_getX X (by decide) rfl rfl (k := 1) inX0_findError_X0 rfl (by decide) wX0_findError_15 dX0_findError_49 (n := 52) rfl ?_
    exact V_iret X hr hlk dX0_findError_52 ⟨h, rfl⟩
  refine V_loc [1, 0] rfl ?_
  exact TX0_findError_L19 X hr hlk N  (E := j10) (K := K) kj10 200 (0 : Int32) C3 h
abbrev rmX7_errorPosition : Room := { frames := 4, cells := 0, slots := 0, locals := 86 }
theorem wX7_errorPosition_10 : Cond.fieldLink RX7 10 "FloodBus" "description" "LFloodBus$Description;" ∈ wsX7_errorPosition := by decide +kernel
theorem inX7_errorPosition_X7 : ∀ w ∈ wsX70, w ∈ wsX7_errorPosition := by decide +kernel
set_option maxRecDepth 100000 in
set_option maxHeartbeats 4000000 in
theorem TX7_errorPosition (l : Launch) (D : va_G) (G : Gc) (ρ : Nat → Nat) (C : Xm) (N : Nm)   (K : Int32 → Xm → Prop) (h : fX7_errorPosition C K) : Ki l yX7_errorPosition wsX7_errorPosition rmX7_errorPosition D G ρ [.ref (ρ 0)] C N (fun r C1 N1 => K r C1 ∧ N1 = N) := by
  refine Ki.ofV (cc := cX7_errorPosition) (maxL := 1) (ret := (some .int)) (by decide +kernel) rfl (Nat.le_of_ble_eq_true rfl) ?_
  intro p e s m args below meth c X hr hlk
  show V p l e rmX7_errorPosition s m args below meth c D G ρ (WA ρ s.heap.size) s.heap 1 0 0 (Qi D G ρ s args below (fun r C1 N1 => K r C1 ∧ N1 = N)) 0 [(0, .ref (ρ 0))] [] C N
  unfold fX7_errorPosition at h
  refine V_aload_n X (q := 0) rfl rfl dX7_errorPosition_0 (n := 1) rfl ?_
  refine V_getR X (by decide) rfl rfl (k := 0) inX7_errorPosition_X7 rfl (by decide) wX7_errorPosition_10 dX7_errorPosition_1 (n := 4) rfl ?_
  refine V_calli X (As := []) (rest := []) (nA := 0) (i := 1) (q := (RX0, TX0, 8)) (TX0_findError l D G ρ C N  _ h) gX7_errorPosition_X0_findError rfl rfl rfl (by decide +kernel) rfl ⟨by decide, by decide⟩ (Nat.le_of_ble_eq_true rfl) ⟨by decide, by decide⟩ (by decide) rfl rfl rfl dX7_errorPosition_4 (n := 7) rfl (fun r1 C2 M0 h => ?_)
  obtain ⟨h, eo⟩ := h
  rw [eo]
  exact V_iret X hr hlk dX7_errorPosition_7 ⟨h, rfl⟩
abbrev rmX0_isComplete : Room := { frames := 4, cells := 0, slots := 0, locals := 86 }
theorem wX0_isComplete_15 : Cond.fieldLink RX0 15 "FloodBus$Description" "length" "I" ∈ wsX0_isComplete := by decide +kernel
theorem wX0_isComplete_32 : Cond.fieldLink RX0 32 "FloodBus$Description" "expected" "I" ∈ wsX0_isComplete := by decide +kernel
theorem inX0_isComplete_X0 : ∀ w ∈ wsX00, w ∈ wsX0_isComplete := by decide +kernel
set_option maxRecDepth 100000 in
set_option maxHeartbeats 4000000 in
theorem TX0_isComplete (l : Launch) (D : va_G) (G : Gc) (ρ : Nat → Nat) (C : Xm) (N : Nm)   (K : Int32 → Xm → Prop) (h : fX0_isComplete C K) : Ki l yX0_isComplete wsX0_isComplete rmX0_isComplete D G ρ [.ref (ρ 1)] C N (fun r C1 N1 => K r C1 ∧ N1 = N) := by
  refine Ki.ofV (cc := cX0_isComplete) (maxL := 1) (ret := (some .boolean)) (by decide +kernel) rfl (Nat.le_of_ble_eq_true rfl) ?_
  intro p e s m args below meth c X hr hlk
  show V p l e rmX0_isComplete s m args below meth c D G ρ (WA ρ s.heap.size) s.heap 1 0 0 (Qi D G ρ s args below (fun r C1 N1 => K r C1 ∧ N1 = N)) 0 [(0, .ref (ρ 1))] [] C N
  unfold fX0_isComplete at h
  refine V_aload_n X (q := 0) rfl rfl dX0_isComplete_0 (n := 1) rfl ?_
  refine V_calli X (As := []) (rest := []) (nA := 0) (i := 1) (q := (RX0, TX0, 8)) (TX0_findError l D G ρ C N  _ h) gX0_isComplete_X0_findError rfl rfl rfl (by decide +kernel) rfl ⟨by decide, by decide⟩ (Nat.le_of_ble_eq_true rfl) ⟨by decide, by decide⟩ (by decide) rfl rfl rfl dX0_isComplete_1 (n := 4) rfl (fun r1 C2 M0 h => ?_)
  obtain ⟨h, eo⟩ := h
  rw [eo]
  refine V_aload_n X (q := 0) rfl rfl dX0_isComplete_4 (n := 5) rfl ?_
  refine V_getX X (by decide) rfl rfl (k := 1) inX0_isComplete_X0 rfl (by decide) wX0_isComplete_15 dX0_isComplete_5 (n := 8) rfl ?_
  refine jn_o h (fun j4 ej4 h => ?_)
  have kj4 : ∀ (x9 : Int32), j4 x9 → V p l e rmX0_isComplete s m args below meth c D G ρ (WA ρ s.heap.size) s.heap 1 0 0 (Qi D G ρ s args below (fun r C1 N1 => K r C1 ∧ N1 = N)) 32 [(0, .ref (ρ 1))] [.int x9] C2 N := by
    intro x9 h
    rw [ej4] at h
    try dsimp only at h
    obtain ⟨g10, h⟩ := h
    exact V_zret X hr hlk g10 dX0_isComplete_32 ⟨h, rfl⟩
  refine jn_o h (fun j3 ej3 h => ?_)
  have kj3 : j3 → V p l e rmX0_isComplete s m args below meth c D G ρ (WA ρ s.heap.size) s.heap 1 0 0 (Qi D G ρ s args below (fun r C1 N1 => K r C1 ∧ N1 = N)) 31 [(0, .ref (ρ 1))] [] C2 N := by
    intro  h
    rw [ej3] at h
    refine V_iconst X (v := 0) (by decide) dX0_isComplete_31 (n := 32) rfl ?_
    exact kj4 (0 : Int32) h
  refine V_icmp_ne X dX0_isComplete_8 (tgt := 31) (n := 11) (by decide) rfl (fun c5 => ?_) (fun c5 => ?_)
  · have h := ite_f h c5
    exact kj3  h
  · have h := ite_t h c5
    refine V_aload_n X (q := 0) rfl rfl dX0_isComplete_11 (n := 12) rfl ?_
    refine V_getX X (by decide) rfl rfl (k := 5) inX0_isComplete_X0 rfl (by decide) wX0_isComplete_32 dX0_isComplete_12 (n := 15) rfl ?_
    refine V_iconst X (v := 1) (by decide) dX0_isComplete_15 (n := 16) rfl ?_
    refine jn_o h (fun j6 ej6 h => ?_)
    have kj6 : j6 → V p l e rmX0_isComplete s m args below meth c D G ρ (WA ρ s.heap.size) s.heap 1 0 0 (Qi D G ρ s args below (fun r C1 N1 => K r C1 ∧ N1 = N)) 27 [(0, .ref (ρ 1))] [] C2 N := by
      intro  h
      rw [ej6] at h
      refine V_iconst X (v := 1) (by decide) dX0_isComplete_27 (n := 28) rfl ?_
      refine V_goto X dX0_isComplete_28 (tgt := 32) (by decide) ?_
      exact kj4 (1 : Int32) h
    refine V_icmp_eq X dX0_isComplete_16 (tgt := 27) (n := 19) (by decide) rfl (fun c7 => ?_) (fun c7 => ?_)
    · have h := ite_t h c7
      exact kj6  h
    · have h := ite_f h c7
      refine V_aload_n X (q := 0) rfl rfl dX0_isComplete_19 (n := 20) rfl ?_
      refine V_getX X (by decide) rfl rfl (k := 5) inX0_isComplete_X0 rfl (by decide) wX0_isComplete_32 dX0_isComplete_20 (n := 23) rfl ?_
      refine V_iconst X (v := 5) (by decide) dX0_isComplete_23 (n := 24) rfl ?_
      refine V_icmp_ne X dX0_isComplete_24 (tgt := 31) (n := 27) (by decide) rfl (fun c8 => ?_) (fun c8 => ?_)
      · have h := ite_f h c8
        exact kj3  h
      · have h := ite_t h c8
        exact kj6  h
abbrev rmX2_copyFrom : Room := { frames := 1, cells := 0, slots := 0, locals := 60 }
theorem wX2_copyFrom_11 : Cond.fieldLink RX2 11 "FloodBus$Links" "strength" "[[I" ∈ wsX2_copyFrom := by decide +kernel
theorem wX2_copyFrom_251 : Cond.methodLink RX2 25 arraycopyName ∈ wsX2_copyFrom := by decide +kernel
theorem wX2_copyFrom_252 : Cond.native arraycopyName ∈ wsX2_copyFrom := by decide +kernel
theorem wX2_copyFrom_253 : Cond.static arraycopyName ∈ wsX2_copyFrom := by decide +kernel
theorem wX2_copyFrom_254 : Cond.initialized "java/lang/System" ∈ wsX2_copyFrom := by decide +kernel
theorem wX2_copyFrom_16 : Cond.fieldLink RX2 16 "FloodBus$Links" "lossPeriod" "[[I" ∈ wsX2_copyFrom := by decide +kernel
theorem inX2_copyFrom_X2 : ∀ w ∈ wsX20, w ∈ wsX2_copyFrom := by decide +kernel
set_option maxRecDepth 100000 in
set_option maxHeartbeats 4000000 in
theorem TX2_copyFrom_L2 {p : Program} {l : Launch} {e : Env} {s : State} {m : MethodId} {args : Array Value} {below : List Frame} {meth : Method} {c : Code} {D : va_G} {G : Gc} {ρ : Nat → Nat} (X : Cx p s m args c cX2_copyFrom 3 RX2 wsX2_copyFrom D G ρ (WA ρ s.heap.size) s.heap) (hr : meth.sig.returnType = none) (hlk : meth.locks = false) (N : Nm)   {E : Int32 → Xm → Prop} {K : Xm → Prop} (hE : ∀ (v2 : Int32) (C : Xm), E v2 C → V p l e rmX2_copyFrom s m args below meth c D G ρ (WA ρ s.heap.size) s.heap 3 0 0 (Qv D G ρ s args below (fun C1 N1 => K C1 ∧ N1 = N)) 52 [(0, .ref (ρ 23)), (1, .ref (ρ 3)), (2, .int v2)] [] C N) : ∀ (n : Nat) (v2 : Int32) (C : Xm), fX2_copyFrom_L2  E K n v2 C → V p l e rmX2_copyFrom s m args below meth c D G ρ (WA ρ s.heap.size) s.heap 3 0 0 (Qv D G ρ s args below (fun C1 N1 => K C1 ∧ N1 = N)) 2 [(0, .ref (ρ 23)), (1, .ref (ρ 3)), (2, .int v2)] [] C N := by
  intro n
  induction n with
  | zero => intro v2 C h; exact h.elim
  | succ n ih =>
    intro v2 C h
    unfold fX2_copyFrom_L2 at h
    refine V_iload_n X (q := 2) rfl rfl dX2_copyFrom_2 (n := 3) rfl ?_
    refine V_bipush X (v := 8) (by decide) dX2_copyFrom_3 (n := 5) rfl ?_
    refine V_icmp_ge X dX2_copyFrom_5 (tgt := 52) (n := 8) (by decide) rfl (fun c1 => ?_) (fun c1 => ?_)
    · have h := ite_t h c1
      exact hE v2 C h
    · have h := ite_f h c1
      refine V_aload_n X (q := 1) rfl rfl dX2_copyFrom_8 (n := 9) rfl ?_
      refine V_getR X (by decide) rfl rfl (k := 0) inX2_copyFrom_X2 rfl (by decide) wX2_copyFrom_11 dX2_copyFrom_9 (n := 12) rfl ?_
      refine V_iload_n X (q := 2) rfl rfl dX2_copyFrom_12 (n := 13) rfl ?_
      obtain ⟨g2, h⟩ := h
      refine V_aaR X (by decide) rfl g2 dX2_copyFrom_13 (n := 14) rfl ?_
      refine V_iconst X (v := 0) (by decide) dX2_copyFrom_14 (n := 15) rfl ?_
      refine V_aload_n X (q := 0) rfl rfl dX2_copyFrom_15 (n := 16) rfl ?_
      refine V_getR X (by decide) rfl rfl (k := 0) inX2_copyFrom_X2 rfl (by decide) wX2_copyFrom_11 dX2_copyFrom_16 (n := 19) rfl ?_
      refine V_iload_n X (q := 2) rfl rfl dX2_copyFrom_19 (n := 20) rfl ?_
      obtain ⟨g3, h⟩ := h
      refine V_aaR X (by decide) rfl g3 dX2_copyFrom_20 (n := 21) rfl ?_
      refine V_iconst X (v := 0) (by decide) dX2_copyFrom_21 (n := 22) rfl ?_
      refine V_bipush X (v := 8) (by decide) dX2_copyFrom_22 (n := 24) rfl ?_
      refine V_copy X wX2_copyFrom_251 wX2_copyFrom_252 wX2_copyFrom_253 wX2_copyFrom_254 (row_lt g3 (by decide)) (row_lt g3 (by decide)) (row_sh5 g3) (row_sh25 g3) (by decide) (by decide) (by decide) (by decide +kernel) (by decide +kernel) (by decide) (Nat.le_of_ble_eq_true rfl) dX2_copyFrom_24 (n := 27) rfl (fun C4 eC4 => ?_)
      have h := bd_at h eC4
      refine V_aload_n X (q := 1) rfl rfl dX2_copyFrom_27 (n := 28) rfl ?_
      refine V_getR X (by decide) rfl rfl (k := 1) inX2_copyFrom_X2 rfl (by decide) wX2_copyFrom_16 dX2_copyFrom_28 (n := 31) rfl ?_
      refine V_iload_n X (q := 2) rfl rfl dX2_copyFrom_31 (n := 32) rfl ?_
      obtain ⟨g5, h⟩ := h
      refine V_aaR X (by decide) rfl g5 dX2_copyFrom_32 (n := 33) rfl ?_
      refine V_iconst X (v := 0) (by decide) dX2_copyFrom_33 (n := 34) rfl ?_
      refine V_aload_n X (q := 0) rfl rfl dX2_copyFrom_34 (n := 35) rfl ?_
      refine V_getR X (by decide) rfl rfl (k := 1) inX2_copyFrom_X2 rfl (by decide) wX2_copyFrom_16 dX2_copyFrom_35 (n := 38) rfl ?_
      refine V_iload_n X (q := 2) rfl rfl dX2_copyFrom_38 (n := 39) rfl ?_
      obtain ⟨g6, h⟩ := h
      refine V_aaR X (by decide) rfl g6 dX2_copyFrom_39 (n := 40) rfl ?_
      refine V_iconst X (v := 0) (by decide) dX2_copyFrom_40 (n := 41) rfl ?_
      refine V_bipush X (v := 8) (by decide) dX2_copyFrom_41 (n := 43) rfl ?_
      refine V_copy X wX2_copyFrom_251 wX2_copyFrom_252 wX2_copyFrom_253 wX2_copyFrom_254 (row_lt g6 (by decide)) (row_lt g6 (by decide)) (row_sh14 g6) (row_sh34 g6) (by decide) (by decide) (by decide) (by decide +kernel) (by decide +kernel) (by decide) (Nat.le_of_ble_eq_true rfl) dX2_copyFrom_43 (n := 46) rfl (fun C7 eC7 => ?_)
      have h := bd_at h eC7
      obtain ⟨x8, ex8⟩ : ∃ z : Int32, z = v2 + (1 : Int32) := ⟨_, rfl⟩
      have h := bd_at h ex8
      refine V_iinc X (q := 2) (d := 1) (L2 := [(2, .int x8), (0, .ref (ρ 23)), (1, .ref (ρ 3))]) rfl (by decide) (by decide) ex8 rfl dX2_copyFrom_46 (n := 49) rfl ?_
      refine V_goto X dX2_copyFrom_49 (tgt := 2) (by decide) ?_
      refine V_loc [1, 2, 0] rfl ?_
      exact ih x8 C7 h
set_option maxRecDepth 100000 in
set_option maxHeartbeats 4000000 in
theorem TX2_copyFrom (l : Launch) (D : va_G) (G : Gc) (ρ : Nat → Nat) (C : Xm) (N : Nm)   (K : Xm → Prop) (h : fX2_copyFrom C K) : Kv l yX2_copyFrom wsX2_copyFrom rmX2_copyFrom D G ρ [.ref (ρ 23), .ref (ρ 3)] C N (fun C1 N1 => K C1 ∧ N1 = N) := by
  refine Kv.ofV (cc := cX2_copyFrom) (maxL := 3) (ret := none) (by decide +kernel) rfl (Nat.le_of_ble_eq_true rfl) ?_
  intro p e s m args below meth c X hr hlk
  show V p l e rmX2_copyFrom s m args below meth c D G ρ (WA ρ s.heap.size) s.heap 3 0 0 (Qv D G ρ s args below (fun C1 N1 => K C1 ∧ N1 = N)) 0 [(0, .ref (ρ 23)), (1, .ref (ρ 3))] [] C N
  unfold fX2_copyFrom at h
  refine V_iconst X (v := 0) (by decide) dX2_copyFrom_0 (n := 1) rfl ?_
  refine V_istore_n X (L2 := [(2, .int (0 : Int32)), (0, .ref (ρ 23)), (1, .ref (ρ 3))]) rfl (by decide) rfl dX2_copyFrom_1 (n := 2) rfl ?_
  refine jn_o h (fun j9 ej9 h => ?_)
  have kj9 : ∀ (x10 : Int32) (C11 : Xm), j9 x10 C11 → V p l e rmX2_copyFrom s m args below meth c D G ρ (WA ρ s.heap.size) s.heap 3 0 0 (Qv D G ρ s args below (fun C1 N1 => K C1 ∧ N1 = N)) 52 [(0, .ref (ρ 23)), (1, .ref (ρ 3)), (2, .int x10)] [] C11 N := by
    intro x10 C11 h
    rw [ej9] at h
    try dsimp only at h
    exact V_vret X hr hlk dX2_copyFrom_52 ⟨h, rfl⟩
  refine V_loc [1, 2, 0] rfl ?_
  exact TX2_copyFrom_L2 X hr hlk N  (E := j9) (K := K) kj9 200 (0 : Int32) C h
abbrev rmX3_startAnew : Room := { frames := 2, cells := 0, slots := 0, locals := 82 }
theorem wX3_startAnew_12 : Cond.fieldLink RX3 12 "FloodBus$Network" "links" "LFloodBus$Links;" ∈ wsX3_startAnew := by decide +kernel
theorem wX3_startAnew_18 : Cond.fieldLink RX3 18 "FloodBus$Network" "count" "I" ∈ wsX3_startAnew := by decide +kernel
theorem wX3_startAnew_22 : Cond.fieldLink RX3 22 "FloodBus$Network" "alive" "[Z" ∈ wsX3_startAnew := by decide +kernel
theorem wX3_startAnew_26 : Cond.fieldLink RX3 26 "FloodBus$Network" "missed" "[I" ∈ wsX3_startAnew := by decide +kernel
theorem wX3_startAnew_30 : Cond.fieldLink RX3 30 "FloodBus$Network" "sent" "[I" ∈ wsX3_startAnew := by decide +kernel
theorem inX3_startAnew_X3 : ∀ w ∈ wsX30, w ∈ wsX3_startAnew := by decide +kernel
set_option maxRecDepth 100000 in
set_option maxHeartbeats 4000000 in
theorem TX3_startAnew_L15 {p : Program} {l : Launch} {e : Env} {s : State} {m : MethodId} {args : Array Value} {below : List Frame} {meth : Method} {c : Code} {D : va_G} {G : Gc} {ρ : Nat → Nat} (X : Cx p s m args c cX3_startAnew 4 RX3 wsX3_startAnew D G ρ (WA ρ s.heap.size) s.heap) (hr : meth.sig.returnType = none) (hlk : meth.locks = false) (N : Nm) (p1 : Int32)  {E : Int32 → Xm → Prop} {K : Xm → Prop} (hE : ∀ (v3 : Int32) (C : Xm), E v3 C → V p l e rmX3_startAnew s m args below meth c D G ρ (WA ρ s.heap.size) s.heap 4 0 0 (Qv D G ρ s args below (fun C1 N1 => K C1 ∧ N1 = N)) 48 [(0, .ref (ρ 22)), (1, .int p1), (2, .ref (ρ 3)), (3, .int v3)] [] C N) : ∀ (n : Nat) (v3 : Int32) (C : Xm), fX3_startAnew_L15 p1 E K n v3 C → V p l e rmX3_startAnew s m args below meth c D G ρ (WA ρ s.heap.size) s.heap 4 0 0 (Qv D G ρ s args below (fun C1 N1 => K C1 ∧ N1 = N)) 15 [(0, .ref (ρ 22)), (1, .int p1), (2, .ref (ρ 3)), (3, .int v3)] [] C N := by
  intro n
  induction n with
  | zero => intro v3 C h; exact h.elim
  | succ n ih =>
    intro v3 C h
    unfold fX3_startAnew_L15 at h
    refine V_iload_n X (q := 3) rfl rfl dX3_startAnew_15 (n := 16) rfl ?_
    refine V_bipush X (v := 8) (by decide) dX3_startAnew_16 (n := 18) rfl ?_
    refine V_icmp_ge X dX3_startAnew_18 (tgt := 48) (n := 21) (by decide) rfl (fun c3 => ?_) (fun c3 => ?_)
    · have h := ite_t h c3
      exact hE v3 C h
    · have h := ite_f h c3
      refine V_aload_n X (q := 0) rfl rfl dX3_startAnew_21 (n := 22) rfl ?_
      refine V_getR X (by decide) rfl rfl (k := 2) inX3_startAnew_X3 rfl (by decide) wX3_startAnew_22 dX3_startAnew_22 (n := 25) rfl ?_
      refine V_iload_n X (q := 3) rfl rfl dX3_startAnew_25 (n := 26) rfl ?_
      refine V_iconst X (v := 1) (by decide) dX3_startAnew_26 (n := 27) rfl ?_
      obtain ⟨g4, h⟩ := h
      refine V_zstX X (by decide) (by decide) rfl g4 dX3_startAnew_27 (n := 28) rfl (fun C5 eC5 => ?_)
      have h := bd_at h eC5
      refine V_aload_n X (q := 0) rfl rfl dX3_startAnew_28 (n := 29) rfl ?_
      refine V_getR X (by decide) rfl rfl (k := 3) inX3_startAnew_X3 rfl (by decide) wX3_startAnew_26 dX3_startAnew_29 (n := 32) rfl ?_
      refine V_iload_n X (q := 3) rfl rfl dX3_startAnew_32 (n := 33) rfl ?_
      refine V_iconst X (v := 0) (by decide) dX3_startAnew_33 (n := 34) rfl ?_
      obtain ⟨g6, h⟩ := h
      refine V_istX X (by decide) rfl g6 dX3_startAnew_34 (n := 35) rfl (fun C7 eC7 => ?_)
      have h := bd_at h eC7
      refine V_aload_n X (q := 0) rfl rfl dX3_startAnew_35 (n := 36) rfl ?_
      refine V_getR X (by decide) rfl rfl (k := 4) inX3_startAnew_X3 rfl (by decide) wX3_startAnew_30 dX3_startAnew_36 (n := 39) rfl ?_
      refine V_iload_n X (q := 3) rfl rfl dX3_startAnew_39 (n := 40) rfl ?_
      refine V_iconst X (v := 0) (by decide) dX3_startAnew_40 (n := 41) rfl ?_
      obtain ⟨g8, h⟩ := h
      refine V_istX X (by decide) rfl g8 dX3_startAnew_41 (n := 42) rfl (fun C9 eC9 => ?_)
      have h := bd_at h eC9
      obtain ⟨x10, ex10⟩ : ∃ z : Int32, z = v3 + (1 : Int32) := ⟨_, rfl⟩
      have h := bd_at h ex10
      refine V_iinc X (q := 3) (d := 1) (L2 := [(3, .int x10), (0, .ref (ρ 22)), (1, .int p1), (2, .ref (ρ 3))]) rfl (by decide) (by decide) ex10 rfl dX3_startAnew_42 (n := 45) rfl ?_
      refine V_goto X dX3_startAnew_45 (tgt := 15) (by decide) ?_
      refine V_loc [1, 2, 3, 0] rfl ?_
      exact ih x10 C9 h
set_option maxRecDepth 100000 in
set_option maxHeartbeats 4000000 in
theorem TX3_startAnew (l : Launch) (D : va_G) (G : Gc) (ρ : Nat → Nat) (C : Xm) (N : Nm)  (a1 : Int32) (K : Xm → Prop) (h : fX3_startAnew C a1 K) : Kv l yX3_startAnew wsX3_startAnew rmX3_startAnew D G ρ [.ref (ρ 22), .int a1, .ref (ρ 3)] C N (fun C1 N1 => K C1 ∧ N1 = N) := by
  refine Kv.ofV (cc := cX3_startAnew) (maxL := 4) (ret := none) (by decide +kernel) rfl (Nat.le_of_ble_eq_true rfl) ?_
  intro p e s m args below meth c X hr hlk
  show V p l e rmX3_startAnew s m args below meth c D G ρ (WA ρ s.heap.size) s.heap 4 0 0 (Qv D G ρ s args below (fun C1 N1 => K C1 ∧ N1 = N)) 0 [(0, .ref (ρ 22)), (1, .int a1), (2, .ref (ρ 3))] [] C N
  unfold fX3_startAnew at h
  refine V_aload_n X (q := 0) rfl rfl dX3_startAnew_0 (n := 1) rfl ?_
  refine V_getR X (by decide) rfl rfl (k := 0) inX3_startAnew_X3 rfl (by decide) wX3_startAnew_12 dX3_startAnew_1 (n := 4) rfl ?_
  refine V_aload_n X (q := 2) rfl rfl dX3_startAnew_4 (n := 5) rfl ?_
  refine V_callv X (As := [.ref (ρ 3)]) (rest := []) (nA := 1) (i := 23) (q := (RX2, TX2, 2)) (TX2_copyFrom l D G ρ C N  _ h) gX3_startAnew_X2_copyFrom rfl rfl rfl (by decide +kernel) rfl ⟨by decide, by decide⟩ (Nat.le_of_ble_eq_true rfl) ⟨by decide, by decide⟩ (by decide) rfl rfl rfl dX3_startAnew_5 (n := 8) rfl (fun C1 M0 h => ?_)
  obtain ⟨h, eo⟩ := h
  rw [eo]
  refine V_aload_n X (q := 0) rfl rfl dX3_startAnew_8 (n := 9) rfl ?_
  refine V_iload_n X (q := 1) rfl rfl dX3_startAnew_9 (n := 10) rfl ?_
  refine V_putX X (by decide) rfl rfl (k := 1) inX3_startAnew_X3 rfl (by decide) wX3_startAnew_18 tyX3 tyX3_ok nmX3 rfl (by decide +kernel) dX3_startAnew_10 (n := 13) rfl (fun C2 eC2 => ?_)
  have h := bd_at h eC2
  refine V_iconst X (v := 0) (by decide) dX3_startAnew_13 (n := 14) rfl ?_
  refine V_istore_n X (L2 := [(3, .int (0 : Int32)), (0, .ref (ρ 22)), (1, .int a1), (2, .ref (ρ 3))]) rfl (by decide) rfl dX3_startAnew_14 (n := 15) rfl ?_
  refine jn_o h (fun j11 ej11 h => ?_)
  have kj11 : ∀ (x12 : Int32) (C13 : Xm), j11 x12 C13 → V p l e rmX3_startAnew s m args below meth c D G ρ (WA ρ s.heap.size) s.heap 4 0 0 (Qv D G ρ s args below (fun C1 N1 => K C1 ∧ N1 = N)) 48 [(0, .ref (ρ 22)), (1, .int a1), (2, .ref (ρ 3)), (3, .int x12)] [] C13 N := by
    intro x12 C13 h
    rw [ej11] at h
    try dsimp only at h
    exact V_vret X hr hlk dX3_startAnew_48 ⟨h, rfl⟩
  refine V_loc [1, 2, 3, 0] rfl ?_
  exact TX3_startAnew_L15 X hr hlk N a1 (E := j11) (K := K) kj11 200 (0 : Int32) C2 h
abbrev rmX1_forget : Room := { frames := 1, cells := 0, slots := 0, locals := 23 }
theorem wX1_forget_15 : Cond.fieldLink RX1 15 "FloodBus$Flooding" "packet" "[I" ∈ wsX1_forget := by decide +kernel
theorem wX1_forget_18 : Cond.fieldLink RX1 18 "FloodBus$Flooding" "hops" "[I" ∈ wsX1_forget := by decide +kernel
theorem wX1_forget_21 : Cond.fieldLink RX1 21 "FloodBus$Flooding" "length" "I" ∈ wsX1_forget := by decide +kernel
theorem inX1_forget_X1 : ∀ w ∈ wsX10, w ∈ wsX1_forget := by decide +kernel
set_option maxRecDepth 100000 in
set_option maxHeartbeats 4000000 in
theorem TX1_forget (l : Launch) (D : va_G) (G : Gc) (ρ : Nat → Nat) (C : Xm) (N : Nm)   (K : Xm → Prop) (h : fX1_forget C K) : Kv l yX1_forget wsX1_forget rmX1_forget D G ρ [.ref (ρ 46)] C N (fun C1 N1 => K C1 ∧ N1 = N) := by
  refine Kv.ofV (cc := cX1_forget) (maxL := 1) (ret := none) (by decide +kernel) rfl (Nat.le_of_ble_eq_true rfl) ?_
  intro p e s m args below meth c X hr hlk
  show V p l e rmX1_forget s m args below meth c D G ρ (WA ρ s.heap.size) s.heap 1 0 0 (Qv D G ρ s args below (fun C1 N1 => K C1 ∧ N1 = N)) 0 [(0, .ref (ρ 46))] [] C N
  unfold fX1_forget at h
  refine V_aload_n X (q := 0) rfl rfl dX1_forget_0 (n := 1) rfl ?_
  refine V_getR X (by decide) rfl rfl (k := 1) inX1_forget_X1 rfl (by decide) wX1_forget_15 dX1_forget_1 (n := 4) rfl ?_
  refine V_iconst X (v := -1) (by decide) dX1_forget_4 (n := 5) rfl ?_
  refine V_callsv X (As := [.ref (ρ 48), .int (-1 : Int32)]) (rest := []) (nA := 2) (T_fill l D G ρ C N (by decide) rfl (n0 := 8) (by decide) (-1 : Int32)) gX1_forget_J7_fill_53178 rfl rfl rfl (by decide +kernel) rfl ⟨by decide, by decide⟩ (Nat.le_of_ble_eq_true rfl) ⟨by decide, by decide⟩ rfl dX1_forget_5 (n := 8) rfl (fun C1 N0 hp => ?_)
  obtain ⟨eC1, eo⟩ := hp
  rw [eo]
  have h := bd_at h eC1
  refine V_aload_n X (q := 0) rfl rfl dX1_forget_8 (n := 9) rfl ?_
  refine V_getR X (by decide) rfl rfl (k := 2) inX1_forget_X1 rfl (by decide) wX1_forget_18 dX1_forget_9 (n := 12) rfl ?_
  refine V_iconst X (v := -1) (by decide) dX1_forget_12 (n := 13) rfl ?_
  refine V_callsv X (As := [.ref (ρ 49), .int (-1 : Int32)]) (rest := []) (nA := 2) (T_fill l D G ρ C1 N (by decide) rfl (n0 := 8) (by decide) (-1 : Int32)) gX1_forget_J7_fill_53178 rfl rfl rfl (by decide +kernel) rfl ⟨by decide, by decide⟩ (Nat.le_of_ble_eq_true rfl) ⟨by decide, by decide⟩ rfl dX1_forget_13 (n := 16) rfl (fun C2 N0 hp => ?_)
  obtain ⟨eC2, eo⟩ := hp
  rw [eo]
  have h := bd_at h eC2
  refine V_aload_n X (q := 0) rfl rfl dX1_forget_16 (n := 17) rfl ?_
  refine V_iconst X (v := 0) (by decide) dX1_forget_17 (n := 18) rfl ?_
  refine V_putX X (by decide) rfl rfl (k := 3) inX1_forget_X1 rfl (by decide) wX1_forget_21 tyX1 tyX1_ok nmX1 rfl (by decide +kernel) dX1_forget_18 (n := 21) rfl (fun C3 eC3 => ?_)
  have h := bd_at h eC3
  exact V_vret X hr hlk dX1_forget_21 ⟨h, rfl⟩
abbrev rmX7_loadNetwork : Room := { frames := 5, cells := 0, slots := 0, locals := 106 }
theorem wX7_loadNetwork_10 : Cond.fieldLink RX7 10 "FloodBus" "description" "LFloodBus$Description;" ∈ wsX7_loadNetwork := by decide +kernel
theorem wX7_loadNetwork_19 : Cond.fieldLink RX7 19 "FloodBus" "network" "LFloodBus$Network;" ∈ wsX7_loadNetwork := by decide +kernel
theorem wX7_loadNetwork_72 : Cond.fieldLink RX7 72 "FloodBus$Description" "nodeCount" "I" ∈ wsX7_loadNetwork := by decide +kernel
theorem wX7_loadNetwork_75 : Cond.fieldLink RX7 75 "FloodBus$Description" "links" "LFloodBus$Links;" ∈ wsX7_loadNetwork := by decide +kernel
theorem wX7_loadNetwork_61 : Cond.fieldLink RX7 61 "FloodBus$Description" "length" "I" ∈ wsX7_loadNetwork := by decide +kernel
theorem wX7_loadNetwork_26 : Cond.fieldLink RX7 26 "FloodBus" "latestFlood" "LFloodBus$Flooding;" ∈ wsX7_loadNetwork := by decide +kernel
theorem wX7_loadNetwork_33 : Cond.fieldLink RX7 33 "FloodBus" "streams" "LFloodBus$StreamTable;" ∈ wsX7_loadNetwork := by decide +kernel
theorem wX7_loadNetwork_86 : Cond.fieldLink RX7 86 "FloodBus$StreamTable" "count" "I" ∈ wsX7_loadNetwork := by decide +kernel
theorem wX7_loadNetwork_40 : Cond.fieldLink RX7 40 "FloodBus" "schedule" "LFloodBus$Schedule;" ∈ wsX7_loadNetwork := by decide +kernel
theorem wX7_loadNetwork_89 : Cond.fieldLink RX7 89 "FloodBus$Schedule" "size" "I" ∈ wsX7_loadNetwork := by decide +kernel
theorem wX7_loadNetwork_51 : Cond.fieldLink RX7 51 "FloodBus" "hostNode" "I" ∈ wsX7_loadNetwork := by decide +kernel
theorem wX7_loadNetwork_54 : Cond.fieldLink RX7 54 "FloodBus" "nextRound" "I" ∈ wsX7_loadNetwork := by decide +kernel
theorem wX7_loadNetwork_92 : Cond.fieldLink RX7 92 "FloodBus$Network" "count" "I" ∈ wsX7_loadNetwork := by decide +kernel
theorem inX7_loadNetwork_X7 : ∀ w ∈ wsX70, w ∈ wsX7_loadNetwork := by decide +kernel
theorem inX7_loadNetwork_X0 : ∀ w ∈ wsX00, w ∈ wsX7_loadNetwork := by decide +kernel
theorem inX7_loadNetwork_X6 : ∀ w ∈ wsX60, w ∈ wsX7_loadNetwork := by decide +kernel
theorem inX7_loadNetwork_X4 : ∀ w ∈ wsX40, w ∈ wsX7_loadNetwork := by decide +kernel
theorem inX7_loadNetwork_X3 : ∀ w ∈ wsX30, w ∈ wsX7_loadNetwork := by decide +kernel
set_option maxRecDepth 100000 in
set_option maxHeartbeats 4000000 in
theorem TX7_loadNetwork (l : Launch) (D : va_G) (G : Gc) (ρ : Nat → Nat) (C : Xm) (N : Nm)   (K : Int32 → Xm → Prop) (h : fX7_loadNetwork C K) : Ki l yX7_loadNetwork wsX7_loadNetwork rmX7_loadNetwork D G ρ [.ref (ρ 0)] C N (fun r C1 N1 => K r C1 ∧ N1 = N) := by
  refine Ki.ofV (cc := cX7_loadNetwork) (maxL := 1) (ret := (some .int)) (by decide +kernel) rfl (Nat.le_of_ble_eq_true rfl) ?_
  intro p e s m args below meth c X hr hlk
  show V p l e rmX7_loadNetwork s m args below meth c D G ρ (WA ρ s.heap.size) s.heap 1 0 0 (Qi D G ρ s args below (fun r C1 N1 => K r C1 ∧ N1 = N)) 0 [(0, .ref (ρ 0))] [] C N
  unfold fX7_loadNetwork at h
  refine V_aload_n X (q := 0) rfl rfl dX7_loadNetwork_0 (n := 1) rfl ?_
  refine V_getR X (by decide) rfl rfl (k := 0) inX7_loadNetwork_X7 rfl (by decide) wX7_loadNetwork_10 dX7_loadNetwork_1 (n := 4) rfl ?_
  refine V_calli X (As := []) (rest := []) (nA := 0) (i := 1) (q := (RX0, TX0, 8)) (TX0_isComplete l D G ρ C N  _ h) gX7_loadNetwork_X0_isComplete rfl rfl rfl (by decide +kernel) rfl ⟨by decide, by decide⟩ (Nat.le_of_ble_eq_true rfl) ⟨by decide, by decide⟩ (by decide) rfl rfl rfl dX7_loadNetwork_4 (n := 7) rfl (fun r1 C2 M0 h => ?_)
  obtain ⟨h, eo⟩ := h
  rw [eo]
  refine V_if_ne X dX7_loadNetwork_7 (tgt := 14) (n := 10) (by decide) rfl (fun c3 => ?_) (fun c3 => ?_)
  · have h := ite_f h c3
    refine V_aload_n X (q := 0) rfl rfl dX7_loadNetwork_14 (n := 15) rfl ?_
    refine V_getR X (by decide) rfl rfl (k := 1) inX7_loadNetwork_X7 rfl (by decide) wX7_loadNetwork_19 dX7_loadNetwork_15 (n := 18) rfl ?_
    refine V_aload_n X (q := 0) rfl rfl dX7_loadNetwork_18 (n := 19) rfl ?_
    refine V_getR X (by decide) rfl rfl (k := 0) inX7_loadNetwork_X7 rfl (by decide) wX7_loadNetwork_10 dX7_loadNetwork_19 (n := 22) rfl ?_
    refine V_getX X (by decide) rfl rfl (k := 3) inX7_loadNetwork_X0 rfl (by decide) wX7_loadNetwork_72 dX7_loadNetwork_22 (n := 25) rfl ?_
    refine V_aload_n X (q := 0) rfl rfl dX7_loadNetwork_25 (n := 26) rfl ?_
    refine V_getR X (by decide) rfl rfl (k := 0) inX7_loadNetwork_X7 rfl (by decide) wX7_loadNetwork_10 dX7_loadNetwork_26 (n := 29) rfl ?_
    refine V_getR X (by decide) rfl rfl (k := 2) inX7_loadNetwork_X0 rfl (by decide) wX7_loadNetwork_75 dX7_loadNetwork_29 (n := 32) rfl ?_
    refine V_callv X (As := [.int (C2 1 3), .ref (ρ 3)]) (rest := []) (nA := 2) (i := 22) (q := (RX3, TX3, 6)) (TX3_startAnew l D G ρ C2 N (C2 1 3) _ h) gX7_loadNetwork_X3_startAnew rfl rfl rfl (by decide +kernel) rfl ⟨by decide, by decide⟩ (Nat.le_of_ble_eq_true rfl) ⟨by decide, by decide⟩ (by decide) rfl rfl rfl dX7_loadNetwork_32 (n := 35) rfl (fun C4 M0 h => ?_)
    obtain ⟨h, eo⟩ := h
    rw [eo]
    refine V_aload_n X (q := 0) rfl rfl dX7_loadNetwork_35 (n := 36) rfl ?_
    refine V_getR X (by decide) rfl rfl (k := 0) inX7_loadNetwork_X7 rfl (by decide) wX7_loadNetwork_10 dX7_loadNetwork_36 (n := 39) rfl ?_
    refine V_iconst X (v := 0) (by decide) dX7_loadNetwork_39 (n := 40) rfl ?_
    refine V_putX X (by decide) rfl rfl (k := 1) inX7_loadNetwork_X0 rfl (by decide) wX7_loadNetwork_61 tyX0 tyX0_ok nmX0 rfl (by decide +kernel) dX7_loadNetwork_40 (n := 43) rfl (fun C5 eC5 => ?_)
    have h := bd_at h eC5
    refine V_aload_n X (q := 0) rfl rfl dX7_loadNetwork_43 (n := 44) rfl ?_
    refine V_getR X (by decide) rfl rfl (k := 2) inX7_loadNetwork_X7 rfl (by decide) wX7_loadNetwork_26 dX7_loadNetwork_44 (n := 47) rfl ?_
    refine V_callv X (As := []) (rest := []) (nA := 0) (i := 46) (q := (RX1, TX1, 6)) (TX1_forget l D G ρ C5 N  _ h) gX7_loadNetwork_X1_forget rfl rfl rfl (by decide +kernel) rfl ⟨by decide, by decide⟩ (Nat.le_of_ble_eq_true rfl) ⟨by decide, by decide⟩ (by decide) rfl rfl rfl dX7_loadNetwork_47 (n := 50) rfl (fun C6 M0 h => ?_)
    obtain ⟨h, eo⟩ := h
    rw [eo]
    refine V_aload_n X (q := 0) rfl rfl dX7_loadNetwork_50 (n := 51) rfl ?_
    refine V_getR X (by decide) rfl rfl (k := 3) inX7_loadNetwork_X7 rfl (by decide) wX7_loadNetwork_33 dX7_loadNetwork_51 (n := 54) rfl ?_
    refine V_iconst X (v := 0) (by decide) dX7_loadNetwork_54 (n := 55) rfl ?_
    refine V_putX X (by decide) rfl rfl (k := 1) inX7_loadNetwork_X6 rfl (by decide) wX7_loadNetwork_86 tyX6 tyX6_ok nmX6 rfl (by decide +kernel) dX7_loadNetwork_55 (n := 58) rfl (fun C7 eC7 => ?_)
    have h := bd_at h eC7
    refine V_aload_n X (q := 0) rfl rfl dX7_loadNetwork_58 (n := 59) rfl ?_
    refine V_getR X (by decide) rfl rfl (k := 4) inX7_loadNetwork_X7 rfl (by decide) wX7_loadNetwork_40 dX7_loadNetwork_59 (n := 62) rfl ?_
    refine V_iconst X (v := 0) (by decide) dX7_loadNetwork_62 (n := 63) rfl ?_
    refine V_putX X (by decide) rfl rfl (k := 1) inX7_loadNetwork_X4 rfl (by decide) wX7_loadNetwork_89 tyX4 tyX4_ok nmX4 rfl (by decide +kernel) dX7_loadNetwork_63 (n := 66) rfl (fun C8 eC8 => ?_)
    have h := bd_at h eC8
    refine V_aload_n X (q := 0) rfl rfl dX7_loadNetwork_66 (n := 67) rfl ?_
    refine V_iconst X (v := 0) (by decide) dX7_loadNetwork_67 (n := 68) rfl ?_
    refine V_putX X (by decide) rfl rfl (k := 7) inX7_loadNetwork_X7 rfl (by decide) wX7_loadNetwork_51 tyX7 tyX7_ok nmX7 rfl (by decide +kernel) dX7_loadNetwork_68 (n := 71) rfl (fun C9 eC9 => ?_)
    have h := bd_at h eC9
    refine V_aload_n X (q := 0) rfl rfl dX7_loadNetwork_71 (n := 72) rfl ?_
    refine V_iconst X (v := 0) (by decide) dX7_loadNetwork_72 (n := 73) rfl ?_
    refine V_putX X (by decide) rfl rfl (k := 8) inX7_loadNetwork_X7 rfl (by decide) wX7_loadNetwork_54 tyX7 tyX7_ok nmX7 rfl (by decide +kernel) dX7_loadNetwork_73 (n := 76) rfl (fun C10 eC10 => ?_)
    have h := bd_at h eC10
    refine V_aload_n X (q := 0) rfl rfl dX7_loadNetwork_76 (n := 77) rfl ?_
    refine V_getR X (by decide) rfl rfl (k := 1) inX7_loadNetwork_X7 rfl (by decide) wX7_loadNetwork_19 dX7_loadNetwork_77 (n := 80) rfl ?_
    refine V_getX X (by decide) rfl rfl (k := 1) inX7_loadNetwork_X3 rfl (by decide) wX7_loadNetwork_92 dX7_loadNetwork_80 (n := 83) rfl ?_
    exact V_iret X hr hlk dX7_loadNetwork_83 ⟨h, rfl⟩
  · have h := ite_t h c3
    refine V_sipush X (v := -1003) (by decide) dX7_loadNetwork_10 (n := 13) rfl ?_
    exact V_iret X hr hlk dX7_loadNetwork_13 ⟨h, rfl⟩
end
