section
-- ===== PART A: goes FIRST, ahead of the names: the tables' words, and 'selects' of the private methods out of them =====
/-- a private method of a class that the tables say can be made, by its rows of tables_1 -/
def lw_okq (q : MethodName × Nat) : Prop := (q.1.cls ≠ "java/lang/invoke/MethodHandle" ∧ q.1.cls ≠ "java/lang/invoke/VarHandle") ∧ Cond.instantiable q.1.cls q.2 ∈ tables_1 ∧ Cond.privateMethod q.1 ∈ tables_1 ∧ Cond.instanceMethod q.1 ∈ tables_1
theorem lw_p0 : lw_okq (⟨"FleetSlots", "found", "(I)I"⟩, 11) := ⟨⟨by decide +kernel, by decide +kernel⟩, List.mem_of_getElem? (i := 13) (by decide +kernel), List.mem_of_getElem? (i := 271) (by decide +kernel), List.mem_of_getElem? (i := 272) (by decide +kernel)⟩
theorem lw_p1 : lw_okq (⟨"FleetSlots", "passed", "(I)I"⟩, 11) := ⟨⟨by decide +kernel, by decide +kernel⟩, List.mem_of_getElem? (i := 13) (by decide +kernel), List.mem_of_getElem? (i := 280) (by decide +kernel), List.mem_of_getElem? (i := 281) (by decide +kernel)⟩
theorem lw_p2 : lw_okq (⟨"FleetSlots", "leastFloor", "()I"⟩, 11) := ⟨⟨by decide +kernel, by decide +kernel⟩, List.mem_of_getElem? (i := 13) (by decide +kernel), List.mem_of_getElem? (i := 311) (by decide +kernel), List.mem_of_getElem? (i := 312) (by decide +kernel)⟩
theorem lw_p3 : lw_okq (⟨"FleetSlots", "isRise", "(II)Z"⟩, 11) := ⟨⟨by decide +kernel, by decide +kernel⟩, List.mem_of_getElem? (i := 13) (by decide +kernel), List.mem_of_getElem? (i := 324) (by decide +kernel), List.mem_of_getElem? (i := 325) (by decide +kernel)⟩
theorem lw_p4 : lw_okq (⟨"FleetSlots", "isVersion", "(I)Z"⟩, 11) := ⟨⟨by decide +kernel, by decide +kernel⟩, List.mem_of_getElem? (i := 13) (by decide +kernel), List.mem_of_getElem? (i := 328) (by decide +kernel), List.mem_of_getElem? (i := 329) (by decide +kernel)⟩
theorem lw_p5 : lw_okq (⟨"FleetSlots$Steps", "chooseNext", "(II)V"⟩, 5) := ⟨⟨by decide +kernel, by decide +kernel⟩, List.mem_of_getElem? (i := 25) (by decide +kernel), List.mem_of_getElem? (i := 344) (by decide +kernel), List.mem_of_getElem? (i := 345) (by decide +kernel)⟩
theorem lw_p6 : lw_okq (⟨"FleetSlots", "isDevice", "(I)Z"⟩, 11) := ⟨⟨by decide +kernel, by decide +kernel⟩, List.mem_of_getElem? (i := 13) (by decide +kernel), List.mem_of_getElem? (i := 362) (by decide +kernel), List.mem_of_getElem? (i := 363) (by decide +kernel)⟩
theorem lw_p7 : lw_okq (⟨"FleetSlots", "drawOf", "(LFleetSlots$Device;)I"⟩, 11) := ⟨⟨by decide +kernel, by decide +kernel⟩, List.mem_of_getElem? (i := 13) (by decide +kernel), List.mem_of_getElem? (i := 388) (by decide +kernel), List.mem_of_getElem? (i := 389) (by decide +kernel)⟩
theorem lw_p8 : lw_okq (⟨"FleetSlots", "updateWhole", "(LFleetSlots$Device;LFleetSlots$Version;)Z"⟩, 11) := ⟨⟨by decide +kernel, by decide +kernel⟩, List.mem_of_getElem? (i := 13) (by decide +kernel), List.mem_of_getElem? (i := 409) (by decide +kernel), List.mem_of_getElem? (i := 410) (by decide +kernel)⟩
theorem lw_p9 : lw_okq (⟨"FleetSlots$Device", "isOver", "(LFleetSlots$Version;I)Z"⟩, 11) := ⟨⟨by decide +kernel, by decide +kernel⟩, List.mem_of_getElem? (i := 54) (by decide +kernel), List.mem_of_getElem? (i := 417) (by decide +kernel), List.mem_of_getElem? (i := 418) (by decide +kernel)⟩
theorem lw_p10 : lw_okq (⟨"FleetSlots$Device", "doAct", "(LFleetSlots$Version;I)V"⟩, 11) := ⟨⟨by decide +kernel, by decide +kernel⟩, List.mem_of_getElem? (i := 54) (by decide +kernel), List.mem_of_getElem? (i := 421) (by decide +kernel), List.mem_of_getElem? (i := 422) (by decide +kernel)⟩
theorem lw_p11 : lw_okq (⟨"FleetSlots$Device", "endTrial", "()V"⟩, 11) := ⟨⟨by decide +kernel, by decide +kernel⟩, List.mem_of_getElem? (i := 54) (by decide +kernel), List.mem_of_getElem? (i := 429) (by decide +kernel), List.mem_of_getElem? (i := 430) (by decide +kernel)⟩
theorem lw_p12 : lw_okq (⟨"FleetSlots$Device", "take", "(LFleetSlots$Version;)V"⟩, 11) := ⟨⟨by decide +kernel, by decide +kernel⟩, List.mem_of_getElem? (i := 54) (by decide +kernel), List.mem_of_getElem? (i := 434) (by decide +kernel), List.mem_of_getElem? (i := 435) (by decide +kernel)⟩
theorem lw_p13 : lw_okq (⟨"FleetSlots", "noteEnd", "(LFleetSlots$Device;LFleetSlots$Version;)Z"⟩, 11) := ⟨⟨by decide +kernel, by decide +kernel⟩, List.mem_of_getElem? (i := 13) (by decide +kernel), List.mem_of_getElem? (i := 441) (by decide +kernel), List.mem_of_getElem? (i := 442) (by decide +kernel)⟩
theorem lw_p14 : lw_okq (⟨"FleetSlots", "isFresh", "(LFleetSlots$Device;)Z"⟩, 11) := ⟨⟨by decide +kernel, by decide +kernel⟩, List.mem_of_getElem? (i := 13) (by decide +kernel), List.mem_of_getElem? (i := 445) (by decide +kernel), List.mem_of_getElem? (i := 446) (by decide +kernel)⟩
theorem lw_p15 : lw_okq (⟨"FleetSlots", "cutStandIn", "(III)I"⟩, 11) := ⟨⟨by decide +kernel, by decide +kernel⟩, List.mem_of_getElem? (i := 13) (by decide +kernel), List.mem_of_getElem? (i := 461) (by decide +kernel), List.mem_of_getElem? (i := 462) (by decide +kernel)⟩
def lw_privs_1 : List (MethodName × Nat) := [(⟨"FleetSlots", "found", "(I)I"⟩, 11), (⟨"FleetSlots", "passed", "(I)I"⟩, 11), (⟨"FleetSlots", "leastFloor", "()I"⟩, 11), (⟨"FleetSlots", "isRise", "(II)Z"⟩, 11), (⟨"FleetSlots", "isVersion", "(I)Z"⟩, 11), (⟨"FleetSlots$Steps", "chooseNext", "(II)V"⟩, 5), (⟨"FleetSlots", "isDevice", "(I)Z"⟩, 11), (⟨"FleetSlots", "drawOf", "(LFleetSlots$Device;)I"⟩, 11), (⟨"FleetSlots", "updateWhole", "(LFleetSlots$Device;LFleetSlots$Version;)Z"⟩, 11), (⟨"FleetSlots$Device", "isOver", "(LFleetSlots$Version;I)Z"⟩, 11), (⟨"FleetSlots$Device", "doAct", "(LFleetSlots$Version;I)V"⟩, 11), (⟨"FleetSlots$Device", "endTrial", "()V"⟩, 11), (⟨"FleetSlots$Device", "take", "(LFleetSlots$Version;)V"⟩, 11), (⟨"FleetSlots", "noteEnd", "(LFleetSlots$Device;LFleetSlots$Version;)Z"⟩, 11), (⟨"FleetSlots", "isFresh", "(LFleetSlots$Device;)Z"⟩, 11), (⟨"FleetSlots", "cutStandIn", "(III)I"⟩, 11)]
theorem lw_r1 : ∀ q ∈ lw_privs_1, lw_okq q := List.forall_mem_cons.mpr ⟨lw_p0, List.forall_mem_cons.mpr ⟨lw_p1, List.forall_mem_cons.mpr ⟨lw_p2, List.forall_mem_cons.mpr ⟨lw_p3, List.forall_mem_cons.mpr ⟨lw_p4, List.forall_mem_cons.mpr ⟨lw_p5, List.forall_mem_cons.mpr ⟨lw_p6, List.forall_mem_cons.mpr ⟨lw_p7, List.forall_mem_cons.mpr ⟨lw_p8, List.forall_mem_cons.mpr ⟨lw_p9, List.forall_mem_cons.mpr ⟨lw_p10, List.forall_mem_cons.mpr ⟨lw_p11, List.forall_mem_cons.mpr ⟨lw_p12, List.forall_mem_cons.mpr ⟨lw_p13, List.forall_mem_cons.mpr ⟨lw_p14, List.forall_mem_cons.mpr ⟨lw_p15, fun _ h => absurd h List.not_mem_nil⟩⟩⟩⟩⟩⟩⟩⟩⟩⟩⟩⟩⟩⟩⟩⟩
theorem lw_p16 : lw_okq (⟨"FleetSlots$Campaign", "beginWave", "(I)V"⟩, 10) := ⟨⟨by decide +kernel, by decide +kernel⟩, List.mem_of_getElem? (i := 122) (by decide +kernel), List.mem_of_getElem? (i := 487) (by decide +kernel), List.mem_of_getElem? (i := 488) (by decide +kernel)⟩
theorem lw_p17 : lw_okq (⟨"FleetSlots", "membersOfWave", "()I"⟩, 11) := ⟨⟨by decide +kernel, by decide +kernel⟩, List.mem_of_getElem? (i := 13) (by decide +kernel), List.mem_of_getElem? (i := 491) (by decide +kernel), List.mem_of_getElem? (i := 492) (by decide +kernel)⟩
theorem lw_p18 : lw_okq (⟨"FleetSlots", "isMember", "(LFleetSlots$Device;)Z"⟩, 11) := ⟨⟨by decide +kernel, by decide +kernel⟩, List.mem_of_getElem? (i := 13) (by decide +kernel), List.mem_of_getElem? (i := 495) (by decide +kernel), List.mem_of_getElem? (i := 496) (by decide +kernel)⟩
theorem lw_p19 : lw_okq (⟨"FleetSlots", "isDue", "(LFleetSlots$Device;)Z"⟩, 11) := ⟨⟨by decide +kernel, by decide +kernel⟩, List.mem_of_getElem? (i := 13) (by decide +kernel), List.mem_of_getElem? (i := 512) (by decide +kernel), List.mem_of_getElem? (i := 513) (by decide +kernel)⟩
theorem lw_p20 : lw_okq (⟨"FleetSlots", "bytesTo", "(LFleetSlots$Device;LFleetSlots$Version;)I"⟩, 11) := ⟨⟨by decide +kernel, by decide +kernel⟩, List.mem_of_getElem? (i := 13) (by decide +kernel), List.mem_of_getElem? (i := 521) (by decide +kernel), List.mem_of_getElem? (i := 522) (by decide +kernel)⟩
theorem lw_p21 : lw_okq (⟨"FleetSlots", "devicesAtLeastAt", "(LFleetSlots$Version;)I"⟩, 11) := ⟨⟨by decide +kernel, by decide +kernel⟩, List.mem_of_getElem? (i := 13) (by decide +kernel), List.mem_of_getElem? (i := 540) (by decide +kernel), List.mem_of_getElem? (i := 541) (by decide +kernel)⟩
theorem lw_p22 : lw_okq (⟨"FleetSlots", "kindOf", "(LFleetSlots$Device;)I"⟩, 11) := ⟨⟨by decide +kernel, by decide +kernel⟩, List.mem_of_getElem? (i := 13) (by decide +kernel), List.mem_of_getElem? (i := 560) (by decide +kernel), List.mem_of_getElem? (i := 561) (by decide +kernel)⟩
theorem lw_p23 : lw_okq (⟨"FleetSlots", "isOfKind", "(LFleetSlots$Device;I)Z"⟩, 11) := ⟨⟨by decide +kernel, by decide +kernel⟩, List.mem_of_getElem? (i := 13) (by decide +kernel), List.mem_of_getElem? (i := 568) (by decide +kernel), List.mem_of_getElem? (i := 569) (by decide +kernel)⟩
theorem lw_p24 : lw_okq (⟨"FleetSlots$Asks", "worthOfFresh", "(LFleetSlots$Device;)I"⟩, 2) := ⟨⟨by decide +kernel, by decide +kernel⟩, List.mem_of_getElem? (i := 167) (by decide +kernel), List.mem_of_getElem? (i := 584) (by decide +kernel), List.mem_of_getElem? (i := 585) (by decide +kernel)⟩
theorem lw_p25 : lw_okq (⟨"FleetSlots$Asks", "leave", "(I)V"⟩, 2) := ⟨⟨by decide +kernel, by decide +kernel⟩, List.mem_of_getElem? (i := 167) (by decide +kernel), List.mem_of_getElem? (i := 588) (by decide +kernel), List.mem_of_getElem? (i := 589) (by decide +kernel)⟩
theorem lw_p26 : lw_okq (⟨"FleetSlots$Asks", "worthOfAny", "(LFleetSlots$Device;)I"⟩, 2) := ⟨⟨by decide +kernel, by decide +kernel⟩, List.mem_of_getElem? (i := 167) (by decide +kernel), List.mem_of_getElem? (i := 592) (by decide +kernel), List.mem_of_getElem? (i := 593) (by decide +kernel)⟩
theorem lw_p27 : lw_okq (⟨"FleetSlots$Asks", "worthOfSettled", "(LFleetSlots$Device;)I"⟩, 2) := ⟨⟨by decide +kernel, by decide +kernel⟩, List.mem_of_getElem? (i := 167) (by decide +kernel), List.mem_of_getElem? (i := 597) (by decide +kernel), List.mem_of_getElem? (i := 598) (by decide +kernel)⟩
theorem lw_p28 : lw_okq (⟨"FleetSlots$Asks", "worthOfStuck", "(LFleetSlots$Device;)I"⟩, 2) := ⟨⟨by decide +kernel, by decide +kernel⟩, List.mem_of_getElem? (i := 167) (by decide +kernel), List.mem_of_getElem? (i := 601) (by decide +kernel), List.mem_of_getElem? (i := 602) (by decide +kernel)⟩
theorem lw_p29 : lw_okq (⟨"FleetSlots$Asks", "markOfFresh", "(LFleetSlots$Device;I)I"⟩, 2) := ⟨⟨by decide +kernel, by decide +kernel⟩, List.mem_of_getElem? (i := 167) (by decide +kernel), List.mem_of_getElem? (i := 609) (by decide +kernel), List.mem_of_getElem? (i := 610) (by decide +kernel)⟩
theorem lw_p30 : lw_okq (⟨"FleetSlots$Asks", "markOfAny", "(LFleetSlots$Device;)I"⟩, 2) := ⟨⟨by decide +kernel, by decide +kernel⟩, List.mem_of_getElem? (i := 167) (by decide +kernel), List.mem_of_getElem? (i := 613) (by decide +kernel), List.mem_of_getElem? (i := 614) (by decide +kernel)⟩
theorem lw_p31 : lw_okq (⟨"FleetSlots$Asks", "markOfStuck", "(LFleetSlots$Device;)I"⟩, 2) := ⟨⟨by decide +kernel, by decide +kernel⟩, List.mem_of_getElem? (i := 167) (by decide +kernel), List.mem_of_getElem? (i := 618) (by decide +kernel), List.mem_of_getElem? (i := 619) (by decide +kernel)⟩
def lw_privs_2 : List (MethodName × Nat) := [(⟨"FleetSlots$Campaign", "beginWave", "(I)V"⟩, 10), (⟨"FleetSlots", "membersOfWave", "()I"⟩, 11), (⟨"FleetSlots", "isMember", "(LFleetSlots$Device;)Z"⟩, 11), (⟨"FleetSlots", "isDue", "(LFleetSlots$Device;)Z"⟩, 11), (⟨"FleetSlots", "bytesTo", "(LFleetSlots$Device;LFleetSlots$Version;)I"⟩, 11), (⟨"FleetSlots", "devicesAtLeastAt", "(LFleetSlots$Version;)I"⟩, 11), (⟨"FleetSlots", "kindOf", "(LFleetSlots$Device;)I"⟩, 11), (⟨"FleetSlots", "isOfKind", "(LFleetSlots$Device;I)Z"⟩, 11), (⟨"FleetSlots$Asks", "worthOfFresh", "(LFleetSlots$Device;)I"⟩, 2), (⟨"FleetSlots$Asks", "leave", "(I)V"⟩, 2), (⟨"FleetSlots$Asks", "worthOfAny", "(LFleetSlots$Device;)I"⟩, 2), (⟨"FleetSlots$Asks", "worthOfSettled", "(LFleetSlots$Device;)I"⟩, 2), (⟨"FleetSlots$Asks", "worthOfStuck", "(LFleetSlots$Device;)I"⟩, 2), (⟨"FleetSlots$Asks", "markOfFresh", "(LFleetSlots$Device;I)I"⟩, 2), (⟨"FleetSlots$Asks", "markOfAny", "(LFleetSlots$Device;)I"⟩, 2), (⟨"FleetSlots$Asks", "markOfStuck", "(LFleetSlots$Device;)I"⟩, 2)]
theorem lw_r2 : ∀ q ∈ lw_privs_2, lw_okq q := List.forall_mem_cons.mpr ⟨lw_p16, List.forall_mem_cons.mpr ⟨lw_p17, List.forall_mem_cons.mpr ⟨lw_p18, List.forall_mem_cons.mpr ⟨lw_p19, List.forall_mem_cons.mpr ⟨lw_p20, List.forall_mem_cons.mpr ⟨lw_p21, List.forall_mem_cons.mpr ⟨lw_p22, List.forall_mem_cons.mpr ⟨lw_p23, List.forall_mem_cons.mpr ⟨lw_p24, List.forall_mem_cons.mpr ⟨lw_p25, List.forall_mem_cons.mpr ⟨lw_p26, List.forall_mem_cons.mpr ⟨lw_p27, List.forall_mem_cons.mpr ⟨lw_p28, List.forall_mem_cons.mpr ⟨lw_p29, List.forall_mem_cons.mpr ⟨lw_p30, List.forall_mem_cons.mpr ⟨lw_p31, fun _ h => absurd h List.not_mem_nil⟩⟩⟩⟩⟩⟩⟩⟩⟩⟩⟩⟩⟩⟩⟩⟩
theorem lw_p32 : lw_okq (⟨"FleetSlots", "sheetsThere", "()I"⟩, 11) := ⟨⟨by decide +kernel, by decide +kernel⟩, List.mem_of_getElem? (i := 13) (by decide +kernel), List.mem_of_getElem? (i := 635) (by decide +kernel), List.mem_of_getElem? (i := 636) (by decide +kernel)⟩
theorem lw_p33 : lw_okq (⟨"FleetSlots", "devicesAlive", "()I"⟩, 11) := ⟨⟨by decide +kernel, by decide +kernel⟩, List.mem_of_getElem? (i := 13) (by decide +kernel), List.mem_of_getElem? (i := 639) (by decide +kernel), List.mem_of_getElem? (i := 640) (by decide +kernel)⟩
theorem lw_p34 : lw_okq (⟨"FleetSlots", "devicesTold", "(I)I"⟩, 11) := ⟨⟨by decide +kernel, by decide +kernel⟩, List.mem_of_getElem? (i := 13) (by decide +kernel), List.mem_of_getElem? (i := 643) (by decide +kernel), List.mem_of_getElem? (i := 644) (by decide +kernel)⟩
theorem lw_p35 : lw_okq (⟨"FleetSlotsModel", "found", "(I)I"⟩, 38) := ⟨⟨by decide +kernel, by decide +kernel⟩, List.mem_of_getElem? (i := 651) (by decide +kernel), List.mem_of_getElem? (i := 785) (by decide +kernel), List.mem_of_getElem? (i := 786) (by decide +kernel)⟩
theorem lw_p36 : lw_okq (⟨"FleetSlotsModel", "areSteps", "(II)Z"⟩, 38) := ⟨⟨by decide +kernel, by decide +kernel⟩, List.mem_of_getElem? (i := 651) (by decide +kernel), List.mem_of_getElem? (i := 813) (by decide +kernel), List.mem_of_getElem? (i := 814) (by decide +kernel)⟩
theorem lw_p37 : lw_okq (⟨"FleetSlotsModel", "isVersion", "(I)Z"⟩, 38) := ⟨⟨by decide +kernel, by decide +kernel⟩, List.mem_of_getElem? (i := 651) (by decide +kernel), List.mem_of_getElem? (i := 817) (by decide +kernel), List.mem_of_getElem? (i := 818) (by decide +kernel)⟩
theorem lw_p38 : lw_okq (⟨"FleetSlotsModel", "findWays", "(I)V"⟩, 38) := ⟨⟨by decide +kernel, by decide +kernel⟩, List.mem_of_getElem? (i := 651) (by decide +kernel), List.mem_of_getElem? (i := 826) (by decide +kernel), List.mem_of_getElem? (i := 827) (by decide +kernel)⟩
theorem lw_p39 : lw_okq (⟨"FleetSlotsModel", "isDevice", "(I)Z"⟩, 38) := ⟨⟨by decide +kernel, by decide +kernel⟩, List.mem_of_getElem? (i := 651) (by decide +kernel), List.mem_of_getElem? (i := 839) (by decide +kernel), List.mem_of_getElem? (i := 840) (by decide +kernel)⟩
theorem lw_p40 : lw_okq (⟨"FleetSlotsModel", "isAiling", "(II)Z"⟩, 38) := ⟨⟨by decide +kernel, by decide +kernel⟩, List.mem_of_getElem? (i := 651) (by decide +kernel), List.mem_of_getElem? (i := 843) (by decide +kernel), List.mem_of_getElem? (i := 844) (by decide +kernel)⟩
theorem lw_p41 : lw_okq (⟨"FleetSlotsModel", "runsOn", "(I)I"⟩, 38) := ⟨⟨by decide +kernel, by decide +kernel⟩, List.mem_of_getElem? (i := 651) (by decide +kernel), List.mem_of_getElem? (i := 852) (by decide +kernel), List.mem_of_getElem? (i := 853) (by decide +kernel)⟩
theorem lw_p42 : lw_okq (⟨"FleetSlotsModel", "other", "(I)I"⟩, 38) := ⟨⟨by decide +kernel, by decide +kernel⟩, List.mem_of_getElem? (i := 651) (by decide +kernel), List.mem_of_getElem? (i := 856) (by decide +kernel), List.mem_of_getElem? (i := 857) (by decide +kernel)⟩
theorem lw_p43 : lw_okq (⟨"FleetSlotsModel", "draw", "(I)I"⟩, 38) := ⟨⟨by decide +kernel, by decide +kernel⟩, List.mem_of_getElem? (i := 651) (by decide +kernel), List.mem_of_getElem? (i := 860) (by decide +kernel), List.mem_of_getElem? (i := 861) (by decide +kernel)⟩
theorem lw_p44 : lw_okq (⟨"FleetSlotsModel", "isAlive", "(I)Z"⟩, 38) := ⟨⟨by decide +kernel, by decide +kernel⟩, List.mem_of_getElem? (i := 651) (by decide +kernel), List.mem_of_getElem? (i := 866) (by decide +kernel), List.mem_of_getElem? (i := 867) (by decide +kernel)⟩
theorem lw_p45 : lw_okq (⟨"FleetSlotsModel", "actsOf", "(II)I"⟩, 38) := ⟨⟨by decide +kernel, by decide +kernel⟩, List.mem_of_getElem? (i := 651) (by decide +kernel), List.mem_of_getElem? (i := 874) (by decide +kernel), List.mem_of_getElem? (i := 875) (by decide +kernel)⟩
theorem lw_p46 : lw_okq (⟨"FleetSlotsModel", "go", "(IIII)V"⟩, 38) := ⟨⟨by decide +kernel, by decide +kernel⟩, List.mem_of_getElem? (i := 651) (by decide +kernel), List.mem_of_getElem? (i := 878) (by decide +kernel), List.mem_of_getElem? (i := 879) (by decide +kernel)⟩
theorem lw_p47 : lw_okq (⟨"FleetSlotsModel", "act", "(III)V"⟩, 38) := ⟨⟨by decide +kernel, by decide +kernel⟩, List.mem_of_getElem? (i := 651) (by decide +kernel), List.mem_of_getElem? (i := 882) (by decide +kernel), List.mem_of_getElem? (i := 883) (by decide +kernel)⟩
def lw_privs_3 : List (MethodName × Nat) := [(⟨"FleetSlots", "sheetsThere", "()I"⟩, 11), (⟨"FleetSlots", "devicesAlive", "()I"⟩, 11), (⟨"FleetSlots", "devicesTold", "(I)I"⟩, 11), (⟨"FleetSlotsModel", "found", "(I)I"⟩, 38), (⟨"FleetSlotsModel", "areSteps", "(II)Z"⟩, 38), (⟨"FleetSlotsModel", "isVersion", "(I)Z"⟩, 38), (⟨"FleetSlotsModel", "findWays", "(I)V"⟩, 38), (⟨"FleetSlotsModel", "isDevice", "(I)Z"⟩, 38), (⟨"FleetSlotsModel", "isAiling", "(II)Z"⟩, 38), (⟨"FleetSlotsModel", "runsOn", "(I)I"⟩, 38), (⟨"FleetSlotsModel", "other", "(I)I"⟩, 38), (⟨"FleetSlotsModel", "draw", "(I)I"⟩, 38), (⟨"FleetSlotsModel", "isAlive", "(I)Z"⟩, 38), (⟨"FleetSlotsModel", "actsOf", "(II)I"⟩, 38), (⟨"FleetSlotsModel", "go", "(IIII)V"⟩, 38), (⟨"FleetSlotsModel", "act", "(III)V"⟩, 38)]
theorem lw_r3 : ∀ q ∈ lw_privs_3, lw_okq q := List.forall_mem_cons.mpr ⟨lw_p32, List.forall_mem_cons.mpr ⟨lw_p33, List.forall_mem_cons.mpr ⟨lw_p34, List.forall_mem_cons.mpr ⟨lw_p35, List.forall_mem_cons.mpr ⟨lw_p36, List.forall_mem_cons.mpr ⟨lw_p37, List.forall_mem_cons.mpr ⟨lw_p38, List.forall_mem_cons.mpr ⟨lw_p39, List.forall_mem_cons.mpr ⟨lw_p40, List.forall_mem_cons.mpr ⟨lw_p41, List.forall_mem_cons.mpr ⟨lw_p42, List.forall_mem_cons.mpr ⟨lw_p43, List.forall_mem_cons.mpr ⟨lw_p44, List.forall_mem_cons.mpr ⟨lw_p45, List.forall_mem_cons.mpr ⟨lw_p46, List.forall_mem_cons.mpr ⟨lw_p47, fun _ h => absurd h List.not_mem_nil⟩⟩⟩⟩⟩⟩⟩⟩⟩⟩⟩⟩⟩⟩⟩⟩
theorem lw_p48 : lw_okq (⟨"FleetSlotsModel", "start", "(I)V"⟩, 38) := ⟨⟨by decide +kernel, by decide +kernel⟩, List.mem_of_getElem? (i := 651) (by decide +kernel), List.mem_of_getElem? (i := 886) (by decide +kernel), List.mem_of_getElem? (i := 887) (by decide +kernel)⟩
theorem lw_p49 : lw_okq (⟨"FleetSlotsModel", "ends", "(II)I"⟩, 38) := ⟨⟨by decide +kernel, by decide +kernel⟩, List.mem_of_getElem? (i := 651) (by decide +kernel), List.mem_of_getElem? (i := 890) (by decide +kernel), List.mem_of_getElem? (i := 891) (by decide +kernel)⟩
theorem lw_p50 : lw_okq (⟨"FleetSlotsModel", "beginWave", "(I)V"⟩, 38) := ⟨⟨by decide +kernel, by decide +kernel⟩, List.mem_of_getElem? (i := 651) (by decide +kernel), List.mem_of_getElem? (i := 919) (by decide +kernel), List.mem_of_getElem? (i := 920) (by decide +kernel)⟩
theorem lw_p51 : lw_okq (⟨"FleetSlotsModel", "isNext", "(I)Z"⟩, 38) := ⟨⟨by decide +kernel, by decide +kernel⟩, List.mem_of_getElem? (i := 651) (by decide +kernel), List.mem_of_getElem? (i := 928) (by decide +kernel), List.mem_of_getElem? (i := 929) (by decide +kernel)⟩
theorem lw_p52 : lw_okq (⟨"FleetSlotsModel", "kindOf", "(I)I"⟩, 38) := ⟨⟨by decide +kernel, by decide +kernel⟩, List.mem_of_getElem? (i := 651) (by decide +kernel), List.mem_of_getElem? (i := 950) (by decide +kernel), List.mem_of_getElem? (i := 951) (by decide +kernel)⟩
theorem lw_p53 : lw_okq (⟨"FleetSlotsModel", "worth", "(I)I"⟩, 38) := ⟨⟨by decide +kernel, by decide +kernel⟩, List.mem_of_getElem? (i := 651) (by decide +kernel), List.mem_of_getElem? (i := 962) (by decide +kernel), List.mem_of_getElem? (i := 963) (by decide +kernel)⟩
theorem lw_p54 : lw_okq (⟨"FleetSlotsModel", "began", "(I)V"⟩, 38) := ⟨⟨by decide +kernel, by decide +kernel⟩, List.mem_of_getElem? (i := 651) (by decide +kernel), List.mem_of_getElem? (i := 966) (by decide +kernel), List.mem_of_getElem? (i := 967) (by decide +kernel)⟩
theorem lw_p55 : lw_okq (⟨"FleetSlotsModel", "marked", "(I)I"⟩, 38) := ⟨⟨by decide +kernel, by decide +kernel⟩, List.mem_of_getElem? (i := 651) (by decide +kernel), List.mem_of_getElem? (i := 970) (by decide +kernel), List.mem_of_getElem? (i := 971) (by decide +kernel)⟩
def lw_privs_4 : List (MethodName × Nat) := [(⟨"FleetSlotsModel", "start", "(I)V"⟩, 38), (⟨"FleetSlotsModel", "ends", "(II)I"⟩, 38), (⟨"FleetSlotsModel", "beginWave", "(I)V"⟩, 38), (⟨"FleetSlotsModel", "isNext", "(I)Z"⟩, 38), (⟨"FleetSlotsModel", "kindOf", "(I)I"⟩, 38), (⟨"FleetSlotsModel", "worth", "(I)I"⟩, 38), (⟨"FleetSlotsModel", "began", "(I)V"⟩, 38), (⟨"FleetSlotsModel", "marked", "(I)I"⟩, 38)]
theorem lw_r4 : ∀ q ∈ lw_privs_4, lw_okq q := List.forall_mem_cons.mpr ⟨lw_p48, List.forall_mem_cons.mpr ⟨lw_p49, List.forall_mem_cons.mpr ⟨lw_p50, List.forall_mem_cons.mpr ⟨lw_p51, List.forall_mem_cons.mpr ⟨lw_p52, List.forall_mem_cons.mpr ⟨lw_p53, List.forall_mem_cons.mpr ⟨lw_p54, List.forall_mem_cons.mpr ⟨lw_p55, fun _ h => absurd h List.not_mem_nil⟩⟩⟩⟩⟩⟩⟩⟩
def lw_privs : List (MethodName × Nat) := lw_privs_1 ++ (lw_privs_2 ++ (lw_privs_3 ++ (lw_privs_4)))
def lw_tbl : List Cond := k2_sels lw_privs ++ tables_1
theorem lw_privs_ok : ∀ q ∈ lw_privs, lw_okq q := by
  show ∀ q ∈ lw_privs_1 ++ (lw_privs_2 ++ (lw_privs_3 ++ (lw_privs_4))), lw_okq q
  exact List.forall_mem_append.mpr ⟨lw_r1, List.forall_mem_append.mpr ⟨lw_r2, List.forall_mem_append.mpr ⟨lw_r3, lw_r4⟩⟩⟩
-- ===== end of PART A; then your names; then what follows =====
end
section
def RX0 : String := "FleetSlots$Asks"
def TX0 : u_T := fun k => match k with
  | 0 => ("FleetSlots$Asks", "traced", "[I", true)
  | _ => ("FleetSlots$Asks", "tracedCount", "I", false)
def tyX0 : Nat → FieldType := fun k => match k with
  | 0 => .array .int
  | _ => .int
abbrev wsX00 : List Cond := u_ws RX0 TX0 2
theorem nmX0 : ∀ a, a < 2 → ∀ b, b < 2 → a ≠ b → (TX0 a).2.1 ≠ (TX0 b).2.1 := by decide +kernel
theorem tyX0_ok : ∀ k, k < 2 → parseFieldDescriptor (TX0 k).2.2.1 = some (tyX0 k) := by decide +kernel
abbrev cX0_init : ByteArray := prog_2_method_1_code
def yX0_init : MethodName := ⟨RX0, "<init>", "()V"⟩
abbrev cX0_forget : ByteArray := prog_2_method_2_code
def yX0_forget : MethodName := ⟨RX0, "forget", "()V"⟩
abbrev cX0_tracedAt : ByteArray := prog_2_method_3_code
def yX0_tracedAt : MethodName := ⟨RX0, "tracedAt", "(I)I"⟩
abbrev cX0_leave : ByteArray := prog_2_method_4_code
def yX0_leave : MethodName := ⟨RX0, "leave", "(I)V"⟩
abbrev cX0_worthOf : ByteArray := prog_2_method_5_code
def yX0_worthOf : MethodName := ⟨RX0, "worthOf", "(LFleetSlots$Device;I)I"⟩
abbrev cX0_worthOfAny : ByteArray := prog_2_method_6_code
def yX0_worthOfAny : MethodName := ⟨RX0, "worthOfAny", "(LFleetSlots$Device;)I"⟩
abbrev cX0_worthOfFresh : ByteArray := prog_2_method_7_code
def yX0_worthOfFresh : MethodName := ⟨RX0, "worthOfFresh", "(LFleetSlots$Device;)I"⟩
abbrev cX0_worthOfSettled : ByteArray := prog_2_method_8_code
def yX0_worthOfSettled : MethodName := ⟨RX0, "worthOfSettled", "(LFleetSlots$Device;)I"⟩
abbrev cX0_worthOfStuck : ByteArray := prog_2_method_9_code
def yX0_worthOfStuck : MethodName := ⟨RX0, "worthOfStuck", "(LFleetSlots$Device;)I"⟩
abbrev cX0_markOf : ByteArray := prog_2_method_10_code
def yX0_markOf : MethodName := ⟨RX0, "markOf", "(LFleetSlots$Device;I)I"⟩
abbrev cX0_markOfAny : ByteArray := prog_2_method_11_code
def yX0_markOfAny : MethodName := ⟨RX0, "markOfAny", "(LFleetSlots$Device;)I"⟩
abbrev cX0_markOfFresh : ByteArray := prog_2_method_12_code
def yX0_markOfFresh : MethodName := ⟨RX0, "markOfFresh", "(LFleetSlots$Device;I)I"⟩
abbrev cX0_markOfStuck : ByteArray := prog_2_method_13_code
def yX0_markOfStuck : MethodName := ⟨RX0, "markOfStuck", "(LFleetSlots$Device;)I"⟩
def RX1 : String := "FleetSlots$Campaign"
def TX1 : u_T := fun k => match k with
  | 0 => ("FleetSlots$Campaign", "target", "LFleetSlots$Version;", false)
  | 1 => ("FleetSlots$Campaign", "shares", "[I", true)
  | 2 => ("FleetSlots$Campaign", "waves", "I", false)
  | 3 => ("FleetSlots$Campaign", "gate", "I", false)
  | 4 => ("FleetSlots$Campaign", "wasAsked", "[Z", true)
  | 5 => ("FleetSlots$Campaign", "wave", "I", false)
  | 6 => ("FleetSlots$Campaign", "asked", "I", false)
  | 7 => ("FleetSlots$Campaign", "failed", "I", false)
  | 8 => ("FleetSlots$Campaign", "state", "I", false)
  | _ => ("FleetSlots$Campaign", "bytesSent", "I", false)
def tyX1 : Nat → FieldType := fun k => match k with
  | 0 => .object "FleetSlots$Version"
  | 1 => .array .int
  | 2 => .int
  | 3 => .int
  | 4 => .array .boolean
  | 5 => .int
  | 6 => .int
  | 7 => .int
  | 8 => .int
  | _ => .int
abbrev wsX10 : List Cond := u_ws RX1 TX1 10
theorem nmX1 : ∀ a, a < 10 → ∀ b, b < 10 → a ≠ b → (TX1 a).2.1 ≠ (TX1 b).2.1 := by decide +kernel
theorem tyX1_ok : ∀ k, k < 10 → parseFieldDescriptor (TX1 k).2.2.1 = some (tyX1 k) := by decide +kernel
abbrev cX1_init : ByteArray := prog_3_method_1_code
def yX1_init : MethodName := ⟨RX1, "<init>", "()V"⟩
abbrev cX1_begin : ByteArray := prog_3_method_2_code
def yX1_begin : MethodName := ⟨RX1, "begin", "(LFleetSlots$Version;LFleetSlots$Sheet;III)V"⟩
abbrev cX1_beginWave : ByteArray := prog_3_method_3_code
def yX1_beginWave : MethodName := ⟨RX1, "beginWave", "(I)V"⟩
abbrev cX1_isRunning : ByteArray := prog_3_method_4_code
def yX1_isRunning : MethodName := ⟨RX1, "isRunning", "()Z"⟩
abbrev cX1_shareOfWave : ByteArray := prog_3_method_5_code
def yX1_shareOfWave : MethodName := ⟨RX1, "shareOfWave", "()I"⟩
abbrev cX1_note : ByteArray := prog_3_method_6_code
def yX1_note : MethodName := ⟨RX1, "note", "(IIZ)V"⟩
abbrev cX1_endWave : ByteArray := prog_3_method_7_code
def yX1_endWave : MethodName := ⟨RX1, "endWave", "()V"⟩
def RX2 : String := "FleetSlots$Device"
def TX2 : u_T := fun k => match k with
  | 0 => ("FleetSlots$Device", "number", "I", true)
  | 1 => ("FleetSlots$Device", "sort", "I", false)
  | 2 => ("FleetSlots$Device", "hub", "LFleetSlots$Device;", false)
  | 3 => ("FleetSlots$Device", "active", "LFleetSlots$Slot;", false)
  | 4 => ("FleetSlots$Device", "spare", "LFleetSlots$Slot;", false)
  | 5 => ("FleetSlots$Device", "activeSlot", "I", false)
  | 6 => ("FleetSlots$Device", "spareIsToBeTried", "Z", false)
  | 7 => ("FleetSlots$Device", "triesLeft", "I", false)
  | 8 => ("FleetSlots$Device", "fuse", "I", false)
  | 9 => ("FleetSlots$Device", "fails", "I", false)
  | _ => ("FleetSlots$Device", "failsSinceFresh", "I", false)
def tyX2 : Nat → FieldType := fun k => match k with
  | 0 => .int
  | 1 => .int
  | 2 => .object "FleetSlots$Device"
  | 3 => .object "FleetSlots$Slot"
  | 4 => .object "FleetSlots$Slot"
  | 5 => .int
  | 6 => .boolean
  | 7 => .int
  | 8 => .int
  | 9 => .int
  | _ => .int
abbrev wsX20 : List Cond := u_ws RX2 TX2 11
theorem nmX2 : ∀ a, a < 11 → ∀ b, b < 11 → a ≠ b → (TX2 a).2.1 ≠ (TX2 b).2.1 := by decide +kernel
theorem tyX2_ok : ∀ k, k < 11 → parseFieldDescriptor (TX2 k).2.2.1 = some (tyX2 k) := by decide +kernel
abbrev cX2_init : ByteArray := prog_4_method_1_code
def yX2_init : MethodName := ⟨RX2, "<init>", "(I)V"⟩
abbrev cX2_arrive : ByteArray := prog_4_method_2_code
def yX2_arrive : MethodName := ⟨RX2, "arrive", "(ILFleetSlots$Version;LFleetSlots$Device;)V"⟩
abbrev cX2_become : ByteArray := prog_4_method_3_code
def yX2_become : MethodName := ⟨RX2, "become", "(LFleetSlots$Device;)V"⟩
abbrev cX2_isAtLeastAt : ByteArray := prog_4_method_4_code
def yX2_isAtLeastAt : MethodName := ⟨RX2, "isAtLeastAt", "(LFleetSlots$Version;)Z"⟩
abbrev cX2_isAlive : ByteArray := prog_4_method_5_code
def yX2_isAlive : MethodName := ⟨RX2, "isAlive", "()Z"⟩
abbrev cX2_install : ByteArray := prog_4_method_6_code
def yX2_install : MethodName := ⟨RX2, "install", "(LFleetSlots$Version;I)I"⟩
abbrev cX2_isOver : ByteArray := prog_4_method_7_code
def yX2_isOver : MethodName := ⟨RX2, "isOver", "(LFleetSlots$Version;I)Z"⟩
abbrev cX2_doAct : ByteArray := prog_4_method_8_code
def yX2_doAct : MethodName := ⟨RX2, "doAct", "(LFleetSlots$Version;I)V"⟩
abbrev cX2_start : ByteArray := prog_4_method_9_code
def yX2_start : MethodName := ⟨RX2, "start", "()V"⟩
abbrev cX2_take : ByteArray := prog_4_method_10_code
def yX2_take : MethodName := ⟨RX2, "take", "(LFleetSlots$Version;)V"⟩
abbrev cX2_endTrial : ByteArray := prog_4_method_11_code
def yX2_endTrial : MethodName := ⟨RX2, "endTrial", "()V"⟩
def RX3 : String := "FleetSlots$Sheet"
def TX3 : u_T := fun k => match k with
  | 0 => ("FleetSlots$Sheet", "items", "[I", true)
  | 1 => ("FleetSlots$Sheet", "missing", "Z", false)
  | 2 => ("FleetSlots$Sheet", "lane", "I", false)
  | _ => ("FleetSlots$Sheet", "size", "I", false)
def tyX3 : Nat → FieldType := fun k => match k with
  | 0 => .array .int
  | 1 => .boolean
  | 2 => .int
  | _ => .int
abbrev wsX30 : List Cond := u_ws RX3 TX3 4
theorem nmX3 : ∀ a, a < 4 → ∀ b, b < 4 → a ≠ b → (TX3 a).2.1 ≠ (TX3 b).2.1 := by decide +kernel
theorem tyX3_ok : ∀ k, k < 4 → parseFieldDescriptor (TX3 k).2.2.1 = some (tyX3 k) := by decide +kernel
abbrev cX3_init : ByteArray := prog_5_method_1_code
def yX3_init : MethodName := ⟨RX3, "<init>", "()V"⟩
abbrev cX3_lay : ByteArray := prog_5_method_2_code
def yX3_lay : MethodName := ⟨RX3, "lay", "(II)V"⟩
abbrev cX3_hasPlaces : ByteArray := prog_5_method_3_code
def yX3_hasPlaces : MethodName := ⟨RX3, "hasPlaces", "(II)Z"⟩
abbrev cX3_put : ByteArray := prog_5_method_4_code
def yX3_put : MethodName := ⟨RX3, "put", "(II)I"⟩
abbrev cX3_holdsRisingShares : ByteArray := prog_5_method_5_code
def yX3_holdsRisingShares : MethodName := ⟨RX3, "holdsRisingShares", "(II)Z"⟩
def RX4 : String := "FleetSlots$Slot"
def TX4 : u_T := fun k => match k with
  | 0 => ("FleetSlots$Slot", "program", "LFleetSlots$Version;", false)
  | _ => ("FleetSlots$Slot", "blocks", "I", false)
def tyX4 : Nat → FieldType := fun k => match k with
  | 0 => .object "FleetSlots$Version"
  | _ => .int
abbrev wsX40 : List Cond := u_ws RX4 TX4 2
theorem nmX4 : ∀ a, a < 2 → ∀ b, b < 2 → a ≠ b → (TX4 a).2.1 ≠ (TX4 b).2.1 := by decide +kernel
theorem tyX4_ok : ∀ k, k < 2 → parseFieldDescriptor (TX4 k).2.2.1 = some (tyX4 k) := by decide +kernel
abbrev cX4_init : ByteArray := prog_6_method_1_code
def yX4_init : MethodName := ⟨RX4, "<init>", "()V"⟩
abbrev cX4_fill : ByteArray := prog_6_method_2_code
def yX4_fill : MethodName := ⟨RX4, "fill", "(LFleetSlots$Version;I)V"⟩
abbrev cX4_versionNumber : ByteArray := prog_6_method_3_code
def yX4_versionNumber : MethodName := ⟨RX4, "versionNumber", "()I"⟩
abbrev cX4_isWholeNotBelow : ByteArray := prog_6_method_4_code
def yX4_isWholeNotBelow : MethodName := ⟨RX4, "isWholeNotBelow", "(I)Z"⟩
def RX5 : String := "FleetSlots$Steps"
def TX5 : u_T := fun k => match k with
  | 0 => ("FleetSlots$Steps", "bytes", "[[I", true)
  | 1 => ("FleetSlots$Steps", "leastBytes", "[I", true)
  | 2 => ("FleetSlots$Steps", "fewest", "[I", true)
  | 3 => ("FleetSlots$Steps", "next", "[I", true)
  | _ => ("FleetSlots$Steps", "known", "I", false)
def tyX5 : Nat → FieldType := fun k => match k with
  | 0 => .array (.array .int)
  | 1 => .array .int
  | 2 => .array .int
  | 3 => .array .int
  | _ => .int
abbrev wsX50 : List Cond := u_ws RX5 TX5 5
theorem nmX5 : ∀ a, a < 5 → ∀ b, b < 5 → a ≠ b → (TX5 a).2.1 ≠ (TX5 b).2.1 := by decide +kernel
theorem tyX5_ok : ∀ k, k < 5 → parseFieldDescriptor (TX5 k).2.2.1 = some (tyX5 k) := by decide +kernel
abbrev cX5_init : ByteArray := prog_7_method_1_code
def yX5_init : MethodName := ⟨RX5, "<init>", "()V"⟩
abbrev cX5_exchange : ByteArray := prog_7_method_2_code
def yX5_exchange : MethodName := ⟨RX5, "exchange", "(III)I"⟩
abbrev cX5_search : ByteArray := prog_7_method_3_code
def yX5_search : MethodName := ⟨RX5, "search", "(II)Z"⟩
abbrev cX5_chooseNext : ByteArray := prog_7_method_4_code
def yX5_chooseNext : MethodName := ⟨RX5, "chooseNext", "(II)V"⟩
abbrev cX5_follow : ByteArray := prog_7_method_5_code
def yX5_follow : MethodName := ⟨RX5, "follow", "(II)I"⟩
def RX6 : String := "FleetSlots$Version"
def TX6 : u_T := fun k => match k with
  | 0 => ("FleetSlots$Version", "number", "I", true)
  | 1 => ("FleetSlots$Version", "blocks", "I", false)
  | 2 => ("FleetSlots$Version", "floor", "I", false)
  | _ => ("FleetSlots$Version", "ails", "I", false)
def tyX6 : Nat → FieldType := fun k => match k with
  | 0 => .int
  | 1 => .int
  | 2 => .int
  | _ => .int
abbrev wsX60 : List Cond := u_ws RX6 TX6 4
theorem nmX6 : ∀ a, a < 4 → ∀ b, b < 4 → a ≠ b → (TX6 a).2.1 ≠ (TX6 b).2.1 := by decide +kernel
theorem tyX6_ok : ∀ k, k < 4 → parseFieldDescriptor (TX6 k).2.2.1 = some (tyX6 k) := by decide +kernel
abbrev cX6_init : ByteArray := prog_8_method_1_code
def yX6_init : MethodName := ⟨RX6, "<init>", "(I)V"⟩
abbrev cX6_fill : ByteArray := prog_8_method_2_code
def yX6_fill : MethodName := ⟨RX6, "fill", "(III)V"⟩
abbrev cX6_ailsOn : ByteArray := prog_8_method_3_code
def yX6_ailsOn : MethodName := ⟨RX6, "ailsOn", "(I)Z"⟩
def RX7 : String := "FleetSlots"
def TX7 : u_T := fun k => match k with
  | 0 => ("FleetSlots", "sheets", "[LFleetSlots$Sheet;", true)
  | 1 => ("FleetSlots", "versions", "[LFleetSlots$Version;", true)
  | 2 => ("FleetSlots", "versionCount", "I", false)
  | 3 => ("FleetSlots", "steps", "LFleetSlots$Steps;", true)
  | 4 => ("FleetSlots", "devices", "[LFleetSlots$Device;", true)
  | 5 => ("FleetSlots", "deviceCount", "I", false)
  | 6 => ("FleetSlots", "standIn", "LFleetSlots$Device;", true)
  | 7 => ("FleetSlots", "current", "LFleetSlots$Campaign;", true)
  | 8 => ("FleetSlots", "seedBits", "I", false)
  | 9 => ("FleetSlots", "asks", "LFleetSlots$Asks;", true)
  | _ => ("FleetSlots", "latestFinding", "I", false)
def tyX7 : Nat → FieldType := fun k => match k with
  | 0 => .array (.object "FleetSlots$Sheet")
  | 1 => .array (.object "FleetSlots$Version")
  | 2 => .int
  | 3 => .object "FleetSlots$Steps"
  | 4 => .array (.object "FleetSlots$Device")
  | 5 => .int
  | 6 => .object "FleetSlots$Device"
  | 7 => .object "FleetSlots$Campaign"
  | 8 => .int
  | 9 => .object "FleetSlots$Asks"
  | _ => .int
abbrev wsX70 : List Cond := u_ws RX7 TX7 11
theorem nmX7 : ∀ a, a < 11 → ∀ b, b < 11 → a ≠ b → (TX7 a).2.1 ≠ (TX7 b).2.1 := by decide +kernel
theorem tyX7_ok : ∀ k, k < 11 → parseFieldDescriptor (TX7 k).2.2.1 = some (tyX7 k) := by decide +kernel
abbrev cX7_init : ByteArray := prog_1_method_1_code
def yX7_init : MethodName := ⟨RX7, "<init>", "()V"⟩
abbrev cX7_sheet : ByteArray := prog_1_method_2_code
def yX7_sheet : MethodName := ⟨RX7, "sheet", "(III)I"⟩
abbrev cX7_set : ByteArray := prog_1_method_3_code
def yX7_set : MethodName := ⟨RX7, "set", "(III)I"⟩
abbrev cX7_copy : ByteArray := prog_1_method_4_code
def yX7_copy : MethodName := ⟨RX7, "copy", "(IIIII)I"⟩
abbrev cX7_drop : ByteArray := prog_1_method_5_code
def yX7_drop : MethodName := ⟨RX7, "drop", "(I)I"⟩
abbrev cX7_version : ByteArray := prog_1_method_6_code
def yX7_version : MethodName := ⟨RX7, "version", "(III)I"⟩
abbrev cX7_step : ByteArray := prog_1_method_7_code
def yX7_step : MethodName := ⟨RX7, "step", "(III)I"⟩
abbrev cX7_path : ByteArray := prog_1_method_8_code
def yX7_path : MethodName := ⟨RX7, "path", "(III)I"⟩
abbrev cX7_on : ByteArray := prog_1_method_9_code
def yX7_on : MethodName := ⟨RX7, "on", "(III)I"⟩
abbrev cX7_device : ByteArray := prog_1_method_10_code
def yX7_device : MethodName := ⟨RX7, "device", "(III)I"⟩
abbrev cX7_told : ByteArray := prog_1_method_11_code
def yX7_told : MethodName := ⟨RX7, "told", "(II)I"⟩
abbrev cX7_update : ByteArray := prog_1_method_12_code
def yX7_update : MethodName := ⟨RX7, "update", "(II)I"⟩
abbrev cX7_acts : ByteArray := prog_1_method_13_code
def yX7_acts : MethodName := ⟨RX7, "acts", "(II)I"⟩
abbrev cX7_power : ByteArray := prog_1_method_14_code
def yX7_power : MethodName := ⟨RX7, "power", "(III)I"⟩
abbrev cX7_cut : ByteArray := prog_1_method_15_code
def yX7_cut : MethodName := ⟨RX7, "cut", "(IIII)I"⟩
abbrev cX7_seed : ByteArray := prog_1_method_16_code
def yX7_seed : MethodName := ⟨RX7, "seed", "(I)I"⟩
abbrev cX7_campaign : ByteArray := prog_1_method_17_code
def yX7_campaign : MethodName := ⟨RX7, "campaign", "(IIIII)I"⟩
abbrev cX7_tick : ByteArray := prog_1_method_18_code
def yX7_tick : MethodName := ⟨RX7, "tick", "(I)I"⟩
abbrev cX7_runs : ByteArray := prog_1_method_19_code
def yX7_runs : MethodName := ⟨RX7, "runs", "(I)I"⟩
abbrev cX7_chance : ByteArray := prog_1_method_20_code
def yX7_chance : MethodName := ⟨RX7, "chance", "(III)J"⟩
abbrev cX7_kind : ByteArray := prog_1_method_21_code
def yX7_kind : MethodName := ⟨RX7, "kind", "(I)I"⟩
abbrev cX7_as : ByteArray := prog_1_method_22_code
def yX7_as : MethodName := ⟨RX7, "as", "(II)I"⟩
abbrev cX7_ask : ByteArray := prog_1_method_23_code
def yX7_ask : MethodName := ⟨RX7, "ask", "(II)I"⟩
abbrev cX7_trace : ByteArray := prog_1_method_24_code
def yX7_trace : MethodName := ⟨RX7, "trace", "(I)I"⟩
abbrev cX7_count : ByteArray := prog_1_method_25_code
def yX7_count : MethodName := ⟨RX7, "count", "(I)I"⟩
abbrev cX7_status : ByteArray := prog_1_method_26_code
def yX7_status : MethodName := ⟨RX7, "status", "()I"⟩
abbrev cX7_isSheet : ByteArray := prog_1_method_27_code
def yX7_isSheet : MethodName := ⟨RX7, "isSheet", "(I)Z"⟩
abbrev cX7_isVersion : ByteArray := prog_1_method_28_code
def yX7_isVersion : MethodName := ⟨RX7, "isVersion", "(I)Z"⟩
abbrev cX7_isRise : ByteArray := prog_1_method_29_code
def yX7_isRise : MethodName := ⟨RX7, "isRise", "(II)Z"⟩
abbrev cX7_isDevice : ByteArray := prog_1_method_30_code
def yX7_isDevice : MethodName := ⟨RX7, "isDevice", "(I)Z"⟩
abbrev cX7_isAbove : ByteArray := prog_1_method_31_code
def yX7_isAbove : MethodName := ⟨RX7, "isAbove", "(ILFleetSlots$Device;)Z"⟩
abbrev cX7_leastFloor : ByteArray := prog_1_method_32_code
def yX7_leastFloor : MethodName := ⟨RX7, "leastFloor", "()I"⟩
abbrev cX7_found : ByteArray := prog_1_method_33_code
def yX7_found : MethodName := ⟨RX7, "found", "(I)I"⟩
abbrev cX7_passed : ByteArray := prog_1_method_34_code
def yX7_passed : MethodName := ⟨RX7, "passed", "(I)I"⟩
abbrev cX7_updateWhole : ByteArray := prog_1_method_35_code
def yX7_updateWhole : MethodName := ⟨RX7, "updateWhole", "(LFleetSlots$Device;LFleetSlots$Version;)Z"⟩
abbrev cX7_noteEnd : ByteArray := prog_1_method_36_code
def yX7_noteEnd : MethodName := ⟨RX7, "noteEnd", "(LFleetSlots$Device;LFleetSlots$Version;)Z"⟩
abbrev cX7_cutStandIn : ByteArray := prog_1_method_37_code
def yX7_cutStandIn : MethodName := ⟨RX7, "cutStandIn", "(III)I"⟩
abbrev cX7_drawOf : ByteArray := prog_1_method_38_code
def yX7_drawOf : MethodName := ⟨RX7, "drawOf", "(LFleetSlots$Device;)I"⟩
abbrev cX7_isMember : ByteArray := prog_1_method_39_code
def yX7_isMember : MethodName := ⟨RX7, "isMember", "(LFleetSlots$Device;)Z"⟩
abbrev cX7_membersOfWave : ByteArray := prog_1_method_40_code
def yX7_membersOfWave : MethodName := ⟨RX7, "membersOfWave", "()I"⟩
abbrev cX7_isDue : ByteArray := prog_1_method_41_code
def yX7_isDue : MethodName := ⟨RX7, "isDue", "(LFleetSlots$Device;)Z"⟩
abbrev cX7_bytesTo : ByteArray := prog_1_method_42_code
def yX7_bytesTo : MethodName := ⟨RX7, "bytesTo", "(LFleetSlots$Device;LFleetSlots$Version;)I"⟩
abbrev cX7_devicesAtLeastAt : ByteArray := prog_1_method_43_code
def yX7_devicesAtLeastAt : MethodName := ⟨RX7, "devicesAtLeastAt", "(LFleetSlots$Version;)I"⟩
abbrev cX7_isHalting : ByteArray := prog_1_method_44_code
def yX7_isHalting : MethodName := ⟨RX7, "isHalting", "(III)Z"⟩
abbrev cX7_choices : ByteArray := prog_1_method_45_code
def yX7_choices : MethodName := ⟨RX7, "choices", "(II)J"⟩
abbrev cX7_raised : ByteArray := prog_1_method_46_code
def yX7_raised : MethodName := ⟨RX7, "raised", "(II)J"⟩
abbrev cX7_isFresh : ByteArray := prog_1_method_47_code
def yX7_isFresh : MethodName := ⟨RX7, "isFresh", "(LFleetSlots$Device;)Z"⟩
abbrev cX7_kindOf : ByteArray := prog_1_method_48_code
def yX7_kindOf : MethodName := ⟨RX7, "kindOf", "(LFleetSlots$Device;)I"⟩
abbrev cX7_isOfKind : ByteArray := prog_1_method_49_code
def yX7_isOfKind : MethodName := ⟨RX7, "isOfKind", "(LFleetSlots$Device;I)Z"⟩
abbrev cX7_sheetsThere : ByteArray := prog_1_method_50_code
def yX7_sheetsThere : MethodName := ⟨RX7, "sheetsThere", "()I"⟩
abbrev cX7_devicesAlive : ByteArray := prog_1_method_51_code
def yX7_devicesAlive : MethodName := ⟨RX7, "devicesAlive", "()I"⟩
abbrev cX7_devicesTold : ByteArray := prog_1_method_52_code
def yX7_devicesTold : MethodName := ⟨RX7, "devicesTold", "(I)I"⟩
def RX8 : String := "FleetSlotsModel"
def TX8 : u_T := fun k => match k with
  | 0 => ("FleetSlotsModel", "thrown", "I", false)
  | 1 => ("FleetSlotsModel", "status", "I", false)
  | 2 => ("FleetSlotsModel", "lane", "[I", true)
  | 3 => ("FleetSlotsModel", "many", "[I", true)
  | 4 => ("FleetSlotsModel", "item", "[I", true)
  | 5 => ("FleetSlotsModel", "versions", "I", false)
  | 6 => ("FleetSlotsModel", "blocks", "[I", true)
  | 7 => ("FleetSlotsModel", "floor", "[I", true)
  | 8 => ("FleetSlotsModel", "ails", "[I", true)
  | 9 => ("FleetSlotsModel", "bytes", "[I", true)
  | 10 => ("FleetSlotsModel", "way", "[I", true)
  | 11 => ("FleetSlotsModel", "steps", "[I", true)
  | 12 => ("FleetSlotsModel", "then", "[I", true)
  | 13 => ("FleetSlotsModel", "devices", "I", false)
  | 14 => ("FleetSlotsModel", "sort", "[I", true)
  | 15 => ("FleetSlotsModel", "hub", "[I", true)
  | 16 => ("FleetSlotsModel", "on", "[I", true)
  | 17 => ("FleetSlotsModel", "holds", "[I", true)
  | 18 => ("FleetSlotsModel", "parts", "[I", true)
  | 19 => ("FleetSlotsModel", "isTried", "[Z", true)
  | 20 => ("FleetSlotsModel", "tries", "[I", true)
  | 21 => ("FleetSlotsModel", "fuse", "[I", true)
  | 22 => ("FleetSlotsModel", "fails", "[I", true)
  | 23 => ("FleetSlotsModel", "failsSince", "[I", true)
  | 24 => ("FleetSlotsModel", "seed", "I", false)
  | 25 => ("FleetSlotsModel", "isThere", "Z", false)
  | 26 => ("FleetSlotsModel", "target", "I", false)
  | 27 => ("FleetSlotsModel", "waves", "I", false)
  | 28 => ("FleetSlotsModel", "share", "[I", true)
  | 29 => ("FleetSlotsModel", "gate", "I", false)
  | 30 => ("FleetSlotsModel", "wave", "I", false)
  | 31 => ("FleetSlotsModel", "asked", "I", false)
  | 32 => ("FleetSlotsModel", "failed", "I", false)
  | 33 => ("FleetSlotsModel", "over", "I", false)
  | 34 => ("FleetSlotsModel", "sent", "I", false)
  | 35 => ("FleetSlotsModel", "wasAsked", "[Z", true)
  | 36 => ("FleetSlotsModel", "trace", "[I", true)
  | _ => ("FleetSlotsModel", "traced", "I", false)
def tyX8 : Nat → FieldType := fun k => match k with
  | 0 => .int
  | 1 => .int
  | 2 => .array .int
  | 3 => .array .int
  | 4 => .array .int
  | 5 => .int
  | 6 => .array .int
  | 7 => .array .int
  | 8 => .array .int
  | 9 => .array .int
  | 10 => .array .int
  | 11 => .array .int
  | 12 => .array .int
  | 13 => .int
  | 14 => .array .int
  | 15 => .array .int
  | 16 => .array .int
  | 17 => .array .int
  | 18 => .array .int
  | 19 => .array .boolean
  | 20 => .array .int
  | 21 => .array .int
  | 22 => .array .int
  | 23 => .array .int
  | 24 => .int
  | 25 => .boolean
  | 26 => .int
  | 27 => .int
  | 28 => .array .int
  | 29 => .int
  | 30 => .int
  | 31 => .int
  | 32 => .int
  | 33 => .int
  | 34 => .int
  | 35 => .array .boolean
  | 36 => .array .int
  | _ => .int
abbrev wsX80 : List Cond := u_ws RX8 TX8 38
theorem nmX8 : ∀ a, a < 38 → ∀ b, b < 38 → a ≠ b → (TX8 a).2.1 ≠ (TX8 b).2.1 := by decide +kernel
theorem tyX8_ok : ∀ k, k < 38 → parseFieldDescriptor (TX8 k).2.2.1 = some (tyX8 k) := by decide +kernel
abbrev cX8_init : ByteArray := prog_10_method_1_code
def yX8_init : MethodName := ⟨RX8, "<init>", "()V"⟩
abbrev cX8_in : ByteArray := prog_10_method_3_code
def yX8_in : MethodName := ⟨RX8, "in", "(JJJ)Z"⟩
abbrev cX8_found : ByteArray := prog_10_method_4_code
def yX8_found : MethodName := ⟨RX8, "found", "(I)I"⟩
abbrev cX8_isSheet : ByteArray := prog_10_method_5_code
def yX8_isSheet : MethodName := ⟨RX8, "isSheet", "(I)Z"⟩
abbrev cX8_sheet : ByteArray := prog_10_method_6_code
def yX8_sheet : MethodName := ⟨RX8, "sheet", "(III)I"⟩
abbrev cX8_set : ByteArray := prog_10_method_7_code
def yX8_set : MethodName := ⟨RX8, "set", "(III)I"⟩
abbrev cX8_copy : ByteArray := prog_10_method_8_code
def yX8_copy : MethodName := ⟨RX8, "copy", "(IIIII)I"⟩
abbrev cX8_drop : ByteArray := prog_10_method_9_code
def yX8_drop : MethodName := ⟨RX8, "drop", "(I)I"⟩
abbrev cX8_isVersion : ByteArray := prog_10_method_10_code
def yX8_isVersion : MethodName := ⟨RX8, "isVersion", "(I)Z"⟩
abbrev cX8_areSteps : ByteArray := prog_10_method_11_code
def yX8_areSteps : MethodName := ⟨RX8, "areSteps", "(II)Z"⟩
abbrev cX8_version : ByteArray := prog_10_method_12_code
def yX8_version : MethodName := ⟨RX8, "version", "(III)I"⟩
abbrev cX8_step : ByteArray := prog_10_method_13_code
def yX8_step : MethodName := ⟨RX8, "step", "(III)I"⟩
abbrev cX8_findWays : ByteArray := prog_10_method_14_code
def yX8_findWays : MethodName := ⟨RX8, "findWays", "(I)V"⟩
abbrev cX8_path : ByteArray := prog_10_method_15_code
def yX8_path : MethodName := ⟨RX8, "path", "(III)I"⟩
abbrev cX8_on : ByteArray := prog_10_method_16_code
def yX8_on : MethodName := ⟨RX8, "on", "(III)I"⟩
abbrev cX8_isDevice : ByteArray := prog_10_method_17_code
def yX8_isDevice : MethodName := ⟨RX8, "isDevice", "(I)Z"⟩
abbrev cX8_isAiling : ByteArray := prog_10_method_18_code
def yX8_isAiling : MethodName := ⟨RX8, "isAiling", "(II)Z"⟩
abbrev cX8_device : ByteArray := prog_10_method_19_code
def yX8_device : MethodName := ⟨RX8, "device", "(III)I"⟩
abbrev cX8_runsOn : ByteArray := prog_10_method_20_code
def yX8_runsOn : MethodName := ⟨RX8, "runsOn", "(I)I"⟩
abbrev cX8_other : ByteArray := prog_10_method_21_code
def yX8_other : MethodName := ⟨RX8, "other", "(I)I"⟩
abbrev cX8_draw : ByteArray := prog_10_method_22_code
def yX8_draw : MethodName := ⟨RX8, "draw", "(I)I"⟩
abbrev cX8_isAlive : ByteArray := prog_10_method_23_code
def yX8_isAlive : MethodName := ⟨RX8, "isAlive", "(I)Z"⟩
abbrev cX8_told : ByteArray := prog_10_method_24_code
def yX8_told : MethodName := ⟨RX8, "told", "(II)I"⟩
abbrev cX8_start : ByteArray := prog_10_method_25_code
def yX8_start : MethodName := ⟨RX8, "start", "(I)V"⟩
abbrev cX8_actsOf : ByteArray := prog_10_method_26_code
def yX8_actsOf : MethodName := ⟨RX8, "actsOf", "(II)I"⟩
abbrev cX8_act : ByteArray := prog_10_method_27_code
def yX8_act : MethodName := ⟨RX8, "act", "(III)V"⟩
abbrev cX8_go : ByteArray := prog_10_method_28_code
def yX8_go : MethodName := ⟨RX8, "go", "(IIII)V"⟩
abbrev cX8_ends : ByteArray := prog_10_method_29_code
def yX8_ends : MethodName := ⟨RX8, "ends", "(II)I"⟩
abbrev cX8_update : ByteArray := prog_10_method_30_code
def yX8_update : MethodName := ⟨RX8, "update", "(II)I"⟩
abbrev cX8_acts : ByteArray := prog_10_method_31_code
def yX8_acts : MethodName := ⟨RX8, "acts", "(II)I"⟩
abbrev cX8_power : ByteArray := prog_10_method_32_code
def yX8_power : MethodName := ⟨RX8, "power", "(III)I"⟩
abbrev cX8_cut : ByteArray := prog_10_method_33_code
def yX8_cut : MethodName := ⟨RX8, "cut", "(IIII)I"⟩
abbrev cX8_seed : ByteArray := prog_10_method_34_code
def yX8_seed : MethodName := ⟨RX8, "seed", "(I)I"⟩
abbrev cX8_campaign : ByteArray := prog_10_method_35_code
def yX8_campaign : MethodName := ⟨RX8, "campaign", "(IIIII)I"⟩
abbrev cX8_beginWave : ByteArray := prog_10_method_36_code
def yX8_beginWave : MethodName := ⟨RX8, "beginWave", "(I)V"⟩
abbrev cX8_isNext : ByteArray := prog_10_method_37_code
def yX8_isNext : MethodName := ⟨RX8, "isNext", "(I)Z"⟩
abbrev cX8_tick : ByteArray := prog_10_method_38_code
def yX8_tick : MethodName := ⟨RX8, "tick", "(I)I"⟩
abbrev cX8_runs : ByteArray := prog_10_method_39_code
def yX8_runs : MethodName := ⟨RX8, "runs", "(I)I"⟩
abbrev cX8_power_ : ByteArray := prog_10_method_40_code
def yX8_power_ : MethodName := ⟨RX8, "power", "(II)J"⟩
abbrev cX8_chance : ByteArray := prog_10_method_41_code
def yX8_chance : MethodName := ⟨RX8, "chance", "(III)J"⟩
abbrev cX8_kindOf : ByteArray := prog_10_method_42_code
def yX8_kindOf : MethodName := ⟨RX8, "kindOf", "(I)I"⟩
abbrev cX8_kind : ByteArray := prog_10_method_43_code
def yX8_kind : MethodName := ⟨RX8, "kind", "(I)I"⟩
abbrev cX8_as : ByteArray := prog_10_method_44_code
def yX8_as : MethodName := ⟨RX8, "as", "(II)I"⟩
abbrev cX8_began : ByteArray := prog_10_method_45_code
def yX8_began : MethodName := ⟨RX8, "began", "(I)V"⟩
abbrev cX8_worth : ByteArray := prog_10_method_46_code
def yX8_worth : MethodName := ⟨RX8, "worth", "(I)I"⟩
abbrev cX8_marked : ByteArray := prog_10_method_47_code
def yX8_marked : MethodName := ⟨RX8, "marked", "(I)I"⟩
abbrev cX8_ask : ByteArray := prog_10_method_48_code
def yX8_ask : MethodName := ⟨RX8, "ask", "(II)I"⟩
abbrev cX8_trace : ByteArray := prog_10_method_49_code
def yX8_trace : MethodName := ⟨RX8, "trace", "(I)I"⟩
abbrev cX8_count : ByteArray := prog_10_method_50_code
def yX8_count : MethodName := ⟨RX8, "count", "(I)I"⟩
abbrev cX8_status : ByteArray := prog_10_method_51_code
def yX8_status : MethodName := ⟨RX8, "status", "()I"⟩
def RJ9 : String := "java/lang/Math"
def TJ9 : u_T := fun k => match k with
  | _ => ("", "", "", false)
def tyJ9 : Nat → FieldType := fun k => match k with
  | _ => .int
abbrev wsJ90 : List Cond := u_ws RJ9 TJ9 0
theorem nmJ9 : ∀ a, a < 0 → ∀ b, b < 0 → a ≠ b → (TJ9 a).2.1 ≠ (TJ9 b).2.1 := by decide +kernel
theorem tyJ9_ok : ∀ k, k < 0 → parseFieldDescriptor (TJ9 k).2.2.1 = some (tyJ9 k) := by decide +kernel
abbrev cJ9_max_7cf53 : ByteArray := prog_11_method_65_code
def yJ9_max_7cf53 : MethodName := ⟨RJ9, "max", "(II)I"⟩
def RJ10 : String := "java/lang/System"
def TJ10 : u_T := fun k => match k with
  | _ => ("", "", "", false)
def tyJ10 : Nat → FieldType := fun k => match k with
  | _ => .int
abbrev wsJ100 : List Cond := u_ws RJ10 TJ10 0
theorem nmJ10 : ∀ a, a < 0 → ∀ b, b < 0 → a ≠ b → (TJ10 a).2.1 ≠ (TJ10 b).2.1 := by decide +kernel
theorem tyJ10_ok : ∀ k, k < 0 → parseFieldDescriptor (TJ10 k).2.2.1 = some (tyJ10 k) := by decide +kernel
def RL : String := "FleetSlotsLaw"
abbrev cL_law : ByteArray := code
def yL_law : MethodName := ⟨RL, "law", "([I)Z"⟩
end
section
theorem dX0_init_0 : decode cX0_init 0 = .ok (.aload_n 0, 1) := by decide +kernel
theorem dX0_init_1 : decode cX0_init 1 = .ok (.invokespecial 3, 3) := by decide +kernel
theorem dX0_init_4 : decode cX0_init 4 = .ok (.aload_n 0, 1) := by decide +kernel
theorem dX0_init_5 : decode cX0_init 5 = .ok (.bipush 16, 2) := by decide +kernel
theorem dX0_init_7 : decode cX0_init 7 = .ok (.newarray .int, 2) := by decide +kernel
theorem dX0_init_9 : decode cX0_init 9 = .ok (.putfield 9, 3) := by decide +kernel
theorem dX0_init_12 : decode cX0_init 12 = .ok (.return_, 1) := by decide +kernel
theorem dX0_forget_0 : decode cX0_forget 0 = .ok (.aload_n 0, 1) := by decide +kernel
theorem dX0_forget_1 : decode cX0_forget 1 = .ok (.iconst 0, 1) := by decide +kernel
theorem dX0_forget_2 : decode cX0_forget 2 = .ok (.putfield 15, 3) := by decide +kernel
theorem dX0_forget_5 : decode cX0_forget 5 = .ok (.return_, 1) := by decide +kernel
theorem dX0_tracedAt_0 : decode cX0_tracedAt 0 = .ok (.iload_n 1, 1) := by decide +kernel
theorem dX0_tracedAt_1 : decode cX0_tracedAt 1 = .ok (.ifCond .lt 20, 3) := by decide +kernel
theorem dX0_tracedAt_4 : decode cX0_tracedAt 4 = .ok (.iload_n 1, 1) := by decide +kernel
theorem dX0_tracedAt_5 : decode cX0_tracedAt 5 = .ok (.aload_n 0, 1) := by decide +kernel
theorem dX0_tracedAt_6 : decode cX0_tracedAt 6 = .ok (.getfield 15, 3) := by decide +kernel
theorem dX0_tracedAt_9 : decode cX0_tracedAt 9 = .ok (.if_icmp .ge 12, 3) := by decide +kernel
theorem dX0_tracedAt_12 : decode cX0_tracedAt 12 = .ok (.aload_n 0, 1) := by decide +kernel
theorem dX0_tracedAt_13 : decode cX0_tracedAt 13 = .ok (.getfield 9, 3) := by decide +kernel
theorem dX0_tracedAt_16 : decode cX0_tracedAt 16 = .ok (.iload_n 1, 1) := by decide +kernel
theorem dX0_tracedAt_17 : decode cX0_tracedAt 17 = .ok (.iaload, 1) := by decide +kernel
theorem dX0_tracedAt_18 : decode cX0_tracedAt 18 = .ok (.goto 5, 3) := by decide +kernel
theorem dX0_tracedAt_21 : decode cX0_tracedAt 21 = .ok (.ldc 19, 2) := by decide +kernel
theorem dX0_tracedAt_23 : decode cX0_tracedAt 23 = .ok (.ireturn, 1) := by decide +kernel
theorem dX0_leave_0 : decode cX0_leave 0 = .ok (.aload_n 0, 1) := by decide +kernel
theorem dX0_leave_1 : decode cX0_leave 1 = .ok (.getfield 15, 3) := by decide +kernel
theorem dX0_leave_4 : decode cX0_leave 4 = .ok (.bipush 16, 2) := by decide +kernel
theorem dX0_leave_6 : decode cX0_leave 6 = .ok (.if_icmp .ge 23, 3) := by decide +kernel
theorem dX0_leave_9 : decode cX0_leave 9 = .ok (.aload_n 0, 1) := by decide +kernel
theorem dX0_leave_10 : decode cX0_leave 10 = .ok (.getfield 9, 3) := by decide +kernel
theorem dX0_leave_13 : decode cX0_leave 13 = .ok (.aload_n 0, 1) := by decide +kernel
theorem dX0_leave_14 : decode cX0_leave 14 = .ok (.getfield 15, 3) := by decide +kernel
theorem dX0_leave_17 : decode cX0_leave 17 = .ok (.iload_n 1, 1) := by decide +kernel
theorem dX0_leave_18 : decode cX0_leave 18 = .ok (.iastore, 1) := by decide +kernel
theorem dX0_leave_19 : decode cX0_leave 19 = .ok (.aload_n 0, 1) := by decide +kernel
theorem dX0_leave_20 : decode cX0_leave 20 = .ok (.dup, 1) := by decide +kernel
theorem dX0_leave_21 : decode cX0_leave 21 = .ok (.getfield 15, 3) := by decide +kernel
theorem dX0_leave_24 : decode cX0_leave 24 = .ok (.iconst 1, 1) := by decide +kernel
theorem dX0_leave_25 : decode cX0_leave 25 = .ok (.iadd, 1) := by decide +kernel
theorem dX0_leave_26 : decode cX0_leave 26 = .ok (.putfield 15, 3) := by decide +kernel
theorem dX0_leave_29 : decode cX0_leave 29 = .ok (.return_, 1) := by decide +kernel
theorem dX0_worthOf_0 : decode cX0_worthOf 0 = .ok (.iload_n 2, 1) := by decide +kernel
theorem dX0_worthOf_1 : decode cX0_worthOf 1 = .ok (.tableswitch 45 1 3 #[27, 33, 39], 27) := by decide +kernel
theorem dX0_worthOf_28 : decode cX0_worthOf 28 = .ok (.aload_n 0, 1) := by decide +kernel
theorem dX0_worthOf_29 : decode cX0_worthOf 29 = .ok (.aload_n 1, 1) := by decide +kernel
theorem dX0_worthOf_30 : decode cX0_worthOf 30 = .ok (.invokevirtual 20, 3) := by decide +kernel
theorem dX0_worthOf_33 : decode cX0_worthOf 33 = .ok (.ireturn, 1) := by decide +kernel
theorem dX0_worthOf_34 : decode cX0_worthOf 34 = .ok (.aload_n 0, 1) := by decide +kernel
theorem dX0_worthOf_35 : decode cX0_worthOf 35 = .ok (.aload_n 1, 1) := by decide +kernel
theorem dX0_worthOf_36 : decode cX0_worthOf 36 = .ok (.invokevirtual 24, 3) := by decide +kernel
theorem dX0_worthOf_39 : decode cX0_worthOf 39 = .ok (.ireturn, 1) := by decide +kernel
theorem dX0_worthOf_40 : decode cX0_worthOf 40 = .ok (.aload_n 0, 1) := by decide +kernel
theorem dX0_worthOf_41 : decode cX0_worthOf 41 = .ok (.aload_n 1, 1) := by decide +kernel
theorem dX0_worthOf_42 : decode cX0_worthOf 42 = .ok (.invokevirtual 27, 3) := by decide +kernel
theorem dX0_worthOf_45 : decode cX0_worthOf 45 = .ok (.ireturn, 1) := by decide +kernel
theorem dX0_worthOf_46 : decode cX0_worthOf 46 = .ok (.aload_n 0, 1) := by decide +kernel
theorem dX0_worthOf_47 : decode cX0_worthOf 47 = .ok (.aload_n 1, 1) := by decide +kernel
theorem dX0_worthOf_48 : decode cX0_worthOf 48 = .ok (.invokevirtual 30, 3) := by decide +kernel
theorem dX0_worthOf_51 : decode cX0_worthOf 51 = .ok (.ireturn, 1) := by decide +kernel
theorem dX0_worthOfAny_0 : decode cX0_worthOfAny 0 = .ok (.aload_n 0, 1) := by decide +kernel
theorem dX0_worthOfAny_1 : decode cX0_worthOfAny 1 = .ok (.bipush 10, 2) := by decide +kernel
theorem dX0_worthOfAny_3 : decode cX0_worthOfAny 3 = .ok (.invokevirtual 33, 3) := by decide +kernel
theorem dX0_worthOfAny_6 : decode cX0_worthOfAny 6 = .ok (.aload_n 1, 1) := by decide +kernel
theorem dX0_worthOfAny_7 : decode cX0_worthOfAny 7 = .ok (.getfield 37, 3) := by decide +kernel
theorem dX0_worthOfAny_10 : decode cX0_worthOfAny 10 = .ok (.invokevirtual 43, 3) := by decide +kernel
theorem dX0_worthOfAny_13 : decode cX0_worthOfAny 13 = .ok (.ireturn, 1) := by decide +kernel
theorem dX0_worthOfFresh_0 : decode cX0_worthOfFresh 0 = .ok (.aload_n 0, 1) := by decide +kernel
theorem dX0_worthOfFresh_1 : decode cX0_worthOfFresh 1 = .ok (.bipush 11, 2) := by decide +kernel
theorem dX0_worthOfFresh_3 : decode cX0_worthOfFresh 3 = .ok (.invokevirtual 33, 3) := by decide +kernel
theorem dX0_worthOfFresh_6 : decode cX0_worthOfFresh 6 = .ok (.aload_n 0, 1) := by decide +kernel
theorem dX0_worthOfFresh_7 : decode cX0_worthOfFresh 7 = .ok (.aload_n 1, 1) := by decide +kernel
theorem dX0_worthOfFresh_8 : decode cX0_worthOfFresh 8 = .ok (.invokevirtual 30, 3) := by decide +kernel
theorem dX0_worthOfFresh_11 : decode cX0_worthOfFresh 11 = .ok (.bipush 100, 2) := by decide +kernel
theorem dX0_worthOfFresh_13 : decode cX0_worthOfFresh 13 = .ok (.iadd, 1) := by decide +kernel
theorem dX0_worthOfFresh_14 : decode cX0_worthOfFresh 14 = .ok (.ireturn, 1) := by decide +kernel
theorem dX0_worthOfSettled_0 : decode cX0_worthOfSettled 0 = .ok (.aload_n 0, 1) := by decide +kernel
theorem dX0_worthOfSettled_1 : decode cX0_worthOfSettled 1 = .ok (.bipush 12, 2) := by decide +kernel
theorem dX0_worthOfSettled_3 : decode cX0_worthOfSettled 3 = .ok (.invokevirtual 33, 3) := by decide +kernel
theorem dX0_worthOfSettled_6 : decode cX0_worthOfSettled 6 = .ok (.iconst 2, 1) := by decide +kernel
theorem dX0_worthOfSettled_7 : decode cX0_worthOfSettled 7 = .ok (.aload_n 0, 1) := by decide +kernel
theorem dX0_worthOfSettled_8 : decode cX0_worthOfSettled 8 = .ok (.aload_n 1, 1) := by decide +kernel
theorem dX0_worthOfSettled_9 : decode cX0_worthOfSettled 9 = .ok (.invokevirtual 20, 3) := by decide +kernel
theorem dX0_worthOfSettled_12 : decode cX0_worthOfSettled 12 = .ok (.imul, 1) := by decide +kernel
theorem dX0_worthOfSettled_13 : decode cX0_worthOfSettled 13 = .ok (.ireturn, 1) := by decide +kernel
theorem dX0_worthOfStuck_0 : decode cX0_worthOfStuck 0 = .ok (.aload_n 0, 1) := by decide +kernel
theorem dX0_worthOfStuck_1 : decode cX0_worthOfStuck 1 = .ok (.bipush 13, 2) := by decide +kernel
theorem dX0_worthOfStuck_3 : decode cX0_worthOfStuck 3 = .ok (.invokevirtual 33, 3) := by decide +kernel
theorem dX0_worthOfStuck_6 : decode cX0_worthOfStuck 6 = .ok (.aload_n 0, 1) := by decide +kernel
theorem dX0_worthOfStuck_7 : decode cX0_worthOfStuck 7 = .ok (.aload_n 1, 1) := by decide +kernel
theorem dX0_worthOfStuck_8 : decode cX0_worthOfStuck 8 = .ok (.invokevirtual 30, 3) := by decide +kernel
theorem dX0_worthOfStuck_11 : decode cX0_worthOfStuck 11 = .ok (.aload_n 1, 1) := by decide +kernel
theorem dX0_worthOfStuck_12 : decode cX0_worthOfStuck 12 = .ok (.getfield 49, 3) := by decide +kernel
theorem dX0_worthOfStuck_15 : decode cX0_worthOfStuck 15 = .ok (.isub, 1) := by decide +kernel
theorem dX0_worthOfStuck_16 : decode cX0_worthOfStuck 16 = .ok (.ireturn, 1) := by decide +kernel
theorem dX0_markOf_0 : decode cX0_markOf 0 = .ok (.iload_n 2, 1) := by decide +kernel
theorem dX0_markOf_1 : decode cX0_markOf 1 = .ok (.tableswitch 40 1 3 #[27, 27, 34], 27) := by decide +kernel
theorem dX0_markOf_28 : decode cX0_markOf 28 = .ok (.aload_n 0, 1) := by decide +kernel
theorem dX0_markOf_29 : decode cX0_markOf 29 = .ok (.aload_n 1, 1) := by decide +kernel
theorem dX0_markOf_30 : decode cX0_markOf 30 = .ok (.iload_n 2, 1) := by decide +kernel
theorem dX0_markOf_31 : decode cX0_markOf 31 = .ok (.invokevirtual 52, 3) := by decide +kernel
theorem dX0_markOf_34 : decode cX0_markOf 34 = .ok (.ireturn, 1) := by decide +kernel
theorem dX0_markOf_35 : decode cX0_markOf 35 = .ok (.aload_n 0, 1) := by decide +kernel
theorem dX0_markOf_36 : decode cX0_markOf 36 = .ok (.aload_n 1, 1) := by decide +kernel
theorem dX0_markOf_37 : decode cX0_markOf 37 = .ok (.invokevirtual 56, 3) := by decide +kernel
theorem dX0_markOf_40 : decode cX0_markOf 40 = .ok (.ireturn, 1) := by decide +kernel
theorem dX0_markOf_41 : decode cX0_markOf 41 = .ok (.aload_n 0, 1) := by decide +kernel
theorem dX0_markOf_42 : decode cX0_markOf 42 = .ok (.aload_n 1, 1) := by decide +kernel
theorem dX0_markOf_43 : decode cX0_markOf 43 = .ok (.invokevirtual 59, 3) := by decide +kernel
theorem dX0_markOf_46 : decode cX0_markOf 46 = .ok (.ireturn, 1) := by decide +kernel
theorem dX0_markOfAny_0 : decode cX0_markOfAny 0 = .ok (.aload_n 0, 1) := by decide +kernel
theorem dX0_markOfAny_1 : decode cX0_markOfAny 1 = .ok (.bipush 20, 2) := by decide +kernel
theorem dX0_markOfAny_3 : decode cX0_markOfAny 3 = .ok (.invokevirtual 33, 3) := by decide +kernel
theorem dX0_markOfAny_6 : decode cX0_markOfAny 6 = .ok (.aload_n 1, 1) := by decide +kernel
theorem dX0_markOfAny_7 : decode cX0_markOfAny 7 = .ok (.getfield 62, 3) := by decide +kernel
theorem dX0_markOfAny_10 : decode cX0_markOfAny 10 = .ok (.ireturn, 1) := by decide +kernel
theorem dX0_markOfFresh_0 : decode cX0_markOfFresh 0 = .ok (.aload_n 0, 1) := by decide +kernel
theorem dX0_markOfFresh_1 : decode cX0_markOfFresh 1 = .ok (.bipush 21, 2) := by decide +kernel
theorem dX0_markOfFresh_3 : decode cX0_markOfFresh 3 = .ok (.invokevirtual 33, 3) := by decide +kernel
theorem dX0_markOfFresh_6 : decode cX0_markOfFresh 6 = .ok (.aload_n 0, 1) := by decide +kernel
theorem dX0_markOfFresh_7 : decode cX0_markOfFresh 7 = .ok (.aload_n 1, 1) := by decide +kernel
theorem dX0_markOfFresh_8 : decode cX0_markOfFresh 8 = .ok (.invokevirtual 59, 3) := by decide +kernel
theorem dX0_markOfFresh_11 : decode cX0_markOfFresh 11 = .ok (.aload_n 0, 1) := by decide +kernel
theorem dX0_markOfFresh_12 : decode cX0_markOfFresh 12 = .ok (.aload_n 1, 1) := by decide +kernel
theorem dX0_markOfFresh_13 : decode cX0_markOfFresh 13 = .ok (.iload_n 2, 1) := by decide +kernel
theorem dX0_markOfFresh_14 : decode cX0_markOfFresh 14 = .ok (.invokevirtual 65, 3) := by decide +kernel
theorem dX0_markOfFresh_17 : decode cX0_markOfFresh 17 = .ok (.iadd, 1) := by decide +kernel
theorem dX0_markOfFresh_18 : decode cX0_markOfFresh 18 = .ok (.ireturn, 1) := by decide +kernel
theorem dX0_markOfStuck_0 : decode cX0_markOfStuck 0 = .ok (.aload_n 0, 1) := by decide +kernel
theorem dX0_markOfStuck_1 : decode cX0_markOfStuck 1 = .ok (.bipush 22, 2) := by decide +kernel
theorem dX0_markOfStuck_3 : decode cX0_markOfStuck 3 = .ok (.invokevirtual 33, 3) := by decide +kernel
theorem dX0_markOfStuck_6 : decode cX0_markOfStuck 6 = .ok (.aload_n 0, 1) := by decide +kernel
theorem dX0_markOfStuck_7 : decode cX0_markOfStuck 7 = .ok (.aload_n 1, 1) := by decide +kernel
theorem dX0_markOfStuck_8 : decode cX0_markOfStuck 8 = .ok (.invokevirtual 59, 3) := by decide +kernel
theorem dX0_markOfStuck_11 : decode cX0_markOfStuck 11 = .ok (.aload_n 1, 1) := by decide +kernel
theorem dX0_markOfStuck_12 : decode cX0_markOfStuck 12 = .ok (.getfield 68, 3) := by decide +kernel
theorem dX0_markOfStuck_15 : decode cX0_markOfStuck 15 = .ok (.iadd, 1) := by decide +kernel
theorem dX0_markOfStuck_16 : decode cX0_markOfStuck 16 = .ok (.ireturn, 1) := by decide +kernel
theorem dX1_init_0 : decode cX1_init 0 = .ok (.aload_n 0, 1) := by decide +kernel
theorem dX1_init_1 : decode cX1_init 1 = .ok (.invokespecial 3, 3) := by decide +kernel
theorem dX1_init_4 : decode cX1_init 4 = .ok (.aload_n 0, 1) := by decide +kernel
theorem dX1_init_5 : decode cX1_init 5 = .ok (.bipush 6, 2) := by decide +kernel
theorem dX1_init_7 : decode cX1_init 7 = .ok (.newarray .int, 2) := by decide +kernel
theorem dX1_init_9 : decode cX1_init 9 = .ok (.putfield 9, 3) := by decide +kernel
theorem dX1_init_12 : decode cX1_init 12 = .ok (.aload_n 0, 1) := by decide +kernel
theorem dX1_init_13 : decode cX1_init 13 = .ok (.bipush 30, 2) := by decide +kernel
theorem dX1_init_15 : decode cX1_init 15 = .ok (.newarray .boolean, 2) := by decide +kernel
theorem dX1_init_17 : decode cX1_init 17 = .ok (.putfield 15, 3) := by decide +kernel
theorem dX1_init_20 : decode cX1_init 20 = .ok (.return_, 1) := by decide +kernel
theorem dX1_begin_0 : decode cX1_begin 0 = .ok (.aload_n 0, 1) := by decide +kernel
theorem dX1_begin_1 : decode cX1_begin 1 = .ok (.aload_n 1, 1) := by decide +kernel
theorem dX1_begin_2 : decode cX1_begin 2 = .ok (.putfield 19, 3) := by decide +kernel
theorem dX1_begin_5 : decode cX1_begin 5 = .ok (.aload_n 2, 1) := by decide +kernel
theorem dX1_begin_6 : decode cX1_begin 6 = .ok (.getfield 23, 3) := by decide +kernel
theorem dX1_begin_9 : decode cX1_begin 9 = .ok (.iload_n 3, 1) := by decide +kernel
theorem dX1_begin_10 : decode cX1_begin 10 = .ok (.aload_n 0, 1) := by decide +kernel
theorem dX1_begin_11 : decode cX1_begin 11 = .ok (.getfield 9, 3) := by decide +kernel
theorem dX1_begin_14 : decode cX1_begin 14 = .ok (.iconst 0, 1) := by decide +kernel
theorem dX1_begin_15 : decode cX1_begin 15 = .ok (.iload 4, 2) := by decide +kernel
theorem dX1_begin_17 : decode cX1_begin 17 = .ok (.invokestatic 28, 3) := by decide +kernel
theorem dX1_begin_20 : decode cX1_begin 20 = .ok (.aload_n 0, 1) := by decide +kernel
theorem dX1_begin_21 : decode cX1_begin 21 = .ok (.iload 4, 2) := by decide +kernel
theorem dX1_begin_23 : decode cX1_begin 23 = .ok (.putfield 34, 3) := by decide +kernel
theorem dX1_begin_26 : decode cX1_begin 26 = .ok (.aload_n 0, 1) := by decide +kernel
theorem dX1_begin_27 : decode cX1_begin 27 = .ok (.iload 5, 2) := by decide +kernel
theorem dX1_begin_29 : decode cX1_begin 29 = .ok (.putfield 38, 3) := by decide +kernel
theorem dX1_begin_32 : decode cX1_begin 32 = .ok (.aload_n 0, 1) := by decide +kernel
theorem dX1_begin_33 : decode cX1_begin 33 = .ok (.iconst 0, 1) := by decide +kernel
theorem dX1_begin_34 : decode cX1_begin 34 = .ok (.putfield 41, 3) := by decide +kernel
theorem dX1_begin_37 : decode cX1_begin 37 = .ok (.aload_n 0, 1) := by decide +kernel
theorem dX1_begin_38 : decode cX1_begin 38 = .ok (.iconst 0, 1) := by decide +kernel
theorem dX1_begin_39 : decode cX1_begin 39 = .ok (.putfield 44, 3) := by decide +kernel
theorem dX1_begin_42 : decode cX1_begin 42 = .ok (.aload_n 0, 1) := by decide +kernel
theorem dX1_begin_43 : decode cX1_begin 43 = .ok (.iconst 0, 1) := by decide +kernel
theorem dX1_begin_44 : decode cX1_begin 44 = .ok (.invokevirtual 47, 3) := by decide +kernel
theorem dX1_begin_47 : decode cX1_begin 47 = .ok (.return_, 1) := by decide +kernel
theorem dX1_beginWave_0 : decode cX1_beginWave 0 = .ok (.aload_n 0, 1) := by decide +kernel
theorem dX1_beginWave_1 : decode cX1_beginWave 1 = .ok (.iload_n 1, 1) := by decide +kernel
theorem dX1_beginWave_2 : decode cX1_beginWave 2 = .ok (.putfield 51, 3) := by decide +kernel
theorem dX1_beginWave_5 : decode cX1_beginWave 5 = .ok (.aload_n 0, 1) := by decide +kernel
theorem dX1_beginWave_6 : decode cX1_beginWave 6 = .ok (.iconst 0, 1) := by decide +kernel
theorem dX1_beginWave_7 : decode cX1_beginWave 7 = .ok (.putfield 54, 3) := by decide +kernel
theorem dX1_beginWave_10 : decode cX1_beginWave 10 = .ok (.aload_n 0, 1) := by decide +kernel
theorem dX1_beginWave_11 : decode cX1_beginWave 11 = .ok (.iconst 0, 1) := by decide +kernel
theorem dX1_beginWave_12 : decode cX1_beginWave 12 = .ok (.putfield 57, 3) := by decide +kernel
theorem dX1_beginWave_15 : decode cX1_beginWave 15 = .ok (.iconst 0, 1) := by decide +kernel
theorem dX1_beginWave_16 : decode cX1_beginWave 16 = .ok (.istore_n 2, 1) := by decide +kernel
theorem dX1_beginWave_17 : decode cX1_beginWave 17 = .ok (.iload_n 2, 1) := by decide +kernel
theorem dX1_beginWave_18 : decode cX1_beginWave 18 = .ok (.bipush 30, 2) := by decide +kernel
theorem dX1_beginWave_20 : decode cX1_beginWave 20 = .ok (.if_icmp .ge 16, 3) := by decide +kernel
theorem dX1_beginWave_23 : decode cX1_beginWave 23 = .ok (.aload_n 0, 1) := by decide +kernel
theorem dX1_beginWave_24 : decode cX1_beginWave 24 = .ok (.getfield 15, 3) := by decide +kernel
theorem dX1_beginWave_27 : decode cX1_beginWave 27 = .ok (.iload_n 2, 1) := by decide +kernel
theorem dX1_beginWave_28 : decode cX1_beginWave 28 = .ok (.iconst 0, 1) := by decide +kernel
theorem dX1_beginWave_29 : decode cX1_beginWave 29 = .ok (.bastore, 1) := by decide +kernel
theorem dX1_beginWave_30 : decode cX1_beginWave 30 = .ok (.iinc 2 1, 3) := by decide +kernel
theorem dX1_beginWave_33 : decode cX1_beginWave 33 = .ok (.goto (-16), 3) := by decide +kernel
theorem dX1_beginWave_36 : decode cX1_beginWave 36 = .ok (.return_, 1) := by decide +kernel
theorem dX1_isRunning_0 : decode cX1_isRunning 0 = .ok (.aload_n 0, 1) := by decide +kernel
theorem dX1_isRunning_1 : decode cX1_isRunning 1 = .ok (.getfield 19, 3) := by decide +kernel
theorem dX1_isRunning_4 : decode cX1_isRunning 4 = .ok (.ifnull 14, 3) := by decide +kernel
theorem dX1_isRunning_7 : decode cX1_isRunning 7 = .ok (.aload_n 0, 1) := by decide +kernel
theorem dX1_isRunning_8 : decode cX1_isRunning 8 = .ok (.getfield 41, 3) := by decide +kernel
theorem dX1_isRunning_11 : decode cX1_isRunning 11 = .ok (.ifCond .ne 7, 3) := by decide +kernel
theorem dX1_isRunning_14 : decode cX1_isRunning 14 = .ok (.iconst 1, 1) := by decide +kernel
theorem dX1_isRunning_15 : decode cX1_isRunning 15 = .ok (.goto 4, 3) := by decide +kernel
theorem dX1_isRunning_18 : decode cX1_isRunning 18 = .ok (.iconst 0, 1) := by decide +kernel
theorem dX1_isRunning_19 : decode cX1_isRunning 19 = .ok (.ireturn, 1) := by decide +kernel
theorem dX1_shareOfWave_0 : decode cX1_shareOfWave 0 = .ok (.aload_n 0, 1) := by decide +kernel
theorem dX1_shareOfWave_1 : decode cX1_shareOfWave 1 = .ok (.getfield 9, 3) := by decide +kernel
theorem dX1_shareOfWave_4 : decode cX1_shareOfWave 4 = .ok (.aload_n 0, 1) := by decide +kernel
theorem dX1_shareOfWave_5 : decode cX1_shareOfWave 5 = .ok (.getfield 51, 3) := by decide +kernel
theorem dX1_shareOfWave_8 : decode cX1_shareOfWave 8 = .ok (.iaload, 1) := by decide +kernel
theorem dX1_shareOfWave_9 : decode cX1_shareOfWave 9 = .ok (.ireturn, 1) := by decide +kernel
theorem dX1_note_0 : decode cX1_note 0 = .ok (.aload_n 0, 1) := by decide +kernel
theorem dX1_note_1 : decode cX1_note 1 = .ok (.getfield 15, 3) := by decide +kernel
theorem dX1_note_4 : decode cX1_note 4 = .ok (.iload_n 1, 1) := by decide +kernel
theorem dX1_note_5 : decode cX1_note 5 = .ok (.iconst 1, 1) := by decide +kernel
theorem dX1_note_6 : decode cX1_note 6 = .ok (.bastore, 1) := by decide +kernel
theorem dX1_note_7 : decode cX1_note 7 = .ok (.aload_n 0, 1) := by decide +kernel
theorem dX1_note_8 : decode cX1_note 8 = .ok (.dup, 1) := by decide +kernel
theorem dX1_note_9 : decode cX1_note 9 = .ok (.getfield 44, 3) := by decide +kernel
theorem dX1_note_12 : decode cX1_note 12 = .ok (.iload_n 2, 1) := by decide +kernel
theorem dX1_note_13 : decode cX1_note 13 = .ok (.iadd, 1) := by decide +kernel
theorem dX1_note_14 : decode cX1_note 14 = .ok (.putfield 44, 3) := by decide +kernel
theorem dX1_note_17 : decode cX1_note 17 = .ok (.aload_n 0, 1) := by decide +kernel
theorem dX1_note_18 : decode cX1_note 18 = .ok (.dup, 1) := by decide +kernel
theorem dX1_note_19 : decode cX1_note 19 = .ok (.getfield 54, 3) := by decide +kernel
theorem dX1_note_22 : decode cX1_note 22 = .ok (.iconst 1, 1) := by decide +kernel
theorem dX1_note_23 : decode cX1_note 23 = .ok (.iadd, 1) := by decide +kernel
theorem dX1_note_24 : decode cX1_note 24 = .ok (.putfield 54, 3) := by decide +kernel
theorem dX1_note_27 : decode cX1_note 27 = .ok (.iload_n 3, 1) := by decide +kernel
theorem dX1_note_28 : decode cX1_note 28 = .ok (.ifCond .ne 13, 3) := by decide +kernel
theorem dX1_note_31 : decode cX1_note 31 = .ok (.aload_n 0, 1) := by decide +kernel
theorem dX1_note_32 : decode cX1_note 32 = .ok (.dup, 1) := by decide +kernel
theorem dX1_note_33 : decode cX1_note 33 = .ok (.getfield 57, 3) := by decide +kernel
theorem dX1_note_36 : decode cX1_note 36 = .ok (.iconst 1, 1) := by decide +kernel
theorem dX1_note_37 : decode cX1_note 37 = .ok (.iadd, 1) := by decide +kernel
theorem dX1_note_38 : decode cX1_note 38 = .ok (.putfield 57, 3) := by decide +kernel
theorem dX1_note_41 : decode cX1_note 41 = .ok (.return_, 1) := by decide +kernel
theorem dX1_endWave_0 : decode cX1_endWave 0 = .ok (.aload_n 0, 1) := by decide +kernel
theorem dX1_endWave_1 : decode cX1_endWave 1 = .ok (.getfield 57, 3) := by decide +kernel
theorem dX1_endWave_4 : decode cX1_endWave 4 = .ok (.aload_n 0, 1) := by decide +kernel
theorem dX1_endWave_5 : decode cX1_endWave 5 = .ok (.getfield 54, 3) := by decide +kernel
theorem dX1_endWave_8 : decode cX1_endWave 8 = .ok (.aload_n 0, 1) := by decide +kernel
theorem dX1_endWave_9 : decode cX1_endWave 9 = .ok (.getfield 38, 3) := by decide +kernel
theorem dX1_endWave_12 : decode cX1_endWave 12 = .ok (.invokestatic 60, 3) := by decide +kernel
theorem dX1_endWave_15 : decode cX1_endWave 15 = .ok (.ifCond .eq 11, 3) := by decide +kernel
theorem dX1_endWave_18 : decode cX1_endWave 18 = .ok (.aload_n 0, 1) := by decide +kernel
theorem dX1_endWave_19 : decode cX1_endWave 19 = .ok (.iconst 1, 1) := by decide +kernel
theorem dX1_endWave_20 : decode cX1_endWave 20 = .ok (.putfield 41, 3) := by decide +kernel
theorem dX1_endWave_23 : decode cX1_endWave 23 = .ok (.goto 34, 3) := by decide +kernel
theorem dX1_endWave_26 : decode cX1_endWave 26 = .ok (.aload_n 0, 1) := by decide +kernel
theorem dX1_endWave_27 : decode cX1_endWave 27 = .ok (.getfield 51, 3) := by decide +kernel
theorem dX1_endWave_30 : decode cX1_endWave 30 = .ok (.aload_n 0, 1) := by decide +kernel
theorem dX1_endWave_31 : decode cX1_endWave 31 = .ok (.getfield 34, 3) := by decide +kernel
theorem dX1_endWave_34 : decode cX1_endWave 34 = .ok (.iconst 1, 1) := by decide +kernel
theorem dX1_endWave_35 : decode cX1_endWave 35 = .ok (.isub, 1) := by decide +kernel
theorem dX1_endWave_36 : decode cX1_endWave 36 = .ok (.if_icmp .ne 11, 3) := by decide +kernel
theorem dX1_endWave_39 : decode cX1_endWave 39 = .ok (.aload_n 0, 1) := by decide +kernel
theorem dX1_endWave_40 : decode cX1_endWave 40 = .ok (.iconst 2, 1) := by decide +kernel
theorem dX1_endWave_41 : decode cX1_endWave 41 = .ok (.putfield 41, 3) := by decide +kernel
theorem dX1_endWave_44 : decode cX1_endWave 44 = .ok (.goto 13, 3) := by decide +kernel
theorem dX1_endWave_47 : decode cX1_endWave 47 = .ok (.aload_n 0, 1) := by decide +kernel
theorem dX1_endWave_48 : decode cX1_endWave 48 = .ok (.aload_n 0, 1) := by decide +kernel
theorem dX1_endWave_49 : decode cX1_endWave 49 = .ok (.getfield 51, 3) := by decide +kernel
theorem dX1_endWave_52 : decode cX1_endWave 52 = .ok (.iconst 1, 1) := by decide +kernel
theorem dX1_endWave_53 : decode cX1_endWave 53 = .ok (.iadd, 1) := by decide +kernel
theorem dX1_endWave_54 : decode cX1_endWave 54 = .ok (.invokevirtual 47, 3) := by decide +kernel
theorem dX1_endWave_57 : decode cX1_endWave 57 = .ok (.return_, 1) := by decide +kernel
theorem dX2_init_0 : decode cX2_init 0 = .ok (.aload_n 0, 1) := by decide +kernel
theorem dX2_init_1 : decode cX2_init 1 = .ok (.invokespecial 3, 3) := by decide +kernel
theorem dX2_init_4 : decode cX2_init 4 = .ok (.aload_n 0, 1) := by decide +kernel
theorem dX2_init_5 : decode cX2_init 5 = .ok (.new 9, 3) := by decide +kernel
theorem dX2_init_8 : decode cX2_init 8 = .ok (.dup, 1) := by decide +kernel
theorem dX2_init_9 : decode cX2_init 9 = .ok (.invokespecial 11, 3) := by decide +kernel
theorem dX2_init_12 : decode cX2_init 12 = .ok (.putfield 12, 3) := by decide +kernel
theorem dX2_init_15 : decode cX2_init 15 = .ok (.aload_n 0, 1) := by decide +kernel
theorem dX2_init_16 : decode cX2_init 16 = .ok (.new 9, 3) := by decide +kernel
theorem dX2_init_19 : decode cX2_init 19 = .ok (.dup, 1) := by decide +kernel
theorem dX2_init_20 : decode cX2_init 20 = .ok (.invokespecial 11, 3) := by decide +kernel
theorem dX2_init_23 : decode cX2_init 23 = .ok (.putfield 18, 3) := by decide +kernel
theorem dX2_init_26 : decode cX2_init 26 = .ok (.aload_n 0, 1) := by decide +kernel
theorem dX2_init_27 : decode cX2_init 27 = .ok (.iload_n 1, 1) := by decide +kernel
theorem dX2_init_28 : decode cX2_init 28 = .ok (.putfield 21, 3) := by decide +kernel
theorem dX2_init_31 : decode cX2_init 31 = .ok (.return_, 1) := by decide +kernel
theorem dX2_arrive_0 : decode cX2_arrive 0 = .ok (.aload_n 0, 1) := by decide +kernel
theorem dX2_arrive_1 : decode cX2_arrive 1 = .ok (.iload_n 1, 1) := by decide +kernel
theorem dX2_arrive_2 : decode cX2_arrive 2 = .ok (.putfield 25, 3) := by decide +kernel
theorem dX2_arrive_5 : decode cX2_arrive 5 = .ok (.aload_n 0, 1) := by decide +kernel
theorem dX2_arrive_6 : decode cX2_arrive 6 = .ok (.aload_n 3, 1) := by decide +kernel
theorem dX2_arrive_7 : decode cX2_arrive 7 = .ok (.putfield 28, 3) := by decide +kernel
theorem dX2_arrive_10 : decode cX2_arrive 10 = .ok (.aload_n 0, 1) := by decide +kernel
theorem dX2_arrive_11 : decode cX2_arrive 11 = .ok (.getfield 12, 3) := by decide +kernel
theorem dX2_arrive_14 : decode cX2_arrive 14 = .ok (.aload_n 2, 1) := by decide +kernel
theorem dX2_arrive_15 : decode cX2_arrive 15 = .ok (.aload_n 2, 1) := by decide +kernel
theorem dX2_arrive_16 : decode cX2_arrive 16 = .ok (.getfield 32, 3) := by decide +kernel
theorem dX2_arrive_19 : decode cX2_arrive 19 = .ok (.invokevirtual 37, 3) := by decide +kernel
theorem dX2_arrive_22 : decode cX2_arrive 22 = .ok (.aload_n 0, 1) := by decide +kernel
theorem dX2_arrive_23 : decode cX2_arrive 23 = .ok (.aload_n 2, 1) := by decide +kernel
theorem dX2_arrive_24 : decode cX2_arrive 24 = .ok (.getfield 41, 3) := by decide +kernel
theorem dX2_arrive_27 : decode cX2_arrive 27 = .ok (.putfield 44, 3) := by decide +kernel
theorem dX2_arrive_30 : decode cX2_arrive 30 = .ok (.return_, 1) := by decide +kernel
theorem dX2_become_0 : decode cX2_become 0 = .ok (.aload_n 0, 1) := by decide +kernel
theorem dX2_become_1 : decode cX2_become 1 = .ok (.aload_n 1, 1) := by decide +kernel
theorem dX2_become_2 : decode cX2_become 2 = .ok (.getfield 25, 3) := by decide +kernel
theorem dX2_become_5 : decode cX2_become 5 = .ok (.putfield 25, 3) := by decide +kernel
theorem dX2_become_8 : decode cX2_become 8 = .ok (.aload_n 0, 1) := by decide +kernel
theorem dX2_become_9 : decode cX2_become 9 = .ok (.getfield 12, 3) := by decide +kernel
theorem dX2_become_12 : decode cX2_become 12 = .ok (.aload_n 1, 1) := by decide +kernel
theorem dX2_become_13 : decode cX2_become 13 = .ok (.getfield 12, 3) := by decide +kernel
theorem dX2_become_16 : decode cX2_become 16 = .ok (.getfield 47, 3) := by decide +kernel
theorem dX2_become_19 : decode cX2_become 19 = .ok (.aload_n 1, 1) := by decide +kernel
theorem dX2_become_20 : decode cX2_become 20 = .ok (.getfield 12, 3) := by decide +kernel
theorem dX2_become_23 : decode cX2_become 23 = .ok (.getfield 51, 3) := by decide +kernel
theorem dX2_become_26 : decode cX2_become 26 = .ok (.invokevirtual 37, 3) := by decide +kernel
theorem dX2_become_29 : decode cX2_become 29 = .ok (.aload_n 0, 1) := by decide +kernel
theorem dX2_become_30 : decode cX2_become 30 = .ok (.getfield 18, 3) := by decide +kernel
theorem dX2_become_33 : decode cX2_become 33 = .ok (.aload_n 1, 1) := by decide +kernel
theorem dX2_become_34 : decode cX2_become 34 = .ok (.getfield 18, 3) := by decide +kernel
theorem dX2_become_37 : decode cX2_become 37 = .ok (.getfield 47, 3) := by decide +kernel
theorem dX2_become_40 : decode cX2_become 40 = .ok (.aload_n 1, 1) := by decide +kernel
theorem dX2_become_41 : decode cX2_become 41 = .ok (.getfield 18, 3) := by decide +kernel
theorem dX2_become_44 : decode cX2_become 44 = .ok (.getfield 51, 3) := by decide +kernel
theorem dX2_become_47 : decode cX2_become 47 = .ok (.invokevirtual 37, 3) := by decide +kernel
theorem dX2_become_50 : decode cX2_become 50 = .ok (.aload_n 0, 1) := by decide +kernel
theorem dX2_become_51 : decode cX2_become 51 = .ok (.aload_n 1, 1) := by decide +kernel
theorem dX2_become_52 : decode cX2_become 52 = .ok (.getfield 52, 3) := by decide +kernel
theorem dX2_become_55 : decode cX2_become 55 = .ok (.putfield 52, 3) := by decide +kernel
theorem dX2_become_58 : decode cX2_become 58 = .ok (.aload_n 0, 1) := by decide +kernel
theorem dX2_become_59 : decode cX2_become 59 = .ok (.aload_n 1, 1) := by decide +kernel
theorem dX2_become_60 : decode cX2_become 60 = .ok (.getfield 55, 3) := by decide +kernel
theorem dX2_become_63 : decode cX2_become 63 = .ok (.putfield 55, 3) := by decide +kernel
theorem dX2_become_66 : decode cX2_become 66 = .ok (.aload_n 0, 1) := by decide +kernel
theorem dX2_become_67 : decode cX2_become 67 = .ok (.aload_n 1, 1) := by decide +kernel
theorem dX2_become_68 : decode cX2_become 68 = .ok (.getfield 59, 3) := by decide +kernel
theorem dX2_become_71 : decode cX2_become 71 = .ok (.putfield 59, 3) := by decide +kernel
theorem dX2_become_74 : decode cX2_become 74 = .ok (.aload_n 0, 1) := by decide +kernel
theorem dX2_become_75 : decode cX2_become 75 = .ok (.aload_n 1, 1) := by decide +kernel
theorem dX2_become_76 : decode cX2_become 76 = .ok (.getfield 44, 3) := by decide +kernel
theorem dX2_become_79 : decode cX2_become 79 = .ok (.putfield 44, 3) := by decide +kernel
theorem dX2_become_82 : decode cX2_become 82 = .ok (.return_, 1) := by decide +kernel
theorem dX2_isAtLeastAt_0 : decode cX2_isAtLeastAt 0 = .ok (.aload_n 0, 1) := by decide +kernel
theorem dX2_isAtLeastAt_1 : decode cX2_isAtLeastAt 1 = .ok (.getfield 12, 3) := by decide +kernel
theorem dX2_isAtLeastAt_4 : decode cX2_isAtLeastAt 4 = .ok (.invokevirtual 62, 3) := by decide +kernel
theorem dX2_isAtLeastAt_7 : decode cX2_isAtLeastAt 7 = .ok (.aload_n 1, 1) := by decide +kernel
theorem dX2_isAtLeastAt_8 : decode cX2_isAtLeastAt 8 = .ok (.getfield 66, 3) := by decide +kernel
theorem dX2_isAtLeastAt_11 : decode cX2_isAtLeastAt 11 = .ok (.if_icmp .lt 7, 3) := by decide +kernel
theorem dX2_isAtLeastAt_14 : decode cX2_isAtLeastAt 14 = .ok (.iconst 1, 1) := by decide +kernel
theorem dX2_isAtLeastAt_15 : decode cX2_isAtLeastAt 15 = .ok (.goto 4, 3) := by decide +kernel
theorem dX2_isAtLeastAt_18 : decode cX2_isAtLeastAt 18 = .ok (.iconst 0, 1) := by decide +kernel
theorem dX2_isAtLeastAt_19 : decode cX2_isAtLeastAt 19 = .ok (.ireturn, 1) := by decide +kernel
theorem dX2_isAlive_0 : decode cX2_isAlive 0 = .ok (.aload_n 0, 1) := by decide +kernel
theorem dX2_isAlive_1 : decode cX2_isAlive 1 = .ok (.getfield 12, 3) := by decide +kernel
theorem dX2_isAlive_4 : decode cX2_isAlive 4 = .ok (.aload_n 0, 1) := by decide +kernel
theorem dX2_isAlive_5 : decode cX2_isAlive 5 = .ok (.getfield 44, 3) := by decide +kernel
theorem dX2_isAlive_8 : decode cX2_isAlive 8 = .ok (.invokevirtual 67, 3) := by decide +kernel
theorem dX2_isAlive_11 : decode cX2_isAlive 11 = .ok (.ireturn, 1) := by decide +kernel
theorem dX2_install_0 : decode cX2_install 0 = .ok (.iconst 0, 1) := by decide +kernel
theorem dX2_install_1 : decode cX2_install 1 = .ok (.istore_n 3, 1) := by decide +kernel
theorem dX2_install_2 : decode cX2_install 2 = .ok (.iload_n 3, 1) := by decide +kernel
theorem dX2_install_3 : decode cX2_install 3 = .ok (.iload_n 2, 1) := by decide +kernel
theorem dX2_install_4 : decode cX2_install 4 = .ok (.if_icmp .ge 24, 3) := by decide +kernel
theorem dX2_install_7 : decode cX2_install 7 = .ok (.aload_n 0, 1) := by decide +kernel
theorem dX2_install_8 : decode cX2_install 8 = .ok (.aload_n 1, 1) := by decide +kernel
theorem dX2_install_9 : decode cX2_install 9 = .ok (.iload_n 3, 1) := by decide +kernel
theorem dX2_install_10 : decode cX2_install 10 = .ok (.invokevirtual 71, 3) := by decide +kernel
theorem dX2_install_13 : decode cX2_install 13 = .ok (.ifCond .ne 15, 3) := by decide +kernel
theorem dX2_install_16 : decode cX2_install 16 = .ok (.aload_n 0, 1) := by decide +kernel
theorem dX2_install_17 : decode cX2_install 17 = .ok (.aload_n 1, 1) := by decide +kernel
theorem dX2_install_18 : decode cX2_install 18 = .ok (.iload_n 3, 1) := by decide +kernel
theorem dX2_install_19 : decode cX2_install 19 = .ok (.invokevirtual 75, 3) := by decide +kernel
theorem dX2_install_22 : decode cX2_install 22 = .ok (.iinc 3 1, 3) := by decide +kernel
theorem dX2_install_25 : decode cX2_install 25 = .ok (.goto (-23), 3) := by decide +kernel
theorem dX2_install_28 : decode cX2_install 28 = .ok (.iload_n 3, 1) := by decide +kernel
theorem dX2_install_29 : decode cX2_install 29 = .ok (.ireturn, 1) := by decide +kernel
theorem dX2_isOver_0 : decode cX2_isOver 0 = .ok (.iload_n 2, 1) := by decide +kernel
theorem dX2_isOver_1 : decode cX2_isOver 1 = .ok (.aload_n 1, 1) := by decide +kernel
theorem dX2_isOver_2 : decode cX2_isOver 2 = .ok (.getfield 32, 3) := by decide +kernel
theorem dX2_isOver_5 : decode cX2_isOver 5 = .ok (.iconst 2, 1) := by decide +kernel
theorem dX2_isOver_6 : decode cX2_isOver 6 = .ok (.iadd, 1) := by decide +kernel
theorem dX2_isOver_7 : decode cX2_isOver 7 = .ok (.if_icmp .le 14, 3) := by decide +kernel
theorem dX2_isOver_10 : decode cX2_isOver 10 = .ok (.aload_n 0, 1) := by decide +kernel
theorem dX2_isOver_11 : decode cX2_isOver 11 = .ok (.getfield 55, 3) := by decide +kernel
theorem dX2_isOver_14 : decode cX2_isOver 14 = .ok (.ifCond .ne 7, 3) := by decide +kernel
theorem dX2_isOver_17 : decode cX2_isOver 17 = .ok (.iconst 1, 1) := by decide +kernel
theorem dX2_isOver_18 : decode cX2_isOver 18 = .ok (.goto 4, 3) := by decide +kernel
theorem dX2_isOver_21 : decode cX2_isOver 21 = .ok (.iconst 0, 1) := by decide +kernel
theorem dX2_isOver_22 : decode cX2_isOver 22 = .ok (.ireturn, 1) := by decide +kernel
theorem dX2_doAct_0 : decode cX2_doAct 0 = .ok (.iload_n 2, 1) := by decide +kernel
theorem dX2_doAct_1 : decode cX2_doAct 1 = .ok (.ifCond .ne 15, 3) := by decide +kernel
theorem dX2_doAct_4 : decode cX2_doAct 4 = .ok (.aload_n 0, 1) := by decide +kernel
theorem dX2_doAct_5 : decode cX2_doAct 5 = .ok (.getfield 18, 3) := by decide +kernel
theorem dX2_doAct_8 : decode cX2_doAct 8 = .ok (.aconst_null, 1) := by decide +kernel
theorem dX2_doAct_9 : decode cX2_doAct 9 = .ok (.iconst 0, 1) := by decide +kernel
theorem dX2_doAct_10 : decode cX2_doAct 10 = .ok (.invokevirtual 37, 3) := by decide +kernel
theorem dX2_doAct_13 : decode cX2_doAct 13 = .ok (.goto 50, 3) := by decide +kernel
theorem dX2_doAct_16 : decode cX2_doAct 16 = .ok (.iload_n 2, 1) := by decide +kernel
theorem dX2_doAct_17 : decode cX2_doAct 17 = .ok (.aload_n 1, 1) := by decide +kernel
theorem dX2_doAct_18 : decode cX2_doAct 18 = .ok (.getfield 32, 3) := by decide +kernel
theorem dX2_doAct_21 : decode cX2_doAct 21 = .ok (.if_icmp .gt 15, 3) := by decide +kernel
theorem dX2_doAct_24 : decode cX2_doAct 24 = .ok (.aload_n 0, 1) := by decide +kernel
theorem dX2_doAct_25 : decode cX2_doAct 25 = .ok (.getfield 18, 3) := by decide +kernel
theorem dX2_doAct_28 : decode cX2_doAct 28 = .ok (.aload_n 1, 1) := by decide +kernel
theorem dX2_doAct_29 : decode cX2_doAct 29 = .ok (.iload_n 2, 1) := by decide +kernel
theorem dX2_doAct_30 : decode cX2_doAct 30 = .ok (.invokevirtual 37, 3) := by decide +kernel
theorem dX2_doAct_33 : decode cX2_doAct 33 = .ok (.goto 30, 3) := by decide +kernel
theorem dX2_doAct_36 : decode cX2_doAct 36 = .ok (.iload_n 2, 1) := by decide +kernel
theorem dX2_doAct_37 : decode cX2_doAct 37 = .ok (.aload_n 1, 1) := by decide +kernel
theorem dX2_doAct_38 : decode cX2_doAct 38 = .ok (.getfield 32, 3) := by decide +kernel
theorem dX2_doAct_41 : decode cX2_doAct 41 = .ok (.iconst 1, 1) := by decide +kernel
theorem dX2_doAct_42 : decode cX2_doAct 42 = .ok (.iadd, 1) := by decide +kernel
theorem dX2_doAct_43 : decode cX2_doAct 43 = .ok (.if_icmp .ne 16, 3) := by decide +kernel
theorem dX2_doAct_46 : decode cX2_doAct 46 = .ok (.aload_n 0, 1) := by decide +kernel
theorem dX2_doAct_47 : decode cX2_doAct 47 = .ok (.iconst 1, 1) := by decide +kernel
theorem dX2_doAct_48 : decode cX2_doAct 48 = .ok (.putfield 55, 3) := by decide +kernel
theorem dX2_doAct_51 : decode cX2_doAct 51 = .ok (.aload_n 0, 1) := by decide +kernel
theorem dX2_doAct_52 : decode cX2_doAct 52 = .ok (.iconst 3, 1) := by decide +kernel
theorem dX2_doAct_53 : decode cX2_doAct 53 = .ok (.putfield 59, 3) := by decide +kernel
theorem dX2_doAct_56 : decode cX2_doAct 56 = .ok (.goto 7, 3) := by decide +kernel
theorem dX2_doAct_59 : decode cX2_doAct 59 = .ok (.aload_n 0, 1) := by decide +kernel
theorem dX2_doAct_60 : decode cX2_doAct 60 = .ok (.invokevirtual 78, 3) := by decide +kernel
theorem dX2_doAct_63 : decode cX2_doAct 63 = .ok (.return_, 1) := by decide +kernel
theorem dX2_start_0 : decode cX2_start 0 = .ok (.aload_n 0, 1) := by decide +kernel
theorem dX2_start_1 : decode cX2_start 1 = .ok (.getfield 55, 3) := by decide +kernel
theorem dX2_start_4 : decode cX2_start 4 = .ok (.ifCond .ne 4, 3) := by decide +kernel
theorem dX2_start_7 : decode cX2_start 7 = .ok (.return_, 1) := by decide +kernel
theorem dX2_start_8 : decode cX2_start 8 = .ok (.aload_n 0, 1) := by decide +kernel
theorem dX2_start_9 : decode cX2_start 9 = .ok (.getfield 18, 3) := by decide +kernel
theorem dX2_start_12 : decode cX2_start 12 = .ok (.getfield 47, 3) := by decide +kernel
theorem dX2_start_15 : decode cX2_start 15 = .ok (.astore_n 1, 1) := by decide +kernel
theorem dX2_start_16 : decode cX2_start 16 = .ok (.aload_n 1, 1) := by decide +kernel
theorem dX2_start_17 : decode cX2_start 17 = .ok (.ifnull 24, 3) := by decide +kernel
theorem dX2_start_20 : decode cX2_start 20 = .ok (.aload_n 0, 1) := by decide +kernel
theorem dX2_start_21 : decode cX2_start 21 = .ok (.getfield 59, 3) := by decide +kernel
theorem dX2_start_24 : decode cX2_start 24 = .ok (.ifCond .eq 17, 3) := by decide +kernel
theorem dX2_start_27 : decode cX2_start 27 = .ok (.aload_n 0, 1) := by decide +kernel
theorem dX2_start_28 : decode cX2_start 28 = .ok (.getfield 18, 3) := by decide +kernel
theorem dX2_start_31 : decode cX2_start 31 = .ok (.aload_n 0, 1) := by decide +kernel
theorem dX2_start_32 : decode cX2_start 32 = .ok (.getfield 44, 3) := by decide +kernel
theorem dX2_start_35 : decode cX2_start 35 = .ok (.invokevirtual 67, 3) := by decide +kernel
theorem dX2_start_38 : decode cX2_start 38 = .ok (.ifCond .ne 8, 3) := by decide +kernel
theorem dX2_start_41 : decode cX2_start 41 = .ok (.aload_n 0, 1) := by decide +kernel
theorem dX2_start_42 : decode cX2_start 42 = .ok (.invokevirtual 81, 3) := by decide +kernel
theorem dX2_start_45 : decode cX2_start 45 = .ok (.return_, 1) := by decide +kernel
theorem dX2_start_46 : decode cX2_start 46 = .ok (.aload_n 0, 1) := by decide +kernel
theorem dX2_start_47 : decode cX2_start 47 = .ok (.dup, 1) := by decide +kernel
theorem dX2_start_48 : decode cX2_start 48 = .ok (.getfield 59, 3) := by decide +kernel
theorem dX2_start_51 : decode cX2_start 51 = .ok (.iconst 1, 1) := by decide +kernel
theorem dX2_start_52 : decode cX2_start 52 = .ok (.isub, 1) := by decide +kernel
theorem dX2_start_53 : decode cX2_start 53 = .ok (.putfield 59, 3) := by decide +kernel
theorem dX2_start_56 : decode cX2_start 56 = .ok (.aload_n 1, 1) := by decide +kernel
theorem dX2_start_57 : decode cX2_start 57 = .ok (.aload_n 0, 1) := by decide +kernel
theorem dX2_start_58 : decode cX2_start 58 = .ok (.getfield 25, 3) := by decide +kernel
theorem dX2_start_61 : decode cX2_start 61 = .ok (.invokevirtual 84, 3) := by decide +kernel
theorem dX2_start_64 : decode cX2_start 64 = .ok (.ifCond .ne 8, 3) := by decide +kernel
theorem dX2_start_67 : decode cX2_start 67 = .ok (.aload_n 0, 1) := by decide +kernel
theorem dX2_start_68 : decode cX2_start 68 = .ok (.aload_n 1, 1) := by decide +kernel
theorem dX2_start_69 : decode cX2_start 69 = .ok (.invokevirtual 87, 3) := by decide +kernel
theorem dX2_start_72 : decode cX2_start 72 = .ok (.return_, 1) := by decide +kernel
theorem dX2_take_0 : decode cX2_take 0 = .ok (.aload_n 0, 1) := by decide +kernel
theorem dX2_take_1 : decode cX2_take 1 = .ok (.getfield 12, 3) := by decide +kernel
theorem dX2_take_4 : decode cX2_take 4 = .ok (.astore_n 2, 1) := by decide +kernel
theorem dX2_take_5 : decode cX2_take 5 = .ok (.aload_n 0, 1) := by decide +kernel
theorem dX2_take_6 : decode cX2_take 6 = .ok (.aload_n 0, 1) := by decide +kernel
theorem dX2_take_7 : decode cX2_take 7 = .ok (.getfield 18, 3) := by decide +kernel
theorem dX2_take_10 : decode cX2_take 10 = .ok (.putfield 12, 3) := by decide +kernel
theorem dX2_take_13 : decode cX2_take 13 = .ok (.aload_n 0, 1) := by decide +kernel
theorem dX2_take_14 : decode cX2_take 14 = .ok (.aload_n 2, 1) := by decide +kernel
theorem dX2_take_15 : decode cX2_take 15 = .ok (.putfield 18, 3) := by decide +kernel
theorem dX2_take_18 : decode cX2_take 18 = .ok (.aload_n 0, 1) := by decide +kernel
theorem dX2_take_19 : decode cX2_take 19 = .ok (.iconst 1, 1) := by decide +kernel
theorem dX2_take_20 : decode cX2_take 20 = .ok (.aload_n 0, 1) := by decide +kernel
theorem dX2_take_21 : decode cX2_take 21 = .ok (.getfield 52, 3) := by decide +kernel
theorem dX2_take_24 : decode cX2_take 24 = .ok (.isub, 1) := by decide +kernel
theorem dX2_take_25 : decode cX2_take 25 = .ok (.putfield 52, 3) := by decide +kernel
theorem dX2_take_28 : decode cX2_take 28 = .ok (.aload_n 0, 1) := by decide +kernel
theorem dX2_take_29 : decode cX2_take 29 = .ok (.aload_n 0, 1) := by decide +kernel
theorem dX2_take_30 : decode cX2_take 30 = .ok (.getfield 44, 3) := by decide +kernel
theorem dX2_take_33 : decode cX2_take 33 = .ok (.aload_n 1, 1) := by decide +kernel
theorem dX2_take_34 : decode cX2_take 34 = .ok (.getfield 41, 3) := by decide +kernel
theorem dX2_take_37 : decode cX2_take 37 = .ok (.invokestatic 91, 3) := by decide +kernel
theorem dX2_take_40 : decode cX2_take 40 = .ok (.putfield 44, 3) := by decide +kernel
theorem dX2_take_43 : decode cX2_take 43 = .ok (.aload_n 0, 1) := by decide +kernel
theorem dX2_take_44 : decode cX2_take 44 = .ok (.invokevirtual 81, 3) := by decide +kernel
theorem dX2_take_47 : decode cX2_take 47 = .ok (.return_, 1) := by decide +kernel
theorem dX2_endTrial_0 : decode cX2_endTrial 0 = .ok (.aload_n 0, 1) := by decide +kernel
theorem dX2_endTrial_1 : decode cX2_endTrial 1 = .ok (.iconst 0, 1) := by decide +kernel
theorem dX2_endTrial_2 : decode cX2_endTrial 2 = .ok (.putfield 55, 3) := by decide +kernel
theorem dX2_endTrial_5 : decode cX2_endTrial 5 = .ok (.aload_n 0, 1) := by decide +kernel
theorem dX2_endTrial_6 : decode cX2_endTrial 6 = .ok (.iconst 0, 1) := by decide +kernel
theorem dX2_endTrial_7 : decode cX2_endTrial 7 = .ok (.putfield 59, 3) := by decide +kernel
theorem dX2_endTrial_10 : decode cX2_endTrial 10 = .ok (.return_, 1) := by decide +kernel
theorem dX3_init_0 : decode cX3_init 0 = .ok (.aload_n 0, 1) := by decide +kernel
theorem dX3_init_1 : decode cX3_init 1 = .ok (.invokespecial 3, 3) := by decide +kernel
theorem dX3_init_4 : decode cX3_init 4 = .ok (.aload_n 0, 1) := by decide +kernel
theorem dX3_init_5 : decode cX3_init 5 = .ok (.bipush 60, 2) := by decide +kernel
theorem dX3_init_7 : decode cX3_init 7 = .ok (.newarray .int, 2) := by decide +kernel
theorem dX3_init_9 : decode cX3_init 9 = .ok (.putfield 9, 3) := by decide +kernel
theorem dX3_init_12 : decode cX3_init 12 = .ok (.aload_n 0, 1) := by decide +kernel
theorem dX3_init_13 : decode cX3_init 13 = .ok (.iconst 1, 1) := by decide +kernel
theorem dX3_init_14 : decode cX3_init 14 = .ok (.putfield 15, 3) := by decide +kernel
theorem dX3_init_17 : decode cX3_init 17 = .ok (.return_, 1) := by decide +kernel
theorem dX3_lay_0 : decode cX3_lay 0 = .ok (.iconst 0, 1) := by decide +kernel
theorem dX3_lay_1 : decode cX3_lay 1 = .ok (.istore_n 3, 1) := by decide +kernel
theorem dX3_lay_2 : decode cX3_lay 2 = .ok (.iload_n 3, 1) := by decide +kernel
theorem dX3_lay_3 : decode cX3_lay 3 = .ok (.bipush 60, 2) := by decide +kernel
theorem dX3_lay_5 : decode cX3_lay 5 = .ok (.if_icmp .ge 16, 3) := by decide +kernel
theorem dX3_lay_8 : decode cX3_lay 8 = .ok (.aload_n 0, 1) := by decide +kernel
theorem dX3_lay_9 : decode cX3_lay 9 = .ok (.getfield 9, 3) := by decide +kernel
theorem dX3_lay_12 : decode cX3_lay 12 = .ok (.iload_n 3, 1) := by decide +kernel
theorem dX3_lay_13 : decode cX3_lay 13 = .ok (.iconst 0, 1) := by decide +kernel
theorem dX3_lay_14 : decode cX3_lay 14 = .ok (.iastore, 1) := by decide +kernel
theorem dX3_lay_15 : decode cX3_lay 15 = .ok (.iinc 3 1, 3) := by decide +kernel
theorem dX3_lay_18 : decode cX3_lay 18 = .ok (.goto (-16), 3) := by decide +kernel
theorem dX3_lay_21 : decode cX3_lay 21 = .ok (.aload_n 0, 1) := by decide +kernel
theorem dX3_lay_22 : decode cX3_lay 22 = .ok (.iconst 0, 1) := by decide +kernel
theorem dX3_lay_23 : decode cX3_lay 23 = .ok (.putfield 15, 3) := by decide +kernel
theorem dX3_lay_26 : decode cX3_lay 26 = .ok (.aload_n 0, 1) := by decide +kernel
theorem dX3_lay_27 : decode cX3_lay 27 = .ok (.iload_n 1, 1) := by decide +kernel
theorem dX3_lay_28 : decode cX3_lay 28 = .ok (.putfield 19, 3) := by decide +kernel
theorem dX3_lay_31 : decode cX3_lay 31 = .ok (.aload_n 0, 1) := by decide +kernel
theorem dX3_lay_32 : decode cX3_lay 32 = .ok (.iload_n 2, 1) := by decide +kernel
theorem dX3_lay_33 : decode cX3_lay 33 = .ok (.putfield 23, 3) := by decide +kernel
theorem dX3_lay_36 : decode cX3_lay 36 = .ok (.return_, 1) := by decide +kernel
theorem dX3_hasPlaces_0 : decode cX3_hasPlaces 0 = .ok (.iload_n 1, 1) := by decide +kernel
theorem dX3_hasPlaces_1 : decode cX3_hasPlaces 1 = .ok (.ifCond .lt 21, 3) := by decide +kernel
theorem dX3_hasPlaces_4 : decode cX3_hasPlaces 4 = .ok (.iload_n 2, 1) := by decide +kernel
theorem dX3_hasPlaces_5 : decode cX3_hasPlaces 5 = .ok (.ifCond .lt 17, 3) := by decide +kernel
theorem dX3_hasPlaces_8 : decode cX3_hasPlaces 8 = .ok (.iload_n 1, 1) := by decide +kernel
theorem dX3_hasPlaces_9 : decode cX3_hasPlaces 9 = .ok (.aload_n 0, 1) := by decide +kernel
theorem dX3_hasPlaces_10 : decode cX3_hasPlaces 10 = .ok (.getfield 23, 3) := by decide +kernel
theorem dX3_hasPlaces_13 : decode cX3_hasPlaces 13 = .ok (.iload_n 2, 1) := by decide +kernel
theorem dX3_hasPlaces_14 : decode cX3_hasPlaces 14 = .ok (.isub, 1) := by decide +kernel
theorem dX3_hasPlaces_15 : decode cX3_hasPlaces 15 = .ok (.if_icmp .gt 7, 3) := by decide +kernel
theorem dX3_hasPlaces_18 : decode cX3_hasPlaces 18 = .ok (.iconst 1, 1) := by decide +kernel
theorem dX3_hasPlaces_19 : decode cX3_hasPlaces 19 = .ok (.goto 4, 3) := by decide +kernel
theorem dX3_hasPlaces_22 : decode cX3_hasPlaces 22 = .ok (.iconst 0, 1) := by decide +kernel
theorem dX3_hasPlaces_23 : decode cX3_hasPlaces 23 = .ok (.ireturn, 1) := by decide +kernel
theorem dX3_put_0 : decode cX3_put 0 = .ok (.aload_n 0, 1) := by decide +kernel
theorem dX3_put_1 : decode cX3_put 1 = .ok (.getfield 9, 3) := by decide +kernel
theorem dX3_put_4 : decode cX3_put 4 = .ok (.iload_n 1, 1) := by decide +kernel
theorem dX3_put_5 : decode cX3_put 5 = .ok (.aload_n 0, 1) := by decide +kernel
theorem dX3_put_6 : decode cX3_put 6 = .ok (.getfield 19, 3) := by decide +kernel
theorem dX3_put_9 : decode cX3_put 9 = .ok (.ifCond .ne 8, 3) := by decide +kernel
theorem dX3_put_12 : decode cX3_put 12 = .ok (.iload_n 2, 1) := by decide +kernel
theorem dX3_put_13 : decode cX3_put 13 = .ok (.i2b, 1) := by decide +kernel
theorem dX3_put_14 : decode cX3_put 14 = .ok (.goto 17, 3) := by decide +kernel
theorem dX3_put_17 : decode cX3_put 17 = .ok (.aload_n 0, 1) := by decide +kernel
theorem dX3_put_18 : decode cX3_put 18 = .ok (.getfield 19, 3) := by decide +kernel
theorem dX3_put_21 : decode cX3_put 21 = .ok (.iconst 1, 1) := by decide +kernel
theorem dX3_put_22 : decode cX3_put 22 = .ok (.if_icmp .ne 8, 3) := by decide +kernel
theorem dX3_put_25 : decode cX3_put 25 = .ok (.iload_n 2, 1) := by decide +kernel
theorem dX3_put_26 : decode cX3_put 26 = .ok (.i2s, 1) := by decide +kernel
theorem dX3_put_27 : decode cX3_put 27 = .ok (.goto 4, 3) := by decide +kernel
theorem dX3_put_30 : decode cX3_put 30 = .ok (.iload_n 2, 1) := by decide +kernel
theorem dX3_put_31 : decode cX3_put 31 = .ok (.iastore, 1) := by decide +kernel
theorem dX3_put_32 : decode cX3_put 32 = .ok (.aload_n 0, 1) := by decide +kernel
theorem dX3_put_33 : decode cX3_put 33 = .ok (.getfield 9, 3) := by decide +kernel
theorem dX3_put_36 : decode cX3_put 36 = .ok (.iload_n 1, 1) := by decide +kernel
theorem dX3_put_37 : decode cX3_put 37 = .ok (.iaload, 1) := by decide +kernel
theorem dX3_put_38 : decode cX3_put 38 = .ok (.ireturn, 1) := by decide +kernel
theorem dX3_holdsRisingShares_0 : decode cX3_holdsRisingShares 0 = .ok (.iconst 0, 1) := by decide +kernel
theorem dX3_holdsRisingShares_1 : decode cX3_holdsRisingShares 1 = .ok (.istore_n 3, 1) := by decide +kernel
theorem dX3_holdsRisingShares_2 : decode cX3_holdsRisingShares 2 = .ok (.iload_n 1, 1) := by decide +kernel
theorem dX3_holdsRisingShares_3 : decode cX3_holdsRisingShares 3 = .ok (.istore 4, 2) := by decide +kernel
theorem dX3_holdsRisingShares_5 : decode cX3_holdsRisingShares 5 = .ok (.iload 4, 2) := by decide +kernel
theorem dX3_holdsRisingShares_7 : decode cX3_holdsRisingShares 7 = .ok (.iload_n 1, 1) := by decide +kernel
theorem dX3_holdsRisingShares_8 : decode cX3_holdsRisingShares 8 = .ok (.iload_n 2, 1) := by decide +kernel
theorem dX3_holdsRisingShares_9 : decode cX3_holdsRisingShares 9 = .ok (.iadd, 1) := by decide +kernel
theorem dX3_holdsRisingShares_10 : decode cX3_holdsRisingShares 10 = .ok (.if_icmp .ge 42, 3) := by decide +kernel
theorem dX3_holdsRisingShares_13 : decode cX3_holdsRisingShares 13 = .ok (.aload_n 0, 1) := by decide +kernel
theorem dX3_holdsRisingShares_14 : decode cX3_holdsRisingShares 14 = .ok (.getfield 9, 3) := by decide +kernel
theorem dX3_holdsRisingShares_17 : decode cX3_holdsRisingShares 17 = .ok (.iload 4, 2) := by decide +kernel
theorem dX3_holdsRisingShares_19 : decode cX3_holdsRisingShares 19 = .ok (.iaload, 1) := by decide +kernel
theorem dX3_holdsRisingShares_20 : decode cX3_holdsRisingShares 20 = .ok (.iload_n 3, 1) := by decide +kernel
theorem dX3_holdsRisingShares_21 : decode cX3_holdsRisingShares 21 = .ok (.if_icmp .le 15, 3) := by decide +kernel
theorem dX3_holdsRisingShares_24 : decode cX3_holdsRisingShares 24 = .ok (.aload_n 0, 1) := by decide +kernel
theorem dX3_holdsRisingShares_25 : decode cX3_holdsRisingShares 25 = .ok (.getfield 9, 3) := by decide +kernel
theorem dX3_holdsRisingShares_28 : decode cX3_holdsRisingShares 28 = .ok (.iload 4, 2) := by decide +kernel
theorem dX3_holdsRisingShares_30 : decode cX3_holdsRisingShares 30 = .ok (.iaload, 1) := by decide +kernel
theorem dX3_holdsRisingShares_31 : decode cX3_holdsRisingShares 31 = .ok (.bipush 100, 2) := by decide +kernel
theorem dX3_holdsRisingShares_33 : decode cX3_holdsRisingShares 33 = .ok (.if_icmp .le 5, 3) := by decide +kernel
theorem dX3_holdsRisingShares_36 : decode cX3_holdsRisingShares 36 = .ok (.iconst 0, 1) := by decide +kernel
theorem dX3_holdsRisingShares_37 : decode cX3_holdsRisingShares 37 = .ok (.ireturn, 1) := by decide +kernel
theorem dX3_holdsRisingShares_38 : decode cX3_holdsRisingShares 38 = .ok (.aload_n 0, 1) := by decide +kernel
theorem dX3_holdsRisingShares_39 : decode cX3_holdsRisingShares 39 = .ok (.getfield 9, 3) := by decide +kernel
theorem dX3_holdsRisingShares_42 : decode cX3_holdsRisingShares 42 = .ok (.iload 4, 2) := by decide +kernel
theorem dX3_holdsRisingShares_44 : decode cX3_holdsRisingShares 44 = .ok (.iaload, 1) := by decide +kernel
theorem dX3_holdsRisingShares_45 : decode cX3_holdsRisingShares 45 = .ok (.istore_n 3, 1) := by decide +kernel
theorem dX3_holdsRisingShares_46 : decode cX3_holdsRisingShares 46 = .ok (.iinc 4 1, 3) := by decide +kernel
theorem dX3_holdsRisingShares_49 : decode cX3_holdsRisingShares 49 = .ok (.goto (-44), 3) := by decide +kernel
theorem dX3_holdsRisingShares_52 : decode cX3_holdsRisingShares 52 = .ok (.iconst 1, 1) := by decide +kernel
theorem dX3_holdsRisingShares_53 : decode cX3_holdsRisingShares 53 = .ok (.ireturn, 1) := by decide +kernel
theorem dX4_init_0 : decode cX4_init 0 = .ok (.aload_n 0, 1) := by decide +kernel
theorem dX4_init_1 : decode cX4_init 1 = .ok (.invokespecial 3, 3) := by decide +kernel
theorem dX4_init_4 : decode cX4_init 4 = .ok (.return_, 1) := by decide +kernel
theorem dX4_fill_0 : decode cX4_fill 0 = .ok (.aload_n 0, 1) := by decide +kernel
theorem dX4_fill_1 : decode cX4_fill 1 = .ok (.aload_n 1, 1) := by decide +kernel
theorem dX4_fill_2 : decode cX4_fill 2 = .ok (.putfield 9, 3) := by decide +kernel
theorem dX4_fill_5 : decode cX4_fill 5 = .ok (.aload_n 0, 1) := by decide +kernel
theorem dX4_fill_6 : decode cX4_fill 6 = .ok (.iload_n 2, 1) := by decide +kernel
theorem dX4_fill_7 : decode cX4_fill 7 = .ok (.putfield 15, 3) := by decide +kernel
theorem dX4_fill_10 : decode cX4_fill 10 = .ok (.return_, 1) := by decide +kernel
theorem dX4_versionNumber_0 : decode cX4_versionNumber 0 = .ok (.aload_n 0, 1) := by decide +kernel
theorem dX4_versionNumber_1 : decode cX4_versionNumber 1 = .ok (.getfield 9, 3) := by decide +kernel
theorem dX4_versionNumber_4 : decode cX4_versionNumber 4 = .ok (.ifnonnull 8, 3) := by decide +kernel
theorem dX4_versionNumber_7 : decode cX4_versionNumber 7 = .ok (.ldc 19, 2) := by decide +kernel
theorem dX4_versionNumber_9 : decode cX4_versionNumber 9 = .ok (.goto 10, 3) := by decide +kernel
theorem dX4_versionNumber_12 : decode cX4_versionNumber 12 = .ok (.aload_n 0, 1) := by decide +kernel
theorem dX4_versionNumber_13 : decode cX4_versionNumber 13 = .ok (.getfield 9, 3) := by decide +kernel
theorem dX4_versionNumber_16 : decode cX4_versionNumber 16 = .ok (.getfield 20, 3) := by decide +kernel
theorem dX4_versionNumber_19 : decode cX4_versionNumber 19 = .ok (.ireturn, 1) := by decide +kernel
theorem dX4_isWholeNotBelow_0 : decode cX4_isWholeNotBelow 0 = .ok (.aload_n 0, 1) := by decide +kernel
theorem dX4_isWholeNotBelow_1 : decode cX4_isWholeNotBelow 1 = .ok (.getfield 9, 3) := by decide +kernel
theorem dX4_isWholeNotBelow_4 : decode cX4_isWholeNotBelow 4 = .ok (.ifnull 32, 3) := by decide +kernel
theorem dX4_isWholeNotBelow_7 : decode cX4_isWholeNotBelow 7 = .ok (.aload_n 0, 1) := by decide +kernel
theorem dX4_isWholeNotBelow_8 : decode cX4_isWholeNotBelow 8 = .ok (.getfield 15, 3) := by decide +kernel
theorem dX4_isWholeNotBelow_11 : decode cX4_isWholeNotBelow 11 = .ok (.aload_n 0, 1) := by decide +kernel
theorem dX4_isWholeNotBelow_12 : decode cX4_isWholeNotBelow 12 = .ok (.getfield 9, 3) := by decide +kernel
theorem dX4_isWholeNotBelow_15 : decode cX4_isWholeNotBelow 15 = .ok (.getfield 25, 3) := by decide +kernel
theorem dX4_isWholeNotBelow_18 : decode cX4_isWholeNotBelow 18 = .ok (.if_icmp .ne 18, 3) := by decide +kernel
theorem dX4_isWholeNotBelow_21 : decode cX4_isWholeNotBelow 21 = .ok (.aload_n 0, 1) := by decide +kernel
theorem dX4_isWholeNotBelow_22 : decode cX4_isWholeNotBelow 22 = .ok (.getfield 9, 3) := by decide +kernel
theorem dX4_isWholeNotBelow_25 : decode cX4_isWholeNotBelow 25 = .ok (.getfield 20, 3) := by decide +kernel
theorem dX4_isWholeNotBelow_28 : decode cX4_isWholeNotBelow 28 = .ok (.iload_n 1, 1) := by decide +kernel
theorem dX4_isWholeNotBelow_29 : decode cX4_isWholeNotBelow 29 = .ok (.if_icmp .lt 7, 3) := by decide +kernel
theorem dX4_isWholeNotBelow_32 : decode cX4_isWholeNotBelow 32 = .ok (.iconst 1, 1) := by decide +kernel
theorem dX4_isWholeNotBelow_33 : decode cX4_isWholeNotBelow 33 = .ok (.goto 4, 3) := by decide +kernel
theorem dX4_isWholeNotBelow_36 : decode cX4_isWholeNotBelow 36 = .ok (.iconst 0, 1) := by decide +kernel
theorem dX4_isWholeNotBelow_37 : decode cX4_isWholeNotBelow 37 = .ok (.ireturn, 1) := by decide +kernel
theorem dX5_init_0 : decode cX5_init 0 = .ok (.aload_n 0, 1) := by decide +kernel
theorem dX5_init_1 : decode cX5_init 1 = .ok (.invokespecial 3, 3) := by decide +kernel
theorem dX5_init_4 : decode cX5_init 4 = .ok (.aload_n 0, 1) := by decide +kernel
theorem dX5_init_5 : decode cX5_init 5 = .ok (.bipush 10, 2) := by decide +kernel
theorem dX5_init_7 : decode cX5_init 7 = .ok (.bipush 10, 2) := by decide +kernel
theorem dX5_init_9 : decode cX5_init 9 = .ok (.multianewarray 9 2, 4) := by decide +kernel
theorem dX5_init_13 : decode cX5_init 13 = .ok (.putfield 11, 3) := by decide +kernel
theorem dX5_init_16 : decode cX5_init 16 = .ok (.aload_n 0, 1) := by decide +kernel
theorem dX5_init_17 : decode cX5_init 17 = .ok (.bipush 10, 2) := by decide +kernel
theorem dX5_init_19 : decode cX5_init 19 = .ok (.newarray .int, 2) := by decide +kernel
theorem dX5_init_21 : decode cX5_init 21 = .ok (.putfield 16, 3) := by decide +kernel
theorem dX5_init_24 : decode cX5_init 24 = .ok (.aload_n 0, 1) := by decide +kernel
theorem dX5_init_25 : decode cX5_init 25 = .ok (.bipush 10, 2) := by decide +kernel
theorem dX5_init_27 : decode cX5_init 27 = .ok (.newarray .int, 2) := by decide +kernel
theorem dX5_init_29 : decode cX5_init 29 = .ok (.putfield 20, 3) := by decide +kernel
theorem dX5_init_32 : decode cX5_init 32 = .ok (.aload_n 0, 1) := by decide +kernel
theorem dX5_init_33 : decode cX5_init 33 = .ok (.bipush 10, 2) := by decide +kernel
theorem dX5_init_35 : decode cX5_init 35 = .ok (.newarray .int, 2) := by decide +kernel
theorem dX5_init_37 : decode cX5_init 37 = .ok (.putfield 23, 3) := by decide +kernel
theorem dX5_init_40 : decode cX5_init 40 = .ok (.return_, 1) := by decide +kernel
theorem dX5_exchange_0 : decode cX5_exchange 0 = .ok (.aload_n 0, 1) := by decide +kernel
theorem dX5_exchange_1 : decode cX5_exchange 1 = .ok (.getfield 11, 3) := by decide +kernel
theorem dX5_exchange_4 : decode cX5_exchange 4 = .ok (.iload_n 1, 1) := by decide +kernel
theorem dX5_exchange_5 : decode cX5_exchange 5 = .ok (.aaload, 1) := by decide +kernel
theorem dX5_exchange_6 : decode cX5_exchange 6 = .ok (.iload_n 2, 1) := by decide +kernel
theorem dX5_exchange_7 : decode cX5_exchange 7 = .ok (.iaload, 1) := by decide +kernel
theorem dX5_exchange_8 : decode cX5_exchange 8 = .ok (.istore 4, 2) := by decide +kernel
theorem dX5_exchange_10 : decode cX5_exchange 10 = .ok (.iload 4, 2) := by decide +kernel
theorem dX5_exchange_12 : decode cX5_exchange 12 = .ok (.ifCond .ne 13, 3) := by decide +kernel
theorem dX5_exchange_15 : decode cX5_exchange 15 = .ok (.aload_n 0, 1) := by decide +kernel
theorem dX5_exchange_16 : decode cX5_exchange 16 = .ok (.dup, 1) := by decide +kernel
theorem dX5_exchange_17 : decode cX5_exchange 17 = .ok (.getfield 26, 3) := by decide +kernel
theorem dX5_exchange_20 : decode cX5_exchange 20 = .ok (.iconst 1, 1) := by decide +kernel
theorem dX5_exchange_21 : decode cX5_exchange 21 = .ok (.iadd, 1) := by decide +kernel
theorem dX5_exchange_22 : decode cX5_exchange 22 = .ok (.putfield 26, 3) := by decide +kernel
theorem dX5_exchange_25 : decode cX5_exchange 25 = .ok (.aload_n 0, 1) := by decide +kernel
theorem dX5_exchange_26 : decode cX5_exchange 26 = .ok (.getfield 11, 3) := by decide +kernel
theorem dX5_exchange_29 : decode cX5_exchange 29 = .ok (.iload_n 1, 1) := by decide +kernel
theorem dX5_exchange_30 : decode cX5_exchange 30 = .ok (.aaload, 1) := by decide +kernel
theorem dX5_exchange_31 : decode cX5_exchange 31 = .ok (.iload_n 2, 1) := by decide +kernel
theorem dX5_exchange_32 : decode cX5_exchange 32 = .ok (.iload_n 3, 1) := by decide +kernel
theorem dX5_exchange_33 : decode cX5_exchange 33 = .ok (.iastore, 1) := by decide +kernel
theorem dX5_exchange_34 : decode cX5_exchange 34 = .ok (.iload 4, 2) := by decide +kernel
theorem dX5_exchange_36 : decode cX5_exchange 36 = .ok (.ireturn, 1) := by decide +kernel
theorem dX5_search_0 : decode cX5_search 0 = .ok (.aload_n 0, 1) := by decide +kernel
theorem dX5_search_1 : decode cX5_search 1 = .ok (.getfield 16, 3) := by decide +kernel
theorem dX5_search_4 : decode cX5_search 4 = .ok (.iload_n 2, 1) := by decide +kernel
theorem dX5_search_5 : decode cX5_search 5 = .ok (.iconst 0, 1) := by decide +kernel
theorem dX5_search_6 : decode cX5_search 6 = .ok (.iastore, 1) := by decide +kernel
theorem dX5_search_7 : decode cX5_search 7 = .ok (.aload_n 0, 1) := by decide +kernel
theorem dX5_search_8 : decode cX5_search 8 = .ok (.getfield 20, 3) := by decide +kernel
theorem dX5_search_11 : decode cX5_search 11 = .ok (.iload_n 2, 1) := by decide +kernel
theorem dX5_search_12 : decode cX5_search 12 = .ok (.iconst 0, 1) := by decide +kernel
theorem dX5_search_13 : decode cX5_search 13 = .ok (.iastore, 1) := by decide +kernel
theorem dX5_search_14 : decode cX5_search 14 = .ok (.iload_n 2, 1) := by decide +kernel
theorem dX5_search_15 : decode cX5_search 15 = .ok (.iconst 1, 1) := by decide +kernel
theorem dX5_search_16 : decode cX5_search 16 = .ok (.isub, 1) := by decide +kernel
theorem dX5_search_17 : decode cX5_search 17 = .ok (.istore_n 3, 1) := by decide +kernel
theorem dX5_search_18 : decode cX5_search 18 = .ok (.iload_n 3, 1) := by decide +kernel
theorem dX5_search_19 : decode cX5_search 19 = .ok (.iload_n 1, 1) := by decide +kernel
theorem dX5_search_20 : decode cX5_search 20 = .ok (.if_icmp .lt 15, 3) := by decide +kernel
theorem dX5_search_23 : decode cX5_search 23 = .ok (.aload_n 0, 1) := by decide +kernel
theorem dX5_search_24 : decode cX5_search 24 = .ok (.iload_n 3, 1) := by decide +kernel
theorem dX5_search_25 : decode cX5_search 25 = .ok (.iload_n 2, 1) := by decide +kernel
theorem dX5_search_26 : decode cX5_search 26 = .ok (.invokevirtual 30, 3) := by decide +kernel
theorem dX5_search_29 : decode cX5_search 29 = .ok (.iinc 3 (-1), 3) := by decide +kernel
theorem dX5_search_32 : decode cX5_search 32 = .ok (.goto (-14), 3) := by decide +kernel
theorem dX5_search_35 : decode cX5_search 35 = .ok (.aload_n 0, 1) := by decide +kernel
theorem dX5_search_36 : decode cX5_search 36 = .ok (.getfield 16, 3) := by decide +kernel
theorem dX5_search_39 : decode cX5_search 39 = .ok (.iload_n 1, 1) := by decide +kernel
theorem dX5_search_40 : decode cX5_search 40 = .ok (.iaload, 1) := by decide +kernel
theorem dX5_search_41 : decode cX5_search 41 = .ok (.iconst (-1), 1) := by decide +kernel
theorem dX5_search_42 : decode cX5_search 42 = .ok (.if_icmp .eq 7, 3) := by decide +kernel
theorem dX5_search_45 : decode cX5_search 45 = .ok (.iconst 1, 1) := by decide +kernel
theorem dX5_search_46 : decode cX5_search 46 = .ok (.goto 4, 3) := by decide +kernel
theorem dX5_search_49 : decode cX5_search 49 = .ok (.iconst 0, 1) := by decide +kernel
theorem dX5_search_50 : decode cX5_search 50 = .ok (.ireturn, 1) := by decide +kernel
theorem dX5_chooseNext_0 : decode cX5_chooseNext 0 = .ok (.aload_n 0, 1) := by decide +kernel
theorem dX5_chooseNext_1 : decode cX5_chooseNext 1 = .ok (.getfield 16, 3) := by decide +kernel
theorem dX5_chooseNext_4 : decode cX5_chooseNext 4 = .ok (.iload_n 1, 1) := by decide +kernel
theorem dX5_chooseNext_5 : decode cX5_chooseNext 5 = .ok (.iconst (-1), 1) := by decide +kernel
theorem dX5_chooseNext_6 : decode cX5_chooseNext 6 = .ok (.iastore, 1) := by decide +kernel
theorem dX5_chooseNext_7 : decode cX5_chooseNext 7 = .ok (.iload_n 1, 1) := by decide +kernel
theorem dX5_chooseNext_8 : decode cX5_chooseNext 8 = .ok (.iconst 1, 1) := by decide +kernel
theorem dX5_chooseNext_9 : decode cX5_chooseNext 9 = .ok (.iadd, 1) := by decide +kernel
theorem dX5_chooseNext_10 : decode cX5_chooseNext 10 = .ok (.istore_n 3, 1) := by decide +kernel
theorem dX5_chooseNext_11 : decode cX5_chooseNext 11 = .ok (.iload_n 3, 1) := by decide +kernel
theorem dX5_chooseNext_12 : decode cX5_chooseNext 12 = .ok (.iload_n 2, 1) := by decide +kernel
theorem dX5_chooseNext_13 : decode cX5_chooseNext 13 = .ok (.if_icmp .gt 126, 3) := by decide +kernel
theorem dX5_chooseNext_16 : decode cX5_chooseNext 16 = .ok (.aload_n 0, 1) := by decide +kernel
theorem dX5_chooseNext_17 : decode cX5_chooseNext 17 = .ok (.getfield 11, 3) := by decide +kernel
theorem dX5_chooseNext_20 : decode cX5_chooseNext 20 = .ok (.iload_n 1, 1) := by decide +kernel
theorem dX5_chooseNext_21 : decode cX5_chooseNext 21 = .ok (.aaload, 1) := by decide +kernel
theorem dX5_chooseNext_22 : decode cX5_chooseNext 22 = .ok (.iload_n 3, 1) := by decide +kernel
theorem dX5_chooseNext_23 : decode cX5_chooseNext 23 = .ok (.iaload, 1) := by decide +kernel
theorem dX5_chooseNext_24 : decode cX5_chooseNext 24 = .ok (.ifCond .eq 109, 3) := by decide +kernel
theorem dX5_chooseNext_27 : decode cX5_chooseNext 27 = .ok (.aload_n 0, 1) := by decide +kernel
theorem dX5_chooseNext_28 : decode cX5_chooseNext 28 = .ok (.getfield 16, 3) := by decide +kernel
theorem dX5_chooseNext_31 : decode cX5_chooseNext 31 = .ok (.iload_n 3, 1) := by decide +kernel
theorem dX5_chooseNext_32 : decode cX5_chooseNext 32 = .ok (.iaload, 1) := by decide +kernel
theorem dX5_chooseNext_33 : decode cX5_chooseNext 33 = .ok (.iconst (-1), 1) := by decide +kernel
theorem dX5_chooseNext_34 : decode cX5_chooseNext 34 = .ok (.if_icmp .ne 6, 3) := by decide +kernel
theorem dX5_chooseNext_37 : decode cX5_chooseNext 37 = .ok (.goto 96, 3) := by decide +kernel
theorem dX5_chooseNext_40 : decode cX5_chooseNext 40 = .ok (.aload_n 0, 1) := by decide +kernel
theorem dX5_chooseNext_41 : decode cX5_chooseNext 41 = .ok (.getfield 11, 3) := by decide +kernel
theorem dX5_chooseNext_44 : decode cX5_chooseNext 44 = .ok (.iload_n 1, 1) := by decide +kernel
theorem dX5_chooseNext_45 : decode cX5_chooseNext 45 = .ok (.aaload, 1) := by decide +kernel
theorem dX5_chooseNext_46 : decode cX5_chooseNext 46 = .ok (.iload_n 3, 1) := by decide +kernel
theorem dX5_chooseNext_47 : decode cX5_chooseNext 47 = .ok (.iaload, 1) := by decide +kernel
theorem dX5_chooseNext_48 : decode cX5_chooseNext 48 = .ok (.aload_n 0, 1) := by decide +kernel
theorem dX5_chooseNext_49 : decode cX5_chooseNext 49 = .ok (.getfield 16, 3) := by decide +kernel
theorem dX5_chooseNext_52 : decode cX5_chooseNext 52 = .ok (.iload_n 3, 1) := by decide +kernel
theorem dX5_chooseNext_53 : decode cX5_chooseNext 53 = .ok (.iaload, 1) := by decide +kernel
theorem dX5_chooseNext_54 : decode cX5_chooseNext 54 = .ok (.iadd, 1) := by decide +kernel
theorem dX5_chooseNext_55 : decode cX5_chooseNext 55 = .ok (.istore 4, 2) := by decide +kernel
theorem dX5_chooseNext_57 : decode cX5_chooseNext 57 = .ok (.iconst 1, 1) := by decide +kernel
theorem dX5_chooseNext_58 : decode cX5_chooseNext 58 = .ok (.aload_n 0, 1) := by decide +kernel
theorem dX5_chooseNext_59 : decode cX5_chooseNext 59 = .ok (.getfield 20, 3) := by decide +kernel
theorem dX5_chooseNext_62 : decode cX5_chooseNext 62 = .ok (.iload_n 3, 1) := by decide +kernel
theorem dX5_chooseNext_63 : decode cX5_chooseNext 63 = .ok (.iaload, 1) := by decide +kernel
theorem dX5_chooseNext_64 : decode cX5_chooseNext 64 = .ok (.iadd, 1) := by decide +kernel
theorem dX5_chooseNext_65 : decode cX5_chooseNext 65 = .ok (.istore 5, 2) := by decide +kernel
theorem dX5_chooseNext_67 : decode cX5_chooseNext 67 = .ok (.aload_n 0, 1) := by decide +kernel
theorem dX5_chooseNext_68 : decode cX5_chooseNext 68 = .ok (.getfield 16, 3) := by decide +kernel
theorem dX5_chooseNext_71 : decode cX5_chooseNext 71 = .ok (.iload_n 1, 1) := by decide +kernel
theorem dX5_chooseNext_72 : decode cX5_chooseNext 72 = .ok (.iaload, 1) := by decide +kernel
theorem dX5_chooseNext_73 : decode cX5_chooseNext 73 = .ok (.iconst (-1), 1) := by decide +kernel
theorem dX5_chooseNext_74 : decode cX5_chooseNext 74 = .ok (.if_icmp .eq 36, 3) := by decide +kernel
theorem dX5_chooseNext_77 : decode cX5_chooseNext 77 = .ok (.iload 4, 2) := by decide +kernel
theorem dX5_chooseNext_79 : decode cX5_chooseNext 79 = .ok (.aload_n 0, 1) := by decide +kernel
theorem dX5_chooseNext_80 : decode cX5_chooseNext 80 = .ok (.getfield 16, 3) := by decide +kernel
theorem dX5_chooseNext_83 : decode cX5_chooseNext 83 = .ok (.iload_n 1, 1) := by decide +kernel
theorem dX5_chooseNext_84 : decode cX5_chooseNext 84 = .ok (.iaload, 1) := by decide +kernel
theorem dX5_chooseNext_85 : decode cX5_chooseNext 85 = .ok (.if_icmp .lt 25, 3) := by decide +kernel
theorem dX5_chooseNext_88 : decode cX5_chooseNext 88 = .ok (.iload 4, 2) := by decide +kernel
theorem dX5_chooseNext_90 : decode cX5_chooseNext 90 = .ok (.aload_n 0, 1) := by decide +kernel
theorem dX5_chooseNext_91 : decode cX5_chooseNext 91 = .ok (.getfield 16, 3) := by decide +kernel
theorem dX5_chooseNext_94 : decode cX5_chooseNext 94 = .ok (.iload_n 1, 1) := by decide +kernel
theorem dX5_chooseNext_95 : decode cX5_chooseNext 95 = .ok (.iaload, 1) := by decide +kernel
theorem dX5_chooseNext_96 : decode cX5_chooseNext 96 = .ok (.if_icmp .ne 37, 3) := by decide +kernel
theorem dX5_chooseNext_99 : decode cX5_chooseNext 99 = .ok (.iload 5, 2) := by decide +kernel
theorem dX5_chooseNext_101 : decode cX5_chooseNext 101 = .ok (.aload_n 0, 1) := by decide +kernel
theorem dX5_chooseNext_102 : decode cX5_chooseNext 102 = .ok (.getfield 20, 3) := by decide +kernel
theorem dX5_chooseNext_105 : decode cX5_chooseNext 105 = .ok (.iload_n 1, 1) := by decide +kernel
theorem dX5_chooseNext_106 : decode cX5_chooseNext 106 = .ok (.iaload, 1) := by decide +kernel
theorem dX5_chooseNext_107 : decode cX5_chooseNext 107 = .ok (.if_icmp .ge 26, 3) := by decide +kernel
theorem dX5_chooseNext_110 : decode cX5_chooseNext 110 = .ok (.aload_n 0, 1) := by decide +kernel
theorem dX5_chooseNext_111 : decode cX5_chooseNext 111 = .ok (.getfield 16, 3) := by decide +kernel
theorem dX5_chooseNext_114 : decode cX5_chooseNext 114 = .ok (.iload_n 1, 1) := by decide +kernel
theorem dX5_chooseNext_115 : decode cX5_chooseNext 115 = .ok (.iload 4, 2) := by decide +kernel
theorem dX5_chooseNext_117 : decode cX5_chooseNext 117 = .ok (.iastore, 1) := by decide +kernel
theorem dX5_chooseNext_118 : decode cX5_chooseNext 118 = .ok (.aload_n 0, 1) := by decide +kernel
theorem dX5_chooseNext_119 : decode cX5_chooseNext 119 = .ok (.getfield 20, 3) := by decide +kernel
theorem dX5_chooseNext_122 : decode cX5_chooseNext 122 = .ok (.iload_n 1, 1) := by decide +kernel
theorem dX5_chooseNext_123 : decode cX5_chooseNext 123 = .ok (.iload 5, 2) := by decide +kernel
theorem dX5_chooseNext_125 : decode cX5_chooseNext 125 = .ok (.iastore, 1) := by decide +kernel
theorem dX5_chooseNext_126 : decode cX5_chooseNext 126 = .ok (.aload_n 0, 1) := by decide +kernel
theorem dX5_chooseNext_127 : decode cX5_chooseNext 127 = .ok (.getfield 23, 3) := by decide +kernel
theorem dX5_chooseNext_130 : decode cX5_chooseNext 130 = .ok (.iload_n 1, 1) := by decide +kernel
theorem dX5_chooseNext_131 : decode cX5_chooseNext 131 = .ok (.iload_n 3, 1) := by decide +kernel
theorem dX5_chooseNext_132 : decode cX5_chooseNext 132 = .ok (.iastore, 1) := by decide +kernel
theorem dX5_chooseNext_133 : decode cX5_chooseNext 133 = .ok (.iinc 3 1, 3) := by decide +kernel
theorem dX5_chooseNext_136 : decode cX5_chooseNext 136 = .ok (.goto (-125), 3) := by decide +kernel
theorem dX5_chooseNext_139 : decode cX5_chooseNext 139 = .ok (.return_, 1) := by decide +kernel
theorem dX5_follow_0 : decode cX5_follow 0 = .ok (.iload_n 2, 1) := by decide +kernel
theorem dX5_follow_1 : decode cX5_follow 1 = .ok (.ifCond .lt 13, 3) := by decide +kernel
theorem dX5_follow_4 : decode cX5_follow 4 = .ok (.iload_n 2, 1) := by decide +kernel
theorem dX5_follow_5 : decode cX5_follow 5 = .ok (.aload_n 0, 1) := by decide +kernel
theorem dX5_follow_6 : decode cX5_follow 6 = .ok (.getfield 20, 3) := by decide +kernel
theorem dX5_follow_9 : decode cX5_follow 9 = .ok (.iload_n 1, 1) := by decide +kernel
theorem dX5_follow_10 : decode cX5_follow 10 = .ok (.iaload, 1) := by decide +kernel
theorem dX5_follow_11 : decode cX5_follow 11 = .ok (.if_icmp .le 6, 3) := by decide +kernel
theorem dX5_follow_14 : decode cX5_follow 14 = .ok (.ldc 34, 2) := by decide +kernel
theorem dX5_follow_16 : decode cX5_follow 16 = .ok (.ireturn, 1) := by decide +kernel
theorem dX5_follow_17 : decode cX5_follow 17 = .ok (.iload_n 1, 1) := by decide +kernel
theorem dX5_follow_18 : decode cX5_follow 18 = .ok (.istore_n 3, 1) := by decide +kernel
theorem dX5_follow_19 : decode cX5_follow 19 = .ok (.iconst 0, 1) := by decide +kernel
theorem dX5_follow_20 : decode cX5_follow 20 = .ok (.istore 4, 2) := by decide +kernel
theorem dX5_follow_22 : decode cX5_follow 22 = .ok (.iload 4, 2) := by decide +kernel
theorem dX5_follow_24 : decode cX5_follow 24 = .ok (.iload_n 2, 1) := by decide +kernel
theorem dX5_follow_25 : decode cX5_follow 25 = .ok (.if_icmp .ge 16, 3) := by decide +kernel
theorem dX5_follow_28 : decode cX5_follow 28 = .ok (.aload_n 0, 1) := by decide +kernel
theorem dX5_follow_29 : decode cX5_follow 29 = .ok (.getfield 23, 3) := by decide +kernel
theorem dX5_follow_32 : decode cX5_follow 32 = .ok (.iload_n 3, 1) := by decide +kernel
theorem dX5_follow_33 : decode cX5_follow 33 = .ok (.iaload, 1) := by decide +kernel
theorem dX5_follow_34 : decode cX5_follow 34 = .ok (.istore_n 3, 1) := by decide +kernel
theorem dX5_follow_35 : decode cX5_follow 35 = .ok (.iinc 4 1, 3) := by decide +kernel
theorem dX5_follow_38 : decode cX5_follow 38 = .ok (.goto (-16), 3) := by decide +kernel
theorem dX5_follow_41 : decode cX5_follow 41 = .ok (.iload_n 3, 1) := by decide +kernel
theorem dX5_follow_42 : decode cX5_follow 42 = .ok (.ireturn, 1) := by decide +kernel
theorem dX6_init_0 : decode cX6_init 0 = .ok (.aload_n 0, 1) := by decide +kernel
theorem dX6_init_1 : decode cX6_init 1 = .ok (.invokespecial 1, 3) := by decide +kernel
theorem dX6_init_4 : decode cX6_init 4 = .ok (.aload_n 0, 1) := by decide +kernel
theorem dX6_init_5 : decode cX6_init 5 = .ok (.iload_n 1, 1) := by decide +kernel
theorem dX6_init_6 : decode cX6_init 6 = .ok (.putfield 7, 3) := by decide +kernel
theorem dX6_init_9 : decode cX6_init 9 = .ok (.return_, 1) := by decide +kernel
theorem dX6_fill_0 : decode cX6_fill 0 = .ok (.aload_n 0, 1) := by decide +kernel
theorem dX6_fill_1 : decode cX6_fill 1 = .ok (.iload_n 1, 1) := by decide +kernel
theorem dX6_fill_2 : decode cX6_fill 2 = .ok (.putfield 13, 3) := by decide +kernel
theorem dX6_fill_5 : decode cX6_fill 5 = .ok (.aload_n 0, 1) := by decide +kernel
theorem dX6_fill_6 : decode cX6_fill 6 = .ok (.iload_n 2, 1) := by decide +kernel
theorem dX6_fill_7 : decode cX6_fill 7 = .ok (.putfield 16, 3) := by decide +kernel
theorem dX6_fill_10 : decode cX6_fill 10 = .ok (.aload_n 0, 1) := by decide +kernel
theorem dX6_fill_11 : decode cX6_fill 11 = .ok (.iload_n 3, 1) := by decide +kernel
theorem dX6_fill_12 : decode cX6_fill 12 = .ok (.putfield 19, 3) := by decide +kernel
theorem dX6_fill_15 : decode cX6_fill 15 = .ok (.return_, 1) := by decide +kernel
theorem dX6_ailsOn_0 : decode cX6_ailsOn 0 = .ok (.aload_n 0, 1) := by decide +kernel
theorem dX6_ailsOn_1 : decode cX6_ailsOn 1 = .ok (.getfield 19, 3) := by decide +kernel
theorem dX6_ailsOn_4 : decode cX6_ailsOn 4 = .ok (.iload_n 1, 1) := by decide +kernel
theorem dX6_ailsOn_5 : decode cX6_ailsOn 5 = .ok (.ishr, 1) := by decide +kernel
theorem dX6_ailsOn_6 : decode cX6_ailsOn 6 = .ok (.iconst 1, 1) := by decide +kernel
theorem dX6_ailsOn_7 : decode cX6_ailsOn 7 = .ok (.iand, 1) := by decide +kernel
theorem dX6_ailsOn_8 : decode cX6_ailsOn 8 = .ok (.ifCond .eq 7, 3) := by decide +kernel
theorem dX6_ailsOn_11 : decode cX6_ailsOn 11 = .ok (.iconst 1, 1) := by decide +kernel
theorem dX6_ailsOn_12 : decode cX6_ailsOn 12 = .ok (.goto 4, 3) := by decide +kernel
theorem dX6_ailsOn_15 : decode cX6_ailsOn 15 = .ok (.iconst 0, 1) := by decide +kernel
theorem dX6_ailsOn_16 : decode cX6_ailsOn 16 = .ok (.ireturn, 1) := by decide +kernel
theorem dJ9_max_7cf53_0 : decode cJ9_max_7cf53 0 = .ok (.iload_n 0, 1) := by decide +kernel
theorem dJ9_max_7cf53_1 : decode cJ9_max_7cf53 1 = .ok (.iload_n 1, 1) := by decide +kernel
theorem dJ9_max_7cf53_2 : decode cJ9_max_7cf53 2 = .ok (.if_icmp .lt 7, 3) := by decide +kernel
theorem dJ9_max_7cf53_5 : decode cJ9_max_7cf53 5 = .ok (.iload_n 0, 1) := by decide +kernel
theorem dJ9_max_7cf53_6 : decode cJ9_max_7cf53 6 = .ok (.goto 4, 3) := by decide +kernel
theorem dJ9_max_7cf53_9 : decode cJ9_max_7cf53 9 = .ok (.iload_n 1, 1) := by decide +kernel
theorem dJ9_max_7cf53_10 : decode cJ9_max_7cf53 10 = .ok (.ireturn, 1) := by decide +kernel
end
section
theorem dX7_init_0 : decode cX7_init 0 = .ok (.aload_n 0, 1) := by decide +kernel
theorem dX7_init_1 : decode cX7_init 1 = .ok (.invokespecial 1, 3) := by decide +kernel
theorem dX7_init_4 : decode cX7_init 4 = .ok (.aload_n 0, 1) := by decide +kernel
theorem dX7_init_5 : decode cX7_init 5 = .ok (.bipush 8, 2) := by decide +kernel
theorem dX7_init_7 : decode cX7_init 7 = .ok (.anewarray 9, 3) := by decide +kernel
theorem dX7_init_10 : decode cX7_init 10 = .ok (.putfield 11, 3) := by decide +kernel
theorem dX7_init_13 : decode cX7_init 13 = .ok (.aload_n 0, 1) := by decide +kernel
theorem dX7_init_14 : decode cX7_init 14 = .ok (.bipush 10, 2) := by decide +kernel
theorem dX7_init_16 : decode cX7_init 16 = .ok (.anewarray 15, 3) := by decide +kernel
theorem dX7_init_19 : decode cX7_init 19 = .ok (.putfield 17, 3) := by decide +kernel
theorem dX7_init_22 : decode cX7_init 22 = .ok (.aload_n 0, 1) := by decide +kernel
theorem dX7_init_23 : decode cX7_init 23 = .ok (.new 21, 3) := by decide +kernel
theorem dX7_init_26 : decode cX7_init 26 = .ok (.dup, 1) := by decide +kernel
theorem dX7_init_27 : decode cX7_init 27 = .ok (.invokespecial 23, 3) := by decide +kernel
theorem dX7_init_30 : decode cX7_init 30 = .ok (.putfield 24, 3) := by decide +kernel
theorem dX7_init_33 : decode cX7_init 33 = .ok (.aload_n 0, 1) := by decide +kernel
theorem dX7_init_34 : decode cX7_init 34 = .ok (.bipush 30, 2) := by decide +kernel
theorem dX7_init_36 : decode cX7_init 36 = .ok (.anewarray 28, 3) := by decide +kernel
theorem dX7_init_39 : decode cX7_init 39 = .ok (.putfield 30, 3) := by decide +kernel
theorem dX7_init_42 : decode cX7_init 42 = .ok (.aload_n 0, 1) := by decide +kernel
theorem dX7_init_43 : decode cX7_init 43 = .ok (.new 28, 3) := by decide +kernel
theorem dX7_init_46 : decode cX7_init 46 = .ok (.dup, 1) := by decide +kernel
theorem dX7_init_47 : decode cX7_init 47 = .ok (.iconst 0, 1) := by decide +kernel
theorem dX7_init_48 : decode cX7_init 48 = .ok (.invokespecial 34, 3) := by decide +kernel
theorem dX7_init_51 : decode cX7_init 51 = .ok (.putfield 37, 3) := by decide +kernel
theorem dX7_init_54 : decode cX7_init 54 = .ok (.aload_n 0, 1) := by decide +kernel
theorem dX7_init_55 : decode cX7_init 55 = .ok (.new 41, 3) := by decide +kernel
theorem dX7_init_58 : decode cX7_init 58 = .ok (.dup, 1) := by decide +kernel
theorem dX7_init_59 : decode cX7_init 59 = .ok (.invokespecial 43, 3) := by decide +kernel
theorem dX7_init_62 : decode cX7_init 62 = .ok (.putfield 44, 3) := by decide +kernel
theorem dX7_init_65 : decode cX7_init 65 = .ok (.aload_n 0, 1) := by decide +kernel
theorem dX7_init_66 : decode cX7_init 66 = .ok (.new 48, 3) := by decide +kernel
theorem dX7_init_69 : decode cX7_init 69 = .ok (.dup, 1) := by decide +kernel
theorem dX7_init_70 : decode cX7_init 70 = .ok (.invokespecial 50, 3) := by decide +kernel
theorem dX7_init_73 : decode cX7_init 73 = .ok (.putfield 51, 3) := by decide +kernel
theorem dX7_init_76 : decode cX7_init 76 = .ok (.aload_n 0, 1) := by decide +kernel
theorem dX7_init_77 : decode cX7_init 77 = .ok (.iconst 0, 1) := by decide +kernel
theorem dX7_init_78 : decode cX7_init 78 = .ok (.putfield 55, 3) := by decide +kernel
theorem dX7_init_81 : decode cX7_init 81 = .ok (.iconst 0, 1) := by decide +kernel
theorem dX7_init_82 : decode cX7_init 82 = .ok (.istore_n 1, 1) := by decide +kernel
theorem dX7_init_83 : decode cX7_init 83 = .ok (.iload_n 1, 1) := by decide +kernel
theorem dX7_init_84 : decode cX7_init 84 = .ok (.bipush 8, 2) := by decide +kernel
theorem dX7_init_86 : decode cX7_init 86 = .ok (.if_icmp .ge 22, 3) := by decide +kernel
theorem dX7_init_89 : decode cX7_init 89 = .ok (.aload_n 0, 1) := by decide +kernel
theorem dX7_init_90 : decode cX7_init 90 = .ok (.getfield 11, 3) := by decide +kernel
theorem dX7_init_93 : decode cX7_init 93 = .ok (.iload_n 1, 1) := by decide +kernel
theorem dX7_init_94 : decode cX7_init 94 = .ok (.new 9, 3) := by decide +kernel
theorem dX7_init_97 : decode cX7_init 97 = .ok (.dup, 1) := by decide +kernel
theorem dX7_init_98 : decode cX7_init 98 = .ok (.invokespecial 59, 3) := by decide +kernel
theorem dX7_init_101 : decode cX7_init 101 = .ok (.aastore, 1) := by decide +kernel
theorem dX7_init_102 : decode cX7_init 102 = .ok (.iinc 1 1, 3) := by decide +kernel
theorem dX7_init_105 : decode cX7_init 105 = .ok (.goto (-22), 3) := by decide +kernel
theorem dX7_init_108 : decode cX7_init 108 = .ok (.iconst 0, 1) := by decide +kernel
theorem dX7_init_109 : decode cX7_init 109 = .ok (.istore_n 1, 1) := by decide +kernel
theorem dX7_init_110 : decode cX7_init 110 = .ok (.iload_n 1, 1) := by decide +kernel
theorem dX7_init_111 : decode cX7_init 111 = .ok (.bipush 10, 2) := by decide +kernel
theorem dX7_init_113 : decode cX7_init 113 = .ok (.if_icmp .ge 23, 3) := by decide +kernel
theorem dX7_init_116 : decode cX7_init 116 = .ok (.aload_n 0, 1) := by decide +kernel
theorem dX7_init_117 : decode cX7_init 117 = .ok (.getfield 17, 3) := by decide +kernel
theorem dX7_init_120 : decode cX7_init 120 = .ok (.iload_n 1, 1) := by decide +kernel
theorem dX7_init_121 : decode cX7_init 121 = .ok (.new 15, 3) := by decide +kernel
theorem dX7_init_124 : decode cX7_init 124 = .ok (.dup, 1) := by decide +kernel
theorem dX7_init_125 : decode cX7_init 125 = .ok (.iload_n 1, 1) := by decide +kernel
theorem dX7_init_126 : decode cX7_init 126 = .ok (.invokespecial 60, 3) := by decide +kernel
theorem dX7_init_129 : decode cX7_init 129 = .ok (.aastore, 1) := by decide +kernel
theorem dX7_init_130 : decode cX7_init 130 = .ok (.iinc 1 1, 3) := by decide +kernel
theorem dX7_init_133 : decode cX7_init 133 = .ok (.goto (-23), 3) := by decide +kernel
theorem dX7_init_136 : decode cX7_init 136 = .ok (.iconst 0, 1) := by decide +kernel
theorem dX7_init_137 : decode cX7_init 137 = .ok (.istore_n 1, 1) := by decide +kernel
theorem dX7_init_138 : decode cX7_init 138 = .ok (.iload_n 1, 1) := by decide +kernel
theorem dX7_init_139 : decode cX7_init 139 = .ok (.bipush 30, 2) := by decide +kernel
theorem dX7_init_141 : decode cX7_init 141 = .ok (.if_icmp .ge 23, 3) := by decide +kernel
theorem dX7_init_144 : decode cX7_init 144 = .ok (.aload_n 0, 1) := by decide +kernel
theorem dX7_init_145 : decode cX7_init 145 = .ok (.getfield 30, 3) := by decide +kernel
theorem dX7_init_148 : decode cX7_init 148 = .ok (.iload_n 1, 1) := by decide +kernel
theorem dX7_init_149 : decode cX7_init 149 = .ok (.new 28, 3) := by decide +kernel
theorem dX7_init_152 : decode cX7_init 152 = .ok (.dup, 1) := by decide +kernel
theorem dX7_init_153 : decode cX7_init 153 = .ok (.iload_n 1, 1) := by decide +kernel
theorem dX7_init_154 : decode cX7_init 154 = .ok (.invokespecial 34, 3) := by decide +kernel
theorem dX7_init_157 : decode cX7_init 157 = .ok (.aastore, 1) := by decide +kernel
theorem dX7_init_158 : decode cX7_init 158 = .ok (.iinc 1 1, 3) := by decide +kernel
theorem dX7_init_161 : decode cX7_init 161 = .ok (.goto (-23), 3) := by decide +kernel
theorem dX7_init_164 : decode cX7_init 164 = .ok (.return_, 1) := by decide +kernel
theorem dX7_sheet_0 : decode cX7_sheet 0 = .ok (.iload_n 1, 1) := by decide +kernel
theorem dX7_sheet_1 : decode cX7_sheet 1 = .ok (.invokestatic 61, 3) := by decide +kernel
theorem dX7_sheet_4 : decode cX7_sheet 4 = .ok (.ifCond .eq 18, 3) := by decide +kernel
theorem dX7_sheet_7 : decode cX7_sheet 7 = .ok (.iload_n 2, 1) := by decide +kernel
theorem dX7_sheet_8 : decode cX7_sheet 8 = .ok (.ifCond .lt 14, 3) := by decide +kernel
theorem dX7_sheet_11 : decode cX7_sheet 11 = .ok (.iload_n 2, 1) := by decide +kernel
theorem dX7_sheet_12 : decode cX7_sheet 12 = .ok (.iconst 2, 1) := by decide +kernel
theorem dX7_sheet_13 : decode cX7_sheet 13 = .ok (.if_icmp .gt 9, 3) := by decide +kernel
theorem dX7_sheet_16 : decode cX7_sheet 16 = .ok (.iload_n 3, 1) := by decide +kernel
theorem dX7_sheet_17 : decode cX7_sheet 17 = .ok (.bipush 60, 2) := by decide +kernel
theorem dX7_sheet_19 : decode cX7_sheet 19 = .ok (.if_icmp .le 6, 3) := by decide +kernel
theorem dX7_sheet_22 : decode cX7_sheet 22 = .ok (.ldc 65, 2) := by decide +kernel
theorem dX7_sheet_24 : decode cX7_sheet 24 = .ok (.ireturn, 1) := by decide +kernel
theorem dX7_sheet_25 : decode cX7_sheet 25 = .ok (.iload_n 3, 1) := by decide +kernel
theorem dX7_sheet_26 : decode cX7_sheet 26 = .ok (.ifCond .ge 9, 3) := by decide +kernel
theorem dX7_sheet_29 : decode cX7_sheet 29 = .ok (.aload_n 0, 1) := by decide +kernel
theorem dX7_sheet_30 : decode cX7_sheet 30 = .ok (.iconst 4, 1) := by decide +kernel
theorem dX7_sheet_31 : decode cX7_sheet 31 = .ok (.invokevirtual 66, 3) := by decide +kernel
theorem dX7_sheet_34 : decode cX7_sheet 34 = .ok (.ireturn, 1) := by decide +kernel
theorem dX7_sheet_35 : decode cX7_sheet 35 = .ok (.aload_n 0, 1) := by decide +kernel
theorem dX7_sheet_36 : decode cX7_sheet 36 = .ok (.getfield 11, 3) := by decide +kernel
theorem dX7_sheet_39 : decode cX7_sheet 39 = .ok (.iload_n 1, 1) := by decide +kernel
theorem dX7_sheet_40 : decode cX7_sheet 40 = .ok (.aaload, 1) := by decide +kernel
theorem dX7_sheet_41 : decode cX7_sheet 41 = .ok (.iload_n 2, 1) := by decide +kernel
theorem dX7_sheet_42 : decode cX7_sheet 42 = .ok (.iload_n 3, 1) := by decide +kernel
theorem dX7_sheet_43 : decode cX7_sheet 43 = .ok (.invokevirtual 70, 3) := by decide +kernel
theorem dX7_sheet_46 : decode cX7_sheet 46 = .ok (.aload_n 0, 1) := by decide +kernel
theorem dX7_sheet_47 : decode cX7_sheet 47 = .ok (.iload_n 3, 1) := by decide +kernel
theorem dX7_sheet_48 : decode cX7_sheet 48 = .ok (.invokevirtual 74, 3) := by decide +kernel
theorem dX7_sheet_51 : decode cX7_sheet 51 = .ok (.ireturn, 1) := by decide +kernel
theorem dX7_set_0 : decode cX7_set 0 = .ok (.iload_n 1, 1) := by decide +kernel
theorem dX7_set_1 : decode cX7_set 1 = .ok (.invokestatic 61, 3) := by decide +kernel
theorem dX7_set_4 : decode cX7_set 4 = .ok (.ifCond .ne 6, 3) := by decide +kernel
theorem dX7_set_7 : decode cX7_set 7 = .ok (.ldc 65, 2) := by decide +kernel
theorem dX7_set_9 : decode cX7_set 9 = .ok (.ireturn, 1) := by decide +kernel
theorem dX7_set_10 : decode cX7_set 10 = .ok (.aload_n 0, 1) := by decide +kernel
theorem dX7_set_11 : decode cX7_set 11 = .ok (.getfield 11, 3) := by decide +kernel
theorem dX7_set_14 : decode cX7_set 14 = .ok (.iload_n 1, 1) := by decide +kernel
theorem dX7_set_15 : decode cX7_set 15 = .ok (.aaload, 1) := by decide +kernel
theorem dX7_set_16 : decode cX7_set 16 = .ok (.astore 4, 2) := by decide +kernel
theorem dX7_set_18 : decode cX7_set 18 = .ok (.aload 4, 2) := by decide +kernel
theorem dX7_set_20 : decode cX7_set 20 = .ok (.getfield 77, 3) := by decide +kernel
theorem dX7_set_23 : decode cX7_set 23 = .ok (.ifCond .eq 9, 3) := by decide +kernel
theorem dX7_set_26 : decode cX7_set 26 = .ok (.aload_n 0, 1) := by decide +kernel
theorem dX7_set_27 : decode cX7_set 27 = .ok (.iconst 1, 1) := by decide +kernel
theorem dX7_set_28 : decode cX7_set 28 = .ok (.invokevirtual 66, 3) := by decide +kernel
theorem dX7_set_31 : decode cX7_set 31 = .ok (.ireturn, 1) := by decide +kernel
theorem dX7_set_32 : decode cX7_set 32 = .ok (.aload 4, 2) := by decide +kernel
theorem dX7_set_34 : decode cX7_set 34 = .ok (.iload_n 2, 1) := by decide +kernel
theorem dX7_set_35 : decode cX7_set 35 = .ok (.iconst 1, 1) := by decide +kernel
theorem dX7_set_36 : decode cX7_set 36 = .ok (.invokevirtual 81, 3) := by decide +kernel
theorem dX7_set_39 : decode cX7_set 39 = .ok (.ifCond .ne 9, 3) := by decide +kernel
theorem dX7_set_42 : decode cX7_set 42 = .ok (.aload_n 0, 1) := by decide +kernel
theorem dX7_set_43 : decode cX7_set 43 = .ok (.iconst 2, 1) := by decide +kernel
theorem dX7_set_44 : decode cX7_set 44 = .ok (.invokevirtual 66, 3) := by decide +kernel
theorem dX7_set_47 : decode cX7_set 47 = .ok (.ireturn, 1) := by decide +kernel
theorem dX7_set_48 : decode cX7_set 48 = .ok (.aload_n 0, 1) := by decide +kernel
theorem dX7_set_49 : decode cX7_set 49 = .ok (.aload 4, 2) := by decide +kernel
theorem dX7_set_51 : decode cX7_set 51 = .ok (.iload_n 2, 1) := by decide +kernel
theorem dX7_set_52 : decode cX7_set 52 = .ok (.iload_n 3, 1) := by decide +kernel
theorem dX7_set_53 : decode cX7_set 53 = .ok (.invokevirtual 85, 3) := by decide +kernel
theorem dX7_set_56 : decode cX7_set 56 = .ok (.invokevirtual 74, 3) := by decide +kernel
theorem dX7_set_59 : decode cX7_set 59 = .ok (.ireturn, 1) := by decide +kernel
theorem dX7_copy_0 : decode cX7_copy 0 = .ok (.iload_n 1, 1) := by decide +kernel
theorem dX7_copy_1 : decode cX7_copy 1 = .ok (.invokestatic 61, 3) := by decide +kernel
theorem dX7_copy_4 : decode cX7_copy 4 = .ok (.ifCond .eq 10, 3) := by decide +kernel
theorem dX7_copy_7 : decode cX7_copy 7 = .ok (.iload_n 3, 1) := by decide +kernel
theorem dX7_copy_8 : decode cX7_copy 8 = .ok (.invokestatic 61, 3) := by decide +kernel
theorem dX7_copy_11 : decode cX7_copy 11 = .ok (.ifCond .ne 6, 3) := by decide +kernel
theorem dX7_copy_14 : decode cX7_copy 14 = .ok (.ldc 65, 2) := by decide +kernel
theorem dX7_copy_16 : decode cX7_copy 16 = .ok (.ireturn, 1) := by decide +kernel
theorem dX7_copy_17 : decode cX7_copy 17 = .ok (.aload_n 0, 1) := by decide +kernel
theorem dX7_copy_18 : decode cX7_copy 18 = .ok (.getfield 11, 3) := by decide +kernel
theorem dX7_copy_21 : decode cX7_copy 21 = .ok (.iload_n 1, 1) := by decide +kernel
theorem dX7_copy_22 : decode cX7_copy 22 = .ok (.aaload, 1) := by decide +kernel
theorem dX7_copy_23 : decode cX7_copy 23 = .ok (.astore 6, 2) := by decide +kernel
theorem dX7_copy_25 : decode cX7_copy 25 = .ok (.aload_n 0, 1) := by decide +kernel
theorem dX7_copy_26 : decode cX7_copy 26 = .ok (.getfield 11, 3) := by decide +kernel
theorem dX7_copy_29 : decode cX7_copy 29 = .ok (.iload_n 3, 1) := by decide +kernel
theorem dX7_copy_30 : decode cX7_copy 30 = .ok (.aaload, 1) := by decide +kernel
theorem dX7_copy_31 : decode cX7_copy 31 = .ok (.astore 7, 2) := by decide +kernel
theorem dX7_copy_33 : decode cX7_copy 33 = .ok (.aload 6, 2) := by decide +kernel
theorem dX7_copy_35 : decode cX7_copy 35 = .ok (.getfield 77, 3) := by decide +kernel
theorem dX7_copy_38 : decode cX7_copy 38 = .ok (.ifCond .ne 11, 3) := by decide +kernel
theorem dX7_copy_41 : decode cX7_copy 41 = .ok (.aload 7, 2) := by decide +kernel
theorem dX7_copy_43 : decode cX7_copy 43 = .ok (.getfield 77, 3) := by decide +kernel
theorem dX7_copy_46 : decode cX7_copy 46 = .ok (.ifCond .eq 9, 3) := by decide +kernel
theorem dX7_copy_49 : decode cX7_copy 49 = .ok (.aload_n 0, 1) := by decide +kernel
theorem dX7_copy_50 : decode cX7_copy 50 = .ok (.iconst 1, 1) := by decide +kernel
theorem dX7_copy_51 : decode cX7_copy 51 = .ok (.invokevirtual 66, 3) := by decide +kernel
theorem dX7_copy_54 : decode cX7_copy 54 = .ok (.ireturn, 1) := by decide +kernel
theorem dX7_copy_55 : decode cX7_copy 55 = .ok (.aload 6, 2) := by decide +kernel
theorem dX7_copy_57 : decode cX7_copy 57 = .ok (.getfield 89, 3) := by decide +kernel
theorem dX7_copy_60 : decode cX7_copy 60 = .ok (.aload 7, 2) := by decide +kernel
theorem dX7_copy_62 : decode cX7_copy 62 = .ok (.getfield 89, 3) := by decide +kernel
theorem dX7_copy_65 : decode cX7_copy 65 = .ok (.if_icmp .eq 9, 3) := by decide +kernel
theorem dX7_copy_68 : decode cX7_copy 68 = .ok (.aload_n 0, 1) := by decide +kernel
theorem dX7_copy_69 : decode cX7_copy 69 = .ok (.iconst 5, 1) := by decide +kernel
theorem dX7_copy_70 : decode cX7_copy 70 = .ok (.invokevirtual 66, 3) := by decide +kernel
theorem dX7_copy_73 : decode cX7_copy 73 = .ok (.ireturn, 1) := by decide +kernel
theorem dX7_copy_74 : decode cX7_copy 74 = .ok (.aload 6, 2) := by decide +kernel
theorem dX7_copy_76 : decode cX7_copy 76 = .ok (.iload_n 2, 1) := by decide +kernel
theorem dX7_copy_77 : decode cX7_copy 77 = .ok (.iload 5, 2) := by decide +kernel
theorem dX7_copy_79 : decode cX7_copy 79 = .ok (.invokevirtual 81, 3) := by decide +kernel
theorem dX7_copy_82 : decode cX7_copy 82 = .ok (.ifCond .eq 15, 3) := by decide +kernel
theorem dX7_copy_85 : decode cX7_copy 85 = .ok (.aload 7, 2) := by decide +kernel
theorem dX7_copy_87 : decode cX7_copy 87 = .ok (.iload 4, 2) := by decide +kernel
theorem dX7_copy_89 : decode cX7_copy 89 = .ok (.iload 5, 2) := by decide +kernel
theorem dX7_copy_91 : decode cX7_copy 91 = .ok (.invokevirtual 81, 3) := by decide +kernel
theorem dX7_copy_94 : decode cX7_copy 94 = .ok (.ifCond .ne 9, 3) := by decide +kernel
theorem dX7_copy_97 : decode cX7_copy 97 = .ok (.aload_n 0, 1) := by decide +kernel
theorem dX7_copy_98 : decode cX7_copy 98 = .ok (.iconst 2, 1) := by decide +kernel
theorem dX7_copy_99 : decode cX7_copy 99 = .ok (.invokevirtual 66, 3) := by decide +kernel
theorem dX7_copy_102 : decode cX7_copy 102 = .ok (.ireturn, 1) := by decide +kernel
theorem dX7_copy_103 : decode cX7_copy 103 = .ok (.aload 6, 2) := by decide +kernel
theorem dX7_copy_105 : decode cX7_copy 105 = .ok (.getfield 92, 3) := by decide +kernel
theorem dX7_copy_108 : decode cX7_copy 108 = .ok (.iload_n 2, 1) := by decide +kernel
theorem dX7_copy_109 : decode cX7_copy 109 = .ok (.aload 7, 2) := by decide +kernel
theorem dX7_copy_111 : decode cX7_copy 111 = .ok (.getfield 92, 3) := by decide +kernel
theorem dX7_copy_114 : decode cX7_copy 114 = .ok (.iload 4, 2) := by decide +kernel
theorem dX7_copy_116 : decode cX7_copy 116 = .ok (.iload 5, 2) := by decide +kernel
theorem dX7_copy_118 : decode cX7_copy 118 = .ok (.invokestatic 96, 3) := by decide +kernel
theorem dX7_copy_121 : decode cX7_copy 121 = .ok (.aload_n 0, 1) := by decide +kernel
theorem dX7_copy_122 : decode cX7_copy 122 = .ok (.iload 5, 2) := by decide +kernel
theorem dX7_copy_124 : decode cX7_copy 124 = .ok (.invokevirtual 74, 3) := by decide +kernel
theorem dX7_copy_127 : decode cX7_copy 127 = .ok (.ireturn, 1) := by decide +kernel
theorem dX7_drop_0 : decode cX7_drop 0 = .ok (.iload_n 1, 1) := by decide +kernel
theorem dX7_drop_1 : decode cX7_drop 1 = .ok (.invokestatic 61, 3) := by decide +kernel
theorem dX7_drop_4 : decode cX7_drop 4 = .ok (.ifCond .ne 6, 3) := by decide +kernel
theorem dX7_drop_7 : decode cX7_drop 7 = .ok (.ldc 65, 2) := by decide +kernel
theorem dX7_drop_9 : decode cX7_drop 9 = .ok (.ireturn, 1) := by decide +kernel
theorem dX7_drop_10 : decode cX7_drop 10 = .ok (.aload_n 0, 1) := by decide +kernel
theorem dX7_drop_11 : decode cX7_drop 11 = .ok (.getfield 11, 3) := by decide +kernel
theorem dX7_drop_14 : decode cX7_drop 14 = .ok (.iload_n 1, 1) := by decide +kernel
theorem dX7_drop_15 : decode cX7_drop 15 = .ok (.aaload, 1) := by decide +kernel
theorem dX7_drop_16 : decode cX7_drop 16 = .ok (.astore_n 2, 1) := by decide +kernel
theorem dX7_drop_17 : decode cX7_drop 17 = .ok (.aload_n 2, 1) := by decide +kernel
theorem dX7_drop_18 : decode cX7_drop 18 = .ok (.getfield 77, 3) := by decide +kernel
theorem dX7_drop_21 : decode cX7_drop 21 = .ok (.ifCond .eq 9, 3) := by decide +kernel
theorem dX7_drop_24 : decode cX7_drop 24 = .ok (.aload_n 0, 1) := by decide +kernel
theorem dX7_drop_25 : decode cX7_drop 25 = .ok (.iconst 1, 1) := by decide +kernel
theorem dX7_drop_26 : decode cX7_drop 26 = .ok (.invokevirtual 66, 3) := by decide +kernel
theorem dX7_drop_29 : decode cX7_drop 29 = .ok (.ireturn, 1) := by decide +kernel
theorem dX7_drop_30 : decode cX7_drop 30 = .ok (.aload_n 2, 1) := by decide +kernel
theorem dX7_drop_31 : decode cX7_drop 31 = .ok (.iconst 1, 1) := by decide +kernel
theorem dX7_drop_32 : decode cX7_drop 32 = .ok (.putfield 77, 3) := by decide +kernel
theorem dX7_drop_35 : decode cX7_drop 35 = .ok (.aload_n 0, 1) := by decide +kernel
theorem dX7_drop_36 : decode cX7_drop 36 = .ok (.aload_n 2, 1) := by decide +kernel
theorem dX7_drop_37 : decode cX7_drop 37 = .ok (.getfield 102, 3) := by decide +kernel
theorem dX7_drop_40 : decode cX7_drop 40 = .ok (.invokevirtual 74, 3) := by decide +kernel
theorem dX7_drop_43 : decode cX7_drop 43 = .ok (.ireturn, 1) := by decide +kernel
theorem dX7_version_0 : decode cX7_version 0 = .ok (.iload_n 1, 1) := by decide +kernel
theorem dX7_version_1 : decode cX7_version 1 = .ok (.iconst 1, 1) := by decide +kernel
theorem dX7_version_2 : decode cX7_version 2 = .ok (.if_icmp .lt 20, 3) := by decide +kernel
theorem dX7_version_5 : decode cX7_version 5 = .ok (.iload_n 1, 1) := by decide +kernel
theorem dX7_version_6 : decode cX7_version 6 = .ok (.bipush 8, 2) := by decide +kernel
theorem dX7_version_8 : decode cX7_version 8 = .ok (.if_icmp .gt 14, 3) := by decide +kernel
theorem dX7_version_11 : decode cX7_version 11 = .ok (.iload_n 3, 1) := by decide +kernel
theorem dX7_version_12 : decode cX7_version 12 = .ok (.ifCond .lt 10, 3) := by decide +kernel
theorem dX7_version_15 : decode cX7_version 15 = .ok (.iload_n 3, 1) := by decide +kernel
theorem dX7_version_16 : decode cX7_version 16 = .ok (.sipush 256, 3) := by decide +kernel
theorem dX7_version_19 : decode cX7_version 19 = .ok (.if_icmp .lt 6, 3) := by decide +kernel
theorem dX7_version_22 : decode cX7_version 22 = .ok (.ldc 65, 2) := by decide +kernel
theorem dX7_version_24 : decode cX7_version 24 = .ok (.ireturn, 1) := by decide +kernel
theorem dX7_version_25 : decode cX7_version 25 = .ok (.iload_n 2, 1) := by decide +kernel
theorem dX7_version_26 : decode cX7_version 26 = .ok (.aload_n 0, 1) := by decide +kernel
theorem dX7_version_27 : decode cX7_version 27 = .ok (.invokevirtual 105, 3) := by decide +kernel
theorem dX7_version_30 : decode cX7_version 30 = .ok (.if_icmp .lt 11, 3) := by decide +kernel
theorem dX7_version_33 : decode cX7_version 33 = .ok (.iload_n 2, 1) := by decide +kernel
theorem dX7_version_34 : decode cX7_version 34 = .ok (.aload_n 0, 1) := by decide +kernel
theorem dX7_version_35 : decode cX7_version 35 = .ok (.getfield 109, 3) := by decide +kernel
theorem dX7_version_38 : decode cX7_version 38 = .ok (.if_icmp .le 6, 3) := by decide +kernel
theorem dX7_version_41 : decode cX7_version 41 = .ok (.ldc 65, 2) := by decide +kernel
theorem dX7_version_43 : decode cX7_version 43 = .ok (.ireturn, 1) := by decide +kernel
theorem dX7_version_44 : decode cX7_version 44 = .ok (.aload_n 0, 1) := by decide +kernel
theorem dX7_version_45 : decode cX7_version 45 = .ok (.getfield 109, 3) := by decide +kernel
theorem dX7_version_48 : decode cX7_version 48 = .ok (.bipush 10, 2) := by decide +kernel
theorem dX7_version_50 : decode cX7_version 50 = .ok (.if_icmp .lt 6, 3) := by decide +kernel
theorem dX7_version_53 : decode cX7_version 53 = .ok (.ldc 112, 2) := by decide +kernel
theorem dX7_version_55 : decode cX7_version 55 = .ok (.ireturn, 1) := by decide +kernel
theorem dX7_version_56 : decode cX7_version 56 = .ok (.aload_n 0, 1) := by decide +kernel
theorem dX7_version_57 : decode cX7_version 57 = .ok (.getfield 17, 3) := by decide +kernel
theorem dX7_version_60 : decode cX7_version 60 = .ok (.aload_n 0, 1) := by decide +kernel
theorem dX7_version_61 : decode cX7_version 61 = .ok (.getfield 109, 3) := by decide +kernel
theorem dX7_version_64 : decode cX7_version 64 = .ok (.aaload, 1) := by decide +kernel
theorem dX7_version_65 : decode cX7_version 65 = .ok (.iload_n 1, 1) := by decide +kernel
theorem dX7_version_66 : decode cX7_version 66 = .ok (.iload_n 2, 1) := by decide +kernel
theorem dX7_version_67 : decode cX7_version 67 = .ok (.iload_n 3, 1) := by decide +kernel
theorem dX7_version_68 : decode cX7_version 68 = .ok (.invokevirtual 113, 3) := by decide +kernel
theorem dX7_version_71 : decode cX7_version 71 = .ok (.aload_n 0, 1) := by decide +kernel
theorem dX7_version_72 : decode cX7_version 72 = .ok (.dup, 1) := by decide +kernel
theorem dX7_version_73 : decode cX7_version 73 = .ok (.getfield 109, 3) := by decide +kernel
theorem dX7_version_76 : decode cX7_version 76 = .ok (.iconst 1, 1) := by decide +kernel
theorem dX7_version_77 : decode cX7_version 77 = .ok (.iadd, 1) := by decide +kernel
theorem dX7_version_78 : decode cX7_version 78 = .ok (.putfield 109, 3) := by decide +kernel
theorem dX7_version_81 : decode cX7_version 81 = .ok (.aload_n 0, 1) := by decide +kernel
theorem dX7_version_82 : decode cX7_version 82 = .ok (.getfield 109, 3) := by decide +kernel
theorem dX7_version_85 : decode cX7_version 85 = .ok (.iconst 1, 1) := by decide +kernel
theorem dX7_version_86 : decode cX7_version 86 = .ok (.isub, 1) := by decide +kernel
theorem dX7_version_87 : decode cX7_version 87 = .ok (.ireturn, 1) := by decide +kernel
theorem dX7_step_0 : decode cX7_step 0 = .ok (.aload_n 0, 1) := by decide +kernel
theorem dX7_step_1 : decode cX7_step 1 = .ok (.iload_n 1, 1) := by decide +kernel
theorem dX7_step_2 : decode cX7_step 2 = .ok (.iload_n 2, 1) := by decide +kernel
theorem dX7_step_3 : decode cX7_step 3 = .ok (.invokevirtual 117, 3) := by decide +kernel
theorem dX7_step_6 : decode cX7_step 6 = .ok (.ifCond .eq 15, 3) := by decide +kernel
theorem dX7_step_9 : decode cX7_step 9 = .ok (.iload_n 3, 1) := by decide +kernel
theorem dX7_step_10 : decode cX7_step 10 = .ok (.iconst 1, 1) := by decide +kernel
theorem dX7_step_11 : decode cX7_step 11 = .ok (.if_icmp .lt 10, 3) := by decide +kernel
theorem dX7_step_14 : decode cX7_step 14 = .ok (.iload_n 3, 1) := by decide +kernel
theorem dX7_step_15 : decode cX7_step 15 = .ok (.sipush 1000, 3) := by decide +kernel
theorem dX7_step_18 : decode cX7_step 18 = .ok (.if_icmp .le 6, 3) := by decide +kernel
theorem dX7_step_21 : decode cX7_step 21 = .ok (.ldc 65, 2) := by decide +kernel
theorem dX7_step_23 : decode cX7_step 23 = .ok (.ireturn, 1) := by decide +kernel
theorem dX7_step_24 : decode cX7_step 24 = .ok (.aload_n 0, 1) := by decide +kernel
theorem dX7_step_25 : decode cX7_step 25 = .ok (.getfield 24, 3) := by decide +kernel
theorem dX7_step_28 : decode cX7_step 28 = .ok (.iload_n 1, 1) := by decide +kernel
theorem dX7_step_29 : decode cX7_step 29 = .ok (.iload_n 2, 1) := by decide +kernel
theorem dX7_step_30 : decode cX7_step 30 = .ok (.iload_n 3, 1) := by decide +kernel
theorem dX7_step_31 : decode cX7_step 31 = .ok (.invokevirtual 120, 3) := by decide +kernel
theorem dX7_step_34 : decode cX7_step 34 = .ok (.ireturn, 1) := by decide +kernel
theorem dX7_path_0 : decode cX7_path 0 = .ok (.aload_n 0, 1) := by decide +kernel
theorem dX7_path_1 : decode cX7_path 1 = .ok (.iload_n 1, 1) := by decide +kernel
theorem dX7_path_2 : decode cX7_path 2 = .ok (.iload_n 2, 1) := by decide +kernel
theorem dX7_path_3 : decode cX7_path 3 = .ok (.invokevirtual 117, 3) := by decide +kernel
theorem dX7_path_6 : decode cX7_path 6 = .ok (.ifCond .eq 12, 3) := by decide +kernel
theorem dX7_path_9 : decode cX7_path 9 = .ok (.iload_n 3, 1) := by decide +kernel
theorem dX7_path_10 : decode cX7_path 10 = .ok (.ifCond .lt 8, 3) := by decide +kernel
theorem dX7_path_13 : decode cX7_path 13 = .ok (.iload_n 3, 1) := by decide +kernel
theorem dX7_path_14 : decode cX7_path 14 = .ok (.iconst 1, 1) := by decide +kernel
theorem dX7_path_15 : decode cX7_path 15 = .ok (.if_icmp .le 6, 3) := by decide +kernel
theorem dX7_path_18 : decode cX7_path 18 = .ok (.ldc 65, 2) := by decide +kernel
theorem dX7_path_20 : decode cX7_path 20 = .ok (.ireturn, 1) := by decide +kernel
theorem dX7_path_21 : decode cX7_path 21 = .ok (.aload_n 0, 1) := by decide +kernel
theorem dX7_path_22 : decode cX7_path 22 = .ok (.getfield 24, 3) := by decide +kernel
theorem dX7_path_25 : decode cX7_path 25 = .ok (.iload_n 1, 1) := by decide +kernel
theorem dX7_path_26 : decode cX7_path 26 = .ok (.iload_n 2, 1) := by decide +kernel
theorem dX7_path_27 : decode cX7_path 27 = .ok (.invokevirtual 124, 3) := by decide +kernel
theorem dX7_path_30 : decode cX7_path 30 = .ok (.ifCond .ne 6, 3) := by decide +kernel
theorem dX7_path_33 : decode cX7_path 33 = .ok (.ldc 127, 2) := by decide +kernel
theorem dX7_path_35 : decode cX7_path 35 = .ok (.ireturn, 1) := by decide +kernel
theorem dX7_path_36 : decode cX7_path 36 = .ok (.iload_n 3, 1) := by decide +kernel
theorem dX7_path_37 : decode cX7_path 37 = .ok (.ifCond .ne 15, 3) := by decide +kernel
theorem dX7_path_40 : decode cX7_path 40 = .ok (.aload_n 0, 1) := by decide +kernel
theorem dX7_path_41 : decode cX7_path 41 = .ok (.getfield 24, 3) := by decide +kernel
theorem dX7_path_44 : decode cX7_path 44 = .ok (.getfield 128, 3) := by decide +kernel
theorem dX7_path_47 : decode cX7_path 47 = .ok (.iload_n 1, 1) := by decide +kernel
theorem dX7_path_48 : decode cX7_path 48 = .ok (.iaload, 1) := by decide +kernel
theorem dX7_path_49 : decode cX7_path 49 = .ok (.goto 12, 3) := by decide +kernel
theorem dX7_path_52 : decode cX7_path 52 = .ok (.aload_n 0, 1) := by decide +kernel
theorem dX7_path_53 : decode cX7_path 53 = .ok (.getfield 24, 3) := by decide +kernel
theorem dX7_path_56 : decode cX7_path 56 = .ok (.getfield 131, 3) := by decide +kernel
theorem dX7_path_59 : decode cX7_path 59 = .ok (.iload_n 1, 1) := by decide +kernel
theorem dX7_path_60 : decode cX7_path 60 = .ok (.iaload, 1) := by decide +kernel
theorem dX7_path_61 : decode cX7_path 61 = .ok (.ireturn, 1) := by decide +kernel
theorem dX7_on_0 : decode cX7_on 0 = .ok (.aload_n 0, 1) := by decide +kernel
theorem dX7_on_1 : decode cX7_on 1 = .ok (.iload_n 1, 1) := by decide +kernel
theorem dX7_on_2 : decode cX7_on 2 = .ok (.iload_n 2, 1) := by decide +kernel
theorem dX7_on_3 : decode cX7_on 3 = .ok (.invokevirtual 117, 3) := by decide +kernel
theorem dX7_on_6 : decode cX7_on 6 = .ok (.ifCond .ne 6, 3) := by decide +kernel
theorem dX7_on_9 : decode cX7_on 9 = .ok (.ldc 65, 2) := by decide +kernel
theorem dX7_on_11 : decode cX7_on 11 = .ok (.ireturn, 1) := by decide +kernel
theorem dX7_on_12 : decode cX7_on 12 = .ok (.aload_n 0, 1) := by decide +kernel
theorem dX7_on_13 : decode cX7_on 13 = .ok (.getfield 24, 3) := by decide +kernel
theorem dX7_on_16 : decode cX7_on 16 = .ok (.iload_n 1, 1) := by decide +kernel
theorem dX7_on_17 : decode cX7_on 17 = .ok (.iload_n 2, 1) := by decide +kernel
theorem dX7_on_18 : decode cX7_on 18 = .ok (.invokevirtual 124, 3) := by decide +kernel
theorem dX7_on_21 : decode cX7_on 21 = .ok (.ifCond .ne 6, 3) := by decide +kernel
theorem dX7_on_24 : decode cX7_on 24 = .ok (.ldc 127, 2) := by decide +kernel
theorem dX7_on_26 : decode cX7_on 26 = .ok (.ireturn, 1) := by decide +kernel
theorem dX7_on_27 : decode cX7_on 27 = .ok (.aload_n 0, 1) := by decide +kernel
theorem dX7_on_28 : decode cX7_on 28 = .ok (.getfield 24, 3) := by decide +kernel
theorem dX7_on_31 : decode cX7_on 31 = .ok (.iload_n 1, 1) := by decide +kernel
theorem dX7_on_32 : decode cX7_on 32 = .ok (.iload_n 3, 1) := by decide +kernel
theorem dX7_on_33 : decode cX7_on 33 = .ok (.invokevirtual 134, 3) := by decide +kernel
theorem dX7_on_36 : decode cX7_on 36 = .ok (.ireturn, 1) := by decide +kernel
theorem dX7_device_0 : decode cX7_device 0 = .ok (.iload_n 1, 1) := by decide +kernel
theorem dX7_device_1 : decode cX7_device 1 = .ok (.ifCond .lt 31, 3) := by decide +kernel
theorem dX7_device_4 : decode cX7_device 4 = .ok (.iload_n 1, 1) := by decide +kernel
theorem dX7_device_5 : decode cX7_device 5 = .ok (.bipush 8, 2) := by decide +kernel
theorem dX7_device_7 : decode cX7_device 7 = .ok (.if_icmp .ge 25, 3) := by decide +kernel
theorem dX7_device_10 : decode cX7_device 10 = .ok (.aload_n 0, 1) := by decide +kernel
theorem dX7_device_11 : decode cX7_device 11 = .ok (.iload_n 2, 1) := by decide +kernel
theorem dX7_device_12 : decode cX7_device 12 = .ok (.invokevirtual 137, 3) := by decide +kernel
theorem dX7_device_15 : decode cX7_device 15 = .ok (.ifCond .eq 17, 3) := by decide +kernel
theorem dX7_device_18 : decode cX7_device 18 = .ok (.iload_n 3, 1) := by decide +kernel
theorem dX7_device_19 : decode cX7_device 19 = .ok (.ldc 127, 2) := by decide +kernel
theorem dX7_device_21 : decode cX7_device 21 = .ok (.if_icmp .eq 14, 3) := by decide +kernel
theorem dX7_device_24 : decode cX7_device 24 = .ok (.aload_n 0, 1) := by decide +kernel
theorem dX7_device_25 : decode cX7_device 25 = .ok (.iload_n 3, 1) := by decide +kernel
theorem dX7_device_26 : decode cX7_device 26 = .ok (.invokevirtual 140, 3) := by decide +kernel
theorem dX7_device_29 : decode cX7_device 29 = .ok (.ifCond .ne 6, 3) := by decide +kernel
theorem dX7_device_32 : decode cX7_device 32 = .ok (.ldc 65, 2) := by decide +kernel
theorem dX7_device_34 : decode cX7_device 34 = .ok (.ireturn, 1) := by decide +kernel
theorem dX7_device_35 : decode cX7_device 35 = .ok (.aload_n 0, 1) := by decide +kernel
theorem dX7_device_36 : decode cX7_device 36 = .ok (.getfield 17, 3) := by decide +kernel
theorem dX7_device_39 : decode cX7_device 39 = .ok (.iload_n 2, 1) := by decide +kernel
theorem dX7_device_40 : decode cX7_device 40 = .ok (.aaload, 1) := by decide +kernel
theorem dX7_device_41 : decode cX7_device 41 = .ok (.iload_n 1, 1) := by decide +kernel
theorem dX7_device_42 : decode cX7_device 42 = .ok (.invokevirtual 143, 3) := by decide +kernel
theorem dX7_device_45 : decode cX7_device 45 = .ok (.ifCond .eq 6, 3) := by decide +kernel
theorem dX7_device_48 : decode cX7_device 48 = .ok (.ldc 146, 2) := by decide +kernel
theorem dX7_device_50 : decode cX7_device 50 = .ok (.ireturn, 1) := by decide +kernel
theorem dX7_device_51 : decode cX7_device 51 = .ok (.aload_n 0, 1) := by decide +kernel
theorem dX7_device_52 : decode cX7_device 52 = .ok (.getfield 147, 3) := by decide +kernel
theorem dX7_device_55 : decode cX7_device 55 = .ok (.bipush 30, 2) := by decide +kernel
theorem dX7_device_57 : decode cX7_device 57 = .ok (.if_icmp .lt 6, 3) := by decide +kernel
theorem dX7_device_60 : decode cX7_device 60 = .ok (.ldc 112, 2) := by decide +kernel
theorem dX7_device_62 : decode cX7_device 62 = .ok (.ireturn, 1) := by decide +kernel
theorem dX7_device_63 : decode cX7_device 63 = .ok (.aload_n 0, 1) := by decide +kernel
theorem dX7_device_64 : decode cX7_device 64 = .ok (.getfield 30, 3) := by decide +kernel
theorem dX7_device_67 : decode cX7_device 67 = .ok (.aload_n 0, 1) := by decide +kernel
theorem dX7_device_68 : decode cX7_device 68 = .ok (.getfield 147, 3) := by decide +kernel
theorem dX7_device_71 : decode cX7_device 71 = .ok (.aaload, 1) := by decide +kernel
theorem dX7_device_72 : decode cX7_device 72 = .ok (.iload_n 1, 1) := by decide +kernel
theorem dX7_device_73 : decode cX7_device 73 = .ok (.aload_n 0, 1) := by decide +kernel
theorem dX7_device_74 : decode cX7_device 74 = .ok (.getfield 17, 3) := by decide +kernel
theorem dX7_device_77 : decode cX7_device 77 = .ok (.iload_n 2, 1) := by decide +kernel
theorem dX7_device_78 : decode cX7_device 78 = .ok (.aaload, 1) := by decide +kernel
theorem dX7_device_79 : decode cX7_device 79 = .ok (.iload_n 3, 1) := by decide +kernel
theorem dX7_device_80 : decode cX7_device 80 = .ok (.ldc 127, 2) := by decide +kernel
theorem dX7_device_82 : decode cX7_device 82 = .ok (.if_icmp .ne 7, 3) := by decide +kernel
theorem dX7_device_85 : decode cX7_device 85 = .ok (.aconst_null, 1) := by decide +kernel
theorem dX7_device_86 : decode cX7_device 86 = .ok (.goto 9, 3) := by decide +kernel
theorem dX7_device_89 : decode cX7_device 89 = .ok (.aload_n 0, 1) := by decide +kernel
theorem dX7_device_90 : decode cX7_device 90 = .ok (.getfield 30, 3) := by decide +kernel
theorem dX7_device_93 : decode cX7_device 93 = .ok (.iload_n 3, 1) := by decide +kernel
theorem dX7_device_94 : decode cX7_device 94 = .ok (.aaload, 1) := by decide +kernel
theorem dX7_device_95 : decode cX7_device 95 = .ok (.invokevirtual 150, 3) := by decide +kernel
theorem dX7_device_98 : decode cX7_device 98 = .ok (.aload_n 0, 1) := by decide +kernel
theorem dX7_device_99 : decode cX7_device 99 = .ok (.dup, 1) := by decide +kernel
theorem dX7_device_100 : decode cX7_device 100 = .ok (.getfield 147, 3) := by decide +kernel
theorem dX7_device_103 : decode cX7_device 103 = .ok (.iconst 1, 1) := by decide +kernel
theorem dX7_device_104 : decode cX7_device 104 = .ok (.iadd, 1) := by decide +kernel
theorem dX7_device_105 : decode cX7_device 105 = .ok (.putfield 147, 3) := by decide +kernel
theorem dX7_device_108 : decode cX7_device 108 = .ok (.aload_n 0, 1) := by decide +kernel
theorem dX7_device_109 : decode cX7_device 109 = .ok (.getfield 147, 3) := by decide +kernel
theorem dX7_device_112 : decode cX7_device 112 = .ok (.iconst 1, 1) := by decide +kernel
theorem dX7_device_113 : decode cX7_device 113 = .ok (.isub, 1) := by decide +kernel
theorem dX7_device_114 : decode cX7_device 114 = .ok (.ireturn, 1) := by decide +kernel
theorem dX7_told_0 : decode cX7_told 0 = .ok (.aload_n 0, 1) := by decide +kernel
theorem dX7_told_1 : decode cX7_told 1 = .ok (.iload_n 1, 1) := by decide +kernel
theorem dX7_told_2 : decode cX7_told 2 = .ok (.invokevirtual 140, 3) := by decide +kernel
theorem dX7_told_5 : decode cX7_told 5 = .ok (.ifCond .ne 6, 3) := by decide +kernel
theorem dX7_told_8 : decode cX7_told 8 = .ok (.ldc 65, 2) := by decide +kernel
theorem dX7_told_10 : decode cX7_told 10 = .ok (.ireturn, 1) := by decide +kernel
theorem dX7_told_11 : decode cX7_told 11 = .ok (.aload_n 0, 1) := by decide +kernel
theorem dX7_told_12 : decode cX7_told 12 = .ok (.getfield 30, 3) := by decide +kernel
theorem dX7_told_15 : decode cX7_told 15 = .ok (.iload_n 1, 1) := by decide +kernel
theorem dX7_told_16 : decode cX7_told 16 = .ok (.aaload, 1) := by decide +kernel
theorem dX7_told_17 : decode cX7_told 17 = .ok (.astore_n 3, 1) := by decide +kernel
theorem dX7_told_18 : decode cX7_told 18 = .ok (.iload_n 2, 1) := by decide +kernel
theorem dX7_told_19 : decode cX7_told 19 = .ok (.tableswitch 112 0 8 #[49, 57, 62, 70, 78, 83, 88, 93, 99], 49) := by decide +kernel
theorem dX7_told_68 : decode cX7_told 68 = .ok (.aload_n 3, 1) := by decide +kernel
theorem dX7_told_69 : decode cX7_told 69 = .ok (.getfield 154, 3) := by decide +kernel
theorem dX7_told_72 : decode cX7_told 72 = .ok (.invokevirtual 158, 3) := by decide +kernel
theorem dX7_told_75 : decode cX7_told 75 = .ok (.ireturn, 1) := by decide +kernel
theorem dX7_told_76 : decode cX7_told 76 = .ok (.aload_n 3, 1) := by decide +kernel
theorem dX7_told_77 : decode cX7_told 77 = .ok (.getfield 163, 3) := by decide +kernel
theorem dX7_told_80 : decode cX7_told 80 = .ok (.ireturn, 1) := by decide +kernel
theorem dX7_told_81 : decode cX7_told 81 = .ok (.aload_n 3, 1) := by decide +kernel
theorem dX7_told_82 : decode cX7_told 82 = .ok (.getfield 166, 3) := by decide +kernel
theorem dX7_told_85 : decode cX7_told 85 = .ok (.invokevirtual 158, 3) := by decide +kernel
theorem dX7_told_88 : decode cX7_told 88 = .ok (.ireturn, 1) := by decide +kernel
theorem dX7_told_89 : decode cX7_told 89 = .ok (.aload_n 3, 1) := by decide +kernel
theorem dX7_told_90 : decode cX7_told 90 = .ok (.getfield 166, 3) := by decide +kernel
theorem dX7_told_93 : decode cX7_told 93 = .ok (.getfield 169, 3) := by decide +kernel
theorem dX7_told_96 : decode cX7_told 96 = .ok (.ireturn, 1) := by decide +kernel
theorem dX7_told_97 : decode cX7_told 97 = .ok (.aload_n 3, 1) := by decide +kernel
theorem dX7_told_98 : decode cX7_told 98 = .ok (.getfield 172, 3) := by decide +kernel
theorem dX7_told_101 : decode cX7_told 101 = .ok (.ireturn, 1) := by decide +kernel
theorem dX7_told_102 : decode cX7_told 102 = .ok (.aload_n 3, 1) := by decide +kernel
theorem dX7_told_103 : decode cX7_told 103 = .ok (.getfield 175, 3) := by decide +kernel
theorem dX7_told_106 : decode cX7_told 106 = .ok (.ireturn, 1) := by decide +kernel
theorem dX7_told_107 : decode cX7_told 107 = .ok (.aload_n 3, 1) := by decide +kernel
theorem dX7_told_108 : decode cX7_told 108 = .ok (.getfield 178, 3) := by decide +kernel
theorem dX7_told_111 : decode cX7_told 111 = .ok (.ireturn, 1) := by decide +kernel
theorem dX7_told_112 : decode cX7_told 112 = .ok (.aload_n 0, 1) := by decide +kernel
theorem dX7_told_113 : decode cX7_told 113 = .ok (.aload_n 3, 1) := by decide +kernel
theorem dX7_told_114 : decode cX7_told 114 = .ok (.invokevirtual 181, 3) := by decide +kernel
theorem dX7_told_117 : decode cX7_told 117 = .ok (.ireturn, 1) := by decide +kernel
theorem dX7_told_118 : decode cX7_told 118 = .ok (.aload_n 3, 1) := by decide +kernel
theorem dX7_told_119 : decode cX7_told 119 = .ok (.invokevirtual 185, 3) := by decide +kernel
theorem dX7_told_122 : decode cX7_told 122 = .ok (.ifCond .eq 7, 3) := by decide +kernel
theorem dX7_told_125 : decode cX7_told 125 = .ok (.iconst 1, 1) := by decide +kernel
theorem dX7_told_126 : decode cX7_told 126 = .ok (.goto 4, 3) := by decide +kernel
theorem dX7_told_129 : decode cX7_told 129 = .ok (.iconst 0, 1) := by decide +kernel
theorem dX7_told_130 : decode cX7_told 130 = .ok (.ireturn, 1) := by decide +kernel
theorem dX7_told_131 : decode cX7_told 131 = .ok (.ldc 65, 2) := by decide +kernel
theorem dX7_told_133 : decode cX7_told 133 = .ok (.ireturn, 1) := by decide +kernel
theorem dX7_update_0 : decode cX7_update 0 = .ok (.aload_n 0, 1) := by decide +kernel
theorem dX7_update_1 : decode cX7_update 1 = .ok (.iload_n 1, 1) := by decide +kernel
theorem dX7_update_2 : decode cX7_update 2 = .ok (.invokevirtual 140, 3) := by decide +kernel
theorem dX7_update_5 : decode cX7_update 5 = .ok (.ifCond .eq 11, 3) := by decide +kernel
theorem dX7_update_8 : decode cX7_update 8 = .ok (.aload_n 0, 1) := by decide +kernel
theorem dX7_update_9 : decode cX7_update 9 = .ok (.iload_n 2, 1) := by decide +kernel
theorem dX7_update_10 : decode cX7_update 10 = .ok (.invokevirtual 137, 3) := by decide +kernel
theorem dX7_update_13 : decode cX7_update 13 = .ok (.ifCond .ne 6, 3) := by decide +kernel
theorem dX7_update_16 : decode cX7_update 16 = .ok (.ldc 65, 2) := by decide +kernel
theorem dX7_update_18 : decode cX7_update 18 = .ok (.ireturn, 1) := by decide +kernel
theorem dX7_update_19 : decode cX7_update 19 = .ok (.iload_n 2, 1) := by decide +kernel
theorem dX7_update_20 : decode cX7_update 20 = .ok (.aload_n 0, 1) := by decide +kernel
theorem dX7_update_21 : decode cX7_update 21 = .ok (.getfield 30, 3) := by decide +kernel
theorem dX7_update_24 : decode cX7_update 24 = .ok (.iload_n 1, 1) := by decide +kernel
theorem dX7_update_25 : decode cX7_update 25 = .ok (.aaload, 1) := by decide +kernel
theorem dX7_update_26 : decode cX7_update 26 = .ok (.invokestatic 189, 3) := by decide +kernel
theorem dX7_update_29 : decode cX7_update 29 = .ok (.ifCond .ne 6, 3) := by decide +kernel
theorem dX7_update_32 : decode cX7_update 32 = .ok (.ldc 146, 2) := by decide +kernel
theorem dX7_update_34 : decode cX7_update 34 = .ok (.ireturn, 1) := by decide +kernel
theorem dX7_update_35 : decode cX7_update 35 = .ok (.aload_n 0, 1) := by decide +kernel
theorem dX7_update_36 : decode cX7_update 36 = .ok (.aload_n 0, 1) := by decide +kernel
theorem dX7_update_37 : decode cX7_update 37 = .ok (.getfield 30, 3) := by decide +kernel
theorem dX7_update_40 : decode cX7_update 40 = .ok (.iload_n 1, 1) := by decide +kernel
theorem dX7_update_41 : decode cX7_update 41 = .ok (.aaload, 1) := by decide +kernel
theorem dX7_update_42 : decode cX7_update 42 = .ok (.aload_n 0, 1) := by decide +kernel
theorem dX7_update_43 : decode cX7_update 43 = .ok (.getfield 17, 3) := by decide +kernel
theorem dX7_update_46 : decode cX7_update 46 = .ok (.iload_n 2, 1) := by decide +kernel
theorem dX7_update_47 : decode cX7_update 47 = .ok (.aaload, 1) := by decide +kernel
theorem dX7_update_48 : decode cX7_update 48 = .ok (.invokevirtual 193, 3) := by decide +kernel
theorem dX7_update_51 : decode cX7_update 51 = .ok (.ifCond .eq 7, 3) := by decide +kernel
theorem dX7_update_54 : decode cX7_update 54 = .ok (.iconst 1, 1) := by decide +kernel
theorem dX7_update_55 : decode cX7_update 55 = .ok (.goto 4, 3) := by decide +kernel
theorem dX7_update_58 : decode cX7_update 58 = .ok (.iconst 0, 1) := by decide +kernel
theorem dX7_update_59 : decode cX7_update 59 = .ok (.ireturn, 1) := by decide +kernel
theorem dX7_acts_0 : decode cX7_acts 0 = .ok (.aload_n 0, 1) := by decide +kernel
theorem dX7_acts_1 : decode cX7_acts 1 = .ok (.iload_n 1, 1) := by decide +kernel
theorem dX7_acts_2 : decode cX7_acts 2 = .ok (.invokevirtual 140, 3) := by decide +kernel
theorem dX7_acts_5 : decode cX7_acts 5 = .ok (.ifCond .eq 11, 3) := by decide +kernel
theorem dX7_acts_8 : decode cX7_acts 8 = .ok (.aload_n 0, 1) := by decide +kernel
theorem dX7_acts_9 : decode cX7_acts 9 = .ok (.iload_n 2, 1) := by decide +kernel
theorem dX7_acts_10 : decode cX7_acts 10 = .ok (.invokevirtual 137, 3) := by decide +kernel
theorem dX7_acts_13 : decode cX7_acts 13 = .ok (.ifCond .ne 6, 3) := by decide +kernel
theorem dX7_acts_16 : decode cX7_acts 16 = .ok (.ldc 65, 2) := by decide +kernel
theorem dX7_acts_18 : decode cX7_acts 18 = .ok (.ireturn, 1) := by decide +kernel
theorem dX7_acts_19 : decode cX7_acts 19 = .ok (.iload_n 2, 1) := by decide +kernel
theorem dX7_acts_20 : decode cX7_acts 20 = .ok (.aload_n 0, 1) := by decide +kernel
theorem dX7_acts_21 : decode cX7_acts 21 = .ok (.getfield 30, 3) := by decide +kernel
theorem dX7_acts_24 : decode cX7_acts 24 = .ok (.iload_n 1, 1) := by decide +kernel
theorem dX7_acts_25 : decode cX7_acts 25 = .ok (.aaload, 1) := by decide +kernel
theorem dX7_acts_26 : decode cX7_acts 26 = .ok (.invokestatic 189, 3) := by decide +kernel
theorem dX7_acts_29 : decode cX7_acts 29 = .ok (.ifCond .ne 6, 3) := by decide +kernel
theorem dX7_acts_32 : decode cX7_acts 32 = .ok (.ldc 146, 2) := by decide +kernel
theorem dX7_acts_34 : decode cX7_acts 34 = .ok (.ireturn, 1) := by decide +kernel
theorem dX7_acts_35 : decode cX7_acts 35 = .ok (.aload_n 0, 1) := by decide +kernel
theorem dX7_acts_36 : decode cX7_acts 36 = .ok (.getfield 37, 3) := by decide +kernel
theorem dX7_acts_39 : decode cX7_acts 39 = .ok (.aload_n 0, 1) := by decide +kernel
theorem dX7_acts_40 : decode cX7_acts 40 = .ok (.getfield 30, 3) := by decide +kernel
theorem dX7_acts_43 : decode cX7_acts 43 = .ok (.iload_n 1, 1) := by decide +kernel
theorem dX7_acts_44 : decode cX7_acts 44 = .ok (.aaload, 1) := by decide +kernel
theorem dX7_acts_45 : decode cX7_acts 45 = .ok (.invokevirtual 197, 3) := by decide +kernel
theorem dX7_acts_48 : decode cX7_acts 48 = .ok (.aload_n 0, 1) := by decide +kernel
theorem dX7_acts_49 : decode cX7_acts 49 = .ok (.getfield 37, 3) := by decide +kernel
theorem dX7_acts_52 : decode cX7_acts 52 = .ok (.aload_n 0, 1) := by decide +kernel
theorem dX7_acts_53 : decode cX7_acts 53 = .ok (.getfield 17, 3) := by decide +kernel
theorem dX7_acts_56 : decode cX7_acts 56 = .ok (.iload_n 2, 1) := by decide +kernel
theorem dX7_acts_57 : decode cX7_acts 57 = .ok (.aaload, 1) := by decide +kernel
theorem dX7_acts_58 : decode cX7_acts 58 = .ok (.bipush 14, 2) := by decide +kernel
theorem dX7_acts_60 : decode cX7_acts 60 = .ok (.invokevirtual 201, 3) := by decide +kernel
theorem dX7_acts_63 : decode cX7_acts 63 = .ok (.ireturn, 1) := by decide +kernel
theorem dX7_power_0 : decode cX7_power 0 = .ok (.aload_n 0, 1) := by decide +kernel
theorem dX7_power_1 : decode cX7_power 1 = .ok (.iload_n 1, 1) := by decide +kernel
theorem dX7_power_2 : decode cX7_power 2 = .ok (.iload_n 2, 1) := by decide +kernel
theorem dX7_power_3 : decode cX7_power 3 = .ok (.iload_n 3, 1) := by decide +kernel
theorem dX7_power_4 : decode cX7_power 4 = .ok (.invokevirtual 205, 3) := by decide +kernel
theorem dX7_power_7 : decode cX7_power 7 = .ok (.istore 4, 2) := by decide +kernel
theorem dX7_power_9 : decode cX7_power 9 = .ok (.iload 4, 2) := by decide +kernel
theorem dX7_power_11 : decode cX7_power 11 = .ok (.ifCond .eq 6, 3) := by decide +kernel
theorem dX7_power_14 : decode cX7_power 14 = .ok (.iload 4, 2) := by decide +kernel
theorem dX7_power_16 : decode cX7_power 16 = .ok (.ireturn, 1) := by decide +kernel
theorem dX7_power_17 : decode cX7_power 17 = .ok (.aload_n 0, 1) := by decide +kernel
theorem dX7_power_18 : decode cX7_power 18 = .ok (.getfield 30, 3) := by decide +kernel
theorem dX7_power_21 : decode cX7_power 21 = .ok (.iload_n 1, 1) := by decide +kernel
theorem dX7_power_22 : decode cX7_power 22 = .ok (.aaload, 1) := by decide +kernel
theorem dX7_power_23 : decode cX7_power 23 = .ok (.astore 5, 2) := by decide +kernel
theorem dX7_power_25 : decode cX7_power 25 = .ok (.aload 5, 2) := by decide +kernel
theorem dX7_power_27 : decode cX7_power 27 = .ok (.aload_n 0, 1) := by decide +kernel
theorem dX7_power_28 : decode cX7_power 28 = .ok (.getfield 37, 3) := by decide +kernel
theorem dX7_power_31 : decode cX7_power 31 = .ok (.invokevirtual 197, 3) := by decide +kernel
theorem dX7_power_34 : decode cX7_power 34 = .ok (.aload_n 0, 1) := by decide +kernel
theorem dX7_power_35 : decode cX7_power 35 = .ok (.aload 5, 2) := by decide +kernel
theorem dX7_power_37 : decode cX7_power 37 = .ok (.aload_n 0, 1) := by decide +kernel
theorem dX7_power_38 : decode cX7_power 38 = .ok (.getfield 17, 3) := by decide +kernel
theorem dX7_power_41 : decode cX7_power 41 = .ok (.iload_n 2, 1) := by decide +kernel
theorem dX7_power_42 : decode cX7_power 42 = .ok (.aaload, 1) := by decide +kernel
theorem dX7_power_43 : decode cX7_power 43 = .ok (.invokevirtual 208, 3) := by decide +kernel
theorem dX7_power_46 : decode cX7_power 46 = .ok (.ifCond .eq 7, 3) := by decide +kernel
theorem dX7_power_49 : decode cX7_power 49 = .ok (.iconst 1, 1) := by decide +kernel
theorem dX7_power_50 : decode cX7_power 50 = .ok (.goto 4, 3) := by decide +kernel
theorem dX7_power_53 : decode cX7_power 53 = .ok (.iconst 0, 1) := by decide +kernel
theorem dX7_power_54 : decode cX7_power 54 = .ok (.ireturn, 1) := by decide +kernel
theorem dX7_cut_0 : decode cX7_cut 0 = .ok (.iload 4, 2) := by decide +kernel
theorem dX7_cut_2 : decode cX7_cut 2 = .ok (.ifCond .lt 9, 3) := by decide +kernel
theorem dX7_cut_5 : decode cX7_cut 5 = .ok (.iload 4, 2) := by decide +kernel
theorem dX7_cut_7 : decode cX7_cut 7 = .ok (.iconst 3, 1) := by decide +kernel
theorem dX7_cut_8 : decode cX7_cut 8 = .ok (.if_icmp .le 6, 3) := by decide +kernel
theorem dX7_cut_11 : decode cX7_cut 11 = .ok (.ldc 65, 2) := by decide +kernel
theorem dX7_cut_13 : decode cX7_cut 13 = .ok (.ireturn, 1) := by decide +kernel
theorem dX7_cut_14 : decode cX7_cut 14 = .ok (.aload_n 0, 1) := by decide +kernel
theorem dX7_cut_15 : decode cX7_cut 15 = .ok (.iload_n 1, 1) := by decide +kernel
theorem dX7_cut_16 : decode cX7_cut 16 = .ok (.iload_n 2, 1) := by decide +kernel
theorem dX7_cut_17 : decode cX7_cut 17 = .ok (.iload_n 3, 1) := by decide +kernel
theorem dX7_cut_18 : decode cX7_cut 18 = .ok (.invokevirtual 205, 3) := by decide +kernel
theorem dX7_cut_21 : decode cX7_cut 21 = .ok (.istore 5, 2) := by decide +kernel
theorem dX7_cut_23 : decode cX7_cut 23 = .ok (.iload 5, 2) := by decide +kernel
theorem dX7_cut_25 : decode cX7_cut 25 = .ok (.ifCond .eq 6, 3) := by decide +kernel
theorem dX7_cut_28 : decode cX7_cut 28 = .ok (.iload 5, 2) := by decide +kernel
theorem dX7_cut_30 : decode cX7_cut 30 = .ok (.ireturn, 1) := by decide +kernel
theorem dX7_cut_31 : decode cX7_cut 31 = .ok (.iload 4, 2) := by decide +kernel
theorem dX7_cut_33 : decode cX7_cut 33 = .ok (.tableswitch 65 0 2 #[27, 43, 54], 27) := by decide +kernel
theorem dX7_cut_60 : decode cX7_cut 60 = .ok (.aload_n 0, 1) := by decide +kernel
theorem dX7_cut_61 : decode cX7_cut 61 = .ok (.getfield 37, 3) := by decide +kernel
theorem dX7_cut_64 : decode cX7_cut 64 = .ok (.invokevirtual 185, 3) := by decide +kernel
theorem dX7_cut_67 : decode cX7_cut 67 = .ok (.ifCond .eq 7, 3) := by decide +kernel
theorem dX7_cut_70 : decode cX7_cut 70 = .ok (.iconst 1, 1) := by decide +kernel
theorem dX7_cut_71 : decode cX7_cut 71 = .ok (.goto 4, 3) := by decide +kernel
theorem dX7_cut_74 : decode cX7_cut 74 = .ok (.iconst 0, 1) := by decide +kernel
theorem dX7_cut_75 : decode cX7_cut 75 = .ok (.ireturn, 1) := by decide +kernel
theorem dX7_cut_76 : decode cX7_cut 76 = .ok (.aload_n 0, 1) := by decide +kernel
theorem dX7_cut_77 : decode cX7_cut 77 = .ok (.getfield 37, 3) := by decide +kernel
theorem dX7_cut_80 : decode cX7_cut 80 = .ok (.getfield 154, 3) := by decide +kernel
theorem dX7_cut_83 : decode cX7_cut 83 = .ok (.invokevirtual 158, 3) := by decide +kernel
theorem dX7_cut_86 : decode cX7_cut 86 = .ok (.ireturn, 1) := by decide +kernel
theorem dX7_cut_87 : decode cX7_cut 87 = .ok (.aload_n 0, 1) := by decide +kernel
theorem dX7_cut_88 : decode cX7_cut 88 = .ok (.getfield 37, 3) := by decide +kernel
theorem dX7_cut_91 : decode cX7_cut 91 = .ok (.getfield 166, 3) := by decide +kernel
theorem dX7_cut_94 : decode cX7_cut 94 = .ok (.getfield 169, 3) := by decide +kernel
theorem dX7_cut_97 : decode cX7_cut 97 = .ok (.ireturn, 1) := by decide +kernel
theorem dX7_cut_98 : decode cX7_cut 98 = .ok (.aload_n 0, 1) := by decide +kernel
theorem dX7_cut_99 : decode cX7_cut 99 = .ok (.getfield 37, 3) := by decide +kernel
theorem dX7_cut_102 : decode cX7_cut 102 = .ok (.getfield 175, 3) := by decide +kernel
theorem dX7_cut_105 : decode cX7_cut 105 = .ok (.ireturn, 1) := by decide +kernel
theorem dX7_seed_0 : decode cX7_seed 0 = .ok (.aload_n 0, 1) := by decide +kernel
theorem dX7_seed_1 : decode cX7_seed 1 = .ok (.iload_n 1, 1) := by decide +kernel
theorem dX7_seed_2 : decode cX7_seed 2 = .ok (.putfield 211, 3) := by decide +kernel
theorem dX7_seed_5 : decode cX7_seed 5 = .ok (.iconst 1, 1) := by decide +kernel
theorem dX7_seed_6 : decode cX7_seed 6 = .ok (.ireturn, 1) := by decide +kernel
theorem dX7_campaign_0 : decode cX7_campaign 0 = .ok (.aload_n 0, 1) := by decide +kernel
theorem dX7_campaign_1 : decode cX7_campaign 1 = .ok (.iload_n 1, 1) := by decide +kernel
theorem dX7_campaign_2 : decode cX7_campaign 2 = .ok (.invokevirtual 137, 3) := by decide +kernel
theorem dX7_campaign_5 : decode cX7_campaign 5 = .ok (.ifCond .eq 35, 3) := by decide +kernel
theorem dX7_campaign_8 : decode cX7_campaign 8 = .ok (.iload_n 2, 1) := by decide +kernel
theorem dX7_campaign_9 : decode cX7_campaign 9 = .ok (.invokestatic 61, 3) := by decide +kernel
theorem dX7_campaign_12 : decode cX7_campaign 12 = .ok (.ifCond .eq 28, 3) := by decide +kernel
theorem dX7_campaign_15 : decode cX7_campaign 15 = .ok (.iload 4, 2) := by decide +kernel
theorem dX7_campaign_17 : decode cX7_campaign 17 = .ok (.iconst 1, 1) := by decide +kernel
theorem dX7_campaign_18 : decode cX7_campaign 18 = .ok (.if_icmp .lt 22, 3) := by decide +kernel
theorem dX7_campaign_21 : decode cX7_campaign 21 = .ok (.iload 4, 2) := by decide +kernel
theorem dX7_campaign_23 : decode cX7_campaign 23 = .ok (.bipush 6, 2) := by decide +kernel
theorem dX7_campaign_25 : decode cX7_campaign 25 = .ok (.if_icmp .gt 15, 3) := by decide +kernel
theorem dX7_campaign_28 : decode cX7_campaign 28 = .ok (.iload 5, 2) := by decide +kernel
theorem dX7_campaign_30 : decode cX7_campaign 30 = .ok (.ifCond .lt 10, 3) := by decide +kernel
theorem dX7_campaign_33 : decode cX7_campaign 33 = .ok (.iload 5, 2) := by decide +kernel
theorem dX7_campaign_35 : decode cX7_campaign 35 = .ok (.bipush 10, 2) := by decide +kernel
theorem dX7_campaign_37 : decode cX7_campaign 37 = .ok (.if_icmp .le 6, 3) := by decide +kernel
theorem dX7_campaign_40 : decode cX7_campaign 40 = .ok (.ldc 65, 2) := by decide +kernel
theorem dX7_campaign_42 : decode cX7_campaign 42 = .ok (.ireturn, 1) := by decide +kernel
theorem dX7_campaign_43 : decode cX7_campaign 43 = .ok (.aload_n 0, 1) := by decide +kernel
theorem dX7_campaign_44 : decode cX7_campaign 44 = .ok (.getfield 11, 3) := by decide +kernel
theorem dX7_campaign_47 : decode cX7_campaign 47 = .ok (.iload_n 2, 1) := by decide +kernel
theorem dX7_campaign_48 : decode cX7_campaign 48 = .ok (.aaload, 1) := by decide +kernel
theorem dX7_campaign_49 : decode cX7_campaign 49 = .ok (.astore 6, 2) := by decide +kernel
theorem dX7_campaign_51 : decode cX7_campaign 51 = .ok (.aload 6, 2) := by decide +kernel
theorem dX7_campaign_53 : decode cX7_campaign 53 = .ok (.getfield 77, 3) := by decide +kernel
theorem dX7_campaign_56 : decode cX7_campaign 56 = .ok (.ifCond .eq 9, 3) := by decide +kernel
theorem dX7_campaign_59 : decode cX7_campaign 59 = .ok (.aload_n 0, 1) := by decide +kernel
theorem dX7_campaign_60 : decode cX7_campaign 60 = .ok (.iconst 1, 1) := by decide +kernel
theorem dX7_campaign_61 : decode cX7_campaign 61 = .ok (.invokevirtual 66, 3) := by decide +kernel
theorem dX7_campaign_64 : decode cX7_campaign 64 = .ok (.ireturn, 1) := by decide +kernel
theorem dX7_campaign_65 : decode cX7_campaign 65 = .ok (.aload 6, 2) := by decide +kernel
theorem dX7_campaign_67 : decode cX7_campaign 67 = .ok (.iload_n 3, 1) := by decide +kernel
theorem dX7_campaign_68 : decode cX7_campaign 68 = .ok (.iload 4, 2) := by decide +kernel
theorem dX7_campaign_70 : decode cX7_campaign 70 = .ok (.invokevirtual 81, 3) := by decide +kernel
theorem dX7_campaign_73 : decode cX7_campaign 73 = .ok (.ifCond .ne 9, 3) := by decide +kernel
theorem dX7_campaign_76 : decode cX7_campaign 76 = .ok (.aload_n 0, 1) := by decide +kernel
theorem dX7_campaign_77 : decode cX7_campaign 77 = .ok (.iconst 2, 1) := by decide +kernel
theorem dX7_campaign_78 : decode cX7_campaign 78 = .ok (.invokevirtual 66, 3) := by decide +kernel
theorem dX7_campaign_81 : decode cX7_campaign 81 = .ok (.ireturn, 1) := by decide +kernel
theorem dX7_campaign_82 : decode cX7_campaign 82 = .ok (.aload 6, 2) := by decide +kernel
theorem dX7_campaign_84 : decode cX7_campaign 84 = .ok (.iload_n 3, 1) := by decide +kernel
theorem dX7_campaign_85 : decode cX7_campaign 85 = .ok (.iload 4, 2) := by decide +kernel
theorem dX7_campaign_87 : decode cX7_campaign 87 = .ok (.invokevirtual 214, 3) := by decide +kernel
theorem dX7_campaign_90 : decode cX7_campaign 90 = .ok (.ifCond .ne 6, 3) := by decide +kernel
theorem dX7_campaign_93 : decode cX7_campaign 93 = .ok (.ldc 65, 2) := by decide +kernel
theorem dX7_campaign_95 : decode cX7_campaign 95 = .ok (.ireturn, 1) := by decide +kernel
theorem dX7_campaign_96 : decode cX7_campaign 96 = .ok (.aload_n 0, 1) := by decide +kernel
theorem dX7_campaign_97 : decode cX7_campaign 97 = .ok (.getfield 44, 3) := by decide +kernel
theorem dX7_campaign_100 : decode cX7_campaign 100 = .ok (.aload_n 0, 1) := by decide +kernel
theorem dX7_campaign_101 : decode cX7_campaign 101 = .ok (.getfield 17, 3) := by decide +kernel
theorem dX7_campaign_104 : decode cX7_campaign 104 = .ok (.iload_n 1, 1) := by decide +kernel
theorem dX7_campaign_105 : decode cX7_campaign 105 = .ok (.aaload, 1) := by decide +kernel
theorem dX7_campaign_106 : decode cX7_campaign 106 = .ok (.aload 6, 2) := by decide +kernel
theorem dX7_campaign_108 : decode cX7_campaign 108 = .ok (.iload_n 3, 1) := by decide +kernel
theorem dX7_campaign_109 : decode cX7_campaign 109 = .ok (.iload 4, 2) := by decide +kernel
theorem dX7_campaign_111 : decode cX7_campaign 111 = .ok (.iload 5, 2) := by decide +kernel
theorem dX7_campaign_113 : decode cX7_campaign 113 = .ok (.invokevirtual 217, 3) := by decide +kernel
theorem dX7_campaign_116 : decode cX7_campaign 116 = .ok (.aload_n 0, 1) := by decide +kernel
theorem dX7_campaign_117 : decode cX7_campaign 117 = .ok (.aload_n 0, 1) := by decide +kernel
theorem dX7_campaign_118 : decode cX7_campaign 118 = .ok (.invokevirtual 221, 3) := by decide +kernel
theorem dX7_campaign_121 : decode cX7_campaign 121 = .ok (.invokevirtual 74, 3) := by decide +kernel
theorem dX7_campaign_124 : decode cX7_campaign 124 = .ok (.ireturn, 1) := by decide +kernel
theorem dX7_tick_0 : decode cX7_tick 0 = .ok (.iload_n 1, 1) := by decide +kernel
theorem dX7_tick_1 : decode cX7_tick 1 = .ok (.ifCond .lt 9, 3) := by decide +kernel
theorem dX7_tick_4 : decode cX7_tick 4 = .ok (.iload_n 1, 1) := by decide +kernel
theorem dX7_tick_5 : decode cX7_tick 5 = .ok (.ldc 224, 2) := by decide +kernel
theorem dX7_tick_7 : decode cX7_tick 7 = .ok (.if_icmp .le 6, 3) := by decide +kernel
theorem dX7_tick_10 : decode cX7_tick 10 = .ok (.ldc 65, 2) := by decide +kernel
theorem dX7_tick_12 : decode cX7_tick 12 = .ok (.ireturn, 1) := by decide +kernel
theorem dX7_tick_13 : decode cX7_tick 13 = .ok (.aload_n 0, 1) := by decide +kernel
theorem dX7_tick_14 : decode cX7_tick 14 = .ok (.getfield 44, 3) := by decide +kernel
theorem dX7_tick_17 : decode cX7_tick 17 = .ok (.invokevirtual 225, 3) := by decide +kernel
theorem dX7_tick_20 : decode cX7_tick 20 = .ok (.ifCond .ne 6, 3) := by decide +kernel
theorem dX7_tick_23 : decode cX7_tick 23 = .ok (.ldc 146, 2) := by decide +kernel
theorem dX7_tick_25 : decode cX7_tick 25 = .ok (.ireturn, 1) := by decide +kernel
theorem dX7_tick_26 : decode cX7_tick 26 = .ok (.iload_n 1, 1) := by decide +kernel
theorem dX7_tick_27 : decode cX7_tick 27 = .ok (.istore_n 2, 1) := by decide +kernel
theorem dX7_tick_28 : decode cX7_tick 28 = .ok (.iconst 0, 1) := by decide +kernel
theorem dX7_tick_29 : decode cX7_tick 29 = .ok (.istore_n 3, 1) := by decide +kernel
theorem dX7_tick_30 : decode cX7_tick 30 = .ok (.iconst 0, 1) := by decide +kernel
theorem dX7_tick_31 : decode cX7_tick 31 = .ok (.istore 4, 2) := by decide +kernel
theorem dX7_tick_33 : decode cX7_tick 33 = .ok (.iload 4, 2) := by decide +kernel
theorem dX7_tick_35 : decode cX7_tick 35 = .ok (.aload_n 0, 1) := by decide +kernel
theorem dX7_tick_36 : decode cX7_tick 36 = .ok (.getfield 147, 3) := by decide +kernel
theorem dX7_tick_39 : decode cX7_tick 39 = .ok (.if_icmp .ge 85, 3) := by decide +kernel
theorem dX7_tick_42 : decode cX7_tick 42 = .ok (.aload_n 0, 1) := by decide +kernel
theorem dX7_tick_43 : decode cX7_tick 43 = .ok (.getfield 30, 3) := by decide +kernel
theorem dX7_tick_46 : decode cX7_tick 46 = .ok (.iload 4, 2) := by decide +kernel
theorem dX7_tick_48 : decode cX7_tick 48 = .ok (.aaload, 1) := by decide +kernel
theorem dX7_tick_49 : decode cX7_tick 49 = .ok (.astore 5, 2) := by decide +kernel
theorem dX7_tick_51 : decode cX7_tick 51 = .ok (.aload_n 0, 1) := by decide +kernel
theorem dX7_tick_52 : decode cX7_tick 52 = .ok (.aload 5, 2) := by decide +kernel
theorem dX7_tick_54 : decode cX7_tick 54 = .ok (.invokevirtual 228, 3) := by decide +kernel
theorem dX7_tick_57 : decode cX7_tick 57 = .ok (.ifCond .ne 6, 3) := by decide +kernel
theorem dX7_tick_60 : decode cX7_tick 60 = .ok (.goto 58, 3) := by decide +kernel
theorem dX7_tick_63 : decode cX7_tick 63 = .ok (.aload_n 0, 1) := by decide +kernel
theorem dX7_tick_64 : decode cX7_tick 64 = .ok (.aload 5, 2) := by decide +kernel
theorem dX7_tick_66 : decode cX7_tick 66 = .ok (.aload_n 0, 1) := by decide +kernel
theorem dX7_tick_67 : decode cX7_tick 67 = .ok (.getfield 44, 3) := by decide +kernel
theorem dX7_tick_70 : decode cX7_tick 70 = .ok (.getfield 232, 3) := by decide +kernel
end
section
theorem dX7_tick_73 : decode cX7_tick 73 = .ok (.invokevirtual 236, 3) := by decide +kernel
theorem dX7_tick_76 : decode cX7_tick 76 = .ok (.istore 6, 2) := by decide +kernel
theorem dX7_tick_78 : decode cX7_tick 78 = .ok (.iload 6, 2) := by decide +kernel
theorem dX7_tick_80 : decode cX7_tick 80 = .ok (.iload_n 2, 1) := by decide +kernel
theorem dX7_tick_81 : decode cX7_tick 81 = .ok (.if_icmp .le 5, 3) := by decide +kernel
theorem dX7_tick_84 : decode cX7_tick 84 = .ok (.iload_n 3, 1) := by decide +kernel
theorem dX7_tick_85 : decode cX7_tick 85 = .ok (.ireturn, 1) := by decide +kernel
theorem dX7_tick_86 : decode cX7_tick 86 = .ok (.iload_n 2, 1) := by decide +kernel
theorem dX7_tick_87 : decode cX7_tick 87 = .ok (.iload 6, 2) := by decide +kernel
theorem dX7_tick_89 : decode cX7_tick 89 = .ok (.isub, 1) := by decide +kernel
theorem dX7_tick_90 : decode cX7_tick 90 = .ok (.istore_n 2, 1) := by decide +kernel
theorem dX7_tick_91 : decode cX7_tick 91 = .ok (.aload_n 0, 1) := by decide +kernel
theorem dX7_tick_92 : decode cX7_tick 92 = .ok (.getfield 44, 3) := by decide +kernel
theorem dX7_tick_95 : decode cX7_tick 95 = .ok (.iload 4, 2) := by decide +kernel
theorem dX7_tick_97 : decode cX7_tick 97 = .ok (.iload 6, 2) := by decide +kernel
theorem dX7_tick_99 : decode cX7_tick 99 = .ok (.aload_n 0, 1) := by decide +kernel
theorem dX7_tick_100 : decode cX7_tick 100 = .ok (.aload 5, 2) := by decide +kernel
theorem dX7_tick_102 : decode cX7_tick 102 = .ok (.aload_n 0, 1) := by decide +kernel
theorem dX7_tick_103 : decode cX7_tick 103 = .ok (.getfield 44, 3) := by decide +kernel
theorem dX7_tick_106 : decode cX7_tick 106 = .ok (.getfield 232, 3) := by decide +kernel
theorem dX7_tick_109 : decode cX7_tick 109 = .ok (.invokevirtual 193, 3) := by decide +kernel
theorem dX7_tick_112 : decode cX7_tick 112 = .ok (.invokevirtual 240, 3) := by decide +kernel
theorem dX7_tick_115 : decode cX7_tick 115 = .ok (.iinc 3 1, 3) := by decide +kernel
theorem dX7_tick_118 : decode cX7_tick 118 = .ok (.iinc 4 1, 3) := by decide +kernel
theorem dX7_tick_121 : decode cX7_tick 121 = .ok (.goto (-88), 3) := by decide +kernel
theorem dX7_tick_124 : decode cX7_tick 124 = .ok (.iload_n 3, 1) := by decide +kernel
theorem dX7_tick_125 : decode cX7_tick 125 = .ok (.ifCond .ne 10, 3) := by decide +kernel
theorem dX7_tick_128 : decode cX7_tick 128 = .ok (.aload_n 0, 1) := by decide +kernel
theorem dX7_tick_129 : decode cX7_tick 129 = .ok (.getfield 44, 3) := by decide +kernel
theorem dX7_tick_132 : decode cX7_tick 132 = .ok (.invokevirtual 244, 3) := by decide +kernel
theorem dX7_tick_135 : decode cX7_tick 135 = .ok (.iload_n 3, 1) := by decide +kernel
theorem dX7_tick_136 : decode cX7_tick 136 = .ok (.ireturn, 1) := by decide +kernel
theorem dX7_runs_0 : decode cX7_runs 0 = .ok (.iload_n 1, 1) := by decide +kernel
theorem dX7_runs_1 : decode cX7_runs 1 = .ok (.ifCond .lt 8, 3) := by decide +kernel
theorem dX7_runs_4 : decode cX7_runs 4 = .ok (.iload_n 1, 1) := by decide +kernel
theorem dX7_runs_5 : decode cX7_runs 5 = .ok (.iconst 5, 1) := by decide +kernel
theorem dX7_runs_6 : decode cX7_runs 6 = .ok (.if_icmp .le 6, 3) := by decide +kernel
theorem dX7_runs_9 : decode cX7_runs 9 = .ok (.ldc 65, 2) := by decide +kernel
theorem dX7_runs_11 : decode cX7_runs 11 = .ok (.ireturn, 1) := by decide +kernel
theorem dX7_runs_12 : decode cX7_runs 12 = .ok (.aload_n 0, 1) := by decide +kernel
theorem dX7_runs_13 : decode cX7_runs 13 = .ok (.getfield 44, 3) := by decide +kernel
theorem dX7_runs_16 : decode cX7_runs 16 = .ok (.getfield 232, 3) := by decide +kernel
theorem dX7_runs_19 : decode cX7_runs 19 = .ok (.ifnonnull 6, 3) := by decide +kernel
theorem dX7_runs_22 : decode cX7_runs 22 = .ok (.ldc 146, 2) := by decide +kernel
theorem dX7_runs_24 : decode cX7_runs 24 = .ok (.ireturn, 1) := by decide +kernel
theorem dX7_runs_25 : decode cX7_runs 25 = .ok (.iload_n 1, 1) := by decide +kernel
theorem dX7_runs_26 : decode cX7_runs 26 = .ok (.tableswitch 74 0 4 #[34, 42, 50, 58, 66], 34) := by decide +kernel
theorem dX7_runs_60 : decode cX7_runs 60 = .ok (.aload_n 0, 1) := by decide +kernel
theorem dX7_runs_61 : decode cX7_runs 61 = .ok (.getfield 44, 3) := by decide +kernel
theorem dX7_runs_64 : decode cX7_runs 64 = .ok (.getfield 247, 3) := by decide +kernel
theorem dX7_runs_67 : decode cX7_runs 67 = .ok (.ireturn, 1) := by decide +kernel
theorem dX7_runs_68 : decode cX7_runs 68 = .ok (.aload_n 0, 1) := by decide +kernel
theorem dX7_runs_69 : decode cX7_runs 69 = .ok (.getfield 44, 3) := by decide +kernel
theorem dX7_runs_72 : decode cX7_runs 72 = .ok (.getfield 250, 3) := by decide +kernel
theorem dX7_runs_75 : decode cX7_runs 75 = .ok (.ireturn, 1) := by decide +kernel
theorem dX7_runs_76 : decode cX7_runs 76 = .ok (.aload_n 0, 1) := by decide +kernel
theorem dX7_runs_77 : decode cX7_runs 77 = .ok (.getfield 44, 3) := by decide +kernel
theorem dX7_runs_80 : decode cX7_runs 80 = .ok (.getfield 253, 3) := by decide +kernel
theorem dX7_runs_83 : decode cX7_runs 83 = .ok (.ireturn, 1) := by decide +kernel
theorem dX7_runs_84 : decode cX7_runs 84 = .ok (.aload_n 0, 1) := by decide +kernel
theorem dX7_runs_85 : decode cX7_runs 85 = .ok (.getfield 44, 3) := by decide +kernel
theorem dX7_runs_88 : decode cX7_runs 88 = .ok (.getfield 256, 3) := by decide +kernel
theorem dX7_runs_91 : decode cX7_runs 91 = .ok (.ireturn, 1) := by decide +kernel
theorem dX7_runs_92 : decode cX7_runs 92 = .ok (.aload_n 0, 1) := by decide +kernel
theorem dX7_runs_93 : decode cX7_runs 93 = .ok (.getfield 44, 3) := by decide +kernel
theorem dX7_runs_96 : decode cX7_runs 96 = .ok (.getfield 259, 3) := by decide +kernel
theorem dX7_runs_99 : decode cX7_runs 99 = .ok (.ireturn, 1) := by decide +kernel
theorem dX7_runs_100 : decode cX7_runs 100 = .ok (.aload_n 0, 1) := by decide +kernel
theorem dX7_runs_101 : decode cX7_runs 101 = .ok (.aload_n 0, 1) := by decide +kernel
theorem dX7_runs_102 : decode cX7_runs 102 = .ok (.getfield 44, 3) := by decide +kernel
theorem dX7_runs_105 : decode cX7_runs 105 = .ok (.getfield 232, 3) := by decide +kernel
theorem dX7_runs_108 : decode cX7_runs 108 = .ok (.invokevirtual 262, 3) := by decide +kernel
theorem dX7_runs_111 : decode cX7_runs 111 = .ok (.ireturn, 1) := by decide +kernel
theorem dX7_chance_0 : decode cX7_chance 0 = .ok (.iload_n 1, 1) := by decide +kernel
theorem dX7_chance_1 : decode cX7_chance 1 = .ok (.iconst 1, 1) := by decide +kernel
theorem dX7_chance_2 : decode cX7_chance 2 = .ok (.if_icmp .lt 29, 3) := by decide +kernel
theorem dX7_chance_5 : decode cX7_chance 5 = .ok (.iload_n 1, 1) := by decide +kernel
theorem dX7_chance_6 : decode cX7_chance 6 = .ok (.bipush 12, 2) := by decide +kernel
theorem dX7_chance_8 : decode cX7_chance 8 = .ok (.if_icmp .gt 23, 3) := by decide +kernel
theorem dX7_chance_11 : decode cX7_chance 11 = .ok (.iload_n 2, 1) := by decide +kernel
theorem dX7_chance_12 : decode cX7_chance 12 = .ok (.ifCond .lt 19, 3) := by decide +kernel
theorem dX7_chance_15 : decode cX7_chance 15 = .ok (.iload_n 2, 1) := by decide +kernel
theorem dX7_chance_16 : decode cX7_chance 16 = .ok (.bipush 10, 2) := by decide +kernel
theorem dX7_chance_18 : decode cX7_chance 18 = .ok (.if_icmp .gt 13, 3) := by decide +kernel
theorem dX7_chance_21 : decode cX7_chance 21 = .ok (.iload_n 3, 1) := by decide +kernel
theorem dX7_chance_22 : decode cX7_chance 22 = .ok (.ifCond .lt 9, 3) := by decide +kernel
theorem dX7_chance_25 : decode cX7_chance 25 = .ok (.iload_n 3, 1) := by decide +kernel
theorem dX7_chance_26 : decode cX7_chance 26 = .ok (.bipush 10, 2) := by decide +kernel
theorem dX7_chance_28 : decode cX7_chance 28 = .ok (.if_icmp .le 7, 3) := by decide +kernel
theorem dX7_chance_31 : decode cX7_chance 31 = .ok (.ldc2_w 266, 3) := by decide +kernel
theorem dX7_chance_34 : decode cX7_chance 34 = .ok (.lreturn, 1) := by decide +kernel
theorem dX7_chance_35 : decode cX7_chance 35 = .ok (.lconst 0, 1) := by decide +kernel
theorem dX7_chance_36 : decode cX7_chance 36 = .ok (.lstore 4, 2) := by decide +kernel
theorem dX7_chance_38 : decode cX7_chance 38 = .ok (.iconst 0, 1) := by decide +kernel
theorem dX7_chance_39 : decode cX7_chance 39 = .ok (.istore 6, 2) := by decide +kernel
theorem dX7_chance_41 : decode cX7_chance 41 = .ok (.iload 6, 2) := by decide +kernel
theorem dX7_chance_43 : decode cX7_chance 43 = .ok (.iload_n 1, 1) := by decide +kernel
theorem dX7_chance_44 : decode cX7_chance 44 = .ok (.if_icmp .gt 49, 3) := by decide +kernel
theorem dX7_chance_47 : decode cX7_chance 47 = .ok (.iload 6, 2) := by decide +kernel
theorem dX7_chance_49 : decode cX7_chance 49 = .ok (.iload_n 1, 1) := by decide +kernel
theorem dX7_chance_50 : decode cX7_chance 50 = .ok (.iload_n 3, 1) := by decide +kernel
theorem dX7_chance_51 : decode cX7_chance 51 = .ok (.invokestatic 268, 3) := by decide +kernel
theorem dX7_chance_54 : decode cX7_chance 54 = .ok (.ifCond .ne 33, 3) := by decide +kernel
theorem dX7_chance_57 : decode cX7_chance 57 = .ok (.lload 4, 2) := by decide +kernel
theorem dX7_chance_59 : decode cX7_chance 59 = .ok (.iload_n 1, 1) := by decide +kernel
theorem dX7_chance_60 : decode cX7_chance 60 = .ok (.iload 6, 2) := by decide +kernel
theorem dX7_chance_62 : decode cX7_chance 62 = .ok (.invokestatic 272, 3) := by decide +kernel
theorem dX7_chance_65 : decode cX7_chance 65 = .ok (.iload_n 2, 1) := by decide +kernel
theorem dX7_chance_66 : decode cX7_chance 66 = .ok (.iload 6, 2) := by decide +kernel
theorem dX7_chance_68 : decode cX7_chance 68 = .ok (.invokestatic 276, 3) := by decide +kernel
theorem dX7_chance_71 : decode cX7_chance 71 = .ok (.lmul, 1) := by decide +kernel
theorem dX7_chance_72 : decode cX7_chance 72 = .ok (.bipush 10, 2) := by decide +kernel
theorem dX7_chance_74 : decode cX7_chance 74 = .ok (.iload_n 2, 1) := by decide +kernel
theorem dX7_chance_75 : decode cX7_chance 75 = .ok (.isub, 1) := by decide +kernel
theorem dX7_chance_76 : decode cX7_chance 76 = .ok (.iload_n 1, 1) := by decide +kernel
theorem dX7_chance_77 : decode cX7_chance 77 = .ok (.iload 6, 2) := by decide +kernel
theorem dX7_chance_79 : decode cX7_chance 79 = .ok (.isub, 1) := by decide +kernel
theorem dX7_chance_80 : decode cX7_chance 80 = .ok (.invokestatic 276, 3) := by decide +kernel
theorem dX7_chance_83 : decode cX7_chance 83 = .ok (.lmul, 1) := by decide +kernel
theorem dX7_chance_84 : decode cX7_chance 84 = .ok (.ladd, 1) := by decide +kernel
theorem dX7_chance_85 : decode cX7_chance 85 = .ok (.lstore 4, 2) := by decide +kernel
theorem dX7_chance_87 : decode cX7_chance 87 = .ok (.iinc 6 1, 3) := by decide +kernel
theorem dX7_chance_90 : decode cX7_chance 90 = .ok (.goto (-49), 3) := by decide +kernel
theorem dX7_chance_93 : decode cX7_chance 93 = .ok (.lload 4, 2) := by decide +kernel
theorem dX7_chance_95 : decode cX7_chance 95 = .ok (.lreturn, 1) := by decide +kernel
theorem dX7_kind_0 : decode cX7_kind 0 = .ok (.aload_n 0, 1) := by decide +kernel
theorem dX7_kind_1 : decode cX7_kind 1 = .ok (.iload_n 1, 1) := by decide +kernel
theorem dX7_kind_2 : decode cX7_kind 2 = .ok (.invokevirtual 140, 3) := by decide +kernel
theorem dX7_kind_5 : decode cX7_kind 5 = .ok (.ifCond .ne 6, 3) := by decide +kernel
theorem dX7_kind_8 : decode cX7_kind 8 = .ok (.ldc 65, 2) := by decide +kernel
theorem dX7_kind_10 : decode cX7_kind 10 = .ok (.ireturn, 1) := by decide +kernel
theorem dX7_kind_11 : decode cX7_kind 11 = .ok (.aload_n 0, 1) := by decide +kernel
theorem dX7_kind_12 : decode cX7_kind 12 = .ok (.aload_n 0, 1) := by decide +kernel
theorem dX7_kind_13 : decode cX7_kind 13 = .ok (.getfield 30, 3) := by decide +kernel
theorem dX7_kind_16 : decode cX7_kind 16 = .ok (.iload_n 1, 1) := by decide +kernel
theorem dX7_kind_17 : decode cX7_kind 17 = .ok (.aaload, 1) := by decide +kernel
theorem dX7_kind_18 : decode cX7_kind 18 = .ok (.invokevirtual 279, 3) := by decide +kernel
theorem dX7_kind_21 : decode cX7_kind 21 = .ok (.ireturn, 1) := by decide +kernel
theorem dX7_as_0 : decode cX7_as 0 = .ok (.aload_n 0, 1) := by decide +kernel
theorem dX7_as_1 : decode cX7_as 1 = .ok (.iload_n 1, 1) := by decide +kernel
theorem dX7_as_2 : decode cX7_as 2 = .ok (.invokevirtual 140, 3) := by decide +kernel
theorem dX7_as_5 : decode cX7_as 5 = .ok (.ifCond .eq 12, 3) := by decide +kernel
theorem dX7_as_8 : decode cX7_as 8 = .ok (.iload_n 2, 1) := by decide +kernel
theorem dX7_as_9 : decode cX7_as 9 = .ok (.ifCond .lt 8, 3) := by decide +kernel
theorem dX7_as_12 : decode cX7_as 12 = .ok (.iload_n 2, 1) := by decide +kernel
theorem dX7_as_13 : decode cX7_as 13 = .ok (.iconst 3, 1) := by decide +kernel
theorem dX7_as_14 : decode cX7_as 14 = .ok (.if_icmp .le 6, 3) := by decide +kernel
theorem dX7_as_17 : decode cX7_as 17 = .ok (.ldc 65, 2) := by decide +kernel
theorem dX7_as_19 : decode cX7_as 19 = .ok (.ireturn, 1) := by decide +kernel
theorem dX7_as_20 : decode cX7_as 20 = .ok (.aload_n 0, 1) := by decide +kernel
theorem dX7_as_21 : decode cX7_as 21 = .ok (.getfield 30, 3) := by decide +kernel
theorem dX7_as_24 : decode cX7_as 24 = .ok (.iload_n 1, 1) := by decide +kernel
theorem dX7_as_25 : decode cX7_as 25 = .ok (.aaload, 1) := by decide +kernel
theorem dX7_as_26 : decode cX7_as 26 = .ok (.astore_n 3, 1) := by decide +kernel
theorem dX7_as_27 : decode cX7_as 27 = .ok (.aload_n 0, 1) := by decide +kernel
theorem dX7_as_28 : decode cX7_as 28 = .ok (.aload_n 3, 1) := by decide +kernel
theorem dX7_as_29 : decode cX7_as 29 = .ok (.iload_n 2, 1) := by decide +kernel
theorem dX7_as_30 : decode cX7_as 30 = .ok (.invokevirtual 282, 3) := by decide +kernel
theorem dX7_as_33 : decode cX7_as 33 = .ok (.ifCond .ne 9, 3) := by decide +kernel
theorem dX7_as_36 : decode cX7_as 36 = .ok (.aload_n 0, 1) := by decide +kernel
theorem dX7_as_37 : decode cX7_as 37 = .ok (.iconst 3, 1) := by decide +kernel
theorem dX7_as_38 : decode cX7_as 38 = .ok (.invokevirtual 66, 3) := by decide +kernel
theorem dX7_as_41 : decode cX7_as 41 = .ok (.ireturn, 1) := by decide +kernel
theorem dX7_as_42 : decode cX7_as 42 = .ok (.aload_n 0, 1) := by decide +kernel
theorem dX7_as_43 : decode cX7_as 43 = .ok (.aload_n 3, 1) := by decide +kernel
theorem dX7_as_44 : decode cX7_as 44 = .ok (.getfield 286, 3) := by decide +kernel
theorem dX7_as_47 : decode cX7_as 47 = .ok (.invokevirtual 74, 3) := by decide +kernel
theorem dX7_as_50 : decode cX7_as 50 = .ok (.ireturn, 1) := by decide +kernel
theorem dX7_ask_0 : decode cX7_ask 0 = .ok (.aload_n 0, 1) := by decide +kernel
theorem dX7_ask_1 : decode cX7_ask 1 = .ok (.iload_n 1, 1) := by decide +kernel
theorem dX7_ask_2 : decode cX7_ask 2 = .ok (.invokevirtual 140, 3) := by decide +kernel
theorem dX7_ask_5 : decode cX7_ask 5 = .ok (.ifCond .eq 12, 3) := by decide +kernel
theorem dX7_ask_8 : decode cX7_ask 8 = .ok (.iload_n 2, 1) := by decide +kernel
theorem dX7_ask_9 : decode cX7_ask 9 = .ok (.ifCond .lt 8, 3) := by decide +kernel
theorem dX7_ask_12 : decode cX7_ask 12 = .ok (.iload_n 2, 1) := by decide +kernel
theorem dX7_ask_13 : decode cX7_ask 13 = .ok (.iconst 1, 1) := by decide +kernel
theorem dX7_ask_14 : decode cX7_ask 14 = .ok (.if_icmp .le 6, 3) := by decide +kernel
theorem dX7_ask_17 : decode cX7_ask 17 = .ok (.ldc 65, 2) := by decide +kernel
theorem dX7_ask_19 : decode cX7_ask 19 = .ok (.ireturn, 1) := by decide +kernel
theorem dX7_ask_20 : decode cX7_ask 20 = .ok (.aload_n 0, 1) := by decide +kernel
theorem dX7_ask_21 : decode cX7_ask 21 = .ok (.getfield 30, 3) := by decide +kernel
theorem dX7_ask_24 : decode cX7_ask 24 = .ok (.iload_n 1, 1) := by decide +kernel
theorem dX7_ask_25 : decode cX7_ask 25 = .ok (.aaload, 1) := by decide +kernel
theorem dX7_ask_26 : decode cX7_ask 26 = .ok (.astore_n 3, 1) := by decide +kernel
theorem dX7_ask_27 : decode cX7_ask 27 = .ok (.aload_n 0, 1) := by decide +kernel
theorem dX7_ask_28 : decode cX7_ask 28 = .ok (.aload_n 3, 1) := by decide +kernel
theorem dX7_ask_29 : decode cX7_ask 29 = .ok (.invokevirtual 279, 3) := by decide +kernel
theorem dX7_ask_32 : decode cX7_ask 32 = .ok (.istore 4, 2) := by decide +kernel
theorem dX7_ask_34 : decode cX7_ask 34 = .ok (.aload_n 0, 1) := by decide +kernel
theorem dX7_ask_35 : decode cX7_ask 35 = .ok (.getfield 51, 3) := by decide +kernel
theorem dX7_ask_38 : decode cX7_ask 38 = .ok (.invokevirtual 289, 3) := by decide +kernel
theorem dX7_ask_41 : decode cX7_ask 41 = .ok (.iload_n 2, 1) := by decide +kernel
theorem dX7_ask_42 : decode cX7_ask 42 = .ok (.ifCond .ne 16, 3) := by decide +kernel
theorem dX7_ask_45 : decode cX7_ask 45 = .ok (.aload_n 0, 1) := by decide +kernel
theorem dX7_ask_46 : decode cX7_ask 46 = .ok (.getfield 51, 3) := by decide +kernel
theorem dX7_ask_49 : decode cX7_ask 49 = .ok (.aload_n 3, 1) := by decide +kernel
theorem dX7_ask_50 : decode cX7_ask 50 = .ok (.iload 4, 2) := by decide +kernel
theorem dX7_ask_52 : decode cX7_ask 52 = .ok (.invokevirtual 292, 3) := by decide +kernel
theorem dX7_ask_55 : decode cX7_ask 55 = .ok (.goto 13, 3) := by decide +kernel
theorem dX7_ask_58 : decode cX7_ask 58 = .ok (.aload_n 0, 1) := by decide +kernel
theorem dX7_ask_59 : decode cX7_ask 59 = .ok (.getfield 51, 3) := by decide +kernel
theorem dX7_ask_62 : decode cX7_ask 62 = .ok (.aload_n 3, 1) := by decide +kernel
theorem dX7_ask_63 : decode cX7_ask 63 = .ok (.iload 4, 2) := by decide +kernel
theorem dX7_ask_65 : decode cX7_ask 65 = .ok (.invokevirtual 296, 3) := by decide +kernel
theorem dX7_ask_68 : decode cX7_ask 68 = .ok (.ireturn, 1) := by decide +kernel
theorem dX7_trace_0 : decode cX7_trace 0 = .ok (.aload_n 0, 1) := by decide +kernel
theorem dX7_trace_1 : decode cX7_trace 1 = .ok (.getfield 51, 3) := by decide +kernel
theorem dX7_trace_4 : decode cX7_trace 4 = .ok (.iload_n 1, 1) := by decide +kernel
theorem dX7_trace_5 : decode cX7_trace 5 = .ok (.invokevirtual 299, 3) := by decide +kernel
theorem dX7_trace_8 : decode cX7_trace 8 = .ok (.ireturn, 1) := by decide +kernel
theorem dX7_count_0 : decode cX7_count 0 = .ok (.iload_n 1, 1) := by decide +kernel
theorem dX7_count_1 : decode cX7_count 1 = .ok (.tableswitch 89 0 6 #[43, 48, 53, 58, 63, 75, 81], 43) := by decide +kernel
theorem dX7_count_44 : decode cX7_count 44 = .ok (.aload_n 0, 1) := by decide +kernel
theorem dX7_count_45 : decode cX7_count 45 = .ok (.invokevirtual 302, 3) := by decide +kernel
theorem dX7_count_48 : decode cX7_count 48 = .ok (.ireturn, 1) := by decide +kernel
theorem dX7_count_49 : decode cX7_count 49 = .ok (.aload_n 0, 1) := by decide +kernel
theorem dX7_count_50 : decode cX7_count 50 = .ok (.getfield 109, 3) := by decide +kernel
theorem dX7_count_53 : decode cX7_count 53 = .ok (.ireturn, 1) := by decide +kernel
theorem dX7_count_54 : decode cX7_count 54 = .ok (.aload_n 0, 1) := by decide +kernel
theorem dX7_count_55 : decode cX7_count 55 = .ok (.getfield 147, 3) := by decide +kernel
theorem dX7_count_58 : decode cX7_count 58 = .ok (.ireturn, 1) := by decide +kernel
theorem dX7_count_59 : decode cX7_count 59 = .ok (.aload_n 0, 1) := by decide +kernel
theorem dX7_count_60 : decode cX7_count 60 = .ok (.invokevirtual 305, 3) := by decide +kernel
theorem dX7_count_63 : decode cX7_count 63 = .ok (.ireturn, 1) := by decide +kernel
theorem dX7_count_64 : decode cX7_count 64 = .ok (.aload_n 0, 1) := by decide +kernel
theorem dX7_count_65 : decode cX7_count 65 = .ok (.iconst 1, 1) := by decide +kernel
theorem dX7_count_66 : decode cX7_count 66 = .ok (.invokevirtual 308, 3) := by decide +kernel
theorem dX7_count_69 : decode cX7_count 69 = .ok (.aload_n 0, 1) := by decide +kernel
theorem dX7_count_70 : decode cX7_count 70 = .ok (.iconst 2, 1) := by decide +kernel
theorem dX7_count_71 : decode cX7_count 71 = .ok (.invokevirtual 308, 3) := by decide +kernel
theorem dX7_count_74 : decode cX7_count 74 = .ok (.iadd, 1) := by decide +kernel
theorem dX7_count_75 : decode cX7_count 75 = .ok (.ireturn, 1) := by decide +kernel
theorem dX7_count_76 : decode cX7_count 76 = .ok (.aload_n 0, 1) := by decide +kernel
theorem dX7_count_77 : decode cX7_count 77 = .ok (.iconst 3, 1) := by decide +kernel
theorem dX7_count_78 : decode cX7_count 78 = .ok (.invokevirtual 308, 3) := by decide +kernel
theorem dX7_count_81 : decode cX7_count 81 = .ok (.ireturn, 1) := by decide +kernel
theorem dX7_count_82 : decode cX7_count 82 = .ok (.aload_n 0, 1) := by decide +kernel
theorem dX7_count_83 : decode cX7_count 83 = .ok (.getfield 24, 3) := by decide +kernel
theorem dX7_count_86 : decode cX7_count 86 = .ok (.getfield 311, 3) := by decide +kernel
theorem dX7_count_89 : decode cX7_count 89 = .ok (.ireturn, 1) := by decide +kernel
theorem dX7_count_90 : decode cX7_count 90 = .ok (.ldc 65, 2) := by decide +kernel
theorem dX7_count_92 : decode cX7_count 92 = .ok (.ireturn, 1) := by decide +kernel
theorem dX7_status_0 : decode cX7_status 0 = .ok (.aload_n 0, 1) := by decide +kernel
theorem dX7_status_1 : decode cX7_status 1 = .ok (.getfield 55, 3) := by decide +kernel
theorem dX7_status_4 : decode cX7_status 4 = .ok (.ireturn, 1) := by decide +kernel
theorem dX7_isSheet_0 : decode cX7_isSheet 0 = .ok (.iload_n 0, 1) := by decide +kernel
theorem dX7_isSheet_1 : decode cX7_isSheet 1 = .ok (.ifCond .lt 13, 3) := by decide +kernel
theorem dX7_isSheet_4 : decode cX7_isSheet 4 = .ok (.iload_n 0, 1) := by decide +kernel
theorem dX7_isSheet_5 : decode cX7_isSheet 5 = .ok (.bipush 8, 2) := by decide +kernel
theorem dX7_isSheet_7 : decode cX7_isSheet 7 = .ok (.if_icmp .ge 7, 3) := by decide +kernel
theorem dX7_isSheet_10 : decode cX7_isSheet 10 = .ok (.iconst 1, 1) := by decide +kernel
theorem dX7_isSheet_11 : decode cX7_isSheet 11 = .ok (.goto 4, 3) := by decide +kernel
theorem dX7_isSheet_14 : decode cX7_isSheet 14 = .ok (.iconst 0, 1) := by decide +kernel
theorem dX7_isSheet_15 : decode cX7_isSheet 15 = .ok (.ireturn, 1) := by decide +kernel
theorem dX7_isVersion_0 : decode cX7_isVersion 0 = .ok (.iload_n 1, 1) := by decide +kernel
theorem dX7_isVersion_1 : decode cX7_isVersion 1 = .ok (.ifCond .lt 15, 3) := by decide +kernel
theorem dX7_isVersion_4 : decode cX7_isVersion 4 = .ok (.iload_n 1, 1) := by decide +kernel
theorem dX7_isVersion_5 : decode cX7_isVersion 5 = .ok (.aload_n 0, 1) := by decide +kernel
theorem dX7_isVersion_6 : decode cX7_isVersion 6 = .ok (.getfield 109, 3) := by decide +kernel
theorem dX7_isVersion_9 : decode cX7_isVersion 9 = .ok (.if_icmp .ge 7, 3) := by decide +kernel
theorem dX7_isVersion_12 : decode cX7_isVersion 12 = .ok (.iconst 1, 1) := by decide +kernel
theorem dX7_isVersion_13 : decode cX7_isVersion 13 = .ok (.goto 4, 3) := by decide +kernel
theorem dX7_isVersion_16 : decode cX7_isVersion 16 = .ok (.iconst 0, 1) := by decide +kernel
theorem dX7_isVersion_17 : decode cX7_isVersion 17 = .ok (.ireturn, 1) := by decide +kernel
theorem dX7_isRise_0 : decode cX7_isRise 0 = .ok (.aload_n 0, 1) := by decide +kernel
theorem dX7_isRise_1 : decode cX7_isRise 1 = .ok (.iload_n 1, 1) := by decide +kernel
theorem dX7_isRise_2 : decode cX7_isRise 2 = .ok (.invokevirtual 137, 3) := by decide +kernel
theorem dX7_isRise_5 : decode cX7_isRise 5 = .ok (.ifCond .eq 20, 3) := by decide +kernel
theorem dX7_isRise_8 : decode cX7_isRise 8 = .ok (.aload_n 0, 1) := by decide +kernel
theorem dX7_isRise_9 : decode cX7_isRise 9 = .ok (.iload_n 2, 1) := by decide +kernel
theorem dX7_isRise_10 : decode cX7_isRise 10 = .ok (.invokevirtual 137, 3) := by decide +kernel
theorem dX7_isRise_13 : decode cX7_isRise 13 = .ok (.ifCond .eq 12, 3) := by decide +kernel
theorem dX7_isRise_16 : decode cX7_isRise 16 = .ok (.iload_n 1, 1) := by decide +kernel
theorem dX7_isRise_17 : decode cX7_isRise 17 = .ok (.iload_n 2, 1) := by decide +kernel
theorem dX7_isRise_18 : decode cX7_isRise 18 = .ok (.if_icmp .ge 7, 3) := by decide +kernel
theorem dX7_isRise_21 : decode cX7_isRise 21 = .ok (.iconst 1, 1) := by decide +kernel
theorem dX7_isRise_22 : decode cX7_isRise 22 = .ok (.goto 4, 3) := by decide +kernel
theorem dX7_isRise_25 : decode cX7_isRise 25 = .ok (.iconst 0, 1) := by decide +kernel
theorem dX7_isRise_26 : decode cX7_isRise 26 = .ok (.ireturn, 1) := by decide +kernel
theorem dX7_isDevice_0 : decode cX7_isDevice 0 = .ok (.iload_n 1, 1) := by decide +kernel
theorem dX7_isDevice_1 : decode cX7_isDevice 1 = .ok (.ifCond .lt 15, 3) := by decide +kernel
theorem dX7_isDevice_4 : decode cX7_isDevice 4 = .ok (.iload_n 1, 1) := by decide +kernel
theorem dX7_isDevice_5 : decode cX7_isDevice 5 = .ok (.aload_n 0, 1) := by decide +kernel
theorem dX7_isDevice_6 : decode cX7_isDevice 6 = .ok (.getfield 147, 3) := by decide +kernel
theorem dX7_isDevice_9 : decode cX7_isDevice 9 = .ok (.if_icmp .ge 7, 3) := by decide +kernel
theorem dX7_isDevice_12 : decode cX7_isDevice 12 = .ok (.iconst 1, 1) := by decide +kernel
theorem dX7_isDevice_13 : decode cX7_isDevice 13 = .ok (.goto 4, 3) := by decide +kernel
theorem dX7_isDevice_16 : decode cX7_isDevice 16 = .ok (.iconst 0, 1) := by decide +kernel
theorem dX7_isDevice_17 : decode cX7_isDevice 17 = .ok (.ireturn, 1) := by decide +kernel
theorem dX7_isAbove_0 : decode cX7_isAbove 0 = .ok (.iload_n 0, 1) := by decide +kernel
theorem dX7_isAbove_1 : decode cX7_isAbove 1 = .ok (.aload_n 1, 1) := by decide +kernel
theorem dX7_isAbove_2 : decode cX7_isAbove 2 = .ok (.getfield 154, 3) := by decide +kernel
theorem dX7_isAbove_5 : decode cX7_isAbove 5 = .ok (.invokevirtual 158, 3) := by decide +kernel
theorem dX7_isAbove_8 : decode cX7_isAbove 8 = .ok (.if_icmp .le 7, 3) := by decide +kernel
theorem dX7_isAbove_11 : decode cX7_isAbove 11 = .ok (.iconst 1, 1) := by decide +kernel
theorem dX7_isAbove_12 : decode cX7_isAbove 12 = .ok (.goto 4, 3) := by decide +kernel
theorem dX7_isAbove_15 : decode cX7_isAbove 15 = .ok (.iconst 0, 1) := by decide +kernel
theorem dX7_isAbove_16 : decode cX7_isAbove 16 = .ok (.ireturn, 1) := by decide +kernel
theorem dX7_leastFloor_0 : decode cX7_leastFloor 0 = .ok (.aload_n 0, 1) := by decide +kernel
theorem dX7_leastFloor_1 : decode cX7_leastFloor 1 = .ok (.getfield 109, 3) := by decide +kernel
theorem dX7_leastFloor_4 : decode cX7_leastFloor 4 = .ok (.ifCond .ne 7, 3) := by decide +kernel
theorem dX7_leastFloor_7 : decode cX7_leastFloor 7 = .ok (.iconst 0, 1) := by decide +kernel
theorem dX7_leastFloor_8 : decode cX7_leastFloor 8 = .ok (.goto 17, 3) := by decide +kernel
theorem dX7_leastFloor_11 : decode cX7_leastFloor 11 = .ok (.aload_n 0, 1) := by decide +kernel
theorem dX7_leastFloor_12 : decode cX7_leastFloor 12 = .ok (.getfield 17, 3) := by decide +kernel
theorem dX7_leastFloor_15 : decode cX7_leastFloor 15 = .ok (.aload_n 0, 1) := by decide +kernel
theorem dX7_leastFloor_16 : decode cX7_leastFloor 16 = .ok (.getfield 109, 3) := by decide +kernel
theorem dX7_leastFloor_19 : decode cX7_leastFloor 19 = .ok (.iconst 1, 1) := by decide +kernel
theorem dX7_leastFloor_20 : decode cX7_leastFloor 20 = .ok (.isub, 1) := by decide +kernel
theorem dX7_leastFloor_21 : decode cX7_leastFloor 21 = .ok (.aaload, 1) := by decide +kernel
theorem dX7_leastFloor_22 : decode cX7_leastFloor 22 = .ok (.getfield 314, 3) := by decide +kernel
theorem dX7_leastFloor_25 : decode cX7_leastFloor 25 = .ok (.ireturn, 1) := by decide +kernel
theorem dX7_found_0 : decode cX7_found 0 = .ok (.aload_n 0, 1) := by decide +kernel
theorem dX7_found_1 : decode cX7_found 1 = .ok (.iload_n 1, 1) := by decide +kernel
theorem dX7_found_2 : decode cX7_found 2 = .ok (.putfield 55, 3) := by decide +kernel
theorem dX7_found_5 : decode cX7_found 5 = .ok (.ldc_w 317, 3) := by decide +kernel
theorem dX7_found_8 : decode cX7_found 8 = .ok (.iload_n 1, 1) := by decide +kernel
theorem dX7_found_9 : decode cX7_found 9 = .ok (.isub, 1) := by decide +kernel
theorem dX7_found_10 : decode cX7_found 10 = .ok (.ireturn, 1) := by decide +kernel
theorem dX7_passed_0 : decode cX7_passed 0 = .ok (.aload_n 0, 1) := by decide +kernel
theorem dX7_passed_1 : decode cX7_passed 1 = .ok (.iconst 0, 1) := by decide +kernel
theorem dX7_passed_2 : decode cX7_passed 2 = .ok (.putfield 55, 3) := by decide +kernel
theorem dX7_passed_5 : decode cX7_passed 5 = .ok (.iload_n 1, 1) := by decide +kernel
theorem dX7_passed_6 : decode cX7_passed 6 = .ok (.ireturn, 1) := by decide +kernel
theorem dX7_updateWhole_0 : decode cX7_updateWhole 0 = .ok (.aload_n 1, 1) := by decide +kernel
theorem dX7_updateWhole_1 : decode cX7_updateWhole 1 = .ok (.aload_n 2, 1) := by decide +kernel
theorem dX7_updateWhole_2 : decode cX7_updateWhole 2 = .ok (.bipush 14, 2) := by decide +kernel
theorem dX7_updateWhole_4 : decode cX7_updateWhole 4 = .ok (.invokevirtual 201, 3) := by decide +kernel
theorem dX7_updateWhole_7 : decode cX7_updateWhole 7 = .ok (.pop, 1) := by decide +kernel
theorem dX7_updateWhole_8 : decode cX7_updateWhole 8 = .ok (.aload_n 0, 1) := by decide +kernel
theorem dX7_updateWhole_9 : decode cX7_updateWhole 9 = .ok (.aload_n 1, 1) := by decide +kernel
theorem dX7_updateWhole_10 : decode cX7_updateWhole 10 = .ok (.aload_n 2, 1) := by decide +kernel
theorem dX7_updateWhole_11 : decode cX7_updateWhole 11 = .ok (.invokevirtual 208, 3) := by decide +kernel
theorem dX7_updateWhole_14 : decode cX7_updateWhole 14 = .ok (.ireturn, 1) := by decide +kernel
theorem dX7_noteEnd_0 : decode cX7_noteEnd 0 = .ok (.aload_n 1, 1) := by decide +kernel
theorem dX7_noteEnd_1 : decode cX7_noteEnd 1 = .ok (.getfield 154, 3) := by decide +kernel
theorem dX7_noteEnd_4 : decode cX7_noteEnd 4 = .ok (.invokevirtual 158, 3) := by decide +kernel
theorem dX7_noteEnd_7 : decode cX7_noteEnd 7 = .ok (.aload_n 2, 1) := by decide +kernel
theorem dX7_noteEnd_8 : decode cX7_noteEnd 8 = .ok (.getfield 318, 3) := by decide +kernel
theorem dX7_noteEnd_11 : decode cX7_noteEnd 11 = .ok (.if_icmp .ne 7, 3) := by decide +kernel
theorem dX7_noteEnd_14 : decode cX7_noteEnd 14 = .ok (.iconst 1, 1) := by decide +kernel
theorem dX7_noteEnd_15 : decode cX7_noteEnd 15 = .ok (.goto 4, 3) := by decide +kernel
theorem dX7_noteEnd_18 : decode cX7_noteEnd 18 = .ok (.iconst 0, 1) := by decide +kernel
theorem dX7_noteEnd_19 : decode cX7_noteEnd 19 = .ok (.istore_n 3, 1) := by decide +kernel
theorem dX7_noteEnd_20 : decode cX7_noteEnd 20 = .ok (.iload_n 3, 1) := by decide +kernel
theorem dX7_noteEnd_21 : decode cX7_noteEnd 21 = .ok (.ifCond .ne 26, 3) := by decide +kernel
theorem dX7_noteEnd_24 : decode cX7_noteEnd 24 = .ok (.aload_n 1, 1) := by decide +kernel
theorem dX7_noteEnd_25 : decode cX7_noteEnd 25 = .ok (.dup, 1) := by decide +kernel
theorem dX7_noteEnd_26 : decode cX7_noteEnd 26 = .ok (.getfield 178, 3) := by decide +kernel
theorem dX7_noteEnd_29 : decode cX7_noteEnd 29 = .ok (.iconst 1, 1) := by decide +kernel
theorem dX7_noteEnd_30 : decode cX7_noteEnd 30 = .ok (.iadd, 1) := by decide +kernel
theorem dX7_noteEnd_31 : decode cX7_noteEnd 31 = .ok (.putfield 178, 3) := by decide +kernel
theorem dX7_noteEnd_34 : decode cX7_noteEnd 34 = .ok (.aload_n 1, 1) := by decide +kernel
theorem dX7_noteEnd_35 : decode cX7_noteEnd 35 = .ok (.dup, 1) := by decide +kernel
theorem dX7_noteEnd_36 : decode cX7_noteEnd 36 = .ok (.getfield 321, 3) := by decide +kernel
theorem dX7_noteEnd_39 : decode cX7_noteEnd 39 = .ok (.iconst 1, 1) := by decide +kernel
theorem dX7_noteEnd_40 : decode cX7_noteEnd 40 = .ok (.iadd, 1) := by decide +kernel
theorem dX7_noteEnd_41 : decode cX7_noteEnd 41 = .ok (.putfield 321, 3) := by decide +kernel
theorem dX7_noteEnd_44 : decode cX7_noteEnd 44 = .ok (.goto 16, 3) := by decide +kernel
theorem dX7_noteEnd_47 : decode cX7_noteEnd 47 = .ok (.aload_n 0, 1) := by decide +kernel
theorem dX7_noteEnd_48 : decode cX7_noteEnd 48 = .ok (.aload_n 1, 1) := by decide +kernel
theorem dX7_noteEnd_49 : decode cX7_noteEnd 49 = .ok (.invokevirtual 324, 3) := by decide +kernel
theorem dX7_noteEnd_52 : decode cX7_noteEnd 52 = .ok (.ifCond .eq 8, 3) := by decide +kernel
theorem dX7_noteEnd_55 : decode cX7_noteEnd 55 = .ok (.aload_n 1, 1) := by decide +kernel
theorem dX7_noteEnd_56 : decode cX7_noteEnd 56 = .ok (.iconst 0, 1) := by decide +kernel
theorem dX7_noteEnd_57 : decode cX7_noteEnd 57 = .ok (.putfield 321, 3) := by decide +kernel
theorem dX7_noteEnd_60 : decode cX7_noteEnd 60 = .ok (.iload_n 3, 1) := by decide +kernel
theorem dX7_noteEnd_61 : decode cX7_noteEnd 61 = .ok (.ireturn, 1) := by decide +kernel
theorem dX7_cutStandIn_0 : decode cX7_cutStandIn 0 = .ok (.aload_n 0, 1) := by decide +kernel
theorem dX7_cutStandIn_1 : decode cX7_cutStandIn 1 = .ok (.iload_n 1, 1) := by decide +kernel
theorem dX7_cutStandIn_2 : decode cX7_cutStandIn 2 = .ok (.invokevirtual 140, 3) := by decide +kernel
theorem dX7_cutStandIn_5 : decode cX7_cutStandIn 5 = .ok (.ifCond .eq 21, 3) := by decide +kernel
theorem dX7_cutStandIn_8 : decode cX7_cutStandIn 8 = .ok (.aload_n 0, 1) := by decide +kernel
theorem dX7_cutStandIn_9 : decode cX7_cutStandIn 9 = .ok (.iload_n 2, 1) := by decide +kernel
theorem dX7_cutStandIn_10 : decode cX7_cutStandIn 10 = .ok (.invokevirtual 137, 3) := by decide +kernel
theorem dX7_cutStandIn_13 : decode cX7_cutStandIn 13 = .ok (.ifCond .eq 13, 3) := by decide +kernel
theorem dX7_cutStandIn_16 : decode cX7_cutStandIn 16 = .ok (.iload_n 3, 1) := by decide +kernel
theorem dX7_cutStandIn_17 : decode cX7_cutStandIn 17 = .ok (.ifCond .lt 9, 3) := by decide +kernel
theorem dX7_cutStandIn_20 : decode cX7_cutStandIn 20 = .ok (.iload_n 3, 1) := by decide +kernel
theorem dX7_cutStandIn_21 : decode cX7_cutStandIn 21 = .ok (.bipush 14, 2) := by decide +kernel
theorem dX7_cutStandIn_23 : decode cX7_cutStandIn 23 = .ok (.if_icmp .le 6, 3) := by decide +kernel
theorem dX7_cutStandIn_26 : decode cX7_cutStandIn 26 = .ok (.ldc 65, 2) := by decide +kernel
theorem dX7_cutStandIn_28 : decode cX7_cutStandIn 28 = .ok (.ireturn, 1) := by decide +kernel
theorem dX7_cutStandIn_29 : decode cX7_cutStandIn 29 = .ok (.iload_n 2, 1) := by decide +kernel
theorem dX7_cutStandIn_30 : decode cX7_cutStandIn 30 = .ok (.aload_n 0, 1) := by decide +kernel
theorem dX7_cutStandIn_31 : decode cX7_cutStandIn 31 = .ok (.getfield 30, 3) := by decide +kernel
theorem dX7_cutStandIn_34 : decode cX7_cutStandIn 34 = .ok (.iload_n 1, 1) := by decide +kernel
theorem dX7_cutStandIn_35 : decode cX7_cutStandIn 35 = .ok (.aaload, 1) := by decide +kernel
theorem dX7_cutStandIn_36 : decode cX7_cutStandIn 36 = .ok (.invokestatic 189, 3) := by decide +kernel
theorem dX7_cutStandIn_39 : decode cX7_cutStandIn 39 = .ok (.ifCond .ne 6, 3) := by decide +kernel
theorem dX7_cutStandIn_42 : decode cX7_cutStandIn 42 = .ok (.ldc 146, 2) := by decide +kernel
theorem dX7_cutStandIn_44 : decode cX7_cutStandIn 44 = .ok (.ireturn, 1) := by decide +kernel
theorem dX7_cutStandIn_45 : decode cX7_cutStandIn 45 = .ok (.aload_n 0, 1) := by decide +kernel
theorem dX7_cutStandIn_46 : decode cX7_cutStandIn 46 = .ok (.getfield 37, 3) := by decide +kernel
theorem dX7_cutStandIn_49 : decode cX7_cutStandIn 49 = .ok (.aload_n 0, 1) := by decide +kernel
theorem dX7_cutStandIn_50 : decode cX7_cutStandIn 50 = .ok (.getfield 30, 3) := by decide +kernel
theorem dX7_cutStandIn_53 : decode cX7_cutStandIn 53 = .ok (.iload_n 1, 1) := by decide +kernel
theorem dX7_cutStandIn_54 : decode cX7_cutStandIn 54 = .ok (.aaload, 1) := by decide +kernel
theorem dX7_cutStandIn_55 : decode cX7_cutStandIn 55 = .ok (.invokevirtual 197, 3) := by decide +kernel
theorem dX7_cutStandIn_58 : decode cX7_cutStandIn 58 = .ok (.aload_n 0, 1) := by decide +kernel
theorem dX7_cutStandIn_59 : decode cX7_cutStandIn 59 = .ok (.getfield 37, 3) := by decide +kernel
theorem dX7_cutStandIn_62 : decode cX7_cutStandIn 62 = .ok (.aload_n 0, 1) := by decide +kernel
theorem dX7_cutStandIn_63 : decode cX7_cutStandIn 63 = .ok (.getfield 17, 3) := by decide +kernel
theorem dX7_cutStandIn_66 : decode cX7_cutStandIn 66 = .ok (.iload_n 2, 1) := by decide +kernel
theorem dX7_cutStandIn_67 : decode cX7_cutStandIn 67 = .ok (.aaload, 1) := by decide +kernel
theorem dX7_cutStandIn_68 : decode cX7_cutStandIn 68 = .ok (.iload_n 3, 1) := by decide +kernel
theorem dX7_cutStandIn_69 : decode cX7_cutStandIn 69 = .ok (.invokevirtual 201, 3) := by decide +kernel
theorem dX7_cutStandIn_72 : decode cX7_cutStandIn 72 = .ok (.iload_n 3, 1) := by decide +kernel
theorem dX7_cutStandIn_73 : decode cX7_cutStandIn 73 = .ok (.if_icmp .ge 6, 3) := by decide +kernel
theorem dX7_cutStandIn_76 : decode cX7_cutStandIn 76 = .ok (.ldc 65, 2) := by decide +kernel
theorem dX7_cutStandIn_78 : decode cX7_cutStandIn 78 = .ok (.ireturn, 1) := by decide +kernel
theorem dX7_cutStandIn_79 : decode cX7_cutStandIn 79 = .ok (.iconst 0, 1) := by decide +kernel
theorem dX7_cutStandIn_80 : decode cX7_cutStandIn 80 = .ok (.istore 4, 2) := by decide +kernel
theorem dX7_cutStandIn_82 : decode cX7_cutStandIn 82 = .ok (.iload 4, 2) := by decide +kernel
theorem dX7_cutStandIn_84 : decode cX7_cutStandIn 84 = .ok (.iconst 4, 1) := by decide +kernel
theorem dX7_cutStandIn_85 : decode cX7_cutStandIn 85 = .ok (.if_icmp .ge 16, 3) := by decide +kernel
theorem dX7_cutStandIn_88 : decode cX7_cutStandIn 88 = .ok (.aload_n 0, 1) := by decide +kernel
theorem dX7_cutStandIn_89 : decode cX7_cutStandIn 89 = .ok (.getfield 37, 3) := by decide +kernel
theorem dX7_cutStandIn_92 : decode cX7_cutStandIn 92 = .ok (.invokevirtual 327, 3) := by decide +kernel
theorem dX7_cutStandIn_95 : decode cX7_cutStandIn 95 = .ok (.iinc 4 1, 3) := by decide +kernel
theorem dX7_cutStandIn_98 : decode cX7_cutStandIn 98 = .ok (.goto (-16), 3) := by decide +kernel
theorem dX7_cutStandIn_101 : decode cX7_cutStandIn 101 = .ok (.iconst 0, 1) := by decide +kernel
theorem dX7_cutStandIn_102 : decode cX7_cutStandIn 102 = .ok (.ireturn, 1) := by decide +kernel
theorem dX7_drawOf_0 : decode cX7_drawOf 0 = .ok (.aload_n 1, 1) := by decide +kernel
theorem dX7_drawOf_1 : decode cX7_drawOf 1 = .ok (.getfield 330, 3) := by decide +kernel
theorem dX7_drawOf_4 : decode cX7_drawOf 4 = .ok (.iconst 1, 1) := by decide +kernel
theorem dX7_drawOf_5 : decode cX7_drawOf 5 = .ok (.iadd, 1) := by decide +kernel
theorem dX7_drawOf_6 : decode cX7_drawOf 6 = .ok (.i2l, 1) := by decide +kernel
theorem dX7_drawOf_7 : decode cX7_drawOf 7 = .ok (.ldc2_w 331, 3) := by decide +kernel
theorem dX7_drawOf_10 : decode cX7_drawOf 10 = .ok (.lmul, 1) := by decide +kernel
theorem dX7_drawOf_11 : decode cX7_drawOf 11 = .ok (.aload_n 0, 1) := by decide +kernel
theorem dX7_drawOf_12 : decode cX7_drawOf 12 = .ok (.getfield 211, 3) := by decide +kernel
theorem dX7_drawOf_15 : decode cX7_drawOf 15 = .ok (.i2l, 1) := by decide +kernel
theorem dX7_drawOf_16 : decode cX7_drawOf 16 = .ok (.ladd, 1) := by decide +kernel
theorem dX7_drawOf_17 : decode cX7_drawOf 17 = .ok (.lstore_n 2, 1) := by decide +kernel
theorem dX7_drawOf_18 : decode cX7_drawOf 18 = .ok (.lload_n 2, 1) := by decide +kernel
theorem dX7_drawOf_19 : decode cX7_drawOf 19 = .ok (.bipush 16, 2) := by decide +kernel
theorem dX7_drawOf_21 : decode cX7_drawOf 21 = .ok (.lushr, 1) := by decide +kernel
theorem dX7_drawOf_22 : decode cX7_drawOf 22 = .ok (.ldc2_w 333, 3) := by decide +kernel
theorem dX7_drawOf_25 : decode cX7_drawOf 25 = .ok (.land, 1) := by decide +kernel
theorem dX7_drawOf_26 : decode cX7_drawOf 26 = .ok (.l2i, 1) := by decide +kernel
theorem dX7_drawOf_27 : decode cX7_drawOf 27 = .ok (.bipush 100, 2) := by decide +kernel
theorem dX7_drawOf_29 : decode cX7_drawOf 29 = .ok (.irem, 1) := by decide +kernel
theorem dX7_drawOf_30 : decode cX7_drawOf 30 = .ok (.ireturn, 1) := by decide +kernel
theorem dX7_isMember_0 : decode cX7_isMember 0 = .ok (.aload_n 0, 1) := by decide +kernel
theorem dX7_isMember_1 : decode cX7_isMember 1 = .ok (.aload_n 1, 1) := by decide +kernel
theorem dX7_isMember_2 : decode cX7_isMember 2 = .ok (.invokevirtual 181, 3) := by decide +kernel
theorem dX7_isMember_5 : decode cX7_isMember 5 = .ok (.aload_n 0, 1) := by decide +kernel
theorem dX7_isMember_6 : decode cX7_isMember 6 = .ok (.getfield 44, 3) := by decide +kernel
theorem dX7_isMember_9 : decode cX7_isMember 9 = .ok (.invokevirtual 335, 3) := by decide +kernel
theorem dX7_isMember_12 : decode cX7_isMember 12 = .ok (.if_icmp .ge 7, 3) := by decide +kernel
theorem dX7_isMember_15 : decode cX7_isMember 15 = .ok (.iconst 1, 1) := by decide +kernel
theorem dX7_isMember_16 : decode cX7_isMember 16 = .ok (.goto 4, 3) := by decide +kernel
theorem dX7_isMember_19 : decode cX7_isMember 19 = .ok (.iconst 0, 1) := by decide +kernel
theorem dX7_isMember_20 : decode cX7_isMember 20 = .ok (.ireturn, 1) := by decide +kernel
theorem dX7_membersOfWave_0 : decode cX7_membersOfWave 0 = .ok (.iconst 0, 1) := by decide +kernel
theorem dX7_membersOfWave_1 : decode cX7_membersOfWave 1 = .ok (.istore_n 1, 1) := by decide +kernel
theorem dX7_membersOfWave_2 : decode cX7_membersOfWave 2 = .ok (.iconst 0, 1) := by decide +kernel
theorem dX7_membersOfWave_3 : decode cX7_membersOfWave 3 = .ok (.istore_n 2, 1) := by decide +kernel
theorem dX7_membersOfWave_4 : decode cX7_membersOfWave 4 = .ok (.iload_n 2, 1) := by decide +kernel
theorem dX7_membersOfWave_5 : decode cX7_membersOfWave 5 = .ok (.aload_n 0, 1) := by decide +kernel
theorem dX7_membersOfWave_6 : decode cX7_membersOfWave 6 = .ok (.getfield 147, 3) := by decide +kernel
theorem dX7_membersOfWave_9 : decode cX7_membersOfWave 9 = .ok (.if_icmp .ge 25, 3) := by decide +kernel
theorem dX7_membersOfWave_12 : decode cX7_membersOfWave 12 = .ok (.aload_n 0, 1) := by decide +kernel
theorem dX7_membersOfWave_13 : decode cX7_membersOfWave 13 = .ok (.aload_n 0, 1) := by decide +kernel
theorem dX7_membersOfWave_14 : decode cX7_membersOfWave 14 = .ok (.getfield 30, 3) := by decide +kernel
theorem dX7_membersOfWave_17 : decode cX7_membersOfWave 17 = .ok (.iload_n 2, 1) := by decide +kernel
theorem dX7_membersOfWave_18 : decode cX7_membersOfWave 18 = .ok (.aaload, 1) := by decide +kernel
theorem dX7_membersOfWave_19 : decode cX7_membersOfWave 19 = .ok (.invokevirtual 338, 3) := by decide +kernel
theorem dX7_membersOfWave_22 : decode cX7_membersOfWave 22 = .ok (.ifCond .eq 6, 3) := by decide +kernel
theorem dX7_membersOfWave_25 : decode cX7_membersOfWave 25 = .ok (.iinc 1 1, 3) := by decide +kernel
theorem dX7_membersOfWave_28 : decode cX7_membersOfWave 28 = .ok (.iinc 2 1, 3) := by decide +kernel
theorem dX7_membersOfWave_31 : decode cX7_membersOfWave 31 = .ok (.goto (-27), 3) := by decide +kernel
theorem dX7_membersOfWave_34 : decode cX7_membersOfWave 34 = .ok (.iload_n 1, 1) := by decide +kernel
theorem dX7_membersOfWave_35 : decode cX7_membersOfWave 35 = .ok (.ireturn, 1) := by decide +kernel
theorem dX7_isDue_0 : decode cX7_isDue 0 = .ok (.aload_n 1, 1) := by decide +kernel
theorem dX7_isDue_1 : decode cX7_isDue 1 = .ok (.aload_n 0, 1) := by decide +kernel
theorem dX7_isDue_2 : decode cX7_isDue 2 = .ok (.getfield 44, 3) := by decide +kernel
theorem dX7_isDue_5 : decode cX7_isDue 5 = .ok (.getfield 232, 3) := by decide +kernel
theorem dX7_isDue_8 : decode cX7_isDue 8 = .ok (.invokevirtual 341, 3) := by decide +kernel
theorem dX7_isDue_11 : decode cX7_isDue 11 = .ok (.ifCond .ne 26, 3) := by decide +kernel
theorem dX7_isDue_14 : decode cX7_isDue 14 = .ok (.aload_n 0, 1) := by decide +kernel
theorem dX7_isDue_15 : decode cX7_isDue 15 = .ok (.getfield 44, 3) := by decide +kernel
theorem dX7_isDue_18 : decode cX7_isDue 18 = .ok (.getfield 345, 3) := by decide +kernel
theorem dX7_isDue_21 : decode cX7_isDue 21 = .ok (.aload_n 1, 1) := by decide +kernel
theorem dX7_isDue_22 : decode cX7_isDue 22 = .ok (.getfield 330, 3) := by decide +kernel
theorem dX7_isDue_25 : decode cX7_isDue 25 = .ok (.baload, 1) := by decide +kernel
theorem dX7_isDue_26 : decode cX7_isDue 26 = .ok (.ifCond .ne 11, 3) := by decide +kernel
theorem dX7_isDue_29 : decode cX7_isDue 29 = .ok (.aload_n 0, 1) := by decide +kernel
theorem dX7_isDue_30 : decode cX7_isDue 30 = .ok (.aload_n 1, 1) := by decide +kernel
theorem dX7_isDue_31 : decode cX7_isDue 31 = .ok (.invokevirtual 338, 3) := by decide +kernel
theorem dX7_isDue_34 : decode cX7_isDue 34 = .ok (.ifCond .ne 5, 3) := by decide +kernel
theorem dX7_isDue_37 : decode cX7_isDue 37 = .ok (.iconst 0, 1) := by decide +kernel
theorem dX7_isDue_38 : decode cX7_isDue 38 = .ok (.ireturn, 1) := by decide +kernel
theorem dX7_isDue_39 : decode cX7_isDue 39 = .ok (.aload_n 1, 1) := by decide +kernel
theorem dX7_isDue_40 : decode cX7_isDue 40 = .ok (.getfield 349, 3) := by decide +kernel
theorem dX7_isDue_43 : decode cX7_isDue 43 = .ok (.ifnull 20, 3) := by decide +kernel
theorem dX7_isDue_46 : decode cX7_isDue 46 = .ok (.aload_n 1, 1) := by decide +kernel
theorem dX7_isDue_47 : decode cX7_isDue 47 = .ok (.getfield 349, 3) := by decide +kernel
theorem dX7_isDue_50 : decode cX7_isDue 50 = .ok (.aload_n 0, 1) := by decide +kernel
theorem dX7_isDue_51 : decode cX7_isDue 51 = .ok (.getfield 44, 3) := by decide +kernel
theorem dX7_isDue_54 : decode cX7_isDue 54 = .ok (.getfield 232, 3) := by decide +kernel
theorem dX7_isDue_57 : decode cX7_isDue 57 = .ok (.invokevirtual 341, 3) := by decide +kernel
theorem dX7_isDue_60 : decode cX7_isDue 60 = .ok (.ifCond .eq 7, 3) := by decide +kernel
theorem dX7_isDue_63 : decode cX7_isDue 63 = .ok (.iconst 1, 1) := by decide +kernel
theorem dX7_isDue_64 : decode cX7_isDue 64 = .ok (.goto 4, 3) := by decide +kernel
theorem dX7_isDue_67 : decode cX7_isDue 67 = .ok (.iconst 0, 1) := by decide +kernel
theorem dX7_isDue_68 : decode cX7_isDue 68 = .ok (.ireturn, 1) := by decide +kernel
theorem dX7_bytesTo_0 : decode cX7_bytesTo 0 = .ok (.aload_n 1, 1) := by decide +kernel
theorem dX7_bytesTo_1 : decode cX7_bytesTo 1 = .ok (.getfield 154, 3) := by decide +kernel
theorem dX7_bytesTo_4 : decode cX7_bytesTo 4 = .ok (.invokevirtual 158, 3) := by decide +kernel
theorem dX7_bytesTo_7 : decode cX7_bytesTo 7 = .ok (.istore_n 3, 1) := by decide +kernel
theorem dX7_bytesTo_8 : decode cX7_bytesTo 8 = .ok (.aload_n 0, 1) := by decide +kernel
theorem dX7_bytesTo_9 : decode cX7_bytesTo 9 = .ok (.iload_n 3, 1) := by decide +kernel
theorem dX7_bytesTo_10 : decode cX7_bytesTo 10 = .ok (.aload_n 2, 1) := by decide +kernel
theorem dX7_bytesTo_11 : decode cX7_bytesTo 11 = .ok (.getfield 318, 3) := by decide +kernel
theorem dX7_bytesTo_14 : decode cX7_bytesTo 14 = .ok (.invokevirtual 117, 3) := by decide +kernel
theorem dX7_bytesTo_17 : decode cX7_bytesTo 17 = .ok (.ifCond .eq 28, 3) := by decide +kernel
theorem dX7_bytesTo_20 : decode cX7_bytesTo 20 = .ok (.aload_n 0, 1) := by decide +kernel
theorem dX7_bytesTo_21 : decode cX7_bytesTo 21 = .ok (.getfield 24, 3) := by decide +kernel
theorem dX7_bytesTo_24 : decode cX7_bytesTo 24 = .ok (.iload_n 3, 1) := by decide +kernel
theorem dX7_bytesTo_25 : decode cX7_bytesTo 25 = .ok (.aload_n 2, 1) := by decide +kernel
theorem dX7_bytesTo_26 : decode cX7_bytesTo 26 = .ok (.getfield 318, 3) := by decide +kernel
theorem dX7_bytesTo_29 : decode cX7_bytesTo 29 = .ok (.invokevirtual 124, 3) := by decide +kernel
theorem dX7_bytesTo_32 : decode cX7_bytesTo 32 = .ok (.ifCond .eq 13, 3) := by decide +kernel
theorem dX7_bytesTo_35 : decode cX7_bytesTo 35 = .ok (.aload_n 0, 1) := by decide +kernel
theorem dX7_bytesTo_36 : decode cX7_bytesTo 36 = .ok (.getfield 24, 3) := by decide +kernel
theorem dX7_bytesTo_39 : decode cX7_bytesTo 39 = .ok (.getfield 128, 3) := by decide +kernel
theorem dX7_bytesTo_42 : decode cX7_bytesTo 42 = .ok (.iload_n 3, 1) := by decide +kernel
theorem dX7_bytesTo_43 : decode cX7_bytesTo 43 = .ok (.iaload, 1) := by decide +kernel
theorem dX7_bytesTo_44 : decode cX7_bytesTo 44 = .ok (.ireturn, 1) := by decide +kernel
theorem dX7_bytesTo_45 : decode cX7_bytesTo 45 = .ok (.aload_n 2, 1) := by decide +kernel
theorem dX7_bytesTo_46 : decode cX7_bytesTo 46 = .ok (.getfield 352, 3) := by decide +kernel
theorem dX7_bytesTo_49 : decode cX7_bytesTo 49 = .ok (.bipush 100, 2) := by decide +kernel
theorem dX7_bytesTo_51 : decode cX7_bytesTo 51 = .ok (.imul, 1) := by decide +kernel
theorem dX7_bytesTo_52 : decode cX7_bytesTo 52 = .ok (.ireturn, 1) := by decide +kernel
theorem dX7_devicesAtLeastAt_0 : decode cX7_devicesAtLeastAt 0 = .ok (.iconst 0, 1) := by decide +kernel
theorem dX7_devicesAtLeastAt_1 : decode cX7_devicesAtLeastAt 1 = .ok (.istore_n 2, 1) := by decide +kernel
theorem dX7_devicesAtLeastAt_2 : decode cX7_devicesAtLeastAt 2 = .ok (.iconst 0, 1) := by decide +kernel
theorem dX7_devicesAtLeastAt_3 : decode cX7_devicesAtLeastAt 3 = .ok (.istore_n 3, 1) := by decide +kernel
theorem dX7_devicesAtLeastAt_4 : decode cX7_devicesAtLeastAt 4 = .ok (.iload_n 3, 1) := by decide +kernel
theorem dX7_devicesAtLeastAt_5 : decode cX7_devicesAtLeastAt 5 = .ok (.aload_n 0, 1) := by decide +kernel
theorem dX7_devicesAtLeastAt_6 : decode cX7_devicesAtLeastAt 6 = .ok (.getfield 147, 3) := by decide +kernel
theorem dX7_devicesAtLeastAt_9 : decode cX7_devicesAtLeastAt 9 = .ok (.if_icmp .ge 25, 3) := by decide +kernel
theorem dX7_devicesAtLeastAt_12 : decode cX7_devicesAtLeastAt 12 = .ok (.aload_n 0, 1) := by decide +kernel
theorem dX7_devicesAtLeastAt_13 : decode cX7_devicesAtLeastAt 13 = .ok (.getfield 30, 3) := by decide +kernel
theorem dX7_devicesAtLeastAt_16 : decode cX7_devicesAtLeastAt 16 = .ok (.iload_n 3, 1) := by decide +kernel
theorem dX7_devicesAtLeastAt_17 : decode cX7_devicesAtLeastAt 17 = .ok (.aaload, 1) := by decide +kernel
theorem dX7_devicesAtLeastAt_18 : decode cX7_devicesAtLeastAt 18 = .ok (.aload_n 1, 1) := by decide +kernel
theorem dX7_devicesAtLeastAt_19 : decode cX7_devicesAtLeastAt 19 = .ok (.invokevirtual 341, 3) := by decide +kernel
theorem dX7_devicesAtLeastAt_22 : decode cX7_devicesAtLeastAt 22 = .ok (.ifCond .eq 6, 3) := by decide +kernel
theorem dX7_devicesAtLeastAt_25 : decode cX7_devicesAtLeastAt 25 = .ok (.iinc 2 1, 3) := by decide +kernel
theorem dX7_devicesAtLeastAt_28 : decode cX7_devicesAtLeastAt 28 = .ok (.iinc 3 1, 3) := by decide +kernel
theorem dX7_devicesAtLeastAt_31 : decode cX7_devicesAtLeastAt 31 = .ok (.goto (-27), 3) := by decide +kernel
theorem dX7_devicesAtLeastAt_34 : decode cX7_devicesAtLeastAt 34 = .ok (.iload_n 2, 1) := by decide +kernel
theorem dX7_devicesAtLeastAt_35 : decode cX7_devicesAtLeastAt 35 = .ok (.ireturn, 1) := by decide +kernel
theorem dX7_isHalting_0 : decode cX7_isHalting 0 = .ok (.iload_n 0, 1) := by decide +kernel
theorem dX7_isHalting_1 : decode cX7_isHalting 1 = .ok (.bipush 10, 2) := by decide +kernel
theorem dX7_isHalting_3 : decode cX7_isHalting 3 = .ok (.imul, 1) := by decide +kernel
theorem dX7_isHalting_4 : decode cX7_isHalting 4 = .ok (.iload_n 2, 1) := by decide +kernel
theorem dX7_isHalting_5 : decode cX7_isHalting 5 = .ok (.iload_n 1, 1) := by decide +kernel
theorem dX7_isHalting_6 : decode cX7_isHalting 6 = .ok (.imul, 1) := by decide +kernel
theorem dX7_isHalting_7 : decode cX7_isHalting 7 = .ok (.if_icmp .le 7, 3) := by decide +kernel
theorem dX7_isHalting_10 : decode cX7_isHalting 10 = .ok (.iconst 1, 1) := by decide +kernel
theorem dX7_isHalting_11 : decode cX7_isHalting 11 = .ok (.goto 4, 3) := by decide +kernel
theorem dX7_isHalting_14 : decode cX7_isHalting 14 = .ok (.iconst 0, 1) := by decide +kernel
theorem dX7_isHalting_15 : decode cX7_isHalting 15 = .ok (.ireturn, 1) := by decide +kernel
theorem dX7_choices_0 : decode cX7_choices 0 = .ok (.lconst 1, 1) := by decide +kernel
theorem dX7_choices_1 : decode cX7_choices 1 = .ok (.lstore_n 2, 1) := by decide +kernel
theorem dX7_choices_2 : decode cX7_choices 2 = .ok (.iconst 1, 1) := by decide +kernel
theorem dX7_choices_3 : decode cX7_choices 3 = .ok (.istore 4, 2) := by decide +kernel
theorem dX7_choices_5 : decode cX7_choices 5 = .ok (.iload 4, 2) := by decide +kernel
theorem dX7_choices_7 : decode cX7_choices 7 = .ok (.iload_n 1, 1) := by decide +kernel
theorem dX7_choices_8 : decode cX7_choices 8 = .ok (.if_icmp .gt 23, 3) := by decide +kernel
theorem dX7_choices_11 : decode cX7_choices 11 = .ok (.lload_n 2, 1) := by decide +kernel
theorem dX7_choices_12 : decode cX7_choices 12 = .ok (.iload_n 0, 1) := by decide +kernel
theorem dX7_choices_13 : decode cX7_choices 13 = .ok (.iload_n 1, 1) := by decide +kernel
theorem dX7_choices_14 : decode cX7_choices 14 = .ok (.isub, 1) := by decide +kernel
theorem dX7_choices_15 : decode cX7_choices 15 = .ok (.iload 4, 2) := by decide +kernel
theorem dX7_choices_17 : decode cX7_choices 17 = .ok (.iadd, 1) := by decide +kernel
theorem dX7_choices_18 : decode cX7_choices 18 = .ok (.i2l, 1) := by decide +kernel
theorem dX7_choices_19 : decode cX7_choices 19 = .ok (.lmul, 1) := by decide +kernel
theorem dX7_choices_20 : decode cX7_choices 20 = .ok (.iload 4, 2) := by decide +kernel
theorem dX7_choices_22 : decode cX7_choices 22 = .ok (.i2l, 1) := by decide +kernel
theorem dX7_choices_23 : decode cX7_choices 23 = .ok (.ldiv, 1) := by decide +kernel
theorem dX7_choices_24 : decode cX7_choices 24 = .ok (.lstore_n 2, 1) := by decide +kernel
theorem dX7_choices_25 : decode cX7_choices 25 = .ok (.iinc 4 1, 3) := by decide +kernel
theorem dX7_choices_28 : decode cX7_choices 28 = .ok (.goto (-23), 3) := by decide +kernel
theorem dX7_choices_31 : decode cX7_choices 31 = .ok (.lload_n 2, 1) := by decide +kernel
theorem dX7_choices_32 : decode cX7_choices 32 = .ok (.lreturn, 1) := by decide +kernel
theorem dX7_raised_0 : decode cX7_raised 0 = .ok (.lconst 1, 1) := by decide +kernel
theorem dX7_raised_1 : decode cX7_raised 1 = .ok (.lstore_n 2, 1) := by decide +kernel
theorem dX7_raised_2 : decode cX7_raised 2 = .ok (.iconst 0, 1) := by decide +kernel
theorem dX7_raised_3 : decode cX7_raised 3 = .ok (.istore 4, 2) := by decide +kernel
theorem dX7_raised_5 : decode cX7_raised 5 = .ok (.iload 4, 2) := by decide +kernel
theorem dX7_raised_7 : decode cX7_raised 7 = .ok (.iload_n 1, 1) := by decide +kernel
theorem dX7_raised_8 : decode cX7_raised 8 = .ok (.if_icmp .ge 14, 3) := by decide +kernel
theorem dX7_raised_11 : decode cX7_raised 11 = .ok (.lload_n 2, 1) := by decide +kernel
theorem dX7_raised_12 : decode cX7_raised 12 = .ok (.iload_n 0, 1) := by decide +kernel
theorem dX7_raised_13 : decode cX7_raised 13 = .ok (.i2l, 1) := by decide +kernel
theorem dX7_raised_14 : decode cX7_raised 14 = .ok (.lmul, 1) := by decide +kernel
theorem dX7_raised_15 : decode cX7_raised 15 = .ok (.lstore_n 2, 1) := by decide +kernel
theorem dX7_raised_16 : decode cX7_raised 16 = .ok (.iinc 4 1, 3) := by decide +kernel
theorem dX7_raised_19 : decode cX7_raised 19 = .ok (.goto (-14), 3) := by decide +kernel
theorem dX7_raised_22 : decode cX7_raised 22 = .ok (.lload_n 2, 1) := by decide +kernel
theorem dX7_raised_23 : decode cX7_raised 23 = .ok (.lreturn, 1) := by decide +kernel
theorem dX7_isFresh_0 : decode cX7_isFresh 0 = .ok (.aload_n 1, 1) := by decide +kernel
theorem dX7_isFresh_1 : decode cX7_isFresh 1 = .ok (.getfield 154, 3) := by decide +kernel
theorem dX7_isFresh_4 : decode cX7_isFresh 4 = .ok (.invokevirtual 158, 3) := by decide +kernel
theorem dX7_isFresh_7 : decode cX7_isFresh 7 = .ok (.aload_n 0, 1) := by decide +kernel
theorem dX7_isFresh_8 : decode cX7_isFresh 8 = .ok (.getfield 109, 3) := by decide +kernel
theorem dX7_isFresh_11 : decode cX7_isFresh 11 = .ok (.iconst 1, 1) := by decide +kernel
theorem dX7_isFresh_12 : decode cX7_isFresh 12 = .ok (.isub, 1) := by decide +kernel
theorem dX7_isFresh_13 : decode cX7_isFresh 13 = .ok (.if_icmp .ne 7, 3) := by decide +kernel
theorem dX7_isFresh_16 : decode cX7_isFresh 16 = .ok (.iconst 1, 1) := by decide +kernel
theorem dX7_isFresh_17 : decode cX7_isFresh 17 = .ok (.goto 4, 3) := by decide +kernel
theorem dX7_isFresh_20 : decode cX7_isFresh 20 = .ok (.iconst 0, 1) := by decide +kernel
theorem dX7_isFresh_21 : decode cX7_isFresh 21 = .ok (.ireturn, 1) := by decide +kernel
theorem dX7_kindOf_0 : decode cX7_kindOf 0 = .ok (.aload_n 0, 1) := by decide +kernel
theorem dX7_kindOf_1 : decode cX7_kindOf 1 = .ok (.aload_n 1, 1) := by decide +kernel
theorem dX7_kindOf_2 : decode cX7_kindOf 2 = .ok (.invokevirtual 324, 3) := by decide +kernel
theorem dX7_kindOf_5 : decode cX7_kindOf 5 = .ok (.ifCond .eq 16, 3) := by decide +kernel
theorem dX7_kindOf_8 : decode cX7_kindOf 8 = .ok (.aload_n 1, 1) := by decide +kernel
theorem dX7_kindOf_9 : decode cX7_kindOf 9 = .ok (.getfield 178, 3) := by decide +kernel
theorem dX7_kindOf_12 : decode cX7_kindOf 12 = .ok (.ifCond .ne 7, 3) := by decide +kernel
theorem dX7_kindOf_15 : decode cX7_kindOf 15 = .ok (.iconst 2, 1) := by decide +kernel
theorem dX7_kindOf_16 : decode cX7_kindOf 16 = .ok (.goto 4, 3) := by decide +kernel
theorem dX7_kindOf_19 : decode cX7_kindOf 19 = .ok (.iconst 1, 1) := by decide +kernel
theorem dX7_kindOf_20 : decode cX7_kindOf 20 = .ok (.ireturn, 1) := by decide +kernel
theorem dX7_kindOf_21 : decode cX7_kindOf 21 = .ok (.aload_n 1, 1) := by decide +kernel
theorem dX7_kindOf_22 : decode cX7_kindOf 22 = .ok (.getfield 321, 3) := by decide +kernel
theorem dX7_kindOf_25 : decode cX7_kindOf 25 = .ok (.iconst 2, 1) := by decide +kernel
theorem dX7_kindOf_26 : decode cX7_kindOf 26 = .ok (.if_icmp .lt 7, 3) := by decide +kernel
theorem dX7_kindOf_29 : decode cX7_kindOf 29 = .ok (.iconst 3, 1) := by decide +kernel
theorem dX7_kindOf_30 : decode cX7_kindOf 30 = .ok (.goto 4, 3) := by decide +kernel
theorem dX7_kindOf_33 : decode cX7_kindOf 33 = .ok (.iconst 0, 1) := by decide +kernel
theorem dX7_kindOf_34 : decode cX7_kindOf 34 = .ok (.ireturn, 1) := by decide +kernel
theorem dX7_isOfKind_0 : decode cX7_isOfKind 0 = .ok (.aload_n 0, 1) := by decide +kernel
theorem dX7_isOfKind_1 : decode cX7_isOfKind 1 = .ok (.aload_n 1, 1) := by decide +kernel
theorem dX7_isOfKind_2 : decode cX7_isOfKind 2 = .ok (.invokevirtual 279, 3) := by decide +kernel
theorem dX7_isOfKind_5 : decode cX7_isOfKind 5 = .ok (.istore_n 3, 1) := by decide +kernel
theorem dX7_isOfKind_6 : decode cX7_isOfKind 6 = .ok (.iload_n 2, 1) := by decide +kernel
theorem dX7_isOfKind_7 : decode cX7_isOfKind 7 = .ok (.ifCond .eq 18, 3) := by decide +kernel
theorem dX7_isOfKind_10 : decode cX7_isOfKind 10 = .ok (.iload_n 2, 1) := by decide +kernel
theorem dX7_isOfKind_11 : decode cX7_isOfKind 11 = .ok (.iload_n 3, 1) := by decide +kernel
theorem dX7_isOfKind_12 : decode cX7_isOfKind 12 = .ok (.if_icmp .eq 13, 3) := by decide +kernel
theorem dX7_isOfKind_15 : decode cX7_isOfKind 15 = .ok (.iload_n 2, 1) := by decide +kernel
theorem dX7_isOfKind_16 : decode cX7_isOfKind 16 = .ok (.iconst 1, 1) := by decide +kernel
theorem dX7_isOfKind_17 : decode cX7_isOfKind 17 = .ok (.if_icmp .ne 12, 3) := by decide +kernel
theorem dX7_isOfKind_20 : decode cX7_isOfKind 20 = .ok (.iload_n 3, 1) := by decide +kernel
theorem dX7_isOfKind_21 : decode cX7_isOfKind 21 = .ok (.iconst 2, 1) := by decide +kernel
theorem dX7_isOfKind_22 : decode cX7_isOfKind 22 = .ok (.if_icmp .ne 7, 3) := by decide +kernel
theorem dX7_isOfKind_25 : decode cX7_isOfKind 25 = .ok (.iconst 1, 1) := by decide +kernel
theorem dX7_isOfKind_26 : decode cX7_isOfKind 26 = .ok (.goto 4, 3) := by decide +kernel
theorem dX7_isOfKind_29 : decode cX7_isOfKind 29 = .ok (.iconst 0, 1) := by decide +kernel
theorem dX7_isOfKind_30 : decode cX7_isOfKind 30 = .ok (.ireturn, 1) := by decide +kernel
theorem dX7_sheetsThere_0 : decode cX7_sheetsThere 0 = .ok (.iconst 0, 1) := by decide +kernel
theorem dX7_sheetsThere_1 : decode cX7_sheetsThere 1 = .ok (.istore_n 1, 1) := by decide +kernel
theorem dX7_sheetsThere_2 : decode cX7_sheetsThere 2 = .ok (.iconst 0, 1) := by decide +kernel
theorem dX7_sheetsThere_3 : decode cX7_sheetsThere 3 = .ok (.istore_n 2, 1) := by decide +kernel
theorem dX7_sheetsThere_4 : decode cX7_sheetsThere 4 = .ok (.iload_n 2, 1) := by decide +kernel
theorem dX7_sheetsThere_5 : decode cX7_sheetsThere 5 = .ok (.bipush 8, 2) := by decide +kernel
theorem dX7_sheetsThere_7 : decode cX7_sheetsThere 7 = .ok (.if_icmp .ge 24, 3) := by decide +kernel
theorem dX7_sheetsThere_10 : decode cX7_sheetsThere 10 = .ok (.aload_n 0, 1) := by decide +kernel
theorem dX7_sheetsThere_11 : decode cX7_sheetsThere 11 = .ok (.getfield 11, 3) := by decide +kernel
theorem dX7_sheetsThere_14 : decode cX7_sheetsThere 14 = .ok (.iload_n 2, 1) := by decide +kernel
theorem dX7_sheetsThere_15 : decode cX7_sheetsThere 15 = .ok (.aaload, 1) := by decide +kernel
theorem dX7_sheetsThere_16 : decode cX7_sheetsThere 16 = .ok (.getfield 77, 3) := by decide +kernel
theorem dX7_sheetsThere_19 : decode cX7_sheetsThere 19 = .ok (.ifCond .ne 6, 3) := by decide +kernel
theorem dX7_sheetsThere_22 : decode cX7_sheetsThere 22 = .ok (.iinc 1 1, 3) := by decide +kernel
theorem dX7_sheetsThere_25 : decode cX7_sheetsThere 25 = .ok (.iinc 2 1, 3) := by decide +kernel
theorem dX7_sheetsThere_28 : decode cX7_sheetsThere 28 = .ok (.goto (-24), 3) := by decide +kernel
theorem dX7_sheetsThere_31 : decode cX7_sheetsThere 31 = .ok (.iload_n 1, 1) := by decide +kernel
theorem dX7_sheetsThere_32 : decode cX7_sheetsThere 32 = .ok (.ireturn, 1) := by decide +kernel
theorem dX7_devicesAlive_0 : decode cX7_devicesAlive 0 = .ok (.iconst 0, 1) := by decide +kernel
theorem dX7_devicesAlive_1 : decode cX7_devicesAlive 1 = .ok (.istore_n 1, 1) := by decide +kernel
theorem dX7_devicesAlive_2 : decode cX7_devicesAlive 2 = .ok (.iconst 0, 1) := by decide +kernel
theorem dX7_devicesAlive_3 : decode cX7_devicesAlive 3 = .ok (.istore_n 2, 1) := by decide +kernel
theorem dX7_devicesAlive_4 : decode cX7_devicesAlive 4 = .ok (.iload_n 2, 1) := by decide +kernel
theorem dX7_devicesAlive_5 : decode cX7_devicesAlive 5 = .ok (.aload_n 0, 1) := by decide +kernel
theorem dX7_devicesAlive_6 : decode cX7_devicesAlive 6 = .ok (.getfield 147, 3) := by decide +kernel
theorem dX7_devicesAlive_9 : decode cX7_devicesAlive 9 = .ok (.if_icmp .ge 24, 3) := by decide +kernel
theorem dX7_devicesAlive_12 : decode cX7_devicesAlive 12 = .ok (.aload_n 0, 1) := by decide +kernel
theorem dX7_devicesAlive_13 : decode cX7_devicesAlive 13 = .ok (.getfield 30, 3) := by decide +kernel
theorem dX7_devicesAlive_16 : decode cX7_devicesAlive 16 = .ok (.iload_n 2, 1) := by decide +kernel
theorem dX7_devicesAlive_17 : decode cX7_devicesAlive 17 = .ok (.aaload, 1) := by decide +kernel
theorem dX7_devicesAlive_18 : decode cX7_devicesAlive 18 = .ok (.invokevirtual 185, 3) := by decide +kernel
theorem dX7_devicesAlive_21 : decode cX7_devicesAlive 21 = .ok (.ifCond .eq 6, 3) := by decide +kernel
theorem dX7_devicesAlive_24 : decode cX7_devicesAlive 24 = .ok (.iinc 1 1, 3) := by decide +kernel
theorem dX7_devicesAlive_27 : decode cX7_devicesAlive 27 = .ok (.iinc 2 1, 3) := by decide +kernel
theorem dX7_devicesAlive_30 : decode cX7_devicesAlive 30 = .ok (.goto (-26), 3) := by decide +kernel
theorem dX7_devicesAlive_33 : decode cX7_devicesAlive 33 = .ok (.iload_n 1, 1) := by decide +kernel
theorem dX7_devicesAlive_34 : decode cX7_devicesAlive 34 = .ok (.ireturn, 1) := by decide +kernel
theorem dX7_devicesTold_0 : decode cX7_devicesTold 0 = .ok (.iconst 0, 1) := by decide +kernel
theorem dX7_devicesTold_1 : decode cX7_devicesTold 1 = .ok (.istore_n 2, 1) := by decide +kernel
theorem dX7_devicesTold_2 : decode cX7_devicesTold 2 = .ok (.iconst 0, 1) := by decide +kernel
theorem dX7_devicesTold_3 : decode cX7_devicesTold 3 = .ok (.istore_n 3, 1) := by decide +kernel
theorem dX7_devicesTold_4 : decode cX7_devicesTold 4 = .ok (.iload_n 3, 1) := by decide +kernel
theorem dX7_devicesTold_5 : decode cX7_devicesTold 5 = .ok (.aload_n 0, 1) := by decide +kernel
theorem dX7_devicesTold_6 : decode cX7_devicesTold 6 = .ok (.getfield 147, 3) := by decide +kernel
theorem dX7_devicesTold_9 : decode cX7_devicesTold 9 = .ok (.if_icmp .ge 26, 3) := by decide +kernel
theorem dX7_devicesTold_12 : decode cX7_devicesTold 12 = .ok (.aload_n 0, 1) := by decide +kernel
theorem dX7_devicesTold_13 : decode cX7_devicesTold 13 = .ok (.aload_n 0, 1) := by decide +kernel
theorem dX7_devicesTold_14 : decode cX7_devicesTold 14 = .ok (.getfield 30, 3) := by decide +kernel
theorem dX7_devicesTold_17 : decode cX7_devicesTold 17 = .ok (.iload_n 3, 1) := by decide +kernel
theorem dX7_devicesTold_18 : decode cX7_devicesTold 18 = .ok (.aaload, 1) := by decide +kernel
theorem dX7_devicesTold_19 : decode cX7_devicesTold 19 = .ok (.invokevirtual 279, 3) := by decide +kernel
theorem dX7_devicesTold_22 : decode cX7_devicesTold 22 = .ok (.iload_n 1, 1) := by decide +kernel
theorem dX7_devicesTold_23 : decode cX7_devicesTold 23 = .ok (.if_icmp .ne 6, 3) := by decide +kernel
theorem dX7_devicesTold_26 : decode cX7_devicesTold 26 = .ok (.iinc 2 1, 3) := by decide +kernel
theorem dX7_devicesTold_29 : decode cX7_devicesTold 29 = .ok (.iinc 3 1, 3) := by decide +kernel
theorem dX7_devicesTold_32 : decode cX7_devicesTold 32 = .ok (.goto (-28), 3) := by decide +kernel
theorem dX7_devicesTold_35 : decode cX7_devicesTold 35 = .ok (.iload_n 2, 1) := by decide +kernel
theorem dX7_devicesTold_36 : decode cX7_devicesTold 36 = .ok (.ireturn, 1) := by decide +kernel
end
section
theorem dX8_init_0 : decode cX8_init 0 = .ok (.aload_n 0, 1) := by decide +kernel
theorem dX8_init_1 : decode cX8_init 1 = .ok (.invokespecial 1, 3) := by decide +kernel
theorem dX8_init_4 : decode cX8_init 4 = .ok (.aload_n 0, 1) := by decide +kernel
theorem dX8_init_5 : decode cX8_init 5 = .ok (.bipush 8, 2) := by decide +kernel
theorem dX8_init_7 : decode cX8_init 7 = .ok (.newarray .int, 2) := by decide +kernel
theorem dX8_init_9 : decode cX8_init 9 = .ok (.dup, 1) := by decide +kernel
theorem dX8_init_10 : decode cX8_init 10 = .ok (.iconst 0, 1) := by decide +kernel
theorem dX8_init_11 : decode cX8_init 11 = .ok (.iconst (-1), 1) := by decide +kernel
theorem dX8_init_12 : decode cX8_init 12 = .ok (.iastore, 1) := by decide +kernel
theorem dX8_init_13 : decode cX8_init 13 = .ok (.dup, 1) := by decide +kernel
theorem dX8_init_14 : decode cX8_init 14 = .ok (.iconst 1, 1) := by decide +kernel
theorem dX8_init_15 : decode cX8_init 15 = .ok (.iconst (-1), 1) := by decide +kernel
theorem dX8_init_16 : decode cX8_init 16 = .ok (.iastore, 1) := by decide +kernel
theorem dX8_init_17 : decode cX8_init 17 = .ok (.dup, 1) := by decide +kernel
theorem dX8_init_18 : decode cX8_init 18 = .ok (.iconst 2, 1) := by decide +kernel
theorem dX8_init_19 : decode cX8_init 19 = .ok (.iconst (-1), 1) := by decide +kernel
theorem dX8_init_20 : decode cX8_init 20 = .ok (.iastore, 1) := by decide +kernel
theorem dX8_init_21 : decode cX8_init 21 = .ok (.dup, 1) := by decide +kernel
theorem dX8_init_22 : decode cX8_init 22 = .ok (.iconst 3, 1) := by decide +kernel
theorem dX8_init_23 : decode cX8_init 23 = .ok (.iconst (-1), 1) := by decide +kernel
theorem dX8_init_24 : decode cX8_init 24 = .ok (.iastore, 1) := by decide +kernel
theorem dX8_init_25 : decode cX8_init 25 = .ok (.dup, 1) := by decide +kernel
theorem dX8_init_26 : decode cX8_init 26 = .ok (.iconst 4, 1) := by decide +kernel
theorem dX8_init_27 : decode cX8_init 27 = .ok (.iconst (-1), 1) := by decide +kernel
theorem dX8_init_28 : decode cX8_init 28 = .ok (.iastore, 1) := by decide +kernel
theorem dX8_init_29 : decode cX8_init 29 = .ok (.dup, 1) := by decide +kernel
theorem dX8_init_30 : decode cX8_init 30 = .ok (.iconst 5, 1) := by decide +kernel
theorem dX8_init_31 : decode cX8_init 31 = .ok (.iconst (-1), 1) := by decide +kernel
theorem dX8_init_32 : decode cX8_init 32 = .ok (.iastore, 1) := by decide +kernel
theorem dX8_init_33 : decode cX8_init 33 = .ok (.dup, 1) := by decide +kernel
theorem dX8_init_34 : decode cX8_init 34 = .ok (.bipush 6, 2) := by decide +kernel
theorem dX8_init_36 : decode cX8_init 36 = .ok (.iconst (-1), 1) := by decide +kernel
theorem dX8_init_37 : decode cX8_init 37 = .ok (.iastore, 1) := by decide +kernel
theorem dX8_init_38 : decode cX8_init 38 = .ok (.dup, 1) := by decide +kernel
theorem dX8_init_39 : decode cX8_init 39 = .ok (.bipush 7, 2) := by decide +kernel
theorem dX8_init_41 : decode cX8_init 41 = .ok (.iconst (-1), 1) := by decide +kernel
theorem dX8_init_42 : decode cX8_init 42 = .ok (.iastore, 1) := by decide +kernel
theorem dX8_init_43 : decode cX8_init 43 = .ok (.putfield 7, 3) := by decide +kernel
theorem dX8_init_46 : decode cX8_init 46 = .ok (.aload_n 0, 1) := by decide +kernel
theorem dX8_init_47 : decode cX8_init 47 = .ok (.bipush 8, 2) := by decide +kernel
theorem dX8_init_49 : decode cX8_init 49 = .ok (.newarray .int, 2) := by decide +kernel
theorem dX8_init_51 : decode cX8_init 51 = .ok (.putfield 13, 3) := by decide +kernel
theorem dX8_init_54 : decode cX8_init 54 = .ok (.aload_n 0, 1) := by decide +kernel
theorem dX8_init_55 : decode cX8_init 55 = .ok (.sipush 480, 3) := by decide +kernel
theorem dX8_init_58 : decode cX8_init 58 = .ok (.newarray .int, 2) := by decide +kernel
theorem dX8_init_60 : decode cX8_init 60 = .ok (.putfield 16, 3) := by decide +kernel
theorem dX8_init_63 : decode cX8_init 63 = .ok (.aload_n 0, 1) := by decide +kernel
theorem dX8_init_64 : decode cX8_init 64 = .ok (.bipush 10, 2) := by decide +kernel
theorem dX8_init_66 : decode cX8_init 66 = .ok (.newarray .int, 2) := by decide +kernel
theorem dX8_init_68 : decode cX8_init 68 = .ok (.putfield 19, 3) := by decide +kernel
theorem dX8_init_71 : decode cX8_init 71 = .ok (.aload_n 0, 1) := by decide +kernel
theorem dX8_init_72 : decode cX8_init 72 = .ok (.bipush 10, 2) := by decide +kernel
theorem dX8_init_74 : decode cX8_init 74 = .ok (.newarray .int, 2) := by decide +kernel
theorem dX8_init_76 : decode cX8_init 76 = .ok (.putfield 22, 3) := by decide +kernel
theorem dX8_init_79 : decode cX8_init 79 = .ok (.aload_n 0, 1) := by decide +kernel
theorem dX8_init_80 : decode cX8_init 80 = .ok (.bipush 10, 2) := by decide +kernel
theorem dX8_init_82 : decode cX8_init 82 = .ok (.newarray .int, 2) := by decide +kernel
theorem dX8_init_84 : decode cX8_init 84 = .ok (.putfield 25, 3) := by decide +kernel
theorem dX8_init_87 : decode cX8_init 87 = .ok (.aload_n 0, 1) := by decide +kernel
theorem dX8_init_88 : decode cX8_init 88 = .ok (.bipush 100, 2) := by decide +kernel
theorem dX8_init_90 : decode cX8_init 90 = .ok (.newarray .int, 2) := by decide +kernel
theorem dX8_init_92 : decode cX8_init 92 = .ok (.putfield 28, 3) := by decide +kernel
theorem dX8_init_95 : decode cX8_init 95 = .ok (.aload_n 0, 1) := by decide +kernel
theorem dX8_init_96 : decode cX8_init 96 = .ok (.bipush 10, 2) := by decide +kernel
theorem dX8_init_98 : decode cX8_init 98 = .ok (.newarray .int, 2) := by decide +kernel
theorem dX8_init_100 : decode cX8_init 100 = .ok (.putfield 31, 3) := by decide +kernel
theorem dX8_init_103 : decode cX8_init 103 = .ok (.aload_n 0, 1) := by decide +kernel
theorem dX8_init_104 : decode cX8_init 104 = .ok (.bipush 10, 2) := by decide +kernel
theorem dX8_init_106 : decode cX8_init 106 = .ok (.newarray .int, 2) := by decide +kernel
theorem dX8_init_108 : decode cX8_init 108 = .ok (.putfield 34, 3) := by decide +kernel
theorem dX8_init_111 : decode cX8_init 111 = .ok (.aload_n 0, 1) := by decide +kernel
theorem dX8_init_112 : decode cX8_init 112 = .ok (.bipush 10, 2) := by decide +kernel
theorem dX8_init_114 : decode cX8_init 114 = .ok (.newarray .int, 2) := by decide +kernel
theorem dX8_init_116 : decode cX8_init 116 = .ok (.putfield 37, 3) := by decide +kernel
theorem dX8_init_119 : decode cX8_init 119 = .ok (.aload_n 0, 1) := by decide +kernel
theorem dX8_init_120 : decode cX8_init 120 = .ok (.bipush 30, 2) := by decide +kernel
theorem dX8_init_122 : decode cX8_init 122 = .ok (.newarray .int, 2) := by decide +kernel
theorem dX8_init_124 : decode cX8_init 124 = .ok (.putfield 40, 3) := by decide +kernel
theorem dX8_init_127 : decode cX8_init 127 = .ok (.aload_n 0, 1) := by decide +kernel
theorem dX8_init_128 : decode cX8_init 128 = .ok (.bipush 30, 2) := by decide +kernel
theorem dX8_init_130 : decode cX8_init 130 = .ok (.newarray .int, 2) := by decide +kernel
theorem dX8_init_132 : decode cX8_init 132 = .ok (.putfield 43, 3) := by decide +kernel
theorem dX8_init_135 : decode cX8_init 135 = .ok (.aload_n 0, 1) := by decide +kernel
theorem dX8_init_136 : decode cX8_init 136 = .ok (.bipush 30, 2) := by decide +kernel
theorem dX8_init_138 : decode cX8_init 138 = .ok (.newarray .int, 2) := by decide +kernel
theorem dX8_init_140 : decode cX8_init 140 = .ok (.putfield 46, 3) := by decide +kernel
theorem dX8_init_143 : decode cX8_init 143 = .ok (.aload_n 0, 1) := by decide +kernel
theorem dX8_init_144 : decode cX8_init 144 = .ok (.bipush 60, 2) := by decide +kernel
theorem dX8_init_146 : decode cX8_init 146 = .ok (.newarray .int, 2) := by decide +kernel
theorem dX8_init_148 : decode cX8_init 148 = .ok (.putfield 49, 3) := by decide +kernel
theorem dX8_init_151 : decode cX8_init 151 = .ok (.aload_n 0, 1) := by decide +kernel
theorem dX8_init_152 : decode cX8_init 152 = .ok (.bipush 60, 2) := by decide +kernel
theorem dX8_init_154 : decode cX8_init 154 = .ok (.newarray .int, 2) := by decide +kernel
theorem dX8_init_156 : decode cX8_init 156 = .ok (.putfield 52, 3) := by decide +kernel
theorem dX8_init_159 : decode cX8_init 159 = .ok (.aload_n 0, 1) := by decide +kernel
theorem dX8_init_160 : decode cX8_init 160 = .ok (.bipush 30, 2) := by decide +kernel
theorem dX8_init_162 : decode cX8_init 162 = .ok (.newarray .boolean, 2) := by decide +kernel
theorem dX8_init_164 : decode cX8_init 164 = .ok (.putfield 55, 3) := by decide +kernel
theorem dX8_init_167 : decode cX8_init 167 = .ok (.aload_n 0, 1) := by decide +kernel
theorem dX8_init_168 : decode cX8_init 168 = .ok (.bipush 30, 2) := by decide +kernel
theorem dX8_init_170 : decode cX8_init 170 = .ok (.newarray .int, 2) := by decide +kernel
theorem dX8_init_172 : decode cX8_init 172 = .ok (.putfield 59, 3) := by decide +kernel
theorem dX8_init_175 : decode cX8_init 175 = .ok (.aload_n 0, 1) := by decide +kernel
theorem dX8_init_176 : decode cX8_init 176 = .ok (.bipush 30, 2) := by decide +kernel
theorem dX8_init_178 : decode cX8_init 178 = .ok (.newarray .int, 2) := by decide +kernel
theorem dX8_init_180 : decode cX8_init 180 = .ok (.putfield 62, 3) := by decide +kernel
theorem dX8_init_183 : decode cX8_init 183 = .ok (.aload_n 0, 1) := by decide +kernel
theorem dX8_init_184 : decode cX8_init 184 = .ok (.bipush 30, 2) := by decide +kernel
theorem dX8_init_186 : decode cX8_init 186 = .ok (.newarray .int, 2) := by decide +kernel
theorem dX8_init_188 : decode cX8_init 188 = .ok (.putfield 65, 3) := by decide +kernel
theorem dX8_init_191 : decode cX8_init 191 = .ok (.aload_n 0, 1) := by decide +kernel
theorem dX8_init_192 : decode cX8_init 192 = .ok (.bipush 30, 2) := by decide +kernel
theorem dX8_init_194 : decode cX8_init 194 = .ok (.newarray .int, 2) := by decide +kernel
theorem dX8_init_196 : decode cX8_init 196 = .ok (.putfield 68, 3) := by decide +kernel
theorem dX8_init_199 : decode cX8_init 199 = .ok (.aload_n 0, 1) := by decide +kernel
theorem dX8_init_200 : decode cX8_init 200 = .ok (.bipush 6, 2) := by decide +kernel
theorem dX8_init_202 : decode cX8_init 202 = .ok (.newarray .int, 2) := by decide +kernel
theorem dX8_init_204 : decode cX8_init 204 = .ok (.putfield 71, 3) := by decide +kernel
theorem dX8_init_207 : decode cX8_init 207 = .ok (.aload_n 0, 1) := by decide +kernel
theorem dX8_init_208 : decode cX8_init 208 = .ok (.bipush 30, 2) := by decide +kernel
theorem dX8_init_210 : decode cX8_init 210 = .ok (.newarray .boolean, 2) := by decide +kernel
theorem dX8_init_212 : decode cX8_init 212 = .ok (.putfield 74, 3) := by decide +kernel
theorem dX8_init_215 : decode cX8_init 215 = .ok (.aload_n 0, 1) := by decide +kernel
theorem dX8_init_216 : decode cX8_init 216 = .ok (.bipush 16, 2) := by decide +kernel
theorem dX8_init_218 : decode cX8_init 218 = .ok (.newarray .int, 2) := by decide +kernel
theorem dX8_init_220 : decode cX8_init 220 = .ok (.putfield 77, 3) := by decide +kernel
theorem dX8_init_223 : decode cX8_init 223 = .ok (.return_, 1) := by decide +kernel
theorem dX8_in_0 : decode cX8_in 0 = .ok (.lload_n 0, 1) := by decide +kernel
theorem dX8_in_1 : decode cX8_in 1 = .ok (.lload_n 2, 1) := by decide +kernel
theorem dX8_in_2 : decode cX8_in 2 = .ok (.lcmp, 1) := by decide +kernel
theorem dX8_in_3 : decode cX8_in 3 = .ok (.ifCond .lt 14, 3) := by decide +kernel
theorem dX8_in_6 : decode cX8_in 6 = .ok (.lload_n 0, 1) := by decide +kernel
theorem dX8_in_7 : decode cX8_in 7 = .ok (.lload 4, 2) := by decide +kernel
theorem dX8_in_9 : decode cX8_in 9 = .ok (.lcmp, 1) := by decide +kernel
theorem dX8_in_10 : decode cX8_in 10 = .ok (.ifCond .gt 7, 3) := by decide +kernel
theorem dX8_in_13 : decode cX8_in 13 = .ok (.iconst 1, 1) := by decide +kernel
theorem dX8_in_14 : decode cX8_in 14 = .ok (.goto 4, 3) := by decide +kernel
theorem dX8_in_17 : decode cX8_in 17 = .ok (.iconst 0, 1) := by decide +kernel
theorem dX8_in_18 : decode cX8_in 18 = .ok (.ireturn, 1) := by decide +kernel
theorem dX8_found_0 : decode cX8_found 0 = .ok (.aload_n 0, 1) := by decide +kernel
theorem dX8_found_1 : decode cX8_found 1 = .ok (.iload_n 1, 1) := by decide +kernel
theorem dX8_found_2 : decode cX8_found 2 = .ok (.putfield 84, 3) := by decide +kernel
theorem dX8_found_5 : decode cX8_found 5 = .ok (.ldc 87, 2) := by decide +kernel
theorem dX8_found_7 : decode cX8_found 7 = .ok (.iload_n 1, 1) := by decide +kernel
theorem dX8_found_8 : decode cX8_found 8 = .ok (.isub, 1) := by decide +kernel
theorem dX8_found_9 : decode cX8_found 9 = .ok (.ireturn, 1) := by decide +kernel
theorem dX8_isSheet_0 : decode cX8_isSheet 0 = .ok (.iload_n 0, 1) := by decide +kernel
theorem dX8_isSheet_1 : decode cX8_isSheet 1 = .ok (.i2l, 1) := by decide +kernel
theorem dX8_isSheet_2 : decode cX8_isSheet 2 = .ok (.lconst 0, 1) := by decide +kernel
theorem dX8_isSheet_3 : decode cX8_isSheet 3 = .ok (.ldc2_w 88, 3) := by decide +kernel
theorem dX8_isSheet_6 : decode cX8_isSheet 6 = .ok (.invokestatic 90, 3) := by decide +kernel
theorem dX8_isSheet_9 : decode cX8_isSheet 9 = .ok (.ireturn, 1) := by decide +kernel
theorem dX8_sheet_0 : decode cX8_sheet 0 = .ok (.aload_n 0, 1) := by decide +kernel
theorem dX8_sheet_1 : decode cX8_sheet 1 = .ok (.iconst 0, 1) := by decide +kernel
theorem dX8_sheet_2 : decode cX8_sheet 2 = .ok (.putfield 80, 3) := by decide +kernel
theorem dX8_sheet_5 : decode cX8_sheet 5 = .ok (.iload_n 1, 1) := by decide +kernel
theorem dX8_sheet_6 : decode cX8_sheet 6 = .ok (.invokestatic 94, 3) := by decide +kernel
theorem dX8_sheet_9 : decode cX8_sheet 9 = .ok (.ifCond .eq 21, 3) := by decide +kernel
theorem dX8_sheet_12 : decode cX8_sheet 12 = .ok (.iload_n 2, 1) := by decide +kernel
theorem dX8_sheet_13 : decode cX8_sheet 13 = .ok (.i2l, 1) := by decide +kernel
theorem dX8_sheet_14 : decode cX8_sheet 14 = .ok (.lconst 0, 1) := by decide +kernel
theorem dX8_sheet_15 : decode cX8_sheet 15 = .ok (.ldc2_w 98, 3) := by decide +kernel
theorem dX8_sheet_18 : decode cX8_sheet 18 = .ok (.invokestatic 90, 3) := by decide +kernel
theorem dX8_sheet_21 : decode cX8_sheet 21 = .ok (.ifCond .eq 9, 3) := by decide +kernel
theorem dX8_sheet_24 : decode cX8_sheet 24 = .ok (.iload_n 3, 1) := by decide +kernel
theorem dX8_sheet_25 : decode cX8_sheet 25 = .ok (.bipush 60, 2) := by decide +kernel
theorem dX8_sheet_27 : decode cX8_sheet 27 = .ok (.if_icmp .le 6, 3) := by decide +kernel
theorem dX8_sheet_30 : decode cX8_sheet 30 = .ok (.ldc 100, 2) := by decide +kernel
theorem dX8_sheet_32 : decode cX8_sheet 32 = .ok (.ireturn, 1) := by decide +kernel
theorem dX8_sheet_33 : decode cX8_sheet 33 = .ok (.aload_n 0, 1) := by decide +kernel
theorem dX8_sheet_34 : decode cX8_sheet 34 = .ok (.iconst 0, 1) := by decide +kernel
theorem dX8_sheet_35 : decode cX8_sheet 35 = .ok (.putfield 84, 3) := by decide +kernel
theorem dX8_sheet_38 : decode cX8_sheet 38 = .ok (.iload_n 3, 1) := by decide +kernel
theorem dX8_sheet_39 : decode cX8_sheet 39 = .ok (.ifCond .ge 9, 3) := by decide +kernel
theorem dX8_sheet_42 : decode cX8_sheet 42 = .ok (.aload_n 0, 1) := by decide +kernel
theorem dX8_sheet_43 : decode cX8_sheet 43 = .ok (.iconst 4, 1) := by decide +kernel
theorem dX8_sheet_44 : decode cX8_sheet 44 = .ok (.invokevirtual 101, 3) := by decide +kernel
theorem dX8_sheet_47 : decode cX8_sheet 47 = .ok (.ireturn, 1) := by decide +kernel
theorem dX8_sheet_48 : decode cX8_sheet 48 = .ok (.aload_n 0, 1) := by decide +kernel
theorem dX8_sheet_49 : decode cX8_sheet 49 = .ok (.getfield 7, 3) := by decide +kernel
theorem dX8_sheet_52 : decode cX8_sheet 52 = .ok (.iload_n 1, 1) := by decide +kernel
theorem dX8_sheet_53 : decode cX8_sheet 53 = .ok (.iload_n 2, 1) := by decide +kernel
theorem dX8_sheet_54 : decode cX8_sheet 54 = .ok (.iastore, 1) := by decide +kernel
theorem dX8_sheet_55 : decode cX8_sheet 55 = .ok (.aload_n 0, 1) := by decide +kernel
theorem dX8_sheet_56 : decode cX8_sheet 56 = .ok (.getfield 13, 3) := by decide +kernel
theorem dX8_sheet_59 : decode cX8_sheet 59 = .ok (.iload_n 1, 1) := by decide +kernel
theorem dX8_sheet_60 : decode cX8_sheet 60 = .ok (.iload_n 3, 1) := by decide +kernel
theorem dX8_sheet_61 : decode cX8_sheet 61 = .ok (.iastore, 1) := by decide +kernel
theorem dX8_sheet_62 : decode cX8_sheet 62 = .ok (.iconst 0, 1) := by decide +kernel
theorem dX8_sheet_63 : decode cX8_sheet 63 = .ok (.istore 4, 2) := by decide +kernel
theorem dX8_sheet_65 : decode cX8_sheet 65 = .ok (.iload 4, 2) := by decide +kernel
theorem dX8_sheet_67 : decode cX8_sheet 67 = .ok (.bipush 60, 2) := by decide +kernel
theorem dX8_sheet_69 : decode cX8_sheet 69 = .ok (.if_icmp .ge 22, 3) := by decide +kernel
theorem dX8_sheet_72 : decode cX8_sheet 72 = .ok (.aload_n 0, 1) := by decide +kernel
theorem dX8_sheet_73 : decode cX8_sheet 73 = .ok (.getfield 16, 3) := by decide +kernel
theorem dX8_sheet_76 : decode cX8_sheet 76 = .ok (.bipush 60, 2) := by decide +kernel
theorem dX8_sheet_78 : decode cX8_sheet 78 = .ok (.iload_n 1, 1) := by decide +kernel
theorem dX8_sheet_79 : decode cX8_sheet 79 = .ok (.imul, 1) := by decide +kernel
theorem dX8_sheet_80 : decode cX8_sheet 80 = .ok (.iload 4, 2) := by decide +kernel
theorem dX8_sheet_82 : decode cX8_sheet 82 = .ok (.iadd, 1) := by decide +kernel
theorem dX8_sheet_83 : decode cX8_sheet 83 = .ok (.iconst 0, 1) := by decide +kernel
theorem dX8_sheet_84 : decode cX8_sheet 84 = .ok (.iastore, 1) := by decide +kernel
theorem dX8_sheet_85 : decode cX8_sheet 85 = .ok (.iinc 4 1, 3) := by decide +kernel
theorem dX8_sheet_88 : decode cX8_sheet 88 = .ok (.goto (-23), 3) := by decide +kernel
theorem dX8_sheet_91 : decode cX8_sheet 91 = .ok (.iload_n 3, 1) := by decide +kernel
theorem dX8_sheet_92 : decode cX8_sheet 92 = .ok (.ireturn, 1) := by decide +kernel
theorem dX8_set_0 : decode cX8_set 0 = .ok (.aload_n 0, 1) := by decide +kernel
theorem dX8_set_1 : decode cX8_set 1 = .ok (.iconst 0, 1) := by decide +kernel
theorem dX8_set_2 : decode cX8_set 2 = .ok (.putfield 80, 3) := by decide +kernel
theorem dX8_set_5 : decode cX8_set 5 = .ok (.iload_n 1, 1) := by decide +kernel
theorem dX8_set_6 : decode cX8_set 6 = .ok (.invokestatic 94, 3) := by decide +kernel
theorem dX8_set_9 : decode cX8_set 9 = .ok (.ifCond .ne 6, 3) := by decide +kernel
theorem dX8_set_12 : decode cX8_set 12 = .ok (.ldc 100, 2) := by decide +kernel
theorem dX8_set_14 : decode cX8_set 14 = .ok (.ireturn, 1) := by decide +kernel
theorem dX8_set_15 : decode cX8_set 15 = .ok (.aload_n 0, 1) := by decide +kernel
theorem dX8_set_16 : decode cX8_set 16 = .ok (.iconst 0, 1) := by decide +kernel
theorem dX8_set_17 : decode cX8_set 17 = .ok (.putfield 84, 3) := by decide +kernel
theorem dX8_set_20 : decode cX8_set 20 = .ok (.aload_n 0, 1) := by decide +kernel
theorem dX8_set_21 : decode cX8_set 21 = .ok (.getfield 7, 3) := by decide +kernel
theorem dX8_set_24 : decode cX8_set 24 = .ok (.iload_n 1, 1) := by decide +kernel
theorem dX8_set_25 : decode cX8_set 25 = .ok (.iaload, 1) := by decide +kernel
theorem dX8_set_26 : decode cX8_set 26 = .ok (.ifCond .ge 9, 3) := by decide +kernel
theorem dX8_set_29 : decode cX8_set 29 = .ok (.aload_n 0, 1) := by decide +kernel
theorem dX8_set_30 : decode cX8_set 30 = .ok (.iconst 1, 1) := by decide +kernel
theorem dX8_set_31 : decode cX8_set 31 = .ok (.invokevirtual 101, 3) := by decide +kernel
theorem dX8_set_34 : decode cX8_set 34 = .ok (.ireturn, 1) := by decide +kernel
theorem dX8_set_35 : decode cX8_set 35 = .ok (.iload_n 2, 1) := by decide +kernel
theorem dX8_set_36 : decode cX8_set 36 = .ok (.i2l, 1) := by decide +kernel
theorem dX8_set_37 : decode cX8_set 37 = .ok (.lconst 0, 1) := by decide +kernel
theorem dX8_set_38 : decode cX8_set 38 = .ok (.aload_n 0, 1) := by decide +kernel
theorem dX8_set_39 : decode cX8_set 39 = .ok (.getfield 13, 3) := by decide +kernel
theorem dX8_set_42 : decode cX8_set 42 = .ok (.iload_n 1, 1) := by decide +kernel
theorem dX8_set_43 : decode cX8_set 43 = .ok (.iaload, 1) := by decide +kernel
theorem dX8_set_44 : decode cX8_set 44 = .ok (.iconst 1, 1) := by decide +kernel
theorem dX8_set_45 : decode cX8_set 45 = .ok (.isub, 1) := by decide +kernel
theorem dX8_set_46 : decode cX8_set 46 = .ok (.i2l, 1) := by decide +kernel
theorem dX8_set_47 : decode cX8_set 47 = .ok (.invokestatic 90, 3) := by decide +kernel
theorem dX8_set_50 : decode cX8_set 50 = .ok (.ifCond .ne 9, 3) := by decide +kernel
theorem dX8_set_53 : decode cX8_set 53 = .ok (.aload_n 0, 1) := by decide +kernel
theorem dX8_set_54 : decode cX8_set 54 = .ok (.iconst 2, 1) := by decide +kernel
theorem dX8_set_55 : decode cX8_set 55 = .ok (.invokevirtual 101, 3) := by decide +kernel
theorem dX8_set_58 : decode cX8_set 58 = .ok (.ireturn, 1) := by decide +kernel
theorem dX8_set_59 : decode cX8_set 59 = .ok (.aload_n 0, 1) := by decide +kernel
theorem dX8_set_60 : decode cX8_set 60 = .ok (.getfield 16, 3) := by decide +kernel
theorem dX8_set_63 : decode cX8_set 63 = .ok (.bipush 60, 2) := by decide +kernel
theorem dX8_set_65 : decode cX8_set 65 = .ok (.iload_n 1, 1) := by decide +kernel
theorem dX8_set_66 : decode cX8_set 66 = .ok (.imul, 1) := by decide +kernel
theorem dX8_set_67 : decode cX8_set 67 = .ok (.iload_n 2, 1) := by decide +kernel
theorem dX8_set_68 : decode cX8_set 68 = .ok (.iadd, 1) := by decide +kernel
theorem dX8_set_69 : decode cX8_set 69 = .ok (.aload_n 0, 1) := by decide +kernel
theorem dX8_set_70 : decode cX8_set 70 = .ok (.getfield 7, 3) := by decide +kernel
theorem dX8_set_73 : decode cX8_set 73 = .ok (.iload_n 1, 1) := by decide +kernel
theorem dX8_set_74 : decode cX8_set 74 = .ok (.iaload, 1) := by decide +kernel
theorem dX8_set_75 : decode cX8_set 75 = .ok (.ifCond .ne 8, 3) := by decide +kernel
theorem dX8_set_78 : decode cX8_set 78 = .ok (.iload_n 3, 1) := by decide +kernel
theorem dX8_set_79 : decode cX8_set 79 = .ok (.i2b, 1) := by decide +kernel
theorem dX8_set_80 : decode cX8_set 80 = .ok (.goto 19, 3) := by decide +kernel
theorem dX8_set_83 : decode cX8_set 83 = .ok (.aload_n 0, 1) := by decide +kernel
theorem dX8_set_84 : decode cX8_set 84 = .ok (.getfield 7, 3) := by decide +kernel
theorem dX8_set_87 : decode cX8_set 87 = .ok (.iload_n 1, 1) := by decide +kernel
theorem dX8_set_88 : decode cX8_set 88 = .ok (.iaload, 1) := by decide +kernel
theorem dX8_set_89 : decode cX8_set 89 = .ok (.iconst 1, 1) := by decide +kernel
theorem dX8_set_90 : decode cX8_set 90 = .ok (.if_icmp .ne 8, 3) := by decide +kernel
theorem dX8_set_93 : decode cX8_set 93 = .ok (.iload_n 3, 1) := by decide +kernel
theorem dX8_set_94 : decode cX8_set 94 = .ok (.i2s, 1) := by decide +kernel
theorem dX8_set_95 : decode cX8_set 95 = .ok (.goto 4, 3) := by decide +kernel
theorem dX8_set_98 : decode cX8_set 98 = .ok (.iload_n 3, 1) := by decide +kernel
theorem dX8_set_99 : decode cX8_set 99 = .ok (.iastore, 1) := by decide +kernel
theorem dX8_set_100 : decode cX8_set 100 = .ok (.aload_n 0, 1) := by decide +kernel
theorem dX8_set_101 : decode cX8_set 101 = .ok (.getfield 16, 3) := by decide +kernel
theorem dX8_set_104 : decode cX8_set 104 = .ok (.bipush 60, 2) := by decide +kernel
theorem dX8_set_106 : decode cX8_set 106 = .ok (.iload_n 1, 1) := by decide +kernel
theorem dX8_set_107 : decode cX8_set 107 = .ok (.imul, 1) := by decide +kernel
theorem dX8_set_108 : decode cX8_set 108 = .ok (.iload_n 2, 1) := by decide +kernel
theorem dX8_set_109 : decode cX8_set 109 = .ok (.iadd, 1) := by decide +kernel
theorem dX8_set_110 : decode cX8_set 110 = .ok (.iaload, 1) := by decide +kernel
theorem dX8_set_111 : decode cX8_set 111 = .ok (.ireturn, 1) := by decide +kernel
theorem dX8_copy_0 : decode cX8_copy 0 = .ok (.aload_n 0, 1) := by decide +kernel
theorem dX8_copy_1 : decode cX8_copy 1 = .ok (.iconst 0, 1) := by decide +kernel
theorem dX8_copy_2 : decode cX8_copy 2 = .ok (.putfield 80, 3) := by decide +kernel
theorem dX8_copy_5 : decode cX8_copy 5 = .ok (.iload_n 1, 1) := by decide +kernel
theorem dX8_copy_6 : decode cX8_copy 6 = .ok (.invokestatic 94, 3) := by decide +kernel
theorem dX8_copy_9 : decode cX8_copy 9 = .ok (.ifCond .eq 10, 3) := by decide +kernel
theorem dX8_copy_12 : decode cX8_copy 12 = .ok (.iload_n 3, 1) := by decide +kernel
theorem dX8_copy_13 : decode cX8_copy 13 = .ok (.invokestatic 94, 3) := by decide +kernel
theorem dX8_copy_16 : decode cX8_copy 16 = .ok (.ifCond .ne 6, 3) := by decide +kernel
theorem dX8_copy_19 : decode cX8_copy 19 = .ok (.ldc 100, 2) := by decide +kernel
theorem dX8_copy_21 : decode cX8_copy 21 = .ok (.ireturn, 1) := by decide +kernel
theorem dX8_copy_22 : decode cX8_copy 22 = .ok (.aload_n 0, 1) := by decide +kernel
theorem dX8_copy_23 : decode cX8_copy 23 = .ok (.iconst 0, 1) := by decide +kernel
theorem dX8_copy_24 : decode cX8_copy 24 = .ok (.putfield 84, 3) := by decide +kernel
theorem dX8_copy_27 : decode cX8_copy 27 = .ok (.aload_n 0, 1) := by decide +kernel
theorem dX8_copy_28 : decode cX8_copy 28 = .ok (.getfield 7, 3) := by decide +kernel
theorem dX8_copy_31 : decode cX8_copy 31 = .ok (.iload_n 1, 1) := by decide +kernel
theorem dX8_copy_32 : decode cX8_copy 32 = .ok (.iaload, 1) := by decide +kernel
theorem dX8_copy_33 : decode cX8_copy 33 = .ok (.ifCond .lt 12, 3) := by decide +kernel
theorem dX8_copy_36 : decode cX8_copy 36 = .ok (.aload_n 0, 1) := by decide +kernel
theorem dX8_copy_37 : decode cX8_copy 37 = .ok (.getfield 7, 3) := by decide +kernel
theorem dX8_copy_40 : decode cX8_copy 40 = .ok (.iload_n 3, 1) := by decide +kernel
theorem dX8_copy_41 : decode cX8_copy 41 = .ok (.iaload, 1) := by decide +kernel
theorem dX8_copy_42 : decode cX8_copy 42 = .ok (.ifCond .ge 9, 3) := by decide +kernel
theorem dX8_copy_45 : decode cX8_copy 45 = .ok (.aload_n 0, 1) := by decide +kernel
theorem dX8_copy_46 : decode cX8_copy 46 = .ok (.iconst 1, 1) := by decide +kernel
theorem dX8_copy_47 : decode cX8_copy 47 = .ok (.invokevirtual 101, 3) := by decide +kernel
theorem dX8_copy_50 : decode cX8_copy 50 = .ok (.ireturn, 1) := by decide +kernel
theorem dX8_copy_51 : decode cX8_copy 51 = .ok (.aload_n 0, 1) := by decide +kernel
theorem dX8_copy_52 : decode cX8_copy 52 = .ok (.getfield 7, 3) := by decide +kernel
theorem dX8_copy_55 : decode cX8_copy 55 = .ok (.iload_n 1, 1) := by decide +kernel
theorem dX8_copy_56 : decode cX8_copy 56 = .ok (.iaload, 1) := by decide +kernel
theorem dX8_copy_57 : decode cX8_copy 57 = .ok (.aload_n 0, 1) := by decide +kernel
theorem dX8_copy_58 : decode cX8_copy 58 = .ok (.getfield 7, 3) := by decide +kernel
theorem dX8_copy_61 : decode cX8_copy 61 = .ok (.iload_n 3, 1) := by decide +kernel
theorem dX8_copy_62 : decode cX8_copy 62 = .ok (.iaload, 1) := by decide +kernel
theorem dX8_copy_63 : decode cX8_copy 63 = .ok (.if_icmp .eq 9, 3) := by decide +kernel
theorem dX8_copy_66 : decode cX8_copy 66 = .ok (.aload_n 0, 1) := by decide +kernel
theorem dX8_copy_67 : decode cX8_copy 67 = .ok (.iconst 5, 1) := by decide +kernel
theorem dX8_copy_68 : decode cX8_copy 68 = .ok (.invokevirtual 101, 3) := by decide +kernel
theorem dX8_copy_71 : decode cX8_copy 71 = .ok (.ireturn, 1) := by decide +kernel
theorem dX8_copy_72 : decode cX8_copy 72 = .ok (.iload_n 2, 1) := by decide +kernel
theorem dX8_copy_73 : decode cX8_copy 73 = .ok (.ifCond .lt 48, 3) := by decide +kernel
theorem dX8_copy_76 : decode cX8_copy 76 = .ok (.iload 4, 2) := by decide +kernel
theorem dX8_copy_78 : decode cX8_copy 78 = .ok (.ifCond .lt 43, 3) := by decide +kernel
theorem dX8_copy_81 : decode cX8_copy 81 = .ok (.iload 5, 2) := by decide +kernel
theorem dX8_copy_83 : decode cX8_copy 83 = .ok (.ifCond .lt 38, 3) := by decide +kernel
theorem dX8_copy_86 : decode cX8_copy 86 = .ok (.iload_n 2, 1) := by decide +kernel
theorem dX8_copy_87 : decode cX8_copy 87 = .ok (.i2l, 1) := by decide +kernel
theorem dX8_copy_88 : decode cX8_copy 88 = .ok (.iload 5, 2) := by decide +kernel
theorem dX8_copy_90 : decode cX8_copy 90 = .ok (.i2l, 1) := by decide +kernel
theorem dX8_copy_91 : decode cX8_copy 91 = .ok (.ladd, 1) := by decide +kernel
theorem dX8_copy_92 : decode cX8_copy 92 = .ok (.aload_n 0, 1) := by decide +kernel
theorem dX8_copy_93 : decode cX8_copy 93 = .ok (.getfield 13, 3) := by decide +kernel
theorem dX8_copy_96 : decode cX8_copy 96 = .ok (.iload_n 1, 1) := by decide +kernel
theorem dX8_copy_97 : decode cX8_copy 97 = .ok (.iaload, 1) := by decide +kernel
theorem dX8_copy_98 : decode cX8_copy 98 = .ok (.i2l, 1) := by decide +kernel
theorem dX8_copy_99 : decode cX8_copy 99 = .ok (.lcmp, 1) := by decide +kernel
theorem dX8_copy_100 : decode cX8_copy 100 = .ok (.ifCond .gt 21, 3) := by decide +kernel
theorem dX8_copy_103 : decode cX8_copy 103 = .ok (.iload 4, 2) := by decide +kernel
theorem dX8_copy_105 : decode cX8_copy 105 = .ok (.i2l, 1) := by decide +kernel
theorem dX8_copy_106 : decode cX8_copy 106 = .ok (.iload 5, 2) := by decide +kernel
theorem dX8_copy_108 : decode cX8_copy 108 = .ok (.i2l, 1) := by decide +kernel
theorem dX8_copy_109 : decode cX8_copy 109 = .ok (.ladd, 1) := by decide +kernel
theorem dX8_copy_110 : decode cX8_copy 110 = .ok (.aload_n 0, 1) := by decide +kernel
theorem dX8_copy_111 : decode cX8_copy 111 = .ok (.getfield 13, 3) := by decide +kernel
theorem dX8_copy_114 : decode cX8_copy 114 = .ok (.iload_n 3, 1) := by decide +kernel
theorem dX8_copy_115 : decode cX8_copy 115 = .ok (.iaload, 1) := by decide +kernel
theorem dX8_copy_116 : decode cX8_copy 116 = .ok (.i2l, 1) := by decide +kernel
theorem dX8_copy_117 : decode cX8_copy 117 = .ok (.lcmp, 1) := by decide +kernel
theorem dX8_copy_118 : decode cX8_copy 118 = .ok (.ifCond .le 9, 3) := by decide +kernel
theorem dX8_copy_121 : decode cX8_copy 121 = .ok (.aload_n 0, 1) := by decide +kernel
theorem dX8_copy_122 : decode cX8_copy 122 = .ok (.iconst 2, 1) := by decide +kernel
theorem dX8_copy_123 : decode cX8_copy 123 = .ok (.invokevirtual 101, 3) := by decide +kernel
theorem dX8_copy_126 : decode cX8_copy 126 = .ok (.ireturn, 1) := by decide +kernel
theorem dX8_copy_127 : decode cX8_copy 127 = .ok (.iload_n 2, 1) := by decide +kernel
theorem dX8_copy_128 : decode cX8_copy 128 = .ok (.iload 4, 2) := by decide +kernel
theorem dX8_copy_130 : decode cX8_copy 130 = .ok (.if_icmp .lt 7, 3) := by decide +kernel
theorem dX8_copy_133 : decode cX8_copy 133 = .ok (.iconst 1, 1) := by decide +kernel
theorem dX8_copy_134 : decode cX8_copy 134 = .ok (.goto 4, 3) := by decide +kernel
theorem dX8_copy_137 : decode cX8_copy 137 = .ok (.iconst 0, 1) := by decide +kernel
theorem dX8_copy_138 : decode cX8_copy 138 = .ok (.istore 6, 2) := by decide +kernel
theorem dX8_copy_140 : decode cX8_copy 140 = .ok (.iconst 0, 1) := by decide +kernel
theorem dX8_copy_141 : decode cX8_copy 141 = .ok (.istore 7, 2) := by decide +kernel
theorem dX8_copy_143 : decode cX8_copy 143 = .ok (.iload 7, 2) := by decide +kernel
theorem dX8_copy_145 : decode cX8_copy 145 = .ok (.iload 5, 2) := by decide +kernel
theorem dX8_copy_147 : decode cX8_copy 147 = .ok (.if_icmp .ge 57, 3) := by decide +kernel
theorem dX8_copy_150 : decode cX8_copy 150 = .ok (.iload 6, 2) := by decide +kernel
theorem dX8_copy_152 : decode cX8_copy 152 = .ok (.ifCond .eq 8, 3) := by decide +kernel
theorem dX8_copy_155 : decode cX8_copy 155 = .ok (.iload 7, 2) := by decide +kernel
theorem dX8_copy_157 : decode cX8_copy 157 = .ok (.goto 10, 3) := by decide +kernel
theorem dX8_copy_160 : decode cX8_copy 160 = .ok (.iload 5, 2) := by decide +kernel
theorem dX8_copy_162 : decode cX8_copy 162 = .ok (.iconst 1, 1) := by decide +kernel
theorem dX8_copy_163 : decode cX8_copy 163 = .ok (.isub, 1) := by decide +kernel
theorem dX8_copy_164 : decode cX8_copy 164 = .ok (.iload 7, 2) := by decide +kernel
theorem dX8_copy_166 : decode cX8_copy 166 = .ok (.isub, 1) := by decide +kernel
theorem dX8_copy_167 : decode cX8_copy 167 = .ok (.istore 8, 2) := by decide +kernel
theorem dX8_copy_169 : decode cX8_copy 169 = .ok (.aload_n 0, 1) := by decide +kernel
theorem dX8_copy_170 : decode cX8_copy 170 = .ok (.getfield 16, 3) := by decide +kernel
theorem dX8_copy_173 : decode cX8_copy 173 = .ok (.bipush 60, 2) := by decide +kernel
theorem dX8_copy_175 : decode cX8_copy 175 = .ok (.iload_n 3, 1) := by decide +kernel
theorem dX8_copy_176 : decode cX8_copy 176 = .ok (.imul, 1) := by decide +kernel
theorem dX8_copy_177 : decode cX8_copy 177 = .ok (.iload 4, 2) := by decide +kernel
theorem dX8_copy_179 : decode cX8_copy 179 = .ok (.iadd, 1) := by decide +kernel
theorem dX8_copy_180 : decode cX8_copy 180 = .ok (.iload 8, 2) := by decide +kernel
theorem dX8_copy_182 : decode cX8_copy 182 = .ok (.iadd, 1) := by decide +kernel
theorem dX8_copy_183 : decode cX8_copy 183 = .ok (.aload_n 0, 1) := by decide +kernel
theorem dX8_copy_184 : decode cX8_copy 184 = .ok (.getfield 16, 3) := by decide +kernel
theorem dX8_copy_187 : decode cX8_copy 187 = .ok (.bipush 60, 2) := by decide +kernel
theorem dX8_copy_189 : decode cX8_copy 189 = .ok (.iload_n 1, 1) := by decide +kernel
theorem dX8_copy_190 : decode cX8_copy 190 = .ok (.imul, 1) := by decide +kernel
theorem dX8_copy_191 : decode cX8_copy 191 = .ok (.iload_n 2, 1) := by decide +kernel
theorem dX8_copy_192 : decode cX8_copy 192 = .ok (.iadd, 1) := by decide +kernel
theorem dX8_copy_193 : decode cX8_copy 193 = .ok (.iload 8, 2) := by decide +kernel
theorem dX8_copy_195 : decode cX8_copy 195 = .ok (.iadd, 1) := by decide +kernel
theorem dX8_copy_196 : decode cX8_copy 196 = .ok (.iaload, 1) := by decide +kernel
theorem dX8_copy_197 : decode cX8_copy 197 = .ok (.iastore, 1) := by decide +kernel
theorem dX8_copy_198 : decode cX8_copy 198 = .ok (.iinc 7 1, 3) := by decide +kernel
theorem dX8_copy_201 : decode cX8_copy 201 = .ok (.goto (-58), 3) := by decide +kernel
theorem dX8_copy_204 : decode cX8_copy 204 = .ok (.iload 5, 2) := by decide +kernel
theorem dX8_copy_206 : decode cX8_copy 206 = .ok (.ireturn, 1) := by decide +kernel
theorem dX8_drop_0 : decode cX8_drop 0 = .ok (.aload_n 0, 1) := by decide +kernel
theorem dX8_drop_1 : decode cX8_drop 1 = .ok (.iconst 0, 1) := by decide +kernel
theorem dX8_drop_2 : decode cX8_drop 2 = .ok (.putfield 80, 3) := by decide +kernel
theorem dX8_drop_5 : decode cX8_drop 5 = .ok (.iload_n 1, 1) := by decide +kernel
theorem dX8_drop_6 : decode cX8_drop 6 = .ok (.invokestatic 94, 3) := by decide +kernel
theorem dX8_drop_9 : decode cX8_drop 9 = .ok (.ifCond .ne 6, 3) := by decide +kernel
theorem dX8_drop_12 : decode cX8_drop 12 = .ok (.ldc 100, 2) := by decide +kernel
theorem dX8_drop_14 : decode cX8_drop 14 = .ok (.ireturn, 1) := by decide +kernel
theorem dX8_drop_15 : decode cX8_drop 15 = .ok (.aload_n 0, 1) := by decide +kernel
theorem dX8_drop_16 : decode cX8_drop 16 = .ok (.iconst 0, 1) := by decide +kernel
theorem dX8_drop_17 : decode cX8_drop 17 = .ok (.putfield 84, 3) := by decide +kernel
theorem dX8_drop_20 : decode cX8_drop 20 = .ok (.aload_n 0, 1) := by decide +kernel
theorem dX8_drop_21 : decode cX8_drop 21 = .ok (.getfield 7, 3) := by decide +kernel
theorem dX8_drop_24 : decode cX8_drop 24 = .ok (.iload_n 1, 1) := by decide +kernel
theorem dX8_drop_25 : decode cX8_drop 25 = .ok (.iaload, 1) := by decide +kernel
theorem dX8_drop_26 : decode cX8_drop 26 = .ok (.ifCond .ge 9, 3) := by decide +kernel
theorem dX8_drop_29 : decode cX8_drop 29 = .ok (.aload_n 0, 1) := by decide +kernel
theorem dX8_drop_30 : decode cX8_drop 30 = .ok (.iconst 1, 1) := by decide +kernel
theorem dX8_drop_31 : decode cX8_drop 31 = .ok (.invokevirtual 101, 3) := by decide +kernel
theorem dX8_drop_34 : decode cX8_drop 34 = .ok (.ireturn, 1) := by decide +kernel
theorem dX8_drop_35 : decode cX8_drop 35 = .ok (.aload_n 0, 1) := by decide +kernel
theorem dX8_drop_36 : decode cX8_drop 36 = .ok (.getfield 7, 3) := by decide +kernel
theorem dX8_drop_39 : decode cX8_drop 39 = .ok (.iload_n 1, 1) := by decide +kernel
theorem dX8_drop_40 : decode cX8_drop 40 = .ok (.iconst (-1), 1) := by decide +kernel
theorem dX8_drop_41 : decode cX8_drop 41 = .ok (.iastore, 1) := by decide +kernel
theorem dX8_drop_42 : decode cX8_drop 42 = .ok (.aload_n 0, 1) := by decide +kernel
theorem dX8_drop_43 : decode cX8_drop 43 = .ok (.getfield 13, 3) := by decide +kernel
theorem dX8_drop_46 : decode cX8_drop 46 = .ok (.iload_n 1, 1) := by decide +kernel
theorem dX8_drop_47 : decode cX8_drop 47 = .ok (.iaload, 1) := by decide +kernel
theorem dX8_drop_48 : decode cX8_drop 48 = .ok (.ireturn, 1) := by decide +kernel
theorem dX8_isVersion_0 : decode cX8_isVersion 0 = .ok (.iload_n 1, 1) := by decide +kernel
theorem dX8_isVersion_1 : decode cX8_isVersion 1 = .ok (.i2l, 1) := by decide +kernel
theorem dX8_isVersion_2 : decode cX8_isVersion 2 = .ok (.lconst 0, 1) := by decide +kernel
theorem dX8_isVersion_3 : decode cX8_isVersion 3 = .ok (.aload_n 0, 1) := by decide +kernel
theorem dX8_isVersion_4 : decode cX8_isVersion 4 = .ok (.getfield 105, 3) := by decide +kernel
theorem dX8_isVersion_7 : decode cX8_isVersion 7 = .ok (.iconst 1, 1) := by decide +kernel
theorem dX8_isVersion_8 : decode cX8_isVersion 8 = .ok (.isub, 1) := by decide +kernel
theorem dX8_isVersion_9 : decode cX8_isVersion 9 = .ok (.i2l, 1) := by decide +kernel
theorem dX8_isVersion_10 : decode cX8_isVersion 10 = .ok (.invokestatic 90, 3) := by decide +kernel
theorem dX8_isVersion_13 : decode cX8_isVersion 13 = .ok (.ireturn, 1) := by decide +kernel
theorem dX8_areSteps_0 : decode cX8_areSteps 0 = .ok (.aload_n 0, 1) := by decide +kernel
theorem dX8_areSteps_1 : decode cX8_areSteps 1 = .ok (.iload_n 1, 1) := by decide +kernel
theorem dX8_areSteps_2 : decode cX8_areSteps 2 = .ok (.invokevirtual 108, 3) := by decide +kernel
theorem dX8_areSteps_5 : decode cX8_areSteps 5 = .ok (.ifCond .eq 20, 3) := by decide +kernel
theorem dX8_areSteps_8 : decode cX8_areSteps 8 = .ok (.aload_n 0, 1) := by decide +kernel
theorem dX8_areSteps_9 : decode cX8_areSteps 9 = .ok (.iload_n 2, 1) := by decide +kernel
theorem dX8_areSteps_10 : decode cX8_areSteps 10 = .ok (.invokevirtual 108, 3) := by decide +kernel
theorem dX8_areSteps_13 : decode cX8_areSteps 13 = .ok (.ifCond .eq 12, 3) := by decide +kernel
theorem dX8_areSteps_16 : decode cX8_areSteps 16 = .ok (.iload_n 1, 1) := by decide +kernel
theorem dX8_areSteps_17 : decode cX8_areSteps 17 = .ok (.iload_n 2, 1) := by decide +kernel
theorem dX8_areSteps_18 : decode cX8_areSteps 18 = .ok (.if_icmp .ge 7, 3) := by decide +kernel
theorem dX8_areSteps_21 : decode cX8_areSteps 21 = .ok (.iconst 1, 1) := by decide +kernel
theorem dX8_areSteps_22 : decode cX8_areSteps 22 = .ok (.goto 4, 3) := by decide +kernel
theorem dX8_areSteps_25 : decode cX8_areSteps 25 = .ok (.iconst 0, 1) := by decide +kernel
theorem dX8_areSteps_26 : decode cX8_areSteps 26 = .ok (.ireturn, 1) := by decide +kernel
theorem dX8_version_0 : decode cX8_version 0 = .ok (.aload_n 0, 1) := by decide +kernel
theorem dX8_version_1 : decode cX8_version 1 = .ok (.iconst 0, 1) := by decide +kernel
theorem dX8_version_2 : decode cX8_version 2 = .ok (.putfield 80, 3) := by decide +kernel
theorem dX8_version_5 : decode cX8_version 5 = .ok (.aload_n 0, 1) := by decide +kernel
theorem dX8_version_6 : decode cX8_version 6 = .ok (.getfield 105, 3) := by decide +kernel
theorem dX8_version_9 : decode cX8_version 9 = .ok (.ifCond .ne 7, 3) := by decide +kernel
theorem dX8_version_12 : decode cX8_version 12 = .ok (.iconst 0, 1) := by decide +kernel
theorem dX8_version_13 : decode cX8_version 13 = .ok (.goto 14, 3) := by decide +kernel
theorem dX8_version_16 : decode cX8_version 16 = .ok (.aload_n 0, 1) := by decide +kernel
theorem dX8_version_17 : decode cX8_version 17 = .ok (.getfield 22, 3) := by decide +kernel
theorem dX8_version_20 : decode cX8_version 20 = .ok (.aload_n 0, 1) := by decide +kernel
theorem dX8_version_21 : decode cX8_version 21 = .ok (.getfield 105, 3) := by decide +kernel
theorem dX8_version_24 : decode cX8_version 24 = .ok (.iconst 1, 1) := by decide +kernel
theorem dX8_version_25 : decode cX8_version 25 = .ok (.isub, 1) := by decide +kernel
theorem dX8_version_26 : decode cX8_version 26 = .ok (.iaload, 1) := by decide +kernel
theorem dX8_version_27 : decode cX8_version 27 = .ok (.istore 4, 2) := by decide +kernel
theorem dX8_version_29 : decode cX8_version 29 = .ok (.iload_n 1, 1) := by decide +kernel
theorem dX8_version_30 : decode cX8_version 30 = .ok (.i2l, 1) := by decide +kernel
theorem dX8_version_31 : decode cX8_version 31 = .ok (.lconst 1, 1) := by decide +kernel
theorem dX8_version_32 : decode cX8_version 32 = .ok (.ldc2_w 111, 3) := by decide +kernel
theorem dX8_version_35 : decode cX8_version 35 = .ok (.invokestatic 90, 3) := by decide +kernel
theorem dX8_version_38 : decode cX8_version 38 = .ok (.ifCond .eq 31, 3) := by decide +kernel
theorem dX8_version_41 : decode cX8_version 41 = .ok (.iload_n 2, 1) := by decide +kernel
theorem dX8_version_42 : decode cX8_version 42 = .ok (.i2l, 1) := by decide +kernel
theorem dX8_version_43 : decode cX8_version 43 = .ok (.iload 4, 2) := by decide +kernel
theorem dX8_version_45 : decode cX8_version 45 = .ok (.i2l, 1) := by decide +kernel
theorem dX8_version_46 : decode cX8_version 46 = .ok (.aload_n 0, 1) := by decide +kernel
theorem dX8_version_47 : decode cX8_version 47 = .ok (.getfield 105, 3) := by decide +kernel
theorem dX8_version_50 : decode cX8_version 50 = .ok (.i2l, 1) := by decide +kernel
theorem dX8_version_51 : decode cX8_version 51 = .ok (.invokestatic 90, 3) := by decide +kernel
theorem dX8_version_54 : decode cX8_version 54 = .ok (.ifCond .eq 15, 3) := by decide +kernel
theorem dX8_version_57 : decode cX8_version 57 = .ok (.iload_n 3, 1) := by decide +kernel
theorem dX8_version_58 : decode cX8_version 58 = .ok (.i2l, 1) := by decide +kernel
theorem dX8_version_59 : decode cX8_version 59 = .ok (.lconst 0, 1) := by decide +kernel
theorem dX8_version_60 : decode cX8_version 60 = .ok (.ldc2_w 113, 3) := by decide +kernel
theorem dX8_version_63 : decode cX8_version 63 = .ok (.invokestatic 90, 3) := by decide +kernel
theorem dX8_version_66 : decode cX8_version 66 = .ok (.ifCond .ne 6, 3) := by decide +kernel
theorem dX8_version_69 : decode cX8_version 69 = .ok (.ldc 100, 2) := by decide +kernel
theorem dX8_version_71 : decode cX8_version 71 = .ok (.ireturn, 1) := by decide +kernel
theorem dX8_version_72 : decode cX8_version 72 = .ok (.aload_n 0, 1) := by decide +kernel
theorem dX8_version_73 : decode cX8_version 73 = .ok (.getfield 105, 3) := by decide +kernel
theorem dX8_version_76 : decode cX8_version 76 = .ok (.bipush 10, 2) := by decide +kernel
theorem dX8_version_78 : decode cX8_version 78 = .ok (.if_icmp .ne 6, 3) := by decide +kernel
theorem dX8_version_81 : decode cX8_version 81 = .ok (.ldc 115, 2) := by decide +kernel
theorem dX8_version_83 : decode cX8_version 83 = .ok (.ireturn, 1) := by decide +kernel
theorem dX8_version_84 : decode cX8_version 84 = .ok (.aload_n 0, 1) := by decide +kernel
theorem dX8_version_85 : decode cX8_version 85 = .ok (.getfield 19, 3) := by decide +kernel
theorem dX8_version_88 : decode cX8_version 88 = .ok (.aload_n 0, 1) := by decide +kernel
theorem dX8_version_89 : decode cX8_version 89 = .ok (.getfield 105, 3) := by decide +kernel
theorem dX8_version_92 : decode cX8_version 92 = .ok (.iload_n 1, 1) := by decide +kernel
theorem dX8_version_93 : decode cX8_version 93 = .ok (.iastore, 1) := by decide +kernel
theorem dX8_version_94 : decode cX8_version 94 = .ok (.aload_n 0, 1) := by decide +kernel
theorem dX8_version_95 : decode cX8_version 95 = .ok (.getfield 22, 3) := by decide +kernel
theorem dX8_version_98 : decode cX8_version 98 = .ok (.aload_n 0, 1) := by decide +kernel
theorem dX8_version_99 : decode cX8_version 99 = .ok (.getfield 105, 3) := by decide +kernel
theorem dX8_version_102 : decode cX8_version 102 = .ok (.iload_n 2, 1) := by decide +kernel
theorem dX8_version_103 : decode cX8_version 103 = .ok (.iastore, 1) := by decide +kernel
theorem dX8_version_104 : decode cX8_version 104 = .ok (.aload_n 0, 1) := by decide +kernel
theorem dX8_version_105 : decode cX8_version 105 = .ok (.getfield 25, 3) := by decide +kernel
theorem dX8_version_108 : decode cX8_version 108 = .ok (.aload_n 0, 1) := by decide +kernel
theorem dX8_version_109 : decode cX8_version 109 = .ok (.getfield 105, 3) := by decide +kernel
theorem dX8_version_112 : decode cX8_version 112 = .ok (.iload_n 3, 1) := by decide +kernel
theorem dX8_version_113 : decode cX8_version 113 = .ok (.iastore, 1) := by decide +kernel
theorem dX8_version_114 : decode cX8_version 114 = .ok (.aload_n 0, 1) := by decide +kernel
theorem dX8_version_115 : decode cX8_version 115 = .ok (.dup, 1) := by decide +kernel
theorem dX8_version_116 : decode cX8_version 116 = .ok (.getfield 105, 3) := by decide +kernel
theorem dX8_version_119 : decode cX8_version 119 = .ok (.iconst 1, 1) := by decide +kernel
theorem dX8_version_120 : decode cX8_version 120 = .ok (.iadd, 1) := by decide +kernel
theorem dX8_version_121 : decode cX8_version 121 = .ok (.putfield 105, 3) := by decide +kernel
theorem dX8_version_124 : decode cX8_version 124 = .ok (.aload_n 0, 1) := by decide +kernel
theorem dX8_version_125 : decode cX8_version 125 = .ok (.getfield 105, 3) := by decide +kernel
theorem dX8_version_128 : decode cX8_version 128 = .ok (.iconst 1, 1) := by decide +kernel
theorem dX8_version_129 : decode cX8_version 129 = .ok (.isub, 1) := by decide +kernel
theorem dX8_version_130 : decode cX8_version 130 = .ok (.ireturn, 1) := by decide +kernel
theorem dX8_step_0 : decode cX8_step 0 = .ok (.aload_n 0, 1) := by decide +kernel
theorem dX8_step_1 : decode cX8_step 1 = .ok (.iconst 0, 1) := by decide +kernel
theorem dX8_step_2 : decode cX8_step 2 = .ok (.putfield 80, 3) := by decide +kernel
theorem dX8_step_5 : decode cX8_step 5 = .ok (.aload_n 0, 1) := by decide +kernel
theorem dX8_step_6 : decode cX8_step 6 = .ok (.iload_n 1, 1) := by decide +kernel
theorem dX8_step_7 : decode cX8_step 7 = .ok (.iload_n 2, 1) := by decide +kernel
theorem dX8_step_8 : decode cX8_step 8 = .ok (.invokevirtual 116, 3) := by decide +kernel
theorem dX8_step_11 : decode cX8_step 11 = .ok (.ifCond .eq 15, 3) := by decide +kernel
theorem dX8_step_14 : decode cX8_step 14 = .ok (.iload_n 3, 1) := by decide +kernel
theorem dX8_step_15 : decode cX8_step 15 = .ok (.i2l, 1) := by decide +kernel
theorem dX8_step_16 : decode cX8_step 16 = .ok (.lconst 1, 1) := by decide +kernel
theorem dX8_step_17 : decode cX8_step 17 = .ok (.ldc2_w 120, 3) := by decide +kernel
theorem dX8_step_20 : decode cX8_step 20 = .ok (.invokestatic 90, 3) := by decide +kernel
theorem dX8_step_23 : decode cX8_step 23 = .ok (.ifCond .ne 6, 3) := by decide +kernel
theorem dX8_step_26 : decode cX8_step 26 = .ok (.ldc 100, 2) := by decide +kernel
theorem dX8_step_28 : decode cX8_step 28 = .ok (.ireturn, 1) := by decide +kernel
theorem dX8_step_29 : decode cX8_step 29 = .ok (.aload_n 0, 1) := by decide +kernel
theorem dX8_step_30 : decode cX8_step 30 = .ok (.getfield 28, 3) := by decide +kernel
theorem dX8_step_33 : decode cX8_step 33 = .ok (.bipush 10, 2) := by decide +kernel
theorem dX8_step_35 : decode cX8_step 35 = .ok (.iload_n 1, 1) := by decide +kernel
theorem dX8_step_36 : decode cX8_step 36 = .ok (.imul, 1) := by decide +kernel
theorem dX8_step_37 : decode cX8_step 37 = .ok (.iload_n 2, 1) := by decide +kernel
theorem dX8_step_38 : decode cX8_step 38 = .ok (.iadd, 1) := by decide +kernel
theorem dX8_step_39 : decode cX8_step 39 = .ok (.iaload, 1) := by decide +kernel
theorem dX8_step_40 : decode cX8_step 40 = .ok (.istore 4, 2) := by decide +kernel
theorem dX8_step_42 : decode cX8_step 42 = .ok (.aload_n 0, 1) := by decide +kernel
theorem dX8_step_43 : decode cX8_step 43 = .ok (.getfield 28, 3) := by decide +kernel
theorem dX8_step_46 : decode cX8_step 46 = .ok (.bipush 10, 2) := by decide +kernel
theorem dX8_step_48 : decode cX8_step 48 = .ok (.iload_n 1, 1) := by decide +kernel
theorem dX8_step_49 : decode cX8_step 49 = .ok (.imul, 1) := by decide +kernel
theorem dX8_step_50 : decode cX8_step 50 = .ok (.iload_n 2, 1) := by decide +kernel
theorem dX8_step_51 : decode cX8_step 51 = .ok (.iadd, 1) := by decide +kernel
theorem dX8_step_52 : decode cX8_step 52 = .ok (.iload_n 3, 1) := by decide +kernel
theorem dX8_step_53 : decode cX8_step 53 = .ok (.iastore, 1) := by decide +kernel
theorem dX8_step_54 : decode cX8_step 54 = .ok (.iload 4, 2) := by decide +kernel
theorem dX8_step_56 : decode cX8_step 56 = .ok (.ireturn, 1) := by decide +kernel
theorem dX8_findWays_0 : decode cX8_findWays 0 = .ok (.iconst 0, 1) := by decide +kernel
theorem dX8_findWays_1 : decode cX8_findWays 1 = .ok (.istore_n 2, 1) := by decide +kernel
theorem dX8_findWays_2 : decode cX8_findWays 2 = .ok (.iload_n 2, 1) := by decide +kernel
theorem dX8_findWays_3 : decode cX8_findWays 3 = .ok (.bipush 10, 2) := by decide +kernel
theorem dX8_findWays_5 : decode cX8_findWays 5 = .ok (.if_icmp .ge 33, 3) := by decide +kernel
theorem dX8_findWays_8 : decode cX8_findWays 8 = .ok (.aload_n 0, 1) := by decide +kernel
theorem dX8_findWays_9 : decode cX8_findWays 9 = .ok (.getfield 31, 3) := by decide +kernel
theorem dX8_findWays_12 : decode cX8_findWays 12 = .ok (.iload_n 2, 1) := by decide +kernel
theorem dX8_findWays_13 : decode cX8_findWays 13 = .ok (.iload_n 2, 1) := by decide +kernel
theorem dX8_findWays_14 : decode cX8_findWays 14 = .ok (.iload_n 1, 1) := by decide +kernel
theorem dX8_findWays_15 : decode cX8_findWays 15 = .ok (.if_icmp .ne 7, 3) := by decide +kernel
theorem dX8_findWays_18 : decode cX8_findWays 18 = .ok (.iconst 0, 1) := by decide +kernel
theorem dX8_findWays_19 : decode cX8_findWays 19 = .ok (.goto 5, 3) := by decide +kernel
theorem dX8_findWays_22 : decode cX8_findWays 22 = .ok (.ldc 122, 2) := by decide +kernel
theorem dX8_findWays_24 : decode cX8_findWays 24 = .ok (.iastore, 1) := by decide +kernel
theorem dX8_findWays_25 : decode cX8_findWays 25 = .ok (.aload_n 0, 1) := by decide +kernel
theorem dX8_findWays_26 : decode cX8_findWays 26 = .ok (.getfield 34, 3) := by decide +kernel
theorem dX8_findWays_29 : decode cX8_findWays 29 = .ok (.iload_n 2, 1) := by decide +kernel
theorem dX8_findWays_30 : decode cX8_findWays 30 = .ok (.iconst 0, 1) := by decide +kernel
theorem dX8_findWays_31 : decode cX8_findWays 31 = .ok (.iastore, 1) := by decide +kernel
theorem dX8_findWays_32 : decode cX8_findWays 32 = .ok (.iinc 2 1, 3) := by decide +kernel
theorem dX8_findWays_35 : decode cX8_findWays 35 = .ok (.goto (-33), 3) := by decide +kernel
theorem dX8_findWays_38 : decode cX8_findWays 38 = .ok (.iload_n 1, 1) := by decide +kernel
theorem dX8_findWays_39 : decode cX8_findWays 39 = .ok (.iconst 1, 1) := by decide +kernel
theorem dX8_findWays_40 : decode cX8_findWays 40 = .ok (.isub, 1) := by decide +kernel
theorem dX8_findWays_41 : decode cX8_findWays 41 = .ok (.istore_n 2, 1) := by decide +kernel
theorem dX8_findWays_42 : decode cX8_findWays 42 = .ok (.iload_n 2, 1) := by decide +kernel
theorem dX8_findWays_43 : decode cX8_findWays 43 = .ok (.ifCond .lt 143, 3) := by decide +kernel
theorem dX8_findWays_46 : decode cX8_findWays 46 = .ok (.iload_n 2, 1) := by decide +kernel
theorem dX8_findWays_47 : decode cX8_findWays 47 = .ok (.iconst 1, 1) := by decide +kernel
theorem dX8_findWays_48 : decode cX8_findWays 48 = .ok (.iadd, 1) := by decide +kernel
theorem dX8_findWays_49 : decode cX8_findWays 49 = .ok (.istore_n 3, 1) := by decide +kernel
theorem dX8_findWays_50 : decode cX8_findWays 50 = .ok (.iload_n 3, 1) := by decide +kernel
theorem dX8_findWays_51 : decode cX8_findWays 51 = .ok (.iload_n 1, 1) := by decide +kernel
theorem dX8_findWays_52 : decode cX8_findWays 52 = .ok (.if_icmp .gt 128, 3) := by decide +kernel
theorem dX8_findWays_55 : decode cX8_findWays 55 = .ok (.aload_n 0, 1) := by decide +kernel
theorem dX8_findWays_56 : decode cX8_findWays 56 = .ok (.getfield 28, 3) := by decide +kernel
theorem dX8_findWays_59 : decode cX8_findWays 59 = .ok (.bipush 10, 2) := by decide +kernel
theorem dX8_findWays_61 : decode cX8_findWays 61 = .ok (.iload_n 2, 1) := by decide +kernel
theorem dX8_findWays_62 : decode cX8_findWays 62 = .ok (.imul, 1) := by decide +kernel
theorem dX8_findWays_63 : decode cX8_findWays 63 = .ok (.iload_n 3, 1) := by decide +kernel
theorem dX8_findWays_64 : decode cX8_findWays 64 = .ok (.iadd, 1) := by decide +kernel
theorem dX8_findWays_65 : decode cX8_findWays 65 = .ok (.iaload, 1) := by decide +kernel
theorem dX8_findWays_66 : decode cX8_findWays 66 = .ok (.istore 4, 2) := by decide +kernel
theorem dX8_findWays_68 : decode cX8_findWays 68 = .ok (.iload 4, 2) := by decide +kernel
theorem dX8_findWays_70 : decode cX8_findWays 70 = .ok (.ifCond .le 104, 3) := by decide +kernel
theorem dX8_findWays_73 : decode cX8_findWays 73 = .ok (.aload_n 0, 1) := by decide +kernel
theorem dX8_findWays_74 : decode cX8_findWays 74 = .ok (.getfield 31, 3) := by decide +kernel
theorem dX8_findWays_77 : decode cX8_findWays 77 = .ok (.iload_n 3, 1) := by decide +kernel
theorem dX8_findWays_78 : decode cX8_findWays 78 = .ok (.iaload, 1) := by decide +kernel
theorem dX8_findWays_79 : decode cX8_findWays 79 = .ok (.ldc 122, 2) := by decide +kernel
theorem dX8_findWays_81 : decode cX8_findWays 81 = .ok (.if_icmp .eq 93, 3) := by decide +kernel
theorem dX8_findWays_84 : decode cX8_findWays 84 = .ok (.iload 4, 2) := by decide +kernel
theorem dX8_findWays_86 : decode cX8_findWays 86 = .ok (.aload_n 0, 1) := by decide +kernel
theorem dX8_findWays_87 : decode cX8_findWays 87 = .ok (.getfield 31, 3) := by decide +kernel
theorem dX8_findWays_90 : decode cX8_findWays 90 = .ok (.iload_n 3, 1) := by decide +kernel
theorem dX8_findWays_91 : decode cX8_findWays 91 = .ok (.iaload, 1) := by decide +kernel
theorem dX8_findWays_92 : decode cX8_findWays 92 = .ok (.iadd, 1) := by decide +kernel
theorem dX8_findWays_93 : decode cX8_findWays 93 = .ok (.istore 5, 2) := by decide +kernel
theorem dX8_findWays_95 : decode cX8_findWays 95 = .ok (.aload_n 0, 1) := by decide +kernel
theorem dX8_findWays_96 : decode cX8_findWays 96 = .ok (.getfield 31, 3) := by decide +kernel
theorem dX8_findWays_99 : decode cX8_findWays 99 = .ok (.iload_n 2, 1) := by decide +kernel
theorem dX8_findWays_100 : decode cX8_findWays 100 = .ok (.iaload, 1) := by decide +kernel
theorem dX8_findWays_101 : decode cX8_findWays 101 = .ok (.ldc 122, 2) := by decide +kernel
theorem dX8_findWays_103 : decode cX8_findWays 103 = .ok (.if_icmp .eq 42, 3) := by decide +kernel
theorem dX8_findWays_106 : decode cX8_findWays 106 = .ok (.iload 5, 2) := by decide +kernel
theorem dX8_findWays_108 : decode cX8_findWays 108 = .ok (.aload_n 0, 1) := by decide +kernel
theorem dX8_findWays_109 : decode cX8_findWays 109 = .ok (.getfield 31, 3) := by decide +kernel
theorem dX8_findWays_112 : decode cX8_findWays 112 = .ok (.iload_n 2, 1) := by decide +kernel
theorem dX8_findWays_113 : decode cX8_findWays 113 = .ok (.iaload, 1) := by decide +kernel
theorem dX8_findWays_114 : decode cX8_findWays 114 = .ok (.if_icmp .lt 31, 3) := by decide +kernel
theorem dX8_findWays_117 : decode cX8_findWays 117 = .ok (.iload 5, 2) := by decide +kernel
theorem dX8_findWays_119 : decode cX8_findWays 119 = .ok (.aload_n 0, 1) := by decide +kernel
theorem dX8_findWays_120 : decode cX8_findWays 120 = .ok (.getfield 31, 3) := by decide +kernel
theorem dX8_findWays_123 : decode cX8_findWays 123 = .ok (.iload_n 2, 1) := by decide +kernel
theorem dX8_findWays_124 : decode cX8_findWays 124 = .ok (.iaload, 1) := by decide +kernel
theorem dX8_findWays_125 : decode cX8_findWays 125 = .ok (.if_icmp .ne 49, 3) := by decide +kernel
theorem dX8_findWays_128 : decode cX8_findWays 128 = .ok (.aload_n 0, 1) := by decide +kernel
theorem dX8_findWays_129 : decode cX8_findWays 129 = .ok (.getfield 34, 3) := by decide +kernel
theorem dX8_findWays_132 : decode cX8_findWays 132 = .ok (.iload_n 3, 1) := by decide +kernel
theorem dX8_findWays_133 : decode cX8_findWays 133 = .ok (.iaload, 1) := by decide +kernel
theorem dX8_findWays_134 : decode cX8_findWays 134 = .ok (.iconst 1, 1) := by decide +kernel
theorem dX8_findWays_135 : decode cX8_findWays 135 = .ok (.iadd, 1) := by decide +kernel
theorem dX8_findWays_136 : decode cX8_findWays 136 = .ok (.aload_n 0, 1) := by decide +kernel
theorem dX8_findWays_137 : decode cX8_findWays 137 = .ok (.getfield 34, 3) := by decide +kernel
theorem dX8_findWays_140 : decode cX8_findWays 140 = .ok (.iload_n 2, 1) := by decide +kernel
theorem dX8_findWays_141 : decode cX8_findWays 141 = .ok (.iaload, 1) := by decide +kernel
theorem dX8_findWays_142 : decode cX8_findWays 142 = .ok (.if_icmp .ge 32, 3) := by decide +kernel
theorem dX8_findWays_145 : decode cX8_findWays 145 = .ok (.aload_n 0, 1) := by decide +kernel
theorem dX8_findWays_146 : decode cX8_findWays 146 = .ok (.getfield 31, 3) := by decide +kernel
theorem dX8_findWays_149 : decode cX8_findWays 149 = .ok (.iload_n 2, 1) := by decide +kernel
theorem dX8_findWays_150 : decode cX8_findWays 150 = .ok (.iload 5, 2) := by decide +kernel
theorem dX8_findWays_152 : decode cX8_findWays 152 = .ok (.iastore, 1) := by decide +kernel
theorem dX8_findWays_153 : decode cX8_findWays 153 = .ok (.aload_n 0, 1) := by decide +kernel
theorem dX8_findWays_154 : decode cX8_findWays 154 = .ok (.getfield 34, 3) := by decide +kernel
theorem dX8_findWays_157 : decode cX8_findWays 157 = .ok (.iload_n 2, 1) := by decide +kernel
theorem dX8_findWays_158 : decode cX8_findWays 158 = .ok (.aload_n 0, 1) := by decide +kernel
theorem dX8_findWays_159 : decode cX8_findWays 159 = .ok (.getfield 34, 3) := by decide +kernel
theorem dX8_findWays_162 : decode cX8_findWays 162 = .ok (.iload_n 3, 1) := by decide +kernel
theorem dX8_findWays_163 : decode cX8_findWays 163 = .ok (.iaload, 1) := by decide +kernel
theorem dX8_findWays_164 : decode cX8_findWays 164 = .ok (.iconst 1, 1) := by decide +kernel
theorem dX8_findWays_165 : decode cX8_findWays 165 = .ok (.iadd, 1) := by decide +kernel
theorem dX8_findWays_166 : decode cX8_findWays 166 = .ok (.iastore, 1) := by decide +kernel
theorem dX8_findWays_167 : decode cX8_findWays 167 = .ok (.aload_n 0, 1) := by decide +kernel
theorem dX8_findWays_168 : decode cX8_findWays 168 = .ok (.getfield 37, 3) := by decide +kernel
theorem dX8_findWays_171 : decode cX8_findWays 171 = .ok (.iload_n 2, 1) := by decide +kernel
theorem dX8_findWays_172 : decode cX8_findWays 172 = .ok (.iload_n 3, 1) := by decide +kernel
theorem dX8_findWays_173 : decode cX8_findWays 173 = .ok (.iastore, 1) := by decide +kernel
theorem dX8_findWays_174 : decode cX8_findWays 174 = .ok (.iinc 3 1, 3) := by decide +kernel
theorem dX8_findWays_177 : decode cX8_findWays 177 = .ok (.goto (-127), 3) := by decide +kernel
theorem dX8_findWays_180 : decode cX8_findWays 180 = .ok (.iinc 2 (-1), 3) := by decide +kernel
theorem dX8_findWays_183 : decode cX8_findWays 183 = .ok (.goto (-141), 3) := by decide +kernel
theorem dX8_findWays_186 : decode cX8_findWays 186 = .ok (.return_, 1) := by decide +kernel
theorem dX8_path_0 : decode cX8_path 0 = .ok (.aload_n 0, 1) := by decide +kernel
theorem dX8_path_1 : decode cX8_path 1 = .ok (.iconst 0, 1) := by decide +kernel
theorem dX8_path_2 : decode cX8_path 2 = .ok (.putfield 80, 3) := by decide +kernel
theorem dX8_path_5 : decode cX8_path 5 = .ok (.aload_n 0, 1) := by decide +kernel
theorem dX8_path_6 : decode cX8_path 6 = .ok (.iload_n 1, 1) := by decide +kernel
theorem dX8_path_7 : decode cX8_path 7 = .ok (.iload_n 2, 1) := by decide +kernel
theorem dX8_path_8 : decode cX8_path 8 = .ok (.invokevirtual 116, 3) := by decide +kernel
theorem dX8_path_11 : decode cX8_path 11 = .ok (.ifCond .eq 13, 3) := by decide +kernel
theorem dX8_path_14 : decode cX8_path 14 = .ok (.iload_n 3, 1) := by decide +kernel
theorem dX8_path_15 : decode cX8_path 15 = .ok (.i2l, 1) := by decide +kernel
theorem dX8_path_16 : decode cX8_path 16 = .ok (.lconst 0, 1) := by decide +kernel
theorem dX8_path_17 : decode cX8_path 17 = .ok (.lconst 1, 1) := by decide +kernel
theorem dX8_path_18 : decode cX8_path 18 = .ok (.invokestatic 90, 3) := by decide +kernel
theorem dX8_path_21 : decode cX8_path 21 = .ok (.ifCond .ne 6, 3) := by decide +kernel
theorem dX8_path_24 : decode cX8_path 24 = .ok (.ldc 100, 2) := by decide +kernel
theorem dX8_path_26 : decode cX8_path 26 = .ok (.ireturn, 1) := by decide +kernel
theorem dX8_path_27 : decode cX8_path 27 = .ok (.aload_n 0, 1) := by decide +kernel
theorem dX8_path_28 : decode cX8_path 28 = .ok (.iload_n 2, 1) := by decide +kernel
theorem dX8_path_29 : decode cX8_path 29 = .ok (.invokevirtual 123, 3) := by decide +kernel
theorem dX8_path_32 : decode cX8_path 32 = .ok (.aload_n 0, 1) := by decide +kernel
theorem dX8_path_33 : decode cX8_path 33 = .ok (.getfield 31, 3) := by decide +kernel
theorem dX8_path_36 : decode cX8_path 36 = .ok (.iload_n 1, 1) := by decide +kernel
theorem dX8_path_37 : decode cX8_path 37 = .ok (.iaload, 1) := by decide +kernel
theorem dX8_path_38 : decode cX8_path 38 = .ok (.ldc 122, 2) := by decide +kernel
theorem dX8_path_40 : decode cX8_path 40 = .ok (.if_icmp .ne 8, 3) := by decide +kernel
theorem dX8_path_43 : decode cX8_path 43 = .ok (.ldc 122, 2) := by decide +kernel
theorem dX8_path_45 : decode cX8_path 45 = .ok (.goto 22, 3) := by decide +kernel
theorem dX8_path_48 : decode cX8_path 48 = .ok (.iload_n 3, 1) := by decide +kernel
theorem dX8_path_49 : decode cX8_path 49 = .ok (.ifCond .ne 12, 3) := by decide +kernel
theorem dX8_path_52 : decode cX8_path 52 = .ok (.aload_n 0, 1) := by decide +kernel
theorem dX8_path_53 : decode cX8_path 53 = .ok (.getfield 31, 3) := by decide +kernel
theorem dX8_path_56 : decode cX8_path 56 = .ok (.iload_n 1, 1) := by decide +kernel
theorem dX8_path_57 : decode cX8_path 57 = .ok (.iaload, 1) := by decide +kernel
theorem dX8_path_58 : decode cX8_path 58 = .ok (.goto 9, 3) := by decide +kernel
theorem dX8_path_61 : decode cX8_path 61 = .ok (.aload_n 0, 1) := by decide +kernel
theorem dX8_path_62 : decode cX8_path 62 = .ok (.getfield 34, 3) := by decide +kernel
theorem dX8_path_65 : decode cX8_path 65 = .ok (.iload_n 1, 1) := by decide +kernel
theorem dX8_path_66 : decode cX8_path 66 = .ok (.iaload, 1) := by decide +kernel
theorem dX8_path_67 : decode cX8_path 67 = .ok (.ireturn, 1) := by decide +kernel
theorem dX8_on_0 : decode cX8_on 0 = .ok (.aload_n 0, 1) := by decide +kernel
theorem dX8_on_1 : decode cX8_on 1 = .ok (.iconst 0, 1) := by decide +kernel
theorem dX8_on_2 : decode cX8_on 2 = .ok (.putfield 80, 3) := by decide +kernel
theorem dX8_on_5 : decode cX8_on 5 = .ok (.aload_n 0, 1) := by decide +kernel
theorem dX8_on_6 : decode cX8_on 6 = .ok (.iload_n 1, 1) := by decide +kernel
theorem dX8_on_7 : decode cX8_on 7 = .ok (.iload_n 2, 1) := by decide +kernel
theorem dX8_on_8 : decode cX8_on 8 = .ok (.invokevirtual 116, 3) := by decide +kernel
theorem dX8_on_11 : decode cX8_on 11 = .ok (.ifCond .ne 6, 3) := by decide +kernel
theorem dX8_on_14 : decode cX8_on 14 = .ok (.ldc 100, 2) := by decide +kernel
theorem dX8_on_16 : decode cX8_on 16 = .ok (.ireturn, 1) := by decide +kernel
theorem dX8_on_17 : decode cX8_on 17 = .ok (.aload_n 0, 1) := by decide +kernel
theorem dX8_on_18 : decode cX8_on 18 = .ok (.iload_n 2, 1) := by decide +kernel
theorem dX8_on_19 : decode cX8_on 19 = .ok (.invokevirtual 123, 3) := by decide +kernel
theorem dX8_on_22 : decode cX8_on 22 = .ok (.aload_n 0, 1) := by decide +kernel
theorem dX8_on_23 : decode cX8_on 23 = .ok (.getfield 31, 3) := by decide +kernel
theorem dX8_on_26 : decode cX8_on 26 = .ok (.iload_n 1, 1) := by decide +kernel
theorem dX8_on_27 : decode cX8_on 27 = .ok (.iaload, 1) := by decide +kernel
theorem dX8_on_28 : decode cX8_on 28 = .ok (.ldc 122, 2) := by decide +kernel
theorem dX8_on_30 : decode cX8_on 30 = .ok (.if_icmp .eq 19, 3) := by decide +kernel
theorem dX8_on_33 : decode cX8_on 33 = .ok (.iload_n 3, 1) := by decide +kernel
theorem dX8_on_34 : decode cX8_on 34 = .ok (.i2l, 1) := by decide +kernel
theorem dX8_on_35 : decode cX8_on 35 = .ok (.lconst 0, 1) := by decide +kernel
theorem dX8_on_36 : decode cX8_on 36 = .ok (.aload_n 0, 1) := by decide +kernel
theorem dX8_on_37 : decode cX8_on 37 = .ok (.getfield 34, 3) := by decide +kernel
theorem dX8_on_40 : decode cX8_on 40 = .ok (.iload_n 1, 1) := by decide +kernel
theorem dX8_on_41 : decode cX8_on 41 = .ok (.iaload, 1) := by decide +kernel
theorem dX8_on_42 : decode cX8_on 42 = .ok (.i2l, 1) := by decide +kernel
theorem dX8_on_43 : decode cX8_on 43 = .ok (.invokestatic 90, 3) := by decide +kernel
theorem dX8_on_46 : decode cX8_on 46 = .ok (.ifCond .ne 6, 3) := by decide +kernel
theorem dX8_on_49 : decode cX8_on 49 = .ok (.ldc 122, 2) := by decide +kernel
theorem dX8_on_51 : decode cX8_on 51 = .ok (.ireturn, 1) := by decide +kernel
theorem dX8_on_52 : decode cX8_on 52 = .ok (.iload_n 1, 1) := by decide +kernel
theorem dX8_on_53 : decode cX8_on 53 = .ok (.istore 4, 2) := by decide +kernel
theorem dX8_on_55 : decode cX8_on 55 = .ok (.iconst 0, 1) := by decide +kernel
theorem dX8_on_56 : decode cX8_on 56 = .ok (.istore 5, 2) := by decide +kernel
theorem dX8_on_58 : decode cX8_on 58 = .ok (.iload 5, 2) := by decide +kernel
theorem dX8_on_60 : decode cX8_on 60 = .ok (.iload_n 3, 1) := by decide +kernel
theorem dX8_on_61 : decode cX8_on 61 = .ok (.if_icmp .ge 18, 3) := by decide +kernel
theorem dX8_on_64 : decode cX8_on 64 = .ok (.aload_n 0, 1) := by decide +kernel
theorem dX8_on_65 : decode cX8_on 65 = .ok (.getfield 37, 3) := by decide +kernel
theorem dX8_on_68 : decode cX8_on 68 = .ok (.iload 4, 2) := by decide +kernel
theorem dX8_on_70 : decode cX8_on 70 = .ok (.iaload, 1) := by decide +kernel
theorem dX8_on_71 : decode cX8_on 71 = .ok (.istore 4, 2) := by decide +kernel
theorem dX8_on_73 : decode cX8_on 73 = .ok (.iinc 5 1, 3) := by decide +kernel
theorem dX8_on_76 : decode cX8_on 76 = .ok (.goto (-18), 3) := by decide +kernel
theorem dX8_on_79 : decode cX8_on 79 = .ok (.iload 4, 2) := by decide +kernel
theorem dX8_on_81 : decode cX8_on 81 = .ok (.ireturn, 1) := by decide +kernel
theorem dX8_isDevice_0 : decode cX8_isDevice 0 = .ok (.iload_n 1, 1) := by decide +kernel
theorem dX8_isDevice_1 : decode cX8_isDevice 1 = .ok (.i2l, 1) := by decide +kernel
theorem dX8_isDevice_2 : decode cX8_isDevice 2 = .ok (.lconst 0, 1) := by decide +kernel
theorem dX8_isDevice_3 : decode cX8_isDevice 3 = .ok (.aload_n 0, 1) := by decide +kernel
theorem dX8_isDevice_4 : decode cX8_isDevice 4 = .ok (.getfield 127, 3) := by decide +kernel
theorem dX8_isDevice_7 : decode cX8_isDevice 7 = .ok (.iconst 1, 1) := by decide +kernel
theorem dX8_isDevice_8 : decode cX8_isDevice 8 = .ok (.isub, 1) := by decide +kernel
theorem dX8_isDevice_9 : decode cX8_isDevice 9 = .ok (.i2l, 1) := by decide +kernel
theorem dX8_isDevice_10 : decode cX8_isDevice 10 = .ok (.invokestatic 90, 3) := by decide +kernel
theorem dX8_isDevice_13 : decode cX8_isDevice 13 = .ok (.ireturn, 1) := by decide +kernel
theorem dX8_isAiling_0 : decode cX8_isAiling 0 = .ok (.aload_n 0, 1) := by decide +kernel
theorem dX8_isAiling_1 : decode cX8_isAiling 1 = .ok (.getfield 25, 3) := by decide +kernel
theorem dX8_isAiling_4 : decode cX8_isAiling 4 = .ok (.iload_n 1, 1) := by decide +kernel
theorem dX8_isAiling_5 : decode cX8_isAiling 5 = .ok (.iaload, 1) := by decide +kernel
theorem dX8_isAiling_6 : decode cX8_isAiling 6 = .ok (.iload_n 2, 1) := by decide +kernel
theorem dX8_isAiling_7 : decode cX8_isAiling 7 = .ok (.ishr, 1) := by decide +kernel
theorem dX8_isAiling_8 : decode cX8_isAiling 8 = .ok (.iconst 1, 1) := by decide +kernel
theorem dX8_isAiling_9 : decode cX8_isAiling 9 = .ok (.iand, 1) := by decide +kernel
theorem dX8_isAiling_10 : decode cX8_isAiling 10 = .ok (.iconst 1, 1) := by decide +kernel
theorem dX8_isAiling_11 : decode cX8_isAiling 11 = .ok (.if_icmp .ne 7, 3) := by decide +kernel
theorem dX8_isAiling_14 : decode cX8_isAiling 14 = .ok (.iconst 1, 1) := by decide +kernel
theorem dX8_isAiling_15 : decode cX8_isAiling 15 = .ok (.goto 4, 3) := by decide +kernel
theorem dX8_isAiling_18 : decode cX8_isAiling 18 = .ok (.iconst 0, 1) := by decide +kernel
theorem dX8_isAiling_19 : decode cX8_isAiling 19 = .ok (.ireturn, 1) := by decide +kernel
theorem dX8_device_0 : decode cX8_device 0 = .ok (.aload_n 0, 1) := by decide +kernel
theorem dX8_device_1 : decode cX8_device 1 = .ok (.iconst 0, 1) := by decide +kernel
theorem dX8_device_2 : decode cX8_device 2 = .ok (.putfield 80, 3) := by decide +kernel
theorem dX8_device_5 : decode cX8_device 5 = .ok (.iload_n 1, 1) := by decide +kernel
theorem dX8_device_6 : decode cX8_device 6 = .ok (.i2l, 1) := by decide +kernel
theorem dX8_device_7 : decode cX8_device 7 = .ok (.lconst 0, 1) := by decide +kernel
theorem dX8_device_8 : decode cX8_device 8 = .ok (.ldc2_w 88, 3) := by decide +kernel
theorem dX8_device_11 : decode cX8_device 11 = .ok (.invokestatic 90, 3) := by decide +kernel
theorem dX8_device_14 : decode cX8_device 14 = .ok (.ifCond .eq 25, 3) := by decide +kernel
theorem dX8_device_17 : decode cX8_device 17 = .ok (.aload_n 0, 1) := by decide +kernel
theorem dX8_device_18 : decode cX8_device 18 = .ok (.iload_n 2, 1) := by decide +kernel
theorem dX8_device_19 : decode cX8_device 19 = .ok (.invokevirtual 108, 3) := by decide +kernel
theorem dX8_device_22 : decode cX8_device 22 = .ok (.ifCond .eq 17, 3) := by decide +kernel
theorem dX8_device_25 : decode cX8_device 25 = .ok (.iload_n 3, 1) := by decide +kernel
theorem dX8_device_26 : decode cX8_device 26 = .ok (.ldc 122, 2) := by decide +kernel
theorem dX8_device_28 : decode cX8_device 28 = .ok (.if_icmp .eq 14, 3) := by decide +kernel
theorem dX8_device_31 : decode cX8_device 31 = .ok (.aload_n 0, 1) := by decide +kernel
theorem dX8_device_32 : decode cX8_device 32 = .ok (.iload_n 3, 1) := by decide +kernel
theorem dX8_device_33 : decode cX8_device 33 = .ok (.invokevirtual 130, 3) := by decide +kernel
theorem dX8_device_36 : decode cX8_device 36 = .ok (.ifCond .ne 6, 3) := by decide +kernel
theorem dX8_device_39 : decode cX8_device 39 = .ok (.ldc 100, 2) := by decide +kernel
theorem dX8_device_41 : decode cX8_device 41 = .ok (.ireturn, 1) := by decide +kernel
theorem dX8_device_42 : decode cX8_device 42 = .ok (.aload_n 0, 1) := by decide +kernel
theorem dX8_device_43 : decode cX8_device 43 = .ok (.iload_n 2, 1) := by decide +kernel
theorem dX8_device_44 : decode cX8_device 44 = .ok (.iload_n 1, 1) := by decide +kernel
theorem dX8_device_45 : decode cX8_device 45 = .ok (.invokevirtual 133, 3) := by decide +kernel
theorem dX8_device_48 : decode cX8_device 48 = .ok (.ifCond .eq 6, 3) := by decide +kernel
theorem dX8_device_51 : decode cX8_device 51 = .ok (.ldc 136, 2) := by decide +kernel
theorem dX8_device_53 : decode cX8_device 53 = .ok (.ireturn, 1) := by decide +kernel
theorem dX8_device_54 : decode cX8_device 54 = .ok (.aload_n 0, 1) := by decide +kernel
theorem dX8_device_55 : decode cX8_device 55 = .ok (.getfield 127, 3) := by decide +kernel
theorem dX8_device_58 : decode cX8_device 58 = .ok (.bipush 30, 2) := by decide +kernel
theorem dX8_device_60 : decode cX8_device 60 = .ok (.if_icmp .ne 6, 3) := by decide +kernel
theorem dX8_device_63 : decode cX8_device 63 = .ok (.ldc 115, 2) := by decide +kernel
end
section
theorem dX8_device_65 : decode cX8_device 65 = .ok (.ireturn, 1) := by decide +kernel
theorem dX8_device_66 : decode cX8_device 66 = .ok (.aload_n 0, 1) := by decide +kernel
theorem dX8_device_67 : decode cX8_device 67 = .ok (.getfield 127, 3) := by decide +kernel
theorem dX8_device_70 : decode cX8_device 70 = .ok (.istore 4, 2) := by decide +kernel
theorem dX8_device_72 : decode cX8_device 72 = .ok (.aload_n 0, 1) := by decide +kernel
theorem dX8_device_73 : decode cX8_device 73 = .ok (.getfield 40, 3) := by decide +kernel
theorem dX8_device_76 : decode cX8_device 76 = .ok (.iload 4, 2) := by decide +kernel
theorem dX8_device_78 : decode cX8_device 78 = .ok (.iload_n 1, 1) := by decide +kernel
theorem dX8_device_79 : decode cX8_device 79 = .ok (.iastore, 1) := by decide +kernel
theorem dX8_device_80 : decode cX8_device 80 = .ok (.aload_n 0, 1) := by decide +kernel
theorem dX8_device_81 : decode cX8_device 81 = .ok (.getfield 43, 3) := by decide +kernel
theorem dX8_device_84 : decode cX8_device 84 = .ok (.iload 4, 2) := by decide +kernel
theorem dX8_device_86 : decode cX8_device 86 = .ok (.iload_n 3, 1) := by decide +kernel
theorem dX8_device_87 : decode cX8_device 87 = .ok (.iastore, 1) := by decide +kernel
theorem dX8_device_88 : decode cX8_device 88 = .ok (.aload_n 0, 1) := by decide +kernel
theorem dX8_device_89 : decode cX8_device 89 = .ok (.getfield 46, 3) := by decide +kernel
theorem dX8_device_92 : decode cX8_device 92 = .ok (.iload 4, 2) := by decide +kernel
theorem dX8_device_94 : decode cX8_device 94 = .ok (.iconst 0, 1) := by decide +kernel
theorem dX8_device_95 : decode cX8_device 95 = .ok (.iastore, 1) := by decide +kernel
theorem dX8_device_96 : decode cX8_device 96 = .ok (.aload_n 0, 1) := by decide +kernel
theorem dX8_device_97 : decode cX8_device 97 = .ok (.getfield 49, 3) := by decide +kernel
theorem dX8_device_100 : decode cX8_device 100 = .ok (.iconst 2, 1) := by decide +kernel
theorem dX8_device_101 : decode cX8_device 101 = .ok (.iload 4, 2) := by decide +kernel
theorem dX8_device_103 : decode cX8_device 103 = .ok (.imul, 1) := by decide +kernel
theorem dX8_device_104 : decode cX8_device 104 = .ok (.iload_n 2, 1) := by decide +kernel
theorem dX8_device_105 : decode cX8_device 105 = .ok (.iastore, 1) := by decide +kernel
theorem dX8_device_106 : decode cX8_device 106 = .ok (.aload_n 0, 1) := by decide +kernel
theorem dX8_device_107 : decode cX8_device 107 = .ok (.getfield 52, 3) := by decide +kernel
theorem dX8_device_110 : decode cX8_device 110 = .ok (.iconst 2, 1) := by decide +kernel
theorem dX8_device_111 : decode cX8_device 111 = .ok (.iload 4, 2) := by decide +kernel
theorem dX8_device_113 : decode cX8_device 113 = .ok (.imul, 1) := by decide +kernel
theorem dX8_device_114 : decode cX8_device 114 = .ok (.aload_n 0, 1) := by decide +kernel
theorem dX8_device_115 : decode cX8_device 115 = .ok (.getfield 19, 3) := by decide +kernel
theorem dX8_device_118 : decode cX8_device 118 = .ok (.iload_n 2, 1) := by decide +kernel
theorem dX8_device_119 : decode cX8_device 119 = .ok (.iaload, 1) := by decide +kernel
theorem dX8_device_120 : decode cX8_device 120 = .ok (.iastore, 1) := by decide +kernel
theorem dX8_device_121 : decode cX8_device 121 = .ok (.aload_n 0, 1) := by decide +kernel
theorem dX8_device_122 : decode cX8_device 122 = .ok (.getfield 49, 3) := by decide +kernel
theorem dX8_device_125 : decode cX8_device 125 = .ok (.iconst 2, 1) := by decide +kernel
theorem dX8_device_126 : decode cX8_device 126 = .ok (.iload 4, 2) := by decide +kernel
theorem dX8_device_128 : decode cX8_device 128 = .ok (.imul, 1) := by decide +kernel
theorem dX8_device_129 : decode cX8_device 129 = .ok (.iconst 1, 1) := by decide +kernel
theorem dX8_device_130 : decode cX8_device 130 = .ok (.iadd, 1) := by decide +kernel
theorem dX8_device_131 : decode cX8_device 131 = .ok (.ldc 122, 2) := by decide +kernel
theorem dX8_device_133 : decode cX8_device 133 = .ok (.iastore, 1) := by decide +kernel
theorem dX8_device_134 : decode cX8_device 134 = .ok (.aload_n 0, 1) := by decide +kernel
theorem dX8_device_135 : decode cX8_device 135 = .ok (.getfield 52, 3) := by decide +kernel
theorem dX8_device_138 : decode cX8_device 138 = .ok (.iconst 2, 1) := by decide +kernel
theorem dX8_device_139 : decode cX8_device 139 = .ok (.iload 4, 2) := by decide +kernel
theorem dX8_device_141 : decode cX8_device 141 = .ok (.imul, 1) := by decide +kernel
theorem dX8_device_142 : decode cX8_device 142 = .ok (.iconst 1, 1) := by decide +kernel
theorem dX8_device_143 : decode cX8_device 143 = .ok (.iadd, 1) := by decide +kernel
theorem dX8_device_144 : decode cX8_device 144 = .ok (.iconst 0, 1) := by decide +kernel
theorem dX8_device_145 : decode cX8_device 145 = .ok (.iastore, 1) := by decide +kernel
theorem dX8_device_146 : decode cX8_device 146 = .ok (.aload_n 0, 1) := by decide +kernel
theorem dX8_device_147 : decode cX8_device 147 = .ok (.getfield 62, 3) := by decide +kernel
theorem dX8_device_150 : decode cX8_device 150 = .ok (.iload 4, 2) := by decide +kernel
theorem dX8_device_152 : decode cX8_device 152 = .ok (.aload_n 0, 1) := by decide +kernel
theorem dX8_device_153 : decode cX8_device 153 = .ok (.getfield 22, 3) := by decide +kernel
theorem dX8_device_156 : decode cX8_device 156 = .ok (.iload_n 2, 1) := by decide +kernel
theorem dX8_device_157 : decode cX8_device 157 = .ok (.iaload, 1) := by decide +kernel
theorem dX8_device_158 : decode cX8_device 158 = .ok (.iastore, 1) := by decide +kernel
theorem dX8_device_159 : decode cX8_device 159 = .ok (.aload_n 0, 1) := by decide +kernel
theorem dX8_device_160 : decode cX8_device 160 = .ok (.dup, 1) := by decide +kernel
theorem dX8_device_161 : decode cX8_device 161 = .ok (.getfield 127, 3) := by decide +kernel
theorem dX8_device_164 : decode cX8_device 164 = .ok (.iconst 1, 1) := by decide +kernel
theorem dX8_device_165 : decode cX8_device 165 = .ok (.iadd, 1) := by decide +kernel
theorem dX8_device_166 : decode cX8_device 166 = .ok (.putfield 127, 3) := by decide +kernel
theorem dX8_device_169 : decode cX8_device 169 = .ok (.iload 4, 2) := by decide +kernel
theorem dX8_device_171 : decode cX8_device 171 = .ok (.ireturn, 1) := by decide +kernel
theorem dX8_runsOn_0 : decode cX8_runsOn 0 = .ok (.aload_n 0, 1) := by decide +kernel
theorem dX8_runsOn_1 : decode cX8_runsOn 1 = .ok (.getfield 49, 3) := by decide +kernel
theorem dX8_runsOn_4 : decode cX8_runsOn 4 = .ok (.iconst 2, 1) := by decide +kernel
theorem dX8_runsOn_5 : decode cX8_runsOn 5 = .ok (.iload_n 1, 1) := by decide +kernel
theorem dX8_runsOn_6 : decode cX8_runsOn 6 = .ok (.imul, 1) := by decide +kernel
theorem dX8_runsOn_7 : decode cX8_runsOn 7 = .ok (.aload_n 0, 1) := by decide +kernel
theorem dX8_runsOn_8 : decode cX8_runsOn 8 = .ok (.getfield 46, 3) := by decide +kernel
theorem dX8_runsOn_11 : decode cX8_runsOn 11 = .ok (.iload_n 1, 1) := by decide +kernel
theorem dX8_runsOn_12 : decode cX8_runsOn 12 = .ok (.iaload, 1) := by decide +kernel
theorem dX8_runsOn_13 : decode cX8_runsOn 13 = .ok (.iadd, 1) := by decide +kernel
theorem dX8_runsOn_14 : decode cX8_runsOn 14 = .ok (.iaload, 1) := by decide +kernel
theorem dX8_runsOn_15 : decode cX8_runsOn 15 = .ok (.ireturn, 1) := by decide +kernel
theorem dX8_other_0 : decode cX8_other 0 = .ok (.iconst 2, 1) := by decide +kernel
theorem dX8_other_1 : decode cX8_other 1 = .ok (.iload_n 1, 1) := by decide +kernel
theorem dX8_other_2 : decode cX8_other 2 = .ok (.imul, 1) := by decide +kernel
theorem dX8_other_3 : decode cX8_other 3 = .ok (.iconst 1, 1) := by decide +kernel
theorem dX8_other_4 : decode cX8_other 4 = .ok (.iadd, 1) := by decide +kernel
theorem dX8_other_5 : decode cX8_other 5 = .ok (.aload_n 0, 1) := by decide +kernel
theorem dX8_other_6 : decode cX8_other 6 = .ok (.getfield 46, 3) := by decide +kernel
theorem dX8_other_9 : decode cX8_other 9 = .ok (.iload_n 1, 1) := by decide +kernel
theorem dX8_other_10 : decode cX8_other 10 = .ok (.iaload, 1) := by decide +kernel
theorem dX8_other_11 : decode cX8_other 11 = .ok (.isub, 1) := by decide +kernel
theorem dX8_other_12 : decode cX8_other 12 = .ok (.ireturn, 1) := by decide +kernel
theorem dX8_draw_0 : decode cX8_draw 0 = .ok (.iload_n 1, 1) := by decide +kernel
theorem dX8_draw_1 : decode cX8_draw 1 = .ok (.iconst 1, 1) := by decide +kernel
theorem dX8_draw_2 : decode cX8_draw 2 = .ok (.iadd, 1) := by decide +kernel
theorem dX8_draw_3 : decode cX8_draw 3 = .ok (.i2l, 1) := by decide +kernel
theorem dX8_draw_4 : decode cX8_draw 4 = .ok (.ldc2_w 137, 3) := by decide +kernel
theorem dX8_draw_7 : decode cX8_draw 7 = .ok (.lmul, 1) := by decide +kernel
theorem dX8_draw_8 : decode cX8_draw 8 = .ok (.aload_n 0, 1) := by decide +kernel
theorem dX8_draw_9 : decode cX8_draw 9 = .ok (.getfield 139, 3) := by decide +kernel
theorem dX8_draw_12 : decode cX8_draw 12 = .ok (.i2l, 1) := by decide +kernel
theorem dX8_draw_13 : decode cX8_draw 13 = .ok (.ladd, 1) := by decide +kernel
theorem dX8_draw_14 : decode cX8_draw 14 = .ok (.lstore_n 2, 1) := by decide +kernel
theorem dX8_draw_15 : decode cX8_draw 15 = .ok (.lload_n 2, 1) := by decide +kernel
theorem dX8_draw_16 : decode cX8_draw 16 = .ok (.bipush 16, 2) := by decide +kernel
theorem dX8_draw_18 : decode cX8_draw 18 = .ok (.lshr, 1) := by decide +kernel
theorem dX8_draw_19 : decode cX8_draw 19 = .ok (.ldc2_w 142, 3) := by decide +kernel
theorem dX8_draw_22 : decode cX8_draw 22 = .ok (.land, 1) := by decide +kernel
theorem dX8_draw_23 : decode cX8_draw 23 = .ok (.l2i, 1) := by decide +kernel
theorem dX8_draw_24 : decode cX8_draw 24 = .ok (.bipush 100, 2) := by decide +kernel
theorem dX8_draw_26 : decode cX8_draw 26 = .ok (.irem, 1) := by decide +kernel
theorem dX8_draw_27 : decode cX8_draw 27 = .ok (.ireturn, 1) := by decide +kernel
theorem dX8_isAlive_0 : decode cX8_isAlive 0 = .ok (.iconst 2, 1) := by decide +kernel
theorem dX8_isAlive_1 : decode cX8_isAlive 1 = .ok (.iload_n 1, 1) := by decide +kernel
theorem dX8_isAlive_2 : decode cX8_isAlive 2 = .ok (.imul, 1) := by decide +kernel
theorem dX8_isAlive_3 : decode cX8_isAlive 3 = .ok (.aload_n 0, 1) := by decide +kernel
theorem dX8_isAlive_4 : decode cX8_isAlive 4 = .ok (.getfield 46, 3) := by decide +kernel
theorem dX8_isAlive_7 : decode cX8_isAlive 7 = .ok (.iload_n 1, 1) := by decide +kernel
theorem dX8_isAlive_8 : decode cX8_isAlive 8 = .ok (.iaload, 1) := by decide +kernel
theorem dX8_isAlive_9 : decode cX8_isAlive 9 = .ok (.iadd, 1) := by decide +kernel
theorem dX8_isAlive_10 : decode cX8_isAlive 10 = .ok (.istore_n 2, 1) := by decide +kernel
theorem dX8_isAlive_11 : decode cX8_isAlive 11 = .ok (.aload_n 0, 1) := by decide +kernel
theorem dX8_isAlive_12 : decode cX8_isAlive 12 = .ok (.getfield 49, 3) := by decide +kernel
theorem dX8_isAlive_15 : decode cX8_isAlive 15 = .ok (.iload_n 2, 1) := by decide +kernel
theorem dX8_isAlive_16 : decode cX8_isAlive 16 = .ok (.iaload, 1) := by decide +kernel
theorem dX8_isAlive_17 : decode cX8_isAlive 17 = .ok (.ldc 122, 2) := by decide +kernel
theorem dX8_isAlive_19 : decode cX8_isAlive 19 = .ok (.if_icmp .eq 42, 3) := by decide +kernel
theorem dX8_isAlive_22 : decode cX8_isAlive 22 = .ok (.aload_n 0, 1) := by decide +kernel
theorem dX8_isAlive_23 : decode cX8_isAlive 23 = .ok (.getfield 52, 3) := by decide +kernel
theorem dX8_isAlive_26 : decode cX8_isAlive 26 = .ok (.iload_n 2, 1) := by decide +kernel
theorem dX8_isAlive_27 : decode cX8_isAlive 27 = .ok (.iaload, 1) := by decide +kernel
theorem dX8_isAlive_28 : decode cX8_isAlive 28 = .ok (.aload_n 0, 1) := by decide +kernel
theorem dX8_isAlive_29 : decode cX8_isAlive 29 = .ok (.getfield 19, 3) := by decide +kernel
theorem dX8_isAlive_32 : decode cX8_isAlive 32 = .ok (.aload_n 0, 1) := by decide +kernel
theorem dX8_isAlive_33 : decode cX8_isAlive 33 = .ok (.getfield 49, 3) := by decide +kernel
theorem dX8_isAlive_36 : decode cX8_isAlive 36 = .ok (.iload_n 2, 1) := by decide +kernel
theorem dX8_isAlive_37 : decode cX8_isAlive 37 = .ok (.iaload, 1) := by decide +kernel
theorem dX8_isAlive_38 : decode cX8_isAlive 38 = .ok (.iaload, 1) := by decide +kernel
theorem dX8_isAlive_39 : decode cX8_isAlive 39 = .ok (.if_icmp .ne 22, 3) := by decide +kernel
theorem dX8_isAlive_42 : decode cX8_isAlive 42 = .ok (.aload_n 0, 1) := by decide +kernel
theorem dX8_isAlive_43 : decode cX8_isAlive 43 = .ok (.getfield 49, 3) := by decide +kernel
theorem dX8_isAlive_46 : decode cX8_isAlive 46 = .ok (.iload_n 2, 1) := by decide +kernel
theorem dX8_isAlive_47 : decode cX8_isAlive 47 = .ok (.iaload, 1) := by decide +kernel
theorem dX8_isAlive_48 : decode cX8_isAlive 48 = .ok (.aload_n 0, 1) := by decide +kernel
theorem dX8_isAlive_49 : decode cX8_isAlive 49 = .ok (.getfield 62, 3) := by decide +kernel
theorem dX8_isAlive_52 : decode cX8_isAlive 52 = .ok (.iload_n 1, 1) := by decide +kernel
theorem dX8_isAlive_53 : decode cX8_isAlive 53 = .ok (.iaload, 1) := by decide +kernel
theorem dX8_isAlive_54 : decode cX8_isAlive 54 = .ok (.if_icmp .lt 7, 3) := by decide +kernel
theorem dX8_isAlive_57 : decode cX8_isAlive 57 = .ok (.iconst 1, 1) := by decide +kernel
theorem dX8_isAlive_58 : decode cX8_isAlive 58 = .ok (.goto 4, 3) := by decide +kernel
theorem dX8_isAlive_61 : decode cX8_isAlive 61 = .ok (.iconst 0, 1) := by decide +kernel
theorem dX8_isAlive_62 : decode cX8_isAlive 62 = .ok (.ireturn, 1) := by decide +kernel
theorem dX8_told_0 : decode cX8_told 0 = .ok (.aload_n 0, 1) := by decide +kernel
theorem dX8_told_1 : decode cX8_told 1 = .ok (.iconst 0, 1) := by decide +kernel
theorem dX8_told_2 : decode cX8_told 2 = .ok (.putfield 80, 3) := by decide +kernel
theorem dX8_told_5 : decode cX8_told 5 = .ok (.aload_n 0, 1) := by decide +kernel
theorem dX8_told_6 : decode cX8_told 6 = .ok (.iload_n 1, 1) := by decide +kernel
theorem dX8_told_7 : decode cX8_told 7 = .ok (.invokevirtual 130, 3) := by decide +kernel
theorem dX8_told_10 : decode cX8_told 10 = .ok (.ifCond .eq 15, 3) := by decide +kernel
theorem dX8_told_13 : decode cX8_told 13 = .ok (.iload_n 2, 1) := by decide +kernel
theorem dX8_told_14 : decode cX8_told 14 = .ok (.i2l, 1) := by decide +kernel
theorem dX8_told_15 : decode cX8_told 15 = .ok (.lconst 0, 1) := by decide +kernel
theorem dX8_told_16 : decode cX8_told 16 = .ok (.ldc2_w 111, 3) := by decide +kernel
theorem dX8_told_19 : decode cX8_told 19 = .ok (.invokestatic 90, 3) := by decide +kernel
theorem dX8_told_22 : decode cX8_told 22 = .ok (.ifCond .ne 6, 3) := by decide +kernel
theorem dX8_told_25 : decode cX8_told 25 = .ok (.ldc 100, 2) := by decide +kernel
theorem dX8_told_27 : decode cX8_told 27 = .ok (.ireturn, 1) := by decide +kernel
theorem dX8_told_28 : decode cX8_told 28 = .ok (.iload_n 2, 1) := by decide +kernel
theorem dX8_told_29 : decode cX8_told 29 = .ok (.tableswitch 122 0 7 #[47, 53, 60, 71, 82, 102, 109, 116], 47) := by decide +kernel
theorem dX8_told_76 : decode cX8_told 76 = .ok (.aload_n 0, 1) := by decide +kernel
theorem dX8_told_77 : decode cX8_told 77 = .ok (.iload_n 1, 1) := by decide +kernel
theorem dX8_told_78 : decode cX8_told 78 = .ok (.invokevirtual 144, 3) := by decide +kernel
theorem dX8_told_81 : decode cX8_told 81 = .ok (.ireturn, 1) := by decide +kernel
theorem dX8_told_82 : decode cX8_told 82 = .ok (.aload_n 0, 1) := by decide +kernel
theorem dX8_told_83 : decode cX8_told 83 = .ok (.getfield 46, 3) := by decide +kernel
theorem dX8_told_86 : decode cX8_told 86 = .ok (.iload_n 1, 1) := by decide +kernel
theorem dX8_told_87 : decode cX8_told 87 = .ok (.iaload, 1) := by decide +kernel
theorem dX8_told_88 : decode cX8_told 88 = .ok (.ireturn, 1) := by decide +kernel
theorem dX8_told_89 : decode cX8_told 89 = .ok (.aload_n 0, 1) := by decide +kernel
theorem dX8_told_90 : decode cX8_told 90 = .ok (.getfield 49, 3) := by decide +kernel
theorem dX8_told_93 : decode cX8_told 93 = .ok (.aload_n 0, 1) := by decide +kernel
theorem dX8_told_94 : decode cX8_told 94 = .ok (.iload_n 1, 1) := by decide +kernel
theorem dX8_told_95 : decode cX8_told 95 = .ok (.invokevirtual 147, 3) := by decide +kernel
theorem dX8_told_98 : decode cX8_told 98 = .ok (.iaload, 1) := by decide +kernel
theorem dX8_told_99 : decode cX8_told 99 = .ok (.ireturn, 1) := by decide +kernel
theorem dX8_told_100 : decode cX8_told 100 = .ok (.aload_n 0, 1) := by decide +kernel
theorem dX8_told_101 : decode cX8_told 101 = .ok (.getfield 52, 3) := by decide +kernel
theorem dX8_told_104 : decode cX8_told 104 = .ok (.aload_n 0, 1) := by decide +kernel
theorem dX8_told_105 : decode cX8_told 105 = .ok (.iload_n 1, 1) := by decide +kernel
theorem dX8_told_106 : decode cX8_told 106 = .ok (.invokevirtual 147, 3) := by decide +kernel
theorem dX8_told_109 : decode cX8_told 109 = .ok (.iaload, 1) := by decide +kernel
theorem dX8_told_110 : decode cX8_told 110 = .ok (.ireturn, 1) := by decide +kernel
theorem dX8_told_111 : decode cX8_told 111 = .ok (.aload_n 0, 1) := by decide +kernel
theorem dX8_told_112 : decode cX8_told 112 = .ok (.getfield 55, 3) := by decide +kernel
theorem dX8_told_115 : decode cX8_told 115 = .ok (.iload_n 1, 1) := by decide +kernel
theorem dX8_told_116 : decode cX8_told 116 = .ok (.baload, 1) := by decide +kernel
theorem dX8_told_117 : decode cX8_told 117 = .ok (.ifCond .eq 12, 3) := by decide +kernel
theorem dX8_told_120 : decode cX8_told 120 = .ok (.aload_n 0, 1) := by decide +kernel
theorem dX8_told_121 : decode cX8_told 121 = .ok (.getfield 59, 3) := by decide +kernel
theorem dX8_told_124 : decode cX8_told 124 = .ok (.iload_n 1, 1) := by decide +kernel
theorem dX8_told_125 : decode cX8_told 125 = .ok (.iaload, 1) := by decide +kernel
theorem dX8_told_126 : decode cX8_told 126 = .ok (.goto 4, 3) := by decide +kernel
theorem dX8_told_129 : decode cX8_told 129 = .ok (.iconst 0, 1) := by decide +kernel
theorem dX8_told_130 : decode cX8_told 130 = .ok (.ireturn, 1) := by decide +kernel
theorem dX8_told_131 : decode cX8_told 131 = .ok (.aload_n 0, 1) := by decide +kernel
theorem dX8_told_132 : decode cX8_told 132 = .ok (.getfield 62, 3) := by decide +kernel
theorem dX8_told_135 : decode cX8_told 135 = .ok (.iload_n 1, 1) := by decide +kernel
theorem dX8_told_136 : decode cX8_told 136 = .ok (.iaload, 1) := by decide +kernel
theorem dX8_told_137 : decode cX8_told 137 = .ok (.ireturn, 1) := by decide +kernel
theorem dX8_told_138 : decode cX8_told 138 = .ok (.aload_n 0, 1) := by decide +kernel
theorem dX8_told_139 : decode cX8_told 139 = .ok (.getfield 65, 3) := by decide +kernel
theorem dX8_told_142 : decode cX8_told 142 = .ok (.iload_n 1, 1) := by decide +kernel
theorem dX8_told_143 : decode cX8_told 143 = .ok (.iaload, 1) := by decide +kernel
theorem dX8_told_144 : decode cX8_told 144 = .ok (.ireturn, 1) := by decide +kernel
theorem dX8_told_145 : decode cX8_told 145 = .ok (.aload_n 0, 1) := by decide +kernel
theorem dX8_told_146 : decode cX8_told 146 = .ok (.iload_n 1, 1) := by decide +kernel
theorem dX8_told_147 : decode cX8_told 147 = .ok (.invokevirtual 150, 3) := by decide +kernel
theorem dX8_told_150 : decode cX8_told 150 = .ok (.ireturn, 1) := by decide +kernel
theorem dX8_told_151 : decode cX8_told 151 = .ok (.aload_n 0, 1) := by decide +kernel
theorem dX8_told_152 : decode cX8_told 152 = .ok (.iload_n 1, 1) := by decide +kernel
theorem dX8_told_153 : decode cX8_told 153 = .ok (.invokevirtual 153, 3) := by decide +kernel
theorem dX8_told_156 : decode cX8_told 156 = .ok (.ifCond .eq 7, 3) := by decide +kernel
theorem dX8_told_159 : decode cX8_told 159 = .ok (.iconst 1, 1) := by decide +kernel
theorem dX8_told_160 : decode cX8_told 160 = .ok (.goto 4, 3) := by decide +kernel
theorem dX8_told_163 : decode cX8_told 163 = .ok (.iconst 0, 1) := by decide +kernel
theorem dX8_told_164 : decode cX8_told 164 = .ok (.ireturn, 1) := by decide +kernel
theorem dX8_start_0 : decode cX8_start 0 = .ok (.aload_n 0, 1) := by decide +kernel
theorem dX8_start_1 : decode cX8_start 1 = .ok (.getfield 55, 3) := by decide +kernel
theorem dX8_start_4 : decode cX8_start 4 = .ok (.iload_n 1, 1) := by decide +kernel
theorem dX8_start_5 : decode cX8_start 5 = .ok (.baload, 1) := by decide +kernel
theorem dX8_start_6 : decode cX8_start 6 = .ok (.ifCond .ne 4, 3) := by decide +kernel
theorem dX8_start_9 : decode cX8_start 9 = .ok (.return_, 1) := by decide +kernel
theorem dX8_start_10 : decode cX8_start 10 = .ok (.aload_n 0, 1) := by decide +kernel
theorem dX8_start_11 : decode cX8_start 11 = .ok (.iload_n 1, 1) := by decide +kernel
theorem dX8_start_12 : decode cX8_start 12 = .ok (.invokevirtual 147, 3) := by decide +kernel
theorem dX8_start_15 : decode cX8_start 15 = .ok (.istore_n 2, 1) := by decide +kernel
theorem dX8_start_16 : decode cX8_start 16 = .ok (.aload_n 0, 1) := by decide +kernel
theorem dX8_start_17 : decode cX8_start 17 = .ok (.getfield 49, 3) := by decide +kernel
theorem dX8_start_20 : decode cX8_start 20 = .ok (.iload_n 2, 1) := by decide +kernel
theorem dX8_start_21 : decode cX8_start 21 = .ok (.iaload, 1) := by decide +kernel
theorem dX8_start_22 : decode cX8_start 22 = .ok (.istore_n 3, 1) := by decide +kernel
theorem dX8_start_23 : decode cX8_start 23 = .ok (.iload_n 3, 1) := by decide +kernel
theorem dX8_start_24 : decode cX8_start 24 = .ok (.ldc 122, 2) := by decide +kernel
theorem dX8_start_26 : decode cX8_start 26 = .ok (.if_icmp .eq 37, 3) := by decide +kernel
theorem dX8_start_29 : decode cX8_start 29 = .ok (.aload_n 0, 1) := by decide +kernel
theorem dX8_start_30 : decode cX8_start 30 = .ok (.getfield 52, 3) := by decide +kernel
theorem dX8_start_33 : decode cX8_start 33 = .ok (.iload_n 2, 1) := by decide +kernel
theorem dX8_start_34 : decode cX8_start 34 = .ok (.iaload, 1) := by decide +kernel
theorem dX8_start_35 : decode cX8_start 35 = .ok (.aload_n 0, 1) := by decide +kernel
theorem dX8_start_36 : decode cX8_start 36 = .ok (.getfield 19, 3) := by decide +kernel
theorem dX8_start_39 : decode cX8_start 39 = .ok (.iload_n 3, 1) := by decide +kernel
theorem dX8_start_40 : decode cX8_start 40 = .ok (.iaload, 1) := by decide +kernel
theorem dX8_start_41 : decode cX8_start 41 = .ok (.if_icmp .lt 22, 3) := by decide +kernel
theorem dX8_start_44 : decode cX8_start 44 = .ok (.iload_n 3, 1) := by decide +kernel
theorem dX8_start_45 : decode cX8_start 45 = .ok (.aload_n 0, 1) := by decide +kernel
theorem dX8_start_46 : decode cX8_start 46 = .ok (.getfield 62, 3) := by decide +kernel
theorem dX8_start_49 : decode cX8_start 49 = .ok (.iload_n 1, 1) := by decide +kernel
theorem dX8_start_50 : decode cX8_start 50 = .ok (.iaload, 1) := by decide +kernel
theorem dX8_start_51 : decode cX8_start 51 = .ok (.if_icmp .lt 12, 3) := by decide +kernel
theorem dX8_start_54 : decode cX8_start 54 = .ok (.aload_n 0, 1) := by decide +kernel
theorem dX8_start_55 : decode cX8_start 55 = .ok (.getfield 59, 3) := by decide +kernel
theorem dX8_start_58 : decode cX8_start 58 = .ok (.iload_n 1, 1) := by decide +kernel
theorem dX8_start_59 : decode cX8_start 59 = .ok (.iaload, 1) := by decide +kernel
theorem dX8_start_60 : decode cX8_start 60 = .ok (.ifCond .ne 11, 3) := by decide +kernel
theorem dX8_start_63 : decode cX8_start 63 = .ok (.aload_n 0, 1) := by decide +kernel
theorem dX8_start_64 : decode cX8_start 64 = .ok (.getfield 55, 3) := by decide +kernel
theorem dX8_start_67 : decode cX8_start 67 = .ok (.iload_n 1, 1) := by decide +kernel
theorem dX8_start_68 : decode cX8_start 68 = .ok (.iconst 0, 1) := by decide +kernel
theorem dX8_start_69 : decode cX8_start 69 = .ok (.bastore, 1) := by decide +kernel
theorem dX8_start_70 : decode cX8_start 70 = .ok (.return_, 1) := by decide +kernel
theorem dX8_start_71 : decode cX8_start 71 = .ok (.aload_n 0, 1) := by decide +kernel
theorem dX8_start_72 : decode cX8_start 72 = .ok (.getfield 59, 3) := by decide +kernel
theorem dX8_start_75 : decode cX8_start 75 = .ok (.iload_n 1, 1) := by decide +kernel
theorem dX8_start_76 : decode cX8_start 76 = .ok (.dup2, 1) := by decide +kernel
theorem dX8_start_77 : decode cX8_start 77 = .ok (.iaload, 1) := by decide +kernel
theorem dX8_start_78 : decode cX8_start 78 = .ok (.iconst 1, 1) := by decide +kernel
theorem dX8_start_79 : decode cX8_start 79 = .ok (.isub, 1) := by decide +kernel
theorem dX8_start_80 : decode cX8_start 80 = .ok (.iastore, 1) := by decide +kernel
theorem dX8_start_81 : decode cX8_start 81 = .ok (.aload_n 0, 1) := by decide +kernel
theorem dX8_start_82 : decode cX8_start 82 = .ok (.iload_n 3, 1) := by decide +kernel
theorem dX8_start_83 : decode cX8_start 83 = .ok (.aload_n 0, 1) := by decide +kernel
theorem dX8_start_84 : decode cX8_start 84 = .ok (.getfield 40, 3) := by decide +kernel
theorem dX8_start_87 : decode cX8_start 87 = .ok (.iload_n 1, 1) := by decide +kernel
theorem dX8_start_88 : decode cX8_start 88 = .ok (.iaload, 1) := by decide +kernel
theorem dX8_start_89 : decode cX8_start 89 = .ok (.invokevirtual 133, 3) := by decide +kernel
theorem dX8_start_92 : decode cX8_start 92 = .ok (.ifCond .ne 60, 3) := by decide +kernel
theorem dX8_start_95 : decode cX8_start 95 = .ok (.aload_n 0, 1) := by decide +kernel
theorem dX8_start_96 : decode cX8_start 96 = .ok (.getfield 46, 3) := by decide +kernel
theorem dX8_start_99 : decode cX8_start 99 = .ok (.iload_n 1, 1) := by decide +kernel
theorem dX8_start_100 : decode cX8_start 100 = .ok (.iconst 1, 1) := by decide +kernel
theorem dX8_start_101 : decode cX8_start 101 = .ok (.aload_n 0, 1) := by decide +kernel
theorem dX8_start_102 : decode cX8_start 102 = .ok (.getfield 46, 3) := by decide +kernel
theorem dX8_start_105 : decode cX8_start 105 = .ok (.iload_n 1, 1) := by decide +kernel
theorem dX8_start_106 : decode cX8_start 106 = .ok (.iaload, 1) := by decide +kernel
theorem dX8_start_107 : decode cX8_start 107 = .ok (.isub, 1) := by decide +kernel
theorem dX8_start_108 : decode cX8_start 108 = .ok (.iastore, 1) := by decide +kernel
theorem dX8_start_109 : decode cX8_start 109 = .ok (.aload_n 0, 1) := by decide +kernel
theorem dX8_start_110 : decode cX8_start 110 = .ok (.getfield 55, 3) := by decide +kernel
theorem dX8_start_113 : decode cX8_start 113 = .ok (.iload_n 1, 1) := by decide +kernel
theorem dX8_start_114 : decode cX8_start 114 = .ok (.iconst 0, 1) := by decide +kernel
theorem dX8_start_115 : decode cX8_start 115 = .ok (.bastore, 1) := by decide +kernel
theorem dX8_start_116 : decode cX8_start 116 = .ok (.aload_n 0, 1) := by decide +kernel
theorem dX8_start_117 : decode cX8_start 117 = .ok (.getfield 62, 3) := by decide +kernel
theorem dX8_start_120 : decode cX8_start 120 = .ok (.iload_n 1, 1) := by decide +kernel
theorem dX8_start_121 : decode cX8_start 121 = .ok (.aload_n 0, 1) := by decide +kernel
theorem dX8_start_122 : decode cX8_start 122 = .ok (.getfield 22, 3) := by decide +kernel
theorem dX8_start_125 : decode cX8_start 125 = .ok (.iload_n 3, 1) := by decide +kernel
theorem dX8_start_126 : decode cX8_start 126 = .ok (.iaload, 1) := by decide +kernel
theorem dX8_start_127 : decode cX8_start 127 = .ok (.aload_n 0, 1) := by decide +kernel
theorem dX8_start_128 : decode cX8_start 128 = .ok (.getfield 62, 3) := by decide +kernel
theorem dX8_start_131 : decode cX8_start 131 = .ok (.iload_n 1, 1) := by decide +kernel
theorem dX8_start_132 : decode cX8_start 132 = .ok (.iaload, 1) := by decide +kernel
theorem dX8_start_133 : decode cX8_start 133 = .ok (.if_icmp .le 12, 3) := by decide +kernel
theorem dX8_start_136 : decode cX8_start 136 = .ok (.aload_n 0, 1) := by decide +kernel
theorem dX8_start_137 : decode cX8_start 137 = .ok (.getfield 22, 3) := by decide +kernel
theorem dX8_start_140 : decode cX8_start 140 = .ok (.iload_n 3, 1) := by decide +kernel
theorem dX8_start_141 : decode cX8_start 141 = .ok (.iaload, 1) := by decide +kernel
theorem dX8_start_142 : decode cX8_start 142 = .ok (.goto 9, 3) := by decide +kernel
theorem dX8_start_145 : decode cX8_start 145 = .ok (.aload_n 0, 1) := by decide +kernel
theorem dX8_start_146 : decode cX8_start 146 = .ok (.getfield 62, 3) := by decide +kernel
theorem dX8_start_149 : decode cX8_start 149 = .ok (.iload_n 1, 1) := by decide +kernel
theorem dX8_start_150 : decode cX8_start 150 = .ok (.iaload, 1) := by decide +kernel
theorem dX8_start_151 : decode cX8_start 151 = .ok (.iastore, 1) := by decide +kernel
theorem dX8_start_152 : decode cX8_start 152 = .ok (.return_, 1) := by decide +kernel
theorem dX8_actsOf_0 : decode cX8_actsOf 0 = .ok (.aload_n 0, 1) := by decide +kernel
theorem dX8_actsOf_1 : decode cX8_actsOf 1 = .ok (.getfield 19, 3) := by decide +kernel
theorem dX8_actsOf_4 : decode cX8_actsOf 4 = .ok (.iload_n 2, 1) := by decide +kernel
theorem dX8_actsOf_5 : decode cX8_actsOf 5 = .ok (.iaload, 1) := by decide +kernel
theorem dX8_actsOf_6 : decode cX8_actsOf 6 = .ok (.iconst 2, 1) := by decide +kernel
theorem dX8_actsOf_7 : decode cX8_actsOf 7 = .ok (.iadd, 1) := by decide +kernel
theorem dX8_actsOf_8 : decode cX8_actsOf 8 = .ok (.aload_n 0, 1) := by decide +kernel
theorem dX8_actsOf_9 : decode cX8_actsOf 9 = .ok (.iload_n 2, 1) := by decide +kernel
theorem dX8_actsOf_10 : decode cX8_actsOf 10 = .ok (.aload_n 0, 1) := by decide +kernel
theorem dX8_actsOf_11 : decode cX8_actsOf 11 = .ok (.getfield 40, 3) := by decide +kernel
theorem dX8_actsOf_14 : decode cX8_actsOf 14 = .ok (.iload_n 1, 1) := by decide +kernel
theorem dX8_actsOf_15 : decode cX8_actsOf 15 = .ok (.iaload, 1) := by decide +kernel
theorem dX8_actsOf_16 : decode cX8_actsOf 16 = .ok (.invokevirtual 133, 3) := by decide +kernel
theorem dX8_actsOf_19 : decode cX8_actsOf 19 = .ok (.ifCond .eq 7, 3) := by decide +kernel
theorem dX8_actsOf_22 : decode cX8_actsOf 22 = .ok (.iconst 4, 1) := by decide +kernel
theorem dX8_actsOf_23 : decode cX8_actsOf 23 = .ok (.goto 4, 3) := by decide +kernel
theorem dX8_actsOf_26 : decode cX8_actsOf 26 = .ok (.iconst 1, 1) := by decide +kernel
theorem dX8_actsOf_27 : decode cX8_actsOf 27 = .ok (.iadd, 1) := by decide +kernel
theorem dX8_actsOf_28 : decode cX8_actsOf 28 = .ok (.ireturn, 1) := by decide +kernel
theorem dX8_act_0 : decode cX8_act 0 = .ok (.iload_n 3, 1) := by decide +kernel
theorem dX8_act_1 : decode cX8_act 1 = .ok (.ifCond .ne 29, 3) := by decide +kernel
theorem dX8_act_4 : decode cX8_act 4 = .ok (.aload_n 0, 1) := by decide +kernel
theorem dX8_act_5 : decode cX8_act 5 = .ok (.getfield 49, 3) := by decide +kernel
theorem dX8_act_8 : decode cX8_act 8 = .ok (.aload_n 0, 1) := by decide +kernel
theorem dX8_act_9 : decode cX8_act 9 = .ok (.iload_n 1, 1) := by decide +kernel
theorem dX8_act_10 : decode cX8_act 10 = .ok (.invokevirtual 147, 3) := by decide +kernel
theorem dX8_act_13 : decode cX8_act 13 = .ok (.ldc 122, 2) := by decide +kernel
theorem dX8_act_15 : decode cX8_act 15 = .ok (.iastore, 1) := by decide +kernel
theorem dX8_act_16 : decode cX8_act 16 = .ok (.aload_n 0, 1) := by decide +kernel
theorem dX8_act_17 : decode cX8_act 17 = .ok (.getfield 52, 3) := by decide +kernel
theorem dX8_act_20 : decode cX8_act 20 = .ok (.aload_n 0, 1) := by decide +kernel
theorem dX8_act_21 : decode cX8_act 21 = .ok (.iload_n 1, 1) := by decide +kernel
theorem dX8_act_22 : decode cX8_act 22 = .ok (.invokevirtual 147, 3) := by decide +kernel
theorem dX8_act_25 : decode cX8_act 25 = .ok (.iconst 0, 1) := by decide +kernel
theorem dX8_act_26 : decode cX8_act 26 = .ok (.iastore, 1) := by decide +kernel
theorem dX8_act_27 : decode cX8_act 27 = .ok (.goto 72, 3) := by decide +kernel
theorem dX8_act_30 : decode cX8_act 30 = .ok (.iload_n 3, 1) := by decide +kernel
theorem dX8_act_31 : decode cX8_act 31 = .ok (.aload_n 0, 1) := by decide +kernel
theorem dX8_act_32 : decode cX8_act 32 = .ok (.getfield 19, 3) := by decide +kernel
theorem dX8_act_35 : decode cX8_act 35 = .ok (.iload_n 2, 1) := by decide +kernel
theorem dX8_act_36 : decode cX8_act 36 = .ok (.iaload, 1) := by decide +kernel
theorem dX8_act_37 : decode cX8_act 37 = .ok (.if_icmp .gt 28, 3) := by decide +kernel
theorem dX8_act_40 : decode cX8_act 40 = .ok (.aload_n 0, 1) := by decide +kernel
theorem dX8_act_41 : decode cX8_act 41 = .ok (.getfield 49, 3) := by decide +kernel
theorem dX8_act_44 : decode cX8_act 44 = .ok (.aload_n 0, 1) := by decide +kernel
theorem dX8_act_45 : decode cX8_act 45 = .ok (.iload_n 1, 1) := by decide +kernel
theorem dX8_act_46 : decode cX8_act 46 = .ok (.invokevirtual 147, 3) := by decide +kernel
theorem dX8_act_49 : decode cX8_act 49 = .ok (.iload_n 2, 1) := by decide +kernel
theorem dX8_act_50 : decode cX8_act 50 = .ok (.iastore, 1) := by decide +kernel
theorem dX8_act_51 : decode cX8_act 51 = .ok (.aload_n 0, 1) := by decide +kernel
theorem dX8_act_52 : decode cX8_act 52 = .ok (.getfield 52, 3) := by decide +kernel
theorem dX8_act_55 : decode cX8_act 55 = .ok (.aload_n 0, 1) := by decide +kernel
theorem dX8_act_56 : decode cX8_act 56 = .ok (.iload_n 1, 1) := by decide +kernel
theorem dX8_act_57 : decode cX8_act 57 = .ok (.invokevirtual 147, 3) := by decide +kernel
theorem dX8_act_60 : decode cX8_act 60 = .ok (.iload_n 3, 1) := by decide +kernel
theorem dX8_act_61 : decode cX8_act 61 = .ok (.iastore, 1) := by decide +kernel
theorem dX8_act_62 : decode cX8_act 62 = .ok (.goto 37, 3) := by decide +kernel
theorem dX8_act_65 : decode cX8_act 65 = .ok (.iload_n 3, 1) := by decide +kernel
theorem dX8_act_66 : decode cX8_act 66 = .ok (.aload_n 0, 1) := by decide +kernel
theorem dX8_act_67 : decode cX8_act 67 = .ok (.getfield 19, 3) := by decide +kernel
theorem dX8_act_70 : decode cX8_act 70 = .ok (.iload_n 2, 1) := by decide +kernel
theorem dX8_act_71 : decode cX8_act 71 = .ok (.iaload, 1) := by decide +kernel
theorem dX8_act_72 : decode cX8_act 72 = .ok (.iconst 1, 1) := by decide +kernel
theorem dX8_act_73 : decode cX8_act 73 = .ok (.iadd, 1) := by decide +kernel
theorem dX8_act_74 : decode cX8_act 74 = .ok (.if_icmp .ne 20, 3) := by decide +kernel
theorem dX8_act_77 : decode cX8_act 77 = .ok (.aload_n 0, 1) := by decide +kernel
theorem dX8_act_78 : decode cX8_act 78 = .ok (.getfield 55, 3) := by decide +kernel
theorem dX8_act_81 : decode cX8_act 81 = .ok (.iload_n 1, 1) := by decide +kernel
theorem dX8_act_82 : decode cX8_act 82 = .ok (.iconst 1, 1) := by decide +kernel
theorem dX8_act_83 : decode cX8_act 83 = .ok (.bastore, 1) := by decide +kernel
theorem dX8_act_84 : decode cX8_act 84 = .ok (.aload_n 0, 1) := by decide +kernel
theorem dX8_act_85 : decode cX8_act 85 = .ok (.getfield 59, 3) := by decide +kernel
theorem dX8_act_88 : decode cX8_act 88 = .ok (.iload_n 1, 1) := by decide +kernel
theorem dX8_act_89 : decode cX8_act 89 = .ok (.iconst 3, 1) := by decide +kernel
theorem dX8_act_90 : decode cX8_act 90 = .ok (.iastore, 1) := by decide +kernel
theorem dX8_act_91 : decode cX8_act 91 = .ok (.goto 8, 3) := by decide +kernel
theorem dX8_act_94 : decode cX8_act 94 = .ok (.aload_n 0, 1) := by decide +kernel
theorem dX8_act_95 : decode cX8_act 95 = .ok (.iload_n 1, 1) := by decide +kernel
theorem dX8_act_96 : decode cX8_act 96 = .ok (.invokevirtual 156, 3) := by decide +kernel
theorem dX8_act_99 : decode cX8_act 99 = .ok (.return_, 1) := by decide +kernel
theorem dX8_go_0 : decode cX8_go 0 = .ok (.iconst 0, 1) := by decide +kernel
theorem dX8_go_1 : decode cX8_go 1 = .ok (.istore 5, 2) := by decide +kernel
theorem dX8_go_3 : decode cX8_go 3 = .ok (.iload 5, 2) := by decide +kernel
theorem dX8_go_5 : decode cX8_go 5 = .ok (.iload_n 3, 1) := by decide +kernel
theorem dX8_go_6 : decode cX8_go 6 = .ok (.if_icmp .ge 17, 3) := by decide +kernel
theorem dX8_go_9 : decode cX8_go 9 = .ok (.aload_n 0, 1) := by decide +kernel
theorem dX8_go_10 : decode cX8_go 10 = .ok (.iload_n 1, 1) := by decide +kernel
theorem dX8_go_11 : decode cX8_go 11 = .ok (.iload_n 2, 1) := by decide +kernel
theorem dX8_go_12 : decode cX8_go 12 = .ok (.iload 5, 2) := by decide +kernel
theorem dX8_go_14 : decode cX8_go 14 = .ok (.invokevirtual 159, 3) := by decide +kernel
theorem dX8_go_17 : decode cX8_go 17 = .ok (.iinc 5 1, 3) := by decide +kernel
theorem dX8_go_20 : decode cX8_go 20 = .ok (.goto (-17), 3) := by decide +kernel
theorem dX8_go_23 : decode cX8_go 23 = .ok (.iconst 0, 1) := by decide +kernel
theorem dX8_go_24 : decode cX8_go 24 = .ok (.istore 5, 2) := by decide +kernel
theorem dX8_go_26 : decode cX8_go 26 = .ok (.iload 5, 2) := by decide +kernel
theorem dX8_go_28 : decode cX8_go 28 = .ok (.iload 4, 2) := by decide +kernel
theorem dX8_go_30 : decode cX8_go 30 = .ok (.if_icmp .ge 14, 3) := by decide +kernel
theorem dX8_go_33 : decode cX8_go 33 = .ok (.aload_n 0, 1) := by decide +kernel
theorem dX8_go_34 : decode cX8_go 34 = .ok (.iload_n 1, 1) := by decide +kernel
theorem dX8_go_35 : decode cX8_go 35 = .ok (.invokevirtual 156, 3) := by decide +kernel
theorem dX8_go_38 : decode cX8_go 38 = .ok (.iinc 5 1, 3) := by decide +kernel
theorem dX8_go_41 : decode cX8_go 41 = .ok (.goto (-15), 3) := by decide +kernel
theorem dX8_go_44 : decode cX8_go 44 = .ok (.return_, 1) := by decide +kernel
theorem dX8_ends_0 : decode cX8_ends 0 = .ok (.aload_n 0, 1) := by decide +kernel
theorem dX8_ends_1 : decode cX8_ends 1 = .ok (.iload_n 1, 1) := by decide +kernel
theorem dX8_ends_2 : decode cX8_ends 2 = .ok (.invokevirtual 144, 3) := by decide +kernel
theorem dX8_ends_5 : decode cX8_ends 5 = .ok (.iload_n 2, 1) := by decide +kernel
theorem dX8_ends_6 : decode cX8_ends 6 = .ok (.if_icmp .eq 25, 3) := by decide +kernel
theorem dX8_ends_9 : decode cX8_ends 9 = .ok (.aload_n 0, 1) := by decide +kernel
theorem dX8_ends_10 : decode cX8_ends 10 = .ok (.getfield 65, 3) := by decide +kernel
theorem dX8_ends_13 : decode cX8_ends 13 = .ok (.iload_n 1, 1) := by decide +kernel
theorem dX8_ends_14 : decode cX8_ends 14 = .ok (.dup2, 1) := by decide +kernel
theorem dX8_ends_15 : decode cX8_ends 15 = .ok (.iaload, 1) := by decide +kernel
theorem dX8_ends_16 : decode cX8_ends 16 = .ok (.iconst 1, 1) := by decide +kernel
theorem dX8_ends_17 : decode cX8_ends 17 = .ok (.iadd, 1) := by decide +kernel
theorem dX8_ends_18 : decode cX8_ends 18 = .ok (.iastore, 1) := by decide +kernel
theorem dX8_ends_19 : decode cX8_ends 19 = .ok (.aload_n 0, 1) := by decide +kernel
theorem dX8_ends_20 : decode cX8_ends 20 = .ok (.getfield 68, 3) := by decide +kernel
theorem dX8_ends_23 : decode cX8_ends 23 = .ok (.iload_n 1, 1) := by decide +kernel
theorem dX8_ends_24 : decode cX8_ends 24 = .ok (.dup2, 1) := by decide +kernel
theorem dX8_ends_25 : decode cX8_ends 25 = .ok (.iaload, 1) := by decide +kernel
theorem dX8_ends_26 : decode cX8_ends 26 = .ok (.iconst 1, 1) := by decide +kernel
theorem dX8_ends_27 : decode cX8_ends 27 = .ok (.iadd, 1) := by decide +kernel
theorem dX8_ends_28 : decode cX8_ends 28 = .ok (.iastore, 1) := by decide +kernel
theorem dX8_ends_29 : decode cX8_ends 29 = .ok (.iconst 0, 1) := by decide +kernel
theorem dX8_ends_30 : decode cX8_ends 30 = .ok (.ireturn, 1) := by decide +kernel
theorem dX8_ends_31 : decode cX8_ends 31 = .ok (.aload_n 0, 1) := by decide +kernel
theorem dX8_ends_32 : decode cX8_ends 32 = .ok (.getfield 68, 3) := by decide +kernel
theorem dX8_ends_35 : decode cX8_ends 35 = .ok (.iload_n 1, 1) := by decide +kernel
theorem dX8_ends_36 : decode cX8_ends 36 = .ok (.iload_n 2, 1) := by decide +kernel
theorem dX8_ends_37 : decode cX8_ends 37 = .ok (.aload_n 0, 1) := by decide +kernel
theorem dX8_ends_38 : decode cX8_ends 38 = .ok (.getfield 105, 3) := by decide +kernel
theorem dX8_ends_41 : decode cX8_ends 41 = .ok (.iconst 1, 1) := by decide +kernel
theorem dX8_ends_42 : decode cX8_ends 42 = .ok (.isub, 1) := by decide +kernel
theorem dX8_ends_43 : decode cX8_ends 43 = .ok (.if_icmp .ne 7, 3) := by decide +kernel
theorem dX8_ends_46 : decode cX8_ends 46 = .ok (.iconst 0, 1) := by decide +kernel
theorem dX8_ends_47 : decode cX8_ends 47 = .ok (.goto 9, 3) := by decide +kernel
theorem dX8_ends_50 : decode cX8_ends 50 = .ok (.aload_n 0, 1) := by decide +kernel
theorem dX8_ends_51 : decode cX8_ends 51 = .ok (.getfield 68, 3) := by decide +kernel
theorem dX8_ends_54 : decode cX8_ends 54 = .ok (.iload_n 1, 1) := by decide +kernel
theorem dX8_ends_55 : decode cX8_ends 55 = .ok (.iaload, 1) := by decide +kernel
theorem dX8_ends_56 : decode cX8_ends 56 = .ok (.iastore, 1) := by decide +kernel
theorem dX8_ends_57 : decode cX8_ends 57 = .ok (.iconst 1, 1) := by decide +kernel
theorem dX8_ends_58 : decode cX8_ends 58 = .ok (.ireturn, 1) := by decide +kernel
theorem dX8_update_0 : decode cX8_update 0 = .ok (.aload_n 0, 1) := by decide +kernel
theorem dX8_update_1 : decode cX8_update 1 = .ok (.iconst 0, 1) := by decide +kernel
theorem dX8_update_2 : decode cX8_update 2 = .ok (.putfield 80, 3) := by decide +kernel
theorem dX8_update_5 : decode cX8_update 5 = .ok (.aload_n 0, 1) := by decide +kernel
theorem dX8_update_6 : decode cX8_update 6 = .ok (.iload_n 1, 1) := by decide +kernel
theorem dX8_update_7 : decode cX8_update 7 = .ok (.invokevirtual 130, 3) := by decide +kernel
theorem dX8_update_10 : decode cX8_update 10 = .ok (.ifCond .eq 11, 3) := by decide +kernel
theorem dX8_update_13 : decode cX8_update 13 = .ok (.aload_n 0, 1) := by decide +kernel
theorem dX8_update_14 : decode cX8_update 14 = .ok (.iload_n 2, 1) := by decide +kernel
theorem dX8_update_15 : decode cX8_update 15 = .ok (.invokevirtual 108, 3) := by decide +kernel
theorem dX8_update_18 : decode cX8_update 18 = .ok (.ifCond .ne 6, 3) := by decide +kernel
theorem dX8_update_21 : decode cX8_update 21 = .ok (.ldc 100, 2) := by decide +kernel
theorem dX8_update_23 : decode cX8_update 23 = .ok (.ireturn, 1) := by decide +kernel
theorem dX8_update_24 : decode cX8_update 24 = .ok (.iload_n 2, 1) := by decide +kernel
theorem dX8_update_25 : decode cX8_update 25 = .ok (.aload_n 0, 1) := by decide +kernel
theorem dX8_update_26 : decode cX8_update 26 = .ok (.iload_n 1, 1) := by decide +kernel
theorem dX8_update_27 : decode cX8_update 27 = .ok (.invokevirtual 144, 3) := by decide +kernel
theorem dX8_update_30 : decode cX8_update 30 = .ok (.if_icmp .gt 6, 3) := by decide +kernel
theorem dX8_update_33 : decode cX8_update 33 = .ok (.ldc 136, 2) := by decide +kernel
theorem dX8_update_35 : decode cX8_update 35 = .ok (.ireturn, 1) := by decide +kernel
theorem dX8_update_36 : decode cX8_update 36 = .ok (.aload_n 0, 1) := by decide +kernel
theorem dX8_update_37 : decode cX8_update 37 = .ok (.iload_n 1, 1) := by decide +kernel
theorem dX8_update_38 : decode cX8_update 38 = .ok (.iload_n 2, 1) := by decide +kernel
theorem dX8_update_39 : decode cX8_update 39 = .ok (.aload_n 0, 1) := by decide +kernel
theorem dX8_update_40 : decode cX8_update 40 = .ok (.iload_n 1, 1) := by decide +kernel
theorem dX8_update_41 : decode cX8_update 41 = .ok (.iload_n 2, 1) := by decide +kernel
theorem dX8_update_42 : decode cX8_update 42 = .ok (.invokevirtual 163, 3) := by decide +kernel
theorem dX8_update_45 : decode cX8_update 45 = .ok (.iconst 0, 1) := by decide +kernel
theorem dX8_update_46 : decode cX8_update 46 = .ok (.invokevirtual 167, 3) := by decide +kernel
theorem dX8_update_49 : decode cX8_update 49 = .ok (.aload_n 0, 1) := by decide +kernel
theorem dX8_update_50 : decode cX8_update 50 = .ok (.iload_n 1, 1) := by decide +kernel
theorem dX8_update_51 : decode cX8_update 51 = .ok (.iload_n 2, 1) := by decide +kernel
theorem dX8_update_52 : decode cX8_update 52 = .ok (.invokevirtual 171, 3) := by decide +kernel
theorem dX8_update_55 : decode cX8_update 55 = .ok (.ireturn, 1) := by decide +kernel
theorem dX8_acts_0 : decode cX8_acts 0 = .ok (.aload_n 0, 1) := by decide +kernel
theorem dX8_acts_1 : decode cX8_acts 1 = .ok (.iconst 0, 1) := by decide +kernel
theorem dX8_acts_2 : decode cX8_acts 2 = .ok (.putfield 80, 3) := by decide +kernel
theorem dX8_acts_5 : decode cX8_acts 5 = .ok (.aload_n 0, 1) := by decide +kernel
theorem dX8_acts_6 : decode cX8_acts 6 = .ok (.iload_n 1, 1) := by decide +kernel
theorem dX8_acts_7 : decode cX8_acts 7 = .ok (.invokevirtual 130, 3) := by decide +kernel
theorem dX8_acts_10 : decode cX8_acts 10 = .ok (.ifCond .eq 11, 3) := by decide +kernel
theorem dX8_acts_13 : decode cX8_acts 13 = .ok (.aload_n 0, 1) := by decide +kernel
theorem dX8_acts_14 : decode cX8_acts 14 = .ok (.iload_n 2, 1) := by decide +kernel
theorem dX8_acts_15 : decode cX8_acts 15 = .ok (.invokevirtual 108, 3) := by decide +kernel
theorem dX8_acts_18 : decode cX8_acts 18 = .ok (.ifCond .ne 8, 3) := by decide +kernel
theorem dX8_acts_21 : decode cX8_acts 21 = .ok (.ldc 100, 2) := by decide +kernel
theorem dX8_acts_23 : decode cX8_acts 23 = .ok (.goto 23, 3) := by decide +kernel
theorem dX8_acts_26 : decode cX8_acts 26 = .ok (.iload_n 2, 1) := by decide +kernel
theorem dX8_acts_27 : decode cX8_acts 27 = .ok (.aload_n 0, 1) := by decide +kernel
theorem dX8_acts_28 : decode cX8_acts 28 = .ok (.iload_n 1, 1) := by decide +kernel
theorem dX8_acts_29 : decode cX8_acts 29 = .ok (.invokevirtual 144, 3) := by decide +kernel
theorem dX8_acts_32 : decode cX8_acts 32 = .ok (.if_icmp .gt 8, 3) := by decide +kernel
theorem dX8_acts_35 : decode cX8_acts 35 = .ok (.ldc 136, 2) := by decide +kernel
theorem dX8_acts_37 : decode cX8_acts 37 = .ok (.goto 9, 3) := by decide +kernel
theorem dX8_acts_40 : decode cX8_acts 40 = .ok (.aload_n 0, 1) := by decide +kernel
theorem dX8_acts_41 : decode cX8_acts 41 = .ok (.iload_n 1, 1) := by decide +kernel
theorem dX8_acts_42 : decode cX8_acts 42 = .ok (.iload_n 2, 1) := by decide +kernel
theorem dX8_acts_43 : decode cX8_acts 43 = .ok (.invokevirtual 163, 3) := by decide +kernel
theorem dX8_acts_46 : decode cX8_acts 46 = .ok (.ireturn, 1) := by decide +kernel
theorem dX8_power_0 : decode cX8_power 0 = .ok (.aload_n 0, 1) := by decide +kernel
theorem dX8_power_1 : decode cX8_power 1 = .ok (.iconst 0, 1) := by decide +kernel
theorem dX8_power_2 : decode cX8_power 2 = .ok (.putfield 80, 3) := by decide +kernel
theorem dX8_power_5 : decode cX8_power 5 = .ok (.aload_n 0, 1) := by decide +kernel
theorem dX8_power_6 : decode cX8_power 6 = .ok (.iload_n 1, 1) := by decide +kernel
theorem dX8_power_7 : decode cX8_power 7 = .ok (.invokevirtual 130, 3) := by decide +kernel
theorem dX8_power_10 : decode cX8_power 10 = .ok (.ifCond .eq 23, 3) := by decide +kernel
theorem dX8_power_13 : decode cX8_power 13 = .ok (.aload_n 0, 1) := by decide +kernel
theorem dX8_power_14 : decode cX8_power 14 = .ok (.iload_n 2, 1) := by decide +kernel
theorem dX8_power_15 : decode cX8_power 15 = .ok (.invokevirtual 108, 3) := by decide +kernel
theorem dX8_power_18 : decode cX8_power 18 = .ok (.ifCond .eq 15, 3) := by decide +kernel
theorem dX8_power_21 : decode cX8_power 21 = .ok (.iload_n 3, 1) := by decide +kernel
theorem dX8_power_22 : decode cX8_power 22 = .ok (.i2l, 1) := by decide +kernel
theorem dX8_power_23 : decode cX8_power 23 = .ok (.lconst 0, 1) := by decide +kernel
theorem dX8_power_24 : decode cX8_power 24 = .ok (.ldc2_w 174, 3) := by decide +kernel
theorem dX8_power_27 : decode cX8_power 27 = .ok (.invokestatic 90, 3) := by decide +kernel
theorem dX8_power_30 : decode cX8_power 30 = .ok (.ifCond .ne 6, 3) := by decide +kernel
theorem dX8_power_33 : decode cX8_power 33 = .ok (.ldc 100, 2) := by decide +kernel
theorem dX8_power_35 : decode cX8_power 35 = .ok (.ireturn, 1) := by decide +kernel
theorem dX8_power_36 : decode cX8_power 36 = .ok (.iload_n 2, 1) := by decide +kernel
theorem dX8_power_37 : decode cX8_power 37 = .ok (.aload_n 0, 1) := by decide +kernel
theorem dX8_power_38 : decode cX8_power 38 = .ok (.iload_n 1, 1) := by decide +kernel
theorem dX8_power_39 : decode cX8_power 39 = .ok (.invokevirtual 144, 3) := by decide +kernel
theorem dX8_power_42 : decode cX8_power 42 = .ok (.if_icmp .gt 6, 3) := by decide +kernel
theorem dX8_power_45 : decode cX8_power 45 = .ok (.ldc 136, 2) := by decide +kernel
theorem dX8_power_47 : decode cX8_power 47 = .ok (.ireturn, 1) := by decide +kernel
theorem dX8_power_48 : decode cX8_power 48 = .ok (.iload_n 3, 1) := by decide +kernel
theorem dX8_power_49 : decode cX8_power 49 = .ok (.aload_n 0, 1) := by decide +kernel
theorem dX8_power_50 : decode cX8_power 50 = .ok (.iload_n 1, 1) := by decide +kernel
theorem dX8_power_51 : decode cX8_power 51 = .ok (.iload_n 2, 1) := by decide +kernel
theorem dX8_power_52 : decode cX8_power 52 = .ok (.invokevirtual 163, 3) := by decide +kernel
theorem dX8_power_55 : decode cX8_power 55 = .ok (.if_icmp .le 6, 3) := by decide +kernel
theorem dX8_power_58 : decode cX8_power 58 = .ok (.ldc 100, 2) := by decide +kernel
theorem dX8_power_60 : decode cX8_power 60 = .ok (.ireturn, 1) := by decide +kernel
theorem dX8_power_61 : decode cX8_power 61 = .ok (.aload_n 0, 1) := by decide +kernel
theorem dX8_power_62 : decode cX8_power 62 = .ok (.iload_n 1, 1) := by decide +kernel
theorem dX8_power_63 : decode cX8_power 63 = .ok (.iload_n 2, 1) := by decide +kernel
theorem dX8_power_64 : decode cX8_power 64 = .ok (.iload_n 3, 1) := by decide +kernel
theorem dX8_power_65 : decode cX8_power 65 = .ok (.iconst 4, 1) := by decide +kernel
theorem dX8_power_66 : decode cX8_power 66 = .ok (.invokevirtual 167, 3) := by decide +kernel
theorem dX8_power_69 : decode cX8_power 69 = .ok (.aload_n 0, 1) := by decide +kernel
theorem dX8_power_70 : decode cX8_power 70 = .ok (.iload_n 1, 1) := by decide +kernel
theorem dX8_power_71 : decode cX8_power 71 = .ok (.iload_n 2, 1) := by decide +kernel
theorem dX8_power_72 : decode cX8_power 72 = .ok (.invokevirtual 171, 3) := by decide +kernel
theorem dX8_power_75 : decode cX8_power 75 = .ok (.ireturn, 1) := by decide +kernel
theorem dX8_cut_0 : decode cX8_cut 0 = .ok (.aload_n 0, 1) := by decide +kernel
theorem dX8_cut_1 : decode cX8_cut 1 = .ok (.iconst 0, 1) := by decide +kernel
theorem dX8_cut_2 : decode cX8_cut 2 = .ok (.putfield 80, 3) := by decide +kernel
theorem dX8_cut_5 : decode cX8_cut 5 = .ok (.aload_n 0, 1) := by decide +kernel
theorem dX8_cut_6 : decode cX8_cut 6 = .ok (.iload_n 1, 1) := by decide +kernel
theorem dX8_cut_7 : decode cX8_cut 7 = .ok (.invokevirtual 130, 3) := by decide +kernel
theorem dX8_cut_10 : decode cX8_cut 10 = .ok (.ifCond .eq 36, 3) := by decide +kernel
theorem dX8_cut_13 : decode cX8_cut 13 = .ok (.aload_n 0, 1) := by decide +kernel
theorem dX8_cut_14 : decode cX8_cut 14 = .ok (.iload_n 2, 1) := by decide +kernel
theorem dX8_cut_15 : decode cX8_cut 15 = .ok (.invokevirtual 108, 3) := by decide +kernel
theorem dX8_cut_18 : decode cX8_cut 18 = .ok (.ifCond .eq 28, 3) := by decide +kernel
theorem dX8_cut_21 : decode cX8_cut 21 = .ok (.iload_n 3, 1) := by decide +kernel
theorem dX8_cut_22 : decode cX8_cut 22 = .ok (.i2l, 1) := by decide +kernel
theorem dX8_cut_23 : decode cX8_cut 23 = .ok (.lconst 0, 1) := by decide +kernel
theorem dX8_cut_24 : decode cX8_cut 24 = .ok (.ldc2_w 174, 3) := by decide +kernel
theorem dX8_cut_27 : decode cX8_cut 27 = .ok (.invokestatic 90, 3) := by decide +kernel
theorem dX8_cut_30 : decode cX8_cut 30 = .ok (.ifCond .eq 16, 3) := by decide +kernel
theorem dX8_cut_33 : decode cX8_cut 33 = .ok (.iload 4, 2) := by decide +kernel
theorem dX8_cut_35 : decode cX8_cut 35 = .ok (.i2l, 1) := by decide +kernel
theorem dX8_cut_36 : decode cX8_cut 36 = .ok (.lconst 0, 1) := by decide +kernel
theorem dX8_cut_37 : decode cX8_cut 37 = .ok (.ldc2_w 176, 3) := by decide +kernel
theorem dX8_cut_40 : decode cX8_cut 40 = .ok (.invokestatic 90, 3) := by decide +kernel
theorem dX8_cut_43 : decode cX8_cut 43 = .ok (.ifCond .ne 6, 3) := by decide +kernel
theorem dX8_cut_46 : decode cX8_cut 46 = .ok (.ldc 100, 2) := by decide +kernel
theorem dX8_cut_48 : decode cX8_cut 48 = .ok (.ireturn, 1) := by decide +kernel
theorem dX8_cut_49 : decode cX8_cut 49 = .ok (.iload_n 2, 1) := by decide +kernel
theorem dX8_cut_50 : decode cX8_cut 50 = .ok (.aload_n 0, 1) := by decide +kernel
theorem dX8_cut_51 : decode cX8_cut 51 = .ok (.iload_n 1, 1) := by decide +kernel
theorem dX8_cut_52 : decode cX8_cut 52 = .ok (.invokevirtual 144, 3) := by decide +kernel
theorem dX8_cut_55 : decode cX8_cut 55 = .ok (.if_icmp .gt 6, 3) := by decide +kernel
theorem dX8_cut_58 : decode cX8_cut 58 = .ok (.ldc 136, 2) := by decide +kernel
theorem dX8_cut_60 : decode cX8_cut 60 = .ok (.ireturn, 1) := by decide +kernel
theorem dX8_cut_61 : decode cX8_cut 61 = .ok (.iload_n 3, 1) := by decide +kernel
theorem dX8_cut_62 : decode cX8_cut 62 = .ok (.aload_n 0, 1) := by decide +kernel
theorem dX8_cut_63 : decode cX8_cut 63 = .ok (.iload_n 1, 1) := by decide +kernel
theorem dX8_cut_64 : decode cX8_cut 64 = .ok (.iload_n 2, 1) := by decide +kernel
theorem dX8_cut_65 : decode cX8_cut 65 = .ok (.invokevirtual 163, 3) := by decide +kernel
theorem dX8_cut_68 : decode cX8_cut 68 = .ok (.if_icmp .le 6, 3) := by decide +kernel
theorem dX8_cut_71 : decode cX8_cut 71 = .ok (.ldc 100, 2) := by decide +kernel
theorem dX8_cut_73 : decode cX8_cut 73 = .ok (.ireturn, 1) := by decide +kernel
theorem dX8_cut_74 : decode cX8_cut 74 = .ok (.aload_n 0, 1) := by decide +kernel
theorem dX8_cut_75 : decode cX8_cut 75 = .ok (.getfield 46, 3) := by decide +kernel
theorem dX8_cut_78 : decode cX8_cut 78 = .ok (.iload_n 1, 1) := by decide +kernel
theorem dX8_cut_79 : decode cX8_cut 79 = .ok (.iaload, 1) := by decide +kernel
theorem dX8_cut_80 : decode cX8_cut 80 = .ok (.istore 5, 2) := by decide +kernel
theorem dX8_cut_82 : decode cX8_cut 82 = .ok (.aload_n 0, 1) := by decide +kernel
theorem dX8_cut_83 : decode cX8_cut 83 = .ok (.getfield 62, 3) := by decide +kernel
theorem dX8_cut_86 : decode cX8_cut 86 = .ok (.iload_n 1, 1) := by decide +kernel
theorem dX8_cut_87 : decode cX8_cut 87 = .ok (.iaload, 1) := by decide +kernel
theorem dX8_cut_88 : decode cX8_cut 88 = .ok (.istore 6, 2) := by decide +kernel
theorem dX8_cut_90 : decode cX8_cut 90 = .ok (.aload_n 0, 1) := by decide +kernel
theorem dX8_cut_91 : decode cX8_cut 91 = .ok (.getfield 49, 3) := by decide +kernel
theorem dX8_cut_94 : decode cX8_cut 94 = .ok (.aload_n 0, 1) := by decide +kernel
theorem dX8_cut_95 : decode cX8_cut 95 = .ok (.iload_n 1, 1) := by decide +kernel
theorem dX8_cut_96 : decode cX8_cut 96 = .ok (.invokevirtual 147, 3) := by decide +kernel
theorem dX8_cut_99 : decode cX8_cut 99 = .ok (.iaload, 1) := by decide +kernel
theorem dX8_cut_100 : decode cX8_cut 100 = .ok (.istore 7, 2) := by decide +kernel
theorem dX8_cut_102 : decode cX8_cut 102 = .ok (.aload_n 0, 1) := by decide +kernel
theorem dX8_cut_103 : decode cX8_cut 103 = .ok (.getfield 52, 3) := by decide +kernel
theorem dX8_cut_106 : decode cX8_cut 106 = .ok (.aload_n 0, 1) := by decide +kernel
theorem dX8_cut_107 : decode cX8_cut 107 = .ok (.iload_n 1, 1) := by decide +kernel
theorem dX8_cut_108 : decode cX8_cut 108 = .ok (.invokevirtual 147, 3) := by decide +kernel
theorem dX8_cut_111 : decode cX8_cut 111 = .ok (.iaload, 1) := by decide +kernel
theorem dX8_cut_112 : decode cX8_cut 112 = .ok (.istore 8, 2) := by decide +kernel
theorem dX8_cut_114 : decode cX8_cut 114 = .ok (.aload_n 0, 1) := by decide +kernel
theorem dX8_cut_115 : decode cX8_cut 115 = .ok (.iload_n 1, 1) := by decide +kernel
theorem dX8_cut_116 : decode cX8_cut 116 = .ok (.invokevirtual 147, 3) := by decide +kernel
theorem dX8_cut_119 : decode cX8_cut 119 = .ok (.istore 9, 2) := by decide +kernel
theorem dX8_cut_121 : decode cX8_cut 121 = .ok (.aload_n 0, 1) := by decide +kernel
theorem dX8_cut_122 : decode cX8_cut 122 = .ok (.iload_n 1, 1) := by decide +kernel
theorem dX8_cut_123 : decode cX8_cut 123 = .ok (.iload_n 2, 1) := by decide +kernel
theorem dX8_cut_124 : decode cX8_cut 124 = .ok (.iload_n 3, 1) := by decide +kernel
theorem dX8_cut_125 : decode cX8_cut 125 = .ok (.iconst 4, 1) := by decide +kernel
theorem dX8_cut_126 : decode cX8_cut 126 = .ok (.invokevirtual 167, 3) := by decide +kernel
theorem dX8_cut_129 : decode cX8_cut 129 = .ok (.iload 4, 2) := by decide +kernel
theorem dX8_cut_131 : decode cX8_cut 131 = .ok (.ifCond .ne 19, 3) := by decide +kernel
theorem dX8_cut_134 : decode cX8_cut 134 = .ok (.aload_n 0, 1) := by decide +kernel
theorem dX8_cut_135 : decode cX8_cut 135 = .ok (.iload_n 1, 1) := by decide +kernel
theorem dX8_cut_136 : decode cX8_cut 136 = .ok (.invokevirtual 153, 3) := by decide +kernel
theorem dX8_cut_139 : decode cX8_cut 139 = .ok (.ifCond .eq 7, 3) := by decide +kernel
theorem dX8_cut_142 : decode cX8_cut 142 = .ok (.iconst 1, 1) := by decide +kernel
theorem dX8_cut_143 : decode cX8_cut 143 = .ok (.goto 46, 3) := by decide +kernel
theorem dX8_cut_146 : decode cX8_cut 146 = .ok (.iconst 0, 1) := by decide +kernel
theorem dX8_cut_147 : decode cX8_cut 147 = .ok (.goto 42, 3) := by decide +kernel
theorem dX8_cut_150 : decode cX8_cut 150 = .ok (.iload 4, 2) := by decide +kernel
theorem dX8_cut_152 : decode cX8_cut 152 = .ok (.iconst 1, 1) := by decide +kernel
theorem dX8_cut_153 : decode cX8_cut 153 = .ok (.if_icmp .ne 11, 3) := by decide +kernel
theorem dX8_cut_156 : decode cX8_cut 156 = .ok (.aload_n 0, 1) := by decide +kernel
theorem dX8_cut_157 : decode cX8_cut 157 = .ok (.iload_n 1, 1) := by decide +kernel
theorem dX8_cut_158 : decode cX8_cut 158 = .ok (.invokevirtual 144, 3) := by decide +kernel
theorem dX8_cut_161 : decode cX8_cut 161 = .ok (.goto 28, 3) := by decide +kernel
theorem dX8_cut_164 : decode cX8_cut 164 = .ok (.iload 4, 2) := by decide +kernel
theorem dX8_cut_166 : decode cX8_cut 166 = .ok (.iconst 2, 1) := by decide +kernel
theorem dX8_cut_167 : decode cX8_cut 167 = .ok (.if_icmp .ne 16, 3) := by decide +kernel
theorem dX8_cut_170 : decode cX8_cut 170 = .ok (.aload_n 0, 1) := by decide +kernel
theorem dX8_cut_171 : decode cX8_cut 171 = .ok (.getfield 52, 3) := by decide +kernel
theorem dX8_cut_174 : decode cX8_cut 174 = .ok (.aload_n 0, 1) := by decide +kernel
theorem dX8_cut_175 : decode cX8_cut 175 = .ok (.iload_n 1, 1) := by decide +kernel
theorem dX8_cut_176 : decode cX8_cut 176 = .ok (.invokevirtual 147, 3) := by decide +kernel
theorem dX8_cut_179 : decode cX8_cut 179 = .ok (.iaload, 1) := by decide +kernel
theorem dX8_cut_180 : decode cX8_cut 180 = .ok (.goto 9, 3) := by decide +kernel
theorem dX8_cut_183 : decode cX8_cut 183 = .ok (.aload_n 0, 1) := by decide +kernel
theorem dX8_cut_184 : decode cX8_cut 184 = .ok (.getfield 62, 3) := by decide +kernel
theorem dX8_cut_187 : decode cX8_cut 187 = .ok (.iload_n 1, 1) := by decide +kernel
theorem dX8_cut_188 : decode cX8_cut 188 = .ok (.iaload, 1) := by decide +kernel
theorem dX8_cut_189 : decode cX8_cut 189 = .ok (.istore 10, 2) := by decide +kernel
theorem dX8_cut_191 : decode cX8_cut 191 = .ok (.aload_n 0, 1) := by decide +kernel
theorem dX8_cut_192 : decode cX8_cut 192 = .ok (.getfield 46, 3) := by decide +kernel
theorem dX8_cut_195 : decode cX8_cut 195 = .ok (.iload_n 1, 1) := by decide +kernel
theorem dX8_cut_196 : decode cX8_cut 196 = .ok (.iload 5, 2) := by decide +kernel
theorem dX8_cut_198 : decode cX8_cut 198 = .ok (.iastore, 1) := by decide +kernel
theorem dX8_cut_199 : decode cX8_cut 199 = .ok (.aload_n 0, 1) := by decide +kernel
theorem dX8_cut_200 : decode cX8_cut 200 = .ok (.getfield 62, 3) := by decide +kernel
theorem dX8_cut_203 : decode cX8_cut 203 = .ok (.iload_n 1, 1) := by decide +kernel
theorem dX8_cut_204 : decode cX8_cut 204 = .ok (.iload 6, 2) := by decide +kernel
theorem dX8_cut_206 : decode cX8_cut 206 = .ok (.iastore, 1) := by decide +kernel
theorem dX8_cut_207 : decode cX8_cut 207 = .ok (.aload_n 0, 1) := by decide +kernel
theorem dX8_cut_208 : decode cX8_cut 208 = .ok (.getfield 49, 3) := by decide +kernel
theorem dX8_cut_211 : decode cX8_cut 211 = .ok (.iload 9, 2) := by decide +kernel
theorem dX8_cut_213 : decode cX8_cut 213 = .ok (.iload 7, 2) := by decide +kernel
theorem dX8_cut_215 : decode cX8_cut 215 = .ok (.iastore, 1) := by decide +kernel
theorem dX8_cut_216 : decode cX8_cut 216 = .ok (.aload_n 0, 1) := by decide +kernel
theorem dX8_cut_217 : decode cX8_cut 217 = .ok (.getfield 52, 3) := by decide +kernel
theorem dX8_cut_220 : decode cX8_cut 220 = .ok (.iload 9, 2) := by decide +kernel
theorem dX8_cut_222 : decode cX8_cut 222 = .ok (.iload 8, 2) := by decide +kernel
theorem dX8_cut_224 : decode cX8_cut 224 = .ok (.iastore, 1) := by decide +kernel
theorem dX8_cut_225 : decode cX8_cut 225 = .ok (.aload_n 0, 1) := by decide +kernel
theorem dX8_cut_226 : decode cX8_cut 226 = .ok (.getfield 55, 3) := by decide +kernel
theorem dX8_cut_229 : decode cX8_cut 229 = .ok (.iload_n 1, 1) := by decide +kernel
theorem dX8_cut_230 : decode cX8_cut 230 = .ok (.iconst 0, 1) := by decide +kernel
theorem dX8_cut_231 : decode cX8_cut 231 = .ok (.bastore, 1) := by decide +kernel
theorem dX8_cut_232 : decode cX8_cut 232 = .ok (.iload 10, 2) := by decide +kernel
theorem dX8_cut_234 : decode cX8_cut 234 = .ok (.ireturn, 1) := by decide +kernel
theorem dX8_seed_0 : decode cX8_seed 0 = .ok (.aload_n 0, 1) := by decide +kernel
theorem dX8_seed_1 : decode cX8_seed 1 = .ok (.iconst 0, 1) := by decide +kernel
theorem dX8_seed_2 : decode cX8_seed 2 = .ok (.putfield 80, 3) := by decide +kernel
theorem dX8_seed_5 : decode cX8_seed 5 = .ok (.aload_n 0, 1) := by decide +kernel
theorem dX8_seed_6 : decode cX8_seed 6 = .ok (.iload_n 1, 1) := by decide +kernel
theorem dX8_seed_7 : decode cX8_seed 7 = .ok (.putfield 139, 3) := by decide +kernel
theorem dX8_seed_10 : decode cX8_seed 10 = .ok (.iconst 1, 1) := by decide +kernel
theorem dX8_seed_11 : decode cX8_seed 11 = .ok (.ireturn, 1) := by decide +kernel
theorem dX8_campaign_0 : decode cX8_campaign 0 = .ok (.aload_n 0, 1) := by decide +kernel
theorem dX8_campaign_1 : decode cX8_campaign 1 = .ok (.iconst 0, 1) := by decide +kernel
theorem dX8_campaign_2 : decode cX8_campaign 2 = .ok (.putfield 80, 3) := by decide +kernel
theorem dX8_campaign_5 : decode cX8_campaign 5 = .ok (.aload_n 0, 1) := by decide +kernel
theorem dX8_campaign_6 : decode cX8_campaign 6 = .ok (.iload_n 1, 1) := by decide +kernel
theorem dX8_campaign_7 : decode cX8_campaign 7 = .ok (.invokevirtual 108, 3) := by decide +kernel
theorem dX8_campaign_10 : decode cX8_campaign 10 = .ok (.ifCond .eq 36, 3) := by decide +kernel
theorem dX8_campaign_13 : decode cX8_campaign 13 = .ok (.iload_n 2, 1) := by decide +kernel
theorem dX8_campaign_14 : decode cX8_campaign 14 = .ok (.invokestatic 94, 3) := by decide +kernel
theorem dX8_campaign_17 : decode cX8_campaign 17 = .ok (.ifCond .eq 29, 3) := by decide +kernel
theorem dX8_campaign_20 : decode cX8_campaign 20 = .ok (.iload 4, 2) := by decide +kernel
theorem dX8_campaign_22 : decode cX8_campaign 22 = .ok (.i2l, 1) := by decide +kernel
theorem dX8_campaign_23 : decode cX8_campaign 23 = .ok (.lconst 1, 1) := by decide +kernel
theorem dX8_campaign_24 : decode cX8_campaign 24 = .ok (.ldc2_w 178, 3) := by decide +kernel
theorem dX8_campaign_27 : decode cX8_campaign 27 = .ok (.invokestatic 90, 3) := by decide +kernel
theorem dX8_campaign_30 : decode cX8_campaign 30 = .ok (.ifCond .eq 16, 3) := by decide +kernel
theorem dX8_campaign_33 : decode cX8_campaign 33 = .ok (.iload 5, 2) := by decide +kernel
theorem dX8_campaign_35 : decode cX8_campaign 35 = .ok (.i2l, 1) := by decide +kernel
theorem dX8_campaign_36 : decode cX8_campaign 36 = .ok (.lconst 0, 1) := by decide +kernel
theorem dX8_campaign_37 : decode cX8_campaign 37 = .ok (.ldc2_w 180, 3) := by decide +kernel
theorem dX8_campaign_40 : decode cX8_campaign 40 = .ok (.invokestatic 90, 3) := by decide +kernel
theorem dX8_campaign_43 : decode cX8_campaign 43 = .ok (.ifCond .ne 6, 3) := by decide +kernel
theorem dX8_campaign_46 : decode cX8_campaign 46 = .ok (.ldc 100, 2) := by decide +kernel
theorem dX8_campaign_48 : decode cX8_campaign 48 = .ok (.ireturn, 1) := by decide +kernel
theorem dX8_campaign_49 : decode cX8_campaign 49 = .ok (.aload_n 0, 1) := by decide +kernel
theorem dX8_campaign_50 : decode cX8_campaign 50 = .ok (.getfield 7, 3) := by decide +kernel
theorem dX8_campaign_53 : decode cX8_campaign 53 = .ok (.iload_n 2, 1) := by decide +kernel
theorem dX8_campaign_54 : decode cX8_campaign 54 = .ok (.iaload, 1) := by decide +kernel
theorem dX8_campaign_55 : decode cX8_campaign 55 = .ok (.ifCond .ge 9, 3) := by decide +kernel
theorem dX8_campaign_58 : decode cX8_campaign 58 = .ok (.aload_n 0, 1) := by decide +kernel
theorem dX8_campaign_59 : decode cX8_campaign 59 = .ok (.iconst 1, 1) := by decide +kernel
theorem dX8_campaign_60 : decode cX8_campaign 60 = .ok (.invokevirtual 101, 3) := by decide +kernel
theorem dX8_campaign_63 : decode cX8_campaign 63 = .ok (.ireturn, 1) := by decide +kernel
theorem dX8_campaign_64 : decode cX8_campaign 64 = .ok (.iload_n 3, 1) := by decide +kernel
theorem dX8_campaign_65 : decode cX8_campaign 65 = .ok (.ifCond .lt 20, 3) := by decide +kernel
theorem dX8_campaign_68 : decode cX8_campaign 68 = .ok (.iload_n 3, 1) := by decide +kernel
theorem dX8_campaign_69 : decode cX8_campaign 69 = .ok (.i2l, 1) := by decide +kernel
theorem dX8_campaign_70 : decode cX8_campaign 70 = .ok (.iload 4, 2) := by decide +kernel
theorem dX8_campaign_72 : decode cX8_campaign 72 = .ok (.i2l, 1) := by decide +kernel
theorem dX8_campaign_73 : decode cX8_campaign 73 = .ok (.ladd, 1) := by decide +kernel
theorem dX8_campaign_74 : decode cX8_campaign 74 = .ok (.aload_n 0, 1) := by decide +kernel
theorem dX8_campaign_75 : decode cX8_campaign 75 = .ok (.getfield 13, 3) := by decide +kernel
theorem dX8_campaign_78 : decode cX8_campaign 78 = .ok (.iload_n 2, 1) := by decide +kernel
theorem dX8_campaign_79 : decode cX8_campaign 79 = .ok (.iaload, 1) := by decide +kernel
theorem dX8_campaign_80 : decode cX8_campaign 80 = .ok (.i2l, 1) := by decide +kernel
theorem dX8_campaign_81 : decode cX8_campaign 81 = .ok (.lcmp, 1) := by decide +kernel
theorem dX8_campaign_82 : decode cX8_campaign 82 = .ok (.ifCond .le 9, 3) := by decide +kernel
theorem dX8_campaign_85 : decode cX8_campaign 85 = .ok (.aload_n 0, 1) := by decide +kernel
theorem dX8_campaign_86 : decode cX8_campaign 86 = .ok (.iconst 2, 1) := by decide +kernel
theorem dX8_campaign_87 : decode cX8_campaign 87 = .ok (.invokevirtual 101, 3) := by decide +kernel
theorem dX8_campaign_90 : decode cX8_campaign 90 = .ok (.ireturn, 1) := by decide +kernel
theorem dX8_campaign_91 : decode cX8_campaign 91 = .ok (.iconst 0, 1) := by decide +kernel
theorem dX8_campaign_92 : decode cX8_campaign 92 = .ok (.istore 6, 2) := by decide +kernel
theorem dX8_campaign_94 : decode cX8_campaign 94 = .ok (.iload 6, 2) := by decide +kernel
theorem dX8_campaign_96 : decode cX8_campaign 96 = .ok (.iload 4, 2) := by decide +kernel
theorem dX8_campaign_98 : decode cX8_campaign 98 = .ok (.if_icmp .ge 67, 3) := by decide +kernel
theorem dX8_campaign_101 : decode cX8_campaign 101 = .ok (.aload_n 0, 1) := by decide +kernel
theorem dX8_campaign_102 : decode cX8_campaign 102 = .ok (.getfield 16, 3) := by decide +kernel
theorem dX8_campaign_105 : decode cX8_campaign 105 = .ok (.bipush 60, 2) := by decide +kernel
theorem dX8_campaign_107 : decode cX8_campaign 107 = .ok (.iload_n 2, 1) := by decide +kernel
theorem dX8_campaign_108 : decode cX8_campaign 108 = .ok (.imul, 1) := by decide +kernel
theorem dX8_campaign_109 : decode cX8_campaign 109 = .ok (.iload_n 3, 1) := by decide +kernel
theorem dX8_campaign_110 : decode cX8_campaign 110 = .ok (.iadd, 1) := by decide +kernel
theorem dX8_campaign_111 : decode cX8_campaign 111 = .ok (.iload 6, 2) := by decide +kernel
theorem dX8_campaign_113 : decode cX8_campaign 113 = .ok (.iadd, 1) := by decide +kernel
theorem dX8_campaign_114 : decode cX8_campaign 114 = .ok (.iaload, 1) := by decide +kernel
theorem dX8_campaign_115 : decode cX8_campaign 115 = .ok (.istore 7, 2) := by decide +kernel
theorem dX8_campaign_117 : decode cX8_campaign 117 = .ok (.iload 7, 2) := by decide +kernel
theorem dX8_campaign_119 : decode cX8_campaign 119 = .ok (.i2l, 1) := by decide +kernel
theorem dX8_campaign_120 : decode cX8_campaign 120 = .ok (.lconst 1, 1) := by decide +kernel
theorem dX8_campaign_121 : decode cX8_campaign 121 = .ok (.ldc2_w 182, 3) := by decide +kernel
theorem dX8_campaign_124 : decode cX8_campaign 124 = .ok (.invokestatic 90, 3) := by decide +kernel
theorem dX8_campaign_127 : decode cX8_campaign 127 = .ok (.ifCond .eq 29, 3) := by decide +kernel
theorem dX8_campaign_130 : decode cX8_campaign 130 = .ok (.iload 6, 2) := by decide +kernel
theorem dX8_campaign_132 : decode cX8_campaign 132 = .ok (.ifCond .le 27, 3) := by decide +kernel
theorem dX8_campaign_135 : decode cX8_campaign 135 = .ok (.iload 7, 2) := by decide +kernel
theorem dX8_campaign_137 : decode cX8_campaign 137 = .ok (.aload_n 0, 1) := by decide +kernel
theorem dX8_campaign_138 : decode cX8_campaign 138 = .ok (.getfield 16, 3) := by decide +kernel
theorem dX8_campaign_141 : decode cX8_campaign 141 = .ok (.bipush 60, 2) := by decide +kernel
theorem dX8_campaign_143 : decode cX8_campaign 143 = .ok (.iload_n 2, 1) := by decide +kernel
theorem dX8_campaign_144 : decode cX8_campaign 144 = .ok (.imul, 1) := by decide +kernel
theorem dX8_campaign_145 : decode cX8_campaign 145 = .ok (.iload_n 3, 1) := by decide +kernel
theorem dX8_campaign_146 : decode cX8_campaign 146 = .ok (.iadd, 1) := by decide +kernel
theorem dX8_campaign_147 : decode cX8_campaign 147 = .ok (.iload 6, 2) := by decide +kernel
theorem dX8_campaign_149 : decode cX8_campaign 149 = .ok (.iadd, 1) := by decide +kernel
theorem dX8_campaign_150 : decode cX8_campaign 150 = .ok (.iconst 1, 1) := by decide +kernel
theorem dX8_campaign_151 : decode cX8_campaign 151 = .ok (.isub, 1) := by decide +kernel
theorem dX8_campaign_152 : decode cX8_campaign 152 = .ok (.iaload, 1) := by decide +kernel
theorem dX8_campaign_153 : decode cX8_campaign 153 = .ok (.if_icmp .gt 6, 3) := by decide +kernel
theorem dX8_campaign_156 : decode cX8_campaign 156 = .ok (.ldc 100, 2) := by decide +kernel
theorem dX8_campaign_158 : decode cX8_campaign 158 = .ok (.ireturn, 1) := by decide +kernel
theorem dX8_campaign_159 : decode cX8_campaign 159 = .ok (.iinc 6 1, 3) := by decide +kernel
theorem dX8_campaign_162 : decode cX8_campaign 162 = .ok (.goto (-68), 3) := by decide +kernel
theorem dX8_campaign_165 : decode cX8_campaign 165 = .ok (.aload_n 0, 1) := by decide +kernel
theorem dX8_campaign_166 : decode cX8_campaign 166 = .ok (.iconst 0, 1) := by decide +kernel
theorem dX8_campaign_167 : decode cX8_campaign 167 = .ok (.putfield 84, 3) := by decide +kernel
theorem dX8_campaign_170 : decode cX8_campaign 170 = .ok (.aload_n 0, 1) := by decide +kernel
theorem dX8_campaign_171 : decode cX8_campaign 171 = .ok (.iconst 1, 1) := by decide +kernel
theorem dX8_campaign_172 : decode cX8_campaign 172 = .ok (.putfield 184, 3) := by decide +kernel
theorem dX8_campaign_175 : decode cX8_campaign 175 = .ok (.aload_n 0, 1) := by decide +kernel
theorem dX8_campaign_176 : decode cX8_campaign 176 = .ok (.iload_n 1, 1) := by decide +kernel
theorem dX8_campaign_177 : decode cX8_campaign 177 = .ok (.putfield 188, 3) := by decide +kernel
theorem dX8_campaign_180 : decode cX8_campaign 180 = .ok (.aload_n 0, 1) := by decide +kernel
theorem dX8_campaign_181 : decode cX8_campaign 181 = .ok (.iload 4, 2) := by decide +kernel
theorem dX8_campaign_183 : decode cX8_campaign 183 = .ok (.putfield 191, 3) := by decide +kernel
theorem dX8_campaign_186 : decode cX8_campaign 186 = .ok (.aload_n 0, 1) := by decide +kernel
end
section
theorem dX8_campaign_187 : decode cX8_campaign 187 = .ok (.iload 5, 2) := by decide +kernel
theorem dX8_campaign_189 : decode cX8_campaign 189 = .ok (.putfield 194, 3) := by decide +kernel
theorem dX8_campaign_192 : decode cX8_campaign 192 = .ok (.aload_n 0, 1) := by decide +kernel
theorem dX8_campaign_193 : decode cX8_campaign 193 = .ok (.iconst 0, 1) := by decide +kernel
theorem dX8_campaign_194 : decode cX8_campaign 194 = .ok (.putfield 197, 3) := by decide +kernel
theorem dX8_campaign_197 : decode cX8_campaign 197 = .ok (.aload_n 0, 1) := by decide +kernel
theorem dX8_campaign_198 : decode cX8_campaign 198 = .ok (.iconst 0, 1) := by decide +kernel
theorem dX8_campaign_199 : decode cX8_campaign 199 = .ok (.putfield 200, 3) := by decide +kernel
theorem dX8_campaign_202 : decode cX8_campaign 202 = .ok (.iconst 0, 1) := by decide +kernel
theorem dX8_campaign_203 : decode cX8_campaign 203 = .ok (.istore 6, 2) := by decide +kernel
theorem dX8_campaign_205 : decode cX8_campaign 205 = .ok (.iload 6, 2) := by decide +kernel
theorem dX8_campaign_207 : decode cX8_campaign 207 = .ok (.iload 4, 2) := by decide +kernel
theorem dX8_campaign_209 : decode cX8_campaign 209 = .ok (.if_icmp .ge 30, 3) := by decide +kernel
theorem dX8_campaign_212 : decode cX8_campaign 212 = .ok (.aload_n 0, 1) := by decide +kernel
theorem dX8_campaign_213 : decode cX8_campaign 213 = .ok (.getfield 71, 3) := by decide +kernel
theorem dX8_campaign_216 : decode cX8_campaign 216 = .ok (.iload 6, 2) := by decide +kernel
theorem dX8_campaign_218 : decode cX8_campaign 218 = .ok (.aload_n 0, 1) := by decide +kernel
theorem dX8_campaign_219 : decode cX8_campaign 219 = .ok (.getfield 16, 3) := by decide +kernel
theorem dX8_campaign_222 : decode cX8_campaign 222 = .ok (.bipush 60, 2) := by decide +kernel
theorem dX8_campaign_224 : decode cX8_campaign 224 = .ok (.iload_n 2, 1) := by decide +kernel
theorem dX8_campaign_225 : decode cX8_campaign 225 = .ok (.imul, 1) := by decide +kernel
theorem dX8_campaign_226 : decode cX8_campaign 226 = .ok (.iload_n 3, 1) := by decide +kernel
theorem dX8_campaign_227 : decode cX8_campaign 227 = .ok (.iadd, 1) := by decide +kernel
theorem dX8_campaign_228 : decode cX8_campaign 228 = .ok (.iload 6, 2) := by decide +kernel
theorem dX8_campaign_230 : decode cX8_campaign 230 = .ok (.iadd, 1) := by decide +kernel
theorem dX8_campaign_231 : decode cX8_campaign 231 = .ok (.iaload, 1) := by decide +kernel
theorem dX8_campaign_232 : decode cX8_campaign 232 = .ok (.iastore, 1) := by decide +kernel
theorem dX8_campaign_233 : decode cX8_campaign 233 = .ok (.iinc 6 1, 3) := by decide +kernel
theorem dX8_campaign_236 : decode cX8_campaign 236 = .ok (.goto (-31), 3) := by decide +kernel
theorem dX8_campaign_239 : decode cX8_campaign 239 = .ok (.aload_n 0, 1) := by decide +kernel
theorem dX8_campaign_240 : decode cX8_campaign 240 = .ok (.iconst 0, 1) := by decide +kernel
theorem dX8_campaign_241 : decode cX8_campaign 241 = .ok (.invokevirtual 203, 3) := by decide +kernel
theorem dX8_campaign_244 : decode cX8_campaign 244 = .ok (.iconst 0, 1) := by decide +kernel
theorem dX8_campaign_245 : decode cX8_campaign 245 = .ok (.istore 6, 2) := by decide +kernel
theorem dX8_campaign_247 : decode cX8_campaign 247 = .ok (.iconst 0, 1) := by decide +kernel
theorem dX8_campaign_248 : decode cX8_campaign 248 = .ok (.istore 7, 2) := by decide +kernel
theorem dX8_campaign_250 : decode cX8_campaign 250 = .ok (.iload 7, 2) := by decide +kernel
theorem dX8_campaign_252 : decode cX8_campaign 252 = .ok (.aload_n 0, 1) := by decide +kernel
theorem dX8_campaign_253 : decode cX8_campaign 253 = .ok (.getfield 127, 3) := by decide +kernel
theorem dX8_campaign_256 : decode cX8_campaign 256 = .ok (.if_icmp .ge 34, 3) := by decide +kernel
theorem dX8_campaign_259 : decode cX8_campaign 259 = .ok (.iload 6, 2) := by decide +kernel
theorem dX8_campaign_261 : decode cX8_campaign 261 = .ok (.aload_n 0, 1) := by decide +kernel
theorem dX8_campaign_262 : decode cX8_campaign 262 = .ok (.iload 7, 2) := by decide +kernel
theorem dX8_campaign_264 : decode cX8_campaign 264 = .ok (.invokevirtual 150, 3) := by decide +kernel
theorem dX8_campaign_267 : decode cX8_campaign 267 = .ok (.aload_n 0, 1) := by decide +kernel
theorem dX8_campaign_268 : decode cX8_campaign 268 = .ok (.getfield 71, 3) := by decide +kernel
theorem dX8_campaign_271 : decode cX8_campaign 271 = .ok (.iconst 0, 1) := by decide +kernel
theorem dX8_campaign_272 : decode cX8_campaign 272 = .ok (.iaload, 1) := by decide +kernel
theorem dX8_campaign_273 : decode cX8_campaign 273 = .ok (.if_icmp .ge 7, 3) := by decide +kernel
theorem dX8_campaign_276 : decode cX8_campaign 276 = .ok (.iconst 1, 1) := by decide +kernel
theorem dX8_campaign_277 : decode cX8_campaign 277 = .ok (.goto 4, 3) := by decide +kernel
theorem dX8_campaign_280 : decode cX8_campaign 280 = .ok (.iconst 0, 1) := by decide +kernel
theorem dX8_campaign_281 : decode cX8_campaign 281 = .ok (.iadd, 1) := by decide +kernel
theorem dX8_campaign_282 : decode cX8_campaign 282 = .ok (.istore 6, 2) := by decide +kernel
theorem dX8_campaign_284 : decode cX8_campaign 284 = .ok (.iinc 7 1, 3) := by decide +kernel
theorem dX8_campaign_287 : decode cX8_campaign 287 = .ok (.goto (-37), 3) := by decide +kernel
theorem dX8_campaign_290 : decode cX8_campaign 290 = .ok (.iload 6, 2) := by decide +kernel
theorem dX8_campaign_292 : decode cX8_campaign 292 = .ok (.ireturn, 1) := by decide +kernel
theorem dX8_beginWave_0 : decode cX8_beginWave 0 = .ok (.aload_n 0, 1) := by decide +kernel
theorem dX8_beginWave_1 : decode cX8_beginWave 1 = .ok (.iload_n 1, 1) := by decide +kernel
theorem dX8_beginWave_2 : decode cX8_beginWave 2 = .ok (.putfield 206, 3) := by decide +kernel
theorem dX8_beginWave_5 : decode cX8_beginWave 5 = .ok (.aload_n 0, 1) := by decide +kernel
theorem dX8_beginWave_6 : decode cX8_beginWave 6 = .ok (.iconst 0, 1) := by decide +kernel
theorem dX8_beginWave_7 : decode cX8_beginWave 7 = .ok (.putfield 209, 3) := by decide +kernel
theorem dX8_beginWave_10 : decode cX8_beginWave 10 = .ok (.aload_n 0, 1) := by decide +kernel
theorem dX8_beginWave_11 : decode cX8_beginWave 11 = .ok (.iconst 0, 1) := by decide +kernel
theorem dX8_beginWave_12 : decode cX8_beginWave 12 = .ok (.putfield 212, 3) := by decide +kernel
theorem dX8_beginWave_15 : decode cX8_beginWave 15 = .ok (.iconst 0, 1) := by decide +kernel
theorem dX8_beginWave_16 : decode cX8_beginWave 16 = .ok (.istore_n 2, 1) := by decide +kernel
theorem dX8_beginWave_17 : decode cX8_beginWave 17 = .ok (.iload_n 2, 1) := by decide +kernel
theorem dX8_beginWave_18 : decode cX8_beginWave 18 = .ok (.bipush 30, 2) := by decide +kernel
theorem dX8_beginWave_20 : decode cX8_beginWave 20 = .ok (.if_icmp .ge 16, 3) := by decide +kernel
theorem dX8_beginWave_23 : decode cX8_beginWave 23 = .ok (.aload_n 0, 1) := by decide +kernel
theorem dX8_beginWave_24 : decode cX8_beginWave 24 = .ok (.getfield 74, 3) := by decide +kernel
theorem dX8_beginWave_27 : decode cX8_beginWave 27 = .ok (.iload_n 2, 1) := by decide +kernel
theorem dX8_beginWave_28 : decode cX8_beginWave 28 = .ok (.iconst 0, 1) := by decide +kernel
theorem dX8_beginWave_29 : decode cX8_beginWave 29 = .ok (.bastore, 1) := by decide +kernel
theorem dX8_beginWave_30 : decode cX8_beginWave 30 = .ok (.iinc 2 1, 3) := by decide +kernel
theorem dX8_beginWave_33 : decode cX8_beginWave 33 = .ok (.goto (-16), 3) := by decide +kernel
theorem dX8_beginWave_36 : decode cX8_beginWave 36 = .ok (.return_, 1) := by decide +kernel
theorem dX8_isNext_0 : decode cX8_isNext 0 = .ok (.aload_n 0, 1) := by decide +kernel
theorem dX8_isNext_1 : decode cX8_isNext 1 = .ok (.iload_n 1, 1) := by decide +kernel
theorem dX8_isNext_2 : decode cX8_isNext 2 = .ok (.invokevirtual 150, 3) := by decide +kernel
theorem dX8_isNext_5 : decode cX8_isNext 5 = .ok (.aload_n 0, 1) := by decide +kernel
theorem dX8_isNext_6 : decode cX8_isNext 6 = .ok (.getfield 71, 3) := by decide +kernel
theorem dX8_isNext_9 : decode cX8_isNext 9 = .ok (.aload_n 0, 1) := by decide +kernel
theorem dX8_isNext_10 : decode cX8_isNext 10 = .ok (.getfield 206, 3) := by decide +kernel
theorem dX8_isNext_13 : decode cX8_isNext 13 = .ok (.iaload, 1) := by decide +kernel
theorem dX8_isNext_14 : decode cX8_isNext 14 = .ok (.if_icmp .ge 56, 3) := by decide +kernel
theorem dX8_isNext_17 : decode cX8_isNext 17 = .ok (.aload_n 0, 1) := by decide +kernel
theorem dX8_isNext_18 : decode cX8_isNext 18 = .ok (.iload_n 1, 1) := by decide +kernel
theorem dX8_isNext_19 : decode cX8_isNext 19 = .ok (.invokevirtual 144, 3) := by decide +kernel
theorem dX8_isNext_22 : decode cX8_isNext 22 = .ok (.aload_n 0, 1) := by decide +kernel
theorem dX8_isNext_23 : decode cX8_isNext 23 = .ok (.getfield 188, 3) := by decide +kernel
theorem dX8_isNext_26 : decode cX8_isNext 26 = .ok (.if_icmp .ge 44, 3) := by decide +kernel
theorem dX8_isNext_29 : decode cX8_isNext 29 = .ok (.aload_n 0, 1) := by decide +kernel
theorem dX8_isNext_30 : decode cX8_isNext 30 = .ok (.getfield 74, 3) := by decide +kernel
theorem dX8_isNext_33 : decode cX8_isNext 33 = .ok (.iload_n 1, 1) := by decide +kernel
theorem dX8_isNext_34 : decode cX8_isNext 34 = .ok (.baload, 1) := by decide +kernel
theorem dX8_isNext_35 : decode cX8_isNext 35 = .ok (.ifCond .ne 35, 3) := by decide +kernel
theorem dX8_isNext_38 : decode cX8_isNext 38 = .ok (.aload_n 0, 1) := by decide +kernel
theorem dX8_isNext_39 : decode cX8_isNext 39 = .ok (.getfield 43, 3) := by decide +kernel
theorem dX8_isNext_42 : decode cX8_isNext 42 = .ok (.iload_n 1, 1) := by decide +kernel
theorem dX8_isNext_43 : decode cX8_isNext 43 = .ok (.iaload, 1) := by decide +kernel
theorem dX8_isNext_44 : decode cX8_isNext 44 = .ok (.ldc 122, 2) := by decide +kernel
theorem dX8_isNext_46 : decode cX8_isNext 46 = .ok (.if_icmp .eq 20, 3) := by decide +kernel
theorem dX8_isNext_49 : decode cX8_isNext 49 = .ok (.aload_n 0, 1) := by decide +kernel
theorem dX8_isNext_50 : decode cX8_isNext 50 = .ok (.aload_n 0, 1) := by decide +kernel
theorem dX8_isNext_51 : decode cX8_isNext 51 = .ok (.getfield 43, 3) := by decide +kernel
theorem dX8_isNext_54 : decode cX8_isNext 54 = .ok (.iload_n 1, 1) := by decide +kernel
theorem dX8_isNext_55 : decode cX8_isNext 55 = .ok (.iaload, 1) := by decide +kernel
theorem dX8_isNext_56 : decode cX8_isNext 56 = .ok (.invokevirtual 144, 3) := by decide +kernel
theorem dX8_isNext_59 : decode cX8_isNext 59 = .ok (.aload_n 0, 1) := by decide +kernel
theorem dX8_isNext_60 : decode cX8_isNext 60 = .ok (.getfield 188, 3) := by decide +kernel
theorem dX8_isNext_63 : decode cX8_isNext 63 = .ok (.if_icmp .lt 7, 3) := by decide +kernel
theorem dX8_isNext_66 : decode cX8_isNext 66 = .ok (.iconst 1, 1) := by decide +kernel
theorem dX8_isNext_67 : decode cX8_isNext 67 = .ok (.goto 4, 3) := by decide +kernel
theorem dX8_isNext_70 : decode cX8_isNext 70 = .ok (.iconst 0, 1) := by decide +kernel
theorem dX8_isNext_71 : decode cX8_isNext 71 = .ok (.ireturn, 1) := by decide +kernel
theorem dX8_tick_0 : decode cX8_tick 0 = .ok (.aload_n 0, 1) := by decide +kernel
theorem dX8_tick_1 : decode cX8_tick 1 = .ok (.iconst 0, 1) := by decide +kernel
theorem dX8_tick_2 : decode cX8_tick 2 = .ok (.putfield 80, 3) := by decide +kernel
theorem dX8_tick_5 : decode cX8_tick 5 = .ok (.iload_n 1, 1) := by decide +kernel
theorem dX8_tick_6 : decode cX8_tick 6 = .ok (.i2l, 1) := by decide +kernel
theorem dX8_tick_7 : decode cX8_tick 7 = .ok (.lconst 0, 1) := by decide +kernel
theorem dX8_tick_8 : decode cX8_tick 8 = .ok (.ldc2_w 215, 3) := by decide +kernel
theorem dX8_tick_11 : decode cX8_tick 11 = .ok (.invokestatic 90, 3) := by decide +kernel
theorem dX8_tick_14 : decode cX8_tick 14 = .ok (.ifCond .ne 6, 3) := by decide +kernel
theorem dX8_tick_17 : decode cX8_tick 17 = .ok (.ldc 100, 2) := by decide +kernel
theorem dX8_tick_19 : decode cX8_tick 19 = .ok (.ireturn, 1) := by decide +kernel
theorem dX8_tick_20 : decode cX8_tick 20 = .ok (.aload_n 0, 1) := by decide +kernel
theorem dX8_tick_21 : decode cX8_tick 21 = .ok (.getfield 184, 3) := by decide +kernel
theorem dX8_tick_24 : decode cX8_tick 24 = .ok (.ifCond .eq 10, 3) := by decide +kernel
theorem dX8_tick_27 : decode cX8_tick 27 = .ok (.aload_n 0, 1) := by decide +kernel
theorem dX8_tick_28 : decode cX8_tick 28 = .ok (.getfield 197, 3) := by decide +kernel
theorem dX8_tick_31 : decode cX8_tick 31 = .ok (.ifCond .le 6, 3) := by decide +kernel
theorem dX8_tick_34 : decode cX8_tick 34 = .ok (.ldc 136, 2) := by decide +kernel
theorem dX8_tick_36 : decode cX8_tick 36 = .ok (.ireturn, 1) := by decide +kernel
theorem dX8_tick_37 : decode cX8_tick 37 = .ok (.iload_n 1, 1) := by decide +kernel
theorem dX8_tick_38 : decode cX8_tick 38 = .ok (.istore_n 2, 1) := by decide +kernel
theorem dX8_tick_39 : decode cX8_tick 39 = .ok (.iconst 0, 1) := by decide +kernel
theorem dX8_tick_40 : decode cX8_tick 40 = .ok (.istore_n 3, 1) := by decide +kernel
theorem dX8_tick_41 : decode cX8_tick 41 = .ok (.iconst 0, 1) := by decide +kernel
theorem dX8_tick_42 : decode cX8_tick 42 = .ok (.istore 4, 2) := by decide +kernel
theorem dX8_tick_44 : decode cX8_tick 44 = .ok (.iload 4, 2) := by decide +kernel
theorem dX8_tick_46 : decode cX8_tick 46 = .ok (.aload_n 0, 1) := by decide +kernel
theorem dX8_tick_47 : decode cX8_tick 47 = .ok (.getfield 127, 3) := by decide +kernel
theorem dX8_tick_50 : decode cX8_tick 50 = .ok (.if_icmp .ge 163, 3) := by decide +kernel
theorem dX8_tick_53 : decode cX8_tick 53 = .ok (.aload_n 0, 1) := by decide +kernel
theorem dX8_tick_54 : decode cX8_tick 54 = .ok (.iload 4, 2) := by decide +kernel
theorem dX8_tick_56 : decode cX8_tick 56 = .ok (.invokevirtual 217, 3) := by decide +kernel
theorem dX8_tick_59 : decode cX8_tick 59 = .ok (.ifCond .eq 148, 3) := by decide +kernel
theorem dX8_tick_62 : decode cX8_tick 62 = .ok (.aload_n 0, 1) := by decide +kernel
theorem dX8_tick_63 : decode cX8_tick 63 = .ok (.aload_n 0, 1) := by decide +kernel
theorem dX8_tick_64 : decode cX8_tick 64 = .ok (.getfield 188, 3) := by decide +kernel
theorem dX8_tick_67 : decode cX8_tick 67 = .ok (.invokevirtual 123, 3) := by decide +kernel
theorem dX8_tick_70 : decode cX8_tick 70 = .ok (.aload_n 0, 1) := by decide +kernel
theorem dX8_tick_71 : decode cX8_tick 71 = .ok (.getfield 31, 3) := by decide +kernel
theorem dX8_tick_74 : decode cX8_tick 74 = .ok (.aload_n 0, 1) := by decide +kernel
theorem dX8_tick_75 : decode cX8_tick 75 = .ok (.iload 4, 2) := by decide +kernel
theorem dX8_tick_77 : decode cX8_tick 77 = .ok (.invokevirtual 144, 3) := by decide +kernel
theorem dX8_tick_80 : decode cX8_tick 80 = .ok (.iaload, 1) := by decide +kernel
theorem dX8_tick_81 : decode cX8_tick 81 = .ok (.ldc 122, 2) := by decide +kernel
theorem dX8_tick_83 : decode cX8_tick 83 = .ok (.if_icmp .ne 18, 3) := by decide +kernel
theorem dX8_tick_86 : decode cX8_tick 86 = .ok (.bipush 100, 2) := by decide +kernel
theorem dX8_tick_88 : decode cX8_tick 88 = .ok (.aload_n 0, 1) := by decide +kernel
theorem dX8_tick_89 : decode cX8_tick 89 = .ok (.getfield 19, 3) := by decide +kernel
theorem dX8_tick_92 : decode cX8_tick 92 = .ok (.aload_n 0, 1) := by decide +kernel
theorem dX8_tick_93 : decode cX8_tick 93 = .ok (.getfield 188, 3) := by decide +kernel
theorem dX8_tick_96 : decode cX8_tick 96 = .ok (.iaload, 1) := by decide +kernel
theorem dX8_tick_97 : decode cX8_tick 97 = .ok (.imul, 1) := by decide +kernel
theorem dX8_tick_98 : decode cX8_tick 98 = .ok (.goto 14, 3) := by decide +kernel
theorem dX8_tick_101 : decode cX8_tick 101 = .ok (.aload_n 0, 1) := by decide +kernel
theorem dX8_tick_102 : decode cX8_tick 102 = .ok (.getfield 31, 3) := by decide +kernel
theorem dX8_tick_105 : decode cX8_tick 105 = .ok (.aload_n 0, 1) := by decide +kernel
theorem dX8_tick_106 : decode cX8_tick 106 = .ok (.iload 4, 2) := by decide +kernel
theorem dX8_tick_108 : decode cX8_tick 108 = .ok (.invokevirtual 144, 3) := by decide +kernel
theorem dX8_tick_111 : decode cX8_tick 111 = .ok (.iaload, 1) := by decide +kernel
theorem dX8_tick_112 : decode cX8_tick 112 = .ok (.istore 5, 2) := by decide +kernel
theorem dX8_tick_114 : decode cX8_tick 114 = .ok (.iload 5, 2) := by decide +kernel
theorem dX8_tick_116 : decode cX8_tick 116 = .ok (.iload_n 2, 1) := by decide +kernel
theorem dX8_tick_117 : decode cX8_tick 117 = .ok (.if_icmp .le 5, 3) := by decide +kernel
theorem dX8_tick_120 : decode cX8_tick 120 = .ok (.iload_n 3, 1) := by decide +kernel
theorem dX8_tick_121 : decode cX8_tick 121 = .ok (.ireturn, 1) := by decide +kernel
theorem dX8_tick_122 : decode cX8_tick 122 = .ok (.iload_n 2, 1) := by decide +kernel
theorem dX8_tick_123 : decode cX8_tick 123 = .ok (.iload 5, 2) := by decide +kernel
theorem dX8_tick_125 : decode cX8_tick 125 = .ok (.isub, 1) := by decide +kernel
theorem dX8_tick_126 : decode cX8_tick 126 = .ok (.istore_n 2, 1) := by decide +kernel
theorem dX8_tick_127 : decode cX8_tick 127 = .ok (.aload_n 0, 1) := by decide +kernel
theorem dX8_tick_128 : decode cX8_tick 128 = .ok (.dup, 1) := by decide +kernel
theorem dX8_tick_129 : decode cX8_tick 129 = .ok (.getfield 200, 3) := by decide +kernel
theorem dX8_tick_132 : decode cX8_tick 132 = .ok (.iload 5, 2) := by decide +kernel
theorem dX8_tick_134 : decode cX8_tick 134 = .ok (.iadd, 1) := by decide +kernel
theorem dX8_tick_135 : decode cX8_tick 135 = .ok (.putfield 200, 3) := by decide +kernel
theorem dX8_tick_138 : decode cX8_tick 138 = .ok (.aload_n 0, 1) := by decide +kernel
theorem dX8_tick_139 : decode cX8_tick 139 = .ok (.getfield 74, 3) := by decide +kernel
theorem dX8_tick_142 : decode cX8_tick 142 = .ok (.iload 4, 2) := by decide +kernel
theorem dX8_tick_144 : decode cX8_tick 144 = .ok (.iconst 1, 1) := by decide +kernel
theorem dX8_tick_145 : decode cX8_tick 145 = .ok (.bastore, 1) := by decide +kernel
theorem dX8_tick_146 : decode cX8_tick 146 = .ok (.aload_n 0, 1) := by decide +kernel
theorem dX8_tick_147 : decode cX8_tick 147 = .ok (.dup, 1) := by decide +kernel
theorem dX8_tick_148 : decode cX8_tick 148 = .ok (.getfield 209, 3) := by decide +kernel
theorem dX8_tick_151 : decode cX8_tick 151 = .ok (.iconst 1, 1) := by decide +kernel
theorem dX8_tick_152 : decode cX8_tick 152 = .ok (.iadd, 1) := by decide +kernel
theorem dX8_tick_153 : decode cX8_tick 153 = .ok (.putfield 209, 3) := by decide +kernel
theorem dX8_tick_156 : decode cX8_tick 156 = .ok (.iinc 3 1, 3) := by decide +kernel
theorem dX8_tick_159 : decode cX8_tick 159 = .ok (.aload_n 0, 1) := by decide +kernel
theorem dX8_tick_160 : decode cX8_tick 160 = .ok (.iload 4, 2) := by decide +kernel
theorem dX8_tick_162 : decode cX8_tick 162 = .ok (.aload_n 0, 1) := by decide +kernel
theorem dX8_tick_163 : decode cX8_tick 163 = .ok (.getfield 188, 3) := by decide +kernel
theorem dX8_tick_166 : decode cX8_tick 166 = .ok (.aload_n 0, 1) := by decide +kernel
theorem dX8_tick_167 : decode cX8_tick 167 = .ok (.iload 4, 2) := by decide +kernel
theorem dX8_tick_169 : decode cX8_tick 169 = .ok (.aload_n 0, 1) := by decide +kernel
theorem dX8_tick_170 : decode cX8_tick 170 = .ok (.getfield 188, 3) := by decide +kernel
theorem dX8_tick_173 : decode cX8_tick 173 = .ok (.invokevirtual 163, 3) := by decide +kernel
theorem dX8_tick_176 : decode cX8_tick 176 = .ok (.iconst 0, 1) := by decide +kernel
theorem dX8_tick_177 : decode cX8_tick 177 = .ok (.invokevirtual 167, 3) := by decide +kernel
theorem dX8_tick_180 : decode cX8_tick 180 = .ok (.aload_n 0, 1) := by decide +kernel
theorem dX8_tick_181 : decode cX8_tick 181 = .ok (.dup, 1) := by decide +kernel
theorem dX8_tick_182 : decode cX8_tick 182 = .ok (.getfield 212, 3) := by decide +kernel
theorem dX8_tick_185 : decode cX8_tick 185 = .ok (.aload_n 0, 1) := by decide +kernel
theorem dX8_tick_186 : decode cX8_tick 186 = .ok (.iload 4, 2) := by decide +kernel
theorem dX8_tick_188 : decode cX8_tick 188 = .ok (.aload_n 0, 1) := by decide +kernel
theorem dX8_tick_189 : decode cX8_tick 189 = .ok (.getfield 188, 3) := by decide +kernel
theorem dX8_tick_192 : decode cX8_tick 192 = .ok (.invokevirtual 171, 3) := by decide +kernel
theorem dX8_tick_195 : decode cX8_tick 195 = .ok (.ifCond .ne 7, 3) := by decide +kernel
theorem dX8_tick_198 : decode cX8_tick 198 = .ok (.iconst 1, 1) := by decide +kernel
theorem dX8_tick_199 : decode cX8_tick 199 = .ok (.goto 4, 3) := by decide +kernel
theorem dX8_tick_202 : decode cX8_tick 202 = .ok (.iconst 0, 1) := by decide +kernel
theorem dX8_tick_203 : decode cX8_tick 203 = .ok (.iadd, 1) := by decide +kernel
theorem dX8_tick_204 : decode cX8_tick 204 = .ok (.putfield 212, 3) := by decide +kernel
theorem dX8_tick_207 : decode cX8_tick 207 = .ok (.iinc 4 1, 3) := by decide +kernel
theorem dX8_tick_210 : decode cX8_tick 210 = .ok (.goto (-166), 3) := by decide +kernel
theorem dX8_tick_213 : decode cX8_tick 213 = .ok (.iload_n 3, 1) := by decide +kernel
theorem dX8_tick_214 : decode cX8_tick 214 = .ok (.ifCond .le 5, 3) := by decide +kernel
theorem dX8_tick_217 : decode cX8_tick 217 = .ok (.iload_n 3, 1) := by decide +kernel
theorem dX8_tick_218 : decode cX8_tick 218 = .ok (.ireturn, 1) := by decide +kernel
theorem dX8_tick_219 : decode cX8_tick 219 = .ok (.bipush 10, 2) := by decide +kernel
theorem dX8_tick_221 : decode cX8_tick 221 = .ok (.aload_n 0, 1) := by decide +kernel
theorem dX8_tick_222 : decode cX8_tick 222 = .ok (.getfield 212, 3) := by decide +kernel
theorem dX8_tick_225 : decode cX8_tick 225 = .ok (.imul, 1) := by decide +kernel
theorem dX8_tick_226 : decode cX8_tick 226 = .ok (.aload_n 0, 1) := by decide +kernel
theorem dX8_tick_227 : decode cX8_tick 227 = .ok (.getfield 194, 3) := by decide +kernel
theorem dX8_tick_230 : decode cX8_tick 230 = .ok (.aload_n 0, 1) := by decide +kernel
theorem dX8_tick_231 : decode cX8_tick 231 = .ok (.getfield 209, 3) := by decide +kernel
theorem dX8_tick_234 : decode cX8_tick 234 = .ok (.imul, 1) := by decide +kernel
theorem dX8_tick_235 : decode cX8_tick 235 = .ok (.if_icmp .le 11, 3) := by decide +kernel
theorem dX8_tick_238 : decode cX8_tick 238 = .ok (.aload_n 0, 1) := by decide +kernel
theorem dX8_tick_239 : decode cX8_tick 239 = .ok (.iconst 1, 1) := by decide +kernel
theorem dX8_tick_240 : decode cX8_tick 240 = .ok (.putfield 197, 3) := by decide +kernel
theorem dX8_tick_243 : decode cX8_tick 243 = .ok (.goto 34, 3) := by decide +kernel
theorem dX8_tick_246 : decode cX8_tick 246 = .ok (.aload_n 0, 1) := by decide +kernel
theorem dX8_tick_247 : decode cX8_tick 247 = .ok (.getfield 206, 3) := by decide +kernel
theorem dX8_tick_250 : decode cX8_tick 250 = .ok (.iconst 1, 1) := by decide +kernel
theorem dX8_tick_251 : decode cX8_tick 251 = .ok (.iadd, 1) := by decide +kernel
theorem dX8_tick_252 : decode cX8_tick 252 = .ok (.aload_n 0, 1) := by decide +kernel
theorem dX8_tick_253 : decode cX8_tick 253 = .ok (.getfield 191, 3) := by decide +kernel
theorem dX8_tick_256 : decode cX8_tick 256 = .ok (.if_icmp .ne 11, 3) := by decide +kernel
theorem dX8_tick_259 : decode cX8_tick 259 = .ok (.aload_n 0, 1) := by decide +kernel
theorem dX8_tick_260 : decode cX8_tick 260 = .ok (.iconst 2, 1) := by decide +kernel
theorem dX8_tick_261 : decode cX8_tick 261 = .ok (.putfield 197, 3) := by decide +kernel
theorem dX8_tick_264 : decode cX8_tick 264 = .ok (.goto 13, 3) := by decide +kernel
theorem dX8_tick_267 : decode cX8_tick 267 = .ok (.aload_n 0, 1) := by decide +kernel
theorem dX8_tick_268 : decode cX8_tick 268 = .ok (.aload_n 0, 1) := by decide +kernel
theorem dX8_tick_269 : decode cX8_tick 269 = .ok (.getfield 206, 3) := by decide +kernel
theorem dX8_tick_272 : decode cX8_tick 272 = .ok (.iconst 1, 1) := by decide +kernel
theorem dX8_tick_273 : decode cX8_tick 273 = .ok (.iadd, 1) := by decide +kernel
theorem dX8_tick_274 : decode cX8_tick 274 = .ok (.invokevirtual 203, 3) := by decide +kernel
theorem dX8_tick_277 : decode cX8_tick 277 = .ok (.iconst 0, 1) := by decide +kernel
theorem dX8_tick_278 : decode cX8_tick 278 = .ok (.ireturn, 1) := by decide +kernel
theorem dX8_runs_0 : decode cX8_runs 0 = .ok (.aload_n 0, 1) := by decide +kernel
theorem dX8_runs_1 : decode cX8_runs 1 = .ok (.iconst 0, 1) := by decide +kernel
theorem dX8_runs_2 : decode cX8_runs 2 = .ok (.putfield 80, 3) := by decide +kernel
theorem dX8_runs_5 : decode cX8_runs 5 = .ok (.iload_n 1, 1) := by decide +kernel
theorem dX8_runs_6 : decode cX8_runs 6 = .ok (.i2l, 1) := by decide +kernel
theorem dX8_runs_7 : decode cX8_runs 7 = .ok (.lconst 0, 1) := by decide +kernel
theorem dX8_runs_8 : decode cX8_runs 8 = .ok (.ldc2_w 220, 3) := by decide +kernel
theorem dX8_runs_11 : decode cX8_runs 11 = .ok (.invokestatic 90, 3) := by decide +kernel
theorem dX8_runs_14 : decode cX8_runs 14 = .ok (.ifCond .ne 6, 3) := by decide +kernel
theorem dX8_runs_17 : decode cX8_runs 17 = .ok (.ldc 100, 2) := by decide +kernel
theorem dX8_runs_19 : decode cX8_runs 19 = .ok (.ireturn, 1) := by decide +kernel
theorem dX8_runs_20 : decode cX8_runs 20 = .ok (.aload_n 0, 1) := by decide +kernel
theorem dX8_runs_21 : decode cX8_runs 21 = .ok (.getfield 184, 3) := by decide +kernel
theorem dX8_runs_24 : decode cX8_runs 24 = .ok (.ifCond .ne 6, 3) := by decide +kernel
theorem dX8_runs_27 : decode cX8_runs 27 = .ok (.ldc 136, 2) := by decide +kernel
theorem dX8_runs_29 : decode cX8_runs 29 = .ok (.ireturn, 1) := by decide +kernel
theorem dX8_runs_30 : decode cX8_runs 30 = .ok (.iload_n 1, 1) := by decide +kernel
theorem dX8_runs_31 : decode cX8_runs 31 = .ok (.iconst 5, 1) := by decide +kernel
theorem dX8_runs_32 : decode cX8_runs 32 = .ok (.if_icmp .ne 43, 3) := by decide +kernel
theorem dX8_runs_35 : decode cX8_runs 35 = .ok (.iconst 0, 1) := by decide +kernel
theorem dX8_runs_36 : decode cX8_runs 36 = .ok (.istore_n 2, 1) := by decide +kernel
theorem dX8_runs_37 : decode cX8_runs 37 = .ok (.iconst 0, 1) := by decide +kernel
theorem dX8_runs_38 : decode cX8_runs 38 = .ok (.istore_n 3, 1) := by decide +kernel
theorem dX8_runs_39 : decode cX8_runs 39 = .ok (.iload_n 3, 1) := by decide +kernel
theorem dX8_runs_40 : decode cX8_runs 40 = .ok (.aload_n 0, 1) := by decide +kernel
theorem dX8_runs_41 : decode cX8_runs 41 = .ok (.getfield 127, 3) := by decide +kernel
theorem dX8_runs_44 : decode cX8_runs 44 = .ok (.if_icmp .ge 29, 3) := by decide +kernel
theorem dX8_runs_47 : decode cX8_runs 47 = .ok (.iload_n 2, 1) := by decide +kernel
theorem dX8_runs_48 : decode cX8_runs 48 = .ok (.aload_n 0, 1) := by decide +kernel
theorem dX8_runs_49 : decode cX8_runs 49 = .ok (.iload_n 3, 1) := by decide +kernel
theorem dX8_runs_50 : decode cX8_runs 50 = .ok (.invokevirtual 144, 3) := by decide +kernel
theorem dX8_runs_53 : decode cX8_runs 53 = .ok (.aload_n 0, 1) := by decide +kernel
theorem dX8_runs_54 : decode cX8_runs 54 = .ok (.getfield 188, 3) := by decide +kernel
theorem dX8_runs_57 : decode cX8_runs 57 = .ok (.if_icmp .lt 7, 3) := by decide +kernel
theorem dX8_runs_60 : decode cX8_runs 60 = .ok (.iconst 1, 1) := by decide +kernel
theorem dX8_runs_61 : decode cX8_runs 61 = .ok (.goto 4, 3) := by decide +kernel
theorem dX8_runs_64 : decode cX8_runs 64 = .ok (.iconst 0, 1) := by decide +kernel
theorem dX8_runs_65 : decode cX8_runs 65 = .ok (.iadd, 1) := by decide +kernel
theorem dX8_runs_66 : decode cX8_runs 66 = .ok (.istore_n 2, 1) := by decide +kernel
theorem dX8_runs_67 : decode cX8_runs 67 = .ok (.iinc 3 1, 3) := by decide +kernel
theorem dX8_runs_70 : decode cX8_runs 70 = .ok (.goto (-31), 3) := by decide +kernel
theorem dX8_runs_73 : decode cX8_runs 73 = .ok (.iload_n 2, 1) := by decide +kernel
theorem dX8_runs_74 : decode cX8_runs 74 = .ok (.ireturn, 1) := by decide +kernel
theorem dX8_runs_75 : decode cX8_runs 75 = .ok (.iload_n 1, 1) := by decide +kernel
theorem dX8_runs_76 : decode cX8_runs 76 = .ok (.ifCond .ne 10, 3) := by decide +kernel
theorem dX8_runs_79 : decode cX8_runs 79 = .ok (.aload_n 0, 1) := by decide +kernel
theorem dX8_runs_80 : decode cX8_runs 80 = .ok (.getfield 206, 3) := by decide +kernel
theorem dX8_runs_83 : decode cX8_runs 83 = .ok (.goto 43, 3) := by decide +kernel
theorem dX8_runs_86 : decode cX8_runs 86 = .ok (.iload_n 1, 1) := by decide +kernel
theorem dX8_runs_87 : decode cX8_runs 87 = .ok (.iconst 1, 1) := by decide +kernel
theorem dX8_runs_88 : decode cX8_runs 88 = .ok (.if_icmp .ne 10, 3) := by decide +kernel
theorem dX8_runs_91 : decode cX8_runs 91 = .ok (.aload_n 0, 1) := by decide +kernel
theorem dX8_runs_92 : decode cX8_runs 92 = .ok (.getfield 209, 3) := by decide +kernel
theorem dX8_runs_95 : decode cX8_runs 95 = .ok (.goto 31, 3) := by decide +kernel
theorem dX8_runs_98 : decode cX8_runs 98 = .ok (.iload_n 1, 1) := by decide +kernel
theorem dX8_runs_99 : decode cX8_runs 99 = .ok (.iconst 2, 1) := by decide +kernel
theorem dX8_runs_100 : decode cX8_runs 100 = .ok (.if_icmp .ne 10, 3) := by decide +kernel
theorem dX8_runs_103 : decode cX8_runs 103 = .ok (.aload_n 0, 1) := by decide +kernel
theorem dX8_runs_104 : decode cX8_runs 104 = .ok (.getfield 212, 3) := by decide +kernel
theorem dX8_runs_107 : decode cX8_runs 107 = .ok (.goto 19, 3) := by decide +kernel
theorem dX8_runs_110 : decode cX8_runs 110 = .ok (.iload_n 1, 1) := by decide +kernel
theorem dX8_runs_111 : decode cX8_runs 111 = .ok (.iconst 3, 1) := by decide +kernel
theorem dX8_runs_112 : decode cX8_runs 112 = .ok (.if_icmp .ne 10, 3) := by decide +kernel
theorem dX8_runs_115 : decode cX8_runs 115 = .ok (.aload_n 0, 1) := by decide +kernel
theorem dX8_runs_116 : decode cX8_runs 116 = .ok (.getfield 197, 3) := by decide +kernel
theorem dX8_runs_119 : decode cX8_runs 119 = .ok (.goto 7, 3) := by decide +kernel
theorem dX8_runs_122 : decode cX8_runs 122 = .ok (.aload_n 0, 1) := by decide +kernel
theorem dX8_runs_123 : decode cX8_runs 123 = .ok (.getfield 200, 3) := by decide +kernel
theorem dX8_runs_126 : decode cX8_runs 126 = .ok (.ireturn, 1) := by decide +kernel
theorem dX8_power__0 : decode cX8_power_ 0 = .ok (.lconst 1, 1) := by decide +kernel
theorem dX8_power__1 : decode cX8_power_ 1 = .ok (.lstore_n 2, 1) := by decide +kernel
theorem dX8_power__2 : decode cX8_power_ 2 = .ok (.iconst 0, 1) := by decide +kernel
theorem dX8_power__3 : decode cX8_power_ 3 = .ok (.istore 4, 2) := by decide +kernel
theorem dX8_power__5 : decode cX8_power_ 5 = .ok (.iload 4, 2) := by decide +kernel
theorem dX8_power__7 : decode cX8_power_ 7 = .ok (.iload_n 1, 1) := by decide +kernel
theorem dX8_power__8 : decode cX8_power_ 8 = .ok (.if_icmp .ge 14, 3) := by decide +kernel
theorem dX8_power__11 : decode cX8_power_ 11 = .ok (.lload_n 2, 1) := by decide +kernel
theorem dX8_power__12 : decode cX8_power_ 12 = .ok (.iload_n 0, 1) := by decide +kernel
theorem dX8_power__13 : decode cX8_power_ 13 = .ok (.i2l, 1) := by decide +kernel
theorem dX8_power__14 : decode cX8_power_ 14 = .ok (.lmul, 1) := by decide +kernel
theorem dX8_power__15 : decode cX8_power_ 15 = .ok (.lstore_n 2, 1) := by decide +kernel
theorem dX8_power__16 : decode cX8_power_ 16 = .ok (.iinc 4 1, 3) := by decide +kernel
theorem dX8_power__19 : decode cX8_power_ 19 = .ok (.goto (-14), 3) := by decide +kernel
theorem dX8_power__22 : decode cX8_power_ 22 = .ok (.lload_n 2, 1) := by decide +kernel
theorem dX8_power__23 : decode cX8_power_ 23 = .ok (.lreturn, 1) := by decide +kernel
theorem dX8_chance_0 : decode cX8_chance 0 = .ok (.aload_n 0, 1) := by decide +kernel
theorem dX8_chance_1 : decode cX8_chance 1 = .ok (.iconst 0, 1) := by decide +kernel
theorem dX8_chance_2 : decode cX8_chance 2 = .ok (.putfield 80, 3) := by decide +kernel
theorem dX8_chance_5 : decode cX8_chance 5 = .ok (.iload_n 1, 1) := by decide +kernel
theorem dX8_chance_6 : decode cX8_chance 6 = .ok (.i2l, 1) := by decide +kernel
theorem dX8_chance_7 : decode cX8_chance 7 = .ok (.lconst 1, 1) := by decide +kernel
theorem dX8_chance_8 : decode cX8_chance 8 = .ok (.ldc2_w 222, 3) := by decide +kernel
theorem dX8_chance_11 : decode cX8_chance 11 = .ok (.invokestatic 90, 3) := by decide +kernel
theorem dX8_chance_14 : decode cX8_chance 14 = .ok (.ifCond .eq 27, 3) := by decide +kernel
theorem dX8_chance_17 : decode cX8_chance 17 = .ok (.iload_n 2, 1) := by decide +kernel
theorem dX8_chance_18 : decode cX8_chance 18 = .ok (.i2l, 1) := by decide +kernel
theorem dX8_chance_19 : decode cX8_chance 19 = .ok (.lconst 0, 1) := by decide +kernel
theorem dX8_chance_20 : decode cX8_chance 20 = .ok (.ldc2_w 180, 3) := by decide +kernel
theorem dX8_chance_23 : decode cX8_chance 23 = .ok (.invokestatic 90, 3) := by decide +kernel
theorem dX8_chance_26 : decode cX8_chance 26 = .ok (.ifCond .eq 15, 3) := by decide +kernel
theorem dX8_chance_29 : decode cX8_chance 29 = .ok (.iload_n 3, 1) := by decide +kernel
theorem dX8_chance_30 : decode cX8_chance 30 = .ok (.i2l, 1) := by decide +kernel
theorem dX8_chance_31 : decode cX8_chance 31 = .ok (.lconst 0, 1) := by decide +kernel
theorem dX8_chance_32 : decode cX8_chance 32 = .ok (.ldc2_w 180, 3) := by decide +kernel
theorem dX8_chance_35 : decode cX8_chance 35 = .ok (.invokestatic 90, 3) := by decide +kernel
theorem dX8_chance_38 : decode cX8_chance 38 = .ok (.ifCond .ne 7, 3) := by decide +kernel
theorem dX8_chance_41 : decode cX8_chance 41 = .ok (.ldc2_w 224, 3) := by decide +kernel
theorem dX8_chance_44 : decode cX8_chance 44 = .ok (.lreturn, 1) := by decide +kernel
theorem dX8_chance_45 : decode cX8_chance 45 = .ok (.lconst 0, 1) := by decide +kernel
theorem dX8_chance_46 : decode cX8_chance 46 = .ok (.lstore 4, 2) := by decide +kernel
theorem dX8_chance_48 : decode cX8_chance 48 = .ok (.lconst 1, 1) := by decide +kernel
theorem dX8_chance_49 : decode cX8_chance 49 = .ok (.lstore 6, 2) := by decide +kernel
theorem dX8_chance_51 : decode cX8_chance 51 = .ok (.iconst 0, 1) := by decide +kernel
theorem dX8_chance_52 : decode cX8_chance 52 = .ok (.istore 8, 2) := by decide +kernel
theorem dX8_chance_54 : decode cX8_chance 54 = .ok (.iload 8, 2) := by decide +kernel
theorem dX8_chance_56 : decode cX8_chance 56 = .ok (.iload_n 1, 1) := by decide +kernel
theorem dX8_chance_57 : decode cX8_chance 57 = .ok (.if_icmp .gt 66, 3) := by decide +kernel
theorem dX8_chance_60 : decode cX8_chance 60 = .ok (.lload 4, 2) := by decide +kernel
theorem dX8_chance_62 : decode cX8_chance 62 = .ok (.bipush 10, 2) := by decide +kernel
theorem dX8_chance_64 : decode cX8_chance 64 = .ok (.iload 8, 2) := by decide +kernel
theorem dX8_chance_66 : decode cX8_chance 66 = .ok (.imul, 1) := by decide +kernel
theorem dX8_chance_67 : decode cX8_chance 67 = .ok (.iload_n 3, 1) := by decide +kernel
theorem dX8_chance_68 : decode cX8_chance 68 = .ok (.iload_n 1, 1) := by decide +kernel
theorem dX8_chance_69 : decode cX8_chance 69 = .ok (.imul, 1) := by decide +kernel
theorem dX8_chance_70 : decode cX8_chance 70 = .ok (.if_icmp .le 7, 3) := by decide +kernel
theorem dX8_chance_73 : decode cX8_chance 73 = .ok (.lconst 0, 1) := by decide +kernel
theorem dX8_chance_74 : decode cX8_chance 74 = .ok (.goto 24, 3) := by decide +kernel
theorem dX8_chance_77 : decode cX8_chance 77 = .ok (.lload 6, 2) := by decide +kernel
theorem dX8_chance_79 : decode cX8_chance 79 = .ok (.iload_n 2, 1) := by decide +kernel
theorem dX8_chance_80 : decode cX8_chance 80 = .ok (.iload 8, 2) := by decide +kernel
theorem dX8_chance_82 : decode cX8_chance 82 = .ok (.invokestatic 226, 3) := by decide +kernel
theorem dX8_chance_85 : decode cX8_chance 85 = .ok (.lmul, 1) := by decide +kernel
theorem dX8_chance_86 : decode cX8_chance 86 = .ok (.bipush 10, 2) := by decide +kernel
theorem dX8_chance_88 : decode cX8_chance 88 = .ok (.iload_n 2, 1) := by decide +kernel
theorem dX8_chance_89 : decode cX8_chance 89 = .ok (.isub, 1) := by decide +kernel
theorem dX8_chance_90 : decode cX8_chance 90 = .ok (.iload_n 1, 1) := by decide +kernel
theorem dX8_chance_91 : decode cX8_chance 91 = .ok (.iload 8, 2) := by decide +kernel
theorem dX8_chance_93 : decode cX8_chance 93 = .ok (.isub, 1) := by decide +kernel
theorem dX8_chance_94 : decode cX8_chance 94 = .ok (.invokestatic 226, 3) := by decide +kernel
theorem dX8_chance_97 : decode cX8_chance 97 = .ok (.lmul, 1) := by decide +kernel
theorem dX8_chance_98 : decode cX8_chance 98 = .ok (.ladd, 1) := by decide +kernel
theorem dX8_chance_99 : decode cX8_chance 99 = .ok (.lstore 4, 2) := by decide +kernel
theorem dX8_chance_101 : decode cX8_chance 101 = .ok (.lload 6, 2) := by decide +kernel
theorem dX8_chance_103 : decode cX8_chance 103 = .ok (.iload_n 1, 1) := by decide +kernel
theorem dX8_chance_104 : decode cX8_chance 104 = .ok (.iload 8, 2) := by decide +kernel
theorem dX8_chance_106 : decode cX8_chance 106 = .ok (.isub, 1) := by decide +kernel
theorem dX8_chance_107 : decode cX8_chance 107 = .ok (.i2l, 1) := by decide +kernel
theorem dX8_chance_108 : decode cX8_chance 108 = .ok (.lmul, 1) := by decide +kernel
theorem dX8_chance_109 : decode cX8_chance 109 = .ok (.iload 8, 2) := by decide +kernel
theorem dX8_chance_111 : decode cX8_chance 111 = .ok (.iconst 1, 1) := by decide +kernel
theorem dX8_chance_112 : decode cX8_chance 112 = .ok (.iadd, 1) := by decide +kernel
theorem dX8_chance_113 : decode cX8_chance 113 = .ok (.i2l, 1) := by decide +kernel
theorem dX8_chance_114 : decode cX8_chance 114 = .ok (.ldiv, 1) := by decide +kernel
theorem dX8_chance_115 : decode cX8_chance 115 = .ok (.lstore 6, 2) := by decide +kernel
theorem dX8_chance_117 : decode cX8_chance 117 = .ok (.iinc 8 1, 3) := by decide +kernel
theorem dX8_chance_120 : decode cX8_chance 120 = .ok (.goto (-66), 3) := by decide +kernel
theorem dX8_chance_123 : decode cX8_chance 123 = .ok (.lload 4, 2) := by decide +kernel
theorem dX8_chance_125 : decode cX8_chance 125 = .ok (.lreturn, 1) := by decide +kernel
theorem dX8_kindOf_0 : decode cX8_kindOf 0 = .ok (.aload_n 0, 1) := by decide +kernel
theorem dX8_kindOf_1 : decode cX8_kindOf 1 = .ok (.iload_n 1, 1) := by decide +kernel
theorem dX8_kindOf_2 : decode cX8_kindOf 2 = .ok (.invokevirtual 144, 3) := by decide +kernel
theorem dX8_kindOf_5 : decode cX8_kindOf 5 = .ok (.aload_n 0, 1) := by decide +kernel
theorem dX8_kindOf_6 : decode cX8_kindOf 6 = .ok (.getfield 105, 3) := by decide +kernel
theorem dX8_kindOf_9 : decode cX8_kindOf 9 = .ok (.iconst 1, 1) := by decide +kernel
theorem dX8_kindOf_10 : decode cX8_kindOf 10 = .ok (.isub, 1) := by decide +kernel
theorem dX8_kindOf_11 : decode cX8_kindOf 11 = .ok (.if_icmp .ne 7, 3) := by decide +kernel
theorem dX8_kindOf_14 : decode cX8_kindOf 14 = .ok (.iconst 1, 1) := by decide +kernel
theorem dX8_kindOf_15 : decode cX8_kindOf 15 = .ok (.goto 4, 3) := by decide +kernel
theorem dX8_kindOf_18 : decode cX8_kindOf 18 = .ok (.iconst 0, 1) := by decide +kernel
theorem dX8_kindOf_19 : decode cX8_kindOf 19 = .ok (.istore_n 2, 1) := by decide +kernel
theorem dX8_kindOf_20 : decode cX8_kindOf 20 = .ok (.iload_n 2, 1) := by decide +kernel
theorem dX8_kindOf_21 : decode cX8_kindOf 21 = .ok (.ifCond .eq 20, 3) := by decide +kernel
theorem dX8_kindOf_24 : decode cX8_kindOf 24 = .ok (.aload_n 0, 1) := by decide +kernel
theorem dX8_kindOf_25 : decode cX8_kindOf 25 = .ok (.getfield 65, 3) := by decide +kernel
theorem dX8_kindOf_28 : decode cX8_kindOf 28 = .ok (.iload_n 1, 1) := by decide +kernel
theorem dX8_kindOf_29 : decode cX8_kindOf 29 = .ok (.iaload, 1) := by decide +kernel
theorem dX8_kindOf_30 : decode cX8_kindOf 30 = .ok (.ifCond .ne 7, 3) := by decide +kernel
theorem dX8_kindOf_33 : decode cX8_kindOf 33 = .ok (.iconst 2, 1) := by decide +kernel
theorem dX8_kindOf_34 : decode cX8_kindOf 34 = .ok (.goto 22, 3) := by decide +kernel
theorem dX8_kindOf_37 : decode cX8_kindOf 37 = .ok (.iconst 1, 1) := by decide +kernel
theorem dX8_kindOf_38 : decode cX8_kindOf 38 = .ok (.goto 18, 3) := by decide +kernel
theorem dX8_kindOf_41 : decode cX8_kindOf 41 = .ok (.aload_n 0, 1) := by decide +kernel
theorem dX8_kindOf_42 : decode cX8_kindOf 42 = .ok (.getfield 68, 3) := by decide +kernel
theorem dX8_kindOf_45 : decode cX8_kindOf 45 = .ok (.iload_n 1, 1) := by decide +kernel
theorem dX8_kindOf_46 : decode cX8_kindOf 46 = .ok (.iaload, 1) := by decide +kernel
theorem dX8_kindOf_47 : decode cX8_kindOf 47 = .ok (.iconst 2, 1) := by decide +kernel
theorem dX8_kindOf_48 : decode cX8_kindOf 48 = .ok (.if_icmp .lt 7, 3) := by decide +kernel
theorem dX8_kindOf_51 : decode cX8_kindOf 51 = .ok (.iconst 3, 1) := by decide +kernel
theorem dX8_kindOf_52 : decode cX8_kindOf 52 = .ok (.goto 4, 3) := by decide +kernel
theorem dX8_kindOf_55 : decode cX8_kindOf 55 = .ok (.iconst 0, 1) := by decide +kernel
theorem dX8_kindOf_56 : decode cX8_kindOf 56 = .ok (.ireturn, 1) := by decide +kernel
theorem dX8_kind_0 : decode cX8_kind 0 = .ok (.aload_n 0, 1) := by decide +kernel
theorem dX8_kind_1 : decode cX8_kind 1 = .ok (.iconst 0, 1) := by decide +kernel
theorem dX8_kind_2 : decode cX8_kind 2 = .ok (.putfield 80, 3) := by decide +kernel
theorem dX8_kind_5 : decode cX8_kind 5 = .ok (.aload_n 0, 1) := by decide +kernel
theorem dX8_kind_6 : decode cX8_kind 6 = .ok (.iload_n 1, 1) := by decide +kernel
theorem dX8_kind_7 : decode cX8_kind 7 = .ok (.invokevirtual 130, 3) := by decide +kernel
theorem dX8_kind_10 : decode cX8_kind 10 = .ok (.ifCond .eq 11, 3) := by decide +kernel
theorem dX8_kind_13 : decode cX8_kind 13 = .ok (.aload_n 0, 1) := by decide +kernel
theorem dX8_kind_14 : decode cX8_kind 14 = .ok (.iload_n 1, 1) := by decide +kernel
theorem dX8_kind_15 : decode cX8_kind 15 = .ok (.invokevirtual 230, 3) := by decide +kernel
theorem dX8_kind_18 : decode cX8_kind 18 = .ok (.goto 5, 3) := by decide +kernel
theorem dX8_kind_21 : decode cX8_kind 21 = .ok (.ldc 100, 2) := by decide +kernel
theorem dX8_kind_23 : decode cX8_kind 23 = .ok (.ireturn, 1) := by decide +kernel
theorem dX8_as_0 : decode cX8_as 0 = .ok (.aload_n 0, 1) := by decide +kernel
theorem dX8_as_1 : decode cX8_as 1 = .ok (.iconst 0, 1) := by decide +kernel
theorem dX8_as_2 : decode cX8_as 2 = .ok (.putfield 80, 3) := by decide +kernel
theorem dX8_as_5 : decode cX8_as 5 = .ok (.aload_n 0, 1) := by decide +kernel
theorem dX8_as_6 : decode cX8_as 6 = .ok (.iload_n 1, 1) := by decide +kernel
theorem dX8_as_7 : decode cX8_as 7 = .ok (.invokevirtual 130, 3) := by decide +kernel
theorem dX8_as_10 : decode cX8_as 10 = .ok (.ifCond .eq 15, 3) := by decide +kernel
theorem dX8_as_13 : decode cX8_as 13 = .ok (.iload_n 2, 1) := by decide +kernel
theorem dX8_as_14 : decode cX8_as 14 = .ok (.i2l, 1) := by decide +kernel
theorem dX8_as_15 : decode cX8_as 15 = .ok (.lconst 0, 1) := by decide +kernel
theorem dX8_as_16 : decode cX8_as 16 = .ok (.ldc2_w 176, 3) := by decide +kernel
theorem dX8_as_19 : decode cX8_as 19 = .ok (.invokestatic 90, 3) := by decide +kernel
theorem dX8_as_22 : decode cX8_as 22 = .ok (.ifCond .ne 6, 3) := by decide +kernel
theorem dX8_as_25 : decode cX8_as 25 = .ok (.ldc 100, 2) := by decide +kernel
theorem dX8_as_27 : decode cX8_as 27 = .ok (.ireturn, 1) := by decide +kernel
theorem dX8_as_28 : decode cX8_as 28 = .ok (.aload_n 0, 1) := by decide +kernel
theorem dX8_as_29 : decode cX8_as 29 = .ok (.iconst 0, 1) := by decide +kernel
theorem dX8_as_30 : decode cX8_as 30 = .ok (.putfield 84, 3) := by decide +kernel
theorem dX8_as_33 : decode cX8_as 33 = .ok (.aload_n 0, 1) := by decide +kernel
theorem dX8_as_34 : decode cX8_as 34 = .ok (.iload_n 1, 1) := by decide +kernel
theorem dX8_as_35 : decode cX8_as 35 = .ok (.invokevirtual 230, 3) := by decide +kernel
theorem dX8_as_38 : decode cX8_as 38 = .ok (.istore_n 3, 1) := by decide +kernel
theorem dX8_as_39 : decode cX8_as 39 = .ok (.iload_n 2, 1) := by decide +kernel
theorem dX8_as_40 : decode cX8_as 40 = .ok (.ifCond .eq 18, 3) := by decide +kernel
theorem dX8_as_43 : decode cX8_as 43 = .ok (.iload_n 3, 1) := by decide +kernel
theorem dX8_as_44 : decode cX8_as 44 = .ok (.iload_n 2, 1) := by decide +kernel
theorem dX8_as_45 : decode cX8_as 45 = .ok (.if_icmp .eq 13, 3) := by decide +kernel
theorem dX8_as_48 : decode cX8_as 48 = .ok (.iload_n 2, 1) := by decide +kernel
theorem dX8_as_49 : decode cX8_as 49 = .ok (.iconst 1, 1) := by decide +kernel
theorem dX8_as_50 : decode cX8_as 50 = .ok (.if_icmp .ne 17, 3) := by decide +kernel
theorem dX8_as_53 : decode cX8_as 53 = .ok (.iload_n 3, 1) := by decide +kernel
theorem dX8_as_54 : decode cX8_as 54 = .ok (.iconst 2, 1) := by decide +kernel
theorem dX8_as_55 : decode cX8_as 55 = .ok (.if_icmp .ne 12, 3) := by decide +kernel
theorem dX8_as_58 : decode cX8_as 58 = .ok (.aload_n 0, 1) := by decide +kernel
theorem dX8_as_59 : decode cX8_as 59 = .ok (.getfield 40, 3) := by decide +kernel
theorem dX8_as_62 : decode cX8_as 62 = .ok (.iload_n 1, 1) := by decide +kernel
theorem dX8_as_63 : decode cX8_as 63 = .ok (.iaload, 1) := by decide +kernel
theorem dX8_as_64 : decode cX8_as 64 = .ok (.goto 8, 3) := by decide +kernel
theorem dX8_as_67 : decode cX8_as 67 = .ok (.aload_n 0, 1) := by decide +kernel
theorem dX8_as_68 : decode cX8_as 68 = .ok (.iconst 3, 1) := by decide +kernel
theorem dX8_as_69 : decode cX8_as 69 = .ok (.invokevirtual 101, 3) := by decide +kernel
theorem dX8_as_72 : decode cX8_as 72 = .ok (.ireturn, 1) := by decide +kernel
theorem dX8_began_0 : decode cX8_began 0 = .ok (.aload_n 0, 1) := by decide +kernel
theorem dX8_began_1 : decode cX8_began 1 = .ok (.getfield 233, 3) := by decide +kernel
theorem dX8_began_4 : decode cX8_began 4 = .ok (.bipush 16, 2) := by decide +kernel
theorem dX8_began_6 : decode cX8_began 6 = .ok (.if_icmp .ge 23, 3) := by decide +kernel
theorem dX8_began_9 : decode cX8_began 9 = .ok (.aload_n 0, 1) := by decide +kernel
theorem dX8_began_10 : decode cX8_began 10 = .ok (.getfield 77, 3) := by decide +kernel
theorem dX8_began_13 : decode cX8_began 13 = .ok (.aload_n 0, 1) := by decide +kernel
theorem dX8_began_14 : decode cX8_began 14 = .ok (.getfield 233, 3) := by decide +kernel
theorem dX8_began_17 : decode cX8_began 17 = .ok (.iload_n 1, 1) := by decide +kernel
theorem dX8_began_18 : decode cX8_began 18 = .ok (.iastore, 1) := by decide +kernel
theorem dX8_began_19 : decode cX8_began 19 = .ok (.aload_n 0, 1) := by decide +kernel
theorem dX8_began_20 : decode cX8_began 20 = .ok (.dup, 1) := by decide +kernel
theorem dX8_began_21 : decode cX8_began 21 = .ok (.getfield 233, 3) := by decide +kernel
theorem dX8_began_24 : decode cX8_began 24 = .ok (.iconst 1, 1) := by decide +kernel
theorem dX8_began_25 : decode cX8_began 25 = .ok (.iadd, 1) := by decide +kernel
theorem dX8_began_26 : decode cX8_began 26 = .ok (.putfield 233, 3) := by decide +kernel
theorem dX8_began_29 : decode cX8_began 29 = .ok (.return_, 1) := by decide +kernel
theorem dX8_worth_0 : decode cX8_worth 0 = .ok (.aload_n 0, 1) := by decide +kernel
theorem dX8_worth_1 : decode cX8_worth 1 = .ok (.iload_n 1, 1) := by decide +kernel
theorem dX8_worth_2 : decode cX8_worth 2 = .ok (.invokevirtual 230, 3) := by decide +kernel
theorem dX8_worth_5 : decode cX8_worth 5 = .ok (.istore_n 2, 1) := by decide +kernel
theorem dX8_worth_6 : decode cX8_worth 6 = .ok (.iload_n 2, 1) := by decide +kernel
theorem dX8_worth_7 : decode cX8_worth 7 = .ok (.iconst 1, 1) := by decide +kernel
theorem dX8_worth_8 : decode cX8_worth 8 = .ok (.if_icmp .eq 8, 3) := by decide +kernel
theorem dX8_worth_11 : decode cX8_worth 11 = .ok (.iload_n 2, 1) := by decide +kernel
theorem dX8_worth_12 : decode cX8_worth 12 = .ok (.iconst 2, 1) := by decide +kernel
theorem dX8_worth_13 : decode cX8_worth 13 = .ok (.if_icmp .ne 7, 3) := by decide +kernel
theorem dX8_worth_16 : decode cX8_worth 16 = .ok (.iconst 1, 1) := by decide +kernel
theorem dX8_worth_17 : decode cX8_worth 17 = .ok (.goto 4, 3) := by decide +kernel
theorem dX8_worth_20 : decode cX8_worth 20 = .ok (.iconst 0, 1) := by decide +kernel
theorem dX8_worth_21 : decode cX8_worth 21 = .ok (.istore_n 3, 1) := by decide +kernel
theorem dX8_worth_22 : decode cX8_worth 22 = .ok (.iload_n 2, 1) := by decide +kernel
theorem dX8_worth_23 : decode cX8_worth 23 = .ok (.iconst 3, 1) := by decide +kernel
theorem dX8_worth_24 : decode cX8_worth 24 = .ok (.if_icmp .ne 9, 3) := by decide +kernel
theorem dX8_worth_27 : decode cX8_worth 27 = .ok (.aload_n 0, 1) := by decide +kernel
theorem dX8_worth_28 : decode cX8_worth 28 = .ok (.bipush 13, 2) := by decide +kernel
theorem dX8_worth_30 : decode cX8_worth 30 = .ok (.invokevirtual 236, 3) := by decide +kernel
theorem dX8_worth_33 : decode cX8_worth 33 = .ok (.iload_n 2, 1) := by decide +kernel
theorem dX8_worth_34 : decode cX8_worth 34 = .ok (.iconst 2, 1) := by decide +kernel
theorem dX8_worth_35 : decode cX8_worth 35 = .ok (.if_icmp .ne 9, 3) := by decide +kernel
theorem dX8_worth_38 : decode cX8_worth 38 = .ok (.aload_n 0, 1) := by decide +kernel
theorem dX8_worth_39 : decode cX8_worth 39 = .ok (.bipush 12, 2) := by decide +kernel
theorem dX8_worth_41 : decode cX8_worth 41 = .ok (.invokevirtual 236, 3) := by decide +kernel
theorem dX8_worth_44 : decode cX8_worth 44 = .ok (.iload_n 3, 1) := by decide +kernel
theorem dX8_worth_45 : decode cX8_worth 45 = .ok (.ifCond .eq 9, 3) := by decide +kernel
theorem dX8_worth_48 : decode cX8_worth 48 = .ok (.aload_n 0, 1) := by decide +kernel
theorem dX8_worth_49 : decode cX8_worth 49 = .ok (.bipush 11, 2) := by decide +kernel
theorem dX8_worth_51 : decode cX8_worth 51 = .ok (.invokevirtual 236, 3) := by decide +kernel
theorem dX8_worth_54 : decode cX8_worth 54 = .ok (.aload_n 0, 1) := by decide +kernel
theorem dX8_worth_55 : decode cX8_worth 55 = .ok (.bipush 10, 2) := by decide +kernel
theorem dX8_worth_57 : decode cX8_worth 57 = .ok (.invokevirtual 236, 3) := by decide +kernel
theorem dX8_worth_60 : decode cX8_worth 60 = .ok (.aload_n 0, 1) := by decide +kernel
theorem dX8_worth_61 : decode cX8_worth 61 = .ok (.iload_n 1, 1) := by decide +kernel
theorem dX8_worth_62 : decode cX8_worth 62 = .ok (.invokevirtual 144, 3) := by decide +kernel
theorem dX8_worth_65 : decode cX8_worth 65 = .ok (.istore 4, 2) := by decide +kernel
theorem dX8_worth_67 : decode cX8_worth 67 = .ok (.iload_n 2, 1) := by decide +kernel
theorem dX8_worth_68 : decode cX8_worth 68 = .ok (.iconst 3, 1) := by decide +kernel
theorem dX8_worth_69 : decode cX8_worth 69 = .ok (.if_icmp .ne 15, 3) := by decide +kernel
theorem dX8_worth_72 : decode cX8_worth 72 = .ok (.iload 4, 2) := by decide +kernel
theorem dX8_worth_74 : decode cX8_worth 74 = .ok (.aload_n 0, 1) := by decide +kernel
theorem dX8_worth_75 : decode cX8_worth 75 = .ok (.getfield 65, 3) := by decide +kernel
theorem dX8_worth_78 : decode cX8_worth 78 = .ok (.iload_n 1, 1) := by decide +kernel
theorem dX8_worth_79 : decode cX8_worth 79 = .ok (.iaload, 1) := by decide +kernel
theorem dX8_worth_80 : decode cX8_worth 80 = .ok (.isub, 1) := by decide +kernel
theorem dX8_worth_81 : decode cX8_worth 81 = .ok (.goto 32, 3) := by decide +kernel
theorem dX8_worth_84 : decode cX8_worth 84 = .ok (.iload_n 2, 1) := by decide +kernel
theorem dX8_worth_85 : decode cX8_worth 85 = .ok (.iconst 2, 1) := by decide +kernel
theorem dX8_worth_86 : decode cX8_worth 86 = .ok (.if_icmp .ne 13, 3) := by decide +kernel
theorem dX8_worth_89 : decode cX8_worth 89 = .ok (.iconst 2, 1) := by decide +kernel
theorem dX8_worth_90 : decode cX8_worth 90 = .ok (.iload 4, 2) := by decide +kernel
theorem dX8_worth_92 : decode cX8_worth 92 = .ok (.bipush 100, 2) := by decide +kernel
theorem dX8_worth_94 : decode cX8_worth 94 = .ok (.iadd, 1) := by decide +kernel
theorem dX8_worth_95 : decode cX8_worth 95 = .ok (.imul, 1) := by decide +kernel
theorem dX8_worth_96 : decode cX8_worth 96 = .ok (.goto 17, 3) := by decide +kernel
theorem dX8_worth_99 : decode cX8_worth 99 = .ok (.iload_n 3, 1) := by decide +kernel
theorem dX8_worth_100 : decode cX8_worth 100 = .ok (.ifCond .eq 11, 3) := by decide +kernel
theorem dX8_worth_103 : decode cX8_worth 103 = .ok (.iload 4, 2) := by decide +kernel
theorem dX8_worth_105 : decode cX8_worth 105 = .ok (.bipush 100, 2) := by decide +kernel
theorem dX8_worth_107 : decode cX8_worth 107 = .ok (.iadd, 1) := by decide +kernel
theorem dX8_worth_108 : decode cX8_worth 108 = .ok (.goto 5, 3) := by decide +kernel
theorem dX8_worth_111 : decode cX8_worth 111 = .ok (.iload 4, 2) := by decide +kernel
theorem dX8_worth_113 : decode cX8_worth 113 = .ok (.ireturn, 1) := by decide +kernel
theorem dX8_marked_0 : decode cX8_marked 0 = .ok (.aload_n 0, 1) := by decide +kernel
theorem dX8_marked_1 : decode cX8_marked 1 = .ok (.iload_n 1, 1) := by decide +kernel
theorem dX8_marked_2 : decode cX8_marked 2 = .ok (.invokevirtual 230, 3) := by decide +kernel
theorem dX8_marked_5 : decode cX8_marked 5 = .ok (.istore_n 2, 1) := by decide +kernel
theorem dX8_marked_6 : decode cX8_marked 6 = .ok (.iload_n 2, 1) := by decide +kernel
theorem dX8_marked_7 : decode cX8_marked 7 = .ok (.iconst 1, 1) := by decide +kernel
theorem dX8_marked_8 : decode cX8_marked 8 = .ok (.if_icmp .eq 8, 3) := by decide +kernel
theorem dX8_marked_11 : decode cX8_marked 11 = .ok (.iload_n 2, 1) := by decide +kernel
theorem dX8_marked_12 : decode cX8_marked 12 = .ok (.iconst 2, 1) := by decide +kernel
theorem dX8_marked_13 : decode cX8_marked 13 = .ok (.if_icmp .ne 7, 3) := by decide +kernel
theorem dX8_marked_16 : decode cX8_marked 16 = .ok (.iconst 1, 1) := by decide +kernel
theorem dX8_marked_17 : decode cX8_marked 17 = .ok (.goto 4, 3) := by decide +kernel
theorem dX8_marked_20 : decode cX8_marked 20 = .ok (.iconst 0, 1) := by decide +kernel
theorem dX8_marked_21 : decode cX8_marked 21 = .ok (.istore_n 3, 1) := by decide +kernel
theorem dX8_marked_22 : decode cX8_marked 22 = .ok (.iload_n 2, 1) := by decide +kernel
theorem dX8_marked_23 : decode cX8_marked 23 = .ok (.iconst 3, 1) := by decide +kernel
theorem dX8_marked_24 : decode cX8_marked 24 = .ok (.if_icmp .ne 9, 3) := by decide +kernel
theorem dX8_marked_27 : decode cX8_marked 27 = .ok (.aload_n 0, 1) := by decide +kernel
theorem dX8_marked_28 : decode cX8_marked 28 = .ok (.bipush 22, 2) := by decide +kernel
theorem dX8_marked_30 : decode cX8_marked 30 = .ok (.invokevirtual 236, 3) := by decide +kernel
theorem dX8_marked_33 : decode cX8_marked 33 = .ok (.iload_n 3, 1) := by decide +kernel
theorem dX8_marked_34 : decode cX8_marked 34 = .ok (.ifCond .eq 9, 3) := by decide +kernel
theorem dX8_marked_37 : decode cX8_marked 37 = .ok (.aload_n 0, 1) := by decide +kernel
theorem dX8_marked_38 : decode cX8_marked 38 = .ok (.bipush 21, 2) := by decide +kernel
theorem dX8_marked_40 : decode cX8_marked 40 = .ok (.invokevirtual 236, 3) := by decide +kernel
theorem dX8_marked_43 : decode cX8_marked 43 = .ok (.aload_n 0, 1) := by decide +kernel
theorem dX8_marked_44 : decode cX8_marked 44 = .ok (.bipush 20, 2) := by decide +kernel
theorem dX8_marked_46 : decode cX8_marked 46 = .ok (.invokevirtual 236, 3) := by decide +kernel
theorem dX8_marked_49 : decode cX8_marked 49 = .ok (.aload_n 0, 1) := by decide +kernel
theorem dX8_marked_50 : decode cX8_marked 50 = .ok (.getfield 40, 3) := by decide +kernel
theorem dX8_marked_53 : decode cX8_marked 53 = .ok (.iload_n 1, 1) := by decide +kernel
theorem dX8_marked_54 : decode cX8_marked 54 = .ok (.iaload, 1) := by decide +kernel
theorem dX8_marked_55 : decode cX8_marked 55 = .ok (.iload_n 2, 1) := by decide +kernel
theorem dX8_marked_56 : decode cX8_marked 56 = .ok (.iconst 3, 1) := by decide +kernel
theorem dX8_marked_57 : decode cX8_marked 57 = .ok (.if_icmp .ne 12, 3) := by decide +kernel
theorem dX8_marked_60 : decode cX8_marked 60 = .ok (.aload_n 0, 1) := by decide +kernel
theorem dX8_marked_61 : decode cX8_marked 61 = .ok (.getfield 62, 3) := by decide +kernel
theorem dX8_marked_64 : decode cX8_marked 64 = .ok (.iload_n 1, 1) := by decide +kernel
theorem dX8_marked_65 : decode cX8_marked 65 = .ok (.iaload, 1) := by decide +kernel
theorem dX8_marked_66 : decode cX8_marked 66 = .ok (.goto 16, 3) := by decide +kernel
theorem dX8_marked_69 : decode cX8_marked 69 = .ok (.iload_n 3, 1) := by decide +kernel
theorem dX8_marked_70 : decode cX8_marked 70 = .ok (.ifCond .eq 11, 3) := by decide +kernel
theorem dX8_marked_73 : decode cX8_marked 73 = .ok (.aload_n 0, 1) := by decide +kernel
theorem dX8_marked_74 : decode cX8_marked 74 = .ok (.iload_n 1, 1) := by decide +kernel
theorem dX8_marked_75 : decode cX8_marked 75 = .ok (.invokevirtual 239, 3) := by decide +kernel
theorem dX8_marked_78 : decode cX8_marked 78 = .ok (.goto 4, 3) := by decide +kernel
theorem dX8_marked_81 : decode cX8_marked 81 = .ok (.iconst 0, 1) := by decide +kernel
theorem dX8_marked_82 : decode cX8_marked 82 = .ok (.iadd, 1) := by decide +kernel
theorem dX8_marked_83 : decode cX8_marked 83 = .ok (.ireturn, 1) := by decide +kernel
theorem dX8_ask_0 : decode cX8_ask 0 = .ok (.aload_n 0, 1) := by decide +kernel
theorem dX8_ask_1 : decode cX8_ask 1 = .ok (.iconst 0, 1) := by decide +kernel
theorem dX8_ask_2 : decode cX8_ask 2 = .ok (.putfield 80, 3) := by decide +kernel
theorem dX8_ask_5 : decode cX8_ask 5 = .ok (.aload_n 0, 1) := by decide +kernel
theorem dX8_ask_6 : decode cX8_ask 6 = .ok (.iload_n 1, 1) := by decide +kernel
theorem dX8_ask_7 : decode cX8_ask 7 = .ok (.invokevirtual 130, 3) := by decide +kernel
theorem dX8_ask_10 : decode cX8_ask 10 = .ok (.ifCond .eq 13, 3) := by decide +kernel
theorem dX8_ask_13 : decode cX8_ask 13 = .ok (.iload_n 2, 1) := by decide +kernel
theorem dX8_ask_14 : decode cX8_ask 14 = .ok (.i2l, 1) := by decide +kernel
theorem dX8_ask_15 : decode cX8_ask 15 = .ok (.lconst 0, 1) := by decide +kernel
theorem dX8_ask_16 : decode cX8_ask 16 = .ok (.lconst 1, 1) := by decide +kernel
theorem dX8_ask_17 : decode cX8_ask 17 = .ok (.invokestatic 90, 3) := by decide +kernel
theorem dX8_ask_20 : decode cX8_ask 20 = .ok (.ifCond .ne 6, 3) := by decide +kernel
theorem dX8_ask_23 : decode cX8_ask 23 = .ok (.ldc 100, 2) := by decide +kernel
theorem dX8_ask_25 : decode cX8_ask 25 = .ok (.ireturn, 1) := by decide +kernel
theorem dX8_ask_26 : decode cX8_ask 26 = .ok (.aload_n 0, 1) := by decide +kernel
theorem dX8_ask_27 : decode cX8_ask 27 = .ok (.iconst 0, 1) := by decide +kernel
theorem dX8_ask_28 : decode cX8_ask 28 = .ok (.putfield 233, 3) := by decide +kernel
theorem dX8_ask_31 : decode cX8_ask 31 = .ok (.iload_n 2, 1) := by decide +kernel
theorem dX8_ask_32 : decode cX8_ask 32 = .ok (.ifCond .ne 11, 3) := by decide +kernel
theorem dX8_ask_35 : decode cX8_ask 35 = .ok (.aload_n 0, 1) := by decide +kernel
theorem dX8_ask_36 : decode cX8_ask 36 = .ok (.iload_n 1, 1) := by decide +kernel
theorem dX8_ask_37 : decode cX8_ask 37 = .ok (.invokevirtual 239, 3) := by decide +kernel
theorem dX8_ask_40 : decode cX8_ask 40 = .ok (.goto 8, 3) := by decide +kernel
theorem dX8_ask_43 : decode cX8_ask 43 = .ok (.aload_n 0, 1) := by decide +kernel
theorem dX8_ask_44 : decode cX8_ask 44 = .ok (.iload_n 1, 1) := by decide +kernel
theorem dX8_ask_45 : decode cX8_ask 45 = .ok (.invokevirtual 242, 3) := by decide +kernel
theorem dX8_ask_48 : decode cX8_ask 48 = .ok (.ireturn, 1) := by decide +kernel
theorem dX8_trace_0 : decode cX8_trace 0 = .ok (.aload_n 0, 1) := by decide +kernel
theorem dX8_trace_1 : decode cX8_trace 1 = .ok (.iconst 0, 1) := by decide +kernel
theorem dX8_trace_2 : decode cX8_trace 2 = .ok (.putfield 80, 3) := by decide +kernel
theorem dX8_trace_5 : decode cX8_trace 5 = .ok (.iload_n 1, 1) := by decide +kernel
theorem dX8_trace_6 : decode cX8_trace 6 = .ok (.i2l, 1) := by decide +kernel
theorem dX8_trace_7 : decode cX8_trace 7 = .ok (.lconst 0, 1) := by decide +kernel
theorem dX8_trace_8 : decode cX8_trace 8 = .ok (.aload_n 0, 1) := by decide +kernel
theorem dX8_trace_9 : decode cX8_trace 9 = .ok (.getfield 233, 3) := by decide +kernel
theorem dX8_trace_12 : decode cX8_trace 12 = .ok (.iconst 1, 1) := by decide +kernel
theorem dX8_trace_13 : decode cX8_trace 13 = .ok (.isub, 1) := by decide +kernel
theorem dX8_trace_14 : decode cX8_trace 14 = .ok (.i2l, 1) := by decide +kernel
theorem dX8_trace_15 : decode cX8_trace 15 = .ok (.invokestatic 90, 3) := by decide +kernel
theorem dX8_trace_18 : decode cX8_trace 18 = .ok (.ifCond .eq 12, 3) := by decide +kernel
theorem dX8_trace_21 : decode cX8_trace 21 = .ok (.aload_n 0, 1) := by decide +kernel
theorem dX8_trace_22 : decode cX8_trace 22 = .ok (.getfield 77, 3) := by decide +kernel
theorem dX8_trace_25 : decode cX8_trace 25 = .ok (.iload_n 1, 1) := by decide +kernel
theorem dX8_trace_26 : decode cX8_trace 26 = .ok (.iaload, 1) := by decide +kernel
theorem dX8_trace_27 : decode cX8_trace 27 = .ok (.goto 5, 3) := by decide +kernel
theorem dX8_trace_30 : decode cX8_trace 30 = .ok (.ldc 122, 2) := by decide +kernel
theorem dX8_trace_32 : decode cX8_trace 32 = .ok (.ireturn, 1) := by decide +kernel
theorem dX8_count_0 : decode cX8_count 0 = .ok (.aload_n 0, 1) := by decide +kernel
theorem dX8_count_1 : decode cX8_count 1 = .ok (.iconst 0, 1) := by decide +kernel
theorem dX8_count_2 : decode cX8_count 2 = .ok (.putfield 80, 3) := by decide +kernel
theorem dX8_count_5 : decode cX8_count 5 = .ok (.iconst 0, 1) := by decide +kernel
theorem dX8_count_6 : decode cX8_count 6 = .ok (.istore_n 2, 1) := by decide +kernel
theorem dX8_count_7 : decode cX8_count 7 = .ok (.iload_n 1, 1) := by decide +kernel
theorem dX8_count_8 : decode cX8_count 8 = .ok (.tableswitch 205 0 6 #[44, 77, 82, 87, 87, 87, 172], 44) := by decide +kernel
theorem dX8_count_52 : decode cX8_count 52 = .ok (.iconst 0, 1) := by decide +kernel
theorem dX8_count_53 : decode cX8_count 53 = .ok (.istore_n 3, 1) := by decide +kernel
theorem dX8_count_54 : decode cX8_count 54 = .ok (.iload_n 3, 1) := by decide +kernel
theorem dX8_count_55 : decode cX8_count 55 = .ok (.bipush 8, 2) := by decide +kernel
theorem dX8_count_57 : decode cX8_count 57 = .ok (.if_icmp .ge 26, 3) := by decide +kernel
theorem dX8_count_60 : decode cX8_count 60 = .ok (.iload_n 2, 1) := by decide +kernel
theorem dX8_count_61 : decode cX8_count 61 = .ok (.aload_n 0, 1) := by decide +kernel
theorem dX8_count_62 : decode cX8_count 62 = .ok (.getfield 7, 3) := by decide +kernel
theorem dX8_count_65 : decode cX8_count 65 = .ok (.iload_n 3, 1) := by decide +kernel
theorem dX8_count_66 : decode cX8_count 66 = .ok (.iaload, 1) := by decide +kernel
theorem dX8_count_67 : decode cX8_count 67 = .ok (.ifCond .lt 7, 3) := by decide +kernel
theorem dX8_count_70 : decode cX8_count 70 = .ok (.iconst 1, 1) := by decide +kernel
theorem dX8_count_71 : decode cX8_count 71 = .ok (.goto 4, 3) := by decide +kernel
theorem dX8_count_74 : decode cX8_count 74 = .ok (.iconst 0, 1) := by decide +kernel
theorem dX8_count_75 : decode cX8_count 75 = .ok (.iadd, 1) := by decide +kernel
theorem dX8_count_76 : decode cX8_count 76 = .ok (.istore_n 2, 1) := by decide +kernel
theorem dX8_count_77 : decode cX8_count 77 = .ok (.iinc 3 1, 3) := by decide +kernel
theorem dX8_count_80 : decode cX8_count 80 = .ok (.goto (-26), 3) := by decide +kernel
theorem dX8_count_83 : decode cX8_count 83 = .ok (.iload_n 2, 1) := by decide +kernel
theorem dX8_count_84 : decode cX8_count 84 = .ok (.ireturn, 1) := by decide +kernel
theorem dX8_count_85 : decode cX8_count 85 = .ok (.aload_n 0, 1) := by decide +kernel
theorem dX8_count_86 : decode cX8_count 86 = .ok (.getfield 105, 3) := by decide +kernel
theorem dX8_count_89 : decode cX8_count 89 = .ok (.ireturn, 1) := by decide +kernel
theorem dX8_count_90 : decode cX8_count 90 = .ok (.aload_n 0, 1) := by decide +kernel
theorem dX8_count_91 : decode cX8_count 91 = .ok (.getfield 127, 3) := by decide +kernel
theorem dX8_count_94 : decode cX8_count 94 = .ok (.ireturn, 1) := by decide +kernel
theorem dX8_count_95 : decode cX8_count 95 = .ok (.iconst 0, 1) := by decide +kernel
theorem dX8_count_96 : decode cX8_count 96 = .ok (.istore_n 3, 1) := by decide +kernel
theorem dX8_count_97 : decode cX8_count 97 = .ok (.iload_n 3, 1) := by decide +kernel
theorem dX8_count_98 : decode cX8_count 98 = .ok (.aload_n 0, 1) := by decide +kernel
theorem dX8_count_99 : decode cX8_count 99 = .ok (.getfield 127, 3) := by decide +kernel
theorem dX8_count_102 : decode cX8_count 102 = .ok (.if_icmp .ge 76, 3) := by decide +kernel
theorem dX8_count_105 : decode cX8_count 105 = .ok (.aload_n 0, 1) := by decide +kernel
theorem dX8_count_106 : decode cX8_count 106 = .ok (.iload_n 3, 1) := by decide +kernel
theorem dX8_count_107 : decode cX8_count 107 = .ok (.invokevirtual 230, 3) := by decide +kernel
theorem dX8_count_110 : decode cX8_count 110 = .ok (.istore 4, 2) := by decide +kernel
theorem dX8_count_112 : decode cX8_count 112 = .ok (.iload_n 2, 1) := by decide +kernel
theorem dX8_count_113 : decode cX8_count 113 = .ok (.iload_n 1, 1) := by decide +kernel
theorem dX8_count_114 : decode cX8_count 114 = .ok (.iconst 3, 1) := by decide +kernel
theorem dX8_count_115 : decode cX8_count 115 = .ok (.if_icmp .ne 19, 3) := by decide +kernel
theorem dX8_count_118 : decode cX8_count 118 = .ok (.aload_n 0, 1) := by decide +kernel
theorem dX8_count_119 : decode cX8_count 119 = .ok (.iload_n 3, 1) := by decide +kernel
theorem dX8_count_120 : decode cX8_count 120 = .ok (.invokevirtual 153, 3) := by decide +kernel
theorem dX8_count_123 : decode cX8_count 123 = .ok (.ifCond .eq 7, 3) := by decide +kernel
theorem dX8_count_126 : decode cX8_count 126 = .ok (.iconst 1, 1) := by decide +kernel
theorem dX8_count_127 : decode cX8_count 127 = .ok (.goto 43, 3) := by decide +kernel
theorem dX8_count_130 : decode cX8_count 130 = .ok (.iconst 0, 1) := by decide +kernel
theorem dX8_count_131 : decode cX8_count 131 = .ok (.goto 39, 3) := by decide +kernel
theorem dX8_count_134 : decode cX8_count 134 = .ok (.iload_n 1, 1) := by decide +kernel
theorem dX8_count_135 : decode cX8_count 135 = .ok (.iconst 4, 1) := by decide +kernel
theorem dX8_count_136 : decode cX8_count 136 = .ok (.if_icmp .ne 23, 3) := by decide +kernel
theorem dX8_count_139 : decode cX8_count 139 = .ok (.iload 4, 2) := by decide +kernel
theorem dX8_count_141 : decode cX8_count 141 = .ok (.iconst 1, 1) := by decide +kernel
theorem dX8_count_142 : decode cX8_count 142 = .ok (.if_icmp .eq 9, 3) := by decide +kernel
theorem dX8_count_145 : decode cX8_count 145 = .ok (.iload 4, 2) := by decide +kernel
theorem dX8_count_147 : decode cX8_count 147 = .ok (.iconst 2, 1) := by decide +kernel
theorem dX8_count_148 : decode cX8_count 148 = .ok (.if_icmp .ne 7, 3) := by decide +kernel
theorem dX8_count_151 : decode cX8_count 151 = .ok (.iconst 1, 1) := by decide +kernel
theorem dX8_count_152 : decode cX8_count 152 = .ok (.goto 18, 3) := by decide +kernel
theorem dX8_count_155 : decode cX8_count 155 = .ok (.iconst 0, 1) := by decide +kernel
theorem dX8_count_156 : decode cX8_count 156 = .ok (.goto 14, 3) := by decide +kernel
theorem dX8_count_159 : decode cX8_count 159 = .ok (.iload 4, 2) := by decide +kernel
theorem dX8_count_161 : decode cX8_count 161 = .ok (.iconst 3, 1) := by decide +kernel
theorem dX8_count_162 : decode cX8_count 162 = .ok (.if_icmp .ne 7, 3) := by decide +kernel
theorem dX8_count_165 : decode cX8_count 165 = .ok (.iconst 1, 1) := by decide +kernel
theorem dX8_count_166 : decode cX8_count 166 = .ok (.goto 4, 3) := by decide +kernel
theorem dX8_count_169 : decode cX8_count 169 = .ok (.iconst 0, 1) := by decide +kernel
theorem dX8_count_170 : decode cX8_count 170 = .ok (.iadd, 1) := by decide +kernel
theorem dX8_count_171 : decode cX8_count 171 = .ok (.istore_n 2, 1) := by decide +kernel
theorem dX8_count_172 : decode cX8_count 172 = .ok (.iinc 3 1, 3) := by decide +kernel
theorem dX8_count_175 : decode cX8_count 175 = .ok (.goto (-78), 3) := by decide +kernel
theorem dX8_count_178 : decode cX8_count 178 = .ok (.iload_n 2, 1) := by decide +kernel
theorem dX8_count_179 : decode cX8_count 179 = .ok (.ireturn, 1) := by decide +kernel
theorem dX8_count_180 : decode cX8_count 180 = .ok (.iconst 0, 1) := by decide +kernel
theorem dX8_count_181 : decode cX8_count 181 = .ok (.istore_n 3, 1) := by decide +kernel
theorem dX8_count_182 : decode cX8_count 182 = .ok (.iload_n 3, 1) := by decide +kernel
theorem dX8_count_183 : decode cX8_count 183 = .ok (.bipush 100, 2) := by decide +kernel
theorem dX8_count_185 : decode cX8_count 185 = .ok (.if_icmp .ge 26, 3) := by decide +kernel
theorem dX8_count_188 : decode cX8_count 188 = .ok (.iload_n 2, 1) := by decide +kernel
theorem dX8_count_189 : decode cX8_count 189 = .ok (.aload_n 0, 1) := by decide +kernel
theorem dX8_count_190 : decode cX8_count 190 = .ok (.getfield 28, 3) := by decide +kernel
theorem dX8_count_193 : decode cX8_count 193 = .ok (.iload_n 3, 1) := by decide +kernel
theorem dX8_count_194 : decode cX8_count 194 = .ok (.iaload, 1) := by decide +kernel
theorem dX8_count_195 : decode cX8_count 195 = .ok (.ifCond .le 7, 3) := by decide +kernel
theorem dX8_count_198 : decode cX8_count 198 = .ok (.iconst 1, 1) := by decide +kernel
theorem dX8_count_199 : decode cX8_count 199 = .ok (.goto 4, 3) := by decide +kernel
theorem dX8_count_202 : decode cX8_count 202 = .ok (.iconst 0, 1) := by decide +kernel
theorem dX8_count_203 : decode cX8_count 203 = .ok (.iadd, 1) := by decide +kernel
theorem dX8_count_204 : decode cX8_count 204 = .ok (.istore_n 2, 1) := by decide +kernel
theorem dX8_count_205 : decode cX8_count 205 = .ok (.iinc 3 1, 3) := by decide +kernel
theorem dX8_count_208 : decode cX8_count 208 = .ok (.goto (-26), 3) := by decide +kernel
theorem dX8_count_211 : decode cX8_count 211 = .ok (.iload_n 2, 1) := by decide +kernel
theorem dX8_count_212 : decode cX8_count 212 = .ok (.ireturn, 1) := by decide +kernel
theorem dX8_count_213 : decode cX8_count 213 = .ok (.ldc 100, 2) := by decide +kernel
theorem dX8_count_215 : decode cX8_count 215 = .ok (.ireturn, 1) := by decide +kernel
theorem dX8_status_0 : decode cX8_status 0 = .ok (.aload_n 0, 1) := by decide +kernel
theorem dX8_status_1 : decode cX8_status 1 = .ok (.iconst 0, 1) := by decide +kernel
theorem dX8_status_2 : decode cX8_status 2 = .ok (.putfield 80, 3) := by decide +kernel
theorem dX8_status_5 : decode cX8_status 5 = .ok (.aload_n 0, 1) := by decide +kernel
theorem dX8_status_6 : decode cX8_status 6 = .ok (.getfield 84, 3) := by decide +kernel
theorem dX8_status_9 : decode cX8_status 9 = .ok (.ireturn, 1) := by decide +kernel
end
section
theorem dL_law_0 : decode cL_law 0 = .ok (.new 7, 3) := by decide +kernel
theorem dL_law_3 : decode cL_law 3 = .ok (.dup, 1) := by decide +kernel
theorem dL_law_4 : decode cL_law 4 = .ok (.invokespecial 9, 3) := by decide +kernel
theorem dL_law_7 : decode cL_law 7 = .ok (.astore_n 1, 1) := by decide +kernel
theorem dL_law_8 : decode cL_law 8 = .ok (.new 10, 3) := by decide +kernel
theorem dL_law_11 : decode cL_law 11 = .ok (.dup, 1) := by decide +kernel
theorem dL_law_12 : decode cL_law 12 = .ok (.invokespecial 12, 3) := by decide +kernel
theorem dL_law_15 : decode cL_law 15 = .ok (.astore_n 2, 1) := by decide +kernel
theorem dL_law_16 : decode cL_law 16 = .ok (.iconst 0, 1) := by decide +kernel
theorem dL_law_17 : decode cL_law 17 = .ok (.istore_n 3, 1) := by decide +kernel
theorem dL_law_18 : decode cL_law 18 = .ok (.iload_n 3, 1) := by decide +kernel
theorem dL_law_19 : decode cL_law 19 = .ok (.aload_n 0, 1) := by decide +kernel
theorem dL_law_20 : decode cL_law 20 = .ok (.arraylength, 1) := by decide +kernel
theorem dL_law_21 : decode cL_law 21 = .ok (.bipush 6, 2) := by decide +kernel
theorem dL_law_23 : decode cL_law 23 = .ok (.isub, 1) := by decide +kernel
theorem dL_law_24 : decode cL_law 24 = .ok (.if_icmp .gt 1036, 3) := by decide +kernel
theorem dL_law_27 : decode cL_law 27 = .ok (.aload_n 0, 1) := by decide +kernel
theorem dL_law_28 : decode cL_law 28 = .ok (.iload_n 3, 1) := by decide +kernel
theorem dL_law_29 : decode cL_law 29 = .ok (.iaload, 1) := by decide +kernel
theorem dL_law_30 : decode cL_law 30 = .ok (.bipush 31, 2) := by decide +kernel
theorem dL_law_32 : decode cL_law 32 = .ok (.iand, 1) := by decide +kernel
theorem dL_law_33 : decode cL_law 33 = .ok (.tableswitch 1021 0 24 #[115, 158, 201, 264, 287, 330, 373, 416, 459, 502, 535, 568, 601, 644, 697, 720, 783, 806, 829, 873, 896, 929, 962, 985, 1008], 115) := by decide +kernel
theorem dL_law_148 : decode cL_law 148 = .ok (.aload_n 1, 1) := by decide +kernel
theorem dL_law_149 : decode cL_law 149 = .ok (.aload_n 0, 1) := by decide +kernel
theorem dL_law_150 : decode cL_law 150 = .ok (.iload_n 3, 1) := by decide +kernel
theorem dL_law_151 : decode cL_law 151 = .ok (.iconst 1, 1) := by decide +kernel
theorem dL_law_152 : decode cL_law 152 = .ok (.iadd, 1) := by decide +kernel
theorem dL_law_153 : decode cL_law 153 = .ok (.iaload, 1) := by decide +kernel
theorem dL_law_154 : decode cL_law 154 = .ok (.aload_n 0, 1) := by decide +kernel
theorem dL_law_155 : decode cL_law 155 = .ok (.iload_n 3, 1) := by decide +kernel
theorem dL_law_156 : decode cL_law 156 = .ok (.iconst 2, 1) := by decide +kernel
theorem dL_law_157 : decode cL_law 157 = .ok (.iadd, 1) := by decide +kernel
theorem dL_law_158 : decode cL_law 158 = .ok (.iaload, 1) := by decide +kernel
theorem dL_law_159 : decode cL_law 159 = .ok (.aload_n 0, 1) := by decide +kernel
theorem dL_law_160 : decode cL_law 160 = .ok (.iload_n 3, 1) := by decide +kernel
theorem dL_law_161 : decode cL_law 161 = .ok (.iconst 3, 1) := by decide +kernel
theorem dL_law_162 : decode cL_law 162 = .ok (.iadd, 1) := by decide +kernel
theorem dL_law_163 : decode cL_law 163 = .ok (.iaload, 1) := by decide +kernel
theorem dL_law_164 : decode cL_law 164 = .ok (.invokevirtual 13, 3) := by decide +kernel
theorem dL_law_167 : decode cL_law 167 = .ok (.aload_n 2, 1) := by decide +kernel
theorem dL_law_168 : decode cL_law 168 = .ok (.aload_n 0, 1) := by decide +kernel
theorem dL_law_169 : decode cL_law 169 = .ok (.iload_n 3, 1) := by decide +kernel
theorem dL_law_170 : decode cL_law 170 = .ok (.iconst 1, 1) := by decide +kernel
theorem dL_law_171 : decode cL_law 171 = .ok (.iadd, 1) := by decide +kernel
theorem dL_law_172 : decode cL_law 172 = .ok (.iaload, 1) := by decide +kernel
theorem dL_law_173 : decode cL_law 173 = .ok (.aload_n 0, 1) := by decide +kernel
theorem dL_law_174 : decode cL_law 174 = .ok (.iload_n 3, 1) := by decide +kernel
theorem dL_law_175 : decode cL_law 175 = .ok (.iconst 2, 1) := by decide +kernel
theorem dL_law_176 : decode cL_law 176 = .ok (.iadd, 1) := by decide +kernel
theorem dL_law_177 : decode cL_law 177 = .ok (.iaload, 1) := by decide +kernel
theorem dL_law_178 : decode cL_law 178 = .ok (.aload_n 0, 1) := by decide +kernel
theorem dL_law_179 : decode cL_law 179 = .ok (.iload_n 3, 1) := by decide +kernel
theorem dL_law_180 : decode cL_law 180 = .ok (.iconst 3, 1) := by decide +kernel
theorem dL_law_181 : decode cL_law 181 = .ok (.iadd, 1) := by decide +kernel
theorem dL_law_182 : decode cL_law 182 = .ok (.iaload, 1) := by decide +kernel
theorem dL_law_183 : decode cL_law 183 = .ok (.invokevirtual 17, 3) := by decide +kernel
theorem dL_law_186 : decode cL_law 186 = .ok (.if_icmp .eq 868, 3) := by decide +kernel
theorem dL_law_189 : decode cL_law 189 = .ok (.iconst 0, 1) := by decide +kernel
theorem dL_law_190 : decode cL_law 190 = .ok (.ireturn, 1) := by decide +kernel
theorem dL_law_191 : decode cL_law 191 = .ok (.aload_n 1, 1) := by decide +kernel
theorem dL_law_192 : decode cL_law 192 = .ok (.aload_n 0, 1) := by decide +kernel
theorem dL_law_193 : decode cL_law 193 = .ok (.iload_n 3, 1) := by decide +kernel
theorem dL_law_194 : decode cL_law 194 = .ok (.iconst 1, 1) := by decide +kernel
theorem dL_law_195 : decode cL_law 195 = .ok (.iadd, 1) := by decide +kernel
theorem dL_law_196 : decode cL_law 196 = .ok (.iaload, 1) := by decide +kernel
theorem dL_law_197 : decode cL_law 197 = .ok (.aload_n 0, 1) := by decide +kernel
theorem dL_law_198 : decode cL_law 198 = .ok (.iload_n 3, 1) := by decide +kernel
theorem dL_law_199 : decode cL_law 199 = .ok (.iconst 2, 1) := by decide +kernel
theorem dL_law_200 : decode cL_law 200 = .ok (.iadd, 1) := by decide +kernel
theorem dL_law_201 : decode cL_law 201 = .ok (.iaload, 1) := by decide +kernel
theorem dL_law_202 : decode cL_law 202 = .ok (.aload_n 0, 1) := by decide +kernel
theorem dL_law_203 : decode cL_law 203 = .ok (.iload_n 3, 1) := by decide +kernel
theorem dL_law_204 : decode cL_law 204 = .ok (.iconst 3, 1) := by decide +kernel
theorem dL_law_205 : decode cL_law 205 = .ok (.iadd, 1) := by decide +kernel
theorem dL_law_206 : decode cL_law 206 = .ok (.iaload, 1) := by decide +kernel
theorem dL_law_207 : decode cL_law 207 = .ok (.invokevirtual 18, 3) := by decide +kernel
theorem dL_law_210 : decode cL_law 210 = .ok (.aload_n 2, 1) := by decide +kernel
theorem dL_law_211 : decode cL_law 211 = .ok (.aload_n 0, 1) := by decide +kernel
theorem dL_law_212 : decode cL_law 212 = .ok (.iload_n 3, 1) := by decide +kernel
theorem dL_law_213 : decode cL_law 213 = .ok (.iconst 1, 1) := by decide +kernel
theorem dL_law_214 : decode cL_law 214 = .ok (.iadd, 1) := by decide +kernel
theorem dL_law_215 : decode cL_law 215 = .ok (.iaload, 1) := by decide +kernel
theorem dL_law_216 : decode cL_law 216 = .ok (.aload_n 0, 1) := by decide +kernel
theorem dL_law_217 : decode cL_law 217 = .ok (.iload_n 3, 1) := by decide +kernel
theorem dL_law_218 : decode cL_law 218 = .ok (.iconst 2, 1) := by decide +kernel
theorem dL_law_219 : decode cL_law 219 = .ok (.iadd, 1) := by decide +kernel
theorem dL_law_220 : decode cL_law 220 = .ok (.iaload, 1) := by decide +kernel
theorem dL_law_221 : decode cL_law 221 = .ok (.aload_n 0, 1) := by decide +kernel
theorem dL_law_222 : decode cL_law 222 = .ok (.iload_n 3, 1) := by decide +kernel
theorem dL_law_223 : decode cL_law 223 = .ok (.iconst 3, 1) := by decide +kernel
theorem dL_law_224 : decode cL_law 224 = .ok (.iadd, 1) := by decide +kernel
theorem dL_law_225 : decode cL_law 225 = .ok (.iaload, 1) := by decide +kernel
theorem dL_law_226 : decode cL_law 226 = .ok (.invokevirtual 21, 3) := by decide +kernel
theorem dL_law_229 : decode cL_law 229 = .ok (.if_icmp .eq 825, 3) := by decide +kernel
theorem dL_law_232 : decode cL_law 232 = .ok (.iconst 0, 1) := by decide +kernel
theorem dL_law_233 : decode cL_law 233 = .ok (.ireturn, 1) := by decide +kernel
theorem dL_law_234 : decode cL_law 234 = .ok (.aload_n 1, 1) := by decide +kernel
theorem dL_law_235 : decode cL_law 235 = .ok (.aload_n 0, 1) := by decide +kernel
theorem dL_law_236 : decode cL_law 236 = .ok (.iload_n 3, 1) := by decide +kernel
theorem dL_law_237 : decode cL_law 237 = .ok (.iconst 1, 1) := by decide +kernel
theorem dL_law_238 : decode cL_law 238 = .ok (.iadd, 1) := by decide +kernel
theorem dL_law_239 : decode cL_law 239 = .ok (.iaload, 1) := by decide +kernel
theorem dL_law_240 : decode cL_law 240 = .ok (.aload_n 0, 1) := by decide +kernel
theorem dL_law_241 : decode cL_law 241 = .ok (.iload_n 3, 1) := by decide +kernel
theorem dL_law_242 : decode cL_law 242 = .ok (.iconst 2, 1) := by decide +kernel
theorem dL_law_243 : decode cL_law 243 = .ok (.iadd, 1) := by decide +kernel
theorem dL_law_244 : decode cL_law 244 = .ok (.iaload, 1) := by decide +kernel
theorem dL_law_245 : decode cL_law 245 = .ok (.aload_n 0, 1) := by decide +kernel
theorem dL_law_246 : decode cL_law 246 = .ok (.iload_n 3, 1) := by decide +kernel
theorem dL_law_247 : decode cL_law 247 = .ok (.iconst 3, 1) := by decide +kernel
theorem dL_law_248 : decode cL_law 248 = .ok (.iadd, 1) := by decide +kernel
theorem dL_law_249 : decode cL_law 249 = .ok (.iaload, 1) := by decide +kernel
theorem dL_law_250 : decode cL_law 250 = .ok (.aload_n 0, 1) := by decide +kernel
theorem dL_law_251 : decode cL_law 251 = .ok (.iload_n 3, 1) := by decide +kernel
theorem dL_law_252 : decode cL_law 252 = .ok (.iconst 4, 1) := by decide +kernel
theorem dL_law_253 : decode cL_law 253 = .ok (.iadd, 1) := by decide +kernel
theorem dL_law_254 : decode cL_law 254 = .ok (.iaload, 1) := by decide +kernel
theorem dL_law_255 : decode cL_law 255 = .ok (.aload_n 0, 1) := by decide +kernel
theorem dL_law_256 : decode cL_law 256 = .ok (.iload_n 3, 1) := by decide +kernel
theorem dL_law_257 : decode cL_law 257 = .ok (.iconst 5, 1) := by decide +kernel
theorem dL_law_258 : decode cL_law 258 = .ok (.iadd, 1) := by decide +kernel
theorem dL_law_259 : decode cL_law 259 = .ok (.iaload, 1) := by decide +kernel
theorem dL_law_260 : decode cL_law 260 = .ok (.invokevirtual 22, 3) := by decide +kernel
theorem dL_law_263 : decode cL_law 263 = .ok (.aload_n 2, 1) := by decide +kernel
theorem dL_law_264 : decode cL_law 264 = .ok (.aload_n 0, 1) := by decide +kernel
theorem dL_law_265 : decode cL_law 265 = .ok (.iload_n 3, 1) := by decide +kernel
theorem dL_law_266 : decode cL_law 266 = .ok (.iconst 1, 1) := by decide +kernel
theorem dL_law_267 : decode cL_law 267 = .ok (.iadd, 1) := by decide +kernel
theorem dL_law_268 : decode cL_law 268 = .ok (.iaload, 1) := by decide +kernel
theorem dL_law_269 : decode cL_law 269 = .ok (.aload_n 0, 1) := by decide +kernel
theorem dL_law_270 : decode cL_law 270 = .ok (.iload_n 3, 1) := by decide +kernel
theorem dL_law_271 : decode cL_law 271 = .ok (.iconst 2, 1) := by decide +kernel
theorem dL_law_272 : decode cL_law 272 = .ok (.iadd, 1) := by decide +kernel
theorem dL_law_273 : decode cL_law 273 = .ok (.iaload, 1) := by decide +kernel
theorem dL_law_274 : decode cL_law 274 = .ok (.aload_n 0, 1) := by decide +kernel
theorem dL_law_275 : decode cL_law 275 = .ok (.iload_n 3, 1) := by decide +kernel
theorem dL_law_276 : decode cL_law 276 = .ok (.iconst 3, 1) := by decide +kernel
theorem dL_law_277 : decode cL_law 277 = .ok (.iadd, 1) := by decide +kernel
theorem dL_law_278 : decode cL_law 278 = .ok (.iaload, 1) := by decide +kernel
theorem dL_law_279 : decode cL_law 279 = .ok (.aload_n 0, 1) := by decide +kernel
theorem dL_law_280 : decode cL_law 280 = .ok (.iload_n 3, 1) := by decide +kernel
theorem dL_law_281 : decode cL_law 281 = .ok (.iconst 4, 1) := by decide +kernel
theorem dL_law_282 : decode cL_law 282 = .ok (.iadd, 1) := by decide +kernel
theorem dL_law_283 : decode cL_law 283 = .ok (.iaload, 1) := by decide +kernel
theorem dL_law_284 : decode cL_law 284 = .ok (.aload_n 0, 1) := by decide +kernel
theorem dL_law_285 : decode cL_law 285 = .ok (.iload_n 3, 1) := by decide +kernel
theorem dL_law_286 : decode cL_law 286 = .ok (.iconst 5, 1) := by decide +kernel
theorem dL_law_287 : decode cL_law 287 = .ok (.iadd, 1) := by decide +kernel
theorem dL_law_288 : decode cL_law 288 = .ok (.iaload, 1) := by decide +kernel
theorem dL_law_289 : decode cL_law 289 = .ok (.invokevirtual 26, 3) := by decide +kernel
theorem dL_law_292 : decode cL_law 292 = .ok (.if_icmp .eq 762, 3) := by decide +kernel
theorem dL_law_295 : decode cL_law 295 = .ok (.iconst 0, 1) := by decide +kernel
theorem dL_law_296 : decode cL_law 296 = .ok (.ireturn, 1) := by decide +kernel
theorem dL_law_297 : decode cL_law 297 = .ok (.aload_n 1, 1) := by decide +kernel
theorem dL_law_298 : decode cL_law 298 = .ok (.aload_n 0, 1) := by decide +kernel
theorem dL_law_299 : decode cL_law 299 = .ok (.iload_n 3, 1) := by decide +kernel
theorem dL_law_300 : decode cL_law 300 = .ok (.iconst 1, 1) := by decide +kernel
theorem dL_law_301 : decode cL_law 301 = .ok (.iadd, 1) := by decide +kernel
theorem dL_law_302 : decode cL_law 302 = .ok (.iaload, 1) := by decide +kernel
theorem dL_law_303 : decode cL_law 303 = .ok (.invokevirtual 27, 3) := by decide +kernel
theorem dL_law_306 : decode cL_law 306 = .ok (.aload_n 2, 1) := by decide +kernel
theorem dL_law_307 : decode cL_law 307 = .ok (.aload_n 0, 1) := by decide +kernel
theorem dL_law_308 : decode cL_law 308 = .ok (.iload_n 3, 1) := by decide +kernel
theorem dL_law_309 : decode cL_law 309 = .ok (.iconst 1, 1) := by decide +kernel
theorem dL_law_310 : decode cL_law 310 = .ok (.iadd, 1) := by decide +kernel
theorem dL_law_311 : decode cL_law 311 = .ok (.iaload, 1) := by decide +kernel
theorem dL_law_312 : decode cL_law 312 = .ok (.invokevirtual 31, 3) := by decide +kernel
theorem dL_law_315 : decode cL_law 315 = .ok (.if_icmp .eq 739, 3) := by decide +kernel
theorem dL_law_318 : decode cL_law 318 = .ok (.iconst 0, 1) := by decide +kernel
theorem dL_law_319 : decode cL_law 319 = .ok (.ireturn, 1) := by decide +kernel
theorem dL_law_320 : decode cL_law 320 = .ok (.aload_n 1, 1) := by decide +kernel
theorem dL_law_321 : decode cL_law 321 = .ok (.aload_n 0, 1) := by decide +kernel
theorem dL_law_322 : decode cL_law 322 = .ok (.iload_n 3, 1) := by decide +kernel
theorem dL_law_323 : decode cL_law 323 = .ok (.iconst 1, 1) := by decide +kernel
theorem dL_law_324 : decode cL_law 324 = .ok (.iadd, 1) := by decide +kernel
theorem dL_law_325 : decode cL_law 325 = .ok (.iaload, 1) := by decide +kernel
theorem dL_law_326 : decode cL_law 326 = .ok (.aload_n 0, 1) := by decide +kernel
theorem dL_law_327 : decode cL_law 327 = .ok (.iload_n 3, 1) := by decide +kernel
theorem dL_law_328 : decode cL_law 328 = .ok (.iconst 2, 1) := by decide +kernel
theorem dL_law_329 : decode cL_law 329 = .ok (.iadd, 1) := by decide +kernel
theorem dL_law_330 : decode cL_law 330 = .ok (.iaload, 1) := by decide +kernel
theorem dL_law_331 : decode cL_law 331 = .ok (.aload_n 0, 1) := by decide +kernel
theorem dL_law_332 : decode cL_law 332 = .ok (.iload_n 3, 1) := by decide +kernel
theorem dL_law_333 : decode cL_law 333 = .ok (.iconst 3, 1) := by decide +kernel
theorem dL_law_334 : decode cL_law 334 = .ok (.iadd, 1) := by decide +kernel
theorem dL_law_335 : decode cL_law 335 = .ok (.iaload, 1) := by decide +kernel
theorem dL_law_336 : decode cL_law 336 = .ok (.invokevirtual 32, 3) := by decide +kernel
theorem dL_law_339 : decode cL_law 339 = .ok (.aload_n 2, 1) := by decide +kernel
theorem dL_law_340 : decode cL_law 340 = .ok (.aload_n 0, 1) := by decide +kernel
theorem dL_law_341 : decode cL_law 341 = .ok (.iload_n 3, 1) := by decide +kernel
theorem dL_law_342 : decode cL_law 342 = .ok (.iconst 1, 1) := by decide +kernel
theorem dL_law_343 : decode cL_law 343 = .ok (.iadd, 1) := by decide +kernel
theorem dL_law_344 : decode cL_law 344 = .ok (.iaload, 1) := by decide +kernel
theorem dL_law_345 : decode cL_law 345 = .ok (.aload_n 0, 1) := by decide +kernel
theorem dL_law_346 : decode cL_law 346 = .ok (.iload_n 3, 1) := by decide +kernel
theorem dL_law_347 : decode cL_law 347 = .ok (.iconst 2, 1) := by decide +kernel
theorem dL_law_348 : decode cL_law 348 = .ok (.iadd, 1) := by decide +kernel
theorem dL_law_349 : decode cL_law 349 = .ok (.iaload, 1) := by decide +kernel
theorem dL_law_350 : decode cL_law 350 = .ok (.aload_n 0, 1) := by decide +kernel
theorem dL_law_351 : decode cL_law 351 = .ok (.iload_n 3, 1) := by decide +kernel
theorem dL_law_352 : decode cL_law 352 = .ok (.iconst 3, 1) := by decide +kernel
theorem dL_law_353 : decode cL_law 353 = .ok (.iadd, 1) := by decide +kernel
theorem dL_law_354 : decode cL_law 354 = .ok (.iaload, 1) := by decide +kernel
theorem dL_law_355 : decode cL_law 355 = .ok (.invokevirtual 35, 3) := by decide +kernel
theorem dL_law_358 : decode cL_law 358 = .ok (.if_icmp .eq 696, 3) := by decide +kernel
theorem dL_law_361 : decode cL_law 361 = .ok (.iconst 0, 1) := by decide +kernel
theorem dL_law_362 : decode cL_law 362 = .ok (.ireturn, 1) := by decide +kernel
theorem dL_law_363 : decode cL_law 363 = .ok (.aload_n 1, 1) := by decide +kernel
theorem dL_law_364 : decode cL_law 364 = .ok (.aload_n 0, 1) := by decide +kernel
theorem dL_law_365 : decode cL_law 365 = .ok (.iload_n 3, 1) := by decide +kernel
theorem dL_law_366 : decode cL_law 366 = .ok (.iconst 1, 1) := by decide +kernel
theorem dL_law_367 : decode cL_law 367 = .ok (.iadd, 1) := by decide +kernel
theorem dL_law_368 : decode cL_law 368 = .ok (.iaload, 1) := by decide +kernel
theorem dL_law_369 : decode cL_law 369 = .ok (.aload_n 0, 1) := by decide +kernel
theorem dL_law_370 : decode cL_law 370 = .ok (.iload_n 3, 1) := by decide +kernel
theorem dL_law_371 : decode cL_law 371 = .ok (.iconst 2, 1) := by decide +kernel
theorem dL_law_372 : decode cL_law 372 = .ok (.iadd, 1) := by decide +kernel
theorem dL_law_373 : decode cL_law 373 = .ok (.iaload, 1) := by decide +kernel
theorem dL_law_374 : decode cL_law 374 = .ok (.aload_n 0, 1) := by decide +kernel
theorem dL_law_375 : decode cL_law 375 = .ok (.iload_n 3, 1) := by decide +kernel
theorem dL_law_376 : decode cL_law 376 = .ok (.iconst 3, 1) := by decide +kernel
theorem dL_law_377 : decode cL_law 377 = .ok (.iadd, 1) := by decide +kernel
theorem dL_law_378 : decode cL_law 378 = .ok (.iaload, 1) := by decide +kernel
theorem dL_law_379 : decode cL_law 379 = .ok (.invokevirtual 36, 3) := by decide +kernel
theorem dL_law_382 : decode cL_law 382 = .ok (.aload_n 2, 1) := by decide +kernel
theorem dL_law_383 : decode cL_law 383 = .ok (.aload_n 0, 1) := by decide +kernel
theorem dL_law_384 : decode cL_law 384 = .ok (.iload_n 3, 1) := by decide +kernel
theorem dL_law_385 : decode cL_law 385 = .ok (.iconst 1, 1) := by decide +kernel
theorem dL_law_386 : decode cL_law 386 = .ok (.iadd, 1) := by decide +kernel
theorem dL_law_387 : decode cL_law 387 = .ok (.iaload, 1) := by decide +kernel
theorem dL_law_388 : decode cL_law 388 = .ok (.aload_n 0, 1) := by decide +kernel
theorem dL_law_389 : decode cL_law 389 = .ok (.iload_n 3, 1) := by decide +kernel
theorem dL_law_390 : decode cL_law 390 = .ok (.iconst 2, 1) := by decide +kernel
theorem dL_law_391 : decode cL_law 391 = .ok (.iadd, 1) := by decide +kernel
theorem dL_law_392 : decode cL_law 392 = .ok (.iaload, 1) := by decide +kernel
theorem dL_law_393 : decode cL_law 393 = .ok (.aload_n 0, 1) := by decide +kernel
theorem dL_law_394 : decode cL_law 394 = .ok (.iload_n 3, 1) := by decide +kernel
theorem dL_law_395 : decode cL_law 395 = .ok (.iconst 3, 1) := by decide +kernel
theorem dL_law_396 : decode cL_law 396 = .ok (.iadd, 1) := by decide +kernel
theorem dL_law_397 : decode cL_law 397 = .ok (.iaload, 1) := by decide +kernel
theorem dL_law_398 : decode cL_law 398 = .ok (.invokevirtual 39, 3) := by decide +kernel
theorem dL_law_401 : decode cL_law 401 = .ok (.if_icmp .eq 653, 3) := by decide +kernel
theorem dL_law_404 : decode cL_law 404 = .ok (.iconst 0, 1) := by decide +kernel
theorem dL_law_405 : decode cL_law 405 = .ok (.ireturn, 1) := by decide +kernel
theorem dL_law_406 : decode cL_law 406 = .ok (.aload_n 1, 1) := by decide +kernel
theorem dL_law_407 : decode cL_law 407 = .ok (.aload_n 0, 1) := by decide +kernel
theorem dL_law_408 : decode cL_law 408 = .ok (.iload_n 3, 1) := by decide +kernel
theorem dL_law_409 : decode cL_law 409 = .ok (.iconst 1, 1) := by decide +kernel
theorem dL_law_410 : decode cL_law 410 = .ok (.iadd, 1) := by decide +kernel
theorem dL_law_411 : decode cL_law 411 = .ok (.iaload, 1) := by decide +kernel
theorem dL_law_412 : decode cL_law 412 = .ok (.aload_n 0, 1) := by decide +kernel
theorem dL_law_413 : decode cL_law 413 = .ok (.iload_n 3, 1) := by decide +kernel
theorem dL_law_414 : decode cL_law 414 = .ok (.iconst 2, 1) := by decide +kernel
theorem dL_law_415 : decode cL_law 415 = .ok (.iadd, 1) := by decide +kernel
theorem dL_law_416 : decode cL_law 416 = .ok (.iaload, 1) := by decide +kernel
theorem dL_law_417 : decode cL_law 417 = .ok (.aload_n 0, 1) := by decide +kernel
theorem dL_law_418 : decode cL_law 418 = .ok (.iload_n 3, 1) := by decide +kernel
theorem dL_law_419 : decode cL_law 419 = .ok (.iconst 3, 1) := by decide +kernel
theorem dL_law_420 : decode cL_law 420 = .ok (.iadd, 1) := by decide +kernel
theorem dL_law_421 : decode cL_law 421 = .ok (.iaload, 1) := by decide +kernel
theorem dL_law_422 : decode cL_law 422 = .ok (.invokevirtual 40, 3) := by decide +kernel
theorem dL_law_425 : decode cL_law 425 = .ok (.aload_n 2, 1) := by decide +kernel
theorem dL_law_426 : decode cL_law 426 = .ok (.aload_n 0, 1) := by decide +kernel
theorem dL_law_427 : decode cL_law 427 = .ok (.iload_n 3, 1) := by decide +kernel
theorem dL_law_428 : decode cL_law 428 = .ok (.iconst 1, 1) := by decide +kernel
theorem dL_law_429 : decode cL_law 429 = .ok (.iadd, 1) := by decide +kernel
theorem dL_law_430 : decode cL_law 430 = .ok (.iaload, 1) := by decide +kernel
theorem dL_law_431 : decode cL_law 431 = .ok (.aload_n 0, 1) := by decide +kernel
theorem dL_law_432 : decode cL_law 432 = .ok (.iload_n 3, 1) := by decide +kernel
theorem dL_law_433 : decode cL_law 433 = .ok (.iconst 2, 1) := by decide +kernel
theorem dL_law_434 : decode cL_law 434 = .ok (.iadd, 1) := by decide +kernel
theorem dL_law_435 : decode cL_law 435 = .ok (.iaload, 1) := by decide +kernel
theorem dL_law_436 : decode cL_law 436 = .ok (.aload_n 0, 1) := by decide +kernel
theorem dL_law_437 : decode cL_law 437 = .ok (.iload_n 3, 1) := by decide +kernel
theorem dL_law_438 : decode cL_law 438 = .ok (.iconst 3, 1) := by decide +kernel
theorem dL_law_439 : decode cL_law 439 = .ok (.iadd, 1) := by decide +kernel
theorem dL_law_440 : decode cL_law 440 = .ok (.iaload, 1) := by decide +kernel
theorem dL_law_441 : decode cL_law 441 = .ok (.invokevirtual 43, 3) := by decide +kernel
theorem dL_law_444 : decode cL_law 444 = .ok (.if_icmp .eq 610, 3) := by decide +kernel
theorem dL_law_447 : decode cL_law 447 = .ok (.iconst 0, 1) := by decide +kernel
theorem dL_law_448 : decode cL_law 448 = .ok (.ireturn, 1) := by decide +kernel
theorem dL_law_449 : decode cL_law 449 = .ok (.aload_n 1, 1) := by decide +kernel
theorem dL_law_450 : decode cL_law 450 = .ok (.aload_n 0, 1) := by decide +kernel
theorem dL_law_451 : decode cL_law 451 = .ok (.iload_n 3, 1) := by decide +kernel
theorem dL_law_452 : decode cL_law 452 = .ok (.iconst 1, 1) := by decide +kernel
theorem dL_law_453 : decode cL_law 453 = .ok (.iadd, 1) := by decide +kernel
theorem dL_law_454 : decode cL_law 454 = .ok (.iaload, 1) := by decide +kernel
theorem dL_law_455 : decode cL_law 455 = .ok (.aload_n 0, 1) := by decide +kernel
theorem dL_law_456 : decode cL_law 456 = .ok (.iload_n 3, 1) := by decide +kernel
theorem dL_law_457 : decode cL_law 457 = .ok (.iconst 2, 1) := by decide +kernel
theorem dL_law_458 : decode cL_law 458 = .ok (.iadd, 1) := by decide +kernel
theorem dL_law_459 : decode cL_law 459 = .ok (.iaload, 1) := by decide +kernel
theorem dL_law_460 : decode cL_law 460 = .ok (.aload_n 0, 1) := by decide +kernel
theorem dL_law_461 : decode cL_law 461 = .ok (.iload_n 3, 1) := by decide +kernel
theorem dL_law_462 : decode cL_law 462 = .ok (.iconst 3, 1) := by decide +kernel
theorem dL_law_463 : decode cL_law 463 = .ok (.iadd, 1) := by decide +kernel
theorem dL_law_464 : decode cL_law 464 = .ok (.iaload, 1) := by decide +kernel
theorem dL_law_465 : decode cL_law 465 = .ok (.invokevirtual 44, 3) := by decide +kernel
theorem dL_law_468 : decode cL_law 468 = .ok (.aload_n 2, 1) := by decide +kernel
theorem dL_law_469 : decode cL_law 469 = .ok (.aload_n 0, 1) := by decide +kernel
theorem dL_law_470 : decode cL_law 470 = .ok (.iload_n 3, 1) := by decide +kernel
theorem dL_law_471 : decode cL_law 471 = .ok (.iconst 1, 1) := by decide +kernel
theorem dL_law_472 : decode cL_law 472 = .ok (.iadd, 1) := by decide +kernel
theorem dL_law_473 : decode cL_law 473 = .ok (.iaload, 1) := by decide +kernel
theorem dL_law_474 : decode cL_law 474 = .ok (.aload_n 0, 1) := by decide +kernel
theorem dL_law_475 : decode cL_law 475 = .ok (.iload_n 3, 1) := by decide +kernel
theorem dL_law_476 : decode cL_law 476 = .ok (.iconst 2, 1) := by decide +kernel
theorem dL_law_477 : decode cL_law 477 = .ok (.iadd, 1) := by decide +kernel
theorem dL_law_478 : decode cL_law 478 = .ok (.iaload, 1) := by decide +kernel
theorem dL_law_479 : decode cL_law 479 = .ok (.aload_n 0, 1) := by decide +kernel
theorem dL_law_480 : decode cL_law 480 = .ok (.iload_n 3, 1) := by decide +kernel
theorem dL_law_481 : decode cL_law 481 = .ok (.iconst 3, 1) := by decide +kernel
theorem dL_law_482 : decode cL_law 482 = .ok (.iadd, 1) := by decide +kernel
theorem dL_law_483 : decode cL_law 483 = .ok (.iaload, 1) := by decide +kernel
theorem dL_law_484 : decode cL_law 484 = .ok (.invokevirtual 47, 3) := by decide +kernel
theorem dL_law_487 : decode cL_law 487 = .ok (.if_icmp .eq 567, 3) := by decide +kernel
theorem dL_law_490 : decode cL_law 490 = .ok (.iconst 0, 1) := by decide +kernel
theorem dL_law_491 : decode cL_law 491 = .ok (.ireturn, 1) := by decide +kernel
theorem dL_law_492 : decode cL_law 492 = .ok (.aload_n 1, 1) := by decide +kernel
theorem dL_law_493 : decode cL_law 493 = .ok (.aload_n 0, 1) := by decide +kernel
theorem dL_law_494 : decode cL_law 494 = .ok (.iload_n 3, 1) := by decide +kernel
theorem dL_law_495 : decode cL_law 495 = .ok (.iconst 1, 1) := by decide +kernel
theorem dL_law_496 : decode cL_law 496 = .ok (.iadd, 1) := by decide +kernel
theorem dL_law_497 : decode cL_law 497 = .ok (.iaload, 1) := by decide +kernel
theorem dL_law_498 : decode cL_law 498 = .ok (.aload_n 0, 1) := by decide +kernel
theorem dL_law_499 : decode cL_law 499 = .ok (.iload_n 3, 1) := by decide +kernel
theorem dL_law_500 : decode cL_law 500 = .ok (.iconst 2, 1) := by decide +kernel
theorem dL_law_501 : decode cL_law 501 = .ok (.iadd, 1) := by decide +kernel
theorem dL_law_502 : decode cL_law 502 = .ok (.iaload, 1) := by decide +kernel
theorem dL_law_503 : decode cL_law 503 = .ok (.aload_n 0, 1) := by decide +kernel
theorem dL_law_504 : decode cL_law 504 = .ok (.iload_n 3, 1) := by decide +kernel
theorem dL_law_505 : decode cL_law 505 = .ok (.iconst 3, 1) := by decide +kernel
theorem dL_law_506 : decode cL_law 506 = .ok (.iadd, 1) := by decide +kernel
theorem dL_law_507 : decode cL_law 507 = .ok (.iaload, 1) := by decide +kernel
theorem dL_law_508 : decode cL_law 508 = .ok (.invokevirtual 48, 3) := by decide +kernel
theorem dL_law_511 : decode cL_law 511 = .ok (.aload_n 2, 1) := by decide +kernel
theorem dL_law_512 : decode cL_law 512 = .ok (.aload_n 0, 1) := by decide +kernel
theorem dL_law_513 : decode cL_law 513 = .ok (.iload_n 3, 1) := by decide +kernel
theorem dL_law_514 : decode cL_law 514 = .ok (.iconst 1, 1) := by decide +kernel
theorem dL_law_515 : decode cL_law 515 = .ok (.iadd, 1) := by decide +kernel
theorem dL_law_516 : decode cL_law 516 = .ok (.iaload, 1) := by decide +kernel
theorem dL_law_517 : decode cL_law 517 = .ok (.aload_n 0, 1) := by decide +kernel
theorem dL_law_518 : decode cL_law 518 = .ok (.iload_n 3, 1) := by decide +kernel
theorem dL_law_519 : decode cL_law 519 = .ok (.iconst 2, 1) := by decide +kernel
theorem dL_law_520 : decode cL_law 520 = .ok (.iadd, 1) := by decide +kernel
theorem dL_law_521 : decode cL_law 521 = .ok (.iaload, 1) := by decide +kernel
theorem dL_law_522 : decode cL_law 522 = .ok (.aload_n 0, 1) := by decide +kernel
theorem dL_law_523 : decode cL_law 523 = .ok (.iload_n 3, 1) := by decide +kernel
theorem dL_law_524 : decode cL_law 524 = .ok (.iconst 3, 1) := by decide +kernel
theorem dL_law_525 : decode cL_law 525 = .ok (.iadd, 1) := by decide +kernel
theorem dL_law_526 : decode cL_law 526 = .ok (.iaload, 1) := by decide +kernel
theorem dL_law_527 : decode cL_law 527 = .ok (.invokevirtual 51, 3) := by decide +kernel
theorem dL_law_530 : decode cL_law 530 = .ok (.if_icmp .eq 524, 3) := by decide +kernel
theorem dL_law_533 : decode cL_law 533 = .ok (.iconst 0, 1) := by decide +kernel
theorem dL_law_534 : decode cL_law 534 = .ok (.ireturn, 1) := by decide +kernel
theorem dL_law_535 : decode cL_law 535 = .ok (.aload_n 1, 1) := by decide +kernel
theorem dL_law_536 : decode cL_law 536 = .ok (.aload_n 0, 1) := by decide +kernel
theorem dL_law_537 : decode cL_law 537 = .ok (.iload_n 3, 1) := by decide +kernel
theorem dL_law_538 : decode cL_law 538 = .ok (.iconst 1, 1) := by decide +kernel
theorem dL_law_539 : decode cL_law 539 = .ok (.iadd, 1) := by decide +kernel
theorem dL_law_540 : decode cL_law 540 = .ok (.iaload, 1) := by decide +kernel
theorem dL_law_541 : decode cL_law 541 = .ok (.aload_n 0, 1) := by decide +kernel
theorem dL_law_542 : decode cL_law 542 = .ok (.iload_n 3, 1) := by decide +kernel
theorem dL_law_543 : decode cL_law 543 = .ok (.iconst 2, 1) := by decide +kernel
theorem dL_law_544 : decode cL_law 544 = .ok (.iadd, 1) := by decide +kernel
theorem dL_law_545 : decode cL_law 545 = .ok (.iaload, 1) := by decide +kernel
theorem dL_law_546 : decode cL_law 546 = .ok (.invokevirtual 52, 3) := by decide +kernel
theorem dL_law_549 : decode cL_law 549 = .ok (.aload_n 2, 1) := by decide +kernel
theorem dL_law_550 : decode cL_law 550 = .ok (.aload_n 0, 1) := by decide +kernel
theorem dL_law_551 : decode cL_law 551 = .ok (.iload_n 3, 1) := by decide +kernel
theorem dL_law_552 : decode cL_law 552 = .ok (.iconst 1, 1) := by decide +kernel
theorem dL_law_553 : decode cL_law 553 = .ok (.iadd, 1) := by decide +kernel
theorem dL_law_554 : decode cL_law 554 = .ok (.iaload, 1) := by decide +kernel
theorem dL_law_555 : decode cL_law 555 = .ok (.aload_n 0, 1) := by decide +kernel
theorem dL_law_556 : decode cL_law 556 = .ok (.iload_n 3, 1) := by decide +kernel
theorem dL_law_557 : decode cL_law 557 = .ok (.iconst 2, 1) := by decide +kernel
theorem dL_law_558 : decode cL_law 558 = .ok (.iadd, 1) := by decide +kernel
theorem dL_law_559 : decode cL_law 559 = .ok (.iaload, 1) := by decide +kernel
theorem dL_law_560 : decode cL_law 560 = .ok (.invokevirtual 56, 3) := by decide +kernel
theorem dL_law_563 : decode cL_law 563 = .ok (.if_icmp .eq 491, 3) := by decide +kernel
theorem dL_law_566 : decode cL_law 566 = .ok (.iconst 0, 1) := by decide +kernel
theorem dL_law_567 : decode cL_law 567 = .ok (.ireturn, 1) := by decide +kernel
theorem dL_law_568 : decode cL_law 568 = .ok (.aload_n 1, 1) := by decide +kernel
theorem dL_law_569 : decode cL_law 569 = .ok (.aload_n 0, 1) := by decide +kernel
theorem dL_law_570 : decode cL_law 570 = .ok (.iload_n 3, 1) := by decide +kernel
theorem dL_law_571 : decode cL_law 571 = .ok (.iconst 1, 1) := by decide +kernel
theorem dL_law_572 : decode cL_law 572 = .ok (.iadd, 1) := by decide +kernel
theorem dL_law_573 : decode cL_law 573 = .ok (.iaload, 1) := by decide +kernel
theorem dL_law_574 : decode cL_law 574 = .ok (.aload_n 0, 1) := by decide +kernel
theorem dL_law_575 : decode cL_law 575 = .ok (.iload_n 3, 1) := by decide +kernel
theorem dL_law_576 : decode cL_law 576 = .ok (.iconst 2, 1) := by decide +kernel
theorem dL_law_577 : decode cL_law 577 = .ok (.iadd, 1) := by decide +kernel
theorem dL_law_578 : decode cL_law 578 = .ok (.iaload, 1) := by decide +kernel
theorem dL_law_579 : decode cL_law 579 = .ok (.invokevirtual 57, 3) := by decide +kernel
theorem dL_law_582 : decode cL_law 582 = .ok (.aload_n 2, 1) := by decide +kernel
theorem dL_law_583 : decode cL_law 583 = .ok (.aload_n 0, 1) := by decide +kernel
theorem dL_law_584 : decode cL_law 584 = .ok (.iload_n 3, 1) := by decide +kernel
theorem dL_law_585 : decode cL_law 585 = .ok (.iconst 1, 1) := by decide +kernel
theorem dL_law_586 : decode cL_law 586 = .ok (.iadd, 1) := by decide +kernel
theorem dL_law_587 : decode cL_law 587 = .ok (.iaload, 1) := by decide +kernel
theorem dL_law_588 : decode cL_law 588 = .ok (.aload_n 0, 1) := by decide +kernel
theorem dL_law_589 : decode cL_law 589 = .ok (.iload_n 3, 1) := by decide +kernel
theorem dL_law_590 : decode cL_law 590 = .ok (.iconst 2, 1) := by decide +kernel
theorem dL_law_591 : decode cL_law 591 = .ok (.iadd, 1) := by decide +kernel
theorem dL_law_592 : decode cL_law 592 = .ok (.iaload, 1) := by decide +kernel
theorem dL_law_593 : decode cL_law 593 = .ok (.invokevirtual 60, 3) := by decide +kernel
theorem dL_law_596 : decode cL_law 596 = .ok (.if_icmp .eq 458, 3) := by decide +kernel
theorem dL_law_599 : decode cL_law 599 = .ok (.iconst 0, 1) := by decide +kernel
theorem dL_law_600 : decode cL_law 600 = .ok (.ireturn, 1) := by decide +kernel
theorem dL_law_601 : decode cL_law 601 = .ok (.aload_n 1, 1) := by decide +kernel
theorem dL_law_602 : decode cL_law 602 = .ok (.aload_n 0, 1) := by decide +kernel
theorem dL_law_603 : decode cL_law 603 = .ok (.iload_n 3, 1) := by decide +kernel
theorem dL_law_604 : decode cL_law 604 = .ok (.iconst 1, 1) := by decide +kernel
theorem dL_law_605 : decode cL_law 605 = .ok (.iadd, 1) := by decide +kernel
theorem dL_law_606 : decode cL_law 606 = .ok (.iaload, 1) := by decide +kernel
theorem dL_law_607 : decode cL_law 607 = .ok (.aload_n 0, 1) := by decide +kernel
theorem dL_law_608 : decode cL_law 608 = .ok (.iload_n 3, 1) := by decide +kernel
theorem dL_law_609 : decode cL_law 609 = .ok (.iconst 2, 1) := by decide +kernel
theorem dL_law_610 : decode cL_law 610 = .ok (.iadd, 1) := by decide +kernel
theorem dL_law_611 : decode cL_law 611 = .ok (.iaload, 1) := by decide +kernel
theorem dL_law_612 : decode cL_law 612 = .ok (.invokevirtual 61, 3) := by decide +kernel
theorem dL_law_615 : decode cL_law 615 = .ok (.aload_n 2, 1) := by decide +kernel
theorem dL_law_616 : decode cL_law 616 = .ok (.aload_n 0, 1) := by decide +kernel
theorem dL_law_617 : decode cL_law 617 = .ok (.iload_n 3, 1) := by decide +kernel
theorem dL_law_618 : decode cL_law 618 = .ok (.iconst 1, 1) := by decide +kernel
theorem dL_law_619 : decode cL_law 619 = .ok (.iadd, 1) := by decide +kernel
theorem dL_law_620 : decode cL_law 620 = .ok (.iaload, 1) := by decide +kernel
theorem dL_law_621 : decode cL_law 621 = .ok (.aload_n 0, 1) := by decide +kernel
theorem dL_law_622 : decode cL_law 622 = .ok (.iload_n 3, 1) := by decide +kernel
theorem dL_law_623 : decode cL_law 623 = .ok (.iconst 2, 1) := by decide +kernel
theorem dL_law_624 : decode cL_law 624 = .ok (.iadd, 1) := by decide +kernel
theorem dL_law_625 : decode cL_law 625 = .ok (.iaload, 1) := by decide +kernel
theorem dL_law_626 : decode cL_law 626 = .ok (.invokevirtual 64, 3) := by decide +kernel
theorem dL_law_629 : decode cL_law 629 = .ok (.if_icmp .eq 425, 3) := by decide +kernel
theorem dL_law_632 : decode cL_law 632 = .ok (.iconst 0, 1) := by decide +kernel
theorem dL_law_633 : decode cL_law 633 = .ok (.ireturn, 1) := by decide +kernel
theorem dL_law_634 : decode cL_law 634 = .ok (.aload_n 1, 1) := by decide +kernel
theorem dL_law_635 : decode cL_law 635 = .ok (.aload_n 0, 1) := by decide +kernel
theorem dL_law_636 : decode cL_law 636 = .ok (.iload_n 3, 1) := by decide +kernel
theorem dL_law_637 : decode cL_law 637 = .ok (.iconst 1, 1) := by decide +kernel
theorem dL_law_638 : decode cL_law 638 = .ok (.iadd, 1) := by decide +kernel
theorem dL_law_639 : decode cL_law 639 = .ok (.iaload, 1) := by decide +kernel
theorem dL_law_640 : decode cL_law 640 = .ok (.aload_n 0, 1) := by decide +kernel
theorem dL_law_641 : decode cL_law 641 = .ok (.iload_n 3, 1) := by decide +kernel
theorem dL_law_642 : decode cL_law 642 = .ok (.iconst 2, 1) := by decide +kernel
theorem dL_law_643 : decode cL_law 643 = .ok (.iadd, 1) := by decide +kernel
theorem dL_law_644 : decode cL_law 644 = .ok (.iaload, 1) := by decide +kernel
theorem dL_law_645 : decode cL_law 645 = .ok (.aload_n 0, 1) := by decide +kernel
theorem dL_law_646 : decode cL_law 646 = .ok (.iload_n 3, 1) := by decide +kernel
theorem dL_law_647 : decode cL_law 647 = .ok (.iconst 3, 1) := by decide +kernel
theorem dL_law_648 : decode cL_law 648 = .ok (.iadd, 1) := by decide +kernel
theorem dL_law_649 : decode cL_law 649 = .ok (.iaload, 1) := by decide +kernel
theorem dL_law_650 : decode cL_law 650 = .ok (.invokevirtual 65, 3) := by decide +kernel
theorem dL_law_653 : decode cL_law 653 = .ok (.aload_n 2, 1) := by decide +kernel
theorem dL_law_654 : decode cL_law 654 = .ok (.aload_n 0, 1) := by decide +kernel
theorem dL_law_655 : decode cL_law 655 = .ok (.iload_n 3, 1) := by decide +kernel
theorem dL_law_656 : decode cL_law 656 = .ok (.iconst 1, 1) := by decide +kernel
theorem dL_law_657 : decode cL_law 657 = .ok (.iadd, 1) := by decide +kernel
theorem dL_law_658 : decode cL_law 658 = .ok (.iaload, 1) := by decide +kernel
theorem dL_law_659 : decode cL_law 659 = .ok (.aload_n 0, 1) := by decide +kernel
theorem dL_law_660 : decode cL_law 660 = .ok (.iload_n 3, 1) := by decide +kernel
theorem dL_law_661 : decode cL_law 661 = .ok (.iconst 2, 1) := by decide +kernel
theorem dL_law_662 : decode cL_law 662 = .ok (.iadd, 1) := by decide +kernel
theorem dL_law_663 : decode cL_law 663 = .ok (.iaload, 1) := by decide +kernel
theorem dL_law_664 : decode cL_law 664 = .ok (.aload_n 0, 1) := by decide +kernel
theorem dL_law_665 : decode cL_law 665 = .ok (.iload_n 3, 1) := by decide +kernel
theorem dL_law_666 : decode cL_law 666 = .ok (.iconst 3, 1) := by decide +kernel
theorem dL_law_667 : decode cL_law 667 = .ok (.iadd, 1) := by decide +kernel
theorem dL_law_668 : decode cL_law 668 = .ok (.iaload, 1) := by decide +kernel
theorem dL_law_669 : decode cL_law 669 = .ok (.invokevirtual 68, 3) := by decide +kernel
theorem dL_law_672 : decode cL_law 672 = .ok (.if_icmp .eq 382, 3) := by decide +kernel
theorem dL_law_675 : decode cL_law 675 = .ok (.iconst 0, 1) := by decide +kernel
theorem dL_law_676 : decode cL_law 676 = .ok (.ireturn, 1) := by decide +kernel
theorem dL_law_677 : decode cL_law 677 = .ok (.aload_n 1, 1) := by decide +kernel
theorem dL_law_678 : decode cL_law 678 = .ok (.aload_n 0, 1) := by decide +kernel
theorem dL_law_679 : decode cL_law 679 = .ok (.iload_n 3, 1) := by decide +kernel
theorem dL_law_680 : decode cL_law 680 = .ok (.iconst 1, 1) := by decide +kernel
theorem dL_law_681 : decode cL_law 681 = .ok (.iadd, 1) := by decide +kernel
theorem dL_law_682 : decode cL_law 682 = .ok (.iaload, 1) := by decide +kernel
theorem dL_law_683 : decode cL_law 683 = .ok (.aload_n 0, 1) := by decide +kernel
theorem dL_law_684 : decode cL_law 684 = .ok (.iload_n 3, 1) := by decide +kernel
theorem dL_law_685 : decode cL_law 685 = .ok (.iconst 2, 1) := by decide +kernel
theorem dL_law_686 : decode cL_law 686 = .ok (.iadd, 1) := by decide +kernel
theorem dL_law_687 : decode cL_law 687 = .ok (.iaload, 1) := by decide +kernel
theorem dL_law_688 : decode cL_law 688 = .ok (.aload_n 0, 1) := by decide +kernel
theorem dL_law_689 : decode cL_law 689 = .ok (.iload_n 3, 1) := by decide +kernel
theorem dL_law_690 : decode cL_law 690 = .ok (.iconst 3, 1) := by decide +kernel
theorem dL_law_691 : decode cL_law 691 = .ok (.iadd, 1) := by decide +kernel
theorem dL_law_692 : decode cL_law 692 = .ok (.iaload, 1) := by decide +kernel
theorem dL_law_693 : decode cL_law 693 = .ok (.aload_n 0, 1) := by decide +kernel
theorem dL_law_694 : decode cL_law 694 = .ok (.iload_n 3, 1) := by decide +kernel
theorem dL_law_695 : decode cL_law 695 = .ok (.iconst 4, 1) := by decide +kernel
theorem dL_law_696 : decode cL_law 696 = .ok (.iadd, 1) := by decide +kernel
theorem dL_law_697 : decode cL_law 697 = .ok (.iaload, 1) := by decide +kernel
theorem dL_law_698 : decode cL_law 698 = .ok (.invokevirtual 69, 3) := by decide +kernel
theorem dL_law_701 : decode cL_law 701 = .ok (.aload_n 2, 1) := by decide +kernel
theorem dL_law_702 : decode cL_law 702 = .ok (.aload_n 0, 1) := by decide +kernel
theorem dL_law_703 : decode cL_law 703 = .ok (.iload_n 3, 1) := by decide +kernel
theorem dL_law_704 : decode cL_law 704 = .ok (.iconst 1, 1) := by decide +kernel
theorem dL_law_705 : decode cL_law 705 = .ok (.iadd, 1) := by decide +kernel
theorem dL_law_706 : decode cL_law 706 = .ok (.iaload, 1) := by decide +kernel
theorem dL_law_707 : decode cL_law 707 = .ok (.aload_n 0, 1) := by decide +kernel
theorem dL_law_708 : decode cL_law 708 = .ok (.iload_n 3, 1) := by decide +kernel
theorem dL_law_709 : decode cL_law 709 = .ok (.iconst 2, 1) := by decide +kernel
theorem dL_law_710 : decode cL_law 710 = .ok (.iadd, 1) := by decide +kernel
theorem dL_law_711 : decode cL_law 711 = .ok (.iaload, 1) := by decide +kernel
theorem dL_law_712 : decode cL_law 712 = .ok (.aload_n 0, 1) := by decide +kernel
theorem dL_law_713 : decode cL_law 713 = .ok (.iload_n 3, 1) := by decide +kernel
theorem dL_law_714 : decode cL_law 714 = .ok (.iconst 3, 1) := by decide +kernel
theorem dL_law_715 : decode cL_law 715 = .ok (.iadd, 1) := by decide +kernel
theorem dL_law_716 : decode cL_law 716 = .ok (.iaload, 1) := by decide +kernel
theorem dL_law_717 : decode cL_law 717 = .ok (.aload_n 0, 1) := by decide +kernel
theorem dL_law_718 : decode cL_law 718 = .ok (.iload_n 3, 1) := by decide +kernel
theorem dL_law_719 : decode cL_law 719 = .ok (.iconst 4, 1) := by decide +kernel
theorem dL_law_720 : decode cL_law 720 = .ok (.iadd, 1) := by decide +kernel
theorem dL_law_721 : decode cL_law 721 = .ok (.iaload, 1) := by decide +kernel
theorem dL_law_722 : decode cL_law 722 = .ok (.invokevirtual 73, 3) := by decide +kernel
theorem dL_law_725 : decode cL_law 725 = .ok (.if_icmp .eq 329, 3) := by decide +kernel
theorem dL_law_728 : decode cL_law 728 = .ok (.iconst 0, 1) := by decide +kernel
theorem dL_law_729 : decode cL_law 729 = .ok (.ireturn, 1) := by decide +kernel
theorem dL_law_730 : decode cL_law 730 = .ok (.aload_n 1, 1) := by decide +kernel
theorem dL_law_731 : decode cL_law 731 = .ok (.aload_n 0, 1) := by decide +kernel
theorem dL_law_732 : decode cL_law 732 = .ok (.iload_n 3, 1) := by decide +kernel
theorem dL_law_733 : decode cL_law 733 = .ok (.iconst 1, 1) := by decide +kernel
theorem dL_law_734 : decode cL_law 734 = .ok (.iadd, 1) := by decide +kernel
theorem dL_law_735 : decode cL_law 735 = .ok (.iaload, 1) := by decide +kernel
theorem dL_law_736 : decode cL_law 736 = .ok (.invokevirtual 74, 3) := by decide +kernel
theorem dL_law_739 : decode cL_law 739 = .ok (.aload_n 2, 1) := by decide +kernel
theorem dL_law_740 : decode cL_law 740 = .ok (.aload_n 0, 1) := by decide +kernel
theorem dL_law_741 : decode cL_law 741 = .ok (.iload_n 3, 1) := by decide +kernel
theorem dL_law_742 : decode cL_law 742 = .ok (.iconst 1, 1) := by decide +kernel
theorem dL_law_743 : decode cL_law 743 = .ok (.iadd, 1) := by decide +kernel
theorem dL_law_744 : decode cL_law 744 = .ok (.iaload, 1) := by decide +kernel
theorem dL_law_745 : decode cL_law 745 = .ok (.invokevirtual 77, 3) := by decide +kernel
theorem dL_law_748 : decode cL_law 748 = .ok (.if_icmp .eq 306, 3) := by decide +kernel
theorem dL_law_751 : decode cL_law 751 = .ok (.iconst 0, 1) := by decide +kernel
theorem dL_law_752 : decode cL_law 752 = .ok (.ireturn, 1) := by decide +kernel
theorem dL_law_753 : decode cL_law 753 = .ok (.aload_n 1, 1) := by decide +kernel
theorem dL_law_754 : decode cL_law 754 = .ok (.aload_n 0, 1) := by decide +kernel
theorem dL_law_755 : decode cL_law 755 = .ok (.iload_n 3, 1) := by decide +kernel
theorem dL_law_756 : decode cL_law 756 = .ok (.iconst 1, 1) := by decide +kernel
theorem dL_law_757 : decode cL_law 757 = .ok (.iadd, 1) := by decide +kernel
theorem dL_law_758 : decode cL_law 758 = .ok (.iaload, 1) := by decide +kernel
theorem dL_law_759 : decode cL_law 759 = .ok (.aload_n 0, 1) := by decide +kernel
theorem dL_law_760 : decode cL_law 760 = .ok (.iload_n 3, 1) := by decide +kernel
theorem dL_law_761 : decode cL_law 761 = .ok (.iconst 2, 1) := by decide +kernel
theorem dL_law_762 : decode cL_law 762 = .ok (.iadd, 1) := by decide +kernel
theorem dL_law_763 : decode cL_law 763 = .ok (.iaload, 1) := by decide +kernel
theorem dL_law_764 : decode cL_law 764 = .ok (.aload_n 0, 1) := by decide +kernel
theorem dL_law_765 : decode cL_law 765 = .ok (.iload_n 3, 1) := by decide +kernel
theorem dL_law_766 : decode cL_law 766 = .ok (.iconst 3, 1) := by decide +kernel
theorem dL_law_767 : decode cL_law 767 = .ok (.iadd, 1) := by decide +kernel
theorem dL_law_768 : decode cL_law 768 = .ok (.iaload, 1) := by decide +kernel
theorem dL_law_769 : decode cL_law 769 = .ok (.aload_n 0, 1) := by decide +kernel
theorem dL_law_770 : decode cL_law 770 = .ok (.iload_n 3, 1) := by decide +kernel
theorem dL_law_771 : decode cL_law 771 = .ok (.iconst 4, 1) := by decide +kernel
theorem dL_law_772 : decode cL_law 772 = .ok (.iadd, 1) := by decide +kernel
theorem dL_law_773 : decode cL_law 773 = .ok (.iaload, 1) := by decide +kernel
theorem dL_law_774 : decode cL_law 774 = .ok (.aload_n 0, 1) := by decide +kernel
theorem dL_law_775 : decode cL_law 775 = .ok (.iload_n 3, 1) := by decide +kernel
theorem dL_law_776 : decode cL_law 776 = .ok (.iconst 5, 1) := by decide +kernel
theorem dL_law_777 : decode cL_law 777 = .ok (.iadd, 1) := by decide +kernel
theorem dL_law_778 : decode cL_law 778 = .ok (.iaload, 1) := by decide +kernel
theorem dL_law_779 : decode cL_law 779 = .ok (.invokevirtual 78, 3) := by decide +kernel
theorem dL_law_782 : decode cL_law 782 = .ok (.aload_n 2, 1) := by decide +kernel
theorem dL_law_783 : decode cL_law 783 = .ok (.aload_n 0, 1) := by decide +kernel
theorem dL_law_784 : decode cL_law 784 = .ok (.iload_n 3, 1) := by decide +kernel
theorem dL_law_785 : decode cL_law 785 = .ok (.iconst 1, 1) := by decide +kernel
theorem dL_law_786 : decode cL_law 786 = .ok (.iadd, 1) := by decide +kernel
theorem dL_law_787 : decode cL_law 787 = .ok (.iaload, 1) := by decide +kernel
theorem dL_law_788 : decode cL_law 788 = .ok (.aload_n 0, 1) := by decide +kernel
theorem dL_law_789 : decode cL_law 789 = .ok (.iload_n 3, 1) := by decide +kernel
theorem dL_law_790 : decode cL_law 790 = .ok (.iconst 2, 1) := by decide +kernel
theorem dL_law_791 : decode cL_law 791 = .ok (.iadd, 1) := by decide +kernel
theorem dL_law_792 : decode cL_law 792 = .ok (.iaload, 1) := by decide +kernel
theorem dL_law_793 : decode cL_law 793 = .ok (.aload_n 0, 1) := by decide +kernel
theorem dL_law_794 : decode cL_law 794 = .ok (.iload_n 3, 1) := by decide +kernel
theorem dL_law_795 : decode cL_law 795 = .ok (.iconst 3, 1) := by decide +kernel
theorem dL_law_796 : decode cL_law 796 = .ok (.iadd, 1) := by decide +kernel
theorem dL_law_797 : decode cL_law 797 = .ok (.iaload, 1) := by decide +kernel
theorem dL_law_798 : decode cL_law 798 = .ok (.aload_n 0, 1) := by decide +kernel
theorem dL_law_799 : decode cL_law 799 = .ok (.iload_n 3, 1) := by decide +kernel
theorem dL_law_800 : decode cL_law 800 = .ok (.iconst 4, 1) := by decide +kernel
theorem dL_law_801 : decode cL_law 801 = .ok (.iadd, 1) := by decide +kernel
theorem dL_law_802 : decode cL_law 802 = .ok (.iaload, 1) := by decide +kernel
theorem dL_law_803 : decode cL_law 803 = .ok (.aload_n 0, 1) := by decide +kernel
theorem dL_law_804 : decode cL_law 804 = .ok (.iload_n 3, 1) := by decide +kernel
theorem dL_law_805 : decode cL_law 805 = .ok (.iconst 5, 1) := by decide +kernel
theorem dL_law_806 : decode cL_law 806 = .ok (.iadd, 1) := by decide +kernel
theorem dL_law_807 : decode cL_law 807 = .ok (.iaload, 1) := by decide +kernel
theorem dL_law_808 : decode cL_law 808 = .ok (.invokevirtual 81, 3) := by decide +kernel
theorem dL_law_811 : decode cL_law 811 = .ok (.if_icmp .eq 243, 3) := by decide +kernel
theorem dL_law_814 : decode cL_law 814 = .ok (.iconst 0, 1) := by decide +kernel
theorem dL_law_815 : decode cL_law 815 = .ok (.ireturn, 1) := by decide +kernel
theorem dL_law_816 : decode cL_law 816 = .ok (.aload_n 1, 1) := by decide +kernel
theorem dL_law_817 : decode cL_law 817 = .ok (.aload_n 0, 1) := by decide +kernel
theorem dL_law_818 : decode cL_law 818 = .ok (.iload_n 3, 1) := by decide +kernel
theorem dL_law_819 : decode cL_law 819 = .ok (.iconst 1, 1) := by decide +kernel
theorem dL_law_820 : decode cL_law 820 = .ok (.iadd, 1) := by decide +kernel
theorem dL_law_821 : decode cL_law 821 = .ok (.iaload, 1) := by decide +kernel
theorem dL_law_822 : decode cL_law 822 = .ok (.invokevirtual 82, 3) := by decide +kernel
theorem dL_law_825 : decode cL_law 825 = .ok (.aload_n 2, 1) := by decide +kernel
theorem dL_law_826 : decode cL_law 826 = .ok (.aload_n 0, 1) := by decide +kernel
theorem dL_law_827 : decode cL_law 827 = .ok (.iload_n 3, 1) := by decide +kernel
theorem dL_law_828 : decode cL_law 828 = .ok (.iconst 1, 1) := by decide +kernel
theorem dL_law_829 : decode cL_law 829 = .ok (.iadd, 1) := by decide +kernel
theorem dL_law_830 : decode cL_law 830 = .ok (.iaload, 1) := by decide +kernel
theorem dL_law_831 : decode cL_law 831 = .ok (.invokevirtual 85, 3) := by decide +kernel
theorem dL_law_834 : decode cL_law 834 = .ok (.if_icmp .eq 220, 3) := by decide +kernel
theorem dL_law_837 : decode cL_law 837 = .ok (.iconst 0, 1) := by decide +kernel
theorem dL_law_838 : decode cL_law 838 = .ok (.ireturn, 1) := by decide +kernel
theorem dL_law_839 : decode cL_law 839 = .ok (.aload_n 1, 1) := by decide +kernel
theorem dL_law_840 : decode cL_law 840 = .ok (.aload_n 0, 1) := by decide +kernel
theorem dL_law_841 : decode cL_law 841 = .ok (.iload_n 3, 1) := by decide +kernel
theorem dL_law_842 : decode cL_law 842 = .ok (.iconst 1, 1) := by decide +kernel
theorem dL_law_843 : decode cL_law 843 = .ok (.iadd, 1) := by decide +kernel
theorem dL_law_844 : decode cL_law 844 = .ok (.iaload, 1) := by decide +kernel
theorem dL_law_845 : decode cL_law 845 = .ok (.invokevirtual 86, 3) := by decide +kernel
theorem dL_law_848 : decode cL_law 848 = .ok (.aload_n 2, 1) := by decide +kernel
theorem dL_law_849 : decode cL_law 849 = .ok (.aload_n 0, 1) := by decide +kernel
theorem dL_law_850 : decode cL_law 850 = .ok (.iload_n 3, 1) := by decide +kernel
theorem dL_law_851 : decode cL_law 851 = .ok (.iconst 1, 1) := by decide +kernel
theorem dL_law_852 : decode cL_law 852 = .ok (.iadd, 1) := by decide +kernel
theorem dL_law_853 : decode cL_law 853 = .ok (.iaload, 1) := by decide +kernel
theorem dL_law_854 : decode cL_law 854 = .ok (.invokevirtual 89, 3) := by decide +kernel
theorem dL_law_857 : decode cL_law 857 = .ok (.if_icmp .eq 197, 3) := by decide +kernel
theorem dL_law_860 : decode cL_law 860 = .ok (.iconst 0, 1) := by decide +kernel
theorem dL_law_861 : decode cL_law 861 = .ok (.ireturn, 1) := by decide +kernel
theorem dL_law_862 : decode cL_law 862 = .ok (.aload_n 1, 1) := by decide +kernel
theorem dL_law_863 : decode cL_law 863 = .ok (.aload_n 0, 1) := by decide +kernel
theorem dL_law_864 : decode cL_law 864 = .ok (.iload_n 3, 1) := by decide +kernel
theorem dL_law_865 : decode cL_law 865 = .ok (.iconst 1, 1) := by decide +kernel
theorem dL_law_866 : decode cL_law 866 = .ok (.iadd, 1) := by decide +kernel
theorem dL_law_867 : decode cL_law 867 = .ok (.iaload, 1) := by decide +kernel
theorem dL_law_868 : decode cL_law 868 = .ok (.aload_n 0, 1) := by decide +kernel
theorem dL_law_869 : decode cL_law 869 = .ok (.iload_n 3, 1) := by decide +kernel
theorem dL_law_870 : decode cL_law 870 = .ok (.iconst 2, 1) := by decide +kernel
theorem dL_law_871 : decode cL_law 871 = .ok (.iadd, 1) := by decide +kernel
theorem dL_law_872 : decode cL_law 872 = .ok (.iaload, 1) := by decide +kernel
theorem dL_law_873 : decode cL_law 873 = .ok (.aload_n 0, 1) := by decide +kernel
theorem dL_law_874 : decode cL_law 874 = .ok (.iload_n 3, 1) := by decide +kernel
theorem dL_law_875 : decode cL_law 875 = .ok (.iconst 3, 1) := by decide +kernel
theorem dL_law_876 : decode cL_law 876 = .ok (.iadd, 1) := by decide +kernel
theorem dL_law_877 : decode cL_law 877 = .ok (.iaload, 1) := by decide +kernel
theorem dL_law_878 : decode cL_law 878 = .ok (.invokevirtual 90, 3) := by decide +kernel
theorem dL_law_881 : decode cL_law 881 = .ok (.aload_n 2, 1) := by decide +kernel
theorem dL_law_882 : decode cL_law 882 = .ok (.aload_n 0, 1) := by decide +kernel
theorem dL_law_883 : decode cL_law 883 = .ok (.iload_n 3, 1) := by decide +kernel
theorem dL_law_884 : decode cL_law 884 = .ok (.iconst 1, 1) := by decide +kernel
theorem dL_law_885 : decode cL_law 885 = .ok (.iadd, 1) := by decide +kernel
theorem dL_law_886 : decode cL_law 886 = .ok (.iaload, 1) := by decide +kernel
theorem dL_law_887 : decode cL_law 887 = .ok (.aload_n 0, 1) := by decide +kernel
theorem dL_law_888 : decode cL_law 888 = .ok (.iload_n 3, 1) := by decide +kernel
theorem dL_law_889 : decode cL_law 889 = .ok (.iconst 2, 1) := by decide +kernel
theorem dL_law_890 : decode cL_law 890 = .ok (.iadd, 1) := by decide +kernel
theorem dL_law_891 : decode cL_law 891 = .ok (.iaload, 1) := by decide +kernel
theorem dL_law_892 : decode cL_law 892 = .ok (.aload_n 0, 1) := by decide +kernel
theorem dL_law_893 : decode cL_law 893 = .ok (.iload_n 3, 1) := by decide +kernel
theorem dL_law_894 : decode cL_law 894 = .ok (.iconst 3, 1) := by decide +kernel
theorem dL_law_895 : decode cL_law 895 = .ok (.iadd, 1) := by decide +kernel
theorem dL_law_896 : decode cL_law 896 = .ok (.iaload, 1) := by decide +kernel
theorem dL_law_897 : decode cL_law 897 = .ok (.invokevirtual 94, 3) := by decide +kernel
theorem dL_law_900 : decode cL_law 900 = .ok (.lcmp, 1) := by decide +kernel
theorem dL_law_901 : decode cL_law 901 = .ok (.ifCond .eq 153, 3) := by decide +kernel
theorem dL_law_904 : decode cL_law 904 = .ok (.iconst 0, 1) := by decide +kernel
theorem dL_law_905 : decode cL_law 905 = .ok (.ireturn, 1) := by decide +kernel
theorem dL_law_906 : decode cL_law 906 = .ok (.aload_n 1, 1) := by decide +kernel
theorem dL_law_907 : decode cL_law 907 = .ok (.aload_n 0, 1) := by decide +kernel
theorem dL_law_908 : decode cL_law 908 = .ok (.iload_n 3, 1) := by decide +kernel
theorem dL_law_909 : decode cL_law 909 = .ok (.iconst 1, 1) := by decide +kernel
theorem dL_law_910 : decode cL_law 910 = .ok (.iadd, 1) := by decide +kernel
theorem dL_law_911 : decode cL_law 911 = .ok (.iaload, 1) := by decide +kernel
theorem dL_law_912 : decode cL_law 912 = .ok (.invokevirtual 95, 3) := by decide +kernel
theorem dL_law_915 : decode cL_law 915 = .ok (.aload_n 2, 1) := by decide +kernel
theorem dL_law_916 : decode cL_law 916 = .ok (.aload_n 0, 1) := by decide +kernel
theorem dL_law_917 : decode cL_law 917 = .ok (.iload_n 3, 1) := by decide +kernel
theorem dL_law_918 : decode cL_law 918 = .ok (.iconst 1, 1) := by decide +kernel
theorem dL_law_919 : decode cL_law 919 = .ok (.iadd, 1) := by decide +kernel
theorem dL_law_920 : decode cL_law 920 = .ok (.iaload, 1) := by decide +kernel
theorem dL_law_921 : decode cL_law 921 = .ok (.invokevirtual 98, 3) := by decide +kernel
theorem dL_law_924 : decode cL_law 924 = .ok (.if_icmp .eq 130, 3) := by decide +kernel
theorem dL_law_927 : decode cL_law 927 = .ok (.iconst 0, 1) := by decide +kernel
theorem dL_law_928 : decode cL_law 928 = .ok (.ireturn, 1) := by decide +kernel
theorem dL_law_929 : decode cL_law 929 = .ok (.aload_n 1, 1) := by decide +kernel
theorem dL_law_930 : decode cL_law 930 = .ok (.aload_n 0, 1) := by decide +kernel
theorem dL_law_931 : decode cL_law 931 = .ok (.iload_n 3, 1) := by decide +kernel
theorem dL_law_932 : decode cL_law 932 = .ok (.iconst 1, 1) := by decide +kernel
theorem dL_law_933 : decode cL_law 933 = .ok (.iadd, 1) := by decide +kernel
theorem dL_law_934 : decode cL_law 934 = .ok (.iaload, 1) := by decide +kernel
theorem dL_law_935 : decode cL_law 935 = .ok (.aload_n 0, 1) := by decide +kernel
theorem dL_law_936 : decode cL_law 936 = .ok (.iload_n 3, 1) := by decide +kernel
theorem dL_law_937 : decode cL_law 937 = .ok (.iconst 2, 1) := by decide +kernel
theorem dL_law_938 : decode cL_law 938 = .ok (.iadd, 1) := by decide +kernel
theorem dL_law_939 : decode cL_law 939 = .ok (.iaload, 1) := by decide +kernel
theorem dL_law_940 : decode cL_law 940 = .ok (.invokevirtual 99, 3) := by decide +kernel
theorem dL_law_943 : decode cL_law 943 = .ok (.aload_n 2, 1) := by decide +kernel
theorem dL_law_944 : decode cL_law 944 = .ok (.aload_n 0, 1) := by decide +kernel
theorem dL_law_945 : decode cL_law 945 = .ok (.iload_n 3, 1) := by decide +kernel
theorem dL_law_946 : decode cL_law 946 = .ok (.iconst 1, 1) := by decide +kernel
theorem dL_law_947 : decode cL_law 947 = .ok (.iadd, 1) := by decide +kernel
theorem dL_law_948 : decode cL_law 948 = .ok (.iaload, 1) := by decide +kernel
theorem dL_law_949 : decode cL_law 949 = .ok (.aload_n 0, 1) := by decide +kernel
theorem dL_law_950 : decode cL_law 950 = .ok (.iload_n 3, 1) := by decide +kernel
theorem dL_law_951 : decode cL_law 951 = .ok (.iconst 2, 1) := by decide +kernel
theorem dL_law_952 : decode cL_law 952 = .ok (.iadd, 1) := by decide +kernel
theorem dL_law_953 : decode cL_law 953 = .ok (.iaload, 1) := by decide +kernel
theorem dL_law_954 : decode cL_law 954 = .ok (.invokevirtual 102, 3) := by decide +kernel
theorem dL_law_957 : decode cL_law 957 = .ok (.if_icmp .eq 97, 3) := by decide +kernel
theorem dL_law_960 : decode cL_law 960 = .ok (.iconst 0, 1) := by decide +kernel
theorem dL_law_961 : decode cL_law 961 = .ok (.ireturn, 1) := by decide +kernel
theorem dL_law_962 : decode cL_law 962 = .ok (.aload_n 1, 1) := by decide +kernel
theorem dL_law_963 : decode cL_law 963 = .ok (.aload_n 0, 1) := by decide +kernel
theorem dL_law_964 : decode cL_law 964 = .ok (.iload_n 3, 1) := by decide +kernel
theorem dL_law_965 : decode cL_law 965 = .ok (.iconst 1, 1) := by decide +kernel
theorem dL_law_966 : decode cL_law 966 = .ok (.iadd, 1) := by decide +kernel
theorem dL_law_967 : decode cL_law 967 = .ok (.iaload, 1) := by decide +kernel
theorem dL_law_968 : decode cL_law 968 = .ok (.aload_n 0, 1) := by decide +kernel
theorem dL_law_969 : decode cL_law 969 = .ok (.iload_n 3, 1) := by decide +kernel
theorem dL_law_970 : decode cL_law 970 = .ok (.iconst 2, 1) := by decide +kernel
theorem dL_law_971 : decode cL_law 971 = .ok (.iadd, 1) := by decide +kernel
theorem dL_law_972 : decode cL_law 972 = .ok (.iaload, 1) := by decide +kernel
theorem dL_law_973 : decode cL_law 973 = .ok (.invokevirtual 103, 3) := by decide +kernel
theorem dL_law_976 : decode cL_law 976 = .ok (.aload_n 2, 1) := by decide +kernel
theorem dL_law_977 : decode cL_law 977 = .ok (.aload_n 0, 1) := by decide +kernel
theorem dL_law_978 : decode cL_law 978 = .ok (.iload_n 3, 1) := by decide +kernel
theorem dL_law_979 : decode cL_law 979 = .ok (.iconst 1, 1) := by decide +kernel
theorem dL_law_980 : decode cL_law 980 = .ok (.iadd, 1) := by decide +kernel
theorem dL_law_981 : decode cL_law 981 = .ok (.iaload, 1) := by decide +kernel
theorem dL_law_982 : decode cL_law 982 = .ok (.aload_n 0, 1) := by decide +kernel
theorem dL_law_983 : decode cL_law 983 = .ok (.iload_n 3, 1) := by decide +kernel
theorem dL_law_984 : decode cL_law 984 = .ok (.iconst 2, 1) := by decide +kernel
theorem dL_law_985 : decode cL_law 985 = .ok (.iadd, 1) := by decide +kernel
theorem dL_law_986 : decode cL_law 986 = .ok (.iaload, 1) := by decide +kernel
theorem dL_law_987 : decode cL_law 987 = .ok (.invokevirtual 106, 3) := by decide +kernel
theorem dL_law_990 : decode cL_law 990 = .ok (.if_icmp .eq 64, 3) := by decide +kernel
theorem dL_law_993 : decode cL_law 993 = .ok (.iconst 0, 1) := by decide +kernel
theorem dL_law_994 : decode cL_law 994 = .ok (.ireturn, 1) := by decide +kernel
theorem dL_law_995 : decode cL_law 995 = .ok (.aload_n 1, 1) := by decide +kernel
theorem dL_law_996 : decode cL_law 996 = .ok (.aload_n 0, 1) := by decide +kernel
theorem dL_law_997 : decode cL_law 997 = .ok (.iload_n 3, 1) := by decide +kernel
theorem dL_law_998 : decode cL_law 998 = .ok (.iconst 1, 1) := by decide +kernel
theorem dL_law_999 : decode cL_law 999 = .ok (.iadd, 1) := by decide +kernel
theorem dL_law_1000 : decode cL_law 1000 = .ok (.iaload, 1) := by decide +kernel
theorem dL_law_1001 : decode cL_law 1001 = .ok (.invokevirtual 107, 3) := by decide +kernel
theorem dL_law_1004 : decode cL_law 1004 = .ok (.aload_n 2, 1) := by decide +kernel
theorem dL_law_1005 : decode cL_law 1005 = .ok (.aload_n 0, 1) := by decide +kernel
theorem dL_law_1006 : decode cL_law 1006 = .ok (.iload_n 3, 1) := by decide +kernel
theorem dL_law_1007 : decode cL_law 1007 = .ok (.iconst 1, 1) := by decide +kernel
theorem dL_law_1008 : decode cL_law 1008 = .ok (.iadd, 1) := by decide +kernel
theorem dL_law_1009 : decode cL_law 1009 = .ok (.iaload, 1) := by decide +kernel
theorem dL_law_1010 : decode cL_law 1010 = .ok (.invokevirtual 110, 3) := by decide +kernel
theorem dL_law_1013 : decode cL_law 1013 = .ok (.if_icmp .eq 41, 3) := by decide +kernel
theorem dL_law_1016 : decode cL_law 1016 = .ok (.iconst 0, 1) := by decide +kernel
theorem dL_law_1017 : decode cL_law 1017 = .ok (.ireturn, 1) := by decide +kernel
theorem dL_law_1018 : decode cL_law 1018 = .ok (.aload_n 1, 1) := by decide +kernel
theorem dL_law_1019 : decode cL_law 1019 = .ok (.aload_n 0, 1) := by decide +kernel
theorem dL_law_1020 : decode cL_law 1020 = .ok (.iload_n 3, 1) := by decide +kernel
theorem dL_law_1021 : decode cL_law 1021 = .ok (.iconst 1, 1) := by decide +kernel
theorem dL_law_1022 : decode cL_law 1022 = .ok (.iadd, 1) := by decide +kernel
theorem dL_law_1023 : decode cL_law 1023 = .ok (.iaload, 1) := by decide +kernel
theorem dL_law_1024 : decode cL_law 1024 = .ok (.invokevirtual 111, 3) := by decide +kernel
theorem dL_law_1027 : decode cL_law 1027 = .ok (.aload_n 2, 1) := by decide +kernel
theorem dL_law_1028 : decode cL_law 1028 = .ok (.aload_n 0, 1) := by decide +kernel
theorem dL_law_1029 : decode cL_law 1029 = .ok (.iload_n 3, 1) := by decide +kernel
theorem dL_law_1030 : decode cL_law 1030 = .ok (.iconst 1, 1) := by decide +kernel
theorem dL_law_1031 : decode cL_law 1031 = .ok (.iadd, 1) := by decide +kernel
theorem dL_law_1032 : decode cL_law 1032 = .ok (.iaload, 1) := by decide +kernel
theorem dL_law_1033 : decode cL_law 1033 = .ok (.invokevirtual 114, 3) := by decide +kernel
theorem dL_law_1036 : decode cL_law 1036 = .ok (.if_icmp .eq 18, 3) := by decide +kernel
theorem dL_law_1039 : decode cL_law 1039 = .ok (.iconst 0, 1) := by decide +kernel
theorem dL_law_1040 : decode cL_law 1040 = .ok (.ireturn, 1) := by decide +kernel
theorem dL_law_1041 : decode cL_law 1041 = .ok (.aload_n 1, 1) := by decide +kernel
theorem dL_law_1042 : decode cL_law 1042 = .ok (.invokevirtual 115, 3) := by decide +kernel
theorem dL_law_1045 : decode cL_law 1045 = .ok (.aload_n 2, 1) := by decide +kernel
theorem dL_law_1046 : decode cL_law 1046 = .ok (.invokevirtual 119, 3) := by decide +kernel
theorem dL_law_1049 : decode cL_law 1049 = .ok (.if_icmp .eq 5, 3) := by decide +kernel
theorem dL_law_1052 : decode cL_law 1052 = .ok (.iconst 0, 1) := by decide +kernel
theorem dL_law_1053 : decode cL_law 1053 = .ok (.ireturn, 1) := by decide +kernel
theorem dL_law_1054 : decode cL_law 1054 = .ok (.iinc 3 6, 3) := by decide +kernel
theorem dL_law_1057 : decode cL_law 1057 = .ok (.goto (-1039), 3) := by decide +kernel
theorem dL_law_1060 : decode cL_law 1060 = .ok (.iconst 1, 1) := by decide +kernel
theorem dL_law_1061 : decode cL_law 1061 = .ok (.ireturn, 1) := by decide +kernel
end
section
/-! A flat picture of the whole world. Objects are told by their numbers, in the order in which they are made; each has a row of Int32: an int, a boolean, or a reference (the number of the object, a number below 0 for null). The object of number o lies at the address b + o. -/
abbrev zV : Type := (Int32 ⊕ Int32) ⊕ Int64
abbrev zi (x : Int32) : zV := Sum.inl (Sum.inl x)
abbrev zr (x : Int32) : zV := Sum.inl (Sum.inr x)
abbrev zl (x : Int64) : zV := Sum.inr x
def zw (b : Nat) (x : Int32) : Value := if x < 0 then .null else .ref (b + x.toNatClampNeg)
def zv (b : Nat) (v : zV) : Value := match v with
  | .inl (.inl x) => .int x
  | .inl (.inr x) => zw b x
  | .inr x => .long x
def zlong (v : zV) : Bool := match v with
  | .inl _ => false
  | .inr _ => true
theorem zw_cat (b : Nat) (x : Int32) : (zw b x).category = 1 := by
  unfold zw
  split <;> rfl
theorem zv_cat (b : Nat) (v : zV) : (zv b v).category = if zlong v = true then 2 else 1 := by
  rcases v with (x | x) | x
  · rfl
  · exact zw_cat b x
  · rfl
theorem zw_null {b : Nat} {x : Int32} (h : x < 0) : zw b x = .null := if_pos h
theorem zw_ref {b : Nat} {x : Int32} (h : ¬ x < 0) : zw b x = .ref (b + x.toNatClampNeg) := if_neg h
abbrev zM : Type := Nat → Nat → Int32
def zup (S : zM) (o k : Nat) (v : Int32) : zM := fun a j => if a = o ∧ j = k then v else S a j
theorem zup_row {S : zM} {o k : Nat} {v : Int32} : zup S o k v o = fun j => if j = k then v else S o j := by
  funext j
  simp [zup]
theorem zup_ne {S : zM} {o k a : Nat} {v : Int32} (h : a ≠ o) : zup S o k v a = S a := by
  funext j
  simp [zup, h]
/-- the kind and the length of each object: 0 int[], 1 boolean[], 2 Sheet[], 3 Version[], 4 Device[], 5 int[][]; 10 and the place in zcl -/
def zKL : List (Nat × Nat) := [(17, 0), (2, 8), (3, 10), (15, 0), (5, 10)] ++ List.replicate 13 (0, 10) ++ [(4, 30), (12, 0), (14, 0), (14, 0), (11, 0), (0, 6), (1, 30), (10, 0), (0, 16)] ++ (List.range 16).map (fun i => if i % 2 = 0 then (13, 0) else (0, 60)) ++ List.replicate 10 (16, 0) ++ (List.range 90).map (fun i => if i % 3 = 0 then (12, 0) else (14, 0)) ++ [(18, 0), (0, 8), (0, 8), (0, 480), (0, 10), (0, 10), (0, 10), (0, 100), (0, 10), (0, 10), (0, 10), (0, 30), (0, 30), (0, 30), (0, 60), (0, 60), (1, 30), (0, 30), (0, 30), (0, 30), (0, 30), (0, 6), (1, 30), (0, 16)]
def zK (o : Nat) : Nat × Nat := zKL.getD o (99, 0)
def zcl : List vw_C := [(RX0, TX0, 2), (RX1, TX1, 10), (RX2, TX2, 11), (RX3, TX3, 4), (RX4, TX4, 2), (RX5, TX5, 5), (RX6, TX6, 4), (RX7, TX7, 11), (RX8, TX8, 38)]
def zN (ci : Nat) : Nat := match ci with
  | 0 => 2
  | 1 => 10
  | 2 => 11
  | 3 => 4
  | 4 => 2
  | 5 => 5
  | 6 => 4
  | 7 => 11
  | _ => 38
def zty (ci : Nat) : Nat → FieldType := match ci with
  | 0 => tyX0
  | 1 => tyX1
  | 2 => tyX2
  | 3 => tyX3
  | 4 => tyX4
  | 5 => tyX5
  | 6 => tyX6
  | 7 => tyX7
  | _ => tyX8
def zfv (t : FieldType) (x : Int32) : zV := match t with
  | .int => zi x
  | .boolean => zi x
  | _ => zr x
def zav (kd : Nat) (x : Int32) : zV := match kd with
  | 0 => zi x
  | 1 => zi x
  | _ => zr x
def zae (kd : Nat) : FieldType := match kd with
  | 0 => .int
  | 1 => .boolean
  | 2 => .object RX3
  | 3 => .object RX6
  | 4 => .object RX2
  | _ => .array .int
def zcell (D : va_G) (tc : Nat → ClassId) (b o : Nat) (r : Nat → Int32) (H : Heap) : Prop :=
  ((zK o).1 < 10 → H[b + o]? = some (arrV (tc (zK o).1) (zK o).2 (fun j => zv b (zav (zK o).1 (r j))))) ∧
  (∀ ci : Nat, (zK o).1 = 10 + ci → t_OB (b + o) (D.1 ci) (zN ci) (D.2 ci) H (fun j => zv b (zfv (zty ci j) (r j))))
theorem zcell.kept {D : va_G} {tc : Nat → ClassId} {b o : Nat} {r : Nat → Int32} {H H1 : Heap} (h : zcell D tc b o r H) (e : H1[b + o]? = H[b + o]?) : zcell D tc b o r H1 :=
  ⟨fun q => e.trans (h.1 q), fun ci q => (h.2 ci q).kept e⟩
def zW (D : va_G) (tc : Nat → ClassId) (b n : Nat) (S : zM) (H : Heap) : Prop := H.size = b + n ∧ ∀ o, o < n → zcell D tc b o (S o) H
def zTys (tc : Nat → ClassId) : List (ClassId × FieldType) := [(tc 0, zae 0), (tc 1, zae 1), (tc 2, zae 2), (tc 3, zae 3), (tc 4, zae 4), (tc 5, zae 5)]
/-- what the tables say of calls within a nest, and of arrays of references: words that do not ride in zT -/
def zX (U : State) : Prop := va_Nw (.methodLinkNest "FleetSlots$Campaign" 60 yX7_isHalting "FleetSlots") U ∧ va_Nw (.methodLinkNest "FleetSlots" 23 yX5_init "FleetSlots") U ∧ va_Nw (.methodLinkNest "FleetSlots$Device" 11 yX4_init "FleetSlots") U ∧ va_Nw (.methodLinkNest "FleetSlots" 43 yX1_init "FleetSlots") U ∧ va_Nw (.methodLinkNest "FleetSlots" 50 yX0_init "FleetSlots") U ∧ va_Nw (.methodLinkNest "FleetSlots" 59 yX3_init "FleetSlots") U ∧ va_AO RX3 U ∧ va_AO RX6 U ∧ va_AO RX2 U ∧ (Cond.arrayOver (.array .int)).before #[] U = true
theorem zX.moved {u U : State} (hW : u.WarmedH U.vm) (h : zX u) : zX U := by
  obtain ⟨h1, h2, h3, h4, h5, h6, h7, h8, h9, h10⟩ := h
  exact ⟨va_Nw.warmM hW h1, va_Nw.warmM hW h2, va_Nw.warmM hW h3, va_Nw.warmM hW h4, va_Nw.warmM hW h5, va_Nw.warmM hW h6, va_AO.moved hW.alike h7, va_AO.moved hW.alike h8, va_AO.moved hW.alike h9, over_moved hW.alike h10⟩
theorem zX.same {u U : State} (hv : u.vm = U.vm) (h : zX u) : zX U := by
  have hal : u.vm.Alike U.vm := hv ▸ Vm.Alike.refl u.vm
  obtain ⟨h1, h2, h3, h4, h5, h6, h7, h8, h9, h10⟩ := h
  exact ⟨va_Nw.same rfl hv h1, va_Nw.same rfl hv h2, va_Nw.same rfl hv h3, va_Nw.same rfl hv h4, va_Nw.same rfl hv h5, va_Nw.same rfl hv h6, va_AO.moved hal h7, va_AO.moved hal h8, va_AO.moved hal h9, over_moved hal h10⟩
def zKK (D : va_G) (tc : Nat → ClassId) (U : State) : Prop := va_K D zcl (zTys tc) U ∧ zX U
theorem zKK.moved {D : va_G} {tc : Nat → ClassId} {u U : State} (hW : u.WarmedH U.vm) (h : zKK D tc u) : zKK D tc U := ⟨va_K.moved hW.alike h.1, zX.moved hW h.2⟩
theorem zKK.ty {D : va_G} {tc : Nat → ClassId} {U : State} (h : zKK D tc U) {kd : Nat} (hk : kd < 6) : ArrOfT U (tc kd) (zae kd) ∧ va_RA U (tc kd) (zae kd) := by
  have e : (zTys tc)[kd]? = some (tc kd, zae kd) := by
    rcases (show kd = 0 ∨ kd = 1 ∨ kd = 2 ∨ kd = 3 ∨ kd = 4 ∨ kd = 5 by omega) with rfl | rfl | rfl | rfl | rfl | rfl <;> rfl
  exact h.1.2 kd _ e
/-- the words of the tables that go from a method to those that it calls -/
def zT : List Cond := lw_tbl.filter goodWord
theorem zT_in {w : Cond} (h : w ∈ lw_tbl) (g : goodWord w = true) : w ∈ zT := List.mem_filter.mpr ⟨h, g⟩
theorem zT_t {w : Cond} (i : Nat) (h : tables_1[i]? = some w) (g : goodWord w = true) : w ∈ zT := zT_in (List.mem_append_right _ (List.mem_of_getElem? h)) g
theorem zT_good {ws : List Cond} (h : ∀ w ∈ ws, w ∈ zT) : GoodIn zT ws := fun w hw => ⟨h w hw, good_of_word (List.mem_filter.mp (h w hw)).2⟩
def zC (p : Program) (m : MethodId) (c : Code) (cc : ByteArray) (nL : Nat) (s : State) (args : Array Value) (own : String) (D : va_G) (tc : Nat → ClassId) : Prop := CallFix p m c cc nL s args zT own ∧ zKK D tc s
abbrev zF (b : Nat) : Nat → Prop := fun q => b ≤ q
def zI (D : va_G) (tc : Nat → ClassId) (b n : Nat) (S : zM) (s : State) (H : Heap) (locs : List Loc) : Prop := zW D tc b n S H ∧ va_S (zF b) s.heap H locs
abbrev zG (b : Nat) (m : MethodId) (pc : Nat) (ls : Array Slot) (st : List zV) : JFrame := F0 m pc ls (st.map (zv b))
abbrev zL (b : Nat) (ls : Array Slot) (nL : Nat) (l : List (Nat × zV)) : Prop := lv_has ls nL (l.map (fun q => (q.1, zv b q.2)))
theorem zL_at {b : Nat} {ls : Array Slot} {nL : Nat} {l : List (Nat × zV)} (h : zL b ls nL l) (k : Nat) {i : Nat} {v : zV} (hk : l[k]? = some (i, v)) : ls[i]? = some (.val (zv b v)) :=
  lv_at h k (by rw [List.getElem?_map, hk]; rfl)
theorem zL_sub {b : Nat} {ls : Array Slot} {nL : Nat} {l l' : List (Nat × zV)} (h : zL b ls nL l) (ks : List Nat) (hl : ks.filterMap (fun k => l[k]?) = l') : zL b ls nL l' := by
  refine ⟨h.1, h.2.1, fun q hq => ?_⟩
  obtain ⟨q0, hq0, rfl⟩ := List.mem_map.mp hq
  rw [← hl] at hq0
  obtain ⟨k, -, hk⟩ := List.mem_filterMap.mp hq0
  exact h.2.2 _ (List.mem_map.mpr ⟨q0, List.mem_of_getElem? hk, rfl⟩)
theorem zst1 (b i : Nat) (v : zV) (l : List (Nat × zV)) : (i, zv b v) :: (l.map (fun q => (q.1, zv b q.2))).filter (fun q => !(q.1 == i) && !(q.1 + 1 == i && q.2.category == 2)) = ((i, v) :: l.filter (fun q => !(q.1 == i) && !(q.1 + 1 == i && zlong q.2))).map (fun q => (q.1, zv b q.2)) := by
  rw [List.map_cons, List.filter_map]
  congr 2
  apply List.filter_congr
  intro q _
  show (!(q.1 == i) && !(q.1 + 1 == i && (zv b q.2).category == 2)) = _
  rw [zv_cat]
  cases zlong q.2 <;> simp
theorem zst2 (b i : Nat) (v : zV) (l : List (Nat × zV)) : (i, zv b v) :: (l.map (fun q => (q.1, zv b q.2))).filter (fun q => !(q.1 == i) && (!(q.1 == i + 1) && !(q.1 + 1 == i && q.2.category == 2))) = ((i, v) :: l.filter (fun q => !(q.1 == i) && (!(q.1 == i + 1) && !(q.1 + 1 == i && zlong q.2)))).map (fun q => (q.1, zv b q.2)) := by
  rw [List.map_cons, List.filter_map]
  congr 2
  apply List.filter_congr
  intro q _
  show (!(q.1 == i) && (!(q.1 == i + 1) && !(q.1 + 1 == i && (zv b q.2).category == 2))) = _
  rw [zv_cat]
  cases zlong q.2 <;> simp
theorem zL_of {b : Nat} {ls : Array Slot} {nL : Nat} {l1 : List (Nat × Value)} {l2 : List (Nat × zV)} (e : l1 = l2.map (fun q => (q.1, zv b q.2))) (h : lv_has ls nL l1) : zL b ls nL l2 := by
  show lv_has ls nL (l2.map (fun q => (q.1, zv b q.2)))
  rw [← e]
  exact h
/-- the locals at a method's begin -/
def zargs : Nat → List zV → List (Nat × zV)
  | _, [] => []
  | i, v :: vs => (i, v) :: zargs (if zlong v = true then i + 2 else i + 1) vs
theorem zargs_eq (b : Nat) : ∀ (vs : List zV) (i : Nat), lv_args i (vs.map (zv b)) = (zargs i vs).map (fun q => (q.1, zv b q.2))
  | [], _ => rfl
  | v :: vs, i => by
    rw [List.map_cons, lv_args, zargs, List.map_cons, zargs_eq b vs, zv_cat]
    cases zlong v <;> rfl
def zlen : List zV → Nat
  | [] => 0
  | v :: vs => (if zlong v = true then 2 else 1) + zlen vs
theorem zlen_eq (b : Nat) : ∀ vs : List zV, (lg_sl (vs.map (zv b))).length = zlen vs
  | [] => rfl
  | v :: vs => by
    have ih := zlen_eq b vs
    unfold lg_sl at ih ⊢
    rw [List.map_cons, List.flatMap_cons, List.length_append, ih, zlen, zv_cat]
    cases zlong v <;> rfl
def zsum : List zV → Nat
  | [] => 0
  | v :: vs => (if zlong v = true then 2 else 1) + zsum vs
theorem zsum_eq (b : Nat) : ∀ vs : List zV, ((vs.map (zv b)).map fun v => v.category).sum = zsum vs
  | [] => rfl
  | v :: vs => by
    rw [List.map_cons, List.map_cons, List.sum_cons, zsum_eq b vs, zsum, zv_cat]
/-- object e is there, and of a kind -/
def zo (n kd : Nat) (e : Int32) : Bool := decide (¬ e < 0) && (decide (e.toNatClampNeg < n) && decide ((zK e.toNatClampNeg).1 = kd))
theorem zo_spec {n kd : Nat} {e : Int32} (h : zo n kd e = true) : ¬ e < 0 ∧ e.toNatClampNeg < n ∧ (zK e.toNatClampNeg).1 = kd := by
  simp only [zo, Bool.and_eq_true, decide_eq_true_eq] at h
  exact h
/-- place i of the array e of a kind is there -/
def za (n kd : Nat) (e i : Int32) : Bool := zo n kd e && (decide (¬ i < 0) && decide (i.toNatClampNeg < (zK e.toNatClampNeg).2))
theorem za_spec {n kd : Nat} {e i : Int32} (h : za n kd e i = true) : zo n kd e = true ∧ ¬ i < 0 ∧ i.toNatClampNeg < (zK e.toNatClampNeg).2 := by
  simp only [za, Bool.and_eq_true, decide_eq_true_eq] at h
  exact h
abbrev zg (S : zM) (e : Int32) (k : Nat) : Int32 := S e.toNatClampNeg k
abbrev ze (S : zM) (e i : Int32) : Int32 := S e.toNatClampNeg i.toNatClampNeg
abbrev zp (S : zM) (e : Int32) (k : Nat) (v : Int32) : zM := zup S e.toNatClampNeg k v
abbrev zq (S : zM) (e i v : Int32) : zM := zup S e.toNatClampNeg i.toNatClampNeg v
/-- guards, branches and calls of the functions that the methods are -/
def zd {α : Type} (c : Bool) (x : Option α) : Option α := if c = true then x else none
theorem zd_some {α : Type} {c : Bool} {x : Option α} {y : α} (h : zd c x = some y) : c = true ∧ x = some y := by
  unfold zd at h
  split at h
  · exact ⟨by assumption, h⟩
  · cases h
theorem zd_true {α : Type} {x : Option α} : zd true x = x := rfl
theorem zb_some {α β : Type} {x : Option α} {f : α → Option β} {y : β} (h : x.bind f = some y) : ∃ a, x = some a ∧ f a = some y := Option.bind_eq_some_iff.mp h
theorem zit {α : Type} {c : Prop} [Decidable c] {x y z : α} (hc : c) (h : (if c then x else y) = z) : x = z := by rw [if_pos hc] at h; exact h
theorem zif {α : Type} {c : Prop} [Decidable c] {x y z : α} (hc : ¬ c) (h : (if c then x else y) = z) : y = z := by rw [if_neg hc] at h; exact h
def zbit (x : Int32) : Bool := decide (x = 0 ∨ x = 1)
theorem zbit_narrow {x : Int32} (h : zbit x = true) : narrow .boolean (.int x) = .int x ∧ fits .boolean (.int x) = true := by
  rcases of_decide_eq_true h with rfl | rfl <;> exact ⟨by decide +kernel, by decide +kernel⟩
def ztok (t : FieldType) (x : Int32) : Bool := match t with
  | .int => true
  | .boolean => zbit x
  | .object _ => true
  | .array _ => true
  | _ => false
theorem ztok_spec {t : FieldType} {x : Int32} (b : Nat) (h : ztok t x = true) : narrow t (zv b (zfv t x)) = zv b (zfv t x) ∧ fits t (zv b (zfv t x)) = true := by
  cases t with
  | int => exact ⟨rfl, rfl⟩
  | boolean => exact zbit_narrow h
  | object C => by_cases hx : x < 0 <;> simp [zfv, zv, zw, hx, narrow, fits]
  | array C => by_cases hx : x < 0 <;> simp [zfv, zv, zw, hx, narrow, fits]
  | _ => cases h
end
section
section ZR
variable {p : Program} {l : Launch} {e : Env} {R : Room} {s : State} {m : MethodId} {args : Array Value} {below : List Frame} {meth : Method} {c : Code} {H : Heap} {locs : List Loc} {cells slots : Nat} {Q : State → Prop}
variable {cc : ByteArray} {nL : Nat} {own : String} {D : va_G} {tc : Nat → ClassId} {b n : Nat} {S : zM} {pc : Nat} {ls : Array Slot} {st : List zV} {lv : List (Nat × zV)}
-- locals
theorem z_iload_n (C : zC p m c cc nL s args own D tc) (hl : zL b ls nL lv) (k : Nat) {kf : Fin 4} {i : Nat} {x : Int32} (hk : lv[k]? = some (i, zi x)) (hdg : decode cc pc = .ok (.iload_n kf, 1)) (hi : (kf : Nat) = i) (kk : W p l e R s m args below meth c H locs cells slots Q (zG b m (pc + 1) ls (zi x :: st))) : W p l e R s m args below meth c H locs cells slots Q (zG b m pc ls st) :=
  lv_iload_n C.1.1 C.1.2.1 hdg hi (zL_at hl k hk) kk
theorem z_iload (C : zC p m c cc nL s args own D tc) (hl : zL b ls nL lv) (k : Nat) {i : Nat} {x : Int32} (hk : lv[k]? = some (i, zi x)) (hdg : decode cc pc = .ok (.iload i, 2)) (kk : W p l e R s m args below meth c H locs cells slots Q (zG b m (pc + 2) ls (zi x :: st))) : W p l e R s m args below meth c H locs cells slots Q (zG b m pc ls st) :=
  lv_iload C.1.1 C.1.2.1 hdg (zL_at hl k hk) kk
theorem z_lload_n (C : zC p m c cc nL s args own D tc) (hl : zL b ls nL lv) (k : Nat) {kf : Fin 4} {i : Nat} {x : Int64} (hk : lv[k]? = some (i, zl x)) (hdg : decode cc pc = .ok (.lload_n kf, 1)) (hi : (kf : Nat) = i) (kk : W p l e R s m args below meth c H locs cells slots Q (zG b m (pc + 1) ls (zl x :: st))) : W p l e R s m args below meth c H locs cells slots Q (zG b m pc ls st) :=
  lv_lload_n C.1.1 C.1.2.1 hdg hi (zL_at hl k hk) kk
theorem z_lload (C : zC p m c cc nL s args own D tc) (hl : zL b ls nL lv) (k : Nat) {i : Nat} {x : Int64} (hk : lv[k]? = some (i, zl x)) (hdg : decode cc pc = .ok (.lload i, 2)) (kk : W p l e R s m args below meth c H locs cells slots Q (zG b m (pc + 2) ls (zl x :: st))) : W p l e R s m args below meth c H locs cells slots Q (zG b m pc ls st) :=
  lv_lload C.1.1 C.1.2.1 hdg (zL_at hl k hk) kk
theorem z_aload_n (C : zC p m c cc nL s args own D tc) (hl : zL b ls nL lv) (k : Nat) {kf : Fin 4} {i : Nat} {x : Int32} (hk : lv[k]? = some (i, zr x)) (hdg : decode cc pc = .ok (.aload_n kf, 1)) (hi : (kf : Nat) = i) (kk : W p l e R s m args below meth c H locs cells slots Q (zG b m (pc + 1) ls (zr x :: st))) : W p l e R s m args below meth c H locs cells slots Q (zG b m pc ls st) := by
  have h0 : ls[i]? = some (.val (zw b x)) := zL_at hl k hk
  have kk : W p l e R s m args below meth c H locs cells slots Q (F0 m (pc + 1) ls (zw b x :: st.map (zv b))) := kk
  by_cases hx : x < 0
  · rw [zw_null hx] at h0 kk
    exact lv_aload_nN C.1.1 C.1.2.1 hdg hi h0 kk
  · rw [zw_ref hx] at h0 kk
    exact lv_aload_n C.1.1 C.1.2.1 hdg hi h0 kk
theorem z_aload (C : zC p m c cc nL s args own D tc) (hl : zL b ls nL lv) (k : Nat) {i : Nat} {x : Int32} (hk : lv[k]? = some (i, zr x)) (hdg : decode cc pc = .ok (.aload i, 2)) (kk : W p l e R s m args below meth c H locs cells slots Q (zG b m (pc + 2) ls (zr x :: st))) : W p l e R s m args below meth c H locs cells slots Q (zG b m pc ls st) := by
  have h0 : ls[i]? = some (.val (zw b x)) := zL_at hl k hk
  have kk : W p l e R s m args below meth c H locs cells slots Q (F0 m (pc + 2) ls (zw b x :: st.map (zv b))) := kk
  by_cases hx : x < 0
  · rw [zw_null hx] at h0 kk
    exact lv_aloadN C.1.1 C.1.2.1 hdg h0 kk
  · rw [zw_ref hx] at h0 kk
    exact lv_aload C.1.1 C.1.2.1 hdg h0 kk
theorem z_istore_n (C : zC p m c cc nL s args own D tc) (hl : zL b ls nL lv) {kf : Fin 4} {i : Nat} {x : Int32} (hdg : decode cc pc = .ok (.istore_n kf, 1)) (hi : (kf : Nat) = i) (hn : i < nL) (g : Int32 → List (Nat × zV)) (he : ∀ x : Int32, (i, zi x) :: lv.filter (fun q => !(q.1 == i) && !(q.1 + 1 == i && zlong q.2)) = g x) (kk : ∀ x1 : Int32, x1 = x → ∀ ls : Array Slot, zL b ls nL (g x1) → W p l e R s m args below meth c H locs cells slots Q (zG b m (pc + 1) ls st)) : W p l e R s m args below meth c H locs cells slots Q (zG b m pc ls (zi x :: st)) :=
  lv_istore_n C.1.1 C.1.2.1 hdg hi hl hn rfl (fun ls' h => kk x rfl ls' (zL_of ((zst1 b i (zi x) lv).trans (by rw [he])) h))
theorem z_istore (C : zC p m c cc nL s args own D tc) (hl : zL b ls nL lv) {i : Nat} {x : Int32} (hdg : decode cc pc = .ok (.istore i, 2)) (hn : i < nL) (g : Int32 → List (Nat × zV)) (he : ∀ x : Int32, (i, zi x) :: lv.filter (fun q => !(q.1 == i) && !(q.1 + 1 == i && zlong q.2)) = g x) (kk : ∀ x1 : Int32, x1 = x → ∀ ls : Array Slot, zL b ls nL (g x1) → W p l e R s m args below meth c H locs cells slots Q (zG b m (pc + 2) ls st)) : W p l e R s m args below meth c H locs cells slots Q (zG b m pc ls (zi x :: st)) :=
  lv_istore C.1.1 C.1.2.1 hdg hl hn rfl (fun ls' h => kk x rfl ls' (zL_of ((zst1 b i (zi x) lv).trans (by rw [he])) h))
theorem z_lstore_n (C : zC p m c cc nL s args own D tc) (hl : zL b ls nL lv) {kf : Fin 4} {i : Nat} {x : Int64} (hdg : decode cc pc = .ok (.lstore_n kf, 1)) (hi : (kf : Nat) = i) (hn : i + 1 < nL) (g : Int64 → List (Nat × zV)) (he : ∀ x : Int64, (i, zl x) :: lv.filter (fun q => !(q.1 == i) && (!(q.1 == i + 1) && !(q.1 + 1 == i && zlong q.2))) = g x) (kk : ∀ x1 : Int64, x1 = x → ∀ ls : Array Slot, zL b ls nL (g x1) → W p l e R s m args below meth c H locs cells slots Q (zG b m (pc + 1) ls st)) : W p l e R s m args below meth c H locs cells slots Q (zG b m pc ls (zl x :: st)) :=
  lv_lstore_n C.1.1 C.1.2.1 hdg hi hl hn rfl (fun ls' h => kk x rfl ls' (zL_of ((zst2 b i (zl x) lv).trans (by rw [he])) h))
theorem z_lstore (C : zC p m c cc nL s args own D tc) (hl : zL b ls nL lv) {i : Nat} {x : Int64} (hdg : decode cc pc = .ok (.lstore i, 2)) (hn : i + 1 < nL) (g : Int64 → List (Nat × zV)) (he : ∀ x : Int64, (i, zl x) :: lv.filter (fun q => !(q.1 == i) && (!(q.1 == i + 1) && !(q.1 + 1 == i && zlong q.2))) = g x) (kk : ∀ x1 : Int64, x1 = x → ∀ ls : Array Slot, zL b ls nL (g x1) → W p l e R s m args below meth c H locs cells slots Q (zG b m (pc + 2) ls st)) : W p l e R s m args below meth c H locs cells slots Q (zG b m pc ls (zl x :: st)) :=
  lv_lstore C.1.1 C.1.2.1 hdg hl hn rfl (fun ls' h => kk x rfl ls' (zL_of ((zst2 b i (zl x) lv).trans (by rw [he])) h))
theorem z_astore_n (C : zC p m c cc nL s args own D tc) (hl : zL b ls nL lv) {kf : Fin 4} {i : Nat} {x : Int32} (hdg : decode cc pc = .ok (.astore_n kf, 1)) (hi : (kf : Nat) = i) (hn : i < nL) (g : Int32 → List (Nat × zV)) (he : ∀ x : Int32, (i, zr x) :: lv.filter (fun q => !(q.1 == i) && !(q.1 + 1 == i && zlong q.2)) = g x) (kk : ∀ x1 : Int32, x1 = x → ∀ ls : Array Slot, zL b ls nL (g x1) → W p l e R s m args below meth c H locs cells slots Q (zG b m (pc + 1) ls st)) : W p l e R s m args below meth c H locs cells slots Q (zG b m pc ls (zr x :: st)) := by
  have ez := zst1 b i (zr x) lv
  rw [he x] at ez
  show W p l e R s m args below meth c H locs cells slots Q (F0 m pc ls (zw b x :: st.map (zv b)))
  have e2 : zv b (zr x) = zw b x := rfl
  rw [e2] at ez
  by_cases hx : x < 0
  · rw [zw_null hx] at ez ⊢
    exact lv_astore_nN C.1.1 C.1.2.1 hdg hi hl hn rfl (fun ls' h => kk x rfl ls' (zL_of ez h))
  · rw [zw_ref hx] at ez ⊢
    exact lv_astore_n C.1.1 C.1.2.1 hdg hi hl hn rfl (fun ls' h => kk x rfl ls' (zL_of ez h))
theorem z_astore (C : zC p m c cc nL s args own D tc) (hl : zL b ls nL lv) {i : Nat} {x : Int32} (hdg : decode cc pc = .ok (.astore i, 2)) (hn : i < nL) (g : Int32 → List (Nat × zV)) (he : ∀ x : Int32, (i, zr x) :: lv.filter (fun q => !(q.1 == i) && !(q.1 + 1 == i && zlong q.2)) = g x) (kk : ∀ x1 : Int32, x1 = x → ∀ ls : Array Slot, zL b ls nL (g x1) → W p l e R s m args below meth c H locs cells slots Q (zG b m (pc + 2) ls st)) : W p l e R s m args below meth c H locs cells slots Q (zG b m pc ls (zr x :: st)) := by
  have ez := zst1 b i (zr x) lv
  rw [he x] at ez
  show W p l e R s m args below meth c H locs cells slots Q (F0 m pc ls (zw b x :: st.map (zv b)))
  have e2 : zv b (zr x) = zw b x := rfl
  rw [e2] at ez
  by_cases hx : x < 0
  · rw [zw_null hx] at ez ⊢
    exact lv_astoreN C.1.1 C.1.2.1 hdg hl hn rfl (fun ls' h => kk x rfl ls' (zL_of ez h))
  · rw [zw_ref hx] at ez ⊢
    exact lv_astore C.1.1 C.1.2.1 hdg hl hn rfl (fun ls' h => kk x rfl ls' (zL_of ez h))
theorem z_iinc (C : zC p m c cc nL s args own D tc) (hl : zL b ls nL lv) (k : Nat) {i : Nat} {a : Int} {x v : Int32} (hk : lv[k]? = some (i, zi x)) (hdg : decode cc pc = .ok (.iinc i a, 3)) (hv : x + Int32.ofInt a = v) (hn : i < nL) (g : Int32 → List (Nat × zV)) (he : ∀ x : Int32, (i, zi x) :: lv.filter (fun q => !(q.1 == i) && !(q.1 + 1 == i && zlong q.2)) = g x) (kk : ∀ x1 : Int32, x1 = v → ∀ ls : Array Slot, zL b ls nL (g x1) → W p l e R s m args below meth c H locs cells slots Q (zG b m (pc + 3) ls st)) : W p l e R s m args below meth c H locs cells slots Q (zG b m pc ls st) :=
  lv_iinc C.1.1 C.1.2.1 hdg hl (k := k) (by rw [List.getElem?_map, hk]; rfl) hv hn rfl (fun ls' h => kk v rfl ls' (zL_of ((zst1 b i (zi v) lv).trans (by rw [he])) h))
-- constants
theorem z_iconst (C : zC p m c cc nL s args own D tc) {a : Int} {v : Int32} (hdg : decode cc pc = .ok (.iconst a, 1)) (hv : Int32.ofInt a = v) (kk : W p l e R s m args below meth c H locs cells slots Q (zG b m (pc + 1) ls (zi v :: st))) : W p l e R s m args below meth c H locs cells slots Q (zG b m pc ls st) := lv_iconst C.1.1 C.1.2.1 hdg hv kk
theorem z_bipush (C : zC p m c cc nL s args own D tc) {a : Int} {v : Int32} (hdg : decode cc pc = .ok (.bipush a, 2)) (hv : (Int8.ofInt a).toInt32 = v) (kk : W p l e R s m args below meth c H locs cells slots Q (zG b m (pc + 2) ls (zi v :: st))) : W p l e R s m args below meth c H locs cells slots Q (zG b m pc ls st) := lv_bipush C.1.1 C.1.2.1 hdg hv kk
theorem z_sipush (C : zC p m c cc nL s args own D tc) {a : Int} {v : Int32} (hdg : decode cc pc = .ok (.sipush a, 3)) (hv : (Int16.ofInt a).toInt32 = v) (kk : W p l e R s m args below meth c H locs cells slots Q (zG b m (pc + 3) ls (zi v :: st))) : W p l e R s m args below meth c H locs cells slots Q (zG b m pc ls st) := lv_sipush C.1.1 C.1.2.1 hdg hv kk
theorem z_ldc (C : zC p m c cc nL s args own D tc) {ix : Nat} {v : Int32} (hw : Cond.constant own ix v ∈ zT) (hdg : decode cc pc = .ok (.ldc ix, 2)) (kk : W p l e R s m args below meth c H locs cells slots Q (zG b m (pc + 2) ls (zi v :: st))) : W p l e R s m args below meth c H locs cells slots Q (zG b m pc ls st) := lv_ldc C.1.1 C.1.2.1 C.1.2.2.2.1 (C.1.2.2.2.2 _ hw) hdg kk
theorem z_ldc2 (C : zC p m c cc nL s args own D tc) {ix : Nat} {v : Int64} (hw : Cond.constantLong own ix v ∈ zT) (hdg : decode cc pc = .ok (.ldc2_w ix, 3)) (kk : W p l e R s m args below meth c H locs cells slots Q (zG b m (pc + 3) ls (zl v :: st))) : W p l e R s m args below meth c H locs cells slots Q (zG b m pc ls st) := lv_ldc2 C.1.1 C.1.2.1 C.1.2.2.2.1 (C.1.2.2.2.2 _ hw) hdg kk
theorem z_lconst (C : zC p m c cc nL s args own D tc) {a : Fin 2} {v : Int64} (hdg : decode cc pc = .ok (.lconst a, 1)) (hv : Int64.ofNat (a : Nat) = v) (kk : W p l e R s m args below meth c H locs cells slots Q (zG b m (pc + 1) ls (zl v :: st))) : W p l e R s m args below meth c H locs cells slots Q (zG b m pc ls st) := lv_lconst C.1.1 C.1.2.1 hdg hv kk
theorem z_null (C : zC p m c cc nL s args own D tc) (hdg : decode cc pc = .ok (.aconst_null, 1)) (kk : W p l e R s m args below meth c H locs cells slots Q (zG b m (pc + 1) ls (zr (-1) :: st))) : W p l e R s m args below meth c H locs cells slots Q (zG b m pc ls st) := lv_null C.1.1 C.1.2.1 hdg kk
-- arithmetic
theorem z_iadd (C : zC p m c cc nL s args own D tc) {x y : Int32} (hdg : decode cc pc = .ok (.iadd, 1)) (kk : W p l e R s m args below meth c H locs cells slots Q (zG b m (pc + 1) ls (zi (x + y) :: st))) : W p l e R s m args below meth c H locs cells slots Q (zG b m pc ls (zi y :: zi x :: st)) := lv_iadd C.1.1 C.1.2.1 hdg kk
theorem z_isub (C : zC p m c cc nL s args own D tc) {x y : Int32} (hdg : decode cc pc = .ok (.isub, 1)) (kk : W p l e R s m args below meth c H locs cells slots Q (zG b m (pc + 1) ls (zi (x - y) :: st))) : W p l e R s m args below meth c H locs cells slots Q (zG b m pc ls (zi y :: zi x :: st)) := lv_isub C.1.1 C.1.2.1 hdg kk
theorem z_imul (C : zC p m c cc nL s args own D tc) {x y : Int32} (hdg : decode cc pc = .ok (.imul, 1)) (kk : W p l e R s m args below meth c H locs cells slots Q (zG b m (pc + 1) ls (zi (x * y) :: st))) : W p l e R s m args below meth c H locs cells slots Q (zG b m pc ls (zi y :: zi x :: st)) := lv_imul C.1.1 C.1.2.1 hdg kk
theorem z_irem (C : zC p m c cc nL s args own D tc) {x y : Int32} (hne : decide (¬ y = 0) = true) (hdg : decode cc pc = .ok (.irem, 1)) (kk : W p l e R s m args below meth c H locs cells slots Q (zG b m (pc + 1) ls (zi (x - x / y * y) :: st))) : W p l e R s m args below meth c H locs cells slots Q (zG b m pc ls (zi y :: zi x :: st)) := lv_irem C.1.1 C.1.2.1 hdg (of_decide_eq_true hne) kk
theorem z_iand (C : zC p m c cc nL s args own D tc) {x y : Int32} (hdg : decode cc pc = .ok (.iand, 1)) (kk : W p l e R s m args below meth c H locs cells slots Q (zG b m (pc + 1) ls (zi (x &&& y) :: st))) : W p l e R s m args below meth c H locs cells slots Q (zG b m pc ls (zi y :: zi x :: st)) := lv_iand C.1.1 C.1.2.1 hdg kk
theorem z_ishr (C : zC p m c cc nL s args own D tc) {x y : Int32} (hdg : decode cc pc = .ok (.ishr, 1)) (kk : W p l e R s m args below meth c H locs cells slots Q (zG b m (pc + 1) ls (zi (x >>> (y &&& 31)) :: st))) : W p l e R s m args below meth c H locs cells slots Q (zG b m pc ls (zi y :: zi x :: st)) := lv_ishr C.1.1 C.1.2.1 hdg kk
theorem z_i2l (C : zC p m c cc nL s args own D tc) {x : Int32} (hdg : decode cc pc = .ok (.i2l, 1)) (kk : W p l e R s m args below meth c H locs cells slots Q (zG b m (pc + 1) ls (zl x.toInt64 :: st))) : W p l e R s m args below meth c H locs cells slots Q (zG b m pc ls (zi x :: st)) := lv_i2l C.1.1 C.1.2.1 hdg rfl kk
theorem z_l2i (C : zC p m c cc nL s args own D tc) {x : Int64} (hdg : decode cc pc = .ok (.l2i, 1)) (kk : W p l e R s m args below meth c H locs cells slots Q (zG b m (pc + 1) ls (zi x.toInt32 :: st))) : W p l e R s m args below meth c H locs cells slots Q (zG b m pc ls (zl x :: st)) := lv_l2i C.1.1 C.1.2.1 hdg rfl kk
theorem z_i2b (C : zC p m c cc nL s args own D tc) {x : Int32} (hdg : decode cc pc = .ok (.i2b, 1)) (kk : W p l e R s m args below meth c H locs cells slots Q (zG b m (pc + 1) ls (zi x.toInt8.toInt32 :: st))) : W p l e R s m args below meth c H locs cells slots Q (zG b m pc ls (zi x :: st)) := lv_i2b C.1.1 C.1.2.1 hdg rfl kk
theorem z_i2s (C : zC p m c cc nL s args own D tc) {x : Int32} (hdg : decode cc pc = .ok (.i2s, 1)) (kk : W p l e R s m args below meth c H locs cells slots Q (zG b m (pc + 1) ls (zi x.toInt16.toInt32 :: st))) : W p l e R s m args below meth c H locs cells slots Q (zG b m pc ls (zi x :: st)) := lv_i2s C.1.1 C.1.2.1 hdg rfl kk
theorem z_ladd (C : zC p m c cc nL s args own D tc) {x y : Int64} (hdg : decode cc pc = .ok (.ladd, 1)) (kk : W p l e R s m args below meth c H locs cells slots Q (zG b m (pc + 1) ls (zl (x + y) :: st))) : W p l e R s m args below meth c H locs cells slots Q (zG b m pc ls (zl y :: zl x :: st)) := lv_ladd C.1.1 C.1.2.1 hdg kk
theorem z_lmul (C : zC p m c cc nL s args own D tc) {x y : Int64} (hdg : decode cc pc = .ok (.lmul, 1)) (kk : W p l e R s m args below meth c H locs cells slots Q (zG b m (pc + 1) ls (zl (x * y) :: st))) : W p l e R s m args below meth c H locs cells slots Q (zG b m pc ls (zl y :: zl x :: st)) := lv_lmul C.1.1 C.1.2.1 hdg kk
theorem z_land (C : zC p m c cc nL s args own D tc) {x y : Int64} (hdg : decode cc pc = .ok (.land, 1)) (kk : W p l e R s m args below meth c H locs cells slots Q (zG b m (pc + 1) ls (zl (x &&& y) :: st))) : W p l e R s m args below meth c H locs cells slots Q (zG b m pc ls (zl y :: zl x :: st)) := lv_land C.1.1 C.1.2.1 hdg kk
theorem z_ldiv (C : zC p m c cc nL s args own D tc) {x y : Int64} (hne : decide (¬ y = 0) = true) (hdg : decode cc pc = .ok (.ldiv, 1)) (kk : W p l e R s m args below meth c H locs cells slots Q (zG b m (pc + 1) ls (zl (x / y) :: st))) : W p l e R s m args below meth c H locs cells slots Q (zG b m pc ls (zl y :: zl x :: st)) := lv_ldiv C.1.1 C.1.2.1 hdg (of_decide_eq_true hne) kk
theorem z_lushr (C : zC p m c cc nL s args own D tc) {x : Int64} {y : Int32} (hdg : decode cc pc = .ok (.lushr, 1)) (kk : W p l e R s m args below meth c H locs cells slots Q (zG b m (pc + 1) ls (zl (x.toUInt64 >>> (y.toInt64.toUInt64 &&& Int64.toUInt64 63)).toInt64 :: st))) : W p l e R s m args below meth c H locs cells slots Q (zG b m pc ls (zi y :: zl x :: st)) := lv_lushr C.1.1 C.1.2.1 hdg rfl kk
theorem z_lshr (C : zC p m c cc nL s args own D tc) {x : Int64} {y : Int32} (hdg : decode cc pc = .ok (.lshr, 1)) (kk : W p l e R s m args below meth c H locs cells slots Q (zG b m (pc + 1) ls (zl (x >>> (y.toInt64 &&& 63)) :: st))) : W p l e R s m args below meth c H locs cells slots Q (zG b m pc ls (zi y :: zl x :: st)) := lv_lshr C.1.1 C.1.2.1 hdg rfl kk
theorem z_lcmp (C : zC p m c cc nL s args own D tc) {x y : Int64} (hdg : decode cc pc = .ok (.lcmp, 1)) (kk : W p l e R s m args below meth c H locs cells slots Q (zG b m (pc + 1) ls (zi (lg_cmp x y) :: st))) : W p l e R s m args below meth c H locs cells slots Q (zG b m pc ls (zl y :: zl x :: st)) := W.lcmp C.1.1 C.1.2.1 hdg kk
-- the stack
theorem z_dup (C : zC p m c cc nL s args own D tc) {v : zV} (hdg : decode cc pc = .ok (.dup, 1)) (hv : zlong v = false) (kk : W p l e R s m args below meth c H locs cells slots Q (zG b m (pc + 1) ls (v :: v :: st))) : W p l e R s m args below meth c H locs cells slots Q (zG b m pc ls (v :: st)) := lv_dup C.1.1 C.1.2.1 hdg (by rw [zv_cat, hv]; rfl) kk
theorem z_dup2 (C : zC p m c cc nL s args own D tc) {v w : zV} (hdg : decode cc pc = .ok (.dup2, 1)) (hv : zlong v = false) (hw : zlong w = false) (kk : W p l e R s m args below meth c H locs cells slots Q (zG b m (pc + 1) ls (v :: w :: v :: w :: st))) : W p l e R s m args below meth c H locs cells slots Q (zG b m pc ls (v :: w :: st)) := lv_dup2_11 C.1.1 C.1.2.1 hdg (by rw [zv_cat, hv]; rfl) (by rw [zv_cat, hw]; rfl) kk
theorem z_pop (C : zC p m c cc nL s args own D tc) {v : zV} (hdg : decode cc pc = .ok (.pop, 1)) (hv : zlong v = false) (kk : W p l e R s m args below meth c H locs cells slots Q (zG b m (pc + 1) ls st)) : W p l e R s m args below meth c H locs cells slots Q (zG b m pc ls (v :: st)) := lv_pop C.1.1 C.1.2.1 hdg (by rw [zv_cat, hv]; rfl) kk
-- branches
theorem z_goto (C : zC p m c cc nL s args own D tc) {off : Int} (tgt : Nat) (hdg : decode cc pc = .ok (.goto off, 3)) (ht : (pc : Int) + off = (tgt : Int)) (kk : W p l e R s m args below meth c H locs cells slots Q (zG b m tgt ls st)) : W p l e R s m args below meth c H locs cells slots Q (zG b m pc ls st) := lv_goto C.1.1 C.1.2.1 hdg ht kk
theorem z_if_eq (C : zC p m c cc nL s args own D tc) {x : Int32} {off : Int} (tgt : Nat) (hdg : decode cc pc = .ok (.ifCond .eq off, 3)) (ht : (pc : Int) + off = (tgt : Int)) (kt : x = 0 → W p l e R s m args below meth c H locs cells slots Q (zG b m tgt ls st)) (kf : ¬ x = 0 → W p l e R s m args below meth c H locs cells slots Q (zG b m (pc + 3) ls st)) : W p l e R s m args below meth c H locs cells slots Q (zG b m pc ls (zi x :: st)) := lv_if_eq C.1.1 C.1.2.1 hdg ht kt kf
theorem z_if_ne (C : zC p m c cc nL s args own D tc) {x : Int32} {off : Int} (tgt : Nat) (hdg : decode cc pc = .ok (.ifCond .ne off, 3)) (ht : (pc : Int) + off = (tgt : Int)) (kt : ¬ x = 0 → W p l e R s m args below meth c H locs cells slots Q (zG b m tgt ls st)) (kf : x = 0 → W p l e R s m args below meth c H locs cells slots Q (zG b m (pc + 3) ls st)) : W p l e R s m args below meth c H locs cells slots Q (zG b m pc ls (zi x :: st)) := lv_if_ne C.1.1 C.1.2.1 hdg ht kt kf
theorem z_if_lt (C : zC p m c cc nL s args own D tc) {x : Int32} {off : Int} (tgt : Nat) (hdg : decode cc pc = .ok (.ifCond .lt off, 3)) (ht : (pc : Int) + off = (tgt : Int)) (kt : x < 0 → W p l e R s m args below meth c H locs cells slots Q (zG b m tgt ls st)) (kf : ¬ x < 0 → W p l e R s m args below meth c H locs cells slots Q (zG b m (pc + 3) ls st)) : W p l e R s m args below meth c H locs cells slots Q (zG b m pc ls (zi x :: st)) := lv_if_lt C.1.1 C.1.2.1 hdg ht kt kf
theorem z_if_ge (C : zC p m c cc nL s args own D tc) {x : Int32} {off : Int} (tgt : Nat) (hdg : decode cc pc = .ok (.ifCond .ge off, 3)) (ht : (pc : Int) + off = (tgt : Int)) (kt : 0 ≤ x → W p l e R s m args below meth c H locs cells slots Q (zG b m tgt ls st)) (kf : ¬ 0 ≤ x → W p l e R s m args below meth c H locs cells slots Q (zG b m (pc + 3) ls st)) : W p l e R s m args below meth c H locs cells slots Q (zG b m pc ls (zi x :: st)) := lv_if_ge C.1.1 C.1.2.1 hdg ht kt kf
theorem z_if_gt (C : zC p m c cc nL s args own D tc) {x : Int32} {off : Int} (tgt : Nat) (hdg : decode cc pc = .ok (.ifCond .gt off, 3)) (ht : (pc : Int) + off = (tgt : Int)) (kt : 0 < x → W p l e R s m args below meth c H locs cells slots Q (zG b m tgt ls st)) (kf : ¬ 0 < x → W p l e R s m args below meth c H locs cells slots Q (zG b m (pc + 3) ls st)) : W p l e R s m args below meth c H locs cells slots Q (zG b m pc ls (zi x :: st)) := lv_if_gt C.1.1 C.1.2.1 hdg ht kt kf
theorem z_if_le (C : zC p m c cc nL s args own D tc) {x : Int32} {off : Int} (tgt : Nat) (hdg : decode cc pc = .ok (.ifCond .le off, 3)) (ht : (pc : Int) + off = (tgt : Int)) (kt : x ≤ 0 → W p l e R s m args below meth c H locs cells slots Q (zG b m tgt ls st)) (kf : ¬ x ≤ 0 → W p l e R s m args below meth c H locs cells slots Q (zG b m (pc + 3) ls st)) : W p l e R s m args below meth c H locs cells slots Q (zG b m pc ls (zi x :: st)) := lv_if_le C.1.1 C.1.2.1 hdg ht kt kf
theorem z_icmp_eq (C : zC p m c cc nL s args own D tc) {x y : Int32} {off : Int} (tgt : Nat) (hdg : decode cc pc = .ok (.if_icmp .eq off, 3)) (ht : (pc : Int) + off = (tgt : Int)) (kt : x = y → W p l e R s m args below meth c H locs cells slots Q (zG b m tgt ls st)) (kf : ¬ x = y → W p l e R s m args below meth c H locs cells slots Q (zG b m (pc + 3) ls st)) : W p l e R s m args below meth c H locs cells slots Q (zG b m pc ls (zi y :: zi x :: st)) := lv_icmp_eq C.1.1 C.1.2.1 hdg ht kt kf
theorem z_icmp_ne (C : zC p m c cc nL s args own D tc) {x y : Int32} {off : Int} (tgt : Nat) (hdg : decode cc pc = .ok (.if_icmp .ne off, 3)) (ht : (pc : Int) + off = (tgt : Int)) (kt : ¬ x = y → W p l e R s m args below meth c H locs cells slots Q (zG b m tgt ls st)) (kf : x = y → W p l e R s m args below meth c H locs cells slots Q (zG b m (pc + 3) ls st)) : W p l e R s m args below meth c H locs cells slots Q (zG b m pc ls (zi y :: zi x :: st)) := lv_icmp_ne C.1.1 C.1.2.1 hdg ht kt kf
theorem z_icmp_lt (C : zC p m c cc nL s args own D tc) {x y : Int32} {off : Int} (tgt : Nat) (hdg : decode cc pc = .ok (.if_icmp .lt off, 3)) (ht : (pc : Int) + off = (tgt : Int)) (kt : x < y → W p l e R s m args below meth c H locs cells slots Q (zG b m tgt ls st)) (kf : ¬ x < y → W p l e R s m args below meth c H locs cells slots Q (zG b m (pc + 3) ls st)) : W p l e R s m args below meth c H locs cells slots Q (zG b m pc ls (zi y :: zi x :: st)) := lv_icmp_lt C.1.1 C.1.2.1 hdg ht kt kf
theorem z_icmp_ge (C : zC p m c cc nL s args own D tc) {x y : Int32} {off : Int} (tgt : Nat) (hdg : decode cc pc = .ok (.if_icmp .ge off, 3)) (ht : (pc : Int) + off = (tgt : Int)) (kt : y ≤ x → W p l e R s m args below meth c H locs cells slots Q (zG b m tgt ls st)) (kf : ¬ y ≤ x → W p l e R s m args below meth c H locs cells slots Q (zG b m (pc + 3) ls st)) : W p l e R s m args below meth c H locs cells slots Q (zG b m pc ls (zi y :: zi x :: st)) := lv_icmp_ge C.1.1 C.1.2.1 hdg ht kt kf
theorem z_icmp_gt (C : zC p m c cc nL s args own D tc) {x y : Int32} {off : Int} (tgt : Nat) (hdg : decode cc pc = .ok (.if_icmp .gt off, 3)) (ht : (pc : Int) + off = (tgt : Int)) (kt : y < x → W p l e R s m args below meth c H locs cells slots Q (zG b m tgt ls st)) (kf : ¬ y < x → W p l e R s m args below meth c H locs cells slots Q (zG b m (pc + 3) ls st)) : W p l e R s m args below meth c H locs cells slots Q (zG b m pc ls (zi y :: zi x :: st)) := lv_icmp_gt C.1.1 C.1.2.1 hdg ht kt kf
theorem z_icmp_le (C : zC p m c cc nL s args own D tc) {x y : Int32} {off : Int} (tgt : Nat) (hdg : decode cc pc = .ok (.if_icmp .le off, 3)) (ht : (pc : Int) + off = (tgt : Int)) (kt : x ≤ y → W p l e R s m args below meth c H locs cells slots Q (zG b m tgt ls st)) (kf : ¬ x ≤ y → W p l e R s m args below meth c H locs cells slots Q (zG b m (pc + 3) ls st)) : W p l e R s m args below meth c H locs cells slots Q (zG b m pc ls (zi y :: zi x :: st)) := lv_icmp_le C.1.1 C.1.2.1 hdg ht kt kf
theorem z_ifnull (C : zC p m c cc nL s args own D tc) {x : Int32} {off : Int} (tgt : Nat) (hdg : decode cc pc = .ok (.ifnull off, 3)) (ht : (pc : Int) + off = (tgt : Int)) (kt : x < 0 → W p l e R s m args below meth c H locs cells slots Q (zG b m tgt ls st)) (kf : ¬ x < 0 → W p l e R s m args below meth c H locs cells slots Q (zG b m (pc + 3) ls st)) : W p l e R s m args below meth c H locs cells slots Q (zG b m pc ls (zr x :: st)) := by
  show W p l e R s m args below meth c H locs cells slots Q (F0 m pc ls (zw b x :: st.map (zv b)))
  by_cases hx : x < 0
  · rw [zw_null hx]
    exact lv_ifnullN C.1.1 C.1.2.1 hdg ht (kt hx)
  · rw [zw_ref hx]
    exact lv_ifnull C.1.1 C.1.2.1 hdg (kf hx)
theorem z_ifnonnull (C : zC p m c cc nL s args own D tc) {x : Int32} {off : Int} (tgt : Nat) (hdg : decode cc pc = .ok (.ifnonnull off, 3)) (ht : (pc : Int) + off = (tgt : Int)) (kt : ¬ x < 0 → W p l e R s m args below meth c H locs cells slots Q (zG b m tgt ls st)) (kf : x < 0 → W p l e R s m args below meth c H locs cells slots Q (zG b m (pc + 3) ls st)) : W p l e R s m args below meth c H locs cells slots Q (zG b m pc ls (zr x :: st)) := by
  show W p l e R s m args below meth c H locs cells slots Q (F0 m pc ls (zw b x :: st.map (zv b)))
  by_cases hx : x < 0
  · rw [zw_null hx]
    exact lv_ifnonnullN C.1.1 C.1.2.1 hdg (kf hx)
  · rw [zw_ref hx]
    exact lv_ifnonnull C.1.1 C.1.2.1 hdg ht (kt hx)
end ZR
end
section
def zCl (ci : Nat) (CN : String) (T : u_T) (N : Nat) : Prop := zcl[ci]? = some (CN, T, N) ∧ (∀ w ∈ u_ws CN T N, w ∈ zT) ∧ zN ci = N ∧ (∀ k, k < N → parseFieldDescriptor (T k).2.2.1 = some (zty ci k)) ∧ (∀ a, a < N → ∀ b, b < N → a ≠ b → (T a).2.1 ≠ (T b).2.1)
theorem zI.put {D : va_G} {tc : Nat → ClassId} {b n : Nat} {S : zM} {s : State} {H H1 : Heap} {locs : List Loc} (I : zI D tc b n S s H locs) {o k : Nat} {y : Int32} (z : H1.size = H.size) (oq : ∀ q : Nat, q ≠ b + o → H1[q]? = H[q]?) (hc : zcell D tc b o (zup S o k y o) H1) (j : Nat) : zI D tc b n (zup S o k y) s H1 (locs ++ [⟨b + o, j⟩]) := by
  refine ⟨⟨z.trans I.1.1, fun a ha => ?_⟩, I.2.put z oq (Nat.le_add_right b o)⟩
  by_cases e : a = o
  · subst e
    exact hc
  · rw [zup_ne e]
    exact (I.1.2 a ha).kept (oq (b + a) (by omega))
section ZH
variable {p : Program} {l : Launch} {e : Env} {R : Room} {s : State} {m : MethodId} {args : Array Value} {below : List Frame} {meth : Method} {c : Code} {H : Heap} {locs : List Loc} {cells slots : Nat} {Q : State → Prop}
variable {cc : ByteArray} {nL : Nat} {own : String} {D : va_G} {tc : Nat → ClassId} {b n : Nat} {S : zM} {pc : Nat} {ls : Array Slot} {st : List zV}
theorem z_get (C : zC p m c cc nL s args own D tc) (I : zI D tc b n S s H locs) {x : Int32} (ci k : Nat) {CN : String} {T : u_T} {N ix : Nat} (Y : zCl ci CN T N) (hg : zo n (10 + ci) x = true) (hk : k < N) (hlink : Cond.fieldLink own ix (T k).1 (T k).2.1 (T k).2.2.1 ∈ zT) {v : zV} (hv : zfv (zty ci k) (zg S x k) = v) (hdg : decode cc pc = .ok (.getfield ix, 3)) (kk : W p l e R s m args below meth c H locs cells slots Q (zG b m (pc + 3) ls (v :: st))) : W p l e R s m args below meth c H locs cells slots Q (zG b m pc ls (zr x :: st)) := by
  obtain ⟨g1, g2, g3⟩ := zo_spec hg
  obtain ⟨Y1, Y2, Y3, Y4, Y5⟩ := Y
  obtain ⟨cell, q1, q2, q3, q4⟩ := (I.1.2 _ g2).2 ci g3
  obtain ⟨hS, hfc, kC, hkC, hkind⟩ := C.2.1.1 ci _ Y1
  obtain ⟨cf, kf, fi, f, hi, hsl⟩ := hS k hk
  subst hv
  show W p l e R s m args below meth c H locs cells slots Q (F0 m pc ls (zw b x :: st.map (zv b)))
  rw [zw_ref g1]
  refine W.getf C.1.1 C.1.2.1 C.1.2.2.2.1 (C.1.2.2.2.2 _ hlink) hi (u_facts hfc hkC (u_lays C.1.2.2.2.2 Y2 hk) hi).1 q1 (by rw [q3]; exact fun h => by cases h) (v := zv b (zfv (zty ci k) (zg S x k))) ?_ rfl rfl hdg kk
  rw [hsl, q4 k (by rw [Y3]; exact hk)]
theorem z_put (C : zC p m c cc nL s args own D tc) (I : zI D tc b n S s H locs) {x y : Int32} (ci k : Nat) {CN : String} {T : u_T} {N ix : Nat} (Y : zCl ci CN T N) (hg : zo n (10 + ci) x = true) (hk : k < N) (hfin : (T k).2.2.2 = false) (hlink : Cond.fieldLink own ix (T k).1 (T k).2.1 (T k).2.2.1 ∈ zT) (hok : ztok (zty ci k) y = true) {v : zV} (hv : zfv (zty ci k) y = v) (hdg : decode cc pc = .ok (.putfield ix, 3)) (kk : ∀ S1 : zM, S1 = zp S x k y → ∀ (H : Heap) (locs : List Loc), zI D tc b n S1 s H locs → W p l e R s m args below meth c H locs cells slots Q (zG b m (pc + 3) ls st)) : W p l e R s m args below meth c H locs cells slots Q (zG b m pc ls (v :: zr x :: st)) := by
  obtain ⟨g1, g2, g3⟩ := zo_spec hg
  obtain ⟨Y1, Y2, Y3, Y4, Y5⟩ := Y
  obtain ⟨cell, q1, q2, q3, q4⟩ := (I.1.2 _ g2).2 ci g3
  have hap := va_apart (own := own) C.1.2.2.2.2 Y2 (zty ci) Y4 Y5 C.2.1 Y1
  obtain ⟨hS, hfc, kC, hkC, hkind⟩ := C.2.1.1 ci _ Y1
  obtain ⟨cf, kf, fi, f, hi, hsl⟩ := hS k hk
  have hlay := C.1.2.2.2.2 _ (Y2 _ (u_in_lay hk))
  unfold u_lay at hlay
  rw [if_neg (by rw [hfin]; decide)] at hlay
  have hst := (u_facts hfc hkC (u_lays C.1.2.2.2.2 Y2 hk) hi).1
  obtain ⟨hn, hfit⟩ := ztok_spec b hok
  have h6 := u_store hfc hkC hkind hlay hi (Y4 k hk) hn hfit
  subst hv
  show W p l e R s m args below meth c H locs cells slots Q (F0 m pc ls (zv b (zfv (zty ci k) y) :: zw b x :: st.map (zv b)))
  rw [zw_ref g1]
  have hN : ∀ k, k < zN ci → k < N := fun k h => by rw [← Y3]; exact h
  refine W.putK C.1.1 C.1.2.1 (f := f) ⟨C.1.2.2.2.1, C.1.2.2.2.2 _ hlink, ⟨_, _, _, hi⟩, hst⟩ (by rw [q2]; exact h6) q1 q3 (by rw [hsl]; exact k2_hasslot (q4 k (by rw [Y3]; exact hk))) rfl rfl hdg fun H' e1 e2 e3 => ?_
  rw [hsl] at e1 ⊢
  refine kk _ rfl H' _ (I.put e2 e3 ⟨fun h => absurd h (by rw [g3]; omega), fun ci' h => ?_⟩ _)
  have hci : ci' = ci := by omega
  subst hci
  refine t_OB.to (V := updV (fun j => zv b (zfv (zty ci' j) (S x.toNatClampNeg j))) k (zv b (zfv (zty ci' k) y))) ⟨_, e1, q2, q3, t_set q4 (fun i j hi hj hne => hap i j (hN i hi) (hN j hj) hne) (by rw [Y3]; exact hk) _⟩ (fun j _ => ?_)
  by_cases hj : j = k
  · subst hj
    simp [updV, zup]
  · simp [updV, zup, hj]
theorem z_iald (C : zC p m c cc nL s args own D tc) (I : zI D tc b n S s H locs) {x i : Int32} (hg : za n 0 x i = true) (hdg : decode cc pc = .ok (.iaload, 1)) (kk : W p l e R s m args below meth c H locs cells slots Q (zG b m (pc + 1) ls (zi (ze S x i) :: st))) : W p l e R s m args below meth c H locs cells slots Q (zG b m pc ls (zi i :: zr x :: st)) := by
  obtain ⟨g0, g4, g5⟩ := za_spec hg
  obtain ⟨g1, g2, g3⟩ := zo_spec g0
  have hc := (I.1.2 _ g2).1 (by rw [g3]; decide)
  rw [g3] at hc
  show W p l e R s m args below meth c H locs cells slots Q (F0 m pc ls (.int i :: zw b x :: st.map (zv b)))
  rw [zw_ref g1]
  exact W.iald (v := .int (ze S x i)) C.1.1 C.1.2.1 hc ((C.2.ty (kd := 0) (by decide)).1 _ _) (fun q => by cases q) (by rw [arrV_size]; exact fun q => q.elim g4 (fun h => absurd g5 (Nat.not_lt.mpr h))) (by rw [arrV_read _ _ g5]; rfl) rfl rfl hdg kk
theorem z_zald (C : zC p m c cc nL s args own D tc) (I : zI D tc b n S s H locs) {x i : Int32} (hg : za n 1 x i = true) (hdg : decode cc pc = .ok (.baload, 1)) (kk : W p l e R s m args below meth c H locs cells slots Q (zG b m (pc + 1) ls (zi (ze S x i) :: st))) : W p l e R s m args below meth c H locs cells slots Q (zG b m pc ls (zi i :: zr x :: st)) := by
  obtain ⟨g0, g4, g5⟩ := za_spec hg
  obtain ⟨g1, g2, g3⟩ := zo_spec g0
  have hc := (I.1.2 _ g2).1 (by rw [g3]; decide)
  rw [g3] at hc
  show W p l e R s m args below meth c H locs cells slots Q (F0 m pc ls (.int i :: zw b x :: st.map (zv b)))
  rw [zw_ref g1]
  exact W.zald (v := .int (ze S x i)) C.1.1 C.1.2.1 hc ((C.2.ty (kd := 1) (by decide)).1 _ _) (fun q => by cases q) (by rw [arrV_size]; exact fun q => q.elim g4 (fun h => absurd g5 (Nat.not_lt.mpr h))) (by rw [arrV_read _ _ g5]; rfl) rfl rfl hdg kk
theorem z_aald (C : zC p m c cc nL s args own D tc) (I : zI D tc b n S s H locs) {x i : Int32} (kd : Nat) (h2 : kd = 2 ∨ kd = 3 ∨ kd = 4 ∨ kd = 5) (hg : za n kd x i = true) (hdg : decode cc pc = .ok (.aaload, 1)) (kk : W p l e R s m args below meth c H locs cells slots Q (zG b m (pc + 1) ls (zr (ze S x i) :: st))) : W p l e R s m args below meth c H locs cells slots Q (zG b m pc ls (zi i :: zr x :: st)) := by
  obtain ⟨g0, g4, g5⟩ := za_spec hg
  obtain ⟨g1, g2, g3⟩ := zo_spec g0
  have hc := (I.1.2 _ g2).1 (by rw [g3]; omega)
  rw [g3] at hc
  show W p l e R s m args below meth c H locs cells slots Q (F0 m pc ls (.int i :: zw b x :: st.map (zv b)))
  rw [zw_ref g1]
  refine W.aald (v := zv b (zr (ze S x i))) (ty := zae kd) C.1.1 C.1.2.1 hc ((C.2.ty (kd := kd) (by omega)).1 _ _) ?_ (fun q => by cases q) (by rw [arrV_size]; exact fun q => q.elim g4 (fun h => absurd g5 (Nat.not_lt.mpr h))) ?_ rfl rfl hdg kk
  · rcases h2 with rfl | rfl | rfl | rfl <;> rfl
  · rw [arrV_read _ _ g5]
    rcases h2 with rfl | rfl | rfl | rfl <;> rfl
theorem z_iast (C : zC p m c cc nL s args own D tc) (I : zI D tc b n S s H locs) {x i y : Int32} (hg : za n 0 x i = true) (hdg : decode cc pc = .ok (.iastore, 1)) (kk : ∀ S1 : zM, S1 = zq S x i y → ∀ (H : Heap) (locs : List Loc), zI D tc b n S1 s H locs → W p l e R s m args below meth c H locs cells slots Q (zG b m (pc + 1) ls st)) : W p l e R s m args below meth c H locs cells slots Q (zG b m pc ls (zi y :: zi i :: zr x :: st)) := by
  obtain ⟨g0, g4, g5⟩ := za_spec hg
  obtain ⟨g1, g2, g3⟩ := zo_spec g0
  have hc := (I.1.2 _ g2).1 (by rw [g3]; decide)
  rw [g3] at hc
  show W p l e R s m args below meth c H locs cells slots Q (F0 m pc ls (.int y :: .int i :: zw b x :: st.map (zv b)))
  rw [zw_ref g1]
  refine W.iast C.1.1 C.1.2.1 hc ((C.2.ty (kd := 0) (by decide)).1 _ _) (fun q => by cases q) (by rw [arrV_size]; exact fun q => q.elim g4 (fun h => absurd g5 (Nat.not_lt.mpr h))) rfl rfl hdg fun H' e1 e2 e3 => ?_
  refine kk _ rfl H' _ (I.put e2 e3 ⟨fun _ => ?_, fun ci h => absurd h (by rw [g3]; omega)⟩ _)
  rw [e1, arrV_store, g3]
  refine congrArg some (congrArg (arrV _ _) (funext fun j => ?_))
  by_cases hj : j = i.toNatClampNeg
  · subst hj
    simp [updV, zup, zav, zv]
  · simp [updV, zup, zav, hj]
theorem z_zast (C : zC p m c cc nL s args own D tc) (I : zI D tc b n S s H locs) {x i y : Int32} (hg : za n 1 x i = true) (hy : zbit y = true) (hdg : decode cc pc = .ok (.bastore, 1)) (kk : ∀ S1 : zM, S1 = zq S x i y → ∀ (H : Heap) (locs : List Loc), zI D tc b n S1 s H locs → W p l e R s m args below meth c H locs cells slots Q (zG b m (pc + 1) ls st)) : W p l e R s m args below meth c H locs cells slots Q (zG b m pc ls (zi y :: zi i :: zr x :: st)) := by
  obtain ⟨g0, g4, g5⟩ := za_spec hg
  obtain ⟨g1, g2, g3⟩ := zo_spec g0
  have hc := (I.1.2 _ g2).1 (by rw [g3]; decide)
  rw [g3] at hc
  show W p l e R s m args below meth c H locs cells slots Q (F0 m pc ls (.int y :: .int i :: zw b x :: st.map (zv b)))
  rw [zw_ref g1]
  refine W.zast C.1.1 C.1.2.1 hc ((C.2.ty (kd := 1) (by decide)).1 _ _) (fun q => by cases q) (by rw [arrV_size]; exact fun q => q.elim g4 (fun h => absurd g5 (Nat.not_lt.mpr h))) rfl rfl hdg fun H' e1 e2 e3 => ?_
  rw [(zbit_narrow hy).1] at e1
  refine kk _ rfl H' _ (I.put e2 e3 ⟨fun _ => ?_, fun ci h => absurd h (by rw [g3]; omega)⟩ _)
  rw [e1, arrV_store, g3]
  refine congrArg some (congrArg (arrV _ _) (funext fun j => ?_))
  by_cases hj : j = i.toNatClampNeg
  · subst hj
    simp [updV, zup, zav, zv]
  · simp [updV, zup, zav, hj]
theorem z_mmax (C : zC p m c cc nL s args own D tc) {ix : Nat} (hlink : Cond.methodLink own ix Lib.Math.max.name ∈ zT) (hstat : Cond.static Lib.Math.max.name ∈ zT) (hini : Cond.initialized "java/lang/Math" ∈ zT) (hcode : Cond.code Lib.Math.max.name Lib.Math.max.code 2 (some .int) ∈ zT) (hsz : ls.size = nL) (hframes : 1 ≤ R.frames) (hlocals : zsum st + 13 ≤ R.locals) (hcs : cells ≤ R.cells ∧ slots ≤ R.slots) {x y : Int32} (hdg : decode cc pc = .ok (.invokestatic ix, 3)) (kk : W p l e R s m args below meth c H locs cells slots Q (zG b m (pc + 3) ls (zi (if x < y then y else x) :: st))) : W p l e R s m args below meth c H locs cells slots Q (zG b m pc ls (zi y :: zi x :: st)) :=
  va_mmax C.1.1 C.1.2.1 (C.1.2.2.1.trans hsz.symm) C.1.2.2.2.1 (C.1.2.2.2.2 _ hlink) (C.1.2.2.2.2 _ hstat) (C.1.2.2.2.2 _ hini) (C.1.2.2.2.2 _ hcode) hframes (by rw [zsum_eq]; exact hlocals) hcs.1 hcs.2 hdg kk
end ZH
end
section
/-- the room of a method of depth d -/
def zR (d : Nat) : Room := { frames := d, cells := 0, slots := 0, locals := 32 * d }
def zB (D : va_G) (tc : Nat → ClassId) (b n : Nat) (S : zM) (U : State) : Prop := zW D tc b n S U.heap ∧ zKK D tc U
theorem zB.blind {D : va_G} {tc : Nat → ClassId} {b n : Nat} {S : zM} {av : List Value} : FrameBlind (va_Pc av (zB D tc b n S)) := fun a U g mk q => ⟨q.1, q.2.1, va_K.moved (u := U) (U := U.calling g mk a) (Vm.Alike.refl U.vm) q.2.2.1, zX.same (u := U) (U := U.calling g mk a) rfl q.2.2.2⟩
/-- what the tables say of a method -/
def zY (y : MethodName) (bytes : ByteArray) (maxL : Nat) (ret : Option FieldType) (nargs : Nat) : Prop := Cond.code y bytes maxL ret ∈ zT ∧ Cond.initialized y.cls ∈ zT ∧ (y.cls ≠ "java/lang/invoke/MethodHandle" ∧ y.cls ≠ "java/lang/invoke/VarHandle" ∧ (parseMethodDescriptor y.desc).map (fun d => d.parameters.length) = some nargs) ∧ plainName y.cls = true
/-- and of one that is called on an object -/
def zYv (y : MethodName) : Prop := Cond.instanceMethod y ∈ zT ∧ Cond.selects y.cls y y ∈ zT
/-- contracts: an int (or boolean), a long, nothing -/
def zMi (l : Launch) (D : va_G) (tc : Nat → ClassId) (b n : Nat) (y : MethodName) (bytes : ByteArray) (maxL : Nat) (ty : FieldType) (d : Nat) (av : List zV) (S S' : zM) (r : Int32) : Prop := Met l y (Cond.code y bytes maxL (some ty) :: zT) (zR d) (va_Pc (av.map (zv b)) (zB D tc b n S)) (va_Qi (fun r' (_ : Unit) => r' = r) (fun _ t => zW D tc b n S' t.heap) (zF b)) 0 0 (zF b)
def zMl (l : Launch) (D : va_G) (tc : Nat → ClassId) (b n : Nat) (y : MethodName) (bytes : ByteArray) (maxL : Nat) (ty : FieldType) (d : Nat) (av : List zV) (S S' : zM) (r : Int64) : Prop := Met l y (Cond.code y bytes maxL (some ty) :: zT) (zR d) (va_Pc (av.map (zv b)) (zB D tc b n S)) (va_Ql (fun r' (_ : Unit) => r' = r) (fun _ t => zW D tc b n S' t.heap) (zF b)) 0 0 (zF b)
def zMv (l : Launch) (D : va_G) (tc : Nat → ClassId) (b n : Nat) (y : MethodName) (bytes : ByteArray) (maxL : Nat) (d : Nat) (av : List zV) (S S' : zM) : Prop := Met l y (Cond.code y bytes maxL none :: zT) (zR d) (va_Pc (av.map (zv b)) (zB D tc b n S)) (va_Qv (fun (_ : Unit) => True) (fun _ t => zW D tc b n S' t.heap) (zF b)) 0 0 (zF b)
def zQi (D : va_G) (tc : Nat → ClassId) (b n : Nat) (S' : zM) (r : Int32) (below : List Frame) (args : Array Value) (s : State) : State → Prop := MQ below (va_Qi (fun r' (_ : Unit) => r' = r) (fun _ t => zW D tc b n S' t.heap) (zF b)) args s 0 0 (zF b)
def zQl (D : va_G) (tc : Nat → ClassId) (b n : Nat) (S' : zM) (r : Int64) (below : List Frame) (args : Array Value) (s : State) : State → Prop := MQ below (va_Ql (fun r' (_ : Unit) => r' = r) (fun _ t => zW D tc b n S' t.heap) (zF b)) args s 0 0 (zF b)
def zQv (D : va_G) (tc : Nat → ClassId) (b n : Nat) (S' : zM) (below : List Frame) (args : Array Value) (s : State) : State → Prop := MQ below (va_Qv (fun (_ : Unit) => True) (fun _ t => zW D tc b n S' t.heap) (zF b)) args s 0 0 (zF b)
section ZS
variable {l : Launch} {D : va_G} {tc : Nat → ClassId} {b n : Nat} {y : MethodName} {bytes : ByteArray} {maxL d nargs : Nat} {av : List zV} {S S' : zM}
theorem zMi_of {ty : FieldType} {r : Int32} (Y : zY y bytes maxL (some ty) nargs) (hlen : zlen av ≤ maxL) (body : ∀ (p : Program) (e : Env) (s : State) (m : MethodId) (args : Array Value) (below : List Frame) (meth : Method) (c : Code) (H : Heap), zC p m c bytes maxL s args y.cls D tc → meth.sig.returnType = some ty → meth.locks = false → ∀ ls : Array Slot, zL b ls maxL (zargs 0 av) → zI D tc b n S s H [] → W p l e (zR d) s m args below meth c H [] 0 0 (zQi D tc b n S' r below args s) (zG b m 0 ls [])) : zMi l D tc b n y bytes maxL ty d av S S' r := by
  refine Met.ofW (cc := bytes) (maxL := maxL) (ret := some ty) Y.2.2.2 rfl ?_
  intro p e s m args below meth c s₁ B hml hv
  obtain ⟨rfl, hW, hK⟩ := hv
  have hts := atoms_spec (ws := Cond.code y bytes maxL (some ty) :: zT) B.pre
  have hl := lv_entry (av.map (zv b)) (n := maxL) (by rw [zlen_eq]; exact hlen)
  rw [lg_entry_eq]
  rw [zargs_eq] at hl
  exact body p e s m _ below meth c s.heap ⟨⟨B.exec, B.bytes, hml, findClass_of_methodNamed B.named, fun w hw => hts w (List.mem_cons_of_mem _ hw)⟩, hK⟩ B.returns B.notSynchronized _ hl ⟨hW, va_S.rf⟩
theorem zMl_of {ty : FieldType} {r : Int64} (Y : zY y bytes maxL (some ty) nargs) (hlen : zlen av ≤ maxL) (body : ∀ (p : Program) (e : Env) (s : State) (m : MethodId) (args : Array Value) (below : List Frame) (meth : Method) (c : Code) (H : Heap), zC p m c bytes maxL s args y.cls D tc → meth.sig.returnType = some ty → meth.locks = false → ∀ ls : Array Slot, zL b ls maxL (zargs 0 av) → zI D tc b n S s H [] → W p l e (zR d) s m args below meth c H [] 0 0 (zQl D tc b n S' r below args s) (zG b m 0 ls [])) : zMl l D tc b n y bytes maxL ty d av S S' r := by
  refine Met.ofW (cc := bytes) (maxL := maxL) (ret := some ty) Y.2.2.2 rfl ?_
  intro p e s m args below meth c s₁ B hml hv
  obtain ⟨rfl, hW, hK⟩ := hv
  have hts := atoms_spec (ws := Cond.code y bytes maxL (some ty) :: zT) B.pre
  have hl := lv_entry (av.map (zv b)) (n := maxL) (by rw [zlen_eq]; exact hlen)
  rw [lg_entry_eq]
  rw [zargs_eq] at hl
  exact body p e s m _ below meth c s.heap ⟨⟨B.exec, B.bytes, hml, findClass_of_methodNamed B.named, fun w hw => hts w (List.mem_cons_of_mem _ hw)⟩, hK⟩ B.returns B.notSynchronized _ hl ⟨hW, va_S.rf⟩
theorem zMv_of (Y : zY y bytes maxL none nargs) (hlen : zlen av ≤ maxL) (body : ∀ (p : Program) (e : Env) (s : State) (m : MethodId) (args : Array Value) (below : List Frame) (meth : Method) (c : Code) (H : Heap), zC p m c bytes maxL s args y.cls D tc → meth.sig.returnType = none → meth.locks = false → ∀ ls : Array Slot, zL b ls maxL (zargs 0 av) → zI D tc b n S s H [] → W p l e (zR d) s m args below meth c H [] 0 0 (zQv D tc b n S' below args s) (zG b m 0 ls [])) : zMv l D tc b n y bytes maxL d av S S' := by
  refine Met.ofW (cc := bytes) (maxL := maxL) (ret := none) Y.2.2.2 rfl ?_
  intro p e s m args below meth c s₁ B hml hv
  obtain ⟨rfl, hW, hK⟩ := hv
  have hts := atoms_spec (ws := Cond.code y bytes maxL none :: zT) B.pre
  have hl := lv_entry (av.map (zv b)) (n := maxL) (by rw [zlen_eq]; exact hlen)
  rw [lg_entry_eq]
  rw [zargs_eq] at hl
  exact body p e s m _ below meth c s.heap ⟨⟨B.exec, B.bytes, hml, findClass_of_methodNamed B.named, fun w hw => hts w (List.mem_cons_of_mem _ hw)⟩, hK⟩ B.returns B.notSynchronized _ hl ⟨hW, va_S.rf⟩
end ZS
section ZE
variable {p : Program} {l : Launch} {e : Env} {R : Room} {s : State} {m : MethodId} {args : Array Value} {below : List Frame} {meth : Method} {c : Code} {H : Heap} {locs : List Loc}
variable {cc : ByteArray} {nL : Nat} {own : String} {D : va_G} {tc : Nat → ClassId} {b n : Nat} {S S' : zM} {pc : Nat} {ls : Array Slot}
theorem z_iret {x r : Int32} (C : zC p m c cc nL s args own D tc) (I : zI D tc b n S s H locs) (hr : meth.sig.returnType = some .int) (hk : meth.locks = false) (h : some (x, S) = some (r, S')) (hdg : decode cc pc = .ok (.ireturn, 1)) : W p l e R s m args below meth c H locs 0 0 (zQi D tc b n S' r below args s) (zG b m pc ls [zi x]) := by
  cases h
  exact W.iret (v := x) C.1.1 C.1.2.1 hr (fun t ht hW => ⟨⟨x, (), rfl, rfl, by show zW D tc b n S t.heap; rw [ht]; exact I.1⟩, I.2.F ht⟩) I.2.2.2 hdg hk
theorem z_zret {x r : Int32} (C : zC p m c cc nL s args own D tc) (I : zI D tc b n S s H locs) (hr : meth.sig.returnType = some .boolean) (hk : meth.locks = false) (hb : zbit x = true) (h : some (x, S) = some (r, S')) (hdg : decode cc pc = .ok (.ireturn, 1)) : W p l e R s m args below meth c H locs 0 0 (zQi D tc b n S' r below args s) (zG b m pc ls [zi x]) := by
  cases h
  exact W.zret (v := x) C.1.1 C.1.2.1 hr (zbit_narrow hb).1 (fun t ht hW => ⟨⟨x, (), rfl, rfl, by show zW D tc b n S t.heap; rw [ht]; exact I.1⟩, I.2.F ht⟩) I.2.2.2 hdg hk
theorem z_lret {x r : Int64} (C : zC p m c cc nL s args own D tc) (I : zI D tc b n S s H locs) (hr : meth.sig.returnType = some .long) (hk : meth.locks = false) (h : some (x, S) = some (r, S')) (hdg : decode cc pc = .ok (.lreturn, 1)) : W p l e R s m args below meth c H locs 0 0 (zQl D tc b n S' r below args s) (zG b m pc ls [zl x]) := by
  cases h
  exact W.lret (v := x) C.1.1 C.1.2.1 hr (fun t ht hW => ⟨⟨x, (), rfl, rfl, by show zW D tc b n S t.heap; rw [ht]; exact I.1⟩, I.2.F ht⟩) I.2.2.2 hdg hk
theorem z_vret {a : Int32} {r : Int32} (C : zC p m c cc nL s args own D tc) (I : zI D tc b n S s H locs) (hr : meth.sig.returnType = none) (hk : meth.locks = false) (h : some (a, S) = some (r, S')) (hdg : decode cc pc = .ok (.return_, 1)) : W p l e R s m args below meth c H locs 0 0 (zQv D tc b n S' below args s) (zG b m pc ls []) := by
  cases h
  exact W.vret C.1.1 C.1.2.1 hr (fun t ht hW => ⟨⟨(), rfl, trivial, by show zW D tc b n S t.heap; rw [ht]; exact I.1⟩, I.2.F ht⟩) I.2.2.2 hdg hk
variable {cells slots : Nat} {Q : State → Prop} {y : MethodName} {bytes : ByteArray} {maxL d nargs ix : Nat} {st0 st As : List zV} {S1 : zM}
theorem zcB {ret : Option FieldType} (C : zC p m c cc nL s args own D tc) (Y : zY y bytes maxL ret nargs) (hlink : Cond.methodLink own ix y ∈ zT) (hR : d + 1 ≤ R.frames ∧ 19 + maxL + 32 * d ≤ R.locals) : CallB R s args own ix y bytes maxL ret (Cond.code y bytes maxL ret :: zT) (zR d) 0 0 nargs :=
  callB_of nargs C.1.2.2.2.2 (zT_good (ws := Cond.code y bytes maxL ret :: zT) (fun w hw => (List.mem_cons.mp hw).elim (fun q => q ▸ Y.1) (fun h => h))) rfl rfl rfl (C.1.2.2.2.2 _ Y.2.1) (C.1.2.2.2.2 _ hlink) Y.2.2.1 ⟨hR.1, by show 8 + (maxL + 11) + 32 * d ≤ R.locals; omega⟩
theorem zrecv (C : zC p m c cc nL s args own D tc) (I : zI D tc b n S s H locs) {x : Int32} {ci N : Nat} {T : u_T} (K : zCl ci y.cls T N) (hg : zo n (10 + ci) x = true) : ∃ cell : Cell, H[b + x.toNatClampNeg]? = some cell ∧ cell.vm.isStatics = false ∧ s.vm.findClass y.cls = some cell.cls := by
  obtain ⟨g1, g2, g3⟩ := zo_spec hg
  obtain ⟨cell, q1, q2, q3, -⟩ := (I.1.2 _ g2).2 ci g3
  exact ⟨cell, q1, by rw [q3]; rfl, by rw [q2]; exact (C.2.1.1 ci _ K.1).2.1⟩
theorem zstk {x : Int32} (g1 : ¬ x < 0) (h : st0 = As.reverse ++ zr x :: st) : st0.map (zv b) = (As.map (zv b)).reverse ++ .ref (b + x.toNatClampNeg) :: st.map (zv b) := by
  subst h
  rw [List.map_append, List.map_reverse, List.map_cons]
  show _ ++ zw b x :: _ = _
  rw [zw_ref g1]
theorem zpre {x : Int32} (C : zC p m c cc nL s args own D tc) (I : zI D tc b n S s H locs) (g1 : ¬ x < 0) (U : State) (hU : U.heap = H) (hW : s.WarmedH U.vm) : va_Pc ((zr x :: As).map (zv b)) (zB D tc b n S) (Value.ref (b + x.toNatClampNeg) :: As.map (zv b)).toArray U := by
  refine ⟨?_, by rw [hU]; exact I.1, zKK.moved hW C.2⟩
  rw [List.map_cons]
  show _ = (zw b x :: _).toArray
  rw [zw_ref g1]
theorem z_callVi {ty : FieldType} {r : Int32} {x : Int32} {ci N : Nat} {T : u_T} (C : zC p m c cc nL s args own D tc) (I : zI D tc b n S s H locs) (hM : zMi l D tc b n y bytes maxL ty d (zr x :: As) S S1 r) (Y : zY y bytes maxL (some ty) nargs) (V : zYv y) (K : zCl ci y.cls T N) (hg : zo n (10 + ci) x = true) (hlink : Cond.methodLink own ix y ∈ zT) (hst : st0 = As.reverse ++ zr x :: st) (hn : As.length = nargs) (hR : d + 1 ≤ R.frames ∧ 19 + maxL + 32 * d ≤ R.locals) (hcs : cells ≤ R.cells ∧ slots ≤ R.slots) (hsz : ls.size = nL) (hsum : zsum st ≤ 8) (hdg : decode cc pc = .ok (.invokevirtual ix, 3)) (kk : ∀ (H : Heap) (locs : List Loc), zI D tc b n S1 s H locs → W p l e R s m args below meth c H locs cells slots Q (zG b m (pc + 3) ls (zi r :: st))) : W p l e R s m args below meth c H locs cells slots Q (zG b m pc ls st0) := by
  have g := zo_spec hg
  refine va_calli (va_runV (As := As.map (zv b)) (rest := st.map (zv b)) C.1 hM ⟨zcB C Y hlink hR, C.1.2.2.2.2 _ V.1, C.1.2.2.2.2 _ V.2⟩ ⟨zB.blind, zrecv C I K hg, fun U hU hW => zpre C I g.1 U hU hW⟩ rfl (by rw [List.length_map]; exact hn) hsz (zstk g.1 hst) (lv_room (by rw [zsum_eq]; exact hsum)) hdg hcs) I.2 (fun _ _ h => h) (fun _ h => h) (fun r' u t H1 locs1 ht hvm hp hB _ _ hS => ?_)
  cases hp
  exact kk H1 locs1 ⟨ht ▸ hB, hS⟩
theorem z_callVl {ty : FieldType} {r : Int64} {x : Int32} {ci N : Nat} {T : u_T} (C : zC p m c cc nL s args own D tc) (I : zI D tc b n S s H locs) (hM : zMl l D tc b n y bytes maxL ty d (zr x :: As) S S1 r) (Y : zY y bytes maxL (some ty) nargs) (V : zYv y) (K : zCl ci y.cls T N) (hg : zo n (10 + ci) x = true) (hlink : Cond.methodLink own ix y ∈ zT) (hst : st0 = As.reverse ++ zr x :: st) (hn : As.length = nargs) (hR : d + 1 ≤ R.frames ∧ 19 + maxL + 32 * d ≤ R.locals) (hcs : cells ≤ R.cells ∧ slots ≤ R.slots) (hsz : ls.size = nL) (hsum : zsum st ≤ 8) (hdg : decode cc pc = .ok (.invokevirtual ix, 3)) (kk : ∀ (H : Heap) (locs : List Loc), zI D tc b n S1 s H locs → W p l e R s m args below meth c H locs cells slots Q (zG b m (pc + 3) ls (zl r :: st))) : W p l e R s m args below meth c H locs cells slots Q (zG b m pc ls st0) := by
  have g := zo_spec hg
  refine va_calll (va_runV (As := As.map (zv b)) (rest := st.map (zv b)) C.1 hM ⟨zcB C Y hlink hR, C.1.2.2.2.2 _ V.1, C.1.2.2.2.2 _ V.2⟩ ⟨zB.blind, zrecv C I K hg, fun U hU hW => zpre C I g.1 U hU hW⟩ rfl (by rw [List.length_map]; exact hn) hsz (zstk g.1 hst) (lv_room (by rw [zsum_eq]; exact hsum)) hdg hcs) I.2 (fun _ _ h => h) (fun _ h => h) (fun r' u t H1 locs1 ht hvm hp hB _ _ hS => ?_)
  cases hp
  exact kk H1 locs1 ⟨ht ▸ hB, hS⟩
theorem z_callVv {x : Int32} {ci N : Nat} {T : u_T} (C : zC p m c cc nL s args own D tc) (I : zI D tc b n S s H locs) (hM : zMv l D tc b n y bytes maxL d (zr x :: As) S S1) (Y : zY y bytes maxL none nargs) (V : zYv y) (K : zCl ci y.cls T N) (hg : zo n (10 + ci) x = true) (hlink : Cond.methodLink own ix y ∈ zT) (hst : st0 = As.reverse ++ zr x :: st) (hn : As.length = nargs) (hR : d + 1 ≤ R.frames ∧ 19 + maxL + 32 * d ≤ R.locals) (hcs : cells ≤ R.cells ∧ slots ≤ R.slots) (hsz : ls.size = nL) (hsum : zsum st ≤ 8) (hdg : decode cc pc = .ok (.invokevirtual ix, 3)) (kk : ∀ (H : Heap) (locs : List Loc), zI D tc b n S1 s H locs → W p l e R s m args below meth c H locs cells slots Q (zG b m (pc + 3) ls st)) : W p l e R s m args below meth c H locs cells slots Q (zG b m pc ls st0) := by
  have g := zo_spec hg
  refine va_callv (va_runV (As := As.map (zv b)) (rest := st.map (zv b)) C.1 hM ⟨zcB C Y hlink hR, C.1.2.2.2.2 _ V.1, C.1.2.2.2.2 _ V.2⟩ ⟨zB.blind, zrecv C I K hg, fun U hU hW => zpre C I g.1 U hU hW⟩ rfl (by rw [List.length_map]; exact hn) hsz (zstk g.1 hst) (lv_room (by rw [zsum_eq]; exact hsum)) hdg hcs) I.2 (fun _ _ h => h) (fun _ h => h) (fun u t H1 locs1 ht hvm hp hB _ _ hS => ?_)
  exact kk H1 locs1 ⟨ht ▸ hB, hS⟩
theorem zstkS (h : st0 = As.reverse ++ st) : st0.map (zv b) = (As.map (zv b)).reverse ++ st.map (zv b) := by
  subst h
  rw [List.map_append, List.map_reverse]
theorem zpreS (C : zC p m c cc nL s args own D tc) (I : zI D tc b n S s H locs) (U : State) (hU : U.heap = H) (hW : s.WarmedH U.vm) : va_Pc (As.map (zv b)) (zB D tc b n S) (As.map (zv b)).toArray U := ⟨rfl, by rw [hU]; exact I.1, zKK.moved hW C.2⟩
theorem z_callSi {ty : FieldType} {r : Int32} (C : zC p m c cc nL s args own D tc) (I : zI D tc b n S s H locs) (hM : zMi l D tc b n y bytes maxL ty d As S S1 r) (Y : zY y bytes maxL (some ty) nargs) (V : Cond.static y ∈ zT) (hlink : Cond.methodLink own ix y ∈ zT) (hst : st0 = As.reverse ++ st) (hn : As.length = nargs) (hR : d + 1 ≤ R.frames ∧ 19 + maxL + 32 * d ≤ R.locals) (hcs : cells ≤ R.cells ∧ slots ≤ R.slots) (hsz : ls.size = nL) (hsum : zsum st ≤ 8) (hdg : decode cc pc = .ok (.invokestatic ix, 3)) (kk : ∀ (H : Heap) (locs : List Loc), zI D tc b n S1 s H locs → W p l e R s m args below meth c H locs cells slots Q (zG b m (pc + 3) ls (zi r :: st))) : W p l e R s m args below meth c H locs cells slots Q (zG b m pc ls st0) := by
  refine va_calli (va_runS (As := As.map (zv b)) (rest := st.map (zv b)) C.1 hM ⟨zcB C Y hlink hR, C.1.2.2.2.2 _ V⟩ ⟨zB.blind, fun U hU hW => zpreS C I U hU hW⟩ rfl (by rw [List.length_map]; exact hn) hsz (zstkS hst) (lv_room (by rw [zsum_eq]; exact hsum)) hdg hcs) I.2 (fun _ _ h => h) (fun _ h => h) (fun r' u t H1 locs1 ht hvm hp hB _ _ hS => ?_)
  cases hp
  exact kk H1 locs1 ⟨ht ▸ hB, hS⟩
/-- a call of a private method of the host -/
theorem z_callSNi {ty : FieldType} {r : Int32} {host : String} (C : zC p m c cc nL s args own D tc) (I : zI D tc b n S s H locs) (hM : zMi l D tc b n y bytes maxL ty d As S S1 r) (Y : zY y bytes maxL (some ty) nargs) (V : Cond.static y ∈ zT) (hlink : va_Nw (.methodLinkNest own ix y host) s) (hst : st0 = As.reverse ++ st) (hn : As.length = nargs) (hR : d + 1 ≤ R.frames ∧ 19 + maxL + 32 * d ≤ R.locals) (hcs : cells ≤ R.cells ∧ slots ≤ R.slots) (hsz : ls.size = nL) (hsum : zsum st ≤ 8) (hdg : decode cc pc = .ok (.invokestatic ix, 3)) (kk : ∀ (H : Heap) (locs : List Loc), zI D tc b n S1 s H locs → W p l e R s m args below meth c H locs cells slots Q (zG b m (pc + 3) ls (zi r :: st))) : W p l e R s m args below meth c H locs cells slots Q (zG b m pc ls st0) := by
  have cw : va_CN R s args own ix y host bytes maxL (some ty) (Cond.code y bytes maxL (some ty) :: zT) (zR d) 0 0 nargs := va_cnB nargs C.1.2.2.2.2 (zT_good (ws := Cond.code y bytes maxL (some ty) :: zT) (fun w hw => (List.mem_cons.mp hw).elim (fun q => q ▸ Y.1) (fun h => h))) rfl rfl rfl hlink (C.1.2.2.2.2 _ Y.2.1) Y.2.2.1 ⟨hR.1, by show 8 + (maxL + 11) + 32 * d ≤ R.locals; omega⟩
  refine va_calli (va_runSN (As := As.map (zv b)) (rest := st.map (zv b)) C.1 hM ⟨cw, C.1.2.2.2.2 _ V, trivial⟩ ⟨zB.blind, fun U hU hW => zpreS C I U hU hW⟩ rfl (by rw [List.length_map]; exact hn) hsz (zstkS hst) (lv_room (by rw [zsum_eq]; exact hsum)) hdg hcs) I.2 (fun _ _ h => h) (fun _ h => h) (fun r' u t H1 locs1 ht hvm hp hB _ _ hS => ?_)
  cases hp
  exact kk H1 locs1 ⟨ht ▸ hB, hS⟩
theorem z_callSl {ty : FieldType} {r : Int64} (C : zC p m c cc nL s args own D tc) (I : zI D tc b n S s H locs) (hM : zMl l D tc b n y bytes maxL ty d As S S1 r) (Y : zY y bytes maxL (some ty) nargs) (V : Cond.static y ∈ zT) (hlink : Cond.methodLink own ix y ∈ zT) (hst : st0 = As.reverse ++ st) (hn : As.length = nargs) (hR : d + 1 ≤ R.frames ∧ 19 + maxL + 32 * d ≤ R.locals) (hcs : cells ≤ R.cells ∧ slots ≤ R.slots) (hsz : ls.size = nL) (hsum : zsum st ≤ 8) (hdg : decode cc pc = .ok (.invokestatic ix, 3)) (kk : ∀ (H : Heap) (locs : List Loc), zI D tc b n S1 s H locs → W p l e R s m args below meth c H locs cells slots Q (zG b m (pc + 3) ls (zl r :: st))) : W p l e R s m args below meth c H locs cells slots Q (zG b m pc ls st0) := by
  refine va_calll (va_runS (As := As.map (zv b)) (rest := st.map (zv b)) C.1 hM ⟨zcB C Y hlink hR, C.1.2.2.2.2 _ V⟩ ⟨zB.blind, fun U hU hW => zpreS C I U hU hW⟩ rfl (by rw [List.length_map]; exact hn) hsz (zstkS hst) (lv_room (by rw [zsum_eq]; exact hsum)) hdg hcs) I.2 (fun _ _ h => h) (fun _ h => h) (fun r' u t H1 locs1 ht hvm hp hB _ _ hS => ?_)
  cases hp
  exact kk H1 locs1 ⟨ht ▸ hB, hS⟩
end ZE
end
section
def zbd {α β : Type} (x : α) (f : α → β) : β := f x
theorem znb {α β : Type} {x y : α} {f : α → β} {o : β} (q : y = x) (h : zbd x f = o) : f y = o := by
  subst q
  exact h
def zca {ρ β : Type} (x : Option (ρ × zM)) (f : ρ → zM → Option β) : Option β := match x with
  | none => none
  | some q => f q.1 q.2
theorem zcs {ρ β : Type} {x : Option (ρ × zM)} {f : ρ → zM → Option β} {y : β} (h : zca x f = some y) : ∃ (a : ρ) (S : zM), x = some (a, S) ∧ f a S = some y := by
  cases x with
  | none => cases h
  | some q => exact ⟨q.1, q.2, rfl, h⟩
theorem zca_some {ρ β : Type} {a : ρ} {S : zM} {f : ρ → zM → Option β} : zca (some (a, S)) f = f a S := rfl
def zcg (x y sp dp k : Int32) : Bool := decide (¬ sp < 0) && (decide (¬ dp < 0) && (decide (¬ k < 0) && (decide (sp.toNatClampNeg + k.toNatClampNeg ≤ (zK x.toNatClampNeg).2) && decide (dp.toNatClampNeg + k.toNatClampNeg ≤ (zK y.toNatClampNeg).2))))
theorem zcg_spec {x y sp dp k : Int32} (h : zcg x y sp dp k = true) : ¬ sp < 0 ∧ ¬ dp < 0 ∧ ¬ k < 0 ∧ sp.toNatClampNeg + k.toNatClampNeg ≤ (zK x.toNatClampNeg).2 ∧ dp.toNatClampNeg + k.toNatClampNeg ≤ (zK y.toNatClampNeg).2 := by
  simp only [zcg, Bool.and_eq_true, decide_eq_true_eq] at h
  exact h
def zcy (S : zM) (x y sp dp k : Int32) : zM := fun a j => if a = y.toNatClampNeg then va_cpy (S x.toNatClampNeg) (S y.toNatClampNeg) sp.toNatClampNeg dp.toNatClampNeg k.toNatClampNeg j else S a j
section ZM
variable {p : Program} {l : Launch} {e : Env} {R : Room} {s : State} {m : MethodId} {args : Array Value} {below : List Frame} {meth : Method} {c : Code} {H : Heap} {locs : List Loc} {cells slots : Nat} {Q : State → Prop}
variable {cc : ByteArray} {nL : Nat} {own : String} {D : va_G} {tc : Nat → ClassId} {b n : Nat} {S : zM} {pc : Nat} {ls : Array Slot} {st : List zV}
theorem z_ldcw (C : zC p m c cc nL s args own D tc) {ix : Nat} {v : Int32} (hw : Cond.constant own ix v ∈ zT) (hdg : decode cc pc = .ok (.ldc_w ix, 3)) (kk : W p l e R s m args below meth c H locs cells slots Q (zG b m (pc + 3) ls (zi v :: st))) : W p l e R s m args below meth c H locs cells slots Q (zG b m pc ls st) := lv_ldcw C.1.1 C.1.2.1 C.1.2.2.2.1 (C.1.2.2.2.2 _ hw) hdg kk
theorem z_tsIn (C : zC p m c cc nL s args own D tc) {dflt lo hi : Int} {offs : Array Int} {len : Nat} {x v : Int32} {off : Int} (tgt : Nat) (hx : x = v) (hdg : decode cc pc = .ok (.tableswitch dflt lo hi offs, len)) (h1 : ¬ v.toInt < lo) (h2 : ¬ hi < v.toInt) (ho : offs[(v.toInt - lo).toNat]? = some off) (ht : (pc : Int) + off = (tgt : Int)) (kk : W p l e R s m args below meth c H locs cells slots Q (zG b m tgt ls st)) : W p l e R s m args below meth c H locs cells slots Q (zG b m pc ls (zi x :: st)) := by
  subst hx
  exact lv_tableIn C.1.1 C.1.2.1 hdg h1 h2 ho ht kk
theorem z_tsOut (C : zC p m c cc nL s args own D tc) {dflt lo hi : Int} {offs : Array Int} {len : Nat} {x : Int32} (tgt : Nat) (hdg : decode cc pc = .ok (.tableswitch dflt lo hi offs, len)) (h : x.toInt < lo ∨ hi < x.toInt) (ht : (pc : Int) + dflt = (tgt : Int)) (kk : W p l e R s m args below meth c H locs cells slots Q (zG b m tgt ls st)) : W p l e R s m args below meth c H locs cells slots Q (zG b m pc ls (zi x :: st)) :=
  lv_tableOut C.1.1 C.1.2.1 hdg h ht kk
theorem z_nn {z : Int32} (hz : ¬ z < 0) : z.toInt = (z.toNatClampNeg : Int) := by
  have h := Int32.le_iff_toInt_le.mp (Int32.not_lt.mp hz)
  have h0 : (0 : Int) ≤ z.toInt := by simpa using h
  exact (Int.toNat_of_nonneg h0).symm
theorem z_copyi (C : zC p m c cc nL s args own D tc) (I : zI D tc b n S s H locs) {x y sp dp k : Int32} {ix : Nat} (hgx : zo n 0 x = true) (hgy : zo n 0 y = true) (hg : zcg x y sp dp k = true) (hlink : Cond.methodLink own ix arraycopyName ∈ zT) (hnat : Cond.native arraycopyName ∈ zT) (hstat : Cond.static arraycopyName ∈ zT) (hini : Cond.initialized "java/lang/System" ∈ zT) (hsz : ls.size = nL) (hfr : 1 ≤ R.frames) (hlo : zsum st + (nativeFrameWords "java/lang/System" "arraycopy" 5 + 11) ≤ R.locals) (hdg : decode cc pc = .ok (.invokestatic ix, 3)) (kk : ∀ S1 : zM, S1 = zcy S x y sp dp k → ∀ (H : Heap) (locs : List Loc), zI D tc b n S1 s H locs → W p l e R s m args below meth c H locs cells slots Q (zG b m (pc + 3) ls st)) : W p l e R s m args below meth c H locs cells slots Q (zG b m pc ls (zi k :: zi dp :: zr y :: zi sp :: zr x :: st)) := by
  obtain ⟨x1, x2, x3⟩ := zo_spec hgx
  obtain ⟨y1, y2, y3⟩ := zo_spec hgy
  obtain ⟨p1, p2, p3, p4, p5⟩ := zcg_spec hg
  have hcx := (I.1.2 _ x2).1 (by rw [x3]; decide)
  have hcy := (I.1.2 _ y2).1 (by rw [y3]; decide)
  rw [x3] at hcx
  rw [y3] at hcy
  have hA := (C.2.ty (kd := 0) (by decide)).1
  obtain ⟨-, kx, kx1, kx2, kx3⟩ := hA (zK x.toNatClampNeg).2 (fun j => .int (S x.toNatClampNeg j))
  obtain ⟨-, ky, ky1, ky2, ky3⟩ := hA (zK y.toNatClampNeg).2 (fun j => .int (S y.toNatClampNeg j))
  have hlt : b + y.toNatClampNeg < H.size := (Array.getElem?_eq_some_iff.mp hcy).1
  show W p l e R s m args below meth c H locs cells slots Q (F0 m pc ls (.int k :: .int dp :: zw b y :: .int sp :: zw b x :: st.map (zv b)))
  rw [zw_ref x1, zw_ref y1]
  intro T hT X
  subst hT
  obtain ⟨vm', X', step⟩ := X.arraycopy C.1.1 C.1.2.2.2.1 (C.1.2.2.2.2 _ hlink) (C.1.2.2.2.2 _ hnat) (C.1.2.2.2.2 _ hstat) (C.1.2.2.2.2 _ hini) (srcPos := sp) (destPos := dp) (n := k) hcx hcy (fun _ q => by cases q) (fun _ q => by cases q) (fun q => by cases q) (fun q => by cases q) kx1 ky1 kx3 ky3 (by decide) p1 p2 p3
    (by rw [z_nn p1, z_nn p3, arrV_size]; omega) (by rw [z_nn p2, z_nn p3, arrV_size]; omega)
    (fun vm₁ _ i hi => by
      have q : (arrV (tc 0) (zK x.toNatClampNeg).2 (fun j => zv b (zav 0 (S x.toNatClampNeg j)))).slots.getD (sp.toNatClampNeg + i) .null = .int (S x.toNatClampNeg (sp.toNatClampNeg + i)) := by
        rw [Array.getD_eq_getD_getElem?, arrV_read _ _ (by omega)]
        rfl
      rw [q]
      exact ⟨rfl, trivial⟩)
    (g := F0 m pc ls (.int k :: .int dp :: .ref (b + y.toNatClampNeg) :: .int sp :: .ref (b + x.toNatClampNeg) :: st.map (zv b))) rfl (hsz.trans C.1.2.2.1.symm) (rest := st.map (zv b)) rfl (by rw [C.1.2.1]; exact hdg) hfr (by rw [zsum_eq]; show 2 * 0 + _ + _ ≤ _; omega)
  have hcop : copied (arrV (tc 0) (zK x.toNatClampNeg).2 (fun j => zv b (zav 0 (S x.toNatClampNeg j)))) (arrV (tc 0) (zK y.toNatClampNeg).2 (fun j => zv b (zav 0 (S y.toNatClampNeg j)))) sp dp k = arrV (tc 0) (zK y.toNatClampNeg).2 (fun j => zv b (zav 0 (zcy S x y sp dp k y.toNatClampNeg j))) := by
    refine (va_copied (fun z => .int z) (tc 0) (tc 0) (S x.toNatClampNeg) (S y.toNatClampNeg) p4).trans (congrArg (arrV _ _) (funext fun j => ?_))
    simp [zcy, zav, zv]
  rw [hcop] at X' step
  have oq : ∀ q : Nat, q ≠ b + y.toNatClampNeg → ((T.setVm vm').setCell (b + y.toNatClampNeg) (arrV (tc 0) (zK y.toNatClampNeg).2 (fun j => zv b (zav 0 (zcy S x y sp dp k y.toNatClampNeg j))))).heap[q]? = T.heap[q]? := fun q hq => heapAt_setCell_ne _ (Ne.symm hq)
  have hself := heapAt_setCell_self (s := T.setVm vm') (arrV (tc 0) (zK y.toNatClampNeg).2 (fun j => zv b (zav 0 (zcy S x y sp dp k y.toNatClampNeg j)))) hlt
  have hsize : ((T.setVm vm').setCell (b + y.toNatClampNeg) (arrV (tc 0) (zK y.toNatClampNeg).2 (fun j => zv b (zav 0 (zcy S x y sp dp k y.toNatClampNeg j))))).heap.size = T.heap.size := size_setCell ..
  have hW1 : zW D tc b n (zcy S x y sp dp k) ((T.setVm vm').setCell (b + y.toNatClampNeg) (arrV (tc 0) (zK y.toNatClampNeg).2 (fun j => zv b (zav 0 (zcy S x y sp dp k y.toNatClampNeg j))))).heap := by
    refine ⟨hsize.trans I.1.1, fun a ha => ?_⟩
    by_cases w : a = y.toNatClampNeg
    · subst w
      exact ⟨fun _ => by rw [y3]; exact hself, fun ci h => absurd h (by rw [y3]; omega)⟩
    · have hrow : zcy S x y sp dp k a = S a := by
        funext j
        simp [zcy, w]
      rw [hrow]
      exact (I.1.2 a ha).kept (oq _ (by omega))
  obtain ⟨t, a1, b1⟩ := kk _ rfl _ _ ⟨hW1, Nat.le_trans I.2.1 (Nat.le_of_eq hsize.symm), fun q g1 g2 => (oq q (fun w => g2 (by rw [w]; exact Nat.le_add_right _ _))).trans (I.2.2.1 q g1 g2), fun q hq => (List.mem_append.mp hq).elim (I.2.2.2 q) (fun h => by
    obtain ⟨z, -, hz⟩ := List.mem_map.mp h
    rw [← hz]
    exact Nat.le_add_right _ _)⟩ _ rfl X'
  exact ⟨t, step t a1, b1⟩
end ZM
end
section
theorem zq_1 : Cond.initialized "FleetSlots" ∈ zT := zT_t 1 rfl rfl
theorem zq_2 : Cond.initialized "FleetSlots$Steps" ∈ zT := zT_t 2 rfl rfl
theorem zq_3 : Cond.initialized "FleetSlots$Device" ∈ zT := zT_t 3 rfl rfl
theorem zq_4 : Cond.initialized "FleetSlots$Slot" ∈ zT := zT_t 4 rfl rfl
theorem zq_5 : Cond.initialized "FleetSlots$Campaign" ∈ zT := zT_t 5 rfl rfl
theorem zq_6 : Cond.initialized "FleetSlots$Asks" ∈ zT := zT_t 6 rfl rfl
theorem zq_7 : Cond.initialized "FleetSlots$Sheet" ∈ zT := zT_t 7 rfl rfl
theorem zq_8 : Cond.initialized "FleetSlots$Version" ∈ zT := zT_t 8 rfl rfl
theorem zq_9 : Cond.initialized "FleetSlotsModel" ∈ zT := zT_t 9 rfl rfl
theorem zq_10 : Cond.initialized "java/lang/System" ∈ zT := zT_t 10 rfl rfl
theorem zq_11 : Cond.initialized "java/lang/Math" ∈ zT := zT_t 11 rfl rfl
theorem zq_15 : Cond.instanceMethod ({ cls := "FleetSlots", name := "<init>", desc := "()V" } : MethodName) ∈ zT := zT_t 15 rfl rfl
theorem zq_16 : Cond.code ({ cls := "FleetSlots", name := "<init>", desc := "()V" } : MethodName) prog_1_method_1_code (2 : Nat) (Option.none : Option FieldType) ∈ zT := zT_t 16 rfl rfl
theorem zq_27 : Cond.instanceMethod ({ cls := "FleetSlots$Steps", name := "<init>", desc := "()V" } : MethodName) ∈ zT := zT_t 27 rfl rfl
theorem zq_28 : Cond.code ({ cls := "FleetSlots$Steps", name := "<init>", desc := "()V" } : MethodName) prog_7_method_1_code (1 : Nat) (Option.none : Option FieldType) ∈ zT := zT_t 28 rfl rfl
theorem zq_32 : Cond.fieldLink "FleetSlots$Steps" (11 : Nat) "FleetSlots$Steps" "bytes" "[[I" ∈ zT := zT_t 32 rfl rfl
theorem zq_33 : Cond.fieldLink "FleetSlots$Steps" (16 : Nat) "FleetSlots$Steps" "leastBytes" "[I" ∈ zT := zT_t 33 rfl rfl
theorem zq_34 : Cond.fieldLink "FleetSlots" (128 : Nat) "FleetSlots$Steps" "leastBytes" "[I" ∈ zT := zT_t 34 rfl rfl
theorem zq_35 : Cond.fieldLink "FleetSlots$Steps" (20 : Nat) "FleetSlots$Steps" "fewest" "[I" ∈ zT := zT_t 35 rfl rfl
theorem zq_36 : Cond.fieldLink "FleetSlots" (131 : Nat) "FleetSlots$Steps" "fewest" "[I" ∈ zT := zT_t 36 rfl rfl
theorem zq_37 : Cond.fieldLink "FleetSlots$Steps" (23 : Nat) "FleetSlots$Steps" "next" "[I" ∈ zT := zT_t 37 rfl rfl
theorem zq_38 : Cond.fieldLink "FleetSlots$Steps" (26 : Nat) "FleetSlots$Steps" "known" "I" ∈ zT := zT_t 38 rfl rfl
theorem zq_39 : Cond.fieldLink "FleetSlots" (311 : Nat) "FleetSlots$Steps" "known" "I" ∈ zT := zT_t 39 rfl rfl
theorem zq_40 : Cond.laysFinal "FleetSlots$Steps" "FleetSlots$Steps" "bytes" "[[I" ∈ zT := zT_t 40 rfl rfl
theorem zq_42 : Cond.laysFinal "FleetSlots$Steps" "FleetSlots$Steps" "leastBytes" "[I" ∈ zT := zT_t 42 rfl rfl
theorem zq_44 : Cond.laysFinal "FleetSlots$Steps" "FleetSlots$Steps" "fewest" "[I" ∈ zT := zT_t 44 rfl rfl
theorem zq_46 : Cond.laysFinal "FleetSlots$Steps" "FleetSlots$Steps" "next" "[I" ∈ zT := zT_t 46 rfl rfl
theorem zq_48 : Cond.lays "FleetSlots$Steps" "FleetSlots$Steps" "known" "I" ∈ zT := zT_t 48 rfl rfl
theorem zq_56 : Cond.instanceMethod ({ cls := "FleetSlots$Device", name := "<init>", desc := "(I)V" } : MethodName) ∈ zT := zT_t 56 rfl rfl
theorem zq_57 : Cond.code ({ cls := "FleetSlots$Device", name := "<init>", desc := "(I)V" } : MethodName) prog_4_method_1_code (2 : Nat) (Option.none : Option FieldType) ∈ zT := zT_t 57 rfl rfl
theorem zq_62 : Cond.instanceMethod ({ cls := "FleetSlots$Slot", name := "<init>", desc := "()V" } : MethodName) ∈ zT := zT_t 62 rfl rfl
theorem zq_63 : Cond.code ({ cls := "FleetSlots$Slot", name := "<init>", desc := "()V" } : MethodName) prog_6_method_1_code (1 : Nat) (Option.none : Option FieldType) ∈ zT := zT_t 63 rfl rfl
theorem zq_65 : Cond.fieldLink "FleetSlots$Slot" (9 : Nat) "FleetSlots$Slot" "program" "LFleetSlots$Version;" ∈ zT := zT_t 65 rfl rfl
theorem zq_66 : Cond.fieldLink "FleetSlots$Device" (47 : Nat) "FleetSlots$Slot" "program" "LFleetSlots$Version;" ∈ zT := zT_t 66 rfl rfl
theorem zq_67 : Cond.fieldLink "FleetSlots$Slot" (15 : Nat) "FleetSlots$Slot" "blocks" "I" ∈ zT := zT_t 67 rfl rfl
theorem zq_68 : Cond.fieldLink "FleetSlots$Device" (51 : Nat) "FleetSlots$Slot" "blocks" "I" ∈ zT := zT_t 68 rfl rfl
theorem zq_69 : Cond.fieldLink "FleetSlots" (169 : Nat) "FleetSlots$Slot" "blocks" "I" ∈ zT := zT_t 69 rfl rfl
theorem zq_70 : Cond.lays "FleetSlots$Slot" "FleetSlots$Slot" "program" "LFleetSlots$Version;" ∈ zT := zT_t 70 rfl rfl
theorem zq_72 : Cond.lays "FleetSlots$Slot" "FleetSlots$Slot" "blocks" "I" ∈ zT := zT_t 72 rfl rfl
theorem zq_76 : Cond.fieldLink "FleetSlots" (330 : Nat) "FleetSlots$Device" "number" "I" ∈ zT := zT_t 76 rfl rfl
theorem zq_77 : Cond.fieldLink "FleetSlots$Device" (25 : Nat) "FleetSlots$Device" "sort" "I" ∈ zT := zT_t 77 rfl rfl
theorem zq_78 : Cond.fieldLink "FleetSlots$Asks" (62 : Nat) "FleetSlots$Device" "sort" "I" ∈ zT := zT_t 78 rfl rfl
theorem zq_79 : Cond.fieldLink "FleetSlots" (286 : Nat) "FleetSlots$Device" "sort" "I" ∈ zT := zT_t 79 rfl rfl
theorem zq_80 : Cond.fieldLink "FleetSlots$Device" (28 : Nat) "FleetSlots$Device" "hub" "LFleetSlots$Device;" ∈ zT := zT_t 80 rfl rfl
theorem zq_81 : Cond.fieldLink "FleetSlots" (349 : Nat) "FleetSlots$Device" "hub" "LFleetSlots$Device;" ∈ zT := zT_t 81 rfl rfl
theorem zq_82 : Cond.fieldLink "FleetSlots$Device" (12 : Nat) "FleetSlots$Device" "active" "LFleetSlots$Slot;" ∈ zT := zT_t 82 rfl rfl
theorem zq_83 : Cond.fieldLink "FleetSlots$Asks" (37 : Nat) "FleetSlots$Device" "active" "LFleetSlots$Slot;" ∈ zT := zT_t 83 rfl rfl
theorem zq_84 : Cond.fieldLink "FleetSlots" (154 : Nat) "FleetSlots$Device" "active" "LFleetSlots$Slot;" ∈ zT := zT_t 84 rfl rfl
theorem zq_85 : Cond.fieldLink "FleetSlots$Device" (18 : Nat) "FleetSlots$Device" "spare" "LFleetSlots$Slot;" ∈ zT := zT_t 85 rfl rfl
theorem zq_86 : Cond.fieldLink "FleetSlots" (166 : Nat) "FleetSlots$Device" "spare" "LFleetSlots$Slot;" ∈ zT := zT_t 86 rfl rfl
theorem zq_87 : Cond.fieldLink "FleetSlots$Device" (52 : Nat) "FleetSlots$Device" "activeSlot" "I" ∈ zT := zT_t 87 rfl rfl
theorem zq_88 : Cond.fieldLink "FleetSlots" (163 : Nat) "FleetSlots$Device" "activeSlot" "I" ∈ zT := zT_t 88 rfl rfl
theorem zq_89 : Cond.fieldLink "FleetSlots$Device" (55 : Nat) "FleetSlots$Device" "spareIsToBeTried" "Z" ∈ zT := zT_t 89 rfl rfl
theorem zq_90 : Cond.fieldLink "FleetSlots$Device" (59 : Nat) "FleetSlots$Device" "triesLeft" "I" ∈ zT := zT_t 90 rfl rfl
theorem zq_91 : Cond.fieldLink "FleetSlots" (172 : Nat) "FleetSlots$Device" "triesLeft" "I" ∈ zT := zT_t 91 rfl rfl
theorem zq_92 : Cond.fieldLink "FleetSlots$Device" (44 : Nat) "FleetSlots$Device" "fuse" "I" ∈ zT := zT_t 92 rfl rfl
theorem zq_93 : Cond.fieldLink "FleetSlots" (175 : Nat) "FleetSlots$Device" "fuse" "I" ∈ zT := zT_t 93 rfl rfl
theorem zq_94 : Cond.fieldLink "FleetSlots$Asks" (68 : Nat) "FleetSlots$Device" "fuse" "I" ∈ zT := zT_t 94 rfl rfl
theorem zq_95 : Cond.fieldLink "FleetSlots$Asks" (49 : Nat) "FleetSlots$Device" "fails" "I" ∈ zT := zT_t 95 rfl rfl
theorem zq_96 : Cond.fieldLink "FleetSlots" (178 : Nat) "FleetSlots$Device" "fails" "I" ∈ zT := zT_t 96 rfl rfl
theorem zq_97 : Cond.fieldLink "FleetSlots" (321 : Nat) "FleetSlots$Device" "failsSinceFresh" "I" ∈ zT := zT_t 97 rfl rfl
theorem zq_98 : Cond.laysFinal "FleetSlots$Device" "FleetSlots$Device" "number" "I" ∈ zT := zT_t 98 rfl rfl
theorem zq_100 : Cond.lays "FleetSlots$Device" "FleetSlots$Device" "sort" "I" ∈ zT := zT_t 100 rfl rfl
theorem zq_102 : Cond.lays "FleetSlots$Device" "FleetSlots$Device" "hub" "LFleetSlots$Device;" ∈ zT := zT_t 102 rfl rfl
theorem zq_104 : Cond.lays "FleetSlots$Device" "FleetSlots$Device" "active" "LFleetSlots$Slot;" ∈ zT := zT_t 104 rfl rfl
theorem zq_106 : Cond.lays "FleetSlots$Device" "FleetSlots$Device" "spare" "LFleetSlots$Slot;" ∈ zT := zT_t 106 rfl rfl
theorem zq_108 : Cond.lays "FleetSlots$Device" "FleetSlots$Device" "activeSlot" "I" ∈ zT := zT_t 108 rfl rfl
theorem zq_110 : Cond.lays "FleetSlots$Device" "FleetSlots$Device" "spareIsToBeTried" "Z" ∈ zT := zT_t 110 rfl rfl
theorem zq_112 : Cond.lays "FleetSlots$Device" "FleetSlots$Device" "triesLeft" "I" ∈ zT := zT_t 112 rfl rfl
theorem zq_114 : Cond.lays "FleetSlots$Device" "FleetSlots$Device" "fuse" "I" ∈ zT := zT_t 114 rfl rfl
theorem zq_116 : Cond.lays "FleetSlots$Device" "FleetSlots$Device" "fails" "I" ∈ zT := zT_t 116 rfl rfl
theorem zq_118 : Cond.lays "FleetSlots$Device" "FleetSlots$Device" "failsSinceFresh" "I" ∈ zT := zT_t 118 rfl rfl
theorem zq_124 : Cond.instanceMethod ({ cls := "FleetSlots$Campaign", name := "<init>", desc := "()V" } : MethodName) ∈ zT := zT_t 124 rfl rfl
theorem zq_125 : Cond.code ({ cls := "FleetSlots$Campaign", name := "<init>", desc := "()V" } : MethodName) prog_3_method_1_code (1 : Nat) (Option.none : Option FieldType) ∈ zT := zT_t 125 rfl rfl
theorem zq_127 : Cond.fieldLink "FleetSlots$Campaign" (19 : Nat) "FleetSlots$Campaign" "target" "LFleetSlots$Version;" ∈ zT := zT_t 127 rfl rfl
theorem zq_128 : Cond.fieldLink "FleetSlots" (232 : Nat) "FleetSlots$Campaign" "target" "LFleetSlots$Version;" ∈ zT := zT_t 128 rfl rfl
theorem zq_129 : Cond.fieldLink "FleetSlots$Campaign" (9 : Nat) "FleetSlots$Campaign" "shares" "[I" ∈ zT := zT_t 129 rfl rfl
theorem zq_130 : Cond.fieldLink "FleetSlots$Campaign" (34 : Nat) "FleetSlots$Campaign" "waves" "I" ∈ zT := zT_t 130 rfl rfl
theorem zq_131 : Cond.fieldLink "FleetSlots$Campaign" (38 : Nat) "FleetSlots$Campaign" "gate" "I" ∈ zT := zT_t 131 rfl rfl
theorem zq_132 : Cond.fieldLink "FleetSlots$Campaign" (15 : Nat) "FleetSlots$Campaign" "wasAsked" "[Z" ∈ zT := zT_t 132 rfl rfl
theorem zq_133 : Cond.fieldLink "FleetSlots" (345 : Nat) "FleetSlots$Campaign" "wasAsked" "[Z" ∈ zT := zT_t 133 rfl rfl
theorem zq_134 : Cond.fieldLink "FleetSlots$Campaign" (51 : Nat) "FleetSlots$Campaign" "wave" "I" ∈ zT := zT_t 134 rfl rfl
theorem zq_135 : Cond.fieldLink "FleetSlots" (247 : Nat) "FleetSlots$Campaign" "wave" "I" ∈ zT := zT_t 135 rfl rfl
theorem zq_136 : Cond.fieldLink "FleetSlots$Campaign" (54 : Nat) "FleetSlots$Campaign" "asked" "I" ∈ zT := zT_t 136 rfl rfl
theorem zq_137 : Cond.fieldLink "FleetSlots" (250 : Nat) "FleetSlots$Campaign" "asked" "I" ∈ zT := zT_t 137 rfl rfl
theorem zq_138 : Cond.fieldLink "FleetSlots$Campaign" (57 : Nat) "FleetSlots$Campaign" "failed" "I" ∈ zT := zT_t 138 rfl rfl
theorem zq_139 : Cond.fieldLink "FleetSlots" (253 : Nat) "FleetSlots$Campaign" "failed" "I" ∈ zT := zT_t 139 rfl rfl
theorem zq_140 : Cond.fieldLink "FleetSlots$Campaign" (41 : Nat) "FleetSlots$Campaign" "state" "I" ∈ zT := zT_t 140 rfl rfl
theorem zq_141 : Cond.fieldLink "FleetSlots" (256 : Nat) "FleetSlots$Campaign" "state" "I" ∈ zT := zT_t 141 rfl rfl
theorem zq_142 : Cond.fieldLink "FleetSlots$Campaign" (44 : Nat) "FleetSlots$Campaign" "bytesSent" "I" ∈ zT := zT_t 142 rfl rfl
theorem zq_143 : Cond.fieldLink "FleetSlots" (259 : Nat) "FleetSlots$Campaign" "bytesSent" "I" ∈ zT := zT_t 143 rfl rfl
theorem zq_144 : Cond.lays "FleetSlots$Campaign" "FleetSlots$Campaign" "target" "LFleetSlots$Version;" ∈ zT := zT_t 144 rfl rfl
theorem zq_146 : Cond.laysFinal "FleetSlots$Campaign" "FleetSlots$Campaign" "shares" "[I" ∈ zT := zT_t 146 rfl rfl
theorem zq_148 : Cond.lays "FleetSlots$Campaign" "FleetSlots$Campaign" "waves" "I" ∈ zT := zT_t 148 rfl rfl
theorem zq_150 : Cond.lays "FleetSlots$Campaign" "FleetSlots$Campaign" "gate" "I" ∈ zT := zT_t 150 rfl rfl
theorem zq_152 : Cond.laysFinal "FleetSlots$Campaign" "FleetSlots$Campaign" "wasAsked" "[Z" ∈ zT := zT_t 152 rfl rfl
theorem zq_154 : Cond.lays "FleetSlots$Campaign" "FleetSlots$Campaign" "wave" "I" ∈ zT := zT_t 154 rfl rfl
theorem zq_156 : Cond.lays "FleetSlots$Campaign" "FleetSlots$Campaign" "asked" "I" ∈ zT := zT_t 156 rfl rfl
theorem zq_158 : Cond.lays "FleetSlots$Campaign" "FleetSlots$Campaign" "failed" "I" ∈ zT := zT_t 158 rfl rfl
theorem zq_160 : Cond.lays "FleetSlots$Campaign" "FleetSlots$Campaign" "state" "I" ∈ zT := zT_t 160 rfl rfl
theorem zq_162 : Cond.lays "FleetSlots$Campaign" "FleetSlots$Campaign" "bytesSent" "I" ∈ zT := zT_t 162 rfl rfl
theorem zq_169 : Cond.instanceMethod ({ cls := "FleetSlots$Asks", name := "<init>", desc := "()V" } : MethodName) ∈ zT := zT_t 169 rfl rfl
theorem zq_170 : Cond.code ({ cls := "FleetSlots$Asks", name := "<init>", desc := "()V" } : MethodName) prog_2_method_1_code (1 : Nat) (Option.none : Option FieldType) ∈ zT := zT_t 170 rfl rfl
theorem zq_172 : Cond.fieldLink "FleetSlots$Asks" (9 : Nat) "FleetSlots$Asks" "traced" "[I" ∈ zT := zT_t 172 rfl rfl
theorem zq_173 : Cond.fieldLink "FleetSlots$Asks" (15 : Nat) "FleetSlots$Asks" "tracedCount" "I" ∈ zT := zT_t 173 rfl rfl
theorem zq_174 : Cond.laysFinal "FleetSlots$Asks" "FleetSlots$Asks" "traced" "[I" ∈ zT := zT_t 174 rfl rfl
theorem zq_176 : Cond.lays "FleetSlots$Asks" "FleetSlots$Asks" "tracedCount" "I" ∈ zT := zT_t 176 rfl rfl
theorem zq_181 : Cond.instanceMethod ({ cls := "FleetSlots$Sheet", name := "<init>", desc := "()V" } : MethodName) ∈ zT := zT_t 181 rfl rfl
theorem zq_182 : Cond.code ({ cls := "FleetSlots$Sheet", name := "<init>", desc := "()V" } : MethodName) prog_5_method_1_code (1 : Nat) (Option.none : Option FieldType) ∈ zT := zT_t 182 rfl rfl
theorem zq_184 : Cond.fieldLink "FleetSlots$Sheet" (9 : Nat) "FleetSlots$Sheet" "items" "[I" ∈ zT := zT_t 184 rfl rfl
theorem zq_185 : Cond.fieldLink "FleetSlots$Campaign" (23 : Nat) "FleetSlots$Sheet" "items" "[I" ∈ zT := zT_t 185 rfl rfl
theorem zq_186 : Cond.fieldLink "FleetSlots" (92 : Nat) "FleetSlots$Sheet" "items" "[I" ∈ zT := zT_t 186 rfl rfl
theorem zq_187 : Cond.fieldLink "FleetSlots$Sheet" (15 : Nat) "FleetSlots$Sheet" "missing" "Z" ∈ zT := zT_t 187 rfl rfl
theorem zq_188 : Cond.fieldLink "FleetSlots" (77 : Nat) "FleetSlots$Sheet" "missing" "Z" ∈ zT := zT_t 188 rfl rfl
theorem zq_189 : Cond.fieldLink "FleetSlots$Sheet" (19 : Nat) "FleetSlots$Sheet" "lane" "I" ∈ zT := zT_t 189 rfl rfl
theorem zq_190 : Cond.fieldLink "FleetSlots" (89 : Nat) "FleetSlots$Sheet" "lane" "I" ∈ zT := zT_t 190 rfl rfl
theorem zq_191 : Cond.fieldLink "FleetSlots$Sheet" (23 : Nat) "FleetSlots$Sheet" "size" "I" ∈ zT := zT_t 191 rfl rfl
theorem zq_192 : Cond.fieldLink "FleetSlots" (102 : Nat) "FleetSlots$Sheet" "size" "I" ∈ zT := zT_t 192 rfl rfl
theorem zq_193 : Cond.laysFinal "FleetSlots$Sheet" "FleetSlots$Sheet" "items" "[I" ∈ zT := zT_t 193 rfl rfl
theorem zq_195 : Cond.lays "FleetSlots$Sheet" "FleetSlots$Sheet" "missing" "Z" ∈ zT := zT_t 195 rfl rfl
theorem zq_197 : Cond.lays "FleetSlots$Sheet" "FleetSlots$Sheet" "lane" "I" ∈ zT := zT_t 197 rfl rfl
theorem zq_199 : Cond.lays "FleetSlots$Sheet" "FleetSlots$Sheet" "size" "I" ∈ zT := zT_t 199 rfl rfl
theorem zq_204 : Cond.instanceMethod ({ cls := "FleetSlots$Version", name := "<init>", desc := "(I)V" } : MethodName) ∈ zT := zT_t 204 rfl rfl
theorem zq_205 : Cond.code ({ cls := "FleetSlots$Version", name := "<init>", desc := "(I)V" } : MethodName) prog_8_method_1_code (2 : Nat) (Option.none : Option FieldType) ∈ zT := zT_t 205 rfl rfl
theorem zq_208 : Cond.fieldLink "FleetSlots$Slot" (20 : Nat) "FleetSlots$Version" "number" "I" ∈ zT := zT_t 208 rfl rfl
theorem zq_209 : Cond.fieldLink "FleetSlots$Device" (66 : Nat) "FleetSlots$Version" "number" "I" ∈ zT := zT_t 209 rfl rfl
theorem zq_210 : Cond.fieldLink "FleetSlots" (318 : Nat) "FleetSlots$Version" "number" "I" ∈ zT := zT_t 210 rfl rfl
theorem zq_211 : Cond.fieldLink "FleetSlots$Version" (13 : Nat) "FleetSlots$Version" "blocks" "I" ∈ zT := zT_t 211 rfl rfl
theorem zq_212 : Cond.fieldLink "FleetSlots$Device" (32 : Nat) "FleetSlots$Version" "blocks" "I" ∈ zT := zT_t 212 rfl rfl
theorem zq_213 : Cond.fieldLink "FleetSlots$Slot" (25 : Nat) "FleetSlots$Version" "blocks" "I" ∈ zT := zT_t 213 rfl rfl
theorem zq_214 : Cond.fieldLink "FleetSlots" (352 : Nat) "FleetSlots$Version" "blocks" "I" ∈ zT := zT_t 214 rfl rfl
theorem zq_215 : Cond.fieldLink "FleetSlots$Version" (16 : Nat) "FleetSlots$Version" "floor" "I" ∈ zT := zT_t 215 rfl rfl
theorem zq_216 : Cond.fieldLink "FleetSlots$Device" (41 : Nat) "FleetSlots$Version" "floor" "I" ∈ zT := zT_t 216 rfl rfl
theorem zq_217 : Cond.fieldLink "FleetSlots" (314 : Nat) "FleetSlots$Version" "floor" "I" ∈ zT := zT_t 217 rfl rfl
theorem zq_218 : Cond.fieldLink "FleetSlots$Version" (19 : Nat) "FleetSlots$Version" "ails" "I" ∈ zT := zT_t 218 rfl rfl
theorem zq_219 : Cond.laysFinal "FleetSlots$Version" "FleetSlots$Version" "number" "I" ∈ zT := zT_t 219 rfl rfl
theorem zq_221 : Cond.lays "FleetSlots$Version" "FleetSlots$Version" "blocks" "I" ∈ zT := zT_t 221 rfl rfl
theorem zq_223 : Cond.lays "FleetSlots$Version" "FleetSlots$Version" "floor" "I" ∈ zT := zT_t 223 rfl rfl
theorem zq_225 : Cond.lays "FleetSlots$Version" "FleetSlots$Version" "ails" "I" ∈ zT := zT_t 225 rfl rfl
theorem zq_228 : Cond.fieldLink "FleetSlots" (11 : Nat) "FleetSlots" "sheets" "[LFleetSlots$Sheet;" ∈ zT := zT_t 228 rfl rfl
theorem zq_229 : Cond.fieldLink "FleetSlots" (17 : Nat) "FleetSlots" "versions" "[LFleetSlots$Version;" ∈ zT := zT_t 229 rfl rfl
theorem zq_230 : Cond.fieldLink "FleetSlots" (109 : Nat) "FleetSlots" "versionCount" "I" ∈ zT := zT_t 230 rfl rfl
theorem zq_231 : Cond.fieldLink "FleetSlots" (24 : Nat) "FleetSlots" "steps" "LFleetSlots$Steps;" ∈ zT := zT_t 231 rfl rfl
theorem zq_232 : Cond.fieldLink "FleetSlots" (30 : Nat) "FleetSlots" "devices" "[LFleetSlots$Device;" ∈ zT := zT_t 232 rfl rfl
theorem zq_233 : Cond.fieldLink "FleetSlots" (147 : Nat) "FleetSlots" "deviceCount" "I" ∈ zT := zT_t 233 rfl rfl
theorem zq_234 : Cond.fieldLink "FleetSlots" (37 : Nat) "FleetSlots" "standIn" "LFleetSlots$Device;" ∈ zT := zT_t 234 rfl rfl
theorem zq_235 : Cond.fieldLink "FleetSlots" (44 : Nat) "FleetSlots" "current" "LFleetSlots$Campaign;" ∈ zT := zT_t 235 rfl rfl
theorem zq_236 : Cond.fieldLink "FleetSlots" (211 : Nat) "FleetSlots" "seedBits" "I" ∈ zT := zT_t 236 rfl rfl
theorem zq_237 : Cond.fieldLink "FleetSlots" (51 : Nat) "FleetSlots" "asks" "LFleetSlots$Asks;" ∈ zT := zT_t 237 rfl rfl
theorem zq_238 : Cond.fieldLink "FleetSlots" (55 : Nat) "FleetSlots" "latestFinding" "I" ∈ zT := zT_t 238 rfl rfl
theorem zq_239 : Cond.laysFinal "FleetSlots" "FleetSlots" "sheets" "[LFleetSlots$Sheet;" ∈ zT := zT_t 239 rfl rfl
theorem zq_241 : Cond.laysFinal "FleetSlots" "FleetSlots" "versions" "[LFleetSlots$Version;" ∈ zT := zT_t 241 rfl rfl
theorem zq_243 : Cond.lays "FleetSlots" "FleetSlots" "versionCount" "I" ∈ zT := zT_t 243 rfl rfl
theorem zq_245 : Cond.laysFinal "FleetSlots" "FleetSlots" "steps" "LFleetSlots$Steps;" ∈ zT := zT_t 245 rfl rfl
theorem zq_247 : Cond.laysFinal "FleetSlots" "FleetSlots" "devices" "[LFleetSlots$Device;" ∈ zT := zT_t 247 rfl rfl
theorem zq_249 : Cond.lays "FleetSlots" "FleetSlots" "deviceCount" "I" ∈ zT := zT_t 249 rfl rfl
theorem zq_251 : Cond.laysFinal "FleetSlots" "FleetSlots" "standIn" "LFleetSlots$Device;" ∈ zT := zT_t 251 rfl rfl
theorem zq_253 : Cond.laysFinal "FleetSlots" "FleetSlots" "current" "LFleetSlots$Campaign;" ∈ zT := zT_t 253 rfl rfl
theorem zq_255 : Cond.lays "FleetSlots" "FleetSlots" "seedBits" "I" ∈ zT := zT_t 255 rfl rfl
theorem zq_257 : Cond.laysFinal "FleetSlots" "FleetSlots" "asks" "LFleetSlots$Asks;" ∈ zT := zT_t 257 rfl rfl
theorem zq_259 : Cond.lays "FleetSlots" "FleetSlots" "latestFinding" "I" ∈ zT := zT_t 259 rfl rfl
theorem zq_263 : Cond.instanceMethod ({ cls := "FleetSlots", name := "sheet", desc := "(III)I" } : MethodName) ∈ zT := zT_t 263 rfl rfl
theorem zq_264 : Cond.selects "FleetSlots" ({ cls := "FleetSlots", name := "sheet", desc := "(III)I" } : MethodName) ({ cls := "FleetSlots", name := "sheet", desc := "(III)I" } : MethodName) ∈ zT := zT_t 264 rfl rfl
theorem zq_265 : Cond.code ({ cls := "FleetSlots", name := "sheet", desc := "(III)I" } : MethodName) prog_1_method_2_code (4 : Nat) (Option.some FieldType.int) ∈ zT := zT_t 265 rfl rfl
theorem zq_266 : Cond.methodLink "FleetSlots" (61 : Nat) ({ cls := "FleetSlots", name := "isSheet", desc := "(I)Z" } : MethodName) ∈ zT := zT_t 266 rfl rfl
theorem zq_267 : Cond.static ({ cls := "FleetSlots", name := "isSheet", desc := "(I)Z" } : MethodName) ∈ zT := zT_t 267 rfl rfl
theorem zq_268 : Cond.code ({ cls := "FleetSlots", name := "isSheet", desc := "(I)Z" } : MethodName) prog_1_method_27_code (1 : Nat) (Option.some FieldType.boolean) ∈ zT := zT_t 268 rfl rfl
theorem zq_269 : Cond.constant "FleetSlots" (65 : Nat) (-1000001 : Int32) ∈ zT := zT_t 269 rfl rfl
theorem zq_270 : Cond.methodLink "FleetSlots" (66 : Nat) ({ cls := "FleetSlots", name := "found", desc := "(I)I" } : MethodName) ∈ zT := zT_t 270 rfl rfl
theorem zq_272 : Cond.instanceMethod ({ cls := "FleetSlots", name := "found", desc := "(I)I" } : MethodName) ∈ zT := zT_t 272 rfl rfl
theorem zq_273 : Cond.code ({ cls := "FleetSlots", name := "found", desc := "(I)I" } : MethodName) prog_1_method_33_code (2 : Nat) (Option.some FieldType.int) ∈ zT := zT_t 273 rfl rfl
theorem zq_274 : Cond.constant "FleetSlots" (317 : Nat) (-1000010 : Int32) ∈ zT := zT_t 274 rfl rfl
theorem zq_275 : Cond.methodLink "FleetSlots" (70 : Nat) ({ cls := "FleetSlots$Sheet", name := "lay", desc := "(II)V" } : MethodName) ∈ zT := zT_t 275 rfl rfl
theorem zq_276 : Cond.instanceMethod ({ cls := "FleetSlots$Sheet", name := "lay", desc := "(II)V" } : MethodName) ∈ zT := zT_t 276 rfl rfl
theorem zq_277 : Cond.selects "FleetSlots$Sheet" ({ cls := "FleetSlots$Sheet", name := "lay", desc := "(II)V" } : MethodName) ({ cls := "FleetSlots$Sheet", name := "lay", desc := "(II)V" } : MethodName) ∈ zT := zT_t 277 rfl rfl
theorem zq_278 : Cond.code ({ cls := "FleetSlots$Sheet", name := "lay", desc := "(II)V" } : MethodName) prog_5_method_2_code (4 : Nat) (Option.none : Option FieldType) ∈ zT := zT_t 278 rfl rfl
theorem zq_279 : Cond.methodLink "FleetSlots" (74 : Nat) ({ cls := "FleetSlots", name := "passed", desc := "(I)I" } : MethodName) ∈ zT := zT_t 279 rfl rfl
theorem zq_281 : Cond.instanceMethod ({ cls := "FleetSlots", name := "passed", desc := "(I)I" } : MethodName) ∈ zT := zT_t 281 rfl rfl
theorem zq_282 : Cond.code ({ cls := "FleetSlots", name := "passed", desc := "(I)I" } : MethodName) prog_1_method_34_code (2 : Nat) (Option.some FieldType.int) ∈ zT := zT_t 282 rfl rfl
theorem zq_284 : Cond.instanceMethod ({ cls := "FleetSlots", name := "set", desc := "(III)I" } : MethodName) ∈ zT := zT_t 284 rfl rfl
theorem zq_285 : Cond.selects "FleetSlots" ({ cls := "FleetSlots", name := "set", desc := "(III)I" } : MethodName) ({ cls := "FleetSlots", name := "set", desc := "(III)I" } : MethodName) ∈ zT := zT_t 285 rfl rfl
theorem zq_286 : Cond.code ({ cls := "FleetSlots", name := "set", desc := "(III)I" } : MethodName) prog_1_method_3_code (5 : Nat) (Option.some FieldType.int) ∈ zT := zT_t 286 rfl rfl
theorem zq_287 : Cond.methodLink "FleetSlots" (81 : Nat) ({ cls := "FleetSlots$Sheet", name := "hasPlaces", desc := "(II)Z" } : MethodName) ∈ zT := zT_t 287 rfl rfl
theorem zq_288 : Cond.instanceMethod ({ cls := "FleetSlots$Sheet", name := "hasPlaces", desc := "(II)Z" } : MethodName) ∈ zT := zT_t 288 rfl rfl
theorem zq_289 : Cond.selects "FleetSlots$Sheet" ({ cls := "FleetSlots$Sheet", name := "hasPlaces", desc := "(II)Z" } : MethodName) ({ cls := "FleetSlots$Sheet", name := "hasPlaces", desc := "(II)Z" } : MethodName) ∈ zT := zT_t 289 rfl rfl
theorem zq_290 : Cond.code ({ cls := "FleetSlots$Sheet", name := "hasPlaces", desc := "(II)Z" } : MethodName) prog_5_method_3_code (3 : Nat) (Option.some FieldType.boolean) ∈ zT := zT_t 290 rfl rfl
theorem zq_291 : Cond.methodLink "FleetSlots" (85 : Nat) ({ cls := "FleetSlots$Sheet", name := "put", desc := "(II)I" } : MethodName) ∈ zT := zT_t 291 rfl rfl
theorem zq_292 : Cond.instanceMethod ({ cls := "FleetSlots$Sheet", name := "put", desc := "(II)I" } : MethodName) ∈ zT := zT_t 292 rfl rfl
theorem zq_293 : Cond.selects "FleetSlots$Sheet" ({ cls := "FleetSlots$Sheet", name := "put", desc := "(II)I" } : MethodName) ({ cls := "FleetSlots$Sheet", name := "put", desc := "(II)I" } : MethodName) ∈ zT := zT_t 293 rfl rfl
theorem zq_294 : Cond.code ({ cls := "FleetSlots$Sheet", name := "put", desc := "(II)I" } : MethodName) prog_5_method_4_code (3 : Nat) (Option.some FieldType.int) ∈ zT := zT_t 294 rfl rfl
theorem zq_296 : Cond.instanceMethod ({ cls := "FleetSlots", name := "copy", desc := "(IIIII)I" } : MethodName) ∈ zT := zT_t 296 rfl rfl
theorem zq_297 : Cond.selects "FleetSlots" ({ cls := "FleetSlots", name := "copy", desc := "(IIIII)I" } : MethodName) ({ cls := "FleetSlots", name := "copy", desc := "(IIIII)I" } : MethodName) ∈ zT := zT_t 297 rfl rfl
theorem zq_298 : Cond.code ({ cls := "FleetSlots", name := "copy", desc := "(IIIII)I" } : MethodName) prog_1_method_4_code (8 : Nat) (Option.some FieldType.int) ∈ zT := zT_t 298 rfl rfl
theorem zq_299 : Cond.methodLink "FleetSlots" (96 : Nat) ({ cls := "java/lang/System", name := "arraycopy", desc := "(Ljava/lang/Object;ILjava/lang/Object;II)V" } : MethodName) ∈ zT := zT_t 299 rfl rfl
theorem zq_300 : Cond.static ({ cls := "java/lang/System", name := "arraycopy", desc := "(Ljava/lang/Object;ILjava/lang/Object;II)V" } : MethodName) ∈ zT := zT_t 300 rfl rfl
theorem zq_301 : Cond.native ({ cls := "java/lang/System", name := "arraycopy", desc := "(Ljava/lang/Object;ILjava/lang/Object;II)V" } : MethodName) ∈ zT := zT_t 301 rfl rfl
theorem zq_303 : Cond.instanceMethod ({ cls := "FleetSlots", name := "drop", desc := "(I)I" } : MethodName) ∈ zT := zT_t 303 rfl rfl
theorem zq_304 : Cond.selects "FleetSlots" ({ cls := "FleetSlots", name := "drop", desc := "(I)I" } : MethodName) ({ cls := "FleetSlots", name := "drop", desc := "(I)I" } : MethodName) ∈ zT := zT_t 304 rfl rfl
theorem zq_305 : Cond.code ({ cls := "FleetSlots", name := "drop", desc := "(I)I" } : MethodName) prog_1_method_5_code (3 : Nat) (Option.some FieldType.int) ∈ zT := zT_t 305 rfl rfl
theorem zq_307 : Cond.instanceMethod ({ cls := "FleetSlots", name := "version", desc := "(III)I" } : MethodName) ∈ zT := zT_t 307 rfl rfl
theorem zq_308 : Cond.selects "FleetSlots" ({ cls := "FleetSlots", name := "version", desc := "(III)I" } : MethodName) ({ cls := "FleetSlots", name := "version", desc := "(III)I" } : MethodName) ∈ zT := zT_t 308 rfl rfl
theorem zq_309 : Cond.code ({ cls := "FleetSlots", name := "version", desc := "(III)I" } : MethodName) prog_1_method_6_code (4 : Nat) (Option.some FieldType.int) ∈ zT := zT_t 309 rfl rfl
theorem zq_310 : Cond.methodLink "FleetSlots" (105 : Nat) ({ cls := "FleetSlots", name := "leastFloor", desc := "()I" } : MethodName) ∈ zT := zT_t 310 rfl rfl
theorem zq_312 : Cond.instanceMethod ({ cls := "FleetSlots", name := "leastFloor", desc := "()I" } : MethodName) ∈ zT := zT_t 312 rfl rfl
theorem zq_313 : Cond.code ({ cls := "FleetSlots", name := "leastFloor", desc := "()I" } : MethodName) prog_1_method_32_code (1 : Nat) (Option.some FieldType.int) ∈ zT := zT_t 313 rfl rfl
theorem zq_314 : Cond.constant "FleetSlots" (112 : Nat) (-1000003 : Int32) ∈ zT := zT_t 314 rfl rfl
theorem zq_315 : Cond.methodLink "FleetSlots" (113 : Nat) ({ cls := "FleetSlots$Version", name := "fill", desc := "(III)V" } : MethodName) ∈ zT := zT_t 315 rfl rfl
theorem zq_316 : Cond.instanceMethod ({ cls := "FleetSlots$Version", name := "fill", desc := "(III)V" } : MethodName) ∈ zT := zT_t 316 rfl rfl
theorem zq_317 : Cond.selects "FleetSlots$Version" ({ cls := "FleetSlots$Version", name := "fill", desc := "(III)V" } : MethodName) ({ cls := "FleetSlots$Version", name := "fill", desc := "(III)V" } : MethodName) ∈ zT := zT_t 317 rfl rfl
theorem zq_318 : Cond.code ({ cls := "FleetSlots$Version", name := "fill", desc := "(III)V" } : MethodName) prog_8_method_2_code (4 : Nat) (Option.none : Option FieldType) ∈ zT := zT_t 318 rfl rfl
theorem zq_320 : Cond.instanceMethod ({ cls := "FleetSlots", name := "step", desc := "(III)I" } : MethodName) ∈ zT := zT_t 320 rfl rfl
theorem zq_321 : Cond.selects "FleetSlots" ({ cls := "FleetSlots", name := "step", desc := "(III)I" } : MethodName) ({ cls := "FleetSlots", name := "step", desc := "(III)I" } : MethodName) ∈ zT := zT_t 321 rfl rfl
theorem zq_322 : Cond.code ({ cls := "FleetSlots", name := "step", desc := "(III)I" } : MethodName) prog_1_method_7_code (4 : Nat) (Option.some FieldType.int) ∈ zT := zT_t 322 rfl rfl
theorem zq_323 : Cond.methodLink "FleetSlots" (117 : Nat) ({ cls := "FleetSlots", name := "isRise", desc := "(II)Z" } : MethodName) ∈ zT := zT_t 323 rfl rfl
theorem zq_325 : Cond.instanceMethod ({ cls := "FleetSlots", name := "isRise", desc := "(II)Z" } : MethodName) ∈ zT := zT_t 325 rfl rfl
theorem zq_326 : Cond.code ({ cls := "FleetSlots", name := "isRise", desc := "(II)Z" } : MethodName) prog_1_method_29_code (3 : Nat) (Option.some FieldType.boolean) ∈ zT := zT_t 326 rfl rfl
theorem zq_327 : Cond.methodLink "FleetSlots" (137 : Nat) ({ cls := "FleetSlots", name := "isVersion", desc := "(I)Z" } : MethodName) ∈ zT := zT_t 327 rfl rfl
theorem zq_329 : Cond.instanceMethod ({ cls := "FleetSlots", name := "isVersion", desc := "(I)Z" } : MethodName) ∈ zT := zT_t 329 rfl rfl
theorem zq_330 : Cond.code ({ cls := "FleetSlots", name := "isVersion", desc := "(I)Z" } : MethodName) prog_1_method_28_code (2 : Nat) (Option.some FieldType.boolean) ∈ zT := zT_t 330 rfl rfl
theorem zq_331 : Cond.methodLink "FleetSlots" (120 : Nat) ({ cls := "FleetSlots$Steps", name := "exchange", desc := "(III)I" } : MethodName) ∈ zT := zT_t 331 rfl rfl
theorem zq_332 : Cond.instanceMethod ({ cls := "FleetSlots$Steps", name := "exchange", desc := "(III)I" } : MethodName) ∈ zT := zT_t 332 rfl rfl
theorem zq_333 : Cond.selects "FleetSlots$Steps" ({ cls := "FleetSlots$Steps", name := "exchange", desc := "(III)I" } : MethodName) ({ cls := "FleetSlots$Steps", name := "exchange", desc := "(III)I" } : MethodName) ∈ zT := zT_t 333 rfl rfl
theorem zq_334 : Cond.code ({ cls := "FleetSlots$Steps", name := "exchange", desc := "(III)I" } : MethodName) prog_7_method_2_code (5 : Nat) (Option.some FieldType.int) ∈ zT := zT_t 334 rfl rfl
theorem zq_336 : Cond.instanceMethod ({ cls := "FleetSlots", name := "path", desc := "(III)I" } : MethodName) ∈ zT := zT_t 336 rfl rfl
theorem zq_337 : Cond.selects "FleetSlots" ({ cls := "FleetSlots", name := "path", desc := "(III)I" } : MethodName) ({ cls := "FleetSlots", name := "path", desc := "(III)I" } : MethodName) ∈ zT := zT_t 337 rfl rfl
theorem zq_338 : Cond.code ({ cls := "FleetSlots", name := "path", desc := "(III)I" } : MethodName) prog_1_method_8_code (4 : Nat) (Option.some FieldType.int) ∈ zT := zT_t 338 rfl rfl
theorem zq_339 : Cond.methodLink "FleetSlots" (124 : Nat) ({ cls := "FleetSlots$Steps", name := "search", desc := "(II)Z" } : MethodName) ∈ zT := zT_t 339 rfl rfl
theorem zq_340 : Cond.instanceMethod ({ cls := "FleetSlots$Steps", name := "search", desc := "(II)Z" } : MethodName) ∈ zT := zT_t 340 rfl rfl
theorem zq_341 : Cond.selects "FleetSlots$Steps" ({ cls := "FleetSlots$Steps", name := "search", desc := "(II)Z" } : MethodName) ({ cls := "FleetSlots$Steps", name := "search", desc := "(II)Z" } : MethodName) ∈ zT := zT_t 341 rfl rfl
theorem zq_342 : Cond.code ({ cls := "FleetSlots$Steps", name := "search", desc := "(II)Z" } : MethodName) prog_7_method_3_code (4 : Nat) (Option.some FieldType.boolean) ∈ zT := zT_t 342 rfl rfl
theorem zq_343 : Cond.methodLink "FleetSlots$Steps" (30 : Nat) ({ cls := "FleetSlots$Steps", name := "chooseNext", desc := "(II)V" } : MethodName) ∈ zT := zT_t 343 rfl rfl
theorem zq_345 : Cond.instanceMethod ({ cls := "FleetSlots$Steps", name := "chooseNext", desc := "(II)V" } : MethodName) ∈ zT := zT_t 345 rfl rfl
theorem zq_346 : Cond.code ({ cls := "FleetSlots$Steps", name := "chooseNext", desc := "(II)V" } : MethodName) prog_7_method_4_code (6 : Nat) (Option.none : Option FieldType) ∈ zT := zT_t 346 rfl rfl
theorem zq_347 : Cond.constant "FleetSlots" (127 : Nat) (-1000000 : Int32) ∈ zT := zT_t 347 rfl rfl
theorem zq_349 : Cond.instanceMethod ({ cls := "FleetSlots", name := "on", desc := "(III)I" } : MethodName) ∈ zT := zT_t 349 rfl rfl
theorem zq_350 : Cond.selects "FleetSlots" ({ cls := "FleetSlots", name := "on", desc := "(III)I" } : MethodName) ({ cls := "FleetSlots", name := "on", desc := "(III)I" } : MethodName) ∈ zT := zT_t 350 rfl rfl
theorem zq_351 : Cond.code ({ cls := "FleetSlots", name := "on", desc := "(III)I" } : MethodName) prog_1_method_9_code (4 : Nat) (Option.some FieldType.int) ∈ zT := zT_t 351 rfl rfl
theorem zq_352 : Cond.methodLink "FleetSlots" (134 : Nat) ({ cls := "FleetSlots$Steps", name := "follow", desc := "(II)I" } : MethodName) ∈ zT := zT_t 352 rfl rfl
theorem zq_353 : Cond.instanceMethod ({ cls := "FleetSlots$Steps", name := "follow", desc := "(II)I" } : MethodName) ∈ zT := zT_t 353 rfl rfl
theorem zq_354 : Cond.selects "FleetSlots$Steps" ({ cls := "FleetSlots$Steps", name := "follow", desc := "(II)I" } : MethodName) ({ cls := "FleetSlots$Steps", name := "follow", desc := "(II)I" } : MethodName) ∈ zT := zT_t 354 rfl rfl
theorem zq_355 : Cond.code ({ cls := "FleetSlots$Steps", name := "follow", desc := "(II)I" } : MethodName) prog_7_method_5_code (5 : Nat) (Option.some FieldType.int) ∈ zT := zT_t 355 rfl rfl
theorem zq_356 : Cond.constant "FleetSlots$Steps" (34 : Nat) (-1000000 : Int32) ∈ zT := zT_t 356 rfl rfl
theorem zq_358 : Cond.instanceMethod ({ cls := "FleetSlots", name := "device", desc := "(III)I" } : MethodName) ∈ zT := zT_t 358 rfl rfl
theorem zq_359 : Cond.selects "FleetSlots" ({ cls := "FleetSlots", name := "device", desc := "(III)I" } : MethodName) ({ cls := "FleetSlots", name := "device", desc := "(III)I" } : MethodName) ∈ zT := zT_t 359 rfl rfl
theorem zq_360 : Cond.code ({ cls := "FleetSlots", name := "device", desc := "(III)I" } : MethodName) prog_1_method_10_code (4 : Nat) (Option.some FieldType.int) ∈ zT := zT_t 360 rfl rfl
theorem zq_361 : Cond.methodLink "FleetSlots" (140 : Nat) ({ cls := "FleetSlots", name := "isDevice", desc := "(I)Z" } : MethodName) ∈ zT := zT_t 361 rfl rfl
theorem zq_363 : Cond.instanceMethod ({ cls := "FleetSlots", name := "isDevice", desc := "(I)Z" } : MethodName) ∈ zT := zT_t 363 rfl rfl
theorem zq_364 : Cond.code ({ cls := "FleetSlots", name := "isDevice", desc := "(I)Z" } : MethodName) prog_1_method_30_code (2 : Nat) (Option.some FieldType.boolean) ∈ zT := zT_t 364 rfl rfl
theorem zq_365 : Cond.methodLink "FleetSlots" (143 : Nat) ({ cls := "FleetSlots$Version", name := "ailsOn", desc := "(I)Z" } : MethodName) ∈ zT := zT_t 365 rfl rfl
theorem zq_366 : Cond.instanceMethod ({ cls := "FleetSlots$Version", name := "ailsOn", desc := "(I)Z" } : MethodName) ∈ zT := zT_t 366 rfl rfl
theorem zq_367 : Cond.selects "FleetSlots$Version" ({ cls := "FleetSlots$Version", name := "ailsOn", desc := "(I)Z" } : MethodName) ({ cls := "FleetSlots$Version", name := "ailsOn", desc := "(I)Z" } : MethodName) ∈ zT := zT_t 367 rfl rfl
theorem zq_368 : Cond.code ({ cls := "FleetSlots$Version", name := "ailsOn", desc := "(I)Z" } : MethodName) prog_8_method_3_code (2 : Nat) (Option.some FieldType.boolean) ∈ zT := zT_t 368 rfl rfl
theorem zq_369 : Cond.constant "FleetSlots" (146 : Nat) (-1000002 : Int32) ∈ zT := zT_t 369 rfl rfl
theorem zq_370 : Cond.methodLink "FleetSlots" (150 : Nat) ({ cls := "FleetSlots$Device", name := "arrive", desc := "(ILFleetSlots$Version;LFleetSlots$Device;)V" } : MethodName) ∈ zT := zT_t 370 rfl rfl
theorem zq_371 : Cond.instanceMethod ({ cls := "FleetSlots$Device", name := "arrive", desc := "(ILFleetSlots$Version;LFleetSlots$Device;)V" } : MethodName) ∈ zT := zT_t 371 rfl rfl
theorem zq_372 : Cond.selects "FleetSlots$Device" ({ cls := "FleetSlots$Device", name := "arrive", desc := "(ILFleetSlots$Version;LFleetSlots$Device;)V" } : MethodName) ({ cls := "FleetSlots$Device", name := "arrive", desc := "(ILFleetSlots$Version;LFleetSlots$Device;)V" } : MethodName) ∈ zT := zT_t 372 rfl rfl
theorem zq_373 : Cond.code ({ cls := "FleetSlots$Device", name := "arrive", desc := "(ILFleetSlots$Version;LFleetSlots$Device;)V" } : MethodName) prog_4_method_2_code (4 : Nat) (Option.none : Option FieldType) ∈ zT := zT_t 373 rfl rfl
theorem zq_374 : Cond.methodLink "FleetSlots$Device" (37 : Nat) ({ cls := "FleetSlots$Slot", name := "fill", desc := "(LFleetSlots$Version;I)V" } : MethodName) ∈ zT := zT_t 374 rfl rfl
theorem zq_375 : Cond.instanceMethod ({ cls := "FleetSlots$Slot", name := "fill", desc := "(LFleetSlots$Version;I)V" } : MethodName) ∈ zT := zT_t 375 rfl rfl
theorem zq_376 : Cond.selects "FleetSlots$Slot" ({ cls := "FleetSlots$Slot", name := "fill", desc := "(LFleetSlots$Version;I)V" } : MethodName) ({ cls := "FleetSlots$Slot", name := "fill", desc := "(LFleetSlots$Version;I)V" } : MethodName) ∈ zT := zT_t 376 rfl rfl
theorem zq_377 : Cond.code ({ cls := "FleetSlots$Slot", name := "fill", desc := "(LFleetSlots$Version;I)V" } : MethodName) prog_6_method_2_code (3 : Nat) (Option.none : Option FieldType) ∈ zT := zT_t 377 rfl rfl
theorem zq_379 : Cond.instanceMethod ({ cls := "FleetSlots", name := "told", desc := "(II)I" } : MethodName) ∈ zT := zT_t 379 rfl rfl
theorem zq_380 : Cond.selects "FleetSlots" ({ cls := "FleetSlots", name := "told", desc := "(II)I" } : MethodName) ({ cls := "FleetSlots", name := "told", desc := "(II)I" } : MethodName) ∈ zT := zT_t 380 rfl rfl
theorem zq_381 : Cond.code ({ cls := "FleetSlots", name := "told", desc := "(II)I" } : MethodName) prog_1_method_11_code (4 : Nat) (Option.some FieldType.int) ∈ zT := zT_t 381 rfl rfl
theorem zq_382 : Cond.methodLink "FleetSlots" (158 : Nat) ({ cls := "FleetSlots$Slot", name := "versionNumber", desc := "()I" } : MethodName) ∈ zT := zT_t 382 rfl rfl
theorem zq_383 : Cond.instanceMethod ({ cls := "FleetSlots$Slot", name := "versionNumber", desc := "()I" } : MethodName) ∈ zT := zT_t 383 rfl rfl
theorem zq_384 : Cond.selects "FleetSlots$Slot" ({ cls := "FleetSlots$Slot", name := "versionNumber", desc := "()I" } : MethodName) ({ cls := "FleetSlots$Slot", name := "versionNumber", desc := "()I" } : MethodName) ∈ zT := zT_t 384 rfl rfl
theorem zq_385 : Cond.code ({ cls := "FleetSlots$Slot", name := "versionNumber", desc := "()I" } : MethodName) prog_6_method_3_code (1 : Nat) (Option.some FieldType.int) ∈ zT := zT_t 385 rfl rfl
theorem zq_386 : Cond.constant "FleetSlots$Slot" (19 : Nat) (-1000000 : Int32) ∈ zT := zT_t 386 rfl rfl
theorem zq_387 : Cond.methodLink "FleetSlots" (181 : Nat) ({ cls := "FleetSlots", name := "drawOf", desc := "(LFleetSlots$Device;)I" } : MethodName) ∈ zT := zT_t 387 rfl rfl
theorem zq_389 : Cond.instanceMethod ({ cls := "FleetSlots", name := "drawOf", desc := "(LFleetSlots$Device;)I" } : MethodName) ∈ zT := zT_t 389 rfl rfl
theorem zq_390 : Cond.code ({ cls := "FleetSlots", name := "drawOf", desc := "(LFleetSlots$Device;)I" } : MethodName) prog_1_method_38_code (4 : Nat) (Option.some FieldType.int) ∈ zT := zT_t 390 rfl rfl
theorem zq_391 : Cond.constantLong "FleetSlots" (331 : Nat) (2654435761 : Int64) ∈ zT := zT_t 391 rfl rfl
theorem zq_392 : Cond.constantLong "FleetSlots" (333 : Nat) (65535 : Int64) ∈ zT := zT_t 392 rfl rfl
theorem zq_393 : Cond.methodLink "FleetSlots" (185 : Nat) ({ cls := "FleetSlots$Device", name := "isAlive", desc := "()Z" } : MethodName) ∈ zT := zT_t 393 rfl rfl
theorem zq_394 : Cond.instanceMethod ({ cls := "FleetSlots$Device", name := "isAlive", desc := "()Z" } : MethodName) ∈ zT := zT_t 394 rfl rfl
theorem zq_395 : Cond.selects "FleetSlots$Device" ({ cls := "FleetSlots$Device", name := "isAlive", desc := "()Z" } : MethodName) ({ cls := "FleetSlots$Device", name := "isAlive", desc := "()Z" } : MethodName) ∈ zT := zT_t 395 rfl rfl
theorem zq_396 : Cond.code ({ cls := "FleetSlots$Device", name := "isAlive", desc := "()Z" } : MethodName) prog_4_method_5_code (1 : Nat) (Option.some FieldType.boolean) ∈ zT := zT_t 396 rfl rfl
theorem zq_397 : Cond.methodLink "FleetSlots$Device" (67 : Nat) ({ cls := "FleetSlots$Slot", name := "isWholeNotBelow", desc := "(I)Z" } : MethodName) ∈ zT := zT_t 397 rfl rfl
theorem zq_398 : Cond.instanceMethod ({ cls := "FleetSlots$Slot", name := "isWholeNotBelow", desc := "(I)Z" } : MethodName) ∈ zT := zT_t 398 rfl rfl
theorem zq_399 : Cond.selects "FleetSlots$Slot" ({ cls := "FleetSlots$Slot", name := "isWholeNotBelow", desc := "(I)Z" } : MethodName) ({ cls := "FleetSlots$Slot", name := "isWholeNotBelow", desc := "(I)Z" } : MethodName) ∈ zT := zT_t 399 rfl rfl
theorem zq_400 : Cond.code ({ cls := "FleetSlots$Slot", name := "isWholeNotBelow", desc := "(I)Z" } : MethodName) prog_6_method_4_code (2 : Nat) (Option.some FieldType.boolean) ∈ zT := zT_t 400 rfl rfl
theorem zq_402 : Cond.instanceMethod ({ cls := "FleetSlots", name := "update", desc := "(II)I" } : MethodName) ∈ zT := zT_t 402 rfl rfl
theorem zq_403 : Cond.selects "FleetSlots" ({ cls := "FleetSlots", name := "update", desc := "(II)I" } : MethodName) ({ cls := "FleetSlots", name := "update", desc := "(II)I" } : MethodName) ∈ zT := zT_t 403 rfl rfl
theorem zq_404 : Cond.code ({ cls := "FleetSlots", name := "update", desc := "(II)I" } : MethodName) prog_1_method_12_code (3 : Nat) (Option.some FieldType.int) ∈ zT := zT_t 404 rfl rfl
theorem zq_405 : Cond.methodLink "FleetSlots" (189 : Nat) ({ cls := "FleetSlots", name := "isAbove", desc := "(ILFleetSlots$Device;)Z" } : MethodName) ∈ zT := zT_t 405 rfl rfl
theorem zq_406 : Cond.static ({ cls := "FleetSlots", name := "isAbove", desc := "(ILFleetSlots$Device;)Z" } : MethodName) ∈ zT := zT_t 406 rfl rfl
theorem zq_407 : Cond.code ({ cls := "FleetSlots", name := "isAbove", desc := "(ILFleetSlots$Device;)Z" } : MethodName) prog_1_method_31_code (2 : Nat) (Option.some FieldType.boolean) ∈ zT := zT_t 407 rfl rfl
theorem zq_408 : Cond.methodLink "FleetSlots" (193 : Nat) ({ cls := "FleetSlots", name := "updateWhole", desc := "(LFleetSlots$Device;LFleetSlots$Version;)Z" } : MethodName) ∈ zT := zT_t 408 rfl rfl
theorem zq_410 : Cond.instanceMethod ({ cls := "FleetSlots", name := "updateWhole", desc := "(LFleetSlots$Device;LFleetSlots$Version;)Z" } : MethodName) ∈ zT := zT_t 410 rfl rfl
theorem zq_411 : Cond.code ({ cls := "FleetSlots", name := "updateWhole", desc := "(LFleetSlots$Device;LFleetSlots$Version;)Z" } : MethodName) prog_1_method_35_code (3 : Nat) (Option.some FieldType.boolean) ∈ zT := zT_t 411 rfl rfl
theorem zq_412 : Cond.methodLink "FleetSlots" (201 : Nat) ({ cls := "FleetSlots$Device", name := "install", desc := "(LFleetSlots$Version;I)I" } : MethodName) ∈ zT := zT_t 412 rfl rfl
theorem zq_413 : Cond.instanceMethod ({ cls := "FleetSlots$Device", name := "install", desc := "(LFleetSlots$Version;I)I" } : MethodName) ∈ zT := zT_t 413 rfl rfl
theorem zq_414 : Cond.selects "FleetSlots$Device" ({ cls := "FleetSlots$Device", name := "install", desc := "(LFleetSlots$Version;I)I" } : MethodName) ({ cls := "FleetSlots$Device", name := "install", desc := "(LFleetSlots$Version;I)I" } : MethodName) ∈ zT := zT_t 414 rfl rfl
theorem zq_415 : Cond.code ({ cls := "FleetSlots$Device", name := "install", desc := "(LFleetSlots$Version;I)I" } : MethodName) prog_4_method_6_code (4 : Nat) (Option.some FieldType.int) ∈ zT := zT_t 415 rfl rfl
theorem zq_416 : Cond.methodLink "FleetSlots$Device" (71 : Nat) ({ cls := "FleetSlots$Device", name := "isOver", desc := "(LFleetSlots$Version;I)Z" } : MethodName) ∈ zT := zT_t 416 rfl rfl
theorem zq_418 : Cond.instanceMethod ({ cls := "FleetSlots$Device", name := "isOver", desc := "(LFleetSlots$Version;I)Z" } : MethodName) ∈ zT := zT_t 418 rfl rfl
theorem zq_419 : Cond.code ({ cls := "FleetSlots$Device", name := "isOver", desc := "(LFleetSlots$Version;I)Z" } : MethodName) prog_4_method_7_code (3 : Nat) (Option.some FieldType.boolean) ∈ zT := zT_t 419 rfl rfl
theorem zq_420 : Cond.methodLink "FleetSlots$Device" (75 : Nat) ({ cls := "FleetSlots$Device", name := "doAct", desc := "(LFleetSlots$Version;I)V" } : MethodName) ∈ zT := zT_t 420 rfl rfl
theorem zq_422 : Cond.instanceMethod ({ cls := "FleetSlots$Device", name := "doAct", desc := "(LFleetSlots$Version;I)V" } : MethodName) ∈ zT := zT_t 422 rfl rfl
theorem zq_423 : Cond.code ({ cls := "FleetSlots$Device", name := "doAct", desc := "(LFleetSlots$Version;I)V" } : MethodName) prog_4_method_8_code (3 : Nat) (Option.none : Option FieldType) ∈ zT := zT_t 423 rfl rfl
theorem zq_424 : Cond.methodLink "FleetSlots$Device" (78 : Nat) ({ cls := "FleetSlots$Device", name := "start", desc := "()V" } : MethodName) ∈ zT := zT_t 424 rfl rfl
theorem zq_425 : Cond.instanceMethod ({ cls := "FleetSlots$Device", name := "start", desc := "()V" } : MethodName) ∈ zT := zT_t 425 rfl rfl
theorem zq_426 : Cond.selects "FleetSlots$Device" ({ cls := "FleetSlots$Device", name := "start", desc := "()V" } : MethodName) ({ cls := "FleetSlots$Device", name := "start", desc := "()V" } : MethodName) ∈ zT := zT_t 426 rfl rfl
theorem zq_427 : Cond.code ({ cls := "FleetSlots$Device", name := "start", desc := "()V" } : MethodName) prog_4_method_9_code (2 : Nat) (Option.none : Option FieldType) ∈ zT := zT_t 427 rfl rfl
theorem zq_428 : Cond.methodLink "FleetSlots$Device" (81 : Nat) ({ cls := "FleetSlots$Device", name := "endTrial", desc := "()V" } : MethodName) ∈ zT := zT_t 428 rfl rfl
theorem zq_430 : Cond.instanceMethod ({ cls := "FleetSlots$Device", name := "endTrial", desc := "()V" } : MethodName) ∈ zT := zT_t 430 rfl rfl
theorem zq_431 : Cond.code ({ cls := "FleetSlots$Device", name := "endTrial", desc := "()V" } : MethodName) prog_4_method_11_code (1 : Nat) (Option.none : Option FieldType) ∈ zT := zT_t 431 rfl rfl
theorem zq_432 : Cond.methodLink "FleetSlots$Device" (84 : Nat) ({ cls := "FleetSlots$Version", name := "ailsOn", desc := "(I)Z" } : MethodName) ∈ zT := zT_t 432 rfl rfl
theorem zq_433 : Cond.methodLink "FleetSlots$Device" (87 : Nat) ({ cls := "FleetSlots$Device", name := "take", desc := "(LFleetSlots$Version;)V" } : MethodName) ∈ zT := zT_t 433 rfl rfl
theorem zq_435 : Cond.instanceMethod ({ cls := "FleetSlots$Device", name := "take", desc := "(LFleetSlots$Version;)V" } : MethodName) ∈ zT := zT_t 435 rfl rfl
theorem zq_436 : Cond.code ({ cls := "FleetSlots$Device", name := "take", desc := "(LFleetSlots$Version;)V" } : MethodName) prog_4_method_10_code (3 : Nat) (Option.none : Option FieldType) ∈ zT := zT_t 436 rfl rfl
theorem zq_437 : Cond.methodLink "FleetSlots$Device" (91 : Nat) ({ cls := "java/lang/Math", name := "max", desc := "(II)I" } : MethodName) ∈ zT := zT_t 437 rfl rfl
theorem zq_438 : Cond.static ({ cls := "java/lang/Math", name := "max", desc := "(II)I" } : MethodName) ∈ zT := zT_t 438 rfl rfl
theorem zq_439 : Cond.code ({ cls := "java/lang/Math", name := "max", desc := "(II)I" } : MethodName) prog_11_method_65_code (2 : Nat) (Option.some FieldType.int) ∈ zT := zT_t 439 rfl rfl
theorem zq_440 : Cond.methodLink "FleetSlots" (208 : Nat) ({ cls := "FleetSlots", name := "noteEnd", desc := "(LFleetSlots$Device;LFleetSlots$Version;)Z" } : MethodName) ∈ zT := zT_t 440 rfl rfl
set_option maxRecDepth 20000 in
theorem zq_442 : Cond.instanceMethod ({ cls := "FleetSlots", name := "noteEnd", desc := "(LFleetSlots$Device;LFleetSlots$Version;)Z" } : MethodName) ∈ zT := zT_t 442 rfl rfl
set_option maxRecDepth 20000 in
theorem zq_443 : Cond.code ({ cls := "FleetSlots", name := "noteEnd", desc := "(LFleetSlots$Device;LFleetSlots$Version;)Z" } : MethodName) prog_1_method_36_code (4 : Nat) (Option.some FieldType.boolean) ∈ zT := zT_t 443 rfl rfl
set_option maxRecDepth 20000 in
theorem zq_444 : Cond.methodLink "FleetSlots" (324 : Nat) ({ cls := "FleetSlots", name := "isFresh", desc := "(LFleetSlots$Device;)Z" } : MethodName) ∈ zT := zT_t 444 rfl rfl
set_option maxRecDepth 20000 in
theorem zq_446 : Cond.instanceMethod ({ cls := "FleetSlots", name := "isFresh", desc := "(LFleetSlots$Device;)Z" } : MethodName) ∈ zT := zT_t 446 rfl rfl
set_option maxRecDepth 20000 in
theorem zq_447 : Cond.code ({ cls := "FleetSlots", name := "isFresh", desc := "(LFleetSlots$Device;)Z" } : MethodName) prog_1_method_47_code (2 : Nat) (Option.some FieldType.boolean) ∈ zT := zT_t 447 rfl rfl
set_option maxRecDepth 20000 in
theorem zq_449 : Cond.instanceMethod ({ cls := "FleetSlots", name := "acts", desc := "(II)I" } : MethodName) ∈ zT := zT_t 449 rfl rfl
set_option maxRecDepth 20000 in
theorem zq_450 : Cond.selects "FleetSlots" ({ cls := "FleetSlots", name := "acts", desc := "(II)I" } : MethodName) ({ cls := "FleetSlots", name := "acts", desc := "(II)I" } : MethodName) ∈ zT := zT_t 450 rfl rfl
set_option maxRecDepth 20000 in
theorem zq_451 : Cond.code ({ cls := "FleetSlots", name := "acts", desc := "(II)I" } : MethodName) prog_1_method_13_code (3 : Nat) (Option.some FieldType.int) ∈ zT := zT_t 451 rfl rfl
set_option maxRecDepth 20000 in
theorem zq_452 : Cond.methodLink "FleetSlots" (197 : Nat) ({ cls := "FleetSlots$Device", name := "become", desc := "(LFleetSlots$Device;)V" } : MethodName) ∈ zT := zT_t 452 rfl rfl
set_option maxRecDepth 20000 in
theorem zq_453 : Cond.instanceMethod ({ cls := "FleetSlots$Device", name := "become", desc := "(LFleetSlots$Device;)V" } : MethodName) ∈ zT := zT_t 453 rfl rfl
set_option maxRecDepth 20000 in
theorem zq_454 : Cond.selects "FleetSlots$Device" ({ cls := "FleetSlots$Device", name := "become", desc := "(LFleetSlots$Device;)V" } : MethodName) ({ cls := "FleetSlots$Device", name := "become", desc := "(LFleetSlots$Device;)V" } : MethodName) ∈ zT := zT_t 454 rfl rfl
set_option maxRecDepth 20000 in
theorem zq_455 : Cond.code ({ cls := "FleetSlots$Device", name := "become", desc := "(LFleetSlots$Device;)V" } : MethodName) prog_4_method_3_code (2 : Nat) (Option.none : Option FieldType) ∈ zT := zT_t 455 rfl rfl
set_option maxRecDepth 20000 in
theorem zq_457 : Cond.instanceMethod ({ cls := "FleetSlots", name := "power", desc := "(III)I" } : MethodName) ∈ zT := zT_t 457 rfl rfl
set_option maxRecDepth 20000 in
theorem zq_458 : Cond.selects "FleetSlots" ({ cls := "FleetSlots", name := "power", desc := "(III)I" } : MethodName) ({ cls := "FleetSlots", name := "power", desc := "(III)I" } : MethodName) ∈ zT := zT_t 458 rfl rfl
set_option maxRecDepth 20000 in
theorem zq_459 : Cond.code ({ cls := "FleetSlots", name := "power", desc := "(III)I" } : MethodName) prog_1_method_14_code (6 : Nat) (Option.some FieldType.int) ∈ zT := zT_t 459 rfl rfl
set_option maxRecDepth 20000 in
theorem zq_460 : Cond.methodLink "FleetSlots" (205 : Nat) ({ cls := "FleetSlots", name := "cutStandIn", desc := "(III)I" } : MethodName) ∈ zT := zT_t 460 rfl rfl
set_option maxRecDepth 20000 in
theorem zq_462 : Cond.instanceMethod ({ cls := "FleetSlots", name := "cutStandIn", desc := "(III)I" } : MethodName) ∈ zT := zT_t 462 rfl rfl
set_option maxRecDepth 20000 in
theorem zq_463 : Cond.code ({ cls := "FleetSlots", name := "cutStandIn", desc := "(III)I" } : MethodName) prog_1_method_37_code (5 : Nat) (Option.some FieldType.int) ∈ zT := zT_t 463 rfl rfl
set_option maxRecDepth 20000 in
theorem zq_464 : Cond.methodLink "FleetSlots" (327 : Nat) ({ cls := "FleetSlots$Device", name := "start", desc := "()V" } : MethodName) ∈ zT := zT_t 464 rfl rfl
set_option maxRecDepth 20000 in
theorem zq_466 : Cond.instanceMethod ({ cls := "FleetSlots", name := "cut", desc := "(IIII)I" } : MethodName) ∈ zT := zT_t 466 rfl rfl
set_option maxRecDepth 20000 in
theorem zq_467 : Cond.selects "FleetSlots" ({ cls := "FleetSlots", name := "cut", desc := "(IIII)I" } : MethodName) ({ cls := "FleetSlots", name := "cut", desc := "(IIII)I" } : MethodName) ∈ zT := zT_t 467 rfl rfl
set_option maxRecDepth 20000 in
theorem zq_468 : Cond.code ({ cls := "FleetSlots", name := "cut", desc := "(IIII)I" } : MethodName) prog_1_method_15_code (6 : Nat) (Option.some FieldType.int) ∈ zT := zT_t 468 rfl rfl
set_option maxRecDepth 20000 in
theorem zq_470 : Cond.instanceMethod ({ cls := "FleetSlots", name := "seed", desc := "(I)I" } : MethodName) ∈ zT := zT_t 470 rfl rfl
set_option maxRecDepth 20000 in
theorem zq_471 : Cond.selects "FleetSlots" ({ cls := "FleetSlots", name := "seed", desc := "(I)I" } : MethodName) ({ cls := "FleetSlots", name := "seed", desc := "(I)I" } : MethodName) ∈ zT := zT_t 471 rfl rfl
set_option maxRecDepth 20000 in
theorem zq_472 : Cond.code ({ cls := "FleetSlots", name := "seed", desc := "(I)I" } : MethodName) prog_1_method_16_code (2 : Nat) (Option.some FieldType.int) ∈ zT := zT_t 472 rfl rfl
set_option maxRecDepth 20000 in
theorem zq_474 : Cond.instanceMethod ({ cls := "FleetSlots", name := "campaign", desc := "(IIIII)I" } : MethodName) ∈ zT := zT_t 474 rfl rfl
set_option maxRecDepth 20000 in
theorem zq_475 : Cond.selects "FleetSlots" ({ cls := "FleetSlots", name := "campaign", desc := "(IIIII)I" } : MethodName) ({ cls := "FleetSlots", name := "campaign", desc := "(IIIII)I" } : MethodName) ∈ zT := zT_t 475 rfl rfl
set_option maxRecDepth 20000 in
theorem zq_476 : Cond.code ({ cls := "FleetSlots", name := "campaign", desc := "(IIIII)I" } : MethodName) prog_1_method_17_code (7 : Nat) (Option.some FieldType.int) ∈ zT := zT_t 476 rfl rfl
set_option maxRecDepth 20000 in
theorem zq_477 : Cond.methodLink "FleetSlots" (214 : Nat) ({ cls := "FleetSlots$Sheet", name := "holdsRisingShares", desc := "(II)Z" } : MethodName) ∈ zT := zT_t 477 rfl rfl
set_option maxRecDepth 20000 in
theorem zq_478 : Cond.instanceMethod ({ cls := "FleetSlots$Sheet", name := "holdsRisingShares", desc := "(II)Z" } : MethodName) ∈ zT := zT_t 478 rfl rfl
set_option maxRecDepth 20000 in
theorem zq_479 : Cond.selects "FleetSlots$Sheet" ({ cls := "FleetSlots$Sheet", name := "holdsRisingShares", desc := "(II)Z" } : MethodName) ({ cls := "FleetSlots$Sheet", name := "holdsRisingShares", desc := "(II)Z" } : MethodName) ∈ zT := zT_t 479 rfl rfl
set_option maxRecDepth 20000 in
theorem zq_480 : Cond.code ({ cls := "FleetSlots$Sheet", name := "holdsRisingShares", desc := "(II)Z" } : MethodName) prog_5_method_5_code (5 : Nat) (Option.some FieldType.boolean) ∈ zT := zT_t 480 rfl rfl
set_option maxRecDepth 20000 in
theorem zq_481 : Cond.methodLink "FleetSlots" (217 : Nat) ({ cls := "FleetSlots$Campaign", name := "begin", desc := "(LFleetSlots$Version;LFleetSlots$Sheet;III)V" } : MethodName) ∈ zT := zT_t 481 rfl rfl
set_option maxRecDepth 20000 in
theorem zq_482 : Cond.instanceMethod ({ cls := "FleetSlots$Campaign", name := "begin", desc := "(LFleetSlots$Version;LFleetSlots$Sheet;III)V" } : MethodName) ∈ zT := zT_t 482 rfl rfl
set_option maxRecDepth 20000 in
theorem zq_483 : Cond.selects "FleetSlots$Campaign" ({ cls := "FleetSlots$Campaign", name := "begin", desc := "(LFleetSlots$Version;LFleetSlots$Sheet;III)V" } : MethodName) ({ cls := "FleetSlots$Campaign", name := "begin", desc := "(LFleetSlots$Version;LFleetSlots$Sheet;III)V" } : MethodName) ∈ zT := zT_t 483 rfl rfl
set_option maxRecDepth 20000 in
theorem zq_484 : Cond.code ({ cls := "FleetSlots$Campaign", name := "begin", desc := "(LFleetSlots$Version;LFleetSlots$Sheet;III)V" } : MethodName) prog_3_method_2_code (6 : Nat) (Option.none : Option FieldType) ∈ zT := zT_t 484 rfl rfl
set_option maxRecDepth 20000 in
theorem zq_485 : Cond.methodLink "FleetSlots$Campaign" (28 : Nat) ({ cls := "java/lang/System", name := "arraycopy", desc := "(Ljava/lang/Object;ILjava/lang/Object;II)V" } : MethodName) ∈ zT := zT_t 485 rfl rfl
set_option maxRecDepth 20000 in
theorem zq_486 : Cond.methodLink "FleetSlots$Campaign" (47 : Nat) ({ cls := "FleetSlots$Campaign", name := "beginWave", desc := "(I)V" } : MethodName) ∈ zT := zT_t 486 rfl rfl
set_option maxRecDepth 20000 in
theorem zq_488 : Cond.instanceMethod ({ cls := "FleetSlots$Campaign", name := "beginWave", desc := "(I)V" } : MethodName) ∈ zT := zT_t 488 rfl rfl
set_option maxRecDepth 20000 in
theorem zq_489 : Cond.code ({ cls := "FleetSlots$Campaign", name := "beginWave", desc := "(I)V" } : MethodName) prog_3_method_3_code (3 : Nat) (Option.none : Option FieldType) ∈ zT := zT_t 489 rfl rfl
set_option maxRecDepth 20000 in
theorem zq_490 : Cond.methodLink "FleetSlots" (221 : Nat) ({ cls := "FleetSlots", name := "membersOfWave", desc := "()I" } : MethodName) ∈ zT := zT_t 490 rfl rfl
set_option maxRecDepth 20000 in
theorem zq_492 : Cond.instanceMethod ({ cls := "FleetSlots", name := "membersOfWave", desc := "()I" } : MethodName) ∈ zT := zT_t 492 rfl rfl
set_option maxRecDepth 20000 in
theorem zq_493 : Cond.code ({ cls := "FleetSlots", name := "membersOfWave", desc := "()I" } : MethodName) prog_1_method_40_code (3 : Nat) (Option.some FieldType.int) ∈ zT := zT_t 493 rfl rfl
set_option maxRecDepth 20000 in
theorem zq_494 : Cond.methodLink "FleetSlots" (338 : Nat) ({ cls := "FleetSlots", name := "isMember", desc := "(LFleetSlots$Device;)Z" } : MethodName) ∈ zT := zT_t 494 rfl rfl
set_option maxRecDepth 20000 in
theorem zq_496 : Cond.instanceMethod ({ cls := "FleetSlots", name := "isMember", desc := "(LFleetSlots$Device;)Z" } : MethodName) ∈ zT := zT_t 496 rfl rfl
set_option maxRecDepth 20000 in
theorem zq_497 : Cond.code ({ cls := "FleetSlots", name := "isMember", desc := "(LFleetSlots$Device;)Z" } : MethodName) prog_1_method_39_code (2 : Nat) (Option.some FieldType.boolean) ∈ zT := zT_t 497 rfl rfl
set_option maxRecDepth 20000 in
theorem zq_498 : Cond.methodLink "FleetSlots" (335 : Nat) ({ cls := "FleetSlots$Campaign", name := "shareOfWave", desc := "()I" } : MethodName) ∈ zT := zT_t 498 rfl rfl
set_option maxRecDepth 20000 in
theorem zq_499 : Cond.instanceMethod ({ cls := "FleetSlots$Campaign", name := "shareOfWave", desc := "()I" } : MethodName) ∈ zT := zT_t 499 rfl rfl
set_option maxRecDepth 20000 in
theorem zq_500 : Cond.selects "FleetSlots$Campaign" ({ cls := "FleetSlots$Campaign", name := "shareOfWave", desc := "()I" } : MethodName) ({ cls := "FleetSlots$Campaign", name := "shareOfWave", desc := "()I" } : MethodName) ∈ zT := zT_t 500 rfl rfl
set_option maxRecDepth 20000 in
theorem zq_501 : Cond.code ({ cls := "FleetSlots$Campaign", name := "shareOfWave", desc := "()I" } : MethodName) prog_3_method_5_code (1 : Nat) (Option.some FieldType.int) ∈ zT := zT_t 501 rfl rfl
set_option maxRecDepth 20000 in
theorem zq_503 : Cond.instanceMethod ({ cls := "FleetSlots", name := "tick", desc := "(I)I" } : MethodName) ∈ zT := zT_t 503 rfl rfl
set_option maxRecDepth 20000 in
theorem zq_504 : Cond.selects "FleetSlots" ({ cls := "FleetSlots", name := "tick", desc := "(I)I" } : MethodName) ({ cls := "FleetSlots", name := "tick", desc := "(I)I" } : MethodName) ∈ zT := zT_t 504 rfl rfl
set_option maxRecDepth 20000 in
theorem zq_505 : Cond.code ({ cls := "FleetSlots", name := "tick", desc := "(I)I" } : MethodName) prog_1_method_18_code (7 : Nat) (Option.some FieldType.int) ∈ zT := zT_t 505 rfl rfl
set_option maxRecDepth 20000 in
theorem zq_506 : Cond.constant "FleetSlots" (224 : Nat) (100000 : Int32) ∈ zT := zT_t 506 rfl rfl
set_option maxRecDepth 20000 in
theorem zq_507 : Cond.methodLink "FleetSlots" (225 : Nat) ({ cls := "FleetSlots$Campaign", name := "isRunning", desc := "()Z" } : MethodName) ∈ zT := zT_t 507 rfl rfl
set_option maxRecDepth 20000 in
theorem zq_508 : Cond.instanceMethod ({ cls := "FleetSlots$Campaign", name := "isRunning", desc := "()Z" } : MethodName) ∈ zT := zT_t 508 rfl rfl
set_option maxRecDepth 20000 in
theorem zq_509 : Cond.selects "FleetSlots$Campaign" ({ cls := "FleetSlots$Campaign", name := "isRunning", desc := "()Z" } : MethodName) ({ cls := "FleetSlots$Campaign", name := "isRunning", desc := "()Z" } : MethodName) ∈ zT := zT_t 509 rfl rfl
set_option maxRecDepth 20000 in
theorem zq_510 : Cond.code ({ cls := "FleetSlots$Campaign", name := "isRunning", desc := "()Z" } : MethodName) prog_3_method_4_code (1 : Nat) (Option.some FieldType.boolean) ∈ zT := zT_t 510 rfl rfl
set_option maxRecDepth 20000 in
theorem zq_511 : Cond.methodLink "FleetSlots" (228 : Nat) ({ cls := "FleetSlots", name := "isDue", desc := "(LFleetSlots$Device;)Z" } : MethodName) ∈ zT := zT_t 511 rfl rfl
set_option maxRecDepth 20000 in
theorem zq_513 : Cond.instanceMethod ({ cls := "FleetSlots", name := "isDue", desc := "(LFleetSlots$Device;)Z" } : MethodName) ∈ zT := zT_t 513 rfl rfl
set_option maxRecDepth 20000 in
theorem zq_514 : Cond.code ({ cls := "FleetSlots", name := "isDue", desc := "(LFleetSlots$Device;)Z" } : MethodName) prog_1_method_41_code (2 : Nat) (Option.some FieldType.boolean) ∈ zT := zT_t 514 rfl rfl
set_option maxRecDepth 20000 in
theorem zq_515 : Cond.methodLink "FleetSlots" (341 : Nat) ({ cls := "FleetSlots$Device", name := "isAtLeastAt", desc := "(LFleetSlots$Version;)Z" } : MethodName) ∈ zT := zT_t 515 rfl rfl
set_option maxRecDepth 20000 in
theorem zq_516 : Cond.instanceMethod ({ cls := "FleetSlots$Device", name := "isAtLeastAt", desc := "(LFleetSlots$Version;)Z" } : MethodName) ∈ zT := zT_t 516 rfl rfl
set_option maxRecDepth 20000 in
theorem zq_517 : Cond.selects "FleetSlots$Device" ({ cls := "FleetSlots$Device", name := "isAtLeastAt", desc := "(LFleetSlots$Version;)Z" } : MethodName) ({ cls := "FleetSlots$Device", name := "isAtLeastAt", desc := "(LFleetSlots$Version;)Z" } : MethodName) ∈ zT := zT_t 517 rfl rfl
set_option maxRecDepth 20000 in
theorem zq_518 : Cond.code ({ cls := "FleetSlots$Device", name := "isAtLeastAt", desc := "(LFleetSlots$Version;)Z" } : MethodName) prog_4_method_4_code (2 : Nat) (Option.some FieldType.boolean) ∈ zT := zT_t 518 rfl rfl
set_option maxRecDepth 20000 in
theorem zq_519 : Cond.methodLink "FleetSlots$Device" (62 : Nat) ({ cls := "FleetSlots$Slot", name := "versionNumber", desc := "()I" } : MethodName) ∈ zT := zT_t 519 rfl rfl
set_option maxRecDepth 20000 in
theorem zq_520 : Cond.methodLink "FleetSlots" (236 : Nat) ({ cls := "FleetSlots", name := "bytesTo", desc := "(LFleetSlots$Device;LFleetSlots$Version;)I" } : MethodName) ∈ zT := zT_t 520 rfl rfl
set_option maxRecDepth 20000 in
theorem zq_522 : Cond.instanceMethod ({ cls := "FleetSlots", name := "bytesTo", desc := "(LFleetSlots$Device;LFleetSlots$Version;)I" } : MethodName) ∈ zT := zT_t 522 rfl rfl
set_option maxRecDepth 20000 in
theorem zq_523 : Cond.code ({ cls := "FleetSlots", name := "bytesTo", desc := "(LFleetSlots$Device;LFleetSlots$Version;)I" } : MethodName) prog_1_method_42_code (4 : Nat) (Option.some FieldType.int) ∈ zT := zT_t 523 rfl rfl
set_option maxRecDepth 20000 in
theorem zq_524 : Cond.methodLink "FleetSlots" (240 : Nat) ({ cls := "FleetSlots$Campaign", name := "note", desc := "(IIZ)V" } : MethodName) ∈ zT := zT_t 524 rfl rfl
set_option maxRecDepth 20000 in
theorem zq_525 : Cond.instanceMethod ({ cls := "FleetSlots$Campaign", name := "note", desc := "(IIZ)V" } : MethodName) ∈ zT := zT_t 525 rfl rfl
set_option maxRecDepth 20000 in
theorem zq_526 : Cond.selects "FleetSlots$Campaign" ({ cls := "FleetSlots$Campaign", name := "note", desc := "(IIZ)V" } : MethodName) ({ cls := "FleetSlots$Campaign", name := "note", desc := "(IIZ)V" } : MethodName) ∈ zT := zT_t 526 rfl rfl
set_option maxRecDepth 20000 in
theorem zq_527 : Cond.code ({ cls := "FleetSlots$Campaign", name := "note", desc := "(IIZ)V" } : MethodName) prog_3_method_6_code (4 : Nat) (Option.none : Option FieldType) ∈ zT := zT_t 527 rfl rfl
set_option maxRecDepth 20000 in
theorem zq_528 : Cond.methodLink "FleetSlots" (244 : Nat) ({ cls := "FleetSlots$Campaign", name := "endWave", desc := "()V" } : MethodName) ∈ zT := zT_t 528 rfl rfl
set_option maxRecDepth 20000 in
theorem zq_529 : Cond.instanceMethod ({ cls := "FleetSlots$Campaign", name := "endWave", desc := "()V" } : MethodName) ∈ zT := zT_t 529 rfl rfl
set_option maxRecDepth 20000 in
theorem zq_530 : Cond.selects "FleetSlots$Campaign" ({ cls := "FleetSlots$Campaign", name := "endWave", desc := "()V" } : MethodName) ({ cls := "FleetSlots$Campaign", name := "endWave", desc := "()V" } : MethodName) ∈ zT := zT_t 530 rfl rfl
set_option maxRecDepth 20000 in
theorem zq_531 : Cond.code ({ cls := "FleetSlots$Campaign", name := "endWave", desc := "()V" } : MethodName) prog_3_method_7_code (1 : Nat) (Option.none : Option FieldType) ∈ zT := zT_t 531 rfl rfl
set_option maxRecDepth 20000 in
theorem zq_533 : Cond.static ({ cls := "FleetSlots", name := "isHalting", desc := "(III)Z" } : MethodName) ∈ zT := zT_t 533 rfl rfl
set_option maxRecDepth 20000 in
theorem zq_534 : Cond.code ({ cls := "FleetSlots", name := "isHalting", desc := "(III)Z" } : MethodName) prog_1_method_44_code (3 : Nat) (Option.some FieldType.boolean) ∈ zT := zT_t 534 rfl rfl
set_option maxRecDepth 20000 in
theorem zq_536 : Cond.instanceMethod ({ cls := "FleetSlots", name := "runs", desc := "(I)I" } : MethodName) ∈ zT := zT_t 536 rfl rfl
set_option maxRecDepth 20000 in
theorem zq_537 : Cond.selects "FleetSlots" ({ cls := "FleetSlots", name := "runs", desc := "(I)I" } : MethodName) ({ cls := "FleetSlots", name := "runs", desc := "(I)I" } : MethodName) ∈ zT := zT_t 537 rfl rfl
set_option maxRecDepth 20000 in
theorem zq_538 : Cond.code ({ cls := "FleetSlots", name := "runs", desc := "(I)I" } : MethodName) prog_1_method_19_code (2 : Nat) (Option.some FieldType.int) ∈ zT := zT_t 538 rfl rfl
set_option maxRecDepth 20000 in
theorem zq_539 : Cond.methodLink "FleetSlots" (262 : Nat) ({ cls := "FleetSlots", name := "devicesAtLeastAt", desc := "(LFleetSlots$Version;)I" } : MethodName) ∈ zT := zT_t 539 rfl rfl
set_option maxRecDepth 20000 in
theorem zq_541 : Cond.instanceMethod ({ cls := "FleetSlots", name := "devicesAtLeastAt", desc := "(LFleetSlots$Version;)I" } : MethodName) ∈ zT := zT_t 541 rfl rfl
set_option maxRecDepth 20000 in
theorem zq_542 : Cond.code ({ cls := "FleetSlots", name := "devicesAtLeastAt", desc := "(LFleetSlots$Version;)I" } : MethodName) prog_1_method_43_code (4 : Nat) (Option.some FieldType.int) ∈ zT := zT_t 542 rfl rfl
set_option maxRecDepth 20000 in
theorem zq_544 : Cond.instanceMethod ({ cls := "FleetSlots", name := "chance", desc := "(III)J" } : MethodName) ∈ zT := zT_t 544 rfl rfl
set_option maxRecDepth 20000 in
theorem zq_545 : Cond.selects "FleetSlots" ({ cls := "FleetSlots", name := "chance", desc := "(III)J" } : MethodName) ({ cls := "FleetSlots", name := "chance", desc := "(III)J" } : MethodName) ∈ zT := zT_t 545 rfl rfl
set_option maxRecDepth 20000 in
theorem zq_546 : Cond.code ({ cls := "FleetSlots", name := "chance", desc := "(III)J" } : MethodName) prog_1_method_20_code (7 : Nat) (Option.some FieldType.long) ∈ zT := zT_t 546 rfl rfl
set_option maxRecDepth 20000 in
theorem zq_547 : Cond.constantLong "FleetSlots" (266 : Nat) (-1000001 : Int64) ∈ zT := zT_t 547 rfl rfl
set_option maxRecDepth 20000 in
theorem zq_548 : Cond.methodLink "FleetSlots" (268 : Nat) ({ cls := "FleetSlots", name := "isHalting", desc := "(III)Z" } : MethodName) ∈ zT := zT_t 548 rfl rfl
set_option maxRecDepth 20000 in
theorem zq_549 : Cond.methodLink "FleetSlots" (272 : Nat) ({ cls := "FleetSlots", name := "choices", desc := "(II)J" } : MethodName) ∈ zT := zT_t 549 rfl rfl
set_option maxRecDepth 20000 in
theorem zq_550 : Cond.static ({ cls := "FleetSlots", name := "choices", desc := "(II)J" } : MethodName) ∈ zT := zT_t 550 rfl rfl
set_option maxRecDepth 20000 in
theorem zq_551 : Cond.code ({ cls := "FleetSlots", name := "choices", desc := "(II)J" } : MethodName) prog_1_method_45_code (5 : Nat) (Option.some FieldType.long) ∈ zT := zT_t 551 rfl rfl
set_option maxRecDepth 20000 in
theorem zq_552 : Cond.methodLink "FleetSlots" (276 : Nat) ({ cls := "FleetSlots", name := "raised", desc := "(II)J" } : MethodName) ∈ zT := zT_t 552 rfl rfl
set_option maxRecDepth 20000 in
theorem zq_553 : Cond.static ({ cls := "FleetSlots", name := "raised", desc := "(II)J" } : MethodName) ∈ zT := zT_t 553 rfl rfl
set_option maxRecDepth 20000 in
theorem zq_554 : Cond.code ({ cls := "FleetSlots", name := "raised", desc := "(II)J" } : MethodName) prog_1_method_46_code (5 : Nat) (Option.some FieldType.long) ∈ zT := zT_t 554 rfl rfl
set_option maxRecDepth 20000 in
theorem zq_556 : Cond.instanceMethod ({ cls := "FleetSlots", name := "kind", desc := "(I)I" } : MethodName) ∈ zT := zT_t 556 rfl rfl
set_option maxRecDepth 20000 in
theorem zq_557 : Cond.selects "FleetSlots" ({ cls := "FleetSlots", name := "kind", desc := "(I)I" } : MethodName) ({ cls := "FleetSlots", name := "kind", desc := "(I)I" } : MethodName) ∈ zT := zT_t 557 rfl rfl
set_option maxRecDepth 20000 in
theorem zq_558 : Cond.code ({ cls := "FleetSlots", name := "kind", desc := "(I)I" } : MethodName) prog_1_method_21_code (2 : Nat) (Option.some FieldType.int) ∈ zT := zT_t 558 rfl rfl
set_option maxRecDepth 20000 in
theorem zq_559 : Cond.methodLink "FleetSlots" (279 : Nat) ({ cls := "FleetSlots", name := "kindOf", desc := "(LFleetSlots$Device;)I" } : MethodName) ∈ zT := zT_t 559 rfl rfl
set_option maxRecDepth 20000 in
theorem zq_561 : Cond.instanceMethod ({ cls := "FleetSlots", name := "kindOf", desc := "(LFleetSlots$Device;)I" } : MethodName) ∈ zT := zT_t 561 rfl rfl
set_option maxRecDepth 20000 in
theorem zq_562 : Cond.code ({ cls := "FleetSlots", name := "kindOf", desc := "(LFleetSlots$Device;)I" } : MethodName) prog_1_method_48_code (2 : Nat) (Option.some FieldType.int) ∈ zT := zT_t 562 rfl rfl
set_option maxRecDepth 20000 in
theorem zq_564 : Cond.instanceMethod ({ cls := "FleetSlots", name := "as", desc := "(II)I" } : MethodName) ∈ zT := zT_t 564 rfl rfl
set_option maxRecDepth 20000 in
theorem zq_565 : Cond.selects "FleetSlots" ({ cls := "FleetSlots", name := "as", desc := "(II)I" } : MethodName) ({ cls := "FleetSlots", name := "as", desc := "(II)I" } : MethodName) ∈ zT := zT_t 565 rfl rfl
set_option maxRecDepth 20000 in
theorem zq_566 : Cond.code ({ cls := "FleetSlots", name := "as", desc := "(II)I" } : MethodName) prog_1_method_22_code (4 : Nat) (Option.some FieldType.int) ∈ zT := zT_t 566 rfl rfl
set_option maxRecDepth 20000 in
theorem zq_567 : Cond.methodLink "FleetSlots" (282 : Nat) ({ cls := "FleetSlots", name := "isOfKind", desc := "(LFleetSlots$Device;I)Z" } : MethodName) ∈ zT := zT_t 567 rfl rfl
set_option maxRecDepth 20000 in
theorem zq_569 : Cond.instanceMethod ({ cls := "FleetSlots", name := "isOfKind", desc := "(LFleetSlots$Device;I)Z" } : MethodName) ∈ zT := zT_t 569 rfl rfl
set_option maxRecDepth 20000 in
theorem zq_570 : Cond.code ({ cls := "FleetSlots", name := "isOfKind", desc := "(LFleetSlots$Device;I)Z" } : MethodName) prog_1_method_49_code (4 : Nat) (Option.some FieldType.boolean) ∈ zT := zT_t 570 rfl rfl
set_option maxRecDepth 20000 in
theorem zq_572 : Cond.instanceMethod ({ cls := "FleetSlots", name := "ask", desc := "(II)I" } : MethodName) ∈ zT := zT_t 572 rfl rfl
set_option maxRecDepth 20000 in
theorem zq_573 : Cond.selects "FleetSlots" ({ cls := "FleetSlots", name := "ask", desc := "(II)I" } : MethodName) ({ cls := "FleetSlots", name := "ask", desc := "(II)I" } : MethodName) ∈ zT := zT_t 573 rfl rfl
set_option maxRecDepth 20000 in
theorem zq_574 : Cond.code ({ cls := "FleetSlots", name := "ask", desc := "(II)I" } : MethodName) prog_1_method_23_code (5 : Nat) (Option.some FieldType.int) ∈ zT := zT_t 574 rfl rfl
set_option maxRecDepth 20000 in
theorem zq_575 : Cond.methodLink "FleetSlots" (289 : Nat) ({ cls := "FleetSlots$Asks", name := "forget", desc := "()V" } : MethodName) ∈ zT := zT_t 575 rfl rfl
set_option maxRecDepth 20000 in
theorem zq_576 : Cond.instanceMethod ({ cls := "FleetSlots$Asks", name := "forget", desc := "()V" } : MethodName) ∈ zT := zT_t 576 rfl rfl
set_option maxRecDepth 20000 in
theorem zq_577 : Cond.selects "FleetSlots$Asks" ({ cls := "FleetSlots$Asks", name := "forget", desc := "()V" } : MethodName) ({ cls := "FleetSlots$Asks", name := "forget", desc := "()V" } : MethodName) ∈ zT := zT_t 577 rfl rfl
set_option maxRecDepth 20000 in
theorem zq_578 : Cond.code ({ cls := "FleetSlots$Asks", name := "forget", desc := "()V" } : MethodName) prog_2_method_2_code (1 : Nat) (Option.none : Option FieldType) ∈ zT := zT_t 578 rfl rfl
set_option maxRecDepth 20000 in
theorem zq_579 : Cond.methodLink "FleetSlots" (292 : Nat) ({ cls := "FleetSlots$Asks", name := "worthOf", desc := "(LFleetSlots$Device;I)I" } : MethodName) ∈ zT := zT_t 579 rfl rfl
set_option maxRecDepth 20000 in
theorem zq_580 : Cond.instanceMethod ({ cls := "FleetSlots$Asks", name := "worthOf", desc := "(LFleetSlots$Device;I)I" } : MethodName) ∈ zT := zT_t 580 rfl rfl
set_option maxRecDepth 20000 in
theorem zq_581 : Cond.selects "FleetSlots$Asks" ({ cls := "FleetSlots$Asks", name := "worthOf", desc := "(LFleetSlots$Device;I)I" } : MethodName) ({ cls := "FleetSlots$Asks", name := "worthOf", desc := "(LFleetSlots$Device;I)I" } : MethodName) ∈ zT := zT_t 581 rfl rfl
set_option maxRecDepth 20000 in
theorem zq_582 : Cond.code ({ cls := "FleetSlots$Asks", name := "worthOf", desc := "(LFleetSlots$Device;I)I" } : MethodName) prog_2_method_5_code (3 : Nat) (Option.some FieldType.int) ∈ zT := zT_t 582 rfl rfl
set_option maxRecDepth 20000 in
theorem zq_583 : Cond.methodLink "FleetSlots$Asks" (20 : Nat) ({ cls := "FleetSlots$Asks", name := "worthOfFresh", desc := "(LFleetSlots$Device;)I" } : MethodName) ∈ zT := zT_t 583 rfl rfl
set_option maxRecDepth 20000 in
theorem zq_585 : Cond.instanceMethod ({ cls := "FleetSlots$Asks", name := "worthOfFresh", desc := "(LFleetSlots$Device;)I" } : MethodName) ∈ zT := zT_t 585 rfl rfl
set_option maxRecDepth 20000 in
theorem zq_586 : Cond.code ({ cls := "FleetSlots$Asks", name := "worthOfFresh", desc := "(LFleetSlots$Device;)I" } : MethodName) prog_2_method_7_code (2 : Nat) (Option.some FieldType.int) ∈ zT := zT_t 586 rfl rfl
set_option maxRecDepth 20000 in
theorem zq_587 : Cond.methodLink "FleetSlots$Asks" (33 : Nat) ({ cls := "FleetSlots$Asks", name := "leave", desc := "(I)V" } : MethodName) ∈ zT := zT_t 587 rfl rfl
set_option maxRecDepth 20000 in
theorem zq_589 : Cond.instanceMethod ({ cls := "FleetSlots$Asks", name := "leave", desc := "(I)V" } : MethodName) ∈ zT := zT_t 589 rfl rfl
set_option maxRecDepth 20000 in
theorem zq_590 : Cond.code ({ cls := "FleetSlots$Asks", name := "leave", desc := "(I)V" } : MethodName) prog_2_method_4_code (2 : Nat) (Option.none : Option FieldType) ∈ zT := zT_t 590 rfl rfl
set_option maxRecDepth 20000 in
theorem zq_591 : Cond.methodLink "FleetSlots$Asks" (30 : Nat) ({ cls := "FleetSlots$Asks", name := "worthOfAny", desc := "(LFleetSlots$Device;)I" } : MethodName) ∈ zT := zT_t 591 rfl rfl
set_option maxRecDepth 20000 in
theorem zq_593 : Cond.instanceMethod ({ cls := "FleetSlots$Asks", name := "worthOfAny", desc := "(LFleetSlots$Device;)I" } : MethodName) ∈ zT := zT_t 593 rfl rfl
set_option maxRecDepth 20000 in
theorem zq_594 : Cond.code ({ cls := "FleetSlots$Asks", name := "worthOfAny", desc := "(LFleetSlots$Device;)I" } : MethodName) prog_2_method_6_code (2 : Nat) (Option.some FieldType.int) ∈ zT := zT_t 594 rfl rfl
set_option maxRecDepth 20000 in
theorem zq_595 : Cond.methodLink "FleetSlots$Asks" (43 : Nat) ({ cls := "FleetSlots$Slot", name := "versionNumber", desc := "()I" } : MethodName) ∈ zT := zT_t 595 rfl rfl
set_option maxRecDepth 20000 in
theorem zq_596 : Cond.methodLink "FleetSlots$Asks" (24 : Nat) ({ cls := "FleetSlots$Asks", name := "worthOfSettled", desc := "(LFleetSlots$Device;)I" } : MethodName) ∈ zT := zT_t 596 rfl rfl
set_option maxRecDepth 20000 in
theorem zq_598 : Cond.instanceMethod ({ cls := "FleetSlots$Asks", name := "worthOfSettled", desc := "(LFleetSlots$Device;)I" } : MethodName) ∈ zT := zT_t 598 rfl rfl
set_option maxRecDepth 20000 in
theorem zq_599 : Cond.code ({ cls := "FleetSlots$Asks", name := "worthOfSettled", desc := "(LFleetSlots$Device;)I" } : MethodName) prog_2_method_8_code (2 : Nat) (Option.some FieldType.int) ∈ zT := zT_t 599 rfl rfl
set_option maxRecDepth 20000 in
theorem zq_600 : Cond.methodLink "FleetSlots$Asks" (27 : Nat) ({ cls := "FleetSlots$Asks", name := "worthOfStuck", desc := "(LFleetSlots$Device;)I" } : MethodName) ∈ zT := zT_t 600 rfl rfl
set_option maxRecDepth 20000 in
theorem zq_602 : Cond.instanceMethod ({ cls := "FleetSlots$Asks", name := "worthOfStuck", desc := "(LFleetSlots$Device;)I" } : MethodName) ∈ zT := zT_t 602 rfl rfl
set_option maxRecDepth 20000 in
theorem zq_603 : Cond.code ({ cls := "FleetSlots$Asks", name := "worthOfStuck", desc := "(LFleetSlots$Device;)I" } : MethodName) prog_2_method_9_code (2 : Nat) (Option.some FieldType.int) ∈ zT := zT_t 603 rfl rfl
set_option maxRecDepth 20000 in
theorem zq_604 : Cond.methodLink "FleetSlots" (296 : Nat) ({ cls := "FleetSlots$Asks", name := "markOf", desc := "(LFleetSlots$Device;I)I" } : MethodName) ∈ zT := zT_t 604 rfl rfl
set_option maxRecDepth 20000 in
theorem zq_605 : Cond.instanceMethod ({ cls := "FleetSlots$Asks", name := "markOf", desc := "(LFleetSlots$Device;I)I" } : MethodName) ∈ zT := zT_t 605 rfl rfl
set_option maxRecDepth 20000 in
theorem zq_606 : Cond.selects "FleetSlots$Asks" ({ cls := "FleetSlots$Asks", name := "markOf", desc := "(LFleetSlots$Device;I)I" } : MethodName) ({ cls := "FleetSlots$Asks", name := "markOf", desc := "(LFleetSlots$Device;I)I" } : MethodName) ∈ zT := zT_t 606 rfl rfl
set_option maxRecDepth 20000 in
theorem zq_607 : Cond.code ({ cls := "FleetSlots$Asks", name := "markOf", desc := "(LFleetSlots$Device;I)I" } : MethodName) prog_2_method_10_code (3 : Nat) (Option.some FieldType.int) ∈ zT := zT_t 607 rfl rfl
set_option maxRecDepth 20000 in
theorem zq_608 : Cond.methodLink "FleetSlots$Asks" (52 : Nat) ({ cls := "FleetSlots$Asks", name := "markOfFresh", desc := "(LFleetSlots$Device;I)I" } : MethodName) ∈ zT := zT_t 608 rfl rfl
set_option maxRecDepth 20000 in
theorem zq_610 : Cond.instanceMethod ({ cls := "FleetSlots$Asks", name := "markOfFresh", desc := "(LFleetSlots$Device;I)I" } : MethodName) ∈ zT := zT_t 610 rfl rfl
set_option maxRecDepth 20000 in
theorem zq_611 : Cond.code ({ cls := "FleetSlots$Asks", name := "markOfFresh", desc := "(LFleetSlots$Device;I)I" } : MethodName) prog_2_method_12_code (3 : Nat) (Option.some FieldType.int) ∈ zT := zT_t 611 rfl rfl
set_option maxRecDepth 20000 in
theorem zq_612 : Cond.methodLink "FleetSlots$Asks" (59 : Nat) ({ cls := "FleetSlots$Asks", name := "markOfAny", desc := "(LFleetSlots$Device;)I" } : MethodName) ∈ zT := zT_t 612 rfl rfl
set_option maxRecDepth 20000 in
theorem zq_614 : Cond.instanceMethod ({ cls := "FleetSlots$Asks", name := "markOfAny", desc := "(LFleetSlots$Device;)I" } : MethodName) ∈ zT := zT_t 614 rfl rfl
set_option maxRecDepth 20000 in
theorem zq_615 : Cond.code ({ cls := "FleetSlots$Asks", name := "markOfAny", desc := "(LFleetSlots$Device;)I" } : MethodName) prog_2_method_11_code (2 : Nat) (Option.some FieldType.int) ∈ zT := zT_t 615 rfl rfl
set_option maxRecDepth 20000 in
theorem zq_616 : Cond.methodLink "FleetSlots$Asks" (65 : Nat) ({ cls := "FleetSlots$Asks", name := "worthOf", desc := "(LFleetSlots$Device;I)I" } : MethodName) ∈ zT := zT_t 616 rfl rfl
set_option maxRecDepth 20000 in
theorem zq_617 : Cond.methodLink "FleetSlots$Asks" (56 : Nat) ({ cls := "FleetSlots$Asks", name := "markOfStuck", desc := "(LFleetSlots$Device;)I" } : MethodName) ∈ zT := zT_t 617 rfl rfl
set_option maxRecDepth 20000 in
theorem zq_619 : Cond.instanceMethod ({ cls := "FleetSlots$Asks", name := "markOfStuck", desc := "(LFleetSlots$Device;)I" } : MethodName) ∈ zT := zT_t 619 rfl rfl
set_option maxRecDepth 20000 in
theorem zq_620 : Cond.code ({ cls := "FleetSlots$Asks", name := "markOfStuck", desc := "(LFleetSlots$Device;)I" } : MethodName) prog_2_method_13_code (2 : Nat) (Option.some FieldType.int) ∈ zT := zT_t 620 rfl rfl
set_option maxRecDepth 20000 in
theorem zq_622 : Cond.instanceMethod ({ cls := "FleetSlots", name := "trace", desc := "(I)I" } : MethodName) ∈ zT := zT_t 622 rfl rfl
set_option maxRecDepth 20000 in
theorem zq_623 : Cond.selects "FleetSlots" ({ cls := "FleetSlots", name := "trace", desc := "(I)I" } : MethodName) ({ cls := "FleetSlots", name := "trace", desc := "(I)I" } : MethodName) ∈ zT := zT_t 623 rfl rfl
set_option maxRecDepth 20000 in
theorem zq_624 : Cond.code ({ cls := "FleetSlots", name := "trace", desc := "(I)I" } : MethodName) prog_1_method_24_code (2 : Nat) (Option.some FieldType.int) ∈ zT := zT_t 624 rfl rfl
set_option maxRecDepth 20000 in
theorem zq_625 : Cond.methodLink "FleetSlots" (299 : Nat) ({ cls := "FleetSlots$Asks", name := "tracedAt", desc := "(I)I" } : MethodName) ∈ zT := zT_t 625 rfl rfl
set_option maxRecDepth 20000 in
theorem zq_626 : Cond.instanceMethod ({ cls := "FleetSlots$Asks", name := "tracedAt", desc := "(I)I" } : MethodName) ∈ zT := zT_t 626 rfl rfl
set_option maxRecDepth 20000 in
theorem zq_627 : Cond.selects "FleetSlots$Asks" ({ cls := "FleetSlots$Asks", name := "tracedAt", desc := "(I)I" } : MethodName) ({ cls := "FleetSlots$Asks", name := "tracedAt", desc := "(I)I" } : MethodName) ∈ zT := zT_t 627 rfl rfl
set_option maxRecDepth 20000 in
theorem zq_628 : Cond.code ({ cls := "FleetSlots$Asks", name := "tracedAt", desc := "(I)I" } : MethodName) prog_2_method_3_code (2 : Nat) (Option.some FieldType.int) ∈ zT := zT_t 628 rfl rfl
set_option maxRecDepth 20000 in
theorem zq_629 : Cond.constant "FleetSlots$Asks" (19 : Nat) (-1000000 : Int32) ∈ zT := zT_t 629 rfl rfl
set_option maxRecDepth 20000 in
theorem zq_631 : Cond.instanceMethod ({ cls := "FleetSlots", name := "count", desc := "(I)I" } : MethodName) ∈ zT := zT_t 631 rfl rfl
set_option maxRecDepth 20000 in
theorem zq_632 : Cond.selects "FleetSlots" ({ cls := "FleetSlots", name := "count", desc := "(I)I" } : MethodName) ({ cls := "FleetSlots", name := "count", desc := "(I)I" } : MethodName) ∈ zT := zT_t 632 rfl rfl
set_option maxRecDepth 20000 in
theorem zq_633 : Cond.code ({ cls := "FleetSlots", name := "count", desc := "(I)I" } : MethodName) prog_1_method_25_code (2 : Nat) (Option.some FieldType.int) ∈ zT := zT_t 633 rfl rfl
set_option maxRecDepth 20000 in
theorem zq_634 : Cond.methodLink "FleetSlots" (302 : Nat) ({ cls := "FleetSlots", name := "sheetsThere", desc := "()I" } : MethodName) ∈ zT := zT_t 634 rfl rfl
set_option maxRecDepth 20000 in
theorem zq_636 : Cond.instanceMethod ({ cls := "FleetSlots", name := "sheetsThere", desc := "()I" } : MethodName) ∈ zT := zT_t 636 rfl rfl
set_option maxRecDepth 20000 in
theorem zq_637 : Cond.code ({ cls := "FleetSlots", name := "sheetsThere", desc := "()I" } : MethodName) prog_1_method_50_code (3 : Nat) (Option.some FieldType.int) ∈ zT := zT_t 637 rfl rfl
set_option maxRecDepth 20000 in
theorem zq_638 : Cond.methodLink "FleetSlots" (305 : Nat) ({ cls := "FleetSlots", name := "devicesAlive", desc := "()I" } : MethodName) ∈ zT := zT_t 638 rfl rfl
set_option maxRecDepth 20000 in
theorem zq_640 : Cond.instanceMethod ({ cls := "FleetSlots", name := "devicesAlive", desc := "()I" } : MethodName) ∈ zT := zT_t 640 rfl rfl
set_option maxRecDepth 20000 in
theorem zq_641 : Cond.code ({ cls := "FleetSlots", name := "devicesAlive", desc := "()I" } : MethodName) prog_1_method_51_code (3 : Nat) (Option.some FieldType.int) ∈ zT := zT_t 641 rfl rfl
set_option maxRecDepth 20000 in
theorem zq_642 : Cond.methodLink "FleetSlots" (308 : Nat) ({ cls := "FleetSlots", name := "devicesTold", desc := "(I)I" } : MethodName) ∈ zT := zT_t 642 rfl rfl
set_option maxRecDepth 20000 in
theorem zq_644 : Cond.instanceMethod ({ cls := "FleetSlots", name := "devicesTold", desc := "(I)I" } : MethodName) ∈ zT := zT_t 644 rfl rfl
set_option maxRecDepth 20000 in
theorem zq_645 : Cond.code ({ cls := "FleetSlots", name := "devicesTold", desc := "(I)I" } : MethodName) prog_1_method_52_code (4 : Nat) (Option.some FieldType.int) ∈ zT := zT_t 645 rfl rfl
set_option maxRecDepth 20000 in
theorem zq_647 : Cond.instanceMethod ({ cls := "FleetSlots", name := "status", desc := "()I" } : MethodName) ∈ zT := zT_t 647 rfl rfl
set_option maxRecDepth 20000 in
theorem zq_648 : Cond.selects "FleetSlots" ({ cls := "FleetSlots", name := "status", desc := "()I" } : MethodName) ({ cls := "FleetSlots", name := "status", desc := "()I" } : MethodName) ∈ zT := zT_t 648 rfl rfl
set_option maxRecDepth 20000 in
theorem zq_649 : Cond.code ({ cls := "FleetSlots", name := "status", desc := "()I" } : MethodName) prog_1_method_26_code (1 : Nat) (Option.some FieldType.int) ∈ zT := zT_t 649 rfl rfl
set_option maxRecDepth 20000 in
theorem zq_653 : Cond.instanceMethod ({ cls := "FleetSlotsModel", name := "<init>", desc := "()V" } : MethodName) ∈ zT := zT_t 653 rfl rfl
set_option maxRecDepth 20000 in
theorem zq_654 : Cond.code ({ cls := "FleetSlotsModel", name := "<init>", desc := "()V" } : MethodName) prog_10_method_1_code (1 : Nat) (Option.none : Option FieldType) ∈ zT := zT_t 654 rfl rfl
set_option maxRecDepth 20000 in
theorem zq_656 : Cond.fieldLink "FleetSlotsModel" (80 : Nat) "FleetSlotsModel" "thrown" "I" ∈ zT := zT_t 656 rfl rfl
set_option maxRecDepth 20000 in
theorem zq_657 : Cond.fieldLink "FleetSlotsModel" (84 : Nat) "FleetSlotsModel" "status" "I" ∈ zT := zT_t 657 rfl rfl
set_option maxRecDepth 20000 in
theorem zq_658 : Cond.fieldLink "FleetSlotsModel" (7 : Nat) "FleetSlotsModel" "lane" "[I" ∈ zT := zT_t 658 rfl rfl
set_option maxRecDepth 20000 in
theorem zq_659 : Cond.fieldLink "FleetSlotsModel" (13 : Nat) "FleetSlotsModel" "many" "[I" ∈ zT := zT_t 659 rfl rfl
set_option maxRecDepth 20000 in
theorem zq_660 : Cond.fieldLink "FleetSlotsModel" (16 : Nat) "FleetSlotsModel" "item" "[I" ∈ zT := zT_t 660 rfl rfl
set_option maxRecDepth 20000 in
theorem zq_661 : Cond.fieldLink "FleetSlotsModel" (105 : Nat) "FleetSlotsModel" "versions" "I" ∈ zT := zT_t 661 rfl rfl
set_option maxRecDepth 20000 in
theorem zq_662 : Cond.fieldLink "FleetSlotsModel" (19 : Nat) "FleetSlotsModel" "blocks" "[I" ∈ zT := zT_t 662 rfl rfl
set_option maxRecDepth 20000 in
theorem zq_663 : Cond.fieldLink "FleetSlotsModel" (22 : Nat) "FleetSlotsModel" "floor" "[I" ∈ zT := zT_t 663 rfl rfl
set_option maxRecDepth 20000 in
theorem zq_664 : Cond.fieldLink "FleetSlotsModel" (25 : Nat) "FleetSlotsModel" "ails" "[I" ∈ zT := zT_t 664 rfl rfl
set_option maxRecDepth 20000 in
theorem zq_665 : Cond.fieldLink "FleetSlotsModel" (28 : Nat) "FleetSlotsModel" "bytes" "[I" ∈ zT := zT_t 665 rfl rfl
set_option maxRecDepth 20000 in
theorem zq_666 : Cond.fieldLink "FleetSlotsModel" (31 : Nat) "FleetSlotsModel" "way" "[I" ∈ zT := zT_t 666 rfl rfl
set_option maxRecDepth 20000 in
theorem zq_667 : Cond.fieldLink "FleetSlotsModel" (34 : Nat) "FleetSlotsModel" "steps" "[I" ∈ zT := zT_t 667 rfl rfl
set_option maxRecDepth 20000 in
theorem zq_668 : Cond.fieldLink "FleetSlotsModel" (37 : Nat) "FleetSlotsModel" "then" "[I" ∈ zT := zT_t 668 rfl rfl
set_option maxRecDepth 20000 in
theorem zq_669 : Cond.fieldLink "FleetSlotsModel" (127 : Nat) "FleetSlotsModel" "devices" "I" ∈ zT := zT_t 669 rfl rfl
set_option maxRecDepth 20000 in
theorem zq_670 : Cond.fieldLink "FleetSlotsModel" (40 : Nat) "FleetSlotsModel" "sort" "[I" ∈ zT := zT_t 670 rfl rfl
set_option maxRecDepth 20000 in
theorem zq_671 : Cond.fieldLink "FleetSlotsModel" (43 : Nat) "FleetSlotsModel" "hub" "[I" ∈ zT := zT_t 671 rfl rfl
set_option maxRecDepth 20000 in
theorem zq_672 : Cond.fieldLink "FleetSlotsModel" (46 : Nat) "FleetSlotsModel" "on" "[I" ∈ zT := zT_t 672 rfl rfl
set_option maxRecDepth 20000 in
theorem zq_673 : Cond.fieldLink "FleetSlotsModel" (49 : Nat) "FleetSlotsModel" "holds" "[I" ∈ zT := zT_t 673 rfl rfl
set_option maxRecDepth 20000 in
theorem zq_674 : Cond.fieldLink "FleetSlotsModel" (52 : Nat) "FleetSlotsModel" "parts" "[I" ∈ zT := zT_t 674 rfl rfl
set_option maxRecDepth 20000 in
theorem zq_675 : Cond.fieldLink "FleetSlotsModel" (55 : Nat) "FleetSlotsModel" "isTried" "[Z" ∈ zT := zT_t 675 rfl rfl
set_option maxRecDepth 20000 in
theorem zq_676 : Cond.fieldLink "FleetSlotsModel" (59 : Nat) "FleetSlotsModel" "tries" "[I" ∈ zT := zT_t 676 rfl rfl
set_option maxRecDepth 20000 in
theorem zq_677 : Cond.fieldLink "FleetSlotsModel" (62 : Nat) "FleetSlotsModel" "fuse" "[I" ∈ zT := zT_t 677 rfl rfl
set_option maxRecDepth 20000 in
theorem zq_678 : Cond.fieldLink "FleetSlotsModel" (65 : Nat) "FleetSlotsModel" "fails" "[I" ∈ zT := zT_t 678 rfl rfl
set_option maxRecDepth 20000 in
theorem zq_679 : Cond.fieldLink "FleetSlotsModel" (68 : Nat) "FleetSlotsModel" "failsSince" "[I" ∈ zT := zT_t 679 rfl rfl
set_option maxRecDepth 20000 in
theorem zq_680 : Cond.fieldLink "FleetSlotsModel" (139 : Nat) "FleetSlotsModel" "seed" "I" ∈ zT := zT_t 680 rfl rfl
set_option maxRecDepth 20000 in
theorem zq_681 : Cond.fieldLink "FleetSlotsModel" (184 : Nat) "FleetSlotsModel" "isThere" "Z" ∈ zT := zT_t 681 rfl rfl
set_option maxRecDepth 20000 in
theorem zq_682 : Cond.fieldLink "FleetSlotsModel" (188 : Nat) "FleetSlotsModel" "target" "I" ∈ zT := zT_t 682 rfl rfl
set_option maxRecDepth 20000 in
theorem zq_683 : Cond.fieldLink "FleetSlotsModel" (191 : Nat) "FleetSlotsModel" "waves" "I" ∈ zT := zT_t 683 rfl rfl
set_option maxRecDepth 20000 in
theorem zq_684 : Cond.fieldLink "FleetSlotsModel" (71 : Nat) "FleetSlotsModel" "share" "[I" ∈ zT := zT_t 684 rfl rfl
set_option maxRecDepth 20000 in
theorem zq_685 : Cond.fieldLink "FleetSlotsModel" (194 : Nat) "FleetSlotsModel" "gate" "I" ∈ zT := zT_t 685 rfl rfl
set_option maxRecDepth 20000 in
theorem zq_686 : Cond.fieldLink "FleetSlotsModel" (206 : Nat) "FleetSlotsModel" "wave" "I" ∈ zT := zT_t 686 rfl rfl
set_option maxRecDepth 20000 in
theorem zq_687 : Cond.fieldLink "FleetSlotsModel" (209 : Nat) "FleetSlotsModel" "asked" "I" ∈ zT := zT_t 687 rfl rfl
set_option maxRecDepth 20000 in
theorem zq_688 : Cond.fieldLink "FleetSlotsModel" (212 : Nat) "FleetSlotsModel" "failed" "I" ∈ zT := zT_t 688 rfl rfl
set_option maxRecDepth 20000 in
theorem zq_689 : Cond.fieldLink "FleetSlotsModel" (197 : Nat) "FleetSlotsModel" "over" "I" ∈ zT := zT_t 689 rfl rfl
set_option maxRecDepth 20000 in
theorem zq_690 : Cond.fieldLink "FleetSlotsModel" (200 : Nat) "FleetSlotsModel" "sent" "I" ∈ zT := zT_t 690 rfl rfl
set_option maxRecDepth 20000 in
theorem zq_691 : Cond.fieldLink "FleetSlotsModel" (74 : Nat) "FleetSlotsModel" "wasAsked" "[Z" ∈ zT := zT_t 691 rfl rfl
set_option maxRecDepth 20000 in
theorem zq_692 : Cond.fieldLink "FleetSlotsModel" (77 : Nat) "FleetSlotsModel" "trace" "[I" ∈ zT := zT_t 692 rfl rfl
set_option maxRecDepth 20000 in
theorem zq_693 : Cond.fieldLink "FleetSlotsModel" (233 : Nat) "FleetSlotsModel" "traced" "I" ∈ zT := zT_t 693 rfl rfl
set_option maxRecDepth 20000 in
theorem zq_694 : Cond.lays "FleetSlotsModel" "FleetSlotsModel" "thrown" "I" ∈ zT := zT_t 694 rfl rfl
set_option maxRecDepth 20000 in
theorem zq_696 : Cond.lays "FleetSlotsModel" "FleetSlotsModel" "status" "I" ∈ zT := zT_t 696 rfl rfl
set_option maxRecDepth 20000 in
theorem zq_698 : Cond.laysFinal "FleetSlotsModel" "FleetSlotsModel" "lane" "[I" ∈ zT := zT_t 698 rfl rfl
set_option maxRecDepth 20000 in
theorem zq_700 : Cond.laysFinal "FleetSlotsModel" "FleetSlotsModel" "many" "[I" ∈ zT := zT_t 700 rfl rfl
set_option maxRecDepth 20000 in
theorem zq_702 : Cond.laysFinal "FleetSlotsModel" "FleetSlotsModel" "item" "[I" ∈ zT := zT_t 702 rfl rfl
set_option maxRecDepth 20000 in
theorem zq_704 : Cond.lays "FleetSlotsModel" "FleetSlotsModel" "versions" "I" ∈ zT := zT_t 704 rfl rfl
set_option maxRecDepth 20000 in
theorem zq_706 : Cond.laysFinal "FleetSlotsModel" "FleetSlotsModel" "blocks" "[I" ∈ zT := zT_t 706 rfl rfl
set_option maxRecDepth 20000 in
theorem zq_708 : Cond.laysFinal "FleetSlotsModel" "FleetSlotsModel" "floor" "[I" ∈ zT := zT_t 708 rfl rfl
set_option maxRecDepth 20000 in
theorem zq_710 : Cond.laysFinal "FleetSlotsModel" "FleetSlotsModel" "ails" "[I" ∈ zT := zT_t 710 rfl rfl
set_option maxRecDepth 20000 in
theorem zq_712 : Cond.laysFinal "FleetSlotsModel" "FleetSlotsModel" "bytes" "[I" ∈ zT := zT_t 712 rfl rfl
set_option maxRecDepth 20000 in
theorem zq_714 : Cond.laysFinal "FleetSlotsModel" "FleetSlotsModel" "way" "[I" ∈ zT := zT_t 714 rfl rfl
set_option maxRecDepth 20000 in
theorem zq_716 : Cond.laysFinal "FleetSlotsModel" "FleetSlotsModel" "steps" "[I" ∈ zT := zT_t 716 rfl rfl
set_option maxRecDepth 20000 in
theorem zq_718 : Cond.laysFinal "FleetSlotsModel" "FleetSlotsModel" "then" "[I" ∈ zT := zT_t 718 rfl rfl
set_option maxRecDepth 20000 in
theorem zq_720 : Cond.lays "FleetSlotsModel" "FleetSlotsModel" "devices" "I" ∈ zT := zT_t 720 rfl rfl
set_option maxRecDepth 20000 in
theorem zq_722 : Cond.laysFinal "FleetSlotsModel" "FleetSlotsModel" "sort" "[I" ∈ zT := zT_t 722 rfl rfl
set_option maxRecDepth 20000 in
theorem zq_724 : Cond.laysFinal "FleetSlotsModel" "FleetSlotsModel" "hub" "[I" ∈ zT := zT_t 724 rfl rfl
set_option maxRecDepth 20000 in
theorem zq_726 : Cond.laysFinal "FleetSlotsModel" "FleetSlotsModel" "on" "[I" ∈ zT := zT_t 726 rfl rfl
set_option maxRecDepth 20000 in
theorem zq_728 : Cond.laysFinal "FleetSlotsModel" "FleetSlotsModel" "holds" "[I" ∈ zT := zT_t 728 rfl rfl
set_option maxRecDepth 20000 in
theorem zq_730 : Cond.laysFinal "FleetSlotsModel" "FleetSlotsModel" "parts" "[I" ∈ zT := zT_t 730 rfl rfl
set_option maxRecDepth 20000 in
theorem zq_732 : Cond.laysFinal "FleetSlotsModel" "FleetSlotsModel" "isTried" "[Z" ∈ zT := zT_t 732 rfl rfl
set_option maxRecDepth 20000 in
theorem zq_734 : Cond.laysFinal "FleetSlotsModel" "FleetSlotsModel" "tries" "[I" ∈ zT := zT_t 734 rfl rfl
set_option maxRecDepth 20000 in
theorem zq_736 : Cond.laysFinal "FleetSlotsModel" "FleetSlotsModel" "fuse" "[I" ∈ zT := zT_t 736 rfl rfl
set_option maxRecDepth 20000 in
theorem zq_738 : Cond.laysFinal "FleetSlotsModel" "FleetSlotsModel" "fails" "[I" ∈ zT := zT_t 738 rfl rfl
set_option maxRecDepth 20000 in
theorem zq_740 : Cond.laysFinal "FleetSlotsModel" "FleetSlotsModel" "failsSince" "[I" ∈ zT := zT_t 740 rfl rfl
set_option maxRecDepth 20000 in
theorem zq_742 : Cond.lays "FleetSlotsModel" "FleetSlotsModel" "seed" "I" ∈ zT := zT_t 742 rfl rfl
set_option maxRecDepth 20000 in
theorem zq_744 : Cond.lays "FleetSlotsModel" "FleetSlotsModel" "isThere" "Z" ∈ zT := zT_t 744 rfl rfl
set_option maxRecDepth 20000 in
theorem zq_746 : Cond.lays "FleetSlotsModel" "FleetSlotsModel" "target" "I" ∈ zT := zT_t 746 rfl rfl
set_option maxRecDepth 20000 in
theorem zq_748 : Cond.lays "FleetSlotsModel" "FleetSlotsModel" "waves" "I" ∈ zT := zT_t 748 rfl rfl
set_option maxRecDepth 20000 in
theorem zq_750 : Cond.laysFinal "FleetSlotsModel" "FleetSlotsModel" "share" "[I" ∈ zT := zT_t 750 rfl rfl
set_option maxRecDepth 20000 in
theorem zq_752 : Cond.lays "FleetSlotsModel" "FleetSlotsModel" "gate" "I" ∈ zT := zT_t 752 rfl rfl
set_option maxRecDepth 20000 in
theorem zq_754 : Cond.lays "FleetSlotsModel" "FleetSlotsModel" "wave" "I" ∈ zT := zT_t 754 rfl rfl
set_option maxRecDepth 20000 in
theorem zq_756 : Cond.lays "FleetSlotsModel" "FleetSlotsModel" "asked" "I" ∈ zT := zT_t 756 rfl rfl
set_option maxRecDepth 20000 in
theorem zq_758 : Cond.lays "FleetSlotsModel" "FleetSlotsModel" "failed" "I" ∈ zT := zT_t 758 rfl rfl
set_option maxRecDepth 20000 in
theorem zq_760 : Cond.lays "FleetSlotsModel" "FleetSlotsModel" "over" "I" ∈ zT := zT_t 760 rfl rfl
set_option maxRecDepth 20000 in
theorem zq_762 : Cond.lays "FleetSlotsModel" "FleetSlotsModel" "sent" "I" ∈ zT := zT_t 762 rfl rfl
set_option maxRecDepth 20000 in
theorem zq_764 : Cond.laysFinal "FleetSlotsModel" "FleetSlotsModel" "wasAsked" "[Z" ∈ zT := zT_t 764 rfl rfl
set_option maxRecDepth 20000 in
theorem zq_766 : Cond.laysFinal "FleetSlotsModel" "FleetSlotsModel" "trace" "[I" ∈ zT := zT_t 766 rfl rfl
set_option maxRecDepth 20000 in
theorem zq_768 : Cond.lays "FleetSlotsModel" "FleetSlotsModel" "traced" "I" ∈ zT := zT_t 768 rfl rfl
set_option maxRecDepth 20000 in
theorem zq_772 : Cond.instanceMethod ({ cls := "FleetSlotsModel", name := "sheet", desc := "(III)I" } : MethodName) ∈ zT := zT_t 772 rfl rfl
set_option maxRecDepth 20000 in
theorem zq_773 : Cond.selects "FleetSlotsModel" ({ cls := "FleetSlotsModel", name := "sheet", desc := "(III)I" } : MethodName) ({ cls := "FleetSlotsModel", name := "sheet", desc := "(III)I" } : MethodName) ∈ zT := zT_t 773 rfl rfl
set_option maxRecDepth 20000 in
theorem zq_774 : Cond.code ({ cls := "FleetSlotsModel", name := "sheet", desc := "(III)I" } : MethodName) prog_10_method_6_code (5 : Nat) (Option.some FieldType.int) ∈ zT := zT_t 774 rfl rfl
set_option maxRecDepth 20000 in
theorem zq_775 : Cond.methodLink "FleetSlotsModel" (94 : Nat) ({ cls := "FleetSlotsModel", name := "isSheet", desc := "(I)Z" } : MethodName) ∈ zT := zT_t 775 rfl rfl
set_option maxRecDepth 20000 in
theorem zq_776 : Cond.static ({ cls := "FleetSlotsModel", name := "isSheet", desc := "(I)Z" } : MethodName) ∈ zT := zT_t 776 rfl rfl
set_option maxRecDepth 20000 in
theorem zq_777 : Cond.code ({ cls := "FleetSlotsModel", name := "isSheet", desc := "(I)Z" } : MethodName) prog_10_method_5_code (1 : Nat) (Option.some FieldType.boolean) ∈ zT := zT_t 777 rfl rfl
set_option maxRecDepth 20000 in
theorem zq_778 : Cond.constantLong "FleetSlotsModel" (88 : Nat) (7 : Int64) ∈ zT := zT_t 778 rfl rfl
set_option maxRecDepth 20000 in
theorem zq_779 : Cond.methodLink "FleetSlotsModel" (90 : Nat) ({ cls := "FleetSlotsModel", name := "in", desc := "(JJJ)Z" } : MethodName) ∈ zT := zT_t 779 rfl rfl
set_option maxRecDepth 20000 in
theorem zq_780 : Cond.static ({ cls := "FleetSlotsModel", name := "in", desc := "(JJJ)Z" } : MethodName) ∈ zT := zT_t 780 rfl rfl
set_option maxRecDepth 20000 in
theorem zq_781 : Cond.code ({ cls := "FleetSlotsModel", name := "in", desc := "(JJJ)Z" } : MethodName) prog_10_method_3_code (6 : Nat) (Option.some FieldType.boolean) ∈ zT := zT_t 781 rfl rfl
set_option maxRecDepth 20000 in
theorem zq_782 : Cond.constantLong "FleetSlotsModel" (98 : Nat) (2 : Int64) ∈ zT := zT_t 782 rfl rfl
set_option maxRecDepth 20000 in
theorem zq_783 : Cond.constant "FleetSlotsModel" (100 : Nat) (-1000001 : Int32) ∈ zT := zT_t 783 rfl rfl
set_option maxRecDepth 20000 in
theorem zq_784 : Cond.methodLink "FleetSlotsModel" (101 : Nat) ({ cls := "FleetSlotsModel", name := "found", desc := "(I)I" } : MethodName) ∈ zT := zT_t 784 rfl rfl
set_option maxRecDepth 20000 in
theorem zq_786 : Cond.instanceMethod ({ cls := "FleetSlotsModel", name := "found", desc := "(I)I" } : MethodName) ∈ zT := zT_t 786 rfl rfl
set_option maxRecDepth 20000 in
theorem zq_787 : Cond.code ({ cls := "FleetSlotsModel", name := "found", desc := "(I)I" } : MethodName) prog_10_method_4_code (2 : Nat) (Option.some FieldType.int) ∈ zT := zT_t 787 rfl rfl
set_option maxRecDepth 20000 in
theorem zq_788 : Cond.constant "FleetSlotsModel" (87 : Nat) (-1000010 : Int32) ∈ zT := zT_t 788 rfl rfl
set_option maxRecDepth 20000 in
theorem zq_790 : Cond.instanceMethod ({ cls := "FleetSlotsModel", name := "set", desc := "(III)I" } : MethodName) ∈ zT := zT_t 790 rfl rfl
set_option maxRecDepth 20000 in
theorem zq_791 : Cond.selects "FleetSlotsModel" ({ cls := "FleetSlotsModel", name := "set", desc := "(III)I" } : MethodName) ({ cls := "FleetSlotsModel", name := "set", desc := "(III)I" } : MethodName) ∈ zT := zT_t 791 rfl rfl
set_option maxRecDepth 20000 in
theorem zq_792 : Cond.code ({ cls := "FleetSlotsModel", name := "set", desc := "(III)I" } : MethodName) prog_10_method_7_code (4 : Nat) (Option.some FieldType.int) ∈ zT := zT_t 792 rfl rfl
set_option maxRecDepth 20000 in
theorem zq_794 : Cond.instanceMethod ({ cls := "FleetSlotsModel", name := "copy", desc := "(IIIII)I" } : MethodName) ∈ zT := zT_t 794 rfl rfl
set_option maxRecDepth 20000 in
theorem zq_795 : Cond.selects "FleetSlotsModel" ({ cls := "FleetSlotsModel", name := "copy", desc := "(IIIII)I" } : MethodName) ({ cls := "FleetSlotsModel", name := "copy", desc := "(IIIII)I" } : MethodName) ∈ zT := zT_t 795 rfl rfl
set_option maxRecDepth 20000 in
theorem zq_796 : Cond.code ({ cls := "FleetSlotsModel", name := "copy", desc := "(IIIII)I" } : MethodName) prog_10_method_8_code (9 : Nat) (Option.some FieldType.int) ∈ zT := zT_t 796 rfl rfl
set_option maxRecDepth 20000 in
theorem zq_798 : Cond.instanceMethod ({ cls := "FleetSlotsModel", name := "drop", desc := "(I)I" } : MethodName) ∈ zT := zT_t 798 rfl rfl
set_option maxRecDepth 20000 in
theorem zq_799 : Cond.selects "FleetSlotsModel" ({ cls := "FleetSlotsModel", name := "drop", desc := "(I)I" } : MethodName) ({ cls := "FleetSlotsModel", name := "drop", desc := "(I)I" } : MethodName) ∈ zT := zT_t 799 rfl rfl
set_option maxRecDepth 20000 in
theorem zq_800 : Cond.code ({ cls := "FleetSlotsModel", name := "drop", desc := "(I)I" } : MethodName) prog_10_method_9_code (2 : Nat) (Option.some FieldType.int) ∈ zT := zT_t 800 rfl rfl
set_option maxRecDepth 20000 in
theorem zq_802 : Cond.instanceMethod ({ cls := "FleetSlotsModel", name := "version", desc := "(III)I" } : MethodName) ∈ zT := zT_t 802 rfl rfl
set_option maxRecDepth 20000 in
theorem zq_803 : Cond.selects "FleetSlotsModel" ({ cls := "FleetSlotsModel", name := "version", desc := "(III)I" } : MethodName) ({ cls := "FleetSlotsModel", name := "version", desc := "(III)I" } : MethodName) ∈ zT := zT_t 803 rfl rfl
set_option maxRecDepth 20000 in
theorem zq_804 : Cond.code ({ cls := "FleetSlotsModel", name := "version", desc := "(III)I" } : MethodName) prog_10_method_12_code (5 : Nat) (Option.some FieldType.int) ∈ zT := zT_t 804 rfl rfl
set_option maxRecDepth 20000 in
theorem zq_805 : Cond.constantLong "FleetSlotsModel" (111 : Nat) (8 : Int64) ∈ zT := zT_t 805 rfl rfl
set_option maxRecDepth 20000 in
theorem zq_806 : Cond.constantLong "FleetSlotsModel" (113 : Nat) (255 : Int64) ∈ zT := zT_t 806 rfl rfl
set_option maxRecDepth 20000 in
theorem zq_807 : Cond.constant "FleetSlotsModel" (115 : Nat) (-1000003 : Int32) ∈ zT := zT_t 807 rfl rfl
set_option maxRecDepth 20000 in
theorem zq_809 : Cond.instanceMethod ({ cls := "FleetSlotsModel", name := "step", desc := "(III)I" } : MethodName) ∈ zT := zT_t 809 rfl rfl
set_option maxRecDepth 20000 in
theorem zq_810 : Cond.selects "FleetSlotsModel" ({ cls := "FleetSlotsModel", name := "step", desc := "(III)I" } : MethodName) ({ cls := "FleetSlotsModel", name := "step", desc := "(III)I" } : MethodName) ∈ zT := zT_t 810 rfl rfl
set_option maxRecDepth 20000 in
theorem zq_811 : Cond.code ({ cls := "FleetSlotsModel", name := "step", desc := "(III)I" } : MethodName) prog_10_method_13_code (5 : Nat) (Option.some FieldType.int) ∈ zT := zT_t 811 rfl rfl
set_option maxRecDepth 20000 in
theorem zq_812 : Cond.methodLink "FleetSlotsModel" (116 : Nat) ({ cls := "FleetSlotsModel", name := "areSteps", desc := "(II)Z" } : MethodName) ∈ zT := zT_t 812 rfl rfl
set_option maxRecDepth 20000 in
theorem zq_814 : Cond.instanceMethod ({ cls := "FleetSlotsModel", name := "areSteps", desc := "(II)Z" } : MethodName) ∈ zT := zT_t 814 rfl rfl
set_option maxRecDepth 20000 in
theorem zq_815 : Cond.code ({ cls := "FleetSlotsModel", name := "areSteps", desc := "(II)Z" } : MethodName) prog_10_method_11_code (3 : Nat) (Option.some FieldType.boolean) ∈ zT := zT_t 815 rfl rfl
set_option maxRecDepth 20000 in
theorem zq_816 : Cond.methodLink "FleetSlotsModel" (108 : Nat) ({ cls := "FleetSlotsModel", name := "isVersion", desc := "(I)Z" } : MethodName) ∈ zT := zT_t 816 rfl rfl
set_option maxRecDepth 20000 in
theorem zq_818 : Cond.instanceMethod ({ cls := "FleetSlotsModel", name := "isVersion", desc := "(I)Z" } : MethodName) ∈ zT := zT_t 818 rfl rfl
set_option maxRecDepth 20000 in
theorem zq_819 : Cond.code ({ cls := "FleetSlotsModel", name := "isVersion", desc := "(I)Z" } : MethodName) prog_10_method_10_code (2 : Nat) (Option.some FieldType.boolean) ∈ zT := zT_t 819 rfl rfl
set_option maxRecDepth 20000 in
theorem zq_820 : Cond.constantLong "FleetSlotsModel" (120 : Nat) (1000 : Int64) ∈ zT := zT_t 820 rfl rfl
set_option maxRecDepth 20000 in
theorem zq_822 : Cond.instanceMethod ({ cls := "FleetSlotsModel", name := "path", desc := "(III)I" } : MethodName) ∈ zT := zT_t 822 rfl rfl
set_option maxRecDepth 20000 in
theorem zq_823 : Cond.selects "FleetSlotsModel" ({ cls := "FleetSlotsModel", name := "path", desc := "(III)I" } : MethodName) ({ cls := "FleetSlotsModel", name := "path", desc := "(III)I" } : MethodName) ∈ zT := zT_t 823 rfl rfl
set_option maxRecDepth 20000 in
theorem zq_824 : Cond.code ({ cls := "FleetSlotsModel", name := "path", desc := "(III)I" } : MethodName) prog_10_method_15_code (4 : Nat) (Option.some FieldType.int) ∈ zT := zT_t 824 rfl rfl
set_option maxRecDepth 20000 in
theorem zq_825 : Cond.methodLink "FleetSlotsModel" (123 : Nat) ({ cls := "FleetSlotsModel", name := "findWays", desc := "(I)V" } : MethodName) ∈ zT := zT_t 825 rfl rfl
set_option maxRecDepth 20000 in
theorem zq_827 : Cond.instanceMethod ({ cls := "FleetSlotsModel", name := "findWays", desc := "(I)V" } : MethodName) ∈ zT := zT_t 827 rfl rfl
set_option maxRecDepth 20000 in
theorem zq_828 : Cond.code ({ cls := "FleetSlotsModel", name := "findWays", desc := "(I)V" } : MethodName) prog_10_method_14_code (6 : Nat) (Option.none : Option FieldType) ∈ zT := zT_t 828 rfl rfl
set_option maxRecDepth 20000 in
theorem zq_829 : Cond.constant "FleetSlotsModel" (122 : Nat) (-1000000 : Int32) ∈ zT := zT_t 829 rfl rfl
set_option maxRecDepth 20000 in
theorem zq_831 : Cond.instanceMethod ({ cls := "FleetSlotsModel", name := "on", desc := "(III)I" } : MethodName) ∈ zT := zT_t 831 rfl rfl
set_option maxRecDepth 20000 in
theorem zq_832 : Cond.selects "FleetSlotsModel" ({ cls := "FleetSlotsModel", name := "on", desc := "(III)I" } : MethodName) ({ cls := "FleetSlotsModel", name := "on", desc := "(III)I" } : MethodName) ∈ zT := zT_t 832 rfl rfl
set_option maxRecDepth 20000 in
theorem zq_833 : Cond.code ({ cls := "FleetSlotsModel", name := "on", desc := "(III)I" } : MethodName) prog_10_method_16_code (6 : Nat) (Option.some FieldType.int) ∈ zT := zT_t 833 rfl rfl
set_option maxRecDepth 20000 in
theorem zq_835 : Cond.instanceMethod ({ cls := "FleetSlotsModel", name := "device", desc := "(III)I" } : MethodName) ∈ zT := zT_t 835 rfl rfl
set_option maxRecDepth 20000 in
theorem zq_836 : Cond.selects "FleetSlotsModel" ({ cls := "FleetSlotsModel", name := "device", desc := "(III)I" } : MethodName) ({ cls := "FleetSlotsModel", name := "device", desc := "(III)I" } : MethodName) ∈ zT := zT_t 836 rfl rfl
set_option maxRecDepth 20000 in
theorem zq_837 : Cond.code ({ cls := "FleetSlotsModel", name := "device", desc := "(III)I" } : MethodName) prog_10_method_19_code (5 : Nat) (Option.some FieldType.int) ∈ zT := zT_t 837 rfl rfl
set_option maxRecDepth 20000 in
theorem zq_838 : Cond.methodLink "FleetSlotsModel" (130 : Nat) ({ cls := "FleetSlotsModel", name := "isDevice", desc := "(I)Z" } : MethodName) ∈ zT := zT_t 838 rfl rfl
set_option maxRecDepth 20000 in
theorem zq_840 : Cond.instanceMethod ({ cls := "FleetSlotsModel", name := "isDevice", desc := "(I)Z" } : MethodName) ∈ zT := zT_t 840 rfl rfl
set_option maxRecDepth 20000 in
theorem zq_841 : Cond.code ({ cls := "FleetSlotsModel", name := "isDevice", desc := "(I)Z" } : MethodName) prog_10_method_17_code (2 : Nat) (Option.some FieldType.boolean) ∈ zT := zT_t 841 rfl rfl
set_option maxRecDepth 20000 in
theorem zq_842 : Cond.methodLink "FleetSlotsModel" (133 : Nat) ({ cls := "FleetSlotsModel", name := "isAiling", desc := "(II)Z" } : MethodName) ∈ zT := zT_t 842 rfl rfl
set_option maxRecDepth 20000 in
theorem zq_844 : Cond.instanceMethod ({ cls := "FleetSlotsModel", name := "isAiling", desc := "(II)Z" } : MethodName) ∈ zT := zT_t 844 rfl rfl
set_option maxRecDepth 20000 in
theorem zq_845 : Cond.code ({ cls := "FleetSlotsModel", name := "isAiling", desc := "(II)Z" } : MethodName) prog_10_method_18_code (3 : Nat) (Option.some FieldType.boolean) ∈ zT := zT_t 845 rfl rfl
set_option maxRecDepth 20000 in
theorem zq_846 : Cond.constant "FleetSlotsModel" (136 : Nat) (-1000002 : Int32) ∈ zT := zT_t 846 rfl rfl
set_option maxRecDepth 20000 in
theorem zq_848 : Cond.instanceMethod ({ cls := "FleetSlotsModel", name := "told", desc := "(II)I" } : MethodName) ∈ zT := zT_t 848 rfl rfl
set_option maxRecDepth 20000 in
theorem zq_849 : Cond.selects "FleetSlotsModel" ({ cls := "FleetSlotsModel", name := "told", desc := "(II)I" } : MethodName) ({ cls := "FleetSlotsModel", name := "told", desc := "(II)I" } : MethodName) ∈ zT := zT_t 849 rfl rfl
set_option maxRecDepth 20000 in
theorem zq_850 : Cond.code ({ cls := "FleetSlotsModel", name := "told", desc := "(II)I" } : MethodName) prog_10_method_24_code (3 : Nat) (Option.some FieldType.int) ∈ zT := zT_t 850 rfl rfl
set_option maxRecDepth 20000 in
theorem zq_851 : Cond.methodLink "FleetSlotsModel" (144 : Nat) ({ cls := "FleetSlotsModel", name := "runsOn", desc := "(I)I" } : MethodName) ∈ zT := zT_t 851 rfl rfl
set_option maxRecDepth 20000 in
theorem zq_853 : Cond.instanceMethod ({ cls := "FleetSlotsModel", name := "runsOn", desc := "(I)I" } : MethodName) ∈ zT := zT_t 853 rfl rfl
set_option maxRecDepth 20000 in
theorem zq_854 : Cond.code ({ cls := "FleetSlotsModel", name := "runsOn", desc := "(I)I" } : MethodName) prog_10_method_20_code (2 : Nat) (Option.some FieldType.int) ∈ zT := zT_t 854 rfl rfl
set_option maxRecDepth 20000 in
theorem zq_855 : Cond.methodLink "FleetSlotsModel" (147 : Nat) ({ cls := "FleetSlotsModel", name := "other", desc := "(I)I" } : MethodName) ∈ zT := zT_t 855 rfl rfl
set_option maxRecDepth 20000 in
theorem zq_857 : Cond.instanceMethod ({ cls := "FleetSlotsModel", name := "other", desc := "(I)I" } : MethodName) ∈ zT := zT_t 857 rfl rfl
set_option maxRecDepth 20000 in
theorem zq_858 : Cond.code ({ cls := "FleetSlotsModel", name := "other", desc := "(I)I" } : MethodName) prog_10_method_21_code (2 : Nat) (Option.some FieldType.int) ∈ zT := zT_t 858 rfl rfl
set_option maxRecDepth 20000 in
theorem zq_859 : Cond.methodLink "FleetSlotsModel" (150 : Nat) ({ cls := "FleetSlotsModel", name := "draw", desc := "(I)I" } : MethodName) ∈ zT := zT_t 859 rfl rfl
set_option maxRecDepth 20000 in
theorem zq_861 : Cond.instanceMethod ({ cls := "FleetSlotsModel", name := "draw", desc := "(I)I" } : MethodName) ∈ zT := zT_t 861 rfl rfl
set_option maxRecDepth 20000 in
theorem zq_862 : Cond.code ({ cls := "FleetSlotsModel", name := "draw", desc := "(I)I" } : MethodName) prog_10_method_22_code (4 : Nat) (Option.some FieldType.int) ∈ zT := zT_t 862 rfl rfl
set_option maxRecDepth 20000 in
theorem zq_863 : Cond.constantLong "FleetSlotsModel" (137 : Nat) (2654435761 : Int64) ∈ zT := zT_t 863 rfl rfl
set_option maxRecDepth 20000 in
theorem zq_864 : Cond.constantLong "FleetSlotsModel" (142 : Nat) (65535 : Int64) ∈ zT := zT_t 864 rfl rfl
set_option maxRecDepth 20000 in
theorem zq_865 : Cond.methodLink "FleetSlotsModel" (153 : Nat) ({ cls := "FleetSlotsModel", name := "isAlive", desc := "(I)Z" } : MethodName) ∈ zT := zT_t 865 rfl rfl
set_option maxRecDepth 20000 in
theorem zq_867 : Cond.instanceMethod ({ cls := "FleetSlotsModel", name := "isAlive", desc := "(I)Z" } : MethodName) ∈ zT := zT_t 867 rfl rfl
set_option maxRecDepth 20000 in
theorem zq_868 : Cond.code ({ cls := "FleetSlotsModel", name := "isAlive", desc := "(I)Z" } : MethodName) prog_10_method_23_code (3 : Nat) (Option.some FieldType.boolean) ∈ zT := zT_t 868 rfl rfl
set_option maxRecDepth 20000 in
theorem zq_870 : Cond.instanceMethod ({ cls := "FleetSlotsModel", name := "update", desc := "(II)I" } : MethodName) ∈ zT := zT_t 870 rfl rfl
set_option maxRecDepth 20000 in
theorem zq_871 : Cond.selects "FleetSlotsModel" ({ cls := "FleetSlotsModel", name := "update", desc := "(II)I" } : MethodName) ({ cls := "FleetSlotsModel", name := "update", desc := "(II)I" } : MethodName) ∈ zT := zT_t 871 rfl rfl
set_option maxRecDepth 20000 in
theorem zq_872 : Cond.code ({ cls := "FleetSlotsModel", name := "update", desc := "(II)I" } : MethodName) prog_10_method_30_code (3 : Nat) (Option.some FieldType.int) ∈ zT := zT_t 872 rfl rfl
set_option maxRecDepth 20000 in
theorem zq_873 : Cond.methodLink "FleetSlotsModel" (163 : Nat) ({ cls := "FleetSlotsModel", name := "actsOf", desc := "(II)I" } : MethodName) ∈ zT := zT_t 873 rfl rfl
set_option maxRecDepth 20000 in
theorem zq_875 : Cond.instanceMethod ({ cls := "FleetSlotsModel", name := "actsOf", desc := "(II)I" } : MethodName) ∈ zT := zT_t 875 rfl rfl
set_option maxRecDepth 20000 in
theorem zq_876 : Cond.code ({ cls := "FleetSlotsModel", name := "actsOf", desc := "(II)I" } : MethodName) prog_10_method_26_code (3 : Nat) (Option.some FieldType.int) ∈ zT := zT_t 876 rfl rfl
set_option maxRecDepth 20000 in
theorem zq_877 : Cond.methodLink "FleetSlotsModel" (167 : Nat) ({ cls := "FleetSlotsModel", name := "go", desc := "(IIII)V" } : MethodName) ∈ zT := zT_t 877 rfl rfl
set_option maxRecDepth 20000 in
theorem zq_879 : Cond.instanceMethod ({ cls := "FleetSlotsModel", name := "go", desc := "(IIII)V" } : MethodName) ∈ zT := zT_t 879 rfl rfl
set_option maxRecDepth 20000 in
theorem zq_880 : Cond.code ({ cls := "FleetSlotsModel", name := "go", desc := "(IIII)V" } : MethodName) prog_10_method_28_code (6 : Nat) (Option.none : Option FieldType) ∈ zT := zT_t 880 rfl rfl
set_option maxRecDepth 20000 in
theorem zq_881 : Cond.methodLink "FleetSlotsModel" (159 : Nat) ({ cls := "FleetSlotsModel", name := "act", desc := "(III)V" } : MethodName) ∈ zT := zT_t 881 rfl rfl
set_option maxRecDepth 20000 in
theorem zq_883 : Cond.instanceMethod ({ cls := "FleetSlotsModel", name := "act", desc := "(III)V" } : MethodName) ∈ zT := zT_t 883 rfl rfl
set_option maxRecDepth 20000 in
theorem zq_884 : Cond.code ({ cls := "FleetSlotsModel", name := "act", desc := "(III)V" } : MethodName) prog_10_method_27_code (4 : Nat) (Option.none : Option FieldType) ∈ zT := zT_t 884 rfl rfl
set_option maxRecDepth 20000 in
theorem zq_885 : Cond.methodLink "FleetSlotsModel" (156 : Nat) ({ cls := "FleetSlotsModel", name := "start", desc := "(I)V" } : MethodName) ∈ zT := zT_t 885 rfl rfl
set_option maxRecDepth 20000 in
theorem zq_887 : Cond.instanceMethod ({ cls := "FleetSlotsModel", name := "start", desc := "(I)V" } : MethodName) ∈ zT := zT_t 887 rfl rfl
set_option maxRecDepth 20000 in
theorem zq_888 : Cond.code ({ cls := "FleetSlotsModel", name := "start", desc := "(I)V" } : MethodName) prog_10_method_25_code (4 : Nat) (Option.none : Option FieldType) ∈ zT := zT_t 888 rfl rfl
set_option maxRecDepth 20000 in
theorem zq_889 : Cond.methodLink "FleetSlotsModel" (171 : Nat) ({ cls := "FleetSlotsModel", name := "ends", desc := "(II)I" } : MethodName) ∈ zT := zT_t 889 rfl rfl
set_option maxRecDepth 20000 in
theorem zq_891 : Cond.instanceMethod ({ cls := "FleetSlotsModel", name := "ends", desc := "(II)I" } : MethodName) ∈ zT := zT_t 891 rfl rfl
set_option maxRecDepth 20000 in
theorem zq_892 : Cond.code ({ cls := "FleetSlotsModel", name := "ends", desc := "(II)I" } : MethodName) prog_10_method_29_code (3 : Nat) (Option.some FieldType.int) ∈ zT := zT_t 892 rfl rfl
set_option maxRecDepth 20000 in
theorem zq_894 : Cond.instanceMethod ({ cls := "FleetSlotsModel", name := "acts", desc := "(II)I" } : MethodName) ∈ zT := zT_t 894 rfl rfl
set_option maxRecDepth 20000 in
theorem zq_895 : Cond.selects "FleetSlotsModel" ({ cls := "FleetSlotsModel", name := "acts", desc := "(II)I" } : MethodName) ({ cls := "FleetSlotsModel", name := "acts", desc := "(II)I" } : MethodName) ∈ zT := zT_t 895 rfl rfl
set_option maxRecDepth 20000 in
theorem zq_896 : Cond.code ({ cls := "FleetSlotsModel", name := "acts", desc := "(II)I" } : MethodName) prog_10_method_31_code (3 : Nat) (Option.some FieldType.int) ∈ zT := zT_t 896 rfl rfl
set_option maxRecDepth 20000 in
theorem zq_898 : Cond.instanceMethod ({ cls := "FleetSlotsModel", name := "power", desc := "(III)I" } : MethodName) ∈ zT := zT_t 898 rfl rfl
set_option maxRecDepth 20000 in
theorem zq_899 : Cond.selects "FleetSlotsModel" ({ cls := "FleetSlotsModel", name := "power", desc := "(III)I" } : MethodName) ({ cls := "FleetSlotsModel", name := "power", desc := "(III)I" } : MethodName) ∈ zT := zT_t 899 rfl rfl
set_option maxRecDepth 20000 in
theorem zq_900 : Cond.code ({ cls := "FleetSlotsModel", name := "power", desc := "(III)I" } : MethodName) prog_10_method_32_code (4 : Nat) (Option.some FieldType.int) ∈ zT := zT_t 900 rfl rfl
set_option maxRecDepth 20000 in
theorem zq_901 : Cond.constantLong "FleetSlotsModel" (174 : Nat) (14 : Int64) ∈ zT := zT_t 901 rfl rfl
set_option maxRecDepth 20000 in
theorem zq_903 : Cond.instanceMethod ({ cls := "FleetSlotsModel", name := "cut", desc := "(IIII)I" } : MethodName) ∈ zT := zT_t 903 rfl rfl
set_option maxRecDepth 20000 in
theorem zq_904 : Cond.selects "FleetSlotsModel" ({ cls := "FleetSlotsModel", name := "cut", desc := "(IIII)I" } : MethodName) ({ cls := "FleetSlotsModel", name := "cut", desc := "(IIII)I" } : MethodName) ∈ zT := zT_t 904 rfl rfl
set_option maxRecDepth 20000 in
theorem zq_905 : Cond.code ({ cls := "FleetSlotsModel", name := "cut", desc := "(IIII)I" } : MethodName) prog_10_method_33_code (11 : Nat) (Option.some FieldType.int) ∈ zT := zT_t 905 rfl rfl
set_option maxRecDepth 20000 in
theorem zq_906 : Cond.constantLong "FleetSlotsModel" (176 : Nat) (3 : Int64) ∈ zT := zT_t 906 rfl rfl
set_option maxRecDepth 20000 in
theorem zq_908 : Cond.instanceMethod ({ cls := "FleetSlotsModel", name := "seed", desc := "(I)I" } : MethodName) ∈ zT := zT_t 908 rfl rfl
set_option maxRecDepth 20000 in
theorem zq_909 : Cond.selects "FleetSlotsModel" ({ cls := "FleetSlotsModel", name := "seed", desc := "(I)I" } : MethodName) ({ cls := "FleetSlotsModel", name := "seed", desc := "(I)I" } : MethodName) ∈ zT := zT_t 909 rfl rfl
set_option maxRecDepth 20000 in
theorem zq_910 : Cond.code ({ cls := "FleetSlotsModel", name := "seed", desc := "(I)I" } : MethodName) prog_10_method_34_code (2 : Nat) (Option.some FieldType.int) ∈ zT := zT_t 910 rfl rfl
set_option maxRecDepth 20000 in
theorem zq_912 : Cond.instanceMethod ({ cls := "FleetSlotsModel", name := "campaign", desc := "(IIIII)I" } : MethodName) ∈ zT := zT_t 912 rfl rfl
set_option maxRecDepth 20000 in
theorem zq_913 : Cond.selects "FleetSlotsModel" ({ cls := "FleetSlotsModel", name := "campaign", desc := "(IIIII)I" } : MethodName) ({ cls := "FleetSlotsModel", name := "campaign", desc := "(IIIII)I" } : MethodName) ∈ zT := zT_t 913 rfl rfl
set_option maxRecDepth 20000 in
theorem zq_914 : Cond.code ({ cls := "FleetSlotsModel", name := "campaign", desc := "(IIIII)I" } : MethodName) prog_10_method_35_code (8 : Nat) (Option.some FieldType.int) ∈ zT := zT_t 914 rfl rfl
set_option maxRecDepth 20000 in
theorem zq_915 : Cond.constantLong "FleetSlotsModel" (178 : Nat) (6 : Int64) ∈ zT := zT_t 915 rfl rfl
set_option maxRecDepth 20000 in
theorem zq_916 : Cond.constantLong "FleetSlotsModel" (180 : Nat) (10 : Int64) ∈ zT := zT_t 916 rfl rfl
set_option maxRecDepth 20000 in
theorem zq_917 : Cond.constantLong "FleetSlotsModel" (182 : Nat) (100 : Int64) ∈ zT := zT_t 917 rfl rfl
set_option maxRecDepth 20000 in
theorem zq_918 : Cond.methodLink "FleetSlotsModel" (203 : Nat) ({ cls := "FleetSlotsModel", name := "beginWave", desc := "(I)V" } : MethodName) ∈ zT := zT_t 918 rfl rfl
set_option maxRecDepth 20000 in
theorem zq_920 : Cond.instanceMethod ({ cls := "FleetSlotsModel", name := "beginWave", desc := "(I)V" } : MethodName) ∈ zT := zT_t 920 rfl rfl
set_option maxRecDepth 20000 in
theorem zq_921 : Cond.code ({ cls := "FleetSlotsModel", name := "beginWave", desc := "(I)V" } : MethodName) prog_10_method_36_code (3 : Nat) (Option.none : Option FieldType) ∈ zT := zT_t 921 rfl rfl
set_option maxRecDepth 20000 in
theorem zq_923 : Cond.instanceMethod ({ cls := "FleetSlotsModel", name := "tick", desc := "(I)I" } : MethodName) ∈ zT := zT_t 923 rfl rfl
set_option maxRecDepth 20000 in
theorem zq_924 : Cond.selects "FleetSlotsModel" ({ cls := "FleetSlotsModel", name := "tick", desc := "(I)I" } : MethodName) ({ cls := "FleetSlotsModel", name := "tick", desc := "(I)I" } : MethodName) ∈ zT := zT_t 924 rfl rfl
set_option maxRecDepth 20000 in
theorem zq_925 : Cond.code ({ cls := "FleetSlotsModel", name := "tick", desc := "(I)I" } : MethodName) prog_10_method_38_code (6 : Nat) (Option.some FieldType.int) ∈ zT := zT_t 925 rfl rfl
set_option maxRecDepth 20000 in
theorem zq_926 : Cond.constantLong "FleetSlotsModel" (215 : Nat) (100000 : Int64) ∈ zT := zT_t 926 rfl rfl
set_option maxRecDepth 20000 in
theorem zq_927 : Cond.methodLink "FleetSlotsModel" (217 : Nat) ({ cls := "FleetSlotsModel", name := "isNext", desc := "(I)Z" } : MethodName) ∈ zT := zT_t 927 rfl rfl
set_option maxRecDepth 20000 in
theorem zq_929 : Cond.instanceMethod ({ cls := "FleetSlotsModel", name := "isNext", desc := "(I)Z" } : MethodName) ∈ zT := zT_t 929 rfl rfl
set_option maxRecDepth 20000 in
theorem zq_930 : Cond.code ({ cls := "FleetSlotsModel", name := "isNext", desc := "(I)Z" } : MethodName) prog_10_method_37_code (2 : Nat) (Option.some FieldType.boolean) ∈ zT := zT_t 930 rfl rfl
set_option maxRecDepth 20000 in
theorem zq_932 : Cond.instanceMethod ({ cls := "FleetSlotsModel", name := "runs", desc := "(I)I" } : MethodName) ∈ zT := zT_t 932 rfl rfl
set_option maxRecDepth 20000 in
theorem zq_933 : Cond.selects "FleetSlotsModel" ({ cls := "FleetSlotsModel", name := "runs", desc := "(I)I" } : MethodName) ({ cls := "FleetSlotsModel", name := "runs", desc := "(I)I" } : MethodName) ∈ zT := zT_t 933 rfl rfl
set_option maxRecDepth 20000 in
theorem zq_934 : Cond.code ({ cls := "FleetSlotsModel", name := "runs", desc := "(I)I" } : MethodName) prog_10_method_39_code (4 : Nat) (Option.some FieldType.int) ∈ zT := zT_t 934 rfl rfl
set_option maxRecDepth 20000 in
theorem zq_935 : Cond.constantLong "FleetSlotsModel" (220 : Nat) (5 : Int64) ∈ zT := zT_t 935 rfl rfl
set_option maxRecDepth 20000 in
theorem zq_937 : Cond.instanceMethod ({ cls := "FleetSlotsModel", name := "chance", desc := "(III)J" } : MethodName) ∈ zT := zT_t 937 rfl rfl
set_option maxRecDepth 20000 in
theorem zq_938 : Cond.selects "FleetSlotsModel" ({ cls := "FleetSlotsModel", name := "chance", desc := "(III)J" } : MethodName) ({ cls := "FleetSlotsModel", name := "chance", desc := "(III)J" } : MethodName) ∈ zT := zT_t 938 rfl rfl
set_option maxRecDepth 20000 in
theorem zq_939 : Cond.code ({ cls := "FleetSlotsModel", name := "chance", desc := "(III)J" } : MethodName) prog_10_method_41_code (9 : Nat) (Option.some FieldType.long) ∈ zT := zT_t 939 rfl rfl
set_option maxRecDepth 20000 in
theorem zq_940 : Cond.constantLong "FleetSlotsModel" (222 : Nat) (12 : Int64) ∈ zT := zT_t 940 rfl rfl
set_option maxRecDepth 20000 in
theorem zq_941 : Cond.constantLong "FleetSlotsModel" (224 : Nat) (-1000001 : Int64) ∈ zT := zT_t 941 rfl rfl
set_option maxRecDepth 20000 in
theorem zq_942 : Cond.methodLink "FleetSlotsModel" (226 : Nat) ({ cls := "FleetSlotsModel", name := "power", desc := "(II)J" } : MethodName) ∈ zT := zT_t 942 rfl rfl
set_option maxRecDepth 20000 in
theorem zq_943 : Cond.static ({ cls := "FleetSlotsModel", name := "power", desc := "(II)J" } : MethodName) ∈ zT := zT_t 943 rfl rfl
set_option maxRecDepth 20000 in
theorem zq_944 : Cond.code ({ cls := "FleetSlotsModel", name := "power", desc := "(II)J" } : MethodName) prog_10_method_40_code (5 : Nat) (Option.some FieldType.long) ∈ zT := zT_t 944 rfl rfl
set_option maxRecDepth 20000 in
theorem zq_946 : Cond.instanceMethod ({ cls := "FleetSlotsModel", name := "kind", desc := "(I)I" } : MethodName) ∈ zT := zT_t 946 rfl rfl
set_option maxRecDepth 20000 in
theorem zq_947 : Cond.selects "FleetSlotsModel" ({ cls := "FleetSlotsModel", name := "kind", desc := "(I)I" } : MethodName) ({ cls := "FleetSlotsModel", name := "kind", desc := "(I)I" } : MethodName) ∈ zT := zT_t 947 rfl rfl
set_option maxRecDepth 20000 in
theorem zq_948 : Cond.code ({ cls := "FleetSlotsModel", name := "kind", desc := "(I)I" } : MethodName) prog_10_method_43_code (2 : Nat) (Option.some FieldType.int) ∈ zT := zT_t 948 rfl rfl
set_option maxRecDepth 20000 in
theorem zq_949 : Cond.methodLink "FleetSlotsModel" (230 : Nat) ({ cls := "FleetSlotsModel", name := "kindOf", desc := "(I)I" } : MethodName) ∈ zT := zT_t 949 rfl rfl
set_option maxRecDepth 20000 in
theorem zq_951 : Cond.instanceMethod ({ cls := "FleetSlotsModel", name := "kindOf", desc := "(I)I" } : MethodName) ∈ zT := zT_t 951 rfl rfl
set_option maxRecDepth 20000 in
theorem zq_952 : Cond.code ({ cls := "FleetSlotsModel", name := "kindOf", desc := "(I)I" } : MethodName) prog_10_method_42_code (3 : Nat) (Option.some FieldType.int) ∈ zT := zT_t 952 rfl rfl
set_option maxRecDepth 20000 in
theorem zq_954 : Cond.instanceMethod ({ cls := "FleetSlotsModel", name := "as", desc := "(II)I" } : MethodName) ∈ zT := zT_t 954 rfl rfl
set_option maxRecDepth 20000 in
theorem zq_955 : Cond.selects "FleetSlotsModel" ({ cls := "FleetSlotsModel", name := "as", desc := "(II)I" } : MethodName) ({ cls := "FleetSlotsModel", name := "as", desc := "(II)I" } : MethodName) ∈ zT := zT_t 955 rfl rfl
set_option maxRecDepth 20000 in
theorem zq_956 : Cond.code ({ cls := "FleetSlotsModel", name := "as", desc := "(II)I" } : MethodName) prog_10_method_44_code (4 : Nat) (Option.some FieldType.int) ∈ zT := zT_t 956 rfl rfl
set_option maxRecDepth 20000 in
theorem zq_958 : Cond.instanceMethod ({ cls := "FleetSlotsModel", name := "ask", desc := "(II)I" } : MethodName) ∈ zT := zT_t 958 rfl rfl
set_option maxRecDepth 20000 in
theorem zq_959 : Cond.selects "FleetSlotsModel" ({ cls := "FleetSlotsModel", name := "ask", desc := "(II)I" } : MethodName) ({ cls := "FleetSlotsModel", name := "ask", desc := "(II)I" } : MethodName) ∈ zT := zT_t 959 rfl rfl
set_option maxRecDepth 20000 in
theorem zq_960 : Cond.code ({ cls := "FleetSlotsModel", name := "ask", desc := "(II)I" } : MethodName) prog_10_method_48_code (3 : Nat) (Option.some FieldType.int) ∈ zT := zT_t 960 rfl rfl
set_option maxRecDepth 20000 in
theorem zq_961 : Cond.methodLink "FleetSlotsModel" (239 : Nat) ({ cls := "FleetSlotsModel", name := "worth", desc := "(I)I" } : MethodName) ∈ zT := zT_t 961 rfl rfl
set_option maxRecDepth 20000 in
theorem zq_963 : Cond.instanceMethod ({ cls := "FleetSlotsModel", name := "worth", desc := "(I)I" } : MethodName) ∈ zT := zT_t 963 rfl rfl
set_option maxRecDepth 20000 in
theorem zq_964 : Cond.code ({ cls := "FleetSlotsModel", name := "worth", desc := "(I)I" } : MethodName) prog_10_method_46_code (5 : Nat) (Option.some FieldType.int) ∈ zT := zT_t 964 rfl rfl
set_option maxRecDepth 20000 in
theorem zq_965 : Cond.methodLink "FleetSlotsModel" (236 : Nat) ({ cls := "FleetSlotsModel", name := "began", desc := "(I)V" } : MethodName) ∈ zT := zT_t 965 rfl rfl
set_option maxRecDepth 20000 in
theorem zq_967 : Cond.instanceMethod ({ cls := "FleetSlotsModel", name := "began", desc := "(I)V" } : MethodName) ∈ zT := zT_t 967 rfl rfl
set_option maxRecDepth 20000 in
theorem zq_968 : Cond.code ({ cls := "FleetSlotsModel", name := "began", desc := "(I)V" } : MethodName) prog_10_method_45_code (2 : Nat) (Option.none : Option FieldType) ∈ zT := zT_t 968 rfl rfl
set_option maxRecDepth 20000 in
theorem zq_969 : Cond.methodLink "FleetSlotsModel" (242 : Nat) ({ cls := "FleetSlotsModel", name := "marked", desc := "(I)I" } : MethodName) ∈ zT := zT_t 969 rfl rfl
set_option maxRecDepth 20000 in
theorem zq_971 : Cond.instanceMethod ({ cls := "FleetSlotsModel", name := "marked", desc := "(I)I" } : MethodName) ∈ zT := zT_t 971 rfl rfl
set_option maxRecDepth 20000 in
theorem zq_972 : Cond.code ({ cls := "FleetSlotsModel", name := "marked", desc := "(I)I" } : MethodName) prog_10_method_47_code (4 : Nat) (Option.some FieldType.int) ∈ zT := zT_t 972 rfl rfl
set_option maxRecDepth 20000 in
theorem zq_974 : Cond.instanceMethod ({ cls := "FleetSlotsModel", name := "trace", desc := "(I)I" } : MethodName) ∈ zT := zT_t 974 rfl rfl
set_option maxRecDepth 20000 in
theorem zq_975 : Cond.selects "FleetSlotsModel" ({ cls := "FleetSlotsModel", name := "trace", desc := "(I)I" } : MethodName) ({ cls := "FleetSlotsModel", name := "trace", desc := "(I)I" } : MethodName) ∈ zT := zT_t 975 rfl rfl
set_option maxRecDepth 20000 in
theorem zq_976 : Cond.code ({ cls := "FleetSlotsModel", name := "trace", desc := "(I)I" } : MethodName) prog_10_method_49_code (2 : Nat) (Option.some FieldType.int) ∈ zT := zT_t 976 rfl rfl
set_option maxRecDepth 20000 in
theorem zq_978 : Cond.instanceMethod ({ cls := "FleetSlotsModel", name := "count", desc := "(I)I" } : MethodName) ∈ zT := zT_t 978 rfl rfl
set_option maxRecDepth 20000 in
theorem zq_979 : Cond.selects "FleetSlotsModel" ({ cls := "FleetSlotsModel", name := "count", desc := "(I)I" } : MethodName) ({ cls := "FleetSlotsModel", name := "count", desc := "(I)I" } : MethodName) ∈ zT := zT_t 979 rfl rfl
set_option maxRecDepth 20000 in
theorem zq_980 : Cond.code ({ cls := "FleetSlotsModel", name := "count", desc := "(I)I" } : MethodName) prog_10_method_50_code (5 : Nat) (Option.some FieldType.int) ∈ zT := zT_t 980 rfl rfl
set_option maxRecDepth 20000 in
theorem zq_982 : Cond.instanceMethod ({ cls := "FleetSlotsModel", name := "status", desc := "()I" } : MethodName) ∈ zT := zT_t 982 rfl rfl
set_option maxRecDepth 20000 in
theorem zq_983 : Cond.selects "FleetSlotsModel" ({ cls := "FleetSlotsModel", name := "status", desc := "()I" } : MethodName) ({ cls := "FleetSlotsModel", name := "status", desc := "()I" } : MethodName) ∈ zT := zT_t 983 rfl rfl
set_option maxRecDepth 20000 in
theorem zq_984 : Cond.code ({ cls := "FleetSlotsModel", name := "status", desc := "()I" } : MethodName) prog_10_method_51_code (1 : Nat) (Option.some FieldType.int) ∈ zT := zT_t 984 rfl rfl
theorem zin0 : ∀ w ∈ u_ws RX0 TX0 2, w ∈ zT := List.forall_mem_cons.mpr ⟨zq_174, List.forall_mem_cons.mpr ⟨zq_176, fun _ h => absurd h List.not_mem_nil⟩⟩
theorem zc0 : zCl 0 RX0 TX0 2 := ⟨rfl, zin0, rfl, tyX0_ok, nmX0⟩
theorem zin1 : ∀ w ∈ u_ws RX1 TX1 10, w ∈ zT := List.forall_mem_cons.mpr ⟨zq_144, List.forall_mem_cons.mpr ⟨zq_146, List.forall_mem_cons.mpr ⟨zq_148, List.forall_mem_cons.mpr ⟨zq_150, List.forall_mem_cons.mpr ⟨zq_152, List.forall_mem_cons.mpr ⟨zq_154, List.forall_mem_cons.mpr ⟨zq_156, List.forall_mem_cons.mpr ⟨zq_158, List.forall_mem_cons.mpr ⟨zq_160, List.forall_mem_cons.mpr ⟨zq_162, fun _ h => absurd h List.not_mem_nil⟩⟩⟩⟩⟩⟩⟩⟩⟩⟩
theorem zc1 : zCl 1 RX1 TX1 10 := ⟨rfl, zin1, rfl, tyX1_ok, nmX1⟩
theorem zin2 : ∀ w ∈ u_ws RX2 TX2 11, w ∈ zT := List.forall_mem_cons.mpr ⟨zq_98, List.forall_mem_cons.mpr ⟨zq_100, List.forall_mem_cons.mpr ⟨zq_102, List.forall_mem_cons.mpr ⟨zq_104, List.forall_mem_cons.mpr ⟨zq_106, List.forall_mem_cons.mpr ⟨zq_108, List.forall_mem_cons.mpr ⟨zq_110, List.forall_mem_cons.mpr ⟨zq_112, List.forall_mem_cons.mpr ⟨zq_114, List.forall_mem_cons.mpr ⟨zq_116, List.forall_mem_cons.mpr ⟨zq_118, fun _ h => absurd h List.not_mem_nil⟩⟩⟩⟩⟩⟩⟩⟩⟩⟩⟩
theorem zc2 : zCl 2 RX2 TX2 11 := ⟨rfl, zin2, rfl, tyX2_ok, nmX2⟩
theorem zin3 : ∀ w ∈ u_ws RX3 TX3 4, w ∈ zT := List.forall_mem_cons.mpr ⟨zq_193, List.forall_mem_cons.mpr ⟨zq_195, List.forall_mem_cons.mpr ⟨zq_197, List.forall_mem_cons.mpr ⟨zq_199, fun _ h => absurd h List.not_mem_nil⟩⟩⟩⟩
theorem zc3 : zCl 3 RX3 TX3 4 := ⟨rfl, zin3, rfl, tyX3_ok, nmX3⟩
theorem zin4 : ∀ w ∈ u_ws RX4 TX4 2, w ∈ zT := List.forall_mem_cons.mpr ⟨zq_70, List.forall_mem_cons.mpr ⟨zq_72, fun _ h => absurd h List.not_mem_nil⟩⟩
theorem zc4 : zCl 4 RX4 TX4 2 := ⟨rfl, zin4, rfl, tyX4_ok, nmX4⟩
theorem zin5 : ∀ w ∈ u_ws RX5 TX5 5, w ∈ zT := List.forall_mem_cons.mpr ⟨zq_40, List.forall_mem_cons.mpr ⟨zq_42, List.forall_mem_cons.mpr ⟨zq_44, List.forall_mem_cons.mpr ⟨zq_46, List.forall_mem_cons.mpr ⟨zq_48, fun _ h => absurd h List.not_mem_nil⟩⟩⟩⟩⟩
theorem zc5 : zCl 5 RX5 TX5 5 := ⟨rfl, zin5, rfl, tyX5_ok, nmX5⟩
theorem zin6 : ∀ w ∈ u_ws RX6 TX6 4, w ∈ zT := List.forall_mem_cons.mpr ⟨zq_219, List.forall_mem_cons.mpr ⟨zq_221, List.forall_mem_cons.mpr ⟨zq_223, List.forall_mem_cons.mpr ⟨zq_225, fun _ h => absurd h List.not_mem_nil⟩⟩⟩⟩
theorem zc6 : zCl 6 RX6 TX6 4 := ⟨rfl, zin6, rfl, tyX6_ok, nmX6⟩
theorem zin7 : ∀ w ∈ u_ws RX7 TX7 11, w ∈ zT := List.forall_mem_cons.mpr ⟨zq_239, List.forall_mem_cons.mpr ⟨zq_241, List.forall_mem_cons.mpr ⟨zq_243, List.forall_mem_cons.mpr ⟨zq_245, List.forall_mem_cons.mpr ⟨zq_247, List.forall_mem_cons.mpr ⟨zq_249, List.forall_mem_cons.mpr ⟨zq_251, List.forall_mem_cons.mpr ⟨zq_253, List.forall_mem_cons.mpr ⟨zq_255, List.forall_mem_cons.mpr ⟨zq_257, List.forall_mem_cons.mpr ⟨zq_259, fun _ h => absurd h List.not_mem_nil⟩⟩⟩⟩⟩⟩⟩⟩⟩⟩⟩
theorem zc7 : zCl 7 RX7 TX7 11 := ⟨rfl, zin7, rfl, tyX7_ok, nmX7⟩
theorem zin8 : ∀ w ∈ u_ws RX8 TX8 38, w ∈ zT := List.forall_mem_cons.mpr ⟨zq_694, List.forall_mem_cons.mpr ⟨zq_696, List.forall_mem_cons.mpr ⟨zq_698, List.forall_mem_cons.mpr ⟨zq_700, List.forall_mem_cons.mpr ⟨zq_702, List.forall_mem_cons.mpr ⟨zq_704, List.forall_mem_cons.mpr ⟨zq_706, List.forall_mem_cons.mpr ⟨zq_708, List.forall_mem_cons.mpr ⟨zq_710, List.forall_mem_cons.mpr ⟨zq_712, List.forall_mem_cons.mpr ⟨zq_714, List.forall_mem_cons.mpr ⟨zq_716, List.forall_mem_cons.mpr ⟨zq_718, List.forall_mem_cons.mpr ⟨zq_720, List.forall_mem_cons.mpr ⟨zq_722, List.forall_mem_cons.mpr ⟨zq_724, List.forall_mem_cons.mpr ⟨zq_726, List.forall_mem_cons.mpr ⟨zq_728, List.forall_mem_cons.mpr ⟨zq_730, List.forall_mem_cons.mpr ⟨zq_732, List.forall_mem_cons.mpr ⟨zq_734, List.forall_mem_cons.mpr ⟨zq_736, List.forall_mem_cons.mpr ⟨zq_738, List.forall_mem_cons.mpr ⟨zq_740, List.forall_mem_cons.mpr ⟨zq_742, List.forall_mem_cons.mpr ⟨zq_744, List.forall_mem_cons.mpr ⟨zq_746, List.forall_mem_cons.mpr ⟨zq_748, List.forall_mem_cons.mpr ⟨zq_750, List.forall_mem_cons.mpr ⟨zq_752, List.forall_mem_cons.mpr ⟨zq_754, List.forall_mem_cons.mpr ⟨zq_756, List.forall_mem_cons.mpr ⟨zq_758, List.forall_mem_cons.mpr ⟨zq_760, List.forall_mem_cons.mpr ⟨zq_762, List.forall_mem_cons.mpr ⟨zq_764, List.forall_mem_cons.mpr ⟨zq_766, List.forall_mem_cons.mpr ⟨zq_768, fun _ h => absurd h List.not_mem_nil⟩⟩⟩⟩⟩⟩⟩⟩⟩⟩⟩⟩⟩⟩⟩⟩⟩⟩⟩⟩⟩⟩⟩⟩⟩⟩⟩⟩⟩⟩⟩⟩⟩⟩⟩⟩⟩⟩
theorem zc8 : zCl 8 RX8 TX8 38 := ⟨rfl, zin8, rfl, tyX8_ok, nmX8⟩
theorem zyX7_init : zY yX7_init cX7_init 2 none 0 := ⟨zq_16, zq_1, ⟨by decide +kernel, by decide +kernel, by decide +kernel⟩, by decide +kernel⟩
theorem zyX5_init : zY yX5_init cX5_init 1 none 0 := ⟨zq_28, zq_2, ⟨by decide +kernel, by decide +kernel, by decide +kernel⟩, by decide +kernel⟩
theorem zyX2_init : zY yX2_init cX2_init 2 none 1 := ⟨zq_57, zq_3, ⟨by decide +kernel, by decide +kernel, by decide +kernel⟩, by decide +kernel⟩
theorem zyX4_init : zY yX4_init cX4_init 1 none 0 := ⟨zq_63, zq_4, ⟨by decide +kernel, by decide +kernel, by decide +kernel⟩, by decide +kernel⟩
theorem zyX1_init : zY yX1_init cX1_init 1 none 0 := ⟨zq_125, zq_5, ⟨by decide +kernel, by decide +kernel, by decide +kernel⟩, by decide +kernel⟩
theorem zyX0_init : zY yX0_init cX0_init 1 none 0 := ⟨zq_170, zq_6, ⟨by decide +kernel, by decide +kernel, by decide +kernel⟩, by decide +kernel⟩
theorem zyX3_init : zY yX3_init cX3_init 1 none 0 := ⟨zq_182, zq_7, ⟨by decide +kernel, by decide +kernel, by decide +kernel⟩, by decide +kernel⟩
theorem zyX6_init : zY yX6_init cX6_init 2 none 1 := ⟨zq_205, zq_8, ⟨by decide +kernel, by decide +kernel, by decide +kernel⟩, by decide +kernel⟩
theorem zyX7_sheet : zY yX7_sheet cX7_sheet 4 (some .int) 3 := ⟨zq_265, zq_1, ⟨by decide +kernel, by decide +kernel, by decide +kernel⟩, by decide +kernel⟩
theorem zyvX7_sheet : zYv yX7_sheet := ⟨zq_263, zq_264⟩
theorem zyX7_isSheet : zY yX7_isSheet cX7_isSheet 1 (some .boolean) 1 := ⟨zq_268, zq_1, ⟨by decide +kernel, by decide +kernel, by decide +kernel⟩, by decide +kernel⟩
theorem zyX7_found : zY yX7_found cX7_found 2 (some .int) 1 := ⟨zq_273, zq_1, ⟨by decide +kernel, by decide +kernel, by decide +kernel⟩, by decide +kernel⟩
theorem zyvX7_found : zYv yX7_found := ⟨zq_272, zT_in (List.mem_append_left _ (List.mem_of_getElem? (i := 0) rfl)) rfl⟩
theorem zyX3_lay : zY yX3_lay cX3_lay 4 none 2 := ⟨zq_278, zq_7, ⟨by decide +kernel, by decide +kernel, by decide +kernel⟩, by decide +kernel⟩
theorem zyvX3_lay : zYv yX3_lay := ⟨zq_276, zq_277⟩
theorem zyX7_passed : zY yX7_passed cX7_passed 2 (some .int) 1 := ⟨zq_282, zq_1, ⟨by decide +kernel, by decide +kernel, by decide +kernel⟩, by decide +kernel⟩
theorem zyvX7_passed : zYv yX7_passed := ⟨zq_281, zT_in (List.mem_append_left _ (List.mem_of_getElem? (i := 1) rfl)) rfl⟩
theorem zyX7_set : zY yX7_set cX7_set 5 (some .int) 3 := ⟨zq_286, zq_1, ⟨by decide +kernel, by decide +kernel, by decide +kernel⟩, by decide +kernel⟩
theorem zyvX7_set : zYv yX7_set := ⟨zq_284, zq_285⟩
theorem zyX3_hasPlaces : zY yX3_hasPlaces cX3_hasPlaces 3 (some .boolean) 2 := ⟨zq_290, zq_7, ⟨by decide +kernel, by decide +kernel, by decide +kernel⟩, by decide +kernel⟩
theorem zyvX3_hasPlaces : zYv yX3_hasPlaces := ⟨zq_288, zq_289⟩
theorem zyX3_put : zY yX3_put cX3_put 3 (some .int) 2 := ⟨zq_294, zq_7, ⟨by decide +kernel, by decide +kernel, by decide +kernel⟩, by decide +kernel⟩
theorem zyvX3_put : zYv yX3_put := ⟨zq_292, zq_293⟩
theorem zyX7_copy : zY yX7_copy cX7_copy 8 (some .int) 5 := ⟨zq_298, zq_1, ⟨by decide +kernel, by decide +kernel, by decide +kernel⟩, by decide +kernel⟩
theorem zyvX7_copy : zYv yX7_copy := ⟨zq_296, zq_297⟩
theorem zyX7_drop : zY yX7_drop cX7_drop 3 (some .int) 1 := ⟨zq_305, zq_1, ⟨by decide +kernel, by decide +kernel, by decide +kernel⟩, by decide +kernel⟩
theorem zyvX7_drop : zYv yX7_drop := ⟨zq_303, zq_304⟩
theorem zyX7_version : zY yX7_version cX7_version 4 (some .int) 3 := ⟨zq_309, zq_1, ⟨by decide +kernel, by decide +kernel, by decide +kernel⟩, by decide +kernel⟩
theorem zyvX7_version : zYv yX7_version := ⟨zq_307, zq_308⟩
theorem zyX7_leastFloor : zY yX7_leastFloor cX7_leastFloor 1 (some .int) 0 := ⟨zq_313, zq_1, ⟨by decide +kernel, by decide +kernel, by decide +kernel⟩, by decide +kernel⟩
theorem zyvX7_leastFloor : zYv yX7_leastFloor := ⟨zq_312, zT_in (List.mem_append_left _ (List.mem_of_getElem? (i := 2) rfl)) rfl⟩
theorem zyX6_fill : zY yX6_fill cX6_fill 4 none 3 := ⟨zq_318, zq_8, ⟨by decide +kernel, by decide +kernel, by decide +kernel⟩, by decide +kernel⟩
theorem zyvX6_fill : zYv yX6_fill := ⟨zq_316, zq_317⟩
theorem zyX7_step : zY yX7_step cX7_step 4 (some .int) 3 := ⟨zq_322, zq_1, ⟨by decide +kernel, by decide +kernel, by decide +kernel⟩, by decide +kernel⟩
theorem zyvX7_step : zYv yX7_step := ⟨zq_320, zq_321⟩
theorem zyX7_isRise : zY yX7_isRise cX7_isRise 3 (some .boolean) 2 := ⟨zq_326, zq_1, ⟨by decide +kernel, by decide +kernel, by decide +kernel⟩, by decide +kernel⟩
theorem zyvX7_isRise : zYv yX7_isRise := ⟨zq_325, zT_in (List.mem_append_left _ (List.mem_of_getElem? (i := 3) rfl)) rfl⟩
theorem zyX7_isVersion : zY yX7_isVersion cX7_isVersion 2 (some .boolean) 1 := ⟨zq_330, zq_1, ⟨by decide +kernel, by decide +kernel, by decide +kernel⟩, by decide +kernel⟩
theorem zyvX7_isVersion : zYv yX7_isVersion := ⟨zq_329, zT_in (List.mem_append_left _ (List.mem_of_getElem? (i := 4) rfl)) rfl⟩
theorem zyX5_exchange : zY yX5_exchange cX5_exchange 5 (some .int) 3 := ⟨zq_334, zq_2, ⟨by decide +kernel, by decide +kernel, by decide +kernel⟩, by decide +kernel⟩
theorem zyvX5_exchange : zYv yX5_exchange := ⟨zq_332, zq_333⟩
theorem zyX7_path : zY yX7_path cX7_path 4 (some .int) 3 := ⟨zq_338, zq_1, ⟨by decide +kernel, by decide +kernel, by decide +kernel⟩, by decide +kernel⟩
theorem zyvX7_path : zYv yX7_path := ⟨zq_336, zq_337⟩
theorem zyX5_search : zY yX5_search cX5_search 4 (some .boolean) 2 := ⟨zq_342, zq_2, ⟨by decide +kernel, by decide +kernel, by decide +kernel⟩, by decide +kernel⟩
theorem zyvX5_search : zYv yX5_search := ⟨zq_340, zq_341⟩
theorem zyX5_chooseNext : zY yX5_chooseNext cX5_chooseNext 6 none 2 := ⟨zq_346, zq_2, ⟨by decide +kernel, by decide +kernel, by decide +kernel⟩, by decide +kernel⟩
theorem zyvX5_chooseNext : zYv yX5_chooseNext := ⟨zq_345, zT_in (List.mem_append_left _ (List.mem_of_getElem? (i := 5) rfl)) rfl⟩
theorem zyX7_on : zY yX7_on cX7_on 4 (some .int) 3 := ⟨zq_351, zq_1, ⟨by decide +kernel, by decide +kernel, by decide +kernel⟩, by decide +kernel⟩
theorem zyvX7_on : zYv yX7_on := ⟨zq_349, zq_350⟩
theorem zyX5_follow : zY yX5_follow cX5_follow 5 (some .int) 2 := ⟨zq_355, zq_2, ⟨by decide +kernel, by decide +kernel, by decide +kernel⟩, by decide +kernel⟩
theorem zyvX5_follow : zYv yX5_follow := ⟨zq_353, zq_354⟩
theorem zyX7_device : zY yX7_device cX7_device 4 (some .int) 3 := ⟨zq_360, zq_1, ⟨by decide +kernel, by decide +kernel, by decide +kernel⟩, by decide +kernel⟩
theorem zyvX7_device : zYv yX7_device := ⟨zq_358, zq_359⟩
theorem zyX7_isDevice : zY yX7_isDevice cX7_isDevice 2 (some .boolean) 1 := ⟨zq_364, zq_1, ⟨by decide +kernel, by decide +kernel, by decide +kernel⟩, by decide +kernel⟩
theorem zyvX7_isDevice : zYv yX7_isDevice := ⟨zq_363, zT_in (List.mem_append_left _ (List.mem_of_getElem? (i := 6) rfl)) rfl⟩
theorem zyX6_ailsOn : zY yX6_ailsOn cX6_ailsOn 2 (some .boolean) 1 := ⟨zq_368, zq_8, ⟨by decide +kernel, by decide +kernel, by decide +kernel⟩, by decide +kernel⟩
theorem zyvX6_ailsOn : zYv yX6_ailsOn := ⟨zq_366, zq_367⟩
theorem zyX2_arrive : zY yX2_arrive cX2_arrive 4 none 3 := ⟨zq_373, zq_3, ⟨by decide +kernel, by decide +kernel, by decide +kernel⟩, by decide +kernel⟩
theorem zyvX2_arrive : zYv yX2_arrive := ⟨zq_371, zq_372⟩
theorem zyX4_fill : zY yX4_fill cX4_fill 3 none 2 := ⟨zq_377, zq_4, ⟨by decide +kernel, by decide +kernel, by decide +kernel⟩, by decide +kernel⟩
theorem zyvX4_fill : zYv yX4_fill := ⟨zq_375, zq_376⟩
theorem zyX7_told : zY yX7_told cX7_told 4 (some .int) 2 := ⟨zq_381, zq_1, ⟨by decide +kernel, by decide +kernel, by decide +kernel⟩, by decide +kernel⟩
theorem zyvX7_told : zYv yX7_told := ⟨zq_379, zq_380⟩
theorem zyX4_versionNumber : zY yX4_versionNumber cX4_versionNumber 1 (some .int) 0 := ⟨zq_385, zq_4, ⟨by decide +kernel, by decide +kernel, by decide +kernel⟩, by decide +kernel⟩
theorem zyvX4_versionNumber : zYv yX4_versionNumber := ⟨zq_383, zq_384⟩
theorem zyX7_drawOf : zY yX7_drawOf cX7_drawOf 4 (some .int) 1 := ⟨zq_390, zq_1, ⟨by decide +kernel, by decide +kernel, by decide +kernel⟩, by decide +kernel⟩
theorem zyvX7_drawOf : zYv yX7_drawOf := ⟨zq_389, zT_in (List.mem_append_left _ (List.mem_of_getElem? (i := 7) rfl)) rfl⟩
theorem zyX2_isAlive : zY yX2_isAlive cX2_isAlive 1 (some .boolean) 0 := ⟨zq_396, zq_3, ⟨by decide +kernel, by decide +kernel, by decide +kernel⟩, by decide +kernel⟩
theorem zyvX2_isAlive : zYv yX2_isAlive := ⟨zq_394, zq_395⟩
theorem zyX4_isWholeNotBelow : zY yX4_isWholeNotBelow cX4_isWholeNotBelow 2 (some .boolean) 1 := ⟨zq_400, zq_4, ⟨by decide +kernel, by decide +kernel, by decide +kernel⟩, by decide +kernel⟩
theorem zyvX4_isWholeNotBelow : zYv yX4_isWholeNotBelow := ⟨zq_398, zq_399⟩
theorem zyX7_update : zY yX7_update cX7_update 3 (some .int) 2 := ⟨zq_404, zq_1, ⟨by decide +kernel, by decide +kernel, by decide +kernel⟩, by decide +kernel⟩
theorem zyvX7_update : zYv yX7_update := ⟨zq_402, zq_403⟩
theorem zyX7_isAbove : zY yX7_isAbove cX7_isAbove 2 (some .boolean) 2 := ⟨zq_407, zq_1, ⟨by decide +kernel, by decide +kernel, by decide +kernel⟩, by decide +kernel⟩
theorem zyX7_updateWhole : zY yX7_updateWhole cX7_updateWhole 3 (some .boolean) 2 := ⟨zq_411, zq_1, ⟨by decide +kernel, by decide +kernel, by decide +kernel⟩, by decide +kernel⟩
theorem zyvX7_updateWhole : zYv yX7_updateWhole := ⟨zq_410, zT_in (List.mem_append_left _ (List.mem_of_getElem? (i := 8) rfl)) rfl⟩
theorem zyX2_install : zY yX2_install cX2_install 4 (some .int) 2 := ⟨zq_415, zq_3, ⟨by decide +kernel, by decide +kernel, by decide +kernel⟩, by decide +kernel⟩
theorem zyvX2_install : zYv yX2_install := ⟨zq_413, zq_414⟩
theorem zyX2_isOver : zY yX2_isOver cX2_isOver 3 (some .boolean) 2 := ⟨zq_419, zq_3, ⟨by decide +kernel, by decide +kernel, by decide +kernel⟩, by decide +kernel⟩
theorem zyvX2_isOver : zYv yX2_isOver := ⟨zq_418, zT_in (List.mem_append_left _ (List.mem_of_getElem? (i := 9) rfl)) rfl⟩
theorem zyX2_doAct : zY yX2_doAct cX2_doAct 3 none 2 := ⟨zq_423, zq_3, ⟨by decide +kernel, by decide +kernel, by decide +kernel⟩, by decide +kernel⟩
theorem zyvX2_doAct : zYv yX2_doAct := ⟨zq_422, zT_in (List.mem_append_left _ (List.mem_of_getElem? (i := 10) rfl)) rfl⟩
theorem zyX2_start : zY yX2_start cX2_start 2 none 0 := ⟨zq_427, zq_3, ⟨by decide +kernel, by decide +kernel, by decide +kernel⟩, by decide +kernel⟩
theorem zyvX2_start : zYv yX2_start := ⟨zq_425, zq_426⟩
theorem zyX2_endTrial : zY yX2_endTrial cX2_endTrial 1 none 0 := ⟨zq_431, zq_3, ⟨by decide +kernel, by decide +kernel, by decide +kernel⟩, by decide +kernel⟩
theorem zyvX2_endTrial : zYv yX2_endTrial := ⟨zq_430, zT_in (List.mem_append_left _ (List.mem_of_getElem? (i := 11) rfl)) rfl⟩
theorem zyX2_take : zY yX2_take cX2_take 3 none 1 := ⟨zq_436, zq_3, ⟨by decide +kernel, by decide +kernel, by decide +kernel⟩, by decide +kernel⟩
theorem zyvX2_take : zYv yX2_take := ⟨zq_435, zT_in (List.mem_append_left _ (List.mem_of_getElem? (i := 12) rfl)) rfl⟩
theorem zyX7_noteEnd : zY yX7_noteEnd cX7_noteEnd 4 (some .boolean) 2 := ⟨zq_443, zq_1, ⟨by decide +kernel, by decide +kernel, by decide +kernel⟩, by decide +kernel⟩
theorem zyvX7_noteEnd : zYv yX7_noteEnd := ⟨zq_442, zT_in (List.mem_append_left _ (List.mem_of_getElem? (i := 13) rfl)) rfl⟩
theorem zyX7_isFresh : zY yX7_isFresh cX7_isFresh 2 (some .boolean) 1 := ⟨zq_447, zq_1, ⟨by decide +kernel, by decide +kernel, by decide +kernel⟩, by decide +kernel⟩
theorem zyvX7_isFresh : zYv yX7_isFresh := ⟨zq_446, zT_in (List.mem_append_left _ (List.mem_of_getElem? (i := 14) rfl)) rfl⟩
theorem zyX7_acts : zY yX7_acts cX7_acts 3 (some .int) 2 := ⟨zq_451, zq_1, ⟨by decide +kernel, by decide +kernel, by decide +kernel⟩, by decide +kernel⟩
theorem zyvX7_acts : zYv yX7_acts := ⟨zq_449, zq_450⟩
theorem zyX2_become : zY yX2_become cX2_become 2 none 1 := ⟨zq_455, zq_3, ⟨by decide +kernel, by decide +kernel, by decide +kernel⟩, by decide +kernel⟩
theorem zyvX2_become : zYv yX2_become := ⟨zq_453, zq_454⟩
theorem zyX7_power : zY yX7_power cX7_power 6 (some .int) 3 := ⟨zq_459, zq_1, ⟨by decide +kernel, by decide +kernel, by decide +kernel⟩, by decide +kernel⟩
theorem zyvX7_power : zYv yX7_power := ⟨zq_457, zq_458⟩
theorem zyX7_cutStandIn : zY yX7_cutStandIn cX7_cutStandIn 5 (some .int) 3 := ⟨zq_463, zq_1, ⟨by decide +kernel, by decide +kernel, by decide +kernel⟩, by decide +kernel⟩
theorem zyvX7_cutStandIn : zYv yX7_cutStandIn := ⟨zq_462, zT_in (List.mem_append_left _ (List.mem_of_getElem? (i := 15) rfl)) rfl⟩
theorem zyX7_cut : zY yX7_cut cX7_cut 6 (some .int) 4 := ⟨zq_468, zq_1, ⟨by decide +kernel, by decide +kernel, by decide +kernel⟩, by decide +kernel⟩
theorem zyvX7_cut : zYv yX7_cut := ⟨zq_466, zq_467⟩
theorem zyX7_seed : zY yX7_seed cX7_seed 2 (some .int) 1 := ⟨zq_472, zq_1, ⟨by decide +kernel, by decide +kernel, by decide +kernel⟩, by decide +kernel⟩
theorem zyvX7_seed : zYv yX7_seed := ⟨zq_470, zq_471⟩
theorem zyX7_campaign : zY yX7_campaign cX7_campaign 7 (some .int) 5 := ⟨zq_476, zq_1, ⟨by decide +kernel, by decide +kernel, by decide +kernel⟩, by decide +kernel⟩
theorem zyvX7_campaign : zYv yX7_campaign := ⟨zq_474, zq_475⟩
theorem zyX3_holdsRisingShares : zY yX3_holdsRisingShares cX3_holdsRisingShares 5 (some .boolean) 2 := ⟨zq_480, zq_7, ⟨by decide +kernel, by decide +kernel, by decide +kernel⟩, by decide +kernel⟩
theorem zyvX3_holdsRisingShares : zYv yX3_holdsRisingShares := ⟨zq_478, zq_479⟩
theorem zyX1_begin : zY yX1_begin cX1_begin 6 none 5 := ⟨zq_484, zq_5, ⟨by decide +kernel, by decide +kernel, by decide +kernel⟩, by decide +kernel⟩
theorem zyvX1_begin : zYv yX1_begin := ⟨zq_482, zq_483⟩
theorem zyX1_beginWave : zY yX1_beginWave cX1_beginWave 3 none 1 := ⟨zq_489, zq_5, ⟨by decide +kernel, by decide +kernel, by decide +kernel⟩, by decide +kernel⟩
theorem zyvX1_beginWave : zYv yX1_beginWave := ⟨zq_488, zT_in (List.mem_append_left _ (List.mem_of_getElem? (i := 16) rfl)) rfl⟩
theorem zyX7_membersOfWave : zY yX7_membersOfWave cX7_membersOfWave 3 (some .int) 0 := ⟨zq_493, zq_1, ⟨by decide +kernel, by decide +kernel, by decide +kernel⟩, by decide +kernel⟩
theorem zyvX7_membersOfWave : zYv yX7_membersOfWave := ⟨zq_492, zT_in (List.mem_append_left _ (List.mem_of_getElem? (i := 17) rfl)) rfl⟩
theorem zyX7_isMember : zY yX7_isMember cX7_isMember 2 (some .boolean) 1 := ⟨zq_497, zq_1, ⟨by decide +kernel, by decide +kernel, by decide +kernel⟩, by decide +kernel⟩
theorem zyvX7_isMember : zYv yX7_isMember := ⟨zq_496, zT_in (List.mem_append_left _ (List.mem_of_getElem? (i := 18) rfl)) rfl⟩
theorem zyX1_shareOfWave : zY yX1_shareOfWave cX1_shareOfWave 1 (some .int) 0 := ⟨zq_501, zq_5, ⟨by decide +kernel, by decide +kernel, by decide +kernel⟩, by decide +kernel⟩
theorem zyvX1_shareOfWave : zYv yX1_shareOfWave := ⟨zq_499, zq_500⟩
theorem zyX7_tick : zY yX7_tick cX7_tick 7 (some .int) 1 := ⟨zq_505, zq_1, ⟨by decide +kernel, by decide +kernel, by decide +kernel⟩, by decide +kernel⟩
theorem zyvX7_tick : zYv yX7_tick := ⟨zq_503, zq_504⟩
theorem zyX1_isRunning : zY yX1_isRunning cX1_isRunning 1 (some .boolean) 0 := ⟨zq_510, zq_5, ⟨by decide +kernel, by decide +kernel, by decide +kernel⟩, by decide +kernel⟩
theorem zyvX1_isRunning : zYv yX1_isRunning := ⟨zq_508, zq_509⟩
theorem zyX7_isDue : zY yX7_isDue cX7_isDue 2 (some .boolean) 1 := ⟨zq_514, zq_1, ⟨by decide +kernel, by decide +kernel, by decide +kernel⟩, by decide +kernel⟩
theorem zyvX7_isDue : zYv yX7_isDue := ⟨zq_513, zT_in (List.mem_append_left _ (List.mem_of_getElem? (i := 19) rfl)) rfl⟩
theorem zyX2_isAtLeastAt : zY yX2_isAtLeastAt cX2_isAtLeastAt 2 (some .boolean) 1 := ⟨zq_518, zq_3, ⟨by decide +kernel, by decide +kernel, by decide +kernel⟩, by decide +kernel⟩
theorem zyvX2_isAtLeastAt : zYv yX2_isAtLeastAt := ⟨zq_516, zq_517⟩
theorem zyX7_bytesTo : zY yX7_bytesTo cX7_bytesTo 4 (some .int) 2 := ⟨zq_523, zq_1, ⟨by decide +kernel, by decide +kernel, by decide +kernel⟩, by decide +kernel⟩
theorem zyvX7_bytesTo : zYv yX7_bytesTo := ⟨zq_522, zT_in (List.mem_append_left _ (List.mem_of_getElem? (i := 20) rfl)) rfl⟩
theorem zyX1_note : zY yX1_note cX1_note 4 none 3 := ⟨zq_527, zq_5, ⟨by decide +kernel, by decide +kernel, by decide +kernel⟩, by decide +kernel⟩
theorem zyvX1_note : zYv yX1_note := ⟨zq_525, zq_526⟩
theorem zyX1_endWave : zY yX1_endWave cX1_endWave 1 none 0 := ⟨zq_531, zq_5, ⟨by decide +kernel, by decide +kernel, by decide +kernel⟩, by decide +kernel⟩
theorem zyvX1_endWave : zYv yX1_endWave := ⟨zq_529, zq_530⟩
theorem zyX7_isHalting : zY yX7_isHalting cX7_isHalting 3 (some .boolean) 3 := ⟨zq_534, zq_1, ⟨by decide +kernel, by decide +kernel, by decide +kernel⟩, by decide +kernel⟩
theorem zyX7_runs : zY yX7_runs cX7_runs 2 (some .int) 1 := ⟨zq_538, zq_1, ⟨by decide +kernel, by decide +kernel, by decide +kernel⟩, by decide +kernel⟩
theorem zyvX7_runs : zYv yX7_runs := ⟨zq_536, zq_537⟩
theorem zyX7_devicesAtLeastAt : zY yX7_devicesAtLeastAt cX7_devicesAtLeastAt 4 (some .int) 1 := ⟨zq_542, zq_1, ⟨by decide +kernel, by decide +kernel, by decide +kernel⟩, by decide +kernel⟩
theorem zyvX7_devicesAtLeastAt : zYv yX7_devicesAtLeastAt := ⟨zq_541, zT_in (List.mem_append_left _ (List.mem_of_getElem? (i := 21) rfl)) rfl⟩
theorem zyX7_chance : zY yX7_chance cX7_chance 7 (some .long) 3 := ⟨zq_546, zq_1, ⟨by decide +kernel, by decide +kernel, by decide +kernel⟩, by decide +kernel⟩
theorem zyvX7_chance : zYv yX7_chance := ⟨zq_544, zq_545⟩
theorem zyX7_choices : zY yX7_choices cX7_choices 5 (some .long) 2 := ⟨zq_551, zq_1, ⟨by decide +kernel, by decide +kernel, by decide +kernel⟩, by decide +kernel⟩
theorem zyX7_raised : zY yX7_raised cX7_raised 5 (some .long) 2 := ⟨zq_554, zq_1, ⟨by decide +kernel, by decide +kernel, by decide +kernel⟩, by decide +kernel⟩
theorem zyX7_kind : zY yX7_kind cX7_kind 2 (some .int) 1 := ⟨zq_558, zq_1, ⟨by decide +kernel, by decide +kernel, by decide +kernel⟩, by decide +kernel⟩
theorem zyvX7_kind : zYv yX7_kind := ⟨zq_556, zq_557⟩
theorem zyX7_kindOf : zY yX7_kindOf cX7_kindOf 2 (some .int) 1 := ⟨zq_562, zq_1, ⟨by decide +kernel, by decide +kernel, by decide +kernel⟩, by decide +kernel⟩
theorem zyvX7_kindOf : zYv yX7_kindOf := ⟨zq_561, zT_in (List.mem_append_left _ (List.mem_of_getElem? (i := 22) rfl)) rfl⟩
theorem zyX7_as : zY yX7_as cX7_as 4 (some .int) 2 := ⟨zq_566, zq_1, ⟨by decide +kernel, by decide +kernel, by decide +kernel⟩, by decide +kernel⟩
theorem zyvX7_as : zYv yX7_as := ⟨zq_564, zq_565⟩
theorem zyX7_isOfKind : zY yX7_isOfKind cX7_isOfKind 4 (some .boolean) 2 := ⟨zq_570, zq_1, ⟨by decide +kernel, by decide +kernel, by decide +kernel⟩, by decide +kernel⟩
theorem zyvX7_isOfKind : zYv yX7_isOfKind := ⟨zq_569, zT_in (List.mem_append_left _ (List.mem_of_getElem? (i := 23) rfl)) rfl⟩
theorem zyX7_ask : zY yX7_ask cX7_ask 5 (some .int) 2 := ⟨zq_574, zq_1, ⟨by decide +kernel, by decide +kernel, by decide +kernel⟩, by decide +kernel⟩
theorem zyvX7_ask : zYv yX7_ask := ⟨zq_572, zq_573⟩
theorem zyX0_forget : zY yX0_forget cX0_forget 1 none 0 := ⟨zq_578, zq_6, ⟨by decide +kernel, by decide +kernel, by decide +kernel⟩, by decide +kernel⟩
theorem zyvX0_forget : zYv yX0_forget := ⟨zq_576, zq_577⟩
theorem zyX0_worthOf : zY yX0_worthOf cX0_worthOf 3 (some .int) 2 := ⟨zq_582, zq_6, ⟨by decide +kernel, by decide +kernel, by decide +kernel⟩, by decide +kernel⟩
theorem zyvX0_worthOf : zYv yX0_worthOf := ⟨zq_580, zq_581⟩
theorem zyX0_worthOfFresh : zY yX0_worthOfFresh cX0_worthOfFresh 2 (some .int) 1 := ⟨zq_586, zq_6, ⟨by decide +kernel, by decide +kernel, by decide +kernel⟩, by decide +kernel⟩
theorem zyvX0_worthOfFresh : zYv yX0_worthOfFresh := ⟨zq_585, zT_in (List.mem_append_left _ (List.mem_of_getElem? (i := 24) rfl)) rfl⟩
theorem zyX0_leave : zY yX0_leave cX0_leave 2 none 1 := ⟨zq_590, zq_6, ⟨by decide +kernel, by decide +kernel, by decide +kernel⟩, by decide +kernel⟩
theorem zyvX0_leave : zYv yX0_leave := ⟨zq_589, zT_in (List.mem_append_left _ (List.mem_of_getElem? (i := 25) rfl)) rfl⟩
theorem zyX0_worthOfAny : zY yX0_worthOfAny cX0_worthOfAny 2 (some .int) 1 := ⟨zq_594, zq_6, ⟨by decide +kernel, by decide +kernel, by decide +kernel⟩, by decide +kernel⟩
theorem zyvX0_worthOfAny : zYv yX0_worthOfAny := ⟨zq_593, zT_in (List.mem_append_left _ (List.mem_of_getElem? (i := 26) rfl)) rfl⟩
theorem zyX0_worthOfSettled : zY yX0_worthOfSettled cX0_worthOfSettled 2 (some .int) 1 := ⟨zq_599, zq_6, ⟨by decide +kernel, by decide +kernel, by decide +kernel⟩, by decide +kernel⟩
theorem zyvX0_worthOfSettled : zYv yX0_worthOfSettled := ⟨zq_598, zT_in (List.mem_append_left _ (List.mem_of_getElem? (i := 27) rfl)) rfl⟩
theorem zyX0_worthOfStuck : zY yX0_worthOfStuck cX0_worthOfStuck 2 (some .int) 1 := ⟨zq_603, zq_6, ⟨by decide +kernel, by decide +kernel, by decide +kernel⟩, by decide +kernel⟩
theorem zyvX0_worthOfStuck : zYv yX0_worthOfStuck := ⟨zq_602, zT_in (List.mem_append_left _ (List.mem_of_getElem? (i := 28) rfl)) rfl⟩
theorem zyX0_markOf : zY yX0_markOf cX0_markOf 3 (some .int) 2 := ⟨zq_607, zq_6, ⟨by decide +kernel, by decide +kernel, by decide +kernel⟩, by decide +kernel⟩
theorem zyvX0_markOf : zYv yX0_markOf := ⟨zq_605, zq_606⟩
theorem zyX0_markOfFresh : zY yX0_markOfFresh cX0_markOfFresh 3 (some .int) 2 := ⟨zq_611, zq_6, ⟨by decide +kernel, by decide +kernel, by decide +kernel⟩, by decide +kernel⟩
theorem zyvX0_markOfFresh : zYv yX0_markOfFresh := ⟨zq_610, zT_in (List.mem_append_left _ (List.mem_of_getElem? (i := 29) rfl)) rfl⟩
theorem zyX0_markOfAny : zY yX0_markOfAny cX0_markOfAny 2 (some .int) 1 := ⟨zq_615, zq_6, ⟨by decide +kernel, by decide +kernel, by decide +kernel⟩, by decide +kernel⟩
theorem zyvX0_markOfAny : zYv yX0_markOfAny := ⟨zq_614, zT_in (List.mem_append_left _ (List.mem_of_getElem? (i := 30) rfl)) rfl⟩
theorem zyX0_markOfStuck : zY yX0_markOfStuck cX0_markOfStuck 2 (some .int) 1 := ⟨zq_620, zq_6, ⟨by decide +kernel, by decide +kernel, by decide +kernel⟩, by decide +kernel⟩
theorem zyvX0_markOfStuck : zYv yX0_markOfStuck := ⟨zq_619, zT_in (List.mem_append_left _ (List.mem_of_getElem? (i := 31) rfl)) rfl⟩
theorem zyX7_trace : zY yX7_trace cX7_trace 2 (some .int) 1 := ⟨zq_624, zq_1, ⟨by decide +kernel, by decide +kernel, by decide +kernel⟩, by decide +kernel⟩
theorem zyvX7_trace : zYv yX7_trace := ⟨zq_622, zq_623⟩
theorem zyX0_tracedAt : zY yX0_tracedAt cX0_tracedAt 2 (some .int) 1 := ⟨zq_628, zq_6, ⟨by decide +kernel, by decide +kernel, by decide +kernel⟩, by decide +kernel⟩
theorem zyvX0_tracedAt : zYv yX0_tracedAt := ⟨zq_626, zq_627⟩
theorem zyX7_count : zY yX7_count cX7_count 2 (some .int) 1 := ⟨zq_633, zq_1, ⟨by decide +kernel, by decide +kernel, by decide +kernel⟩, by decide +kernel⟩
theorem zyvX7_count : zYv yX7_count := ⟨zq_631, zq_632⟩
theorem zyX7_sheetsThere : zY yX7_sheetsThere cX7_sheetsThere 3 (some .int) 0 := ⟨zq_637, zq_1, ⟨by decide +kernel, by decide +kernel, by decide +kernel⟩, by decide +kernel⟩
theorem zyvX7_sheetsThere : zYv yX7_sheetsThere := ⟨zq_636, zT_in (List.mem_append_left _ (List.mem_of_getElem? (i := 32) rfl)) rfl⟩
theorem zyX7_devicesAlive : zY yX7_devicesAlive cX7_devicesAlive 3 (some .int) 0 := ⟨zq_641, zq_1, ⟨by decide +kernel, by decide +kernel, by decide +kernel⟩, by decide +kernel⟩
theorem zyvX7_devicesAlive : zYv yX7_devicesAlive := ⟨zq_640, zT_in (List.mem_append_left _ (List.mem_of_getElem? (i := 33) rfl)) rfl⟩
theorem zyX7_devicesTold : zY yX7_devicesTold cX7_devicesTold 4 (some .int) 1 := ⟨zq_645, zq_1, ⟨by decide +kernel, by decide +kernel, by decide +kernel⟩, by decide +kernel⟩
theorem zyvX7_devicesTold : zYv yX7_devicesTold := ⟨zq_644, zT_in (List.mem_append_left _ (List.mem_of_getElem? (i := 34) rfl)) rfl⟩
theorem zyX7_status : zY yX7_status cX7_status 1 (some .int) 0 := ⟨zq_649, zq_1, ⟨by decide +kernel, by decide +kernel, by decide +kernel⟩, by decide +kernel⟩
theorem zyvX7_status : zYv yX7_status := ⟨zq_647, zq_648⟩
theorem zyX8_init : zY yX8_init cX8_init 1 none 0 := ⟨zq_654, zq_9, ⟨by decide +kernel, by decide +kernel, by decide +kernel⟩, by decide +kernel⟩
theorem zyX8_sheet : zY yX8_sheet cX8_sheet 5 (some .int) 3 := ⟨zq_774, zq_9, ⟨by decide +kernel, by decide +kernel, by decide +kernel⟩, by decide +kernel⟩
theorem zyvX8_sheet : zYv yX8_sheet := ⟨zq_772, zq_773⟩
theorem zyX8_isSheet : zY yX8_isSheet cX8_isSheet 1 (some .boolean) 1 := ⟨zq_777, zq_9, ⟨by decide +kernel, by decide +kernel, by decide +kernel⟩, by decide +kernel⟩
theorem zyX8_in : zY yX8_in cX8_in 6 (some .boolean) 3 := ⟨zq_781, zq_9, ⟨by decide +kernel, by decide +kernel, by decide +kernel⟩, by decide +kernel⟩
theorem zyX8_found : zY yX8_found cX8_found 2 (some .int) 1 := ⟨zq_787, zq_9, ⟨by decide +kernel, by decide +kernel, by decide +kernel⟩, by decide +kernel⟩
theorem zyvX8_found : zYv yX8_found := ⟨zq_786, zT_in (List.mem_append_left _ (List.mem_of_getElem? (i := 35) rfl)) rfl⟩
theorem zyX8_set : zY yX8_set cX8_set 4 (some .int) 3 := ⟨zq_792, zq_9, ⟨by decide +kernel, by decide +kernel, by decide +kernel⟩, by decide +kernel⟩
theorem zyvX8_set : zYv yX8_set := ⟨zq_790, zq_791⟩
theorem zyX8_copy : zY yX8_copy cX8_copy 9 (some .int) 5 := ⟨zq_796, zq_9, ⟨by decide +kernel, by decide +kernel, by decide +kernel⟩, by decide +kernel⟩
theorem zyvX8_copy : zYv yX8_copy := ⟨zq_794, zq_795⟩
theorem zyX8_drop : zY yX8_drop cX8_drop 2 (some .int) 1 := ⟨zq_800, zq_9, ⟨by decide +kernel, by decide +kernel, by decide +kernel⟩, by decide +kernel⟩
theorem zyvX8_drop : zYv yX8_drop := ⟨zq_798, zq_799⟩
theorem zyX8_version : zY yX8_version cX8_version 5 (some .int) 3 := ⟨zq_804, zq_9, ⟨by decide +kernel, by decide +kernel, by decide +kernel⟩, by decide +kernel⟩
theorem zyvX8_version : zYv yX8_version := ⟨zq_802, zq_803⟩
theorem zyX8_step : zY yX8_step cX8_step 5 (some .int) 3 := ⟨zq_811, zq_9, ⟨by decide +kernel, by decide +kernel, by decide +kernel⟩, by decide +kernel⟩
theorem zyvX8_step : zYv yX8_step := ⟨zq_809, zq_810⟩
theorem zyX8_areSteps : zY yX8_areSteps cX8_areSteps 3 (some .boolean) 2 := ⟨zq_815, zq_9, ⟨by decide +kernel, by decide +kernel, by decide +kernel⟩, by decide +kernel⟩
theorem zyvX8_areSteps : zYv yX8_areSteps := ⟨zq_814, zT_in (List.mem_append_left _ (List.mem_of_getElem? (i := 36) rfl)) rfl⟩
theorem zyX8_isVersion : zY yX8_isVersion cX8_isVersion 2 (some .boolean) 1 := ⟨zq_819, zq_9, ⟨by decide +kernel, by decide +kernel, by decide +kernel⟩, by decide +kernel⟩
theorem zyvX8_isVersion : zYv yX8_isVersion := ⟨zq_818, zT_in (List.mem_append_left _ (List.mem_of_getElem? (i := 37) rfl)) rfl⟩
theorem zyX8_path : zY yX8_path cX8_path 4 (some .int) 3 := ⟨zq_824, zq_9, ⟨by decide +kernel, by decide +kernel, by decide +kernel⟩, by decide +kernel⟩
theorem zyvX8_path : zYv yX8_path := ⟨zq_822, zq_823⟩
theorem zyX8_findWays : zY yX8_findWays cX8_findWays 6 none 1 := ⟨zq_828, zq_9, ⟨by decide +kernel, by decide +kernel, by decide +kernel⟩, by decide +kernel⟩
theorem zyvX8_findWays : zYv yX8_findWays := ⟨zq_827, zT_in (List.mem_append_left _ (List.mem_of_getElem? (i := 38) rfl)) rfl⟩
theorem zyX8_on : zY yX8_on cX8_on 6 (some .int) 3 := ⟨zq_833, zq_9, ⟨by decide +kernel, by decide +kernel, by decide +kernel⟩, by decide +kernel⟩
theorem zyvX8_on : zYv yX8_on := ⟨zq_831, zq_832⟩
theorem zyX8_device : zY yX8_device cX8_device 5 (some .int) 3 := ⟨zq_837, zq_9, ⟨by decide +kernel, by decide +kernel, by decide +kernel⟩, by decide +kernel⟩
theorem zyvX8_device : zYv yX8_device := ⟨zq_835, zq_836⟩
theorem zyX8_isDevice : zY yX8_isDevice cX8_isDevice 2 (some .boolean) 1 := ⟨zq_841, zq_9, ⟨by decide +kernel, by decide +kernel, by decide +kernel⟩, by decide +kernel⟩
theorem zyvX8_isDevice : zYv yX8_isDevice := ⟨zq_840, zT_in (List.mem_append_left _ (List.mem_of_getElem? (i := 39) rfl)) rfl⟩
theorem zyX8_isAiling : zY yX8_isAiling cX8_isAiling 3 (some .boolean) 2 := ⟨zq_845, zq_9, ⟨by decide +kernel, by decide +kernel, by decide +kernel⟩, by decide +kernel⟩
theorem zyvX8_isAiling : zYv yX8_isAiling := ⟨zq_844, zT_in (List.mem_append_left _ (List.mem_of_getElem? (i := 40) rfl)) rfl⟩
theorem zyX8_told : zY yX8_told cX8_told 3 (some .int) 2 := ⟨zq_850, zq_9, ⟨by decide +kernel, by decide +kernel, by decide +kernel⟩, by decide +kernel⟩
theorem zyvX8_told : zYv yX8_told := ⟨zq_848, zq_849⟩
theorem zyX8_runsOn : zY yX8_runsOn cX8_runsOn 2 (some .int) 1 := ⟨zq_854, zq_9, ⟨by decide +kernel, by decide +kernel, by decide +kernel⟩, by decide +kernel⟩
theorem zyvX8_runsOn : zYv yX8_runsOn := ⟨zq_853, zT_in (List.mem_append_left _ (List.mem_of_getElem? (i := 41) rfl)) rfl⟩
theorem zyX8_other : zY yX8_other cX8_other 2 (some .int) 1 := ⟨zq_858, zq_9, ⟨by decide +kernel, by decide +kernel, by decide +kernel⟩, by decide +kernel⟩
theorem zyvX8_other : zYv yX8_other := ⟨zq_857, zT_in (List.mem_append_left _ (List.mem_of_getElem? (i := 42) rfl)) rfl⟩
theorem zyX8_draw : zY yX8_draw cX8_draw 4 (some .int) 1 := ⟨zq_862, zq_9, ⟨by decide +kernel, by decide +kernel, by decide +kernel⟩, by decide +kernel⟩
theorem zyvX8_draw : zYv yX8_draw := ⟨zq_861, zT_in (List.mem_append_left _ (List.mem_of_getElem? (i := 43) rfl)) rfl⟩
theorem zyX8_isAlive : zY yX8_isAlive cX8_isAlive 3 (some .boolean) 1 := ⟨zq_868, zq_9, ⟨by decide +kernel, by decide +kernel, by decide +kernel⟩, by decide +kernel⟩
theorem zyvX8_isAlive : zYv yX8_isAlive := ⟨zq_867, zT_in (List.mem_append_left _ (List.mem_of_getElem? (i := 44) rfl)) rfl⟩
theorem zyX8_update : zY yX8_update cX8_update 3 (some .int) 2 := ⟨zq_872, zq_9, ⟨by decide +kernel, by decide +kernel, by decide +kernel⟩, by decide +kernel⟩
theorem zyvX8_update : zYv yX8_update := ⟨zq_870, zq_871⟩
theorem zyX8_actsOf : zY yX8_actsOf cX8_actsOf 3 (some .int) 2 := ⟨zq_876, zq_9, ⟨by decide +kernel, by decide +kernel, by decide +kernel⟩, by decide +kernel⟩
theorem zyvX8_actsOf : zYv yX8_actsOf := ⟨zq_875, zT_in (List.mem_append_left _ (List.mem_of_getElem? (i := 45) rfl)) rfl⟩
theorem zyX8_go : zY yX8_go cX8_go 6 none 4 := ⟨zq_880, zq_9, ⟨by decide +kernel, by decide +kernel, by decide +kernel⟩, by decide +kernel⟩
theorem zyvX8_go : zYv yX8_go := ⟨zq_879, zT_in (List.mem_append_left _ (List.mem_of_getElem? (i := 46) rfl)) rfl⟩
theorem zyX8_act : zY yX8_act cX8_act 4 none 3 := ⟨zq_884, zq_9, ⟨by decide +kernel, by decide +kernel, by decide +kernel⟩, by decide +kernel⟩
theorem zyvX8_act : zYv yX8_act := ⟨zq_883, zT_in (List.mem_append_left _ (List.mem_of_getElem? (i := 47) rfl)) rfl⟩
theorem zyX8_start : zY yX8_start cX8_start 4 none 1 := ⟨zq_888, zq_9, ⟨by decide +kernel, by decide +kernel, by decide +kernel⟩, by decide +kernel⟩
theorem zyvX8_start : zYv yX8_start := ⟨zq_887, zT_in (List.mem_append_left _ (List.mem_of_getElem? (i := 48) rfl)) rfl⟩
theorem zyX8_ends : zY yX8_ends cX8_ends 3 (some .int) 2 := ⟨zq_892, zq_9, ⟨by decide +kernel, by decide +kernel, by decide +kernel⟩, by decide +kernel⟩
theorem zyvX8_ends : zYv yX8_ends := ⟨zq_891, zT_in (List.mem_append_left _ (List.mem_of_getElem? (i := 49) rfl)) rfl⟩
theorem zyX8_acts : zY yX8_acts cX8_acts 3 (some .int) 2 := ⟨zq_896, zq_9, ⟨by decide +kernel, by decide +kernel, by decide +kernel⟩, by decide +kernel⟩
theorem zyvX8_acts : zYv yX8_acts := ⟨zq_894, zq_895⟩
theorem zyX8_power : zY yX8_power cX8_power 4 (some .int) 3 := ⟨zq_900, zq_9, ⟨by decide +kernel, by decide +kernel, by decide +kernel⟩, by decide +kernel⟩
theorem zyvX8_power : zYv yX8_power := ⟨zq_898, zq_899⟩
theorem zyX8_cut : zY yX8_cut cX8_cut 11 (some .int) 4 := ⟨zq_905, zq_9, ⟨by decide +kernel, by decide +kernel, by decide +kernel⟩, by decide +kernel⟩
theorem zyvX8_cut : zYv yX8_cut := ⟨zq_903, zq_904⟩
theorem zyX8_seed : zY yX8_seed cX8_seed 2 (some .int) 1 := ⟨zq_910, zq_9, ⟨by decide +kernel, by decide +kernel, by decide +kernel⟩, by decide +kernel⟩
theorem zyvX8_seed : zYv yX8_seed := ⟨zq_908, zq_909⟩
theorem zyX8_campaign : zY yX8_campaign cX8_campaign 8 (some .int) 5 := ⟨zq_914, zq_9, ⟨by decide +kernel, by decide +kernel, by decide +kernel⟩, by decide +kernel⟩
theorem zyvX8_campaign : zYv yX8_campaign := ⟨zq_912, zq_913⟩
theorem zyX8_beginWave : zY yX8_beginWave cX8_beginWave 3 none 1 := ⟨zq_921, zq_9, ⟨by decide +kernel, by decide +kernel, by decide +kernel⟩, by decide +kernel⟩
theorem zyvX8_beginWave : zYv yX8_beginWave := ⟨zq_920, zT_in (List.mem_append_left _ (List.mem_of_getElem? (i := 50) rfl)) rfl⟩
theorem zyX8_tick : zY yX8_tick cX8_tick 6 (some .int) 1 := ⟨zq_925, zq_9, ⟨by decide +kernel, by decide +kernel, by decide +kernel⟩, by decide +kernel⟩
theorem zyvX8_tick : zYv yX8_tick := ⟨zq_923, zq_924⟩
theorem zyX8_isNext : zY yX8_isNext cX8_isNext 2 (some .boolean) 1 := ⟨zq_930, zq_9, ⟨by decide +kernel, by decide +kernel, by decide +kernel⟩, by decide +kernel⟩
theorem zyvX8_isNext : zYv yX8_isNext := ⟨zq_929, zT_in (List.mem_append_left _ (List.mem_of_getElem? (i := 51) rfl)) rfl⟩
theorem zyX8_runs : zY yX8_runs cX8_runs 4 (some .int) 1 := ⟨zq_934, zq_9, ⟨by decide +kernel, by decide +kernel, by decide +kernel⟩, by decide +kernel⟩
theorem zyvX8_runs : zYv yX8_runs := ⟨zq_932, zq_933⟩
theorem zyX8_chance : zY yX8_chance cX8_chance 9 (some .long) 3 := ⟨zq_939, zq_9, ⟨by decide +kernel, by decide +kernel, by decide +kernel⟩, by decide +kernel⟩
theorem zyvX8_chance : zYv yX8_chance := ⟨zq_937, zq_938⟩
theorem zyX8_power_ : zY yX8_power_ cX8_power_ 5 (some .long) 2 := ⟨zq_944, zq_9, ⟨by decide +kernel, by decide +kernel, by decide +kernel⟩, by decide +kernel⟩
theorem zyX8_kind : zY yX8_kind cX8_kind 2 (some .int) 1 := ⟨zq_948, zq_9, ⟨by decide +kernel, by decide +kernel, by decide +kernel⟩, by decide +kernel⟩
theorem zyvX8_kind : zYv yX8_kind := ⟨zq_946, zq_947⟩
theorem zyX8_kindOf : zY yX8_kindOf cX8_kindOf 3 (some .int) 1 := ⟨zq_952, zq_9, ⟨by decide +kernel, by decide +kernel, by decide +kernel⟩, by decide +kernel⟩
theorem zyvX8_kindOf : zYv yX8_kindOf := ⟨zq_951, zT_in (List.mem_append_left _ (List.mem_of_getElem? (i := 52) rfl)) rfl⟩
theorem zyX8_as : zY yX8_as cX8_as 4 (some .int) 2 := ⟨zq_956, zq_9, ⟨by decide +kernel, by decide +kernel, by decide +kernel⟩, by decide +kernel⟩
theorem zyvX8_as : zYv yX8_as := ⟨zq_954, zq_955⟩
theorem zyX8_ask : zY yX8_ask cX8_ask 3 (some .int) 2 := ⟨zq_960, zq_9, ⟨by decide +kernel, by decide +kernel, by decide +kernel⟩, by decide +kernel⟩
theorem zyvX8_ask : zYv yX8_ask := ⟨zq_958, zq_959⟩
theorem zyX8_worth : zY yX8_worth cX8_worth 5 (some .int) 1 := ⟨zq_964, zq_9, ⟨by decide +kernel, by decide +kernel, by decide +kernel⟩, by decide +kernel⟩
theorem zyvX8_worth : zYv yX8_worth := ⟨zq_963, zT_in (List.mem_append_left _ (List.mem_of_getElem? (i := 53) rfl)) rfl⟩
theorem zyX8_began : zY yX8_began cX8_began 2 none 1 := ⟨zq_968, zq_9, ⟨by decide +kernel, by decide +kernel, by decide +kernel⟩, by decide +kernel⟩
theorem zyvX8_began : zYv yX8_began := ⟨zq_967, zT_in (List.mem_append_left _ (List.mem_of_getElem? (i := 54) rfl)) rfl⟩
theorem zyX8_marked : zY yX8_marked cX8_marked 4 (some .int) 1 := ⟨zq_972, zq_9, ⟨by decide +kernel, by decide +kernel, by decide +kernel⟩, by decide +kernel⟩
theorem zyvX8_marked : zYv yX8_marked := ⟨zq_971, zT_in (List.mem_append_left _ (List.mem_of_getElem? (i := 55) rfl)) rfl⟩
theorem zyX8_trace : zY yX8_trace cX8_trace 2 (some .int) 1 := ⟨zq_976, zq_9, ⟨by decide +kernel, by decide +kernel, by decide +kernel⟩, by decide +kernel⟩
theorem zyvX8_trace : zYv yX8_trace := ⟨zq_974, zq_975⟩
theorem zyX8_count : zY yX8_count cX8_count 5 (some .int) 1 := ⟨zq_980, zq_9, ⟨by decide +kernel, by decide +kernel, by decide +kernel⟩, by decide +kernel⟩
theorem zyvX8_count : zYv yX8_count := ⟨zq_978, zq_979⟩
theorem zyX8_status : zY yX8_status cX8_status 1 (some .int) 0 := ⟨zq_984, zq_9, ⟨by decide +kernel, by decide +kernel, by decide +kernel⟩, by decide +kernel⟩
theorem zyvX8_status : zYv yX8_status := ⟨zq_982, zq_983⟩
end
