section
-- ===== PART A: goes FIRST, ahead of the names: the tables' words, and 'selects' of the private methods out of them =====
/-- a private method of a class that the tables say can be made, by its rows of tables_1 -/
def lw_okq (q : MethodName × Nat) : Prop := (q.1.cls ≠ "java/lang/invoke/MethodHandle" ∧ q.1.cls ≠ "java/lang/invoke/VarHandle") ∧ Cond.instantiable q.1.cls q.2 ∈ tables_1 ∧ Cond.privateMethod q.1 ∈ tables_1 ∧ Cond.instanceMethod q.1 ∈ tables_1
theorem lw_p0 : lw_okq (⟨"GateTable", "told", "(I)I"⟩, 12) := ⟨⟨by decide +kernel, by decide +kernel⟩, List.mem_of_getElem? (i := 17) (by decide +kernel), List.mem_of_getElem? (i := 383) (by decide +kernel), List.mem_of_getElem? (i := 384) (by decide +kernel)⟩
theorem lw_p1 : lw_okq (⟨"GateTable$Tape", "accepts", "(C)Z"⟩, 5) := ⟨⟨by decide +kernel, by decide +kernel⟩, List.mem_of_getElem? (i := 25) (by decide +kernel), List.mem_of_getElem? (i := 391) (by decide +kernel), List.mem_of_getElem? (i := 392) (by decide +kernel)⟩
theorem lw_p2 : lw_okq (⟨"GateTable$Tape", "opens", "(C)Z"⟩, 5) := ⟨⟨by decide +kernel, by decide +kernel⟩, List.mem_of_getElem? (i := 25) (by decide +kernel), List.mem_of_getElem? (i := 395) (by decide +kernel), List.mem_of_getElem? (i := 396) (by decide +kernel)⟩
theorem lw_p3 : lw_okq (⟨"GateTable$Tape", "acceptsAtItem", "(C)Z"⟩, 5) := ⟨⟨by decide +kernel, by decide +kernel⟩, List.mem_of_getElem? (i := 25) (by decide +kernel), List.mem_of_getElem? (i := 399) (by decide +kernel), List.mem_of_getElem? (i := 400) (by decide +kernel)⟩
theorem lw_p4 : lw_okq (⟨"GateTable$Tape", "closes", "(C)Z"⟩, 5) := ⟨⟨by decide +kernel, by decide +kernel⟩, List.mem_of_getElem? (i := 25) (by decide +kernel), List.mem_of_getElem? (i := 403) (by decide +kernel), List.mem_of_getElem? (i := 404) (by decide +kernel)⟩
theorem lw_p5 : lw_okq (⟨"GateTable$Player", "doBody", "(II)I"⟩, 18) := ⟨⟨by decide +kernel, by decide +kernel⟩, List.mem_of_getElem? (i := 48) (by decide +kernel), List.mem_of_getElem? (i := 430) (by decide +kernel), List.mem_of_getElem? (i := 431) (by decide +kernel)⟩
theorem lw_p6 : lw_okq (⟨"GateTable$Player", "doOne", "(II)I"⟩, 18) := ⟨⟨by decide +kernel, by decide +kernel⟩, List.mem_of_getElem? (i := 48) (by decide +kernel), List.mem_of_getElem? (i := 442) (by decide +kernel), List.mem_of_getElem? (i := 443) (by decide +kernel)⟩
theorem lw_p7 : lw_okq (⟨"GateTable$Player", "breakBy", "(II)I"⟩, 18) := ⟨⟨by decide +kernel, by decide +kernel⟩, List.mem_of_getElem? (i := 48) (by decide +kernel), List.mem_of_getElem? (i := 447) (by decide +kernel), List.mem_of_getElem? (i := 448) (by decide +kernel)⟩
theorem lw_p8 : lw_okq (⟨"GateTable$Player", "doTry", "(II)I"⟩, 18) := ⟨⟨by decide +kernel, by decide +kernel⟩, List.mem_of_getElem? (i := 48) (by decide +kernel), List.mem_of_getElem? (i := 451) (by decide +kernel), List.mem_of_getElem? (i := 452) (by decide +kernel)⟩
theorem lw_p9 : lw_okq (⟨"GateTable$Player", "takeBack", "(I)V"⟩, 18) := ⟨⟨by decide +kernel, by decide +kernel⟩, List.mem_of_getElem? (i := 48) (by decide +kernel), List.mem_of_getElem? (i := 455) (by decide +kernel), List.mem_of_getElem? (i := 456) (by decide +kernel)⟩
theorem lw_p10 : lw_okq (⟨"GateTable$Player", "put", "(III)V"⟩, 18) := ⟨⟨by decide +kernel, by decide +kernel⟩, List.mem_of_getElem? (i := 48) (by decide +kernel), List.mem_of_getElem? (i := 459) (by decide +kernel), List.mem_of_getElem? (i := 460) (by decide +kernel)⟩
theorem lw_p11 : lw_okq (⟨"GateTable$Player", "doOften", "(III)I"⟩, 18) := ⟨⟨by decide +kernel, by decide +kernel⟩, List.mem_of_getElem? (i := 48) (by decide +kernel), List.mem_of_getElem? (i := 468) (by decide +kernel), List.mem_of_getElem? (i := 469) (by decide +kernel)⟩
theorem lw_p12 : lw_okq (⟨"GateTable$Player", "doStay", "(III)I"⟩, 18) := ⟨⟨by decide +kernel, by decide +kernel⟩, List.mem_of_getElem? (i := 48) (by decide +kernel), List.mem_of_getElem? (i := 475) (by decide +kernel), List.mem_of_getElem? (i := 476) (by decide +kernel)⟩
theorem lw_p13 : lw_okq (⟨"GateTable$Player", "enter", "(I)V"⟩, 18) := ⟨⟨by decide +kernel, by decide +kernel⟩, List.mem_of_getElem? (i := 48) (by decide +kernel), List.mem_of_getElem? (i := 482) (by decide +kernel), List.mem_of_getElem? (i := 483) (by decide +kernel)⟩
theorem lw_p14 : lw_okq (⟨"GateTable$Player", "leave", "(I)V"⟩, 18) := ⟨⟨by decide +kernel, by decide +kernel⟩, List.mem_of_getElem? (i := 48) (by decide +kernel), List.mem_of_getElem? (i := 490) (by decide +kernel), List.mem_of_getElem? (i := 491) (by decide +kernel)⟩
theorem lw_p15 : lw_okq (⟨"GateTable$Player", "doAdd", "(II)I"⟩, 18) := ⟨⟨by decide +kernel, by decide +kernel⟩, List.mem_of_getElem? (i := 48) (by decide +kernel), List.mem_of_getElem? (i := 494) (by decide +kernel), List.mem_of_getElem? (i := 495) (by decide +kernel)⟩
def lw_privs_1 : List (MethodName × Nat) := [(⟨"GateTable", "told", "(I)I"⟩, 12), (⟨"GateTable$Tape", "accepts", "(C)Z"⟩, 5), (⟨"GateTable$Tape", "opens", "(C)Z"⟩, 5), (⟨"GateTable$Tape", "acceptsAtItem", "(C)Z"⟩, 5), (⟨"GateTable$Tape", "closes", "(C)Z"⟩, 5), (⟨"GateTable$Player", "doBody", "(II)I"⟩, 18), (⟨"GateTable$Player", "doOne", "(II)I"⟩, 18), (⟨"GateTable$Player", "breakBy", "(II)I"⟩, 18), (⟨"GateTable$Player", "doTry", "(II)I"⟩, 18), (⟨"GateTable$Player", "takeBack", "(I)V"⟩, 18), (⟨"GateTable$Player", "put", "(III)V"⟩, 18), (⟨"GateTable$Player", "doOften", "(III)I"⟩, 18), (⟨"GateTable$Player", "doStay", "(III)I"⟩, 18), (⟨"GateTable$Player", "enter", "(I)V"⟩, 18), (⟨"GateTable$Player", "leave", "(I)V"⟩, 18), (⟨"GateTable$Player", "doAdd", "(II)I"⟩, 18)]
theorem lw_r1 : ∀ q ∈ lw_privs_1, lw_okq q := List.forall_mem_cons.mpr ⟨lw_p0, List.forall_mem_cons.mpr ⟨lw_p1, List.forall_mem_cons.mpr ⟨lw_p2, List.forall_mem_cons.mpr ⟨lw_p3, List.forall_mem_cons.mpr ⟨lw_p4, List.forall_mem_cons.mpr ⟨lw_p5, List.forall_mem_cons.mpr ⟨lw_p6, List.forall_mem_cons.mpr ⟨lw_p7, List.forall_mem_cons.mpr ⟨lw_p8, List.forall_mem_cons.mpr ⟨lw_p9, List.forall_mem_cons.mpr ⟨lw_p10, List.forall_mem_cons.mpr ⟨lw_p11, List.forall_mem_cons.mpr ⟨lw_p12, List.forall_mem_cons.mpr ⟨lw_p13, List.forall_mem_cons.mpr ⟨lw_p14, List.forall_mem_cons.mpr ⟨lw_p15, fun _ h => absurd h List.not_mem_nil⟩⟩⟩⟩⟩⟩⟩⟩⟩⟩⟩⟩⟩⟩⟩⟩
theorem lw_p16 : lw_okq (⟨"GateTable$History", "loseOldest", "()V"⟩, 2) := ⟨⟨by decide +kernel, by decide +kernel⟩, List.mem_of_getElem? (i := 241) (by decide +kernel), List.mem_of_getElem? (i := 502) (by decide +kernel), List.mem_of_getElem? (i := 503) (by decide +kernel)⟩
theorem lw_p17 : lw_okq (⟨"GateTable$Table", "rest", "(I)V"⟩, 14) := ⟨⟨by decide +kernel, by decide +kernel⟩, List.mem_of_getElem? (i := 186) (by decide +kernel), List.mem_of_getElem? (i := 514) (by decide +kernel), List.mem_of_getElem? (i := 515) (by decide +kernel)⟩
theorem lw_p18 : lw_okq (⟨"GateTable$Table", "awaitGate", "(II)I"⟩, 14) := ⟨⟨by decide +kernel, by decide +kernel⟩, List.mem_of_getElem? (i := 186) (by decide +kernel), List.mem_of_getElem? (i := 610) (by decide +kernel), List.mem_of_getElem? (i := 611) (by decide +kernel)⟩
theorem lw_p19 : lw_okq (⟨"GateTable$Table", "ringOf", "(I)I"⟩, 14) := ⟨⟨by decide +kernel, by decide +kernel⟩, List.mem_of_getElem? (i := 186) (by decide +kernel), List.mem_of_getElem? (i := 614) (by decide +kernel), List.mem_of_getElem? (i := 615) (by decide +kernel)⟩
theorem lw_p20 : lw_okq (⟨"GateTable$Table", "blockerOf", "(I)I"⟩, 14) := ⟨⟨by decide +kernel, by decide +kernel⟩, List.mem_of_getElem? (i := 186) (by decide +kernel), List.mem_of_getElem? (i := 618) (by decide +kernel), List.mem_of_getElem? (i := 619) (by decide +kernel)⟩
theorem lw_p21 : lw_okq (⟨"GateTable$Table", "chooseVictim", "(I)I"⟩, 14) := ⟨⟨by decide +kernel, by decide +kernel⟩, List.mem_of_getElem? (i := 186) (by decide +kernel), List.mem_of_getElem? (i := 623) (by decide +kernel), List.mem_of_getElem? (i := 624) (by decide +kernel)⟩
theorem lw_p22 : lw_okq (⟨"GateTable$Table", "claim", "(I)I"⟩, 14) := ⟨⟨by decide +kernel, by decide +kernel⟩, List.mem_of_getElem? (i := 186) (by decide +kernel), List.mem_of_getElem? (i := 628) (by decide +kernel), List.mem_of_getElem? (i := 629) (by decide +kernel)⟩
theorem lw_p23 : lw_okq (⟨"GateTable$Table", "gatesOf", "(I)I"⟩, 14) := ⟨⟨by decide +kernel, by decide +kernel⟩, List.mem_of_getElem? (i := 186) (by decide +kernel), List.mem_of_getElem? (i := 632) (by decide +kernel), List.mem_of_getElem? (i := 633) (by decide +kernel)⟩
theorem lw_p24 : lw_okq (⟨"GateTable$Table", "withdraw", "(I)V"⟩, 14) := ⟨⟨by decide +kernel, by decide +kernel⟩, List.mem_of_getElem? (i := 186) (by decide +kernel), List.mem_of_getElem? (i := 642) (by decide +kernel), List.mem_of_getElem? (i := 643) (by decide +kernel)⟩
theorem lw_p25 : lw_okq (⟨"GateTable$Table", "doNextStep", "(I)V"⟩, 14) := ⟨⟨by decide +kernel, by decide +kernel⟩, List.mem_of_getElem? (i := 186) (by decide +kernel), List.mem_of_getElem? (i := 646) (by decide +kernel), List.mem_of_getElem? (i := 647) (by decide +kernel)⟩
theorem lw_p26 : lw_okq (⟨"GateTable$Table", "drawOnce", "()I"⟩, 14) := ⟨⟨by decide +kernel, by decide +kernel⟩, List.mem_of_getElem? (i := 186) (by decide +kernel), List.mem_of_getElem? (i := 676) (by decide +kernel), List.mem_of_getElem? (i := 677) (by decide +kernel)⟩
theorem lw_p27 : lw_okq (⟨"GateTable$Table", "tasksThatAwait", "(I)I"⟩, 14) := ⟨⟨by decide +kernel, by decide +kernel⟩, List.mem_of_getElem? (i := 186) (by decide +kernel), List.mem_of_getElem? (i := 707) (by decide +kernel), List.mem_of_getElem? (i := 708) (by decide +kernel)⟩
theorem lw_p28 : lw_okq (⟨"GateTable$Table", "tasksInRings", "()I"⟩, 14) := ⟨⟨by decide +kernel, by decide +kernel⟩, List.mem_of_getElem? (i := 186) (by decide +kernel), List.mem_of_getElem? (i := 731) (by decide +kernel), List.mem_of_getElem? (i := 732) (by decide +kernel)⟩
theorem lw_p29 : lw_okq (⟨"GateTable$Order", "readTrace", "(LGateTable$Trace;)V"⟩, 1) := ⟨⟨by decide +kernel, by decide +kernel⟩, List.mem_of_getElem? (i := 257) (by decide +kernel), List.mem_of_getElem? (i := 745) (by decide +kernel), List.mem_of_getElem? (i := 746) (by decide +kernel)⟩
theorem lw_p30 : lw_okq (⟨"GateTable$Order", "loopThrough", "(I)I"⟩, 1) := ⟨⟨by decide +kernel, by decide +kernel⟩, List.mem_of_getElem? (i := 257) (by decide +kernel), List.mem_of_getElem? (i := 769) (by decide +kernel), List.mem_of_getElem? (i := 770) (by decide +kernel)⟩
theorem lw_p31 : lw_okq (⟨"GateTable$Order", "behindAll", "(I)I"⟩, 1) := ⟨⟨by decide +kernel, by decide +kernel⟩, List.mem_of_getElem? (i := 257) (by decide +kernel), List.mem_of_getElem? (i := 773) (by decide +kernel), List.mem_of_getElem? (i := 774) (by decide +kernel)⟩
def lw_privs_2 : List (MethodName × Nat) := [(⟨"GateTable$History", "loseOldest", "()V"⟩, 2), (⟨"GateTable$Table", "rest", "(I)V"⟩, 14), (⟨"GateTable$Table", "awaitGate", "(II)I"⟩, 14), (⟨"GateTable$Table", "ringOf", "(I)I"⟩, 14), (⟨"GateTable$Table", "blockerOf", "(I)I"⟩, 14), (⟨"GateTable$Table", "chooseVictim", "(I)I"⟩, 14), (⟨"GateTable$Table", "claim", "(I)I"⟩, 14), (⟨"GateTable$Table", "gatesOf", "(I)I"⟩, 14), (⟨"GateTable$Table", "withdraw", "(I)V"⟩, 14), (⟨"GateTable$Table", "doNextStep", "(I)V"⟩, 14), (⟨"GateTable$Table", "drawOnce", "()I"⟩, 14), (⟨"GateTable$Table", "tasksThatAwait", "(I)I"⟩, 14), (⟨"GateTable$Table", "tasksInRings", "()I"⟩, 14), (⟨"GateTable$Order", "readTrace", "(LGateTable$Trace;)V"⟩, 1), (⟨"GateTable$Order", "loopThrough", "(I)I"⟩, 1), (⟨"GateTable$Order", "behindAll", "(I)I"⟩, 1)]
theorem lw_r2 : ∀ q ∈ lw_privs_2, lw_okq q := List.forall_mem_cons.mpr ⟨lw_p16, List.forall_mem_cons.mpr ⟨lw_p17, List.forall_mem_cons.mpr ⟨lw_p18, List.forall_mem_cons.mpr ⟨lw_p19, List.forall_mem_cons.mpr ⟨lw_p20, List.forall_mem_cons.mpr ⟨lw_p21, List.forall_mem_cons.mpr ⟨lw_p22, List.forall_mem_cons.mpr ⟨lw_p23, List.forall_mem_cons.mpr ⟨lw_p24, List.forall_mem_cons.mpr ⟨lw_p25, List.forall_mem_cons.mpr ⟨lw_p26, List.forall_mem_cons.mpr ⟨lw_p27, List.forall_mem_cons.mpr ⟨lw_p28, List.forall_mem_cons.mpr ⟨lw_p29, List.forall_mem_cons.mpr ⟨lw_p30, List.forall_mem_cons.mpr ⟨lw_p31, fun _ h => absurd h List.not_mem_nil⟩⟩⟩⟩⟩⟩⟩⟩⟩⟩⟩⟩⟩⟩⟩⟩
theorem lw_p32 : lw_okq (⟨"GateTable$Pair", "goOn", "(II)V"⟩, 8) := ⟨⟨by decide +kernel, by decide +kernel⟩, List.mem_of_getElem? (i := 267) (by decide +kernel), List.mem_of_getElem? (i := 795) (by decide +kernel), List.mem_of_getElem? (i := 796) (by decide +kernel)⟩
theorem lw_p33 : lw_okq (⟨"GateTable$Pair", "endWays", "(IIJJ)V"⟩, 8) := ⟨⟨by decide +kernel, by decide +kernel⟩, List.mem_of_getElem? (i := 267) (by decide +kernel), List.mem_of_getElem? (i := 807) (by decide +kernel), List.mem_of_getElem? (i := 808) (by decide +kernel)⟩
theorem lw_p34 : lw_okq (⟨"GateTable$Pair", "commonHalvings", "()I"⟩, 8) := ⟨⟨by decide +kernel, by decide +kernel⟩, List.mem_of_getElem? (i := 267) (by decide +kernel), List.mem_of_getElem? (i := 828) (by decide +kernel), List.mem_of_getElem? (i := 829) (by decide +kernel)⟩
theorem lw_p35 : lw_okq (⟨"GateTable", "tryRow", "(LGateTable$Sheet;II)I"⟩, 12) := ⟨⟨by decide +kernel, by decide +kernel⟩, List.mem_of_getElem? (i := 17) (by decide +kernel), List.mem_of_getElem? (i := 916) (by decide +kernel), List.mem_of_getElem? (i := 917) (by decide +kernel)⟩
theorem lw_p36 : lw_okq (⟨"GateTableModel", "put", "(III)V"⟩, 47) := ⟨⟨by decide +kernel, by decide +kernel⟩, List.mem_of_getElem? (i := 973) (by decide +kernel), List.mem_of_getElem? (i := 979) (by decide +kernel), List.mem_of_getElem? (i := 980) (by decide +kernel)⟩
theorem lw_p37 : lw_okq (⟨"GateTableModel", "laysTraces", "()Z"⟩, 47) := ⟨⟨by decide +kernel, by decide +kernel⟩, List.mem_of_getElem? (i := 973) (by decide +kernel), List.mem_of_getElem? (i := 983) (by decide +kernel), List.mem_of_getElem? (i := 984) (by decide +kernel)⟩
theorem lw_p38 : lw_okq (⟨"GateTableModel", "laysTrace", "(I)V"⟩, 47) := ⟨⟨by decide +kernel, by decide +kernel⟩, List.mem_of_getElem? (i := 973) (by decide +kernel), List.mem_of_getElem? (i := 987) (by decide +kernel), List.mem_of_getElem? (i := 988) (by decide +kernel)⟩
theorem lw_p39 : lw_okq (⟨"GateTableModel", "letterAt", "(II)I"⟩, 47) := ⟨⟨by decide +kernel, by decide +kernel⟩, List.mem_of_getElem? (i := 973) (by decide +kernel), List.mem_of_getElem? (i := 991) (by decide +kernel), List.mem_of_getElem? (i := 992) (by decide +kernel)⟩
theorem lw_p40 : lw_okq (⟨"GateTableModel", "visits", "(II)V"⟩, 47) := ⟨⟨by decide +kernel, by decide +kernel⟩, List.mem_of_getElem? (i := 973) (by decide +kernel), List.mem_of_getElem? (i := 1000) (by decide +kernel), List.mem_of_getElem? (i := 1001) (by decide +kernel)⟩
theorem lw_p41 : lw_okq (⟨"GateTableModel", "breaks", "(III)V"⟩, 47) := ⟨⟨by decide +kernel, by decide +kernel⟩, List.mem_of_getElem? (i := 973) (by decide +kernel), List.mem_of_getElem? (i := 1007) (by decide +kernel), List.mem_of_getElem? (i := 1008) (by decide +kernel)⟩
theorem lw_p42 : lw_okq (⟨"GateTableModel", "takesBack", "(I)V"⟩, 47) := ⟨⟨by decide +kernel, by decide +kernel⟩, List.mem_of_getElem? (i := 973) (by decide +kernel), List.mem_of_getElem? (i := 1011) (by decide +kernel), List.mem_of_getElem? (i := 1012) (by decide +kernel)⟩
theorem lw_p43 : lw_okq (⟨"GateTableModel", "writes", "(IIII)V"⟩, 47) := ⟨⟨by decide +kernel, by decide +kernel⟩, List.mem_of_getElem? (i := 973) (by decide +kernel), List.mem_of_getElem? (i := 1015) (by decide +kernel), List.mem_of_getElem? (i := 1016) (by decide +kernel)⟩
theorem lw_p44 : lw_okq (⟨"GateTableModel", "leaves", "(I)V"⟩, 47) := ⟨⟨by decide +kernel, by decide +kernel⟩, List.mem_of_getElem? (i := 973) (by decide +kernel), List.mem_of_getElem? (i := 1019) (by decide +kernel), List.mem_of_getElem? (i := 1020) (by decide +kernel)⟩
theorem lw_p45 : lw_okq (⟨"GateTableModel", "shutOf", "(II)I"⟩, 47) := ⟨⟨by decide +kernel, by decide +kernel⟩, List.mem_of_getElem? (i := 973) (by decide +kernel), List.mem_of_getElem? (i := 1023) (by decide +kernel), List.mem_of_getElem? (i := 1024) (by decide +kernel)⟩
theorem lw_p46 : lw_okq (⟨"GateTableModel", "enters", "(II)V"⟩, 47) := ⟨⟨by decide +kernel, by decide +kernel⟩, List.mem_of_getElem? (i := 973) (by decide +kernel), List.mem_of_getElem? (i := 1027) (by decide +kernel), List.mem_of_getElem? (i := 1028) (by decide +kernel)⟩
theorem lw_p47 : lw_okq (⟨"GateTableModel", "opens", "(II)V"⟩, 47) := ⟨⟨by decide +kernel, by decide +kernel⟩, List.mem_of_getElem? (i := 973) (by decide +kernel), List.mem_of_getElem? (i := 1031) (by decide +kernel), List.mem_of_getElem? (i := 1032) (by decide +kernel)⟩
def lw_privs_3 : List (MethodName × Nat) := [(⟨"GateTable$Pair", "goOn", "(II)V"⟩, 8), (⟨"GateTable$Pair", "endWays", "(IIJJ)V"⟩, 8), (⟨"GateTable$Pair", "commonHalvings", "()I"⟩, 8), (⟨"GateTable", "tryRow", "(LGateTable$Sheet;II)I"⟩, 12), (⟨"GateTableModel", "put", "(III)V"⟩, 47), (⟨"GateTableModel", "laysTraces", "()Z"⟩, 47), (⟨"GateTableModel", "laysTrace", "(I)V"⟩, 47), (⟨"GateTableModel", "letterAt", "(II)I"⟩, 47), (⟨"GateTableModel", "visits", "(II)V"⟩, 47), (⟨"GateTableModel", "breaks", "(III)V"⟩, 47), (⟨"GateTableModel", "takesBack", "(I)V"⟩, 47), (⟨"GateTableModel", "writes", "(IIII)V"⟩, 47), (⟨"GateTableModel", "leaves", "(I)V"⟩, 47), (⟨"GateTableModel", "shutOf", "(II)I"⟩, 47), (⟨"GateTableModel", "enters", "(II)V"⟩, 47), (⟨"GateTableModel", "opens", "(II)V"⟩, 47)]
theorem lw_r3 : ∀ q ∈ lw_privs_3, lw_okq q := List.forall_mem_cons.mpr ⟨lw_p32, List.forall_mem_cons.mpr ⟨lw_p33, List.forall_mem_cons.mpr ⟨lw_p34, List.forall_mem_cons.mpr ⟨lw_p35, List.forall_mem_cons.mpr ⟨lw_p36, List.forall_mem_cons.mpr ⟨lw_p37, List.forall_mem_cons.mpr ⟨lw_p38, List.forall_mem_cons.mpr ⟨lw_p39, List.forall_mem_cons.mpr ⟨lw_p40, List.forall_mem_cons.mpr ⟨lw_p41, List.forall_mem_cons.mpr ⟨lw_p42, List.forall_mem_cons.mpr ⟨lw_p43, List.forall_mem_cons.mpr ⟨lw_p44, List.forall_mem_cons.mpr ⟨lw_p45, List.forall_mem_cons.mpr ⟨lw_p46, List.forall_mem_cons.mpr ⟨lw_p47, fun _ h => absurd h List.not_mem_nil⟩⟩⟩⟩⟩⟩⟩⟩⟩⟩⟩⟩⟩⟩⟩⟩
theorem lw_p48 : lw_okq (⟨"GateTableModel", "shuts", "(II)V"⟩, 47) := ⟨⟨by decide +kernel, by decide +kernel⟩, List.mem_of_getElem? (i := 973) (by decide +kernel), List.mem_of_getElem? (i := 1037) (by decide +kernel), List.mem_of_getElem? (i := 1038) (by decide +kernel)⟩
theorem lw_p49 : lw_okq (⟨"GateTableModel", "kindAt", "(II)I"⟩, 47) := ⟨⟨by decide +kernel, by decide +kernel⟩, List.mem_of_getElem? (i := 973) (by decide +kernel), List.mem_of_getElem? (i := 1195) (by decide +kernel), List.mem_of_getElem? (i := 1196) (by decide +kernel)⟩
theorem lw_p50 : lw_okq (⟨"GateTableModel", "gateAt", "(II)I"⟩, 47) := ⟨⟨by decide +kernel, by decide +kernel⟩, List.mem_of_getElem? (i := 973) (by decide +kernel), List.mem_of_getElem? (i := 1199) (by decide +kernel), List.mem_of_getElem? (i := 1200) (by decide +kernel)⟩
theorem lw_p51 : lw_okq (⟨"GateTableModel", "isBody", "()Z"⟩, 47) := ⟨⟨by decide +kernel, by decide +kernel⟩, List.mem_of_getElem? (i := 973) (by decide +kernel), List.mem_of_getElem? (i := 1213) (by decide +kernel), List.mem_of_getElem? (i := 1214) (by decide +kernel)⟩
theorem lw_p52 : lw_okq (⟨"GateTableModel", "here", "()I"⟩, 47) := ⟨⟨by decide +kernel, by decide +kernel⟩, List.mem_of_getElem? (i := 973) (by decide +kernel), List.mem_of_getElem? (i := 1217) (by decide +kernel), List.mem_of_getElem? (i := 1218) (by decide +kernel)⟩
theorem lw_p53 : lw_okq (⟨"GateTableModel", "isVisit", "()Z"⟩, 47) := ⟨⟨by decide +kernel, by decide +kernel⟩, List.mem_of_getElem? (i := 973) (by decide +kernel), List.mem_of_getElem? (i := 1221) (by decide +kernel), List.mem_of_getElem? (i := 1222) (by decide +kernel)⟩
theorem lw_p54 : lw_okq (⟨"GateTableModel", "takes", "()V"⟩, 47) := ⟨⟨by decide +kernel, by decide +kernel⟩, List.mem_of_getElem? (i := 973) (by decide +kernel), List.mem_of_getElem? (i := 1225) (by decide +kernel), List.mem_of_getElem? (i := 1226) (by decide +kernel)⟩
theorem lw_p55 : lw_okq (⟨"GateTableModel", "isOpened", "()Z"⟩, 47) := ⟨⟨by decide +kernel, by decide +kernel⟩, List.mem_of_getElem? (i := 973) (by decide +kernel), List.mem_of_getElem? (i := 1229) (by decide +kernel), List.mem_of_getElem? (i := 1230) (by decide +kernel)⟩
theorem lw_p56 : lw_okq (⟨"GateTableModel", "isTaken", "(Z)Z"⟩, 47) := ⟨⟨by decide +kernel, by decide +kernel⟩, List.mem_of_getElem? (i := 973) (by decide +kernel), List.mem_of_getElem? (i := 1233) (by decide +kernel), List.mem_of_getElem? (i := 1234) (by decide +kernel)⟩
theorem lw_p57 : lw_okq (⟨"GateTableModel", "isBusy", "()Z"⟩, 47) := ⟨⟨by decide +kernel, by decide +kernel⟩, List.mem_of_getElem? (i := 973) (by decide +kernel), List.mem_of_getElem? (i := 1242) (by decide +kernel), List.mem_of_getElem? (i := 1243) (by decide +kernel)⟩
theorem lw_p58 : lw_okq (⟨"GateTableModel", "of", "(II)I"⟩, 47) := ⟨⟨by decide +kernel, by decide +kernel⟩, List.mem_of_getElem? (i := 973) (by decide +kernel), List.mem_of_getElem? (i := 1246) (by decide +kernel), List.mem_of_getElem? (i := 1247) (by decide +kernel)⟩
theorem lw_p59 : lw_okq (⟨"GateTableModel", "holds", "()V"⟩, 47) := ⟨⟨by decide +kernel, by decide +kernel⟩, List.mem_of_getElem? (i := 973) (by decide +kernel), List.mem_of_getElem? (i := 1250) (by decide +kernel), List.mem_of_getElem? (i := 1251) (by decide +kernel)⟩
theorem lw_p60 : lw_okq (⟨"GateTableModel", "idles", "(I)V"⟩, 47) := ⟨⟨by decide +kernel, by decide +kernel⟩, List.mem_of_getElem? (i := 973) (by decide +kernel), List.mem_of_getElem? (i := 1254) (by decide +kernel), List.mem_of_getElem? (i := 1255) (by decide +kernel)⟩
theorem lw_p61 : lw_okq (⟨"GateTableModel", "isKept", "()Z"⟩, 47) := ⟨⟨by decide +kernel, by decide +kernel⟩, List.mem_of_getElem? (i := 973) (by decide +kernel), List.mem_of_getElem? (i := 1258) (by decide +kernel), List.mem_of_getElem? (i := 1259) (by decide +kernel)⟩
theorem lw_p62 : lw_okq (⟨"GateTableModel", "notes", "()V"⟩, 47) := ⟨⟨by decide +kernel, by decide +kernel⟩, List.mem_of_getElem? (i := 973) (by decide +kernel), List.mem_of_getElem? (i := 1262) (by decide +kernel), List.mem_of_getElem? (i := 1263) (by decide +kernel)⟩
theorem lw_p63 : lw_okq (⟨"GateTableModel", "returns", "()V"⟩, 47) := ⟨⟨by decide +kernel, by decide +kernel⟩, List.mem_of_getElem? (i := 973) (by decide +kernel), List.mem_of_getElem? (i := 1266) (by decide +kernel), List.mem_of_getElem? (i := 1267) (by decide +kernel)⟩
def lw_privs_4 : List (MethodName × Nat) := [(⟨"GateTableModel", "shuts", "(II)V"⟩, 47), (⟨"GateTableModel", "kindAt", "(II)I"⟩, 47), (⟨"GateTableModel", "gateAt", "(II)I"⟩, 47), (⟨"GateTableModel", "isBody", "()Z"⟩, 47), (⟨"GateTableModel", "here", "()I"⟩, 47), (⟨"GateTableModel", "isVisit", "()Z"⟩, 47), (⟨"GateTableModel", "takes", "()V"⟩, 47), (⟨"GateTableModel", "isOpened", "()Z"⟩, 47), (⟨"GateTableModel", "isTaken", "(Z)Z"⟩, 47), (⟨"GateTableModel", "isBusy", "()Z"⟩, 47), (⟨"GateTableModel", "of", "(II)I"⟩, 47), (⟨"GateTableModel", "holds", "()V"⟩, 47), (⟨"GateTableModel", "idles", "(I)V"⟩, 47), (⟨"GateTableModel", "isKept", "()Z"⟩, 47), (⟨"GateTableModel", "notes", "()V"⟩, 47), (⟨"GateTableModel", "returns", "()V"⟩, 47)]
theorem lw_r4 : ∀ q ∈ lw_privs_4, lw_okq q := List.forall_mem_cons.mpr ⟨lw_p48, List.forall_mem_cons.mpr ⟨lw_p49, List.forall_mem_cons.mpr ⟨lw_p50, List.forall_mem_cons.mpr ⟨lw_p51, List.forall_mem_cons.mpr ⟨lw_p52, List.forall_mem_cons.mpr ⟨lw_p53, List.forall_mem_cons.mpr ⟨lw_p54, List.forall_mem_cons.mpr ⟨lw_p55, List.forall_mem_cons.mpr ⟨lw_p56, List.forall_mem_cons.mpr ⟨lw_p57, List.forall_mem_cons.mpr ⟨lw_p58, List.forall_mem_cons.mpr ⟨lw_p59, List.forall_mem_cons.mpr ⟨lw_p60, List.forall_mem_cons.mpr ⟨lw_p61, List.forall_mem_cons.mpr ⟨lw_p62, List.forall_mem_cons.mpr ⟨lw_p63, fun _ h => absurd h List.not_mem_nil⟩⟩⟩⟩⟩⟩⟩⟩⟩⟩⟩⟩⟩⟩⟩⟩
theorem lw_p64 : lw_okq (⟨"GateTableModel", "comes", "(III)V"⟩, 47) := ⟨⟨by decide +kernel, by decide +kernel⟩, List.mem_of_getElem? (i := 973) (by decide +kernel), List.mem_of_getElem? (i := 1282) (by decide +kernel), List.mem_of_getElem? (i := 1283) (by decide +kernel)⟩
theorem lw_p65 : lw_okq (⟨"GateTableModel", "isOut", "(I)Z"⟩, 47) := ⟨⟨by decide +kernel, by decide +kernel⟩, List.mem_of_getElem? (i := 973) (by decide +kernel), List.mem_of_getElem? (i := 1290) (by decide +kernel), List.mem_of_getElem? (i := 1291) (by decide +kernel)⟩
theorem lw_p66 : lw_okq (⟨"GateTableModel", "turns", "(I)I"⟩, 47) := ⟨⟨by decide +kernel, by decide +kernel⟩, List.mem_of_getElem? (i := 973) (by decide +kernel), List.mem_of_getElem? (i := 1294) (by decide +kernel), List.mem_of_getElem? (i := 1295) (by decide +kernel)⟩
theorem lw_p67 : lw_okq (⟨"GateTableModel", "holder", "(I)I"⟩, 47) := ⟨⟨by decide +kernel, by decide +kernel⟩, List.mem_of_getElem? (i := 973) (by decide +kernel), List.mem_of_getElem? (i := 1298) (by decide +kernel), List.mem_of_getElem? (i := 1299) (by decide +kernel)⟩
theorem lw_p68 : lw_okq (⟨"GateTableModel", "insides", "(III)I"⟩, 47) := ⟨⟨by decide +kernel, by decide +kernel⟩, List.mem_of_getElem? (i := 973) (by decide +kernel), List.mem_of_getElem? (i := 1302) (by decide +kernel), List.mem_of_getElem? (i := 1303) (by decide +kernel)⟩
theorem lw_p69 : lw_okq (⟨"GateTableModel", "waits", "(I)I"⟩, 47) := ⟨⟨by decide +kernel, by decide +kernel⟩, List.mem_of_getElem? (i := 973) (by decide +kernel), List.mem_of_getElem? (i := 1306) (by decide +kernel), List.mem_of_getElem? (i := 1307) (by decide +kernel)⟩
theorem lw_p70 : lw_okq (⟨"GateTableModel", "ring", "(I)I"⟩, 47) := ⟨⟨by decide +kernel, by decide +kernel⟩, List.mem_of_getElem? (i := 973) (by decide +kernel), List.mem_of_getElem? (i := 1310) (by decide +kernel), List.mem_of_getElem? (i := 1311) (by decide +kernel)⟩
theorem lw_p71 : lw_okq (⟨"GateTableModel", "nextOf", "(I)I"⟩, 47) := ⟨⟨by decide +kernel, by decide +kernel⟩, List.mem_of_getElem? (i := 973) (by decide +kernel), List.mem_of_getElem? (i := 1314) (by decide +kernel), List.mem_of_getElem? (i := 1315) (by decide +kernel)⟩
theorem lw_p72 : lw_okq (⟨"GateTableModel", "waitsFor", "(I)I"⟩, 47) := ⟨⟨by decide +kernel, by decide +kernel⟩, List.mem_of_getElem? (i := 973) (by decide +kernel), List.mem_of_getElem? (i := 1318) (by decide +kernel), List.mem_of_getElem? (i := 1319) (by decide +kernel)⟩
theorem lw_p73 : lw_okq (⟨"GateTableModel", "victim", "(I)I"⟩, 47) := ⟨⟨by decide +kernel, by decide +kernel⟩, List.mem_of_getElem? (i := 973) (by decide +kernel), List.mem_of_getElem? (i := 1322) (by decide +kernel), List.mem_of_getElem? (i := 1323) (by decide +kernel)⟩
theorem lw_p74 : lw_okq (⟨"GateTableModel", "weight", "(I)I"⟩, 47) := ⟨⟨by decide +kernel, by decide +kernel⟩, List.mem_of_getElem? (i := 973) (by decide +kernel), List.mem_of_getElem? (i := 1326) (by decide +kernel), List.mem_of_getElem? (i := 1327) (by decide +kernel)⟩
theorem lw_p75 : lw_okq (⟨"GateTableModel", "heldBy", "(II)I"⟩, 47) := ⟨⟨by decide +kernel, by decide +kernel⟩, List.mem_of_getElem? (i := 973) (by decide +kernel), List.mem_of_getElem? (i := 1330) (by decide +kernel), List.mem_of_getElem? (i := 1331) (by decide +kernel)⟩
theorem lw_p76 : lw_okq (⟨"GateTableModel", "falls", "(I)V"⟩, 47) := ⟨⟨by decide +kernel, by decide +kernel⟩, List.mem_of_getElem? (i := 973) (by decide +kernel), List.mem_of_getElem? (i := 1337) (by decide +kernel), List.mem_of_getElem? (i := 1338) (by decide +kernel)⟩
theorem lw_p77 : lw_okq (⟨"GateTableModel", "lefts", "()I"⟩, 47) := ⟨⟨by decide +kernel, by decide +kernel⟩, List.mem_of_getElem? (i := 973) (by decide +kernel), List.mem_of_getElem? (i := 1346) (by decide +kernel), List.mem_of_getElem? (i := 1347) (by decide +kernel)⟩
theorem lw_p78 : lw_okq (⟨"GateTableModel", "draws", "()I"⟩, 47) := ⟨⟨by decide +kernel, by decide +kernel⟩, List.mem_of_getElem? (i := 973) (by decide +kernel), List.mem_of_getElem? (i := 1350) (by decide +kernel), List.mem_of_getElem? (i := 1351) (by decide +kernel)⟩
theorem lw_p79 : lw_okq (⟨"GateTableModel", "lays", "()I"⟩, 47) := ⟨⟨by decide +kernel, by decide +kernel⟩, List.mem_of_getElem? (i := 973) (by decide +kernel), List.mem_of_getElem? (i := 1365) (by decide +kernel), List.mem_of_getElem? (i := 1366) (by decide +kernel)⟩
def lw_privs_5 : List (MethodName × Nat) := [(⟨"GateTableModel", "comes", "(III)V"⟩, 47), (⟨"GateTableModel", "isOut", "(I)Z"⟩, 47), (⟨"GateTableModel", "turns", "(I)I"⟩, 47), (⟨"GateTableModel", "holder", "(I)I"⟩, 47), (⟨"GateTableModel", "insides", "(III)I"⟩, 47), (⟨"GateTableModel", "waits", "(I)I"⟩, 47), (⟨"GateTableModel", "ring", "(I)I"⟩, 47), (⟨"GateTableModel", "nextOf", "(I)I"⟩, 47), (⟨"GateTableModel", "waitsFor", "(I)I"⟩, 47), (⟨"GateTableModel", "victim", "(I)I"⟩, 47), (⟨"GateTableModel", "weight", "(I)I"⟩, 47), (⟨"GateTableModel", "heldBy", "(II)I"⟩, 47), (⟨"GateTableModel", "falls", "(I)V"⟩, 47), (⟨"GateTableModel", "lefts", "()I"⟩, 47), (⟨"GateTableModel", "draws", "()I"⟩, 47), (⟨"GateTableModel", "lays", "()I"⟩, 47)]
theorem lw_r5 : ∀ q ∈ lw_privs_5, lw_okq q := List.forall_mem_cons.mpr ⟨lw_p64, List.forall_mem_cons.mpr ⟨lw_p65, List.forall_mem_cons.mpr ⟨lw_p66, List.forall_mem_cons.mpr ⟨lw_p67, List.forall_mem_cons.mpr ⟨lw_p68, List.forall_mem_cons.mpr ⟨lw_p69, List.forall_mem_cons.mpr ⟨lw_p70, List.forall_mem_cons.mpr ⟨lw_p71, List.forall_mem_cons.mpr ⟨lw_p72, List.forall_mem_cons.mpr ⟨lw_p73, List.forall_mem_cons.mpr ⟨lw_p74, List.forall_mem_cons.mpr ⟨lw_p75, List.forall_mem_cons.mpr ⟨lw_p76, List.forall_mem_cons.mpr ⟨lw_p77, List.forall_mem_cons.mpr ⟨lw_p78, List.forall_mem_cons.mpr ⟨lw_p79, fun _ h => absurd h List.not_mem_nil⟩⟩⟩⟩⟩⟩⟩⟩⟩⟩⟩⟩⟩⟩⟩⟩
theorem lw_p80 : lw_okq (⟨"GateTableModel", "rules", "(I)I"⟩, 47) := ⟨⟨by decide +kernel, by decide +kernel⟩, List.mem_of_getElem? (i := 973) (by decide +kernel), List.mem_of_getElem? (i := 1373) (by decide +kernel), List.mem_of_getElem? (i := 1374) (by decide +kernel)⟩
theorem lw_p81 : lw_okq (⟨"GateTableModel", "waiters", "(I)I"⟩, 47) := ⟨⟨by decide +kernel, by decide +kernel⟩, List.mem_of_getElem? (i := 973) (by decide +kernel), List.mem_of_getElem? (i := 1383) (by decide +kernel), List.mem_of_getElem? (i := 1384) (by decide +kernel)⟩
theorem lw_p82 : lw_okq (⟨"GateTableModel", "those", "(I)I"⟩, 47) := ⟨⟨by decide +kernel, by decide +kernel⟩, List.mem_of_getElem? (i := 973) (by decide +kernel), List.mem_of_getElem? (i := 1395) (by decide +kernel), List.mem_of_getElem? (i := 1396) (by decide +kernel)⟩
theorem lw_p83 : lw_okq (⟨"GateTableModel", "ringed", "()I"⟩, 47) := ⟨⟨by decide +kernel, by decide +kernel⟩, List.mem_of_getElem? (i := 973) (by decide +kernel), List.mem_of_getElem? (i := 1399) (by decide +kernel), List.mem_of_getElem? (i := 1400) (by decide +kernel)⟩
theorem lw_p84 : lw_okq (⟨"GateTableModel", "isAhead", "(II)Z"⟩, 47) := ⟨⟨by decide +kernel, by decide +kernel⟩, List.mem_of_getElem? (i := 973) (by decide +kernel), List.mem_of_getElem? (i := 1407) (by decide +kernel), List.mem_of_getElem? (i := 1408) (by decide +kernel)⟩
theorem lw_p85 : lw_okq (⟨"GateTableModel", "loopOf", "(I)I"⟩, 47) := ⟨⟨by decide +kernel, by decide +kernel⟩, List.mem_of_getElem? (i := 973) (by decide +kernel), List.mem_of_getElem? (i := 1416) (by decide +kernel), List.mem_of_getElem? (i := 1417) (by decide +kernel)⟩
theorem lw_p86 : lw_okq (⟨"GateTableModel", "goesBoth", "(II)V"⟩, 47) := ⟨⟨by decide +kernel, by decide +kernel⟩, List.mem_of_getElem? (i := 973) (by decide +kernel), List.mem_of_getElem? (i := 1428) (by decide +kernel), List.mem_of_getElem? (i := 1429) (by decide +kernel)⟩
theorem lw_p87 : lw_okq (⟨"GateTableModel", "goesOn", "(IIII)V"⟩, 47) := ⟨⟨by decide +kernel, by decide +kernel⟩, List.mem_of_getElem? (i := 973) (by decide +kernel), List.mem_of_getElem? (i := 1433) (by decide +kernel), List.mem_of_getElem? (i := 1434) (by decide +kernel)⟩
theorem lw_p88 : lw_okq (⟨"GateTableModel", "isShut", "(III)Z"⟩, 47) := ⟨⟨by decide +kernel, by decide +kernel⟩, List.mem_of_getElem? (i := 973) (by decide +kernel), List.mem_of_getElem? (i := 1437) (by decide +kernel), List.mem_of_getElem? (i := 1438) (by decide +kernel)⟩
theorem lw_p89 : lw_okq (⟨"GateTableModel", "found", "(IIII)I"⟩, 47) := ⟨⟨by decide +kernel, by decide +kernel⟩, List.mem_of_getElem? (i := 973) (by decide +kernel), List.mem_of_getElem? (i := 1477) (by decide +kernel), List.mem_of_getElem? (i := 1478) (by decide +kernel)⟩
def lw_privs_6 : List (MethodName × Nat) := [(⟨"GateTableModel", "rules", "(I)I"⟩, 47), (⟨"GateTableModel", "waiters", "(I)I"⟩, 47), (⟨"GateTableModel", "those", "(I)I"⟩, 47), (⟨"GateTableModel", "ringed", "()I"⟩, 47), (⟨"GateTableModel", "isAhead", "(II)Z"⟩, 47), (⟨"GateTableModel", "loopOf", "(I)I"⟩, 47), (⟨"GateTableModel", "goesBoth", "(II)V"⟩, 47), (⟨"GateTableModel", "goesOn", "(IIII)V"⟩, 47), (⟨"GateTableModel", "isShut", "(III)Z"⟩, 47), (⟨"GateTableModel", "found", "(IIII)I"⟩, 47)]
theorem lw_r6 : ∀ q ∈ lw_privs_6, lw_okq q := List.forall_mem_cons.mpr ⟨lw_p80, List.forall_mem_cons.mpr ⟨lw_p81, List.forall_mem_cons.mpr ⟨lw_p82, List.forall_mem_cons.mpr ⟨lw_p83, List.forall_mem_cons.mpr ⟨lw_p84, List.forall_mem_cons.mpr ⟨lw_p85, List.forall_mem_cons.mpr ⟨lw_p86, List.forall_mem_cons.mpr ⟨lw_p87, List.forall_mem_cons.mpr ⟨lw_p88, List.forall_mem_cons.mpr ⟨lw_p89, fun _ h => absurd h List.not_mem_nil⟩⟩⟩⟩⟩⟩⟩⟩⟩⟩
def lw_privs : List (MethodName × Nat) := lw_privs_1 ++ (lw_privs_2 ++ (lw_privs_3 ++ (lw_privs_4 ++ (lw_privs_5 ++ (lw_privs_6)))))
def lw_tbl : List Cond := k2_sels lw_privs ++ tables_1
theorem lw_privs_ok : ∀ q ∈ lw_privs, lw_okq q := by
  show ∀ q ∈ lw_privs_1 ++ (lw_privs_2 ++ (lw_privs_3 ++ (lw_privs_4 ++ (lw_privs_5 ++ (lw_privs_6))))), lw_okq q
  exact List.forall_mem_append.mpr ⟨lw_r1, List.forall_mem_append.mpr ⟨lw_r2, List.forall_mem_append.mpr ⟨lw_r3, List.forall_mem_append.mpr ⟨lw_r4, List.forall_mem_append.mpr ⟨lw_r5, lw_r6⟩⟩⟩⟩⟩
-- ===== end of PART A; then your names; then what follows =====
end
section
/-! ===== BEGIN words of one list among another's, by their places ===== -/
theorem goodIn_r {big : List Cond} (ws : List Cond) (ps : List Nat) (hp : ws = ps.filterMap (fun i => big[i]?)) (h : ws.all goodWord = true) : GoodIn big ws := by
  intro w hw
  have h1 := List.all_eq_true.mp h w hw
  rw [hp] at hw
  obtain ⟨i, -, hi⟩ := List.mem_filterMap.mp hw
  have hm : w ∈ big := by first | exact List.mem_of_getElem? hi | exact List.getElem?_mem hi
  exact ⟨hm, good_of_word h1⟩
theorem goodIn_app {big a b : List Cond} (ha : GoodIn big a) (hb : GoodIn big b) : GoodIn big (a ++ b) := fun w h => (List.mem_append.mp h).elim (ha w) (hb w)
theorem goodIn_ca {big a b : List Cond} {c : Cond} (ha : GoodIn big (c :: a)) (hb : GoodIn big b) : GoodIn big (c :: (a ++ b)) := fun w h => (List.mem_cons.mp h).elim (fun e => ha w (List.mem_cons.mpr (Or.inl e))) (fun h => (List.mem_append.mp h).elim (fun h => ha w (List.mem_cons.mpr (Or.inr h))) (hb w))
theorem goodIn_sub {big ws : List Cond} (hm : ∀ w ∈ ws, w ∈ big) (h : ws.all goodWord = true) : GoodIn big ws := fun w hw => ⟨hm w hw, good_of_word (List.all_eq_true.mp h w hw)⟩
/-! ===== END ===== -/

/-! ===== BEGIN printed: names, fields, word lists, decode rows ===== -/
def RX0 : String := "GateTable$History"
def TX0 : u_T := fun k => match k with
  | 0 => ("GateTable$History", "kept", "[LGateTable$Table;", true)
  | _ => ("GateTable$History", "size", "I", false)
def tyX0 : Nat → FieldType := fun k => match k with
  | 0 => .array (.object "GateTable$Table")
  | _ => .int
abbrev wsX00 : List Cond := u_ws RX0 TX0 2
theorem nmX0 : ∀ a, a < 2 → ∀ b, b < 2 → a ≠ b → (TX0 a).2.1 ≠ (TX0 b).2.1 := by decide +kernel
theorem tyX0_ok : ∀ k, k < 2 → parseFieldDescriptor (TX0 k).2.2.1 = some (tyX0 k) := by decide +kernel
abbrev cX0_init : ByteArray := prog_2_method_1_code
def yX0_init : MethodName := ⟨RX0, "<init>", "(LGateTable$Script;LGateTable$Trace;)V"⟩
abbrev cX0_length : ByteArray := prog_2_method_2_code
def yX0_length : MethodName := ⟨RX0, "length", "()I"⟩
abbrev cX0_keep : ByteArray := prog_2_method_3_code
def yX0_keep : MethodName := ⟨RX0, "keep", "(LGateTable$Table;)V"⟩
abbrev cX0_giveBack : ByteArray := prog_2_method_4_code
def yX0_giveBack : MethodName := ⟨RX0, "giveBack", "(LGateTable$Table;)V"⟩
abbrev cX0_become : ByteArray := prog_2_method_5_code
def yX0_become : MethodName := ⟨RX0, "become", "(LGateTable$History;)V"⟩
abbrev cX0_loseOldest : ByteArray := prog_2_method_6_code
def yX0_loseOldest : MethodName := ⟨RX0, "loseOldest", "()V"⟩
def RX1 : String := "GateTable$Order"
def TX1 : u_T := fun k => match k with
  | _ => ("GateTable$Order", "behind", "[I", true)
def tyX1 : Nat → FieldType := fun k => match k with
  | _ => .array .int
abbrev wsX10 : List Cond := u_ws RX1 TX1 1
theorem nmX1 : ∀ a, a < 1 → ∀ b, b < 1 → a ≠ b → (TX1 a).2.1 ≠ (TX1 b).2.1 := by decide +kernel
theorem tyX1_ok : ∀ k, k < 1 → parseFieldDescriptor (TX1 k).2.2.1 = some (tyX1 k) := by decide +kernel
abbrev cX1_init : ByteArray := prog_3_method_1_code
def yX1_init : MethodName := ⟨RX1, "<init>", "()V"⟩
abbrev cX1_read : ByteArray := prog_3_method_2_code
def yX1_read : MethodName := ⟨RX1, "read", "(LGateTable$Table;)V"⟩
abbrev cX1_isAhead : ByteArray := prog_3_method_3_code
def yX1_isAhead : MethodName := ⟨RX1, "isAhead", "(II)Z"⟩
abbrev cX1_tellLoops : ByteArray := prog_3_method_4_code
def yX1_tellLoops : MethodName := ⟨RX1, "tellLoops", "(I)I"⟩
abbrev cX1_readTrace : ByteArray := prog_3_method_5_code
def yX1_readTrace : MethodName := ⟨RX1, "readTrace", "(LGateTable$Trace;)V"⟩
abbrev cX1_loopThrough : ByteArray := prog_3_method_6_code
def yX1_loopThrough : MethodName := ⟨RX1, "loopThrough", "(I)I"⟩
abbrev cX1_behindAll : ByteArray := prog_3_method_7_code
def yX1_behindAll : MethodName := ⟨RX1, "behindAll", "(I)I"⟩
def RX2 : String := "GateTable$Pair"
def TX2 : u_T := fun k => match k with
  | 0 => ("GateTable$Pair", "ways", "[J", true)
  | 1 => ("GateTable$Pair", "weights", "[J", true)
  | 2 => ("GateTable$Pair", "doneWays", "J", false)
  | 3 => ("GateTable$Pair", "stuckWays", "J", false)
  | 4 => ("GateTable$Pair", "stuckWeight", "J", false)
  | 5 => ("GateTable$Pair", "nearest", "I", false)
  | 6 => ("GateTable$Pair", "one", "LGateTable$Trace;", false)
  | _ => ("GateTable$Pair", "two", "LGateTable$Trace;", false)
def tyX2 : Nat → FieldType := fun k => match k with
  | 0 => .array .long
  | 1 => .array .long
  | 2 => .long
  | 3 => .long
  | 4 => .long
  | 5 => .int
  | 6 => .object "GateTable$Trace"
  | _ => .object "GateTable$Trace"
abbrev wsX20 : List Cond := u_ws RX2 TX2 8
theorem nmX2 : ∀ a, a < 8 → ∀ b, b < 8 → a ≠ b → (TX2 a).2.1 ≠ (TX2 b).2.1 := by decide +kernel
theorem tyX2_ok : ∀ k, k < 8 → parseFieldDescriptor (TX2 k).2.2.1 = some (tyX2 k) := by decide +kernel
abbrev cX2_init : ByteArray := prog_4_method_1_code
def yX2_init : MethodName := ⟨RX2, "<init>", "(LGateTable$Trace;)V"⟩
abbrev cX2_waysDone : ByteArray := prog_4_method_2_code
def yX2_waysDone : MethodName := ⟨RX2, "waysDone", "()J"⟩
abbrev cX2_waysStuck : ByteArray := prog_4_method_3_code
def yX2_waysStuck : MethodName := ⟨RX2, "waysStuck", "()J"⟩
abbrev cX2_nearestStuck : ByteArray := prog_4_method_4_code
def yX2_nearestStuck : MethodName := ⟨RX2, "nearestStuck", "()I"⟩
abbrev cX2_oddsAbove : ByteArray := prog_4_method_5_code
def yX2_oddsAbove : MethodName := ⟨RX2, "oddsAbove", "()J"⟩
abbrev cX2_oddsBelow : ByteArray := prog_4_method_6_code
def yX2_oddsBelow : MethodName := ⟨RX2, "oddsBelow", "()J"⟩
abbrev cX2_goAllWays : ByteArray := prog_4_method_7_code
def yX2_goAllWays : MethodName := ⟨RX2, "goAllWays", "(LGateTable$Trace;LGateTable$Trace;)V"⟩
abbrev cX2_goOn : ByteArray := prog_4_method_8_code
def yX2_goOn : MethodName := ⟨RX2, "goOn", "(II)V"⟩
abbrev cX2_endWays : ByteArray := prog_4_method_9_code
def yX2_endWays : MethodName := ⟨RX2, "endWays", "(IIJJ)V"⟩
abbrev cX2_commonHalvings : ByteArray := prog_4_method_10_code
def yX2_commonHalvings : MethodName := ⟨RX2, "commonHalvings", "()I"⟩
def RX3 : String := "GateTable$Player"
def TX3 : u_T := fun k => match k with
  | 0 => ("GateTable$Player", "script", "LGateTable$Script;", false)
  | 1 => ("GateTable$Player", "gone", "I", false)
  | 2 => ("GateTable$Player", "kinds", "[I", true)
  | 3 => ("GateTable$Player", "gates", "[I", true)
  | 4 => ("GateTable$Player", "adds", "[I", true)
  | 5 => ("GateTable$Player", "inside", "[I", true)
  | 6 => ("GateTable$Player", "size", "I", false)
  | 7 => ("GateTable$Player", "tooLong", "Z", false)
  | 8 => ("GateTable$Player", "stays", "[I", true)
  | 9 => ("GateTable$Player", "insideNow", "I", false)
  | 10 => ("GateTable$Player", "staysNow", "I", false)
  | 11 => ("GateTable$Player", "mostStays", "I", false)
  | 12 => ("GateTable$Player", "unsealed", "[I", true)
  | 13 => ("GateTable$Player", "unsealedSize", "I", false)
  | 14 => ("GateTable$Player", "why", "I", false)
  | 15 => ("GateTable$Player", "brokenBy", "I", false)
  | 16 => ("GateTable$Player", "mended", "I", false)
  | _ => ("GateTable$Player", "again", "I", false)
def tyX3 : Nat → FieldType := fun k => match k with
  | 0 => .object "GateTable$Script"
  | 1 => .int
  | 2 => .array .int
  | 3 => .array .int
  | 4 => .array .int
  | 5 => .array .int
  | 6 => .int
  | 7 => .boolean
  | 8 => .array .int
  | 9 => .int
  | 10 => .int
  | 11 => .int
  | 12 => .array .int
  | 13 => .int
  | 14 => .int
  | 15 => .int
  | 16 => .int
  | _ => .int
abbrev wsX30 : List Cond := u_ws RX3 TX3 18
theorem nmX3 : ∀ a, a < 18 → ∀ b, b < 18 → a ≠ b → (TX3 a).2.1 ≠ (TX3 b).2.1 := by decide +kernel
theorem tyX3_ok : ∀ k, k < 18 → parseFieldDescriptor (TX3 k).2.2.1 = some (tyX3 k) := by decide +kernel
abbrev cX3_init : ByteArray := prog_5_method_1_code
def yX3_init : MethodName := ⟨RX3, "<init>", "()V"⟩
abbrev cX3_plays : ByteArray := prog_5_method_2_code
def yX3_plays : MethodName := ⟨RX3, "plays", "(LGateTable$Script;I)Z"⟩
abbrev cX3_doBody : ByteArray := prog_5_method_3_code
def yX3_doBody : MethodName := ⟨RX3, "doBody", "(II)I"⟩
abbrev cX3_doOne : ByteArray := prog_5_method_4_code
def yX3_doOne : MethodName := ⟨RX3, "doOne", "(II)I"⟩
abbrev cX3_doStay : ByteArray := prog_5_method_5_code
def yX3_doStay : MethodName := ⟨RX3, "doStay", "(III)I"⟩
abbrev cX3_doAdd : ByteArray := prog_5_method_6_code
def yX3_doAdd : MethodName := ⟨RX3, "doAdd", "(II)I"⟩
abbrev cX3_doTry : ByteArray := prog_5_method_7_code
def yX3_doTry : MethodName := ⟨RX3, "doTry", "(II)I"⟩
abbrev cX3_doOften : ByteArray := prog_5_method_8_code
def yX3_doOften : MethodName := ⟨RX3, "doOften", "(III)I"⟩
abbrev cX3_breakBy : ByteArray := prog_5_method_9_code
def yX3_breakBy : MethodName := ⟨RX3, "breakBy", "(II)I"⟩
abbrev cX3_enter : ByteArray := prog_5_method_10_code
def yX3_enter : MethodName := ⟨RX3, "enter", "(I)V"⟩
abbrev cX3_leave : ByteArray := prog_5_method_11_code
def yX3_leave : MethodName := ⟨RX3, "leave", "(I)V"⟩
abbrev cX3_takeBack : ByteArray := prog_5_method_12_code
def yX3_takeBack : MethodName := ⟨RX3, "takeBack", "(I)V"⟩
abbrev cX3_put : ByteArray := prog_5_method_13_code
def yX3_put : MethodName := ⟨RX3, "put", "(III)V"⟩
def RX4 : String := "GateTable$Script"
def TX4 : u_T := fun k => match k with
  | _ => ("GateTable$Script", "letters", "[C", true)
def tyX4 : Nat → FieldType := fun k => match k with
  | _ => .array .char
abbrev wsX40 : List Cond := u_ws RX4 TX4 1
theorem nmX4 : ∀ a, a < 1 → ∀ b, b < 1 → a ≠ b → (TX4 a).2.1 ≠ (TX4 b).2.1 := by decide +kernel
theorem tyX4_ok : ∀ k, k < 1 → parseFieldDescriptor (TX4 k).2.2.1 = some (tyX4 k) := by decide +kernel
abbrev cX4_init : ByteArray := prog_6_method_1_code
def yX4_init : MethodName := ⟨RX4, "<init>", "([C)V"⟩
abbrev cX4_letter : ByteArray := prog_6_method_2_code
def yX4_letter : MethodName := ⟨RX4, "letter", "(I)C"⟩
abbrev cX4_closesAt : ByteArray := prog_6_method_3_code
def yX4_closesAt : MethodName := ⟨RX4, "closesAt", "(I)Z"⟩
abbrev cX4_closerOf : ByteArray := prog_6_method_4_code
def yX4_closerOf : MethodName := ⟨RX4, "closerOf", "(I)I"⟩
def RX5 : String := "GateTable$Sheet"
def TX5 : u_T := fun k => match k with
  | 0 => ("GateTable$Sheet", "size", "I", false)
  | 1 => ("GateTable$Sheet", "lane", "I", false)
  | _ => ("GateTable$Sheet", "items", "[J", true)
def tyX5 : Nat → FieldType := fun k => match k with
  | 0 => .int
  | 1 => .int
  | _ => .array .long
abbrev wsX50 : List Cond := u_ws RX5 TX5 3
theorem nmX5 : ∀ a, a < 3 → ∀ b, b < 3 → a ≠ b → (TX5 a).2.1 ≠ (TX5 b).2.1 := by decide +kernel
theorem tyX5_ok : ∀ k, k < 3 → parseFieldDescriptor (TX5 k).2.2.1 = some (tyX5 k) := by decide +kernel
abbrev cX5_init : ByteArray := prog_7_method_1_code
def yX5_init : MethodName := ⟨RX5, "<init>", "()V"⟩
abbrev cX5_isMissing : ByteArray := prog_7_method_2_code
def yX5_isMissing : MethodName := ⟨RX5, "isMissing", "()Z"⟩
abbrev cX5_isLike : ByteArray := prog_7_method_3_code
def yX5_isLike : MethodName := ⟨RX5, "isLike", "(LGateTable$Sheet;)Z"⟩
abbrev cX5_hasRoom : ByteArray := prog_7_method_4_code
def yX5_hasRoom : MethodName := ⟨RX5, "hasRoom", "(II)Z"⟩
abbrev cX5_find : ByteArray := prog_7_method_5_code
def yX5_find : MethodName := ⟨RX5, "find", "(III)I"⟩
abbrev cX5_begin : ByteArray := prog_7_method_6_code
def yX5_begin : MethodName := ⟨RX5, "begin", "(II)V"⟩
abbrev cX5_end : ByteArray := prog_7_method_7_code
def yX5_end : MethodName := ⟨RX5, "end", "()I"⟩
abbrev cX5_put : ByteArray := prog_7_method_8_code
def yX5_put : MethodName := ⟨RX5, "put", "(IJ)V"⟩
abbrev cX5_give : ByteArray := prog_7_method_9_code
def yX5_give : MethodName := ⟨RX5, "give", "(ILGateTable$Sheet;II)V"⟩
abbrev cX5_taskAt : ByteArray := prog_7_method_10_code
def yX5_taskAt : MethodName := ⟨RX5, "taskAt", "(I)I"⟩
abbrev cX5_tellsTasks : ByteArray := prog_7_method_11_code
def yX5_tellsTasks : MethodName := ⟨RX5, "tellsTasks", "(II)Z"⟩
def RX6 : String := "GateTable$Table"
def TX6 : u_T := fun k => match k with
  | 0 => ("GateTable$Table", "scripts", "[LGateTable$Script;", true)
  | 1 => ("GateTable$Table", "traces", "[LGateTable$Trace;", true)
  | 2 => ("GateTable$Table", "gone", "I", false)
  | 3 => ("GateTable$Table", "rule", "I", false)
  | 4 => ("GateTable$Table", "draw", "I", false)
  | 5 => ("GateTable$Table", "begun", "I", false)
  | 6 => ("GateTable$Table", "cells", "[I", true)
  | 7 => ("GateTable$Table", "holders", "[I", true)
  | 8 => ("GateTable$Table", "holds", "[I", true)
  | 9 => ("GateTable$Table", "states", "[I", true)
  | 10 => ("GateTable$Table", "done", "[I", true)
  | 11 => ("GateTable$Table", "awaited", "[I", true)
  | 12 => ("GateTable$Table", "ages", "[I", true)
  | _ => ("GateTable$Table", "fallen", "[I", true)
def tyX6 : Nat → FieldType := fun k => match k with
  | 0 => .array (.object "GateTable$Script")
  | 1 => .array (.object "GateTable$Trace")
  | 2 => .int
  | 3 => .int
  | 4 => .int
  | 5 => .int
  | 6 => .array .int
  | 7 => .array .int
  | 8 => .array .int
  | 9 => .array .int
  | 10 => .array .int
  | 11 => .array .int
  | 12 => .array .int
  | _ => .array .int
abbrev wsX60 : List Cond := u_ws RX6 TX6 14
theorem nmX6 : ∀ a, a < 14 → ∀ b, b < 14 → a ≠ b → (TX6 a).2.1 ≠ (TX6 b).2.1 := by decide +kernel
theorem tyX6_ok : ∀ k, k < 14 → parseFieldDescriptor (TX6 k).2.2.1 = some (tyX6 k) := by decide +kernel
abbrev cX6_init : ByteArray := prog_8_method_1_code
def yX6_init : MethodName := ⟨RX6, "<init>", "(LGateTable$Script;LGateTable$Trace;)V"⟩
abbrev cX6_become : ByteArray := prog_8_method_2_code
def yX6_become : MethodName := ⟨RX6, "become", "(LGateTable$Table;)V"⟩
abbrev cX6_script : ByteArray := prog_8_method_3_code
def yX6_script : MethodName := ⟨RX6, "script", "(I)LGateTable$Script;"⟩
abbrev cX6_trace : ByteArray := prog_8_method_4_code
def yX6_trace : MethodName := ⟨RX6, "trace", "(I)LGateTable$Trace;"⟩
abbrev cX6_goneGates : ByteArray := prog_8_method_5_code
def yX6_goneGates : MethodName := ⟨RX6, "goneGates", "()I"⟩
abbrev cX6_ruleNow : ByteArray := prog_8_method_6_code
def yX6_ruleNow : MethodName := ⟨RX6, "ruleNow", "()I"⟩
abbrev cX6_stepsDone : ByteArray := prog_8_method_7_code
def yX6_stepsDone : MethodName := ⟨RX6, "stepsDone", "(I)I"⟩
abbrev cX6_isOver : ByteArray := prog_8_method_8_code
def yX6_isOver : MethodName := ⟨RX6, "isOver", "(I)Z"⟩
abbrev cX6_isWaiting : ByteArray := prog_8_method_9_code
def yX6_isWaiting : MethodName := ⟨RX6, "isWaiting", "(I)Z"⟩
abbrev cX6_isBusy : ByteArray := prog_8_method_10_code
def yX6_isBusy : MethodName := ⟨RX6, "isBusy", "()Z"⟩
abbrev cX6_isUntouched : ByteArray := prog_8_method_11_code
def yX6_isUntouched : MethodName := ⟨RX6, "isUntouched", "()Z"⟩
abbrev cX6_tasksThatAre : ByteArray := prog_8_method_12_code
def yX6_tasksThatAre : MethodName := ⟨RX6, "tasksThatAre", "(I)I"⟩
abbrev cX6_tasksLeft : ByteArray := prog_8_method_13_code
def yX6_tasksLeft : MethodName := ⟨RX6, "tasksLeft", "()I"⟩
abbrev cX6_tellGate : ByteArray := prog_8_method_14_code
def yX6_tellGate : MethodName := ⟨RX6, "tellGate", "(II)I"⟩
abbrev cX6_tellTask : ByteArray := prog_8_method_15_code
def yX6_tellTask : MethodName := ⟨RX6, "tellTask", "(II)I"⟩
abbrev cX6_tellAll : ByteArray := prog_8_method_16_code
def yX6_tellAll : MethodName := ⟨RX6, "tellAll", "(I)I"⟩
abbrev cX6_tasksThatAwait : ByteArray := prog_8_method_17_code
def yX6_tasksThatAwait : MethodName := ⟨RX6, "tasksThatAwait", "(I)I"⟩
abbrev cX6_gatesOf : ByteArray := prog_8_method_18_code
def yX6_gatesOf : MethodName := ⟨RX6, "gatesOf", "(I)I"⟩
abbrev cX6_tasksInRings : ByteArray := prog_8_method_19_code
def yX6_tasksInRings : MethodName := ⟨RX6, "tasksInRings", "()I"⟩
abbrev cX6_ringOf : ByteArray := prog_8_method_20_code
def yX6_ringOf : MethodName := ⟨RX6, "ringOf", "(I)I"⟩
abbrev cX6_blockerOf : ByteArray := prog_8_method_21_code
def yX6_blockerOf : MethodName := ⟨RX6, "blockerOf", "(I)I"⟩
abbrev cX6_changeProgram : ByteArray := prog_8_method_22_code
def yX6_changeProgram : MethodName := ⟨RX6, "changeProgram", "(ILGateTable$Script;LGateTable$Trace;)V"⟩
abbrev cX6_changeGates : ByteArray := prog_8_method_23_code
def yX6_changeGates : MethodName := ⟨RX6, "changeGates", "(I[LGateTable$Trace;)V"⟩
abbrev cX6_changeRule : ByteArray := prog_8_method_24_code
def yX6_changeRule : MethodName := ⟨RX6, "changeRule", "(I)V"⟩
abbrev cX6_changeDraw : ByteArray := prog_8_method_25_code
def yX6_changeDraw : MethodName := ⟨RX6, "changeDraw", "(I)I"⟩
abbrev cX6_addWholeTrace : ByteArray := prog_8_method_26_code
def yX6_addWholeTrace : MethodName := ⟨RX6, "addWholeTrace", "(I)V"⟩
abbrev cX6_layAnew : ByteArray := prog_8_method_27_code
def yX6_layAnew : MethodName := ⟨RX6, "layAnew", "()I"⟩
abbrev cX6_takeDrawnTurn : ByteArray := prog_8_method_28_code
def yX6_takeDrawnTurn : MethodName := ⟨RX6, "takeDrawnTurn", "()V"⟩
abbrev cX6_driftOnce : ByteArray := prog_8_method_29_code
def yX6_driftOnce : MethodName := ⟨RX6, "driftOnce", "()V"⟩
abbrev cX6_takeTurn : ByteArray := prog_8_method_30_code
def yX6_takeTurn : MethodName := ⟨RX6, "takeTurn", "(I)I"⟩
abbrev cX6_drawOnce : ByteArray := prog_8_method_31_code
def yX6_drawOnce : MethodName := ⟨RX6, "drawOnce", "()I"⟩
abbrev cX6_awaitGate : ByteArray := prog_8_method_32_code
def yX6_awaitGate : MethodName := ⟨RX6, "awaitGate", "(II)I"⟩
abbrev cX6_doNextStep : ByteArray := prog_8_method_33_code
def yX6_doNextStep : MethodName := ⟨RX6, "doNextStep", "(I)V"⟩
abbrev cX6_chooseVictim : ByteArray := prog_8_method_34_code
def yX6_chooseVictim : MethodName := ⟨RX6, "chooseVictim", "(I)I"⟩
abbrev cX6_claim : ByteArray := prog_8_method_35_code
def yX6_claim : MethodName := ⟨RX6, "claim", "(I)I"⟩
abbrev cX6_withdraw : ByteArray := prog_8_method_36_code
def yX6_withdraw : MethodName := ⟨RX6, "withdraw", "(I)V"⟩
abbrev cX6_rest : ByteArray := prog_8_method_37_code
def yX6_rest : MethodName := ⟨RX6, "rest", "(I)V"⟩
def RX7 : String := "GateTable$Tape"
def TX7 : u_T := fun k => match k with
  | 0 => ("GateTable$Tape", "letters", "[C", true)
  | 1 => ("GateTable$Tape", "size", "I", false)
  | 2 => ("GateTable$Tape", "closers", "[C", true)
  | 3 => ("GateTable$Tape", "open", "I", false)
  | _ => ("GateTable$Tape", "place", "I", false)
def tyX7 : Nat → FieldType := fun k => match k with
  | 0 => .array .char
  | 1 => .int
  | 2 => .array .char
  | 3 => .int
  | _ => .int
abbrev wsX70 : List Cond := u_ws RX7 TX7 5
theorem nmX7 : ∀ a, a < 5 → ∀ b, b < 5 → a ≠ b → (TX7 a).2.1 ≠ (TX7 b).2.1 := by decide +kernel
theorem tyX7_ok : ∀ k, k < 5 → parseFieldDescriptor (TX7 k).2.2.1 = some (tyX7 k) := by decide +kernel
abbrev cX7_init : ByteArray := prog_9_method_1_code
def yX7_init : MethodName := ⟨RX7, "<init>", "()V"⟩
abbrev cX7_length : ByteArray := prog_9_method_2_code
def yX7_length : MethodName := ⟨RX7, "length", "()I"⟩
abbrev cX7_append : ByteArray := prog_9_method_3_code
def yX7_append : MethodName := ⟨RX7, "append", "(C)Z"⟩
abbrev cX7_clear : ByteArray := prog_9_method_4_code
def yX7_clear : MethodName := ⟨RX7, "clear", "()V"⟩
abbrev cX7_findFault : ByteArray := prog_9_method_5_code
def yX7_findFault : MethodName := ⟨RX7, "findFault", "()I"⟩
abbrev cX7_toScript : ByteArray := prog_9_method_6_code
def yX7_toScript : MethodName := ⟨RX7, "toScript", "()LGateTable$Script;"⟩
abbrev cX7_accepts : ByteArray := prog_9_method_7_code
def yX7_accepts : MethodName := ⟨RX7, "accepts", "(C)Z"⟩
abbrev cX7_acceptsAtItem : ByteArray := prog_9_method_8_code
def yX7_acceptsAtItem : MethodName := ⟨RX7, "acceptsAtItem", "(C)Z"⟩
abbrev cX7_opens : ByteArray := prog_9_method_9_code
def yX7_opens : MethodName := ⟨RX7, "opens", "(C)Z"⟩
abbrev cX7_closes : ByteArray := prog_9_method_10_code
def yX7_closes : MethodName := ⟨RX7, "closes", "(C)Z"⟩
def RX8 : String := "GateTable$Trace"
def TX8 : u_T := fun k => match k with
  | 0 => ("GateTable$Trace", "size", "I", true)
  | 1 => ("GateTable$Trace", "kinds", "[I", true)
  | 2 => ("GateTable$Trace", "gates", "[I", true)
  | 3 => ("GateTable$Trace", "adds", "[I", true)
  | 4 => ("GateTable$Trace", "inside", "[I", true)
  | 5 => ("GateTable$Trace", "why", "I", true)
  | 6 => ("GateTable$Trace", "brokenBy", "I", true)
  | 7 => ("GateTable$Trace", "mended", "I", true)
  | 8 => ("GateTable$Trace", "again", "I", true)
  | _ => ("GateTable$Trace", "mostStays", "I", true)
def tyX8 : Nat → FieldType := fun k => match k with
  | 0 => .int
  | 1 => .array .int
  | 2 => .array .int
  | 3 => .array .int
  | 4 => .array .int
  | 5 => .int
  | 6 => .int
  | 7 => .int
  | 8 => .int
  | _ => .int
abbrev wsX80 : List Cond := u_ws RX8 TX8 10
theorem nmX8 : ∀ a, a < 10 → ∀ b, b < 10 → a ≠ b → (TX8 a).2.1 ≠ (TX8 b).2.1 := by decide +kernel
theorem tyX8_ok : ∀ k, k < 10 → parseFieldDescriptor (TX8 k).2.2.1 = some (tyX8 k) := by decide +kernel
abbrev cX8_init : ByteArray := prog_10_method_1_code
def yX8_init : MethodName := ⟨RX8, "<init>", "(LGateTable$Player;)V"⟩
abbrev cX8_length : ByteArray := prog_10_method_2_code
def yX8_length : MethodName := ⟨RX8, "length", "()I"⟩
abbrev cX8_breaks : ByteArray := prog_10_method_3_code
def yX8_breaks : MethodName := ⟨RX8, "breaks", "()Z"⟩
abbrev cX8_hasStep : ByteArray := prog_10_method_4_code
def yX8_hasStep : MethodName := ⟨RX8, "hasStep", "(I)Z"⟩
abbrev cX8_kindAt : ByteArray := prog_10_method_5_code
def yX8_kindAt : MethodName := ⟨RX8, "kindAt", "(I)I"⟩
abbrev cX8_gateAt : ByteArray := prog_10_method_6_code
def yX8_gateAt : MethodName := ⟨RX8, "gateAt", "(I)I"⟩
abbrev cX8_addAt : ByteArray := prog_10_method_7_code
def yX8_addAt : MethodName := ⟨RX8, "addAt", "(I)I"⟩
abbrev cX8_addTo : ByteArray := prog_10_method_8_code
def yX8_addTo : MethodName := ⟨RX8, "addTo", "([III)V"⟩
abbrev cX8_insideAt : ByteArray := prog_10_method_9_code
def yX8_insideAt : MethodName := ⟨RX8, "insideAt", "(I)I"⟩
abbrev cX8_entersAt : ByteArray := prog_10_method_10_code
def yX8_entersAt : MethodName := ⟨RX8, "entersAt", "(I)I"⟩
abbrev cX8_canGo : ByteArray := prog_10_method_11_code
def yX8_canGo : MethodName := ⟨RX8, "canGo", "(II)Z"⟩
abbrev cX8_summary : ByteArray := prog_10_method_12_code
def yX8_summary : MethodName := ⟨RX8, "summary", "(I)I"⟩
abbrev cX8_detail : ByteArray := prog_10_method_13_code
def yX8_detail : MethodName := ⟨RX8, "detail", "(II)I"⟩
def RX9 : String := "GateTable"
def TX9 : u_T := fun k => match k with
  | 0 => ("GateTable", "tape", "LGateTable$Tape;", true)
  | 1 => ("GateTable", "player", "LGateTable$Player;", true)
  | 2 => ("GateTable", "fresh", "[LGateTable$Trace;", true)
  | 3 => ("GateTable", "table", "LGateTable$Table;", true)
  | 4 => ("GateTable", "trial", "LGateTable$Table;", true)
  | 5 => ("GateTable", "history", "LGateTable$History;", true)
  | 6 => ("GateTable", "imageTable", "LGateTable$Table;", true)
  | 7 => ("GateTable", "imageHistory", "LGateTable$History;", true)
  | 8 => ("GateTable", "imaged", "Z", false)
  | 9 => ("GateTable", "order", "LGateTable$Order;", true)
  | 10 => ("GateTable", "pair", "LGateTable$Pair;", true)
  | _ => ("GateTable", "sheets", "[LGateTable$Sheet;", true)
def tyX9 : Nat → FieldType := fun k => match k with
  | 0 => .object "GateTable$Tape"
  | 1 => .object "GateTable$Player"
  | 2 => .array (.object "GateTable$Trace")
  | 3 => .object "GateTable$Table"
  | 4 => .object "GateTable$Table"
  | 5 => .object "GateTable$History"
  | 6 => .object "GateTable$Table"
  | 7 => .object "GateTable$History"
  | 8 => .boolean
  | 9 => .object "GateTable$Order"
  | 10 => .object "GateTable$Pair"
  | _ => .array (.object "GateTable$Sheet")
abbrev wsX90 : List Cond := u_ws RX9 TX9 12
theorem nmX9 : ∀ a, a < 12 → ∀ b, b < 12 → a ≠ b → (TX9 a).2.1 ≠ (TX9 b).2.1 := by decide +kernel
theorem tyX9_ok : ∀ k, k < 12 → parseFieldDescriptor (TX9 k).2.2.1 = some (tyX9 k) := by decide +kernel
abbrev cX9_init : ByteArray := prog_1_method_1_code
def yX9_init : MethodName := ⟨RX9, "<init>", "()V"⟩
abbrev cX9_type : ByteArray := prog_1_method_2_code
def yX9_type : MethodName := ⟨RX9, "type", "(I)I"⟩
abbrev cX9_program : ByteArray := prog_1_method_3_code
def yX9_program : MethodName := ⟨RX9, "program", "(I)I"⟩
abbrev cX9_gone : ByteArray := prog_1_method_4_code
def yX9_gone : MethodName := ⟨RX9, "gone", "(I)I"⟩
abbrev cX9_run : ByteArray := prog_1_method_5_code
def yX9_run : MethodName := ⟨RX9, "run", "(I)I"⟩
abbrev cX9_alone : ByteArray := prog_1_method_6_code
def yX9_alone : MethodName := ⟨RX9, "alone", "(II)I"⟩
abbrev cX9_step : ByteArray := prog_1_method_7_code
def yX9_step : MethodName := ⟨RX9, "step", "(III)I"⟩
abbrev cX9_rule : ByteArray := prog_1_method_8_code
def yX9_rule : MethodName := ⟨RX9, "rule", "(I)I"⟩
abbrev cX9_turn : ByteArray := prog_1_method_9_code
def yX9_turn : MethodName := ⟨RX9, "turn", "(I)I"⟩
abbrev cX9_go : ByteArray := prog_1_method_10_code
def yX9_go : MethodName := ⟨RX9, "go", "(I)I"⟩
abbrev cX9_lay : ByteArray := prog_1_method_11_code
def yX9_lay : MethodName := ⟨RX9, "lay", "()I"⟩
abbrev cX9_gate : ByteArray := prog_1_method_12_code
def yX9_gate : MethodName := ⟨RX9, "gate", "(II)I"⟩
abbrev cX9_task : ByteArray := prog_1_method_13_code
def yX9_task : MethodName := ⟨RX9, "task", "(II)I"⟩
abbrev cX9_count : ByteArray := prog_1_method_14_code
def yX9_count : MethodName := ⟨RX9, "count", "(I)I"⟩
abbrev cX9_ahead : ByteArray := prog_1_method_15_code
def yX9_ahead : MethodName := ⟨RX9, "ahead", "(II)I"⟩
abbrev cX9_loops : ByteArray := prog_1_method_16_code
def yX9_loops : MethodName := ⟨RX9, "loops", "(I)I"⟩
abbrev cX9_ways : ByteArray := prog_1_method_17_code
def yX9_ways : MethodName := ⟨RX9, "ways", "(III)J"⟩
abbrev cX9_odds : ByteArray := prog_1_method_18_code
def yX9_odds : MethodName := ⟨RX9, "odds", "(III)J"⟩
abbrev cX9_near : ByteArray := prog_1_method_19_code
def yX9_near : MethodName := ⟨RX9, "near", "(II)I"⟩
abbrev cX9_drift : ByteArray := prog_1_method_20_code
def yX9_drift : MethodName := ⟨RX9, "drift", "(I)I"⟩
abbrev cX9_undo : ByteArray := prog_1_method_21_code
def yX9_undo : MethodName := ⟨RX9, "undo", "()I"⟩
abbrev cX9_seed : ByteArray := prog_1_method_22_code
def yX9_seed : MethodName := ⟨RX9, "seed", "(I)I"⟩
abbrev cX9_image : ByteArray := prog_1_method_23_code
def yX9_image : MethodName := ⟨RX9, "image", "()I"⟩
abbrev cX9_restore : ByteArray := prog_1_method_24_code
def yX9_restore : MethodName := ⟨RX9, "restore", "()I"⟩
abbrev cX9_tried : ByteArray := prog_1_method_25_code
def yX9_tried : MethodName := ⟨RX9, "tried", "(IIII)I"⟩
abbrev cX9_film : ByteArray := prog_1_method_26_code
def yX9_film : MethodName := ⟨RX9, "film", "(III)I"⟩
abbrev cX9_sheet : ByteArray := prog_1_method_27_code
def yX9_sheet : MethodName := ⟨RX9, "sheet", "(III)I"⟩
abbrev cX9_drop : ByteArray := prog_1_method_28_code
def yX9_drop : MethodName := ⟨RX9, "drop", "(I)I"⟩
abbrev cX9_item : ByteArray := prog_1_method_29_code
def yX9_item : MethodName := ⟨RX9, "item", "(IIIJ)I"⟩
abbrev cX9_copy : ByteArray := prog_1_method_30_code
def yX9_copy : MethodName := ⟨RX9, "copy", "(IIIII)I"⟩
abbrev cX9_isNoTask : ByteArray := prog_1_method_31_code
def yX9_isNoTask : MethodName := ⟨RX9, "isNoTask", "(I)Z"⟩
abbrev cX9_isNoGate : ByteArray := prog_1_method_32_code
def yX9_isNoGate : MethodName := ⟨RX9, "isNoGate", "(I)Z"⟩
abbrev cX9_isNoPair : ByteArray := prog_1_method_33_code
def yX9_isNoPair : MethodName := ⟨RX9, "isNoPair", "(II)Z"⟩
abbrev cX9_isNoSheet : ByteArray := prog_1_method_34_code
def yX9_isNoSheet : MethodName := ⟨RX9, "isNoSheet", "(I)Z"⟩
abbrev cX9_isNoLane : ByteArray := prog_1_method_35_code
def yX9_isNoLane : MethodName := ⟨RX9, "isNoLane", "(I)Z"⟩
abbrev cX9_bit : ByteArray := prog_1_method_36_code
def yX9_bit : MethodName := ⟨RX9, "bit", "(I)I"⟩
abbrev cX9_has : ByteArray := prog_1_method_37_code
def yX9_has : MethodName := ⟨RX9, "has", "(II)Z"⟩
abbrev cX9_told : ByteArray := prog_1_method_38_code
def yX9_told : MethodName := ⟨RX9, "told", "(I)I"⟩
abbrev cX9_tryRow : ByteArray := prog_1_method_39_code
def yX9_tryRow : MethodName := ⟨RX9, "tryRow", "(LGateTable$Sheet;II)I"⟩
def RX10 : String := "GateTableModel"
def TX10 : u_T := fun k => match k with
  | 0 => ("GateTableModel", "now", "[I", true)
  | 1 => ("GateTableModel", "past", "[I", true)
  | 2 => ("GateTableModel", "acts", "I", false)
  | 3 => ("GateTableModel", "kept", "[I", true)
  | 4 => ("GateTableModel", "keptPast", "[I", true)
  | 5 => ("GateTableModel", "keptActs", "I", false)
  | 6 => ("GateTableModel", "tape", "[I", true)
  | 7 => ("GateTableModel", "typed", "I", false)
  | 8 => ("GateTableModel", "lanes", "[I", true)
  | 9 => ("GateTableModel", "sizes", "[I", true)
  | 10 => ("GateTableModel", "items", "[J", true)
  | 11 => ("GateTableModel", "moved", "[J", true)
  | 12 => ("GateTableModel", "kinds", "[I", true)
  | 13 => ("GateTableModel", "gates", "[I", true)
  | 14 => ("GateTableModel", "adds", "[I", true)
  | 15 => ("GateTableModel", "many", "[I", true)
  | 16 => ("GateTableModel", "why", "[I", true)
  | 17 => ("GateTableModel", "whyGate", "[I", true)
  | 18 => ("GateTableModel", "mended", "[I", true)
  | 19 => ("GateTableModel", "again", "[I", true)
  | 20 => ("GateTableModel", "deep", "[I", true)
  | 21 => ("GateTableModel", "isOver", "Z", false)
  | 22 => ("GateTableModel", "open", "[I", true)
  | 23 => ("GateTableModel", "openAt", "[I", true)
  | 24 => ("GateTableModel", "openOf", "[I", true)
  | 25 => ("GateTableModel", "openAdds", "[I", true)
  | 26 => ("GateTableModel", "opened", "I", false)
  | 27 => ("GateTableModel", "addGate", "[I", true)
  | 28 => ("GateTableModel", "addBy", "[I", true)
  | 29 => ("GateTableModel", "addMany", "I", false)
  | 30 => ("GateTableModel", "inside", "[I", true)
  | 31 => ("GateTableModel", "at", "I", false)
  | 32 => ("GateTableModel", "stays", "I", false)
  | 33 => ("GateTableModel", "first", "[I", true)
  | 34 => ("GateTableModel", "place", "I", false)
  | 35 => ("GateTableModel", "said", "[I", true)
  | 36 => ("GateTableModel", "saidMany", "I", false)
  | 37 => ("GateTableModel", "lastTold", "I", false)
  | 38 => ("GateTableModel", "behind", "[I", true)
  | 39 => ("GateTableModel", "wayMany", "[J", true)
  | 40 => ("GateTableModel", "likely", "[J", true)
  | 41 => ("GateTableModel", "heldOne", "[I", true)
  | 42 => ("GateTableModel", "heldOther", "[I", true)
  | 43 => ("GateTableModel", "waysDone", "J", false)
  | 44 => ("GateTableModel", "waysShut", "J", false)
  | 45 => ("GateTableModel", "oddsShut", "J", false)
  | _ => ("GateTableModel", "nearest", "I", false)
def tyX10 : Nat → FieldType := fun k => match k with
  | 0 => .array .int
  | 1 => .array .int
  | 2 => .int
  | 3 => .array .int
  | 4 => .array .int
  | 5 => .int
  | 6 => .array .int
  | 7 => .int
  | 8 => .array .int
  | 9 => .array .int
  | 10 => .array .long
  | 11 => .array .long
  | 12 => .array .int
  | 13 => .array .int
  | 14 => .array .int
  | 15 => .array .int
  | 16 => .array .int
  | 17 => .array .int
  | 18 => .array .int
  | 19 => .array .int
  | 20 => .array .int
  | 21 => .boolean
  | 22 => .array .int
  | 23 => .array .int
  | 24 => .array .int
  | 25 => .array .int
  | 26 => .int
  | 27 => .array .int
  | 28 => .array .int
  | 29 => .int
  | 30 => .array .int
  | 31 => .int
  | 32 => .int
  | 33 => .array .int
  | 34 => .int
  | 35 => .array .int
  | 36 => .int
  | 37 => .int
  | 38 => .array .int
  | 39 => .array .long
  | 40 => .array .long
  | 41 => .array .int
  | 42 => .array .int
  | 43 => .long
  | 44 => .long
  | 45 => .long
  | _ => .int
abbrev wsX100 : List Cond := u_ws RX10 TX10 47
theorem nmX10 : ∀ a, a < 47 → ∀ b, b < 47 → a ≠ b → (TX10 a).2.1 ≠ (TX10 b).2.1 := by decide +kernel
theorem tyX10_ok : ∀ k, k < 47 → parseFieldDescriptor (TX10 k).2.2.1 = some (tyX10 k) := by decide +kernel
abbrev cX10_init : ByteArray := prog_12_method_1_code
def yX10_init : MethodName := ⟨RX10, "<init>", "()V"⟩
abbrev cX10_in : ByteArray := prog_12_method_2_code
def yX10_in : MethodName := ⟨RX10, "in", "(JJJ)Z"⟩
abbrev cX10_has : ByteArray := prog_12_method_3_code
def yX10_has : MethodName := ⟨RX10, "has", "(II)Z"⟩
abbrev cX10_sizeOf : ByteArray := prog_12_method_4_code
def yX10_sizeOf : MethodName := ⟨RX10, "sizeOf", "(I)I"⟩
abbrev cX10_isTask : ByteArray := prog_12_method_5_code
def yX10_isTask : MethodName := ⟨RX10, "isTask", "(J)Z"⟩
abbrev cX10_isGate : ByteArray := prog_12_method_6_code
def yX10_isGate : MethodName := ⟨RX10, "isGate", "(I)Z"⟩
abbrev cX10_of : ByteArray := prog_12_method_7_code
def yX10_of : MethodName := ⟨RX10, "of", "(II)I"⟩
abbrev cX10_put : ByteArray := prog_12_method_8_code
def yX10_put : MethodName := ⟨RX10, "put", "(III)V"⟩
abbrev cX10_writes : ByteArray := prog_12_method_9_code
def yX10_writes : MethodName := ⟨RX10, "writes", "(IIII)V"⟩
abbrev cX10_opens : ByteArray := prog_12_method_10_code
def yX10_opens : MethodName := ⟨RX10, "opens", "(II)V"⟩
abbrev cX10_enters : ByteArray := prog_12_method_11_code
def yX10_enters : MethodName := ⟨RX10, "enters", "(II)V"⟩
abbrev cX10_leaves : ByteArray := prog_12_method_12_code
def yX10_leaves : MethodName := ⟨RX10, "leaves", "(I)V"⟩
abbrev cX10_takesBack : ByteArray := prog_12_method_13_code
def yX10_takesBack : MethodName := ⟨RX10, "takesBack", "(I)V"⟩
abbrev cX10_letterAt : ByteArray := prog_12_method_14_code
def yX10_letterAt : MethodName := ⟨RX10, "letterAt", "(II)I"⟩
abbrev cX10_shutOf : ByteArray := prog_12_method_15_code
def yX10_shutOf : MethodName := ⟨RX10, "shutOf", "(II)I"⟩
abbrev cX10_breaks : ByteArray := prog_12_method_16_code
def yX10_breaks : MethodName := ⟨RX10, "breaks", "(III)V"⟩
abbrev cX10_visits : ByteArray := prog_12_method_17_code
def yX10_visits : MethodName := ⟨RX10, "visits", "(II)V"⟩
abbrev cX10_shuts : ByteArray := prog_12_method_18_code
def yX10_shuts : MethodName := ⟨RX10, "shuts", "(II)V"⟩
abbrev cX10_laysTrace : ByteArray := prog_12_method_19_code
def yX10_laysTrace : MethodName := ⟨RX10, "laysTrace", "(I)V"⟩
abbrev cX10_laysTraces : ByteArray := prog_12_method_20_code
def yX10_laysTraces : MethodName := ⟨RX10, "laysTraces", "()Z"⟩
abbrev cX10_kindAt : ByteArray := prog_12_method_21_code
def yX10_kindAt : MethodName := ⟨RX10, "kindAt", "(II)I"⟩
abbrev cX10_gateAt : ByteArray := prog_12_method_22_code
def yX10_gateAt : MethodName := ⟨RX10, "gateAt", "(II)I"⟩
abbrev cX10_alone : ByteArray := prog_12_method_23_code
def yX10_alone : MethodName := ⟨RX10, "alone", "(II)I"⟩
abbrev cX10_step : ByteArray := prog_12_method_24_code
def yX10_step : MethodName := ⟨RX10, "step", "(III)I"⟩
abbrev cX10_holds : ByteArray := prog_12_method_25_code
def yX10_holds : MethodName := ⟨RX10, "holds", "()V"⟩
abbrev cX10_notes : ByteArray := prog_12_method_26_code
def yX10_notes : MethodName := ⟨RX10, "notes", "()V"⟩
abbrev cX10_returns : ByteArray := prog_12_method_27_code
def yX10_returns : MethodName := ⟨RX10, "returns", "()V"⟩
abbrev cX10_isBusy : ByteArray := prog_12_method_28_code
def yX10_isBusy : MethodName := ⟨RX10, "isBusy", "()Z"⟩
abbrev cX10_idles : ByteArray := prog_12_method_29_code
def yX10_idles : MethodName := ⟨RX10, "idles", "(I)V"⟩
abbrev cX10_type : ByteArray := prog_12_method_30_code
def yX10_type : MethodName := ⟨RX10, "type", "(I)I"⟩
abbrev cX10_here : ByteArray := prog_12_method_31_code
def yX10_here : MethodName := ⟨RX10, "here", "()I"⟩
abbrev cX10_takes : ByteArray := prog_12_method_32_code
def yX10_takes : MethodName := ⟨RX10, "takes", "()V"⟩
abbrev cX10_isTaken : ByteArray := prog_12_method_33_code
def yX10_isTaken : MethodName := ⟨RX10, "isTaken", "(Z)Z"⟩
abbrev cX10_isOpened : ByteArray := prog_12_method_34_code
def yX10_isOpened : MethodName := ⟨RX10, "isOpened", "()Z"⟩
abbrev cX10_shutBy : ByteArray := prog_12_method_35_code
def yX10_shutBy : MethodName := ⟨RX10, "shutBy", "(I)I"⟩
abbrev cX10_isVisit : ByteArray := prog_12_method_36_code
def yX10_isVisit : MethodName := ⟨RX10, "isVisit", "()Z"⟩
abbrev cX10_isBody : ByteArray := prog_12_method_37_code
def yX10_isBody : MethodName := ⟨RX10, "isBody", "()Z"⟩
abbrev cX10_isKept : ByteArray := prog_12_method_38_code
def yX10_isKept : MethodName := ⟨RX10, "isKept", "()Z"⟩
abbrev cX10_program : ByteArray := prog_12_method_39_code
def yX10_program : MethodName := ⟨RX10, "program", "(I)I"⟩
abbrev cX10_gone : ByteArray := prog_12_method_40_code
def yX10_gone : MethodName := ⟨RX10, "gone", "(I)I"⟩
abbrev cX10_comes : ByteArray := prog_12_method_41_code
def yX10_comes : MethodName := ⟨RX10, "comes", "(III)V"⟩
abbrev cX10_run : ByteArray := prog_12_method_42_code
def yX10_run : MethodName := ⟨RX10, "run", "(I)I"⟩
abbrev cX10_insides : ByteArray := prog_12_method_43_code
def yX10_insides : MethodName := ⟨RX10, "insides", "(III)I"⟩
abbrev cX10_heldBy : ByteArray := prog_12_method_44_code
def yX10_heldBy : MethodName := ⟨RX10, "heldBy", "(II)I"⟩
abbrev cX10_holder : ByteArray := prog_12_method_45_code
def yX10_holder : MethodName := ⟨RX10, "holder", "(I)I"⟩
abbrev cX10_waitsFor : ByteArray := prog_12_method_46_code
def yX10_waitsFor : MethodName := ⟨RX10, "waitsFor", "(I)I"⟩
abbrev cX10_nextOf : ByteArray := prog_12_method_47_code
def yX10_nextOf : MethodName := ⟨RX10, "nextOf", "(I)I"⟩
abbrev cX10_ring : ByteArray := prog_12_method_48_code
def yX10_ring : MethodName := ⟨RX10, "ring", "(I)I"⟩
abbrev cX10_weight : ByteArray := prog_12_method_49_code
def yX10_weight : MethodName := ⟨RX10, "weight", "(I)I"⟩
abbrev cX10_victim : ByteArray := prog_12_method_50_code
def yX10_victim : MethodName := ⟨RX10, "victim", "(I)I"⟩
abbrev cX10_falls : ByteArray := prog_12_method_51_code
def yX10_falls : MethodName := ⟨RX10, "falls", "(I)V"⟩
abbrev cX10_isOut : ByteArray := prog_12_method_52_code
def yX10_isOut : MethodName := ⟨RX10, "isOut", "(I)Z"⟩
abbrev cX10_turns : ByteArray := prog_12_method_53_code
def yX10_turns : MethodName := ⟨RX10, "turns", "(I)I"⟩
abbrev cX10_waits : ByteArray := prog_12_method_54_code
def yX10_waits : MethodName := ⟨RX10, "waits", "(I)I"⟩
abbrev cX10_turn : ByteArray := prog_12_method_55_code
def yX10_turn : MethodName := ⟨RX10, "turn", "(I)I"⟩
abbrev cX10_draws : ByteArray := prog_12_method_56_code
def yX10_draws : MethodName := ⟨RX10, "draws", "()I"⟩
abbrev cX10_lefts : ByteArray := prog_12_method_57_code
def yX10_lefts : MethodName := ⟨RX10, "lefts", "()I"⟩
abbrev cX10_nth : ByteArray := prog_12_method_58_code
def yX10_nth : MethodName := ⟨RX10, "nth", "(II)I"⟩
abbrev cX10_go : ByteArray := prog_12_method_59_code
def yX10_go : MethodName := ⟨RX10, "go", "(I)I"⟩
abbrev cX10_lays : ByteArray := prog_12_method_60_code
def yX10_lays : MethodName := ⟨RX10, "lays", "()I"⟩
abbrev cX10_rules : ByteArray := prog_12_method_61_code
def yX10_rules : MethodName := ⟨RX10, "rules", "(I)I"⟩
abbrev cX10_lay : ByteArray := prog_12_method_62_code
def yX10_lay : MethodName := ⟨RX10, "lay", "()I"⟩
abbrev cX10_rule : ByteArray := prog_12_method_63_code
def yX10_rule : MethodName := ⟨RX10, "rule", "(I)I"⟩
abbrev cX10_waiters : ByteArray := prog_12_method_64_code
def yX10_waiters : MethodName := ⟨RX10, "waiters", "(I)I"⟩
abbrev cX10_gate : ByteArray := prog_12_method_65_code
def yX10_gate : MethodName := ⟨RX10, "gate", "(II)I"⟩
abbrev cX10_task : ByteArray := prog_12_method_66_code
def yX10_task : MethodName := ⟨RX10, "task", "(II)I"⟩
abbrev cX10_those : ByteArray := prog_12_method_67_code
def yX10_those : MethodName := ⟨RX10, "those", "(I)I"⟩
abbrev cX10_ringed : ByteArray := prog_12_method_68_code
def yX10_ringed : MethodName := ⟨RX10, "ringed", "()I"⟩
abbrev cX10_count : ByteArray := prog_12_method_69_code
def yX10_count : MethodName := ⟨RX10, "count", "(I)I"⟩
abbrev cX10_isAhead : ByteArray := prog_12_method_70_code
def yX10_isAhead : MethodName := ⟨RX10, "isAhead", "(II)Z"⟩
abbrev cX10_ahead : ByteArray := prog_12_method_71_code
def yX10_ahead : MethodName := ⟨RX10, "ahead", "(II)I"⟩
abbrev cX10_loopOf : ByteArray := prog_12_method_72_code
def yX10_loopOf : MethodName := ⟨RX10, "loopOf", "(I)I"⟩
abbrev cX10_loops : ByteArray := prog_12_method_73_code
def yX10_loops : MethodName := ⟨RX10, "loops", "(I)I"⟩
abbrev cX10_isShut : ByteArray := prog_12_method_74_code
def yX10_isShut : MethodName := ⟨RX10, "isShut", "(III)Z"⟩
abbrev cX10_goesOn : ByteArray := prog_12_method_75_code
def yX10_goesOn : MethodName := ⟨RX10, "goesOn", "(IIII)V"⟩
abbrev cX10_goesBoth : ByteArray := prog_12_method_76_code
def yX10_goesBoth : MethodName := ⟨RX10, "goesBoth", "(II)V"⟩
abbrev cX10_areTwo : ByteArray := prog_12_method_77_code
def yX10_areTwo : MethodName := ⟨RX10, "areTwo", "(II)Z"⟩
abbrev cX10_ways : ByteArray := prog_12_method_78_code
def yX10_ways : MethodName := ⟨RX10, "ways", "(III)J"⟩
abbrev cX10_odds : ByteArray := prog_12_method_79_code
def yX10_odds : MethodName := ⟨RX10, "odds", "(III)J"⟩
abbrev cX10_near : ByteArray := prog_12_method_80_code
def yX10_near : MethodName := ⟨RX10, "near", "(II)I"⟩
abbrev cX10_drift : ByteArray := prog_12_method_81_code
def yX10_drift : MethodName := ⟨RX10, "drift", "(I)I"⟩
abbrev cX10_undo : ByteArray := prog_12_method_82_code
def yX10_undo : MethodName := ⟨RX10, "undo", "()I"⟩
abbrev cX10_seed : ByteArray := prog_12_method_83_code
def yX10_seed : MethodName := ⟨RX10, "seed", "(I)I"⟩
abbrev cX10_image : ByteArray := prog_12_method_84_code
def yX10_image : MethodName := ⟨RX10, "image", "()I"⟩
abbrev cX10_restore : ByteArray := prog_12_method_85_code
def yX10_restore : MethodName := ⟨RX10, "restore", "()I"⟩
abbrev cX10_isSheet : ByteArray := prog_12_method_86_code
def yX10_isSheet : MethodName := ⟨RX10, "isSheet", "(I)Z"⟩
abbrev cX10_cut : ByteArray := prog_12_method_87_code
def yX10_cut : MethodName := ⟨RX10, "cut", "(IJ)J"⟩
abbrev cX10_found : ByteArray := prog_12_method_88_code
def yX10_found : MethodName := ⟨RX10, "found", "(IIII)I"⟩
abbrev cX10_tried : ByteArray := prog_12_method_89_code
def yX10_tried : MethodName := ⟨RX10, "tried", "(IIII)I"⟩
abbrev cX10_film : ByteArray := prog_12_method_90_code
def yX10_film : MethodName := ⟨RX10, "film", "(III)I"⟩
abbrev cX10_sheet : ByteArray := prog_12_method_91_code
def yX10_sheet : MethodName := ⟨RX10, "sheet", "(III)I"⟩
abbrev cX10_drop : ByteArray := prog_12_method_92_code
def yX10_drop : MethodName := ⟨RX10, "drop", "(I)I"⟩
abbrev cX10_item : ByteArray := prog_12_method_93_code
def yX10_item : MethodName := ⟨RX10, "item", "(IIIJ)I"⟩
abbrev cX10_copy : ByteArray := prog_12_method_94_code
def yX10_copy : MethodName := ⟨RX10, "copy", "(IIIII)I"⟩
def RJx8e188 : String := "java/lang/Cloneable"
def TJx8e188 : u_T := fun k => match k with
  | _ => ("", "", "", false)
def tyJx8e188 : Nat → FieldType := fun k => match k with
  | _ => .int
abbrev wsJx8e1880 : List Cond := u_ws RJx8e188 TJx8e188 0
theorem nmJx8e188 : ∀ a, a < 0 → ∀ b, b < 0 → a ≠ b → (TJx8e188 a).2.1 ≠ (TJx8e188 b).2.1 := by decide +kernel
theorem tyJx8e188_ok : ∀ k, k < 0 → parseFieldDescriptor (TJx8e188 k).2.2.1 = some (tyJx8e188 k) := by decide +kernel
def RJ6 : String := "java/lang/Integer"
def TJ6 : u_T := fun k => match k with
  | _ => ("", "", "", false)
def tyJ6 : Nat → FieldType := fun k => match k with
  | _ => .int
abbrev wsJ60 : List Cond := u_ws RJ6 TJ6 0
theorem nmJ6 : ∀ a, a < 0 → ∀ b, b < 0 → a ≠ b → (TJ6 a).2.1 ≠ (TJ6 b).2.1 := by decide +kernel
theorem tyJ6_ok : ∀ k, k < 0 → parseFieldDescriptor (TJ6 k).2.2.1 = some (tyJ6 k) := by decide +kernel
abbrev cJ6_bitCount_0f7a4 : ByteArray := prog_14_method_49_code
def yJ6_bitCount_0f7a4 : MethodName := ⟨RJ6, "bitCount", "(I)I"⟩
def RJ9 : String := "java/lang/Math"
def TJ9 : u_T := fun k => match k with
  | _ => ("", "", "", false)
def tyJ9 : Nat → FieldType := fun k => match k with
  | _ => .int
abbrev wsJ90 : List Cond := u_ws RJ9 TJ9 0
theorem nmJ9 : ∀ a, a < 0 → ∀ b, b < 0 → a ≠ b → (TJ9 a).2.1 ≠ (TJ9 b).2.1 := by decide +kernel
theorem tyJ9_ok : ∀ k, k < 0 → parseFieldDescriptor (TJ9 k).2.2.1 = some (tyJ9 k) := by decide +kernel
abbrev cJ9_max_7cf53 : ByteArray := prog_15_method_65_code
def yJ9_max_7cf53 : MethodName := ⟨RJ9, "max", "(II)I"⟩
abbrev cJ9_min_7cf53 : ByteArray := prog_15_method_69_code
def yJ9_min_7cf53 : MethodName := ⟨RJ9, "min", "(II)I"⟩
def RJ10 : String := "java/lang/System"
def TJ10 : u_T := fun k => match k with
  | _ => ("", "", "", false)
def tyJ10 : Nat → FieldType := fun k => match k with
  | _ => .int
abbrev wsJ100 : List Cond := u_ws RJ10 TJ10 0
theorem nmJ10 : ∀ a, a < 0 → ∀ b, b < 0 → a ≠ b → (TJ10 a).2.1 ≠ (TJ10 b).2.1 := by decide +kernel
theorem tyJ10_ok : ∀ k, k < 0 → parseFieldDescriptor (TJ10 k).2.2.1 = some (tyJ10 k) := by decide +kernel
def RJ7 : String := "java/util/Arrays"
def TJ7 : u_T := fun k => match k with
  | _ => ("", "", "", false)
def tyJ7 : Nat → FieldType := fun k => match k with
  | _ => .int
abbrev wsJ70 : List Cond := u_ws RJ7 TJ7 0
theorem nmJ7 : ∀ a, a < 0 → ∀ b, b < 0 → a ≠ b → (TJ7 a).2.1 ≠ (TJ7 b).2.1 := by decide +kernel
theorem tyJ7_ok : ∀ k, k < 0 → parseFieldDescriptor (TJ7 k).2.2.1 = some (tyJ7 k) := by decide +kernel
abbrev cJ7_fill_d0a16 : ByteArray := prog_17_method_101_code
def yJ7_fill_d0a16 : MethodName := ⟨RJ7, "fill", "([JJ)V"⟩
abbrev cJ7_fill_53178 : ByteArray := prog_17_method_103_code
def yJ7_fill_53178 : MethodName := ⟨RJ7, "fill", "([II)V"⟩
abbrev cJ7_copyOf_59c91 : ByteArray := prog_17_method_123_code
def yJ7_copyOf_59c91 : MethodName := ⟨RJ7, "copyOf", "([II)[I"⟩
abbrev cJ7_copyOf_d664f : ByteArray := prog_17_method_125_code
def yJ7_copyOf_d664f : MethodName := ⟨RJ7, "copyOf", "([CI)[C"⟩
def RL : String := "GateTableLaw"
abbrev cL_law : ByteArray := code
def yL_law : MethodName := ⟨RL, "law", "([I)Z"⟩
abbrev vwCl : List vw_C := [(RX0, TX0, 2), (RX1, TX1, 1), (RX2, TX2, 8), (RX3, TX3, 18), (RX4, TX4, 1), (RX5, TX5, 3), (RX6, TX6, 14), (RX7, TX7, 5), (RX8, TX8, 10), (RX9, TX9, 12), (RX10, TX10, 47)]
end
section
/-! an interpreter for the bytecode, over its own memory: what a run answers is said by a predicate transformer -/
abbrev zR : Type := Nat × Nat × Nat
abbrev zV : Type := Int32 ⊕ (Int64 ⊕ Option zR)
abbrev zi (x : Int32) : zV := .inl x
abbrev zl (x : Int64) : zV := .inr (.inl x)
abbrev zr (r : Option zR) : zV := .inr (.inr r)
abbrev zI : Type := Nat → Nat → Nat → Nat → Int32
abbrev zL : Type := Nat → Nat → Nat → Nat → Int64
abbrev zP : Type := Nat → Nat → Nat → Nat → Option zR
abbrev zS : Type := Nat → Nat → Nat → Nat × Nat
abbrev zM : Type := zI × zL × zP × zS × Nat
abbrev zE : Type := Instr × Nat × List Nat × Int
def zup {α : Type} (f : Nat → α) (k : Nat) (v : α) : Nat → α := fun j => if j = k then v else f j
def zup3 {α : Type} (f : Nat → Nat → Nat → α) (r j q : Nat) (v : α) : Nat → Nat → Nat → α := zup f r (zup (f r) j (zup (f r j) q v))
def zup4 {α : Type} (f : Nat → Nat → Nat → Nat → α) (r j q i : Nat) (v : α) : Nat → Nat → Nat → Nat → α := zup3 f r j q (zup (f r j q) i v)
def zfd : List (Nat × zE) → Nat → Option zE
  | [], _ => none
  | (q, e) :: t, pc => cond (Nat.beq q pc) (some e) (zfd t pc)
def zkd : zV → Nat
  | .inl _ => 0
  | .inr (.inl _) => 1
  | .inr (.inr _) => 2
def zcat (v : zV) : Nat := match v with
  | .inr (.inl _) => 2
  | _ => 1
def zcats (st : List zV) : Nat := (st.map zcat).sum
def zop2 (f : Int32 → Int32 → Int32) (st : List zV) : Option (List zV) := match st with
  | .inl y :: .inl x :: r => some (zi (f x y) :: r)
  | _ => none
def zop2l (f : Int64 → Int64 → Int64) (st : List zV) : Option (List zV) := match st with
  | .inr (.inl y) :: .inr (.inl x) :: r => some (zl (f x y) :: r)
  | _ => none
def zopsl (f : Int64 → Int32 → Int64) (st : List zV) : Option (List zV) := match st with
  | .inl y :: .inr (.inl x) :: r => some (zl (f x y) :: r)
  | _ => none
def zop1 (f : Int32 → zV) (st : List zV) : Option (List zV) := match st with
  | .inl x :: r => some (f x :: r)
  | _ => none
def zop (i : Instr) (z : Int) (st : List zV) : Option (List zV) := match i with
  | .iconst k => some (zi (Int32.ofInt k) :: st)
  | .bipush k => some (zi (Int8.ofInt k).toInt32 :: st)
  | .sipush k => some (zi (Int16.ofInt k).toInt32 :: st)
  | .lconst k => some (zl (Int64.ofNat k) :: st)
  | .ldc _ => some (zi (Int32.ofInt z) :: st)
  | .ldc_w _ => some (zi (Int32.ofInt z) :: st)
  | .ldc2_w _ => some (zl (Int64.ofInt z) :: st)
  | .iadd => zop2 (fun x y => x + y) st
  | .isub => zop2 (fun x y => x - y) st
  | .imul => zop2 (fun x y => x * y) st
  | .iand => zop2 (fun x y => x &&& y) st
  | .ior => zop2 (fun x y => x ||| y) st
  | .ixor => zop2 (fun x y => x ^^^ y) st
  | .ishl => zop2 (fun x y => x <<< (y &&& 31)) st
  | .ishr => zop2 (fun x y => x >>> (y &&& 31)) st
  | .iushr => zop2 (fun x y => (x.toUInt32 >>> (y.toUInt32 &&& Int32.toUInt32 31)).toInt32) st
  | .ineg => zop1 (fun x => zi (-x)) st
  | .i2l => zop1 (fun x => zl x.toInt64) st
  | .i2b => zop1 (fun x => zi x.toInt8.toInt32) st
  | .i2s => zop1 (fun x => zi x.toInt16.toInt32) st
  | .i2c => zop1 (fun x => zi (x.toUInt32 % 65536).toInt32) st
  | .l2i => match st with
    | .inr (.inl x) :: r => some (zi x.toInt32 :: r)
    | _ => none
  | .ladd => zop2l (fun x y => x + y) st
  | .lmul => zop2l (fun x y => x * y) st
  | .land => zop2l (fun x y => x &&& y) st
  | .lor => zop2l (fun x y => x ||| y) st
  | .lshl => zopsl (fun x y => x <<< (y.toInt64 &&& 63)) st
  | .lshr => zopsl (fun x y => x >>> (y.toInt64 &&& 63)) st
  | .lcmp => match st with
    | .inr (.inl y) :: .inr (.inl x) :: r => some (zi (lg_cmp x y) :: r)
    | _ => none
  | .dup => match st with
    | .inl x :: r => some (zi x :: zi x :: r)
    | .inr (.inr x) :: r => some (zr x :: zr x :: r)
    | _ => none
  | .pop => match st with
    | .inl _ :: r => some r
    | .inr (.inr _) :: r => some r
    | _ => none
  | .dup2 => match st with
    | .inl y :: .inr (.inr x) :: r => some (zi y :: zr x :: zi y :: zr x :: r)
    | .inl y :: .inl x :: r => some (zi y :: zi x :: zi y :: zi x :: r)
    | .inr (.inl x) :: r => some (zl x :: zl x :: r)
    | _ => none
  | _ => none
def zld (i : Instr) : Option (Nat × Nat) := match i with
  | .iload k => some (k, 0)
  | .iload_n k => some (k, 0)
  | .lload k => some (k, 1)
  | .lload_n k => some (k, 1)
  | .aload k => some (k, 2)
  | .aload_n k => some (k, 2)
  | _ => none
def zsr (i : Instr) : Option (Nat × Nat) := match i with
  | .istore k => some (k, 0)
  | .istore_n k => some (k, 0)
  | .lstore k => some (k, 1)
  | .lstore_n k => some (k, 1)
  | .astore k => some (k, 2)
  | .astore_n k => some (k, 2)
  | _ => none
/-- a long that ends at place k goes -/
def zkill (ls : List (Option zV)) (k : Nat) : List (Option zV) := match k with
  | 0 => ls
  | k' + 1 => match ls[k']? with
    | some (some (.inr (.inl _))) => ls.set k' none
    | _ => ls
def zsto (ls : List (Option zV)) (k : Nat) (v : zV) : List (Option zV) := match v with
  | .inr (.inl x) => ((zkill ls k).set k (some (zl x))).set (k + 1) none
  | .inl x => (zkill ls k).set k (some (zi x))
  | .inr (.inr x) => (zkill ls k).set k (some (zr x))
def zj (pc : Nat) (off : Int) : Nat := ((pc : Int) + off).toNat
def zcz (c : ClassFile.Cond) (x : Int32) : Prop := match c with
  | .eq => x = 0
  | .ne => ¬ x = 0
  | .lt => x < 0
  | .ge => 0 ≤ x
  | .gt => 0 < x
  | .le => x ≤ 0
def zcc (c : ClassFile.Cond) (x y : Int32) : Prop := match c with
  | .eq => x = y
  | .ne => ¬ x = y
  | .lt => x < y
  | .ge => y ≤ x
  | .gt => y < x
  | .le => x ≤ y
def ztw (pc : Nat) (dflt lo hi : Int) (offs : Array Int) (x : Int32) : Nat := zj pc (if x.toInt < lo ∨ hi < x.toInt then dflt else (offs[(x.toInt - lo).toNat]?).getD dflt)
def zget (M : zM) (kd r j q k : Nat) : zV := match kd with
  | 1 => zl (M.2.1 r j q k)
  | 2 => zr (M.2.2.1 r j q k)
  | _ => zi (M.1 r j q k)
def zent (args : List zV) : List (Option zV) := match args with
  | [] => []
  | .inl x :: t => some (zi x) :: zent t
  | .inr (.inl x) :: t => some (zl x) :: none :: zent t
  | .inr (.inr x) :: t => some (zr x) :: zent t
def zpad (l : List (Option zV)) (n : Nat) : List (Option zV) := l ++ List.replicate (n - l.length) none
def zpush (r : Option zV) (st : List zV) : List zV := match r with
  | none => st
  | some v => v :: st
def znew (al : Nat → zR) (M : zM) (tag len : Nat) : zM := match al M.2.2.2.2 with
  | (r, j, q) => (zup3 M.1 r j q (fun _ => 0), zup3 M.2.1 r j q (fun _ => 0), zup3 M.2.2.1 r j q (fun _ => none), zup3 M.2.2.2.1 r j q (tag, len), M.2.2.2.2 + 1)
/-- which class's objects an array of references holds -/
def zel (tag : Nat) : Nat := match tag with
  | 23 => 5
  | 24 => 9
  | 25 => 7
  | 26 => 6
  | _ => 0
def zaty (t : ArrayType) : Nat := match t with
  | .int => 20
  | .long => 21
  | .char => 22
  | _ => 0
/-- memory instructions: what must hold, and stack and memory behind them -/
def zmem (i : Instr) (a : List Nat) (st : List zV) (M : zM) (k : List zV → zM → Prop) : Prop := match i with
  | .getfield _ => match a, st with
    | [ci, f, kd], .inr (.inr (some (r, j, q))) :: t => (M.2.2.2.1 r j q).1 = ci + 1 ∧ k (zget M kd r j q f :: t) M
    | _, _ => False
  | .putfield _ => match a, st with
    | [ci, f, 0], .inl x :: .inr (.inr (some (r, j, q))) :: t => (M.2.2.2.1 r j q).1 = ci + 1 ∧ k t (zup4 M.1 r j q f x, M.2)
    | [ci, f, 3], .inl x :: .inr (.inr (some (r, j, q))) :: t => (M.2.2.2.1 r j q).1 = ci + 1 ∧ (x = 0 ∨ x = 1) ∧ k t (zup4 M.1 r j q f x, M.2)
    | [ci, f, 1], .inr (.inl x) :: .inr (.inr (some (r, j, q))) :: t => (M.2.2.2.1 r j q).1 = ci + 1 ∧ k t (M.1, zup4 M.2.1 r j q f x, M.2.2)
    | [ci, f, 2], .inr (.inr x) :: .inr (.inr (some (r, j, q))) :: t => (M.2.2.2.1 r j q).1 = ci + 1 ∧ k t (M.1, M.2.1, zup4 M.2.2.1 r j q f x, M.2.2.2)
    | _, _ => False
  | .iaload => match st with
    | .inl x :: .inr (.inr (some (r, j, q))) :: t => (M.2.2.2.1 r j q).1 = 20 ∧ vp_in x (M.2.2.2.1 r j q).2 ∧ k (zi (M.1 r j q x.toNatClampNeg) :: t) M
    | _ => False
  | .caload => match st with
    | .inl x :: .inr (.inr (some (r, j, q))) :: t => (M.2.2.2.1 r j q).1 = 22 ∧ vp_in x (M.2.2.2.1 r j q).2 ∧ k (zi (M.1 r j q x.toNatClampNeg) :: t) M
    | _ => False
  | .laload => match st with
    | .inl x :: .inr (.inr (some (r, j, q))) :: t => (M.2.2.2.1 r j q).1 = 21 ∧ vp_in x (M.2.2.2.1 r j q).2 ∧ k (zl (M.2.1 r j q x.toNatClampNeg) :: t) M
    | _ => False
  | .aaload => match st with
    | .inl x :: .inr (.inr (some (r, j, q))) :: t => 0 < zel (M.2.2.2.1 r j q).1 ∧ vp_in x (M.2.2.2.1 r j q).2 ∧ k (zr (M.2.2.1 r j q x.toNatClampNeg) :: t) M
    | _ => False
  | .iastore => match st with
    | .inl v :: .inl x :: .inr (.inr (some (r, j, q))) :: t => ¬ r = 9 ∧ (M.2.2.2.1 r j q).1 = 20 ∧ vp_in x (M.2.2.2.1 r j q).2 ∧ k t (zup4 M.1 r j q x.toNatClampNeg v, M.2)
    | _ => False
  | .castore => match st with
    | .inl v :: .inl x :: .inr (.inr (some (r, j, q))) :: t => (M.2.2.2.1 r j q).1 = 22 ∧ vp_in x (M.2.2.2.1 r j q).2 ∧ k t (zup4 M.1 r j q x.toNatClampNeg (vp_nar .char v), M.2)
    | _ => False
  | .lastore => match st with
    | .inr (.inl v) :: .inl x :: .inr (.inr (some (r, j, q))) :: t => (M.2.2.2.1 r j q).1 = 21 ∧ vp_in x (M.2.2.2.1 r j q).2 ∧ k t (M.1, zup4 M.2.1 r j q x.toNatClampNeg v, M.2.2)
    | _ => False
  | .aastore => match st with
    | .inr (.inr (some (r', j', q'))) :: .inl x :: .inr (.inr (some (r, j, q))) :: t => 0 < zel (M.2.2.2.1 r j q).1 ∧ (M.2.2.2.1 r' j' q').1 = zel (M.2.2.2.1 r j q).1 ∧ vp_in x (M.2.2.2.1 r j q).2 ∧ k t (M.1, M.2.1, zup4 M.2.2.1 r j q x.toNatClampNeg (some (r', j', q')), M.2.2.2)
    | _ => False
  | .arraylength => match st with
    | .inr (.inr (some (r, j, q))) :: t => 19 < (M.2.2.2.1 r j q).1 ∧ k (zi (Int32.ofNat (M.2.2.2.1 r j q).2) :: t) M
    | _ => False
  | .checkcast _ => match a, st with
    | [tag], .inr (.inr (some (r, j, q))) :: t => ¬ r = 9 ∧ (M.2.2.2.1 r j q).1 = tag ∧ k (zr (some (r, j, q)) :: t) M
    | _, _ => False
  | .idiv => match st with
    | .inl y :: .inl x :: t => ¬ y = 0 ∧ k (zi (x / y) :: t) M
    | _ => False
  | .irem => match st with
    | .inl y :: .inl x :: t => ¬ y = 0 ∧ k (zi (x - x / y * y) :: t) M
    | _ => False
  | .ldiv => match st with
    | .inr (.inl y) :: .inr (.inl x) :: t => ¬ y = 0 ∧ k (zl (x / y) :: t) M
    | _ => False
  | .lrem => match st with
    | .inr (.inl y) :: .inr (.inl x) :: t => ¬ y = 0 ∧ k (zl (x - x / y * y) :: t) M
    | _ => False
  | _ => False
/-- instructions that make a cell: budget of cells and slots -/
def zmk (al : Nat → zR) (i : Instr) (a : List Nat) (st : List zV) (M : zM) (c s : Nat) (k : Nat → Nat → List zV → zM → Prop) : Prop := match i with
  | .new _ => match a with
    | [ci, nf] => 1 ≤ c ∧ nf ≤ s ∧ k (c - 1) (s - nf) (zr (some (al M.2.2.2.2)) :: st) (znew al M (ci + 1) 0)
    | _ => False
  | .newarray ty => match st with
    | .inl x :: t => ¬ x < 0 ∧ x.toNatClampNeg ≤ 5000 ∧ 1 ≤ c ∧ x.toNatClampNeg ≤ s ∧ k (c - 1) (s - x.toNatClampNeg) (zr (some (al M.2.2.2.2)) :: t) (znew al M (zaty ty) x.toNatClampNeg)
    | _ => False
  | .anewarray _ => match a, st with
    | [tag], .inl x :: t => ¬ x < 0 ∧ x.toNatClampNeg ≤ 5000 ∧ 1 ≤ c ∧ x.toNatClampNeg ≤ s ∧ k (c - 1) (s - x.toNatClampNeg) (zr (some (al M.2.2.2.2)) :: t) (znew al M tag x.toNatClampNeg)
    | _, _ => False
  | _ => False
def zcln (al : Nat → zR) (t0 : Nat) (st : List zV) (M : zM) (c s : Nat) (k : Nat → Nat → List zV → zM → Prop) : Prop := match st with
  | .inr (.inr (some (r, j, q))) :: t => zcats t ≤ 8 ∧ ¬ r = 9 ∧ (M.2.2.2.1 r j q).1 = t0 ∧ 1 ≤ c ∧ (M.2.2.2.1 r j q).2 ≤ s ∧
      k (c - 1) (s - (M.2.2.2.1 r j q).2) (zr (some (al M.2.2.2.2)) :: t) (match al M.2.2.2.2 with
        | (r1, j1, q1) => (zup3 M.1 r1 j1 q1 (M.1 r j q), zup3 M.2.1 r1 j1 q1 (fun _ => 0), zup3 M.2.2.1 r1 j1 q1 (fun _ => none), zup3 M.2.2.2.1 r1 j1 q1 (t0, (M.2.2.2.1 r j q).2), M.2.2.2.2 + 1))
  | _ => False
/-- the machine's own methods: 5 arraycopy, 6 and 7 clone, 8 Object's constructor -/
def znat (al : Nat → zR) (mode : Nat) (st : List zV) (M : zM) (c s : Nat) (k : Nat → Nat → List zV → zM → Prop) : Prop := match mode with
  | 5 => match st with
    | .inl n :: .inl dp :: .inr (.inr (some (r, j, q))) :: .inl sp :: .inr (.inr (some (r', j', q'))) :: t => zcats t ≤ 8 ∧ ¬ r = 9 ∧ ¬ r' = 9 ∧ (M.2.2.2.1 r' j' q').1 = (M.2.2.2.1 r j q).1 ∧ ¬ sp < 0 ∧ ¬ dp < 0 ∧ ¬ n < 0 ∧ sp.toNatClampNeg + n.toNatClampNeg ≤ (M.2.2.2.1 r' j' q').2 ∧ dp.toNatClampNeg + n.toNatClampNeg ≤ (M.2.2.2.1 r j q).2 ∧
        (((M.2.2.2.1 r j q).1 = 20 ∨ (M.2.2.2.1 r j q).1 = 22) ∧ k c s t (zup3 M.1 r j q (va_cpy (M.1 r' j' q') (M.1 r j q) sp.toNatClampNeg dp.toNatClampNeg n.toNatClampNeg), M.2) ∨
         (M.2.2.2.1 r j q).1 = 21 ∧ k c s t (M.1, zup3 M.2.1 r j q (va_cpy (M.2.1 r' j' q') (M.2.1 r j q) sp.toNatClampNeg dp.toNatClampNeg n.toNatClampNeg), M.2.2))
    | _ => False
  | 6 => zcln al 20 st M c s k
  | 7 => zcln al 22 st M c s k
  | 8 => match st with
    | .inr (.inr (some _)) :: t => zcats t ≤ 8 ∧ k c s t M
    | _ => False
  | _ => False
/-- is the receiver there, and of that class? (a static method, a constructor: nothing is asked) -/
def zrec (mode cl : Nat) (args : List zV) (M : zM) : Prop := match mode with
  | 0 => match args with
    | .inr (.inr (some (r, j, q))) :: _ => (M.2.2.2.1 r j q).1 = cl + 1
    | _ => False
  | 1 => True
  | 3 => True
  | _ => match args with
    | .inr (.inr (some _)) :: _ => True
    | _ => False
def zcall (i : Instr) : Bool := match i with
  | .invokevirtual _ => true
  | .invokestatic _ => true
  | .invokespecial _ => true
  | _ => false
def zret (i : Instr) (a : List Nat) (st : List zV) (k : Option zV → Prop) : Prop := match i with
  | .ireturn => match a, st with
    | [0], [.inl x] => k (some (zi x))
    | [1], [.inl x] => (x = 0 ∨ x = 1) ∧ k (some (zi x))
    | [2], [.inl x] => vp_nar .char x = x ∧ k (some (zi x))
    | _, _ => False
  | .lreturn => match st with
    | [.inr (.inl x)] => k (some (zl x))
    | _ => False
  | .areturn => match st with
    | [.inr (.inr x)] => k (some (zr x))
    | _ => False
  | .return_ => match st with
    | [] => k none
    | _ => False
  | _ => False
def zbr (i : Instr) (pc len : Nat) (st : List zV) (k : Nat → List zV → Prop) : Prop := match i with
  | .goto off => k (zj pc off) st
  | .ifCond cd off => match st with
    | .inl x :: t => (zcz cd x → k (zj pc off) t) ∧ (¬ zcz cd x → k (pc + len) t)
    | _ => False
  | .if_icmp cd off => match st with
    | .inl y :: .inl x :: t => (zcc cd x y → k (zj pc off) t) ∧ (¬ zcc cd x y → k (pc + len) t)
    | _ => False
  | .tableswitch dflt lo hi offs => match st with
    | .inl x :: t => k (ztw pc dflt lo hi offs x) t
    | _ => False
  | _ => False
section
variable (F : Nat → Nat → Option zE) (al : Nat → zR)
def ev : Nat → Nat → Nat → Nat → Nat → Nat → List (Option zV) → List zV → zM → (Option zV → zM → Prop) → Prop
  | 0, _, _, _, _, _, _, _, _, _ => False
  | n + 1, d, c, s, mid, pc, ls, st, M, Q =>
    match F mid pc with
    | none => False
    | some (i, len, a, z) =>
      match zop i z st with
      | some st' => ev n d c s mid (pc + len) ls st' M Q
      | none =>
        match zld i with
        | some (k, kd) => match ls[k]? with
          | some (some v) => zkd v = kd ∧ ev n d c s mid (pc + len) ls (v :: st) M Q
          | _ => False
        | none =>
          match zsr i with
          | some (k, kd) => match st with
            | v :: t => zkd v = kd ∧ k + zcat v ≤ ls.length ∧ ev n d c s mid (pc + len) (zsto ls k v) t M Q
            | [] => False
          | none =>
            match i with
            | .iinc k y => match ls[k]? with
              | some (some (.inl x)) => ev n d c s mid (pc + len) (zsto ls k (zi (x + Int32.ofInt y))) st M Q
              | _ => False
            | i => match zcall i with
              | true => match d with
                | 0 => False
                | d + 1 => match a with
                  | [mode] => znat al mode st M c s (fun c s st M => ev n (d + 1) c s mid (pc + len) ls st M Q)
                  | [mode, mid', cl, na, nl, bc, bs] => bc ≤ c ∧ bs ≤ s ∧ na ≤ st.length ∧ zcats (st.drop na) ≤ 8 ∧ zrec mode cl (st.take na).reverse M ∧ (zent (st.take na).reverse).length ≤ nl ∧
                      ev n d bc bs mid' 0 (zpad (zent (st.take na).reverse) nl) [] M (fun r M' => ev n (d + 1) (c - bc) (s - bs) mid (pc + len) ls (zpush r (st.drop na)) M' Q)
                  | _ => False
              | false =>
                zmem i a st M (fun st M => ev n d c s mid (pc + len) ls st M Q) ∨ zmk al i a st M c s (fun c s st M => ev n d c s mid (pc + len) ls st M Q) ∨
                zbr i pc len st (fun pc st => ev n d c s mid pc ls st M Q) ∨ zret i a st (fun r => Q r M)
end
end
section
/-! each step has one way on: the transformer is that of a function -/
theorem zmem_pt {i : Instr} {a : List Nat} {st : List zV} {M : zM} {k : List zV → zM → Prop} (h : zmem i a st M k) : ∃ st' M', k st' M' ∧ ∀ k' : List zV → zM → Prop, k' st' M' → zmem i a st M k' := by
  unfold zmem at h
  split at h <;> (try (exact h.elim)) <;> split at h <;> first
    | exact h.elim
    | exact ⟨_, _, h, fun k' hk => hk⟩
    | exact ⟨_, _, h.2, fun k' hk => ⟨h.1, hk⟩⟩
    | exact ⟨_, _, h.2.2, fun k' hk => ⟨h.1, h.2.1, hk⟩⟩
    | exact ⟨_, _, h.2.2.2, fun k' hk => ⟨h.1, h.2.1, h.2.2.1, hk⟩⟩
theorem zmk_pt {al : Nat → zR} {i : Instr} {a : List Nat} {st : List zV} {M : zM} {c s : Nat} {k : Nat → Nat → List zV → zM → Prop} (h : zmk al i a st M c s k) : ∃ c' s' st' M', k c' s' st' M' ∧ ∀ k' : Nat → Nat → List zV → zM → Prop, k' c' s' st' M' → zmk al i a st M c s k' := by
  unfold zmk at h
  split at h <;> (try (exact h.elim)) <;> split at h <;> first
    | exact h.elim
    | exact ⟨_, _, _, _, h.2.2, fun k' hk => ⟨h.1, h.2.1, hk⟩⟩
    | exact ⟨_, _, _, _, h.2.2.2.2, fun k' hk => ⟨h.1, h.2.1, h.2.2.1, h.2.2.2.1, hk⟩⟩
theorem zcln_pt {al : Nat → zR} {t0 : Nat} {st : List zV} {M : zM} {c s : Nat} {k : Nat → Nat → List zV → zM → Prop} (h : zcln al t0 st M c s k) : ∃ c' s' st' M', k c' s' st' M' ∧ ∀ k' : Nat → Nat → List zV → zM → Prop, k' c' s' st' M' → zcln al t0 st M c s k' := by
  unfold zcln at h
  split at h
  · obtain ⟨h1, h2, h3, h4, h5, h6⟩ := h
    exact ⟨_, _, _, _, h6, fun k' hk => ⟨h1, h2, h3, h4, h5, hk⟩⟩
  · exact h.elim
theorem znat_pt {al : Nat → zR} {mode : Nat} {st : List zV} {M : zM} {c s : Nat} {k : Nat → Nat → List zV → zM → Prop} (h : znat al mode st M c s k) : ∃ c' s' st' M', k c' s' st' M' ∧ ∀ k' : Nat → Nat → List zV → zM → Prop, k' c' s' st' M' → znat al mode st M c s k' := by
  unfold znat at h
  split at h
  · split at h
    · obtain ⟨h1, h2, h3, h4, h5, h6, h7, h8, h9, h10⟩ := h
      rcases h10 with ⟨g1, g2⟩ | ⟨g1, g2⟩
      · exact ⟨_, _, _, _, g2, fun k' hk => ⟨h1, h2, h3, h4, h5, h6, h7, h8, h9, Or.inl ⟨g1, hk⟩⟩⟩
      · exact ⟨_, _, _, _, g2, fun k' hk => ⟨h1, h2, h3, h4, h5, h6, h7, h8, h9, Or.inr ⟨g1, hk⟩⟩⟩
    · exact h.elim
  · exact zcln_pt h
  · exact zcln_pt h
  · split at h
    · exact ⟨_, _, _, _, h.2, fun k' hk => ⟨h.1, hk⟩⟩
    · exact h.elim
  · exact h.elim
theorem zbr_pt {i : Instr} {pc len : Nat} {st : List zV} {k : Nat → List zV → Prop} (h : zbr i pc len st k) : ∃ pc' st', k pc' st' ∧ ∀ k' : Nat → List zV → Prop, k' pc' st' → zbr i pc len st k' := by
  unfold zbr at h
  split at h <;> (try (exact h.elim))
  · exact ⟨_, _, h, fun k' hk => hk⟩
  · split at h
    · rename_i x t
      by_cases hc : zcz ‹ClassFile.Cond› x
      · exact ⟨_, _, h.1 hc, fun k' hk => ⟨fun _ => hk, fun g => absurd hc g⟩⟩
      · exact ⟨_, _, h.2 hc, fun k' hk => ⟨fun g => absurd g hc, fun _ => hk⟩⟩
    · exact h.elim
  · split at h
    · rename_i y x t
      by_cases hc : zcc ‹ClassFile.Cond› x y
      · exact ⟨_, _, h.1 hc, fun k' hk => ⟨fun _ => hk, fun g => absurd hc g⟩⟩
      · exact ⟨_, _, h.2 hc, fun k' hk => ⟨fun g => absurd g hc, fun _ => hk⟩⟩
    · exact h.elim
  · split at h
    · exact ⟨_, _, h, fun k' hk => hk⟩
    · exact h.elim
theorem zret_pt {i : Instr} {a : List Nat} {st : List zV} {k : Option zV → Prop} (h : zret i a st k) : ∃ r, k r ∧ ∀ k' : Option zV → Prop, k' r → zret i a st k' := by
  unfold zret at h
  split at h <;> (try (exact h.elim)) <;> split at h <;> first
    | exact h.elim
    | exact ⟨_, h, fun k' hk => hk⟩
    | exact ⟨_, h.2, fun k' hk => ⟨h.1, hk⟩⟩
section
variable {F : Nat → Nat → Option zE} {al : Nat → zR}
theorem ev_pt : ∀ {n d c s mid pc : Nat} {ls : List (Option zV)} {st : List zV} {M : zM} {Q : Option zV → zM → Prop}, ev F al n d c s mid pc ls st M Q → ∃ r M', Q r M' ∧ ∀ Q' : Option zV → zM → Prop, Q' r M' → ev F al n d c s mid pc ls st M Q' := by
  intro n
  induction n with
  | zero => intro d c s mid pc ls st M Q h; exact h.elim
  | succ n ih =>
    intro d c s mid pc ls st M Q h
    simp only [ev] at h ⊢
    split at h
    · exact h.elim
    · rename_i i len a z hF
      split at h
      · exact ih h
      · split at h
        · split at h
          · obtain ⟨r, M', h1, h2⟩ := ih h.2
            exact ⟨r, M', h1, fun Q' hQ => ⟨h.1, h2 Q' hQ⟩⟩
          · exact h.elim
        · split at h
          · split at h
            · obtain ⟨r, M', h1, h2⟩ := ih h.2.2
              exact ⟨r, M', h1, fun Q' hQ => ⟨h.1, h.2.1, h2 Q' hQ⟩⟩
            · exact h.elim
          · split at h
            · split at h
              · exact ih h
              · exact h.elim
            · split at h
              · split at h
                · exact h.elim
                · split at h
                  · obtain ⟨c', s', st', M', h1, h2⟩ := znat_pt h
                    obtain ⟨r, M2, h3, h4⟩ := ih h1
                    exact ⟨r, M2, h3, fun Q' hQ => h2 (fun c s st M => ev F al n _ c s mid (pc + len) ls st M Q') (h4 Q' hQ)⟩
                  · obtain ⟨g1, g2, g3, g4, g5, g7, g6⟩ := h
                    obtain ⟨r1, M1, h1, h2⟩ := ih g6
                    obtain ⟨r, M2, h3, h4⟩ := ih h1
                    exact ⟨r, M2, h3, fun Q' hQ => ⟨g1, g2, g3, g4, g5, g7, h2 _ (h4 Q' hQ)⟩⟩
                  · exact h.elim
              · rcases h with h | h | h | h
                · obtain ⟨st', M', h1, h2⟩ := zmem_pt h
                  obtain ⟨r, M2, h3, h4⟩ := ih h1
                  exact ⟨r, M2, h3, fun Q' hQ => Or.inl (h2 (fun st M => ev F al n d c s mid (pc + len) ls st M Q') (h4 Q' hQ))⟩
                · obtain ⟨c', s', st', M', h1, h2⟩ := zmk_pt h
                  obtain ⟨r, M2, h3, h4⟩ := ih h1
                  exact ⟨r, M2, h3, fun Q' hQ => Or.inr (Or.inl (h2 (fun c s st M => ev F al n d c s mid (pc + len) ls st M Q') (h4 Q' hQ)))⟩
                · obtain ⟨pc', st', h1, h2⟩ := zbr_pt h
                  obtain ⟨r, M2, h3, h4⟩ := ih h1
                  exact ⟨r, M2, h3, fun Q' hQ => Or.inr (Or.inr (Or.inl (h2 (fun pc st => ev F al n d c s mid pc ls st M Q') (h4 Q' hQ))))⟩
                · obtain ⟨r, h1, h2⟩ := zret_pt h
                  exact ⟨r, M, h1, fun Q' hQ => Or.inr (Or.inr (Or.inr (h2 (fun r => Q' r M) hQ)))⟩
theorem ev_q {n d c s mid pc : Nat} {ls : List (Option zV)} {st : List zV} {M : zM} {Q Q' : Option zV → zM → Prop} (h : ev F al n d c s mid pc ls st M Q) (hQ : ∀ r M, Q r M → Q' r M) : ev F al n d c s mid pc ls st M Q' := by
  obtain ⟨r, M', h1, h2⟩ := ev_pt h
  exact h2 Q' (hQ _ _ h1)
theorem ev_s : ∀ {n d c s mid pc : Nat} {ls : List (Option zV)} {st : List zV} {M : zM} {Q : Option zV → zM → Prop}, ev F al n d c s mid pc ls st M Q → ev F al (n + 1) d c s mid pc ls st M Q := by
  intro n
  induction n with
  | zero => intro d c s mid pc ls st M Q h; exact h.elim
  | succ n ih =>
    intro d c s mid pc ls st M Q h
    rw [ev] at h ⊢
    split at h
    · exact h.elim
    · rename_i i len a z hF
      split at h
      · exact ih h
      · split at h
        · split at h
          · exact ⟨h.1, ih h.2⟩
          · exact h.elim
        · split at h
          · split at h
            · exact ⟨h.1, h.2.1, ih h.2.2⟩
            · exact h.elim
          · split at h
            · split at h
              · exact ih h
              · exact h.elim
            · split at h
              · split at h
                · exact h.elim
                · split at h
                  · obtain ⟨c', s', st', M', h1, h2⟩ := znat_pt h
                    exact h2 (fun c s st M => ev F al (n + 1) _ c s mid (pc + len) ls st M Q) (ih h1)
                  · obtain ⟨g1, g2, g3, g4, g5, g7, g6⟩ := h
                    exact ⟨g1, g2, g3, g4, g5, g7, ev_q (ih g6) (fun r M' h => ih h)⟩
                  · exact h.elim
              · rcases h with h | h | h | h
                · obtain ⟨st', M', h1, h2⟩ := zmem_pt h
                  exact Or.inl (h2 (fun st M => ev F al (n + 1) d c s mid (pc + len) ls st M Q) (ih h1))
                · obtain ⟨c', s', st', M', h1, h2⟩ := zmk_pt h
                  exact Or.inr (Or.inl (h2 (fun c s st M => ev F al (n + 1) d c s mid (pc + len) ls st M Q) (ih h1)))
                · obtain ⟨pc', st', h1, h2⟩ := zbr_pt h
                  exact Or.inr (Or.inr (Or.inl (h2 (fun pc st => ev F al (n + 1) d c s mid pc ls st M Q) (ih h1))))
                · exact Or.inr (Or.inr (Or.inr h))
theorem ev_le {n m d c s mid pc : Nat} {ls : List (Option zV)} {st : List zV} {M : zM} {Q : Option zV → zM → Prop} (h : ev F al n d c s mid pc ls st M Q) (hm : n ≤ m) : ev F al m d c s mid pc ls st M Q := by
  induction hm with
  | refl => exact h
  | step _ ih => exact ev_s ih
end
end
section
/-! the interpreter's memory beside the machine's heap -/
def zcv (ρ : zR → Nat) (v : zV) : Value := match v with
  | .inl x => .int x
  | .inr (.inl x) => .long x
  | .inr (.inr none) => .null
  | .inr (.inr (some r)) => .ref (ρ r)
theorem zcv_cat (ρ : zR → Nat) (v : zV) : (zcv ρ v).category = zcat v := by
  rcases v with x | x | _ | r <;> rfl
theorem zcv_cats (ρ : zR → Nat) (st : List zV) : ((st.map (zcv ρ)).map fun v => v.category).sum = zcats st := by
  unfold zcats
  rw [List.map_map]
  congr 1
  apply List.map_congr_left
  intro v _
  exact zcv_cat ρ v
/-- the kind of a field or of an array's places: 0 whole numbers, 1 long ones, 2 references, 3 truth values -/
def zkf (ty : FieldType) : Nat := match ty with
  | .int => 0
  | .long => 1
  | .object _ => 2
  | .array _ => 2
  | .boolean => 3
  | _ => 9
def zcl (ci : Nat) : vw_C := vwCl.getD ci (RX0, TX0, 2)
def zty (ci : Nat) : Nat → FieldType := match ci with
  | 0 => tyX0
  | 1 => tyX1
  | 2 => tyX2
  | 3 => tyX3
  | 4 => tyX4
  | 5 => tyX5
  | 6 => tyX6
  | 7 => tyX7
  | 8 => tyX8
  | 9 => tyX9
  | _ => tyX10
def zaf (tag : Nat) : FieldType := match tag with
  | 20 => .int
  | 21 => .long
  | 22 => .char
  | 23 => .object RX4
  | 24 => .object RX8
  | 25 => .object RX6
  | 26 => .object RX5
  | _ => .int
def zak (tag : Nat) : Nat := match tag with
  | 21 => 1
  | 23 => 2
  | 24 => 2
  | 25 => 2
  | 26 => 2
  | _ => 0
def zrho (b base : Nat) (ix : zR → Nat) (r : zR) : Nat := if r.1 = 9 then b else base + ix r
def zobj (ρ : zR → Nat) (D : va_G) (M : zM) (H : Heap) (r j q ci : Nat) : Prop := t_OB (ρ (r, j, q)) (D.1 ci) (zcl ci).2.2 (D.2 ci) H (fun k => zcv ρ (zget M (zkf (zty ci k)) r j q k))
def zarr (ρ : zR → Nat) (U : State) (M : zM) (H : Heap) (r j q : Nat) : Prop := ∃ cA : ClassId, H[ρ (r, j, q)]? = some (arrV cA (M.2.2.2.1 r j q).2 (fun i => zcv ρ (zget M (zak (M.2.2.2.1 r j q).1) r j q i))) ∧ ArrOfT U cA (zaf (M.2.2.2.1 r j q).1) ∧ va_RA U cA (zaf (M.2.2.2.1 r j q).1) ∧ ((M.2.2.2.1 r j q).1 = 22 → ∀ i, fits .char (.int (M.1 r j q i)) = true)
def zRel (b base : Nat) (ix : zR → Nat) (al : Nat → zR) (D : va_G) (U : State) (M : zM) (H : Heap) : Prop :=
  (H.size = base + M.2.2.2.2 ∧ b < base ∧ (∀ n, ix (al n) = n) ∧ (∀ n, (al n).1 ≠ 9)) ∧
  (∀ r j q, (M.2.2.2.1 r j q).1 ≠ 0 → r ≠ 9 → ix (r, j, q) < M.2.2.2.2 ∧ al (ix (r, j, q)) = (r, j, q)) ∧
  (∀ r j q ci, (M.2.2.2.1 r j q).1 = ci + 1 → ci < 11 → r ≠ 9 ∧ zobj (zrho b base ix) D M H r j q ci) ∧
  (∀ r j q, 19 < (M.2.2.2.1 r j q).1 → r ≠ 9 → zarr (zrho b base ix) U M H r j q) ∧
  (∀ j q, (M.2.2.2.1 9 j q).1 ≠ 0 → (M.2.2.2.1 9 j q).1 = 20 ∧ va_X b (M.2.2.2.1 9 j q).2 (M.1 9 j q) U H)
section
variable {b base : Nat} {ix : zR → Nat} {al : Nat → zR} {D : va_G} {U : State} {M M' : zM} {H H' : Heap}
theorem zrho_ne9 {r : zR} (h : r.1 ≠ 9) : zrho b base ix r = base + ix r := by
  unfold zrho
  rw [if_neg h]
theorem zRel.moved {U' : State} (h : zRel b base ix al D U M H) (hvm : U.vm.Alike U'.vm) : zRel b base ix al D U' M H := by
  obtain ⟨h1, h2, h3, h4, h5⟩ := h
  refine ⟨h1, h2, h3, fun r j q ht h9 => ?_, fun j q ht => ?_⟩
  · obtain ⟨cA, g1, g2, g3, g4⟩ := h4 r j q ht h9
    exact ⟨cA, g1, arrOfT_moved hvm g2, g3.moved hvm, g4⟩
  · obtain ⟨g1, scr, e1, e2, e3, e4, e5⟩ := h5 j q ht
    exact ⟨g1, scr, e1, State.isArrayOf_alike hvm e2, e3, e4, e5⟩
theorem zRel.inj (h : zRel b base ix al D U M H) {r j q r' j' q' : Nat} (h1 : (M.2.2.2.1 r j q).1 ≠ 0) (h2 : r ≠ 9) (h3 : (M.2.2.2.1 r' j' q').1 ≠ 0) (h4 : r' ≠ 9) (he : zrho b base ix (r, j, q) = zrho b base ix (r', j', q')) : (r, j, q) = (r', j', q') := by
  rw [zrho_ne9 h2, zrho_ne9 h4] at he
  have e : ix (r, j, q) = ix (r', j', q') := by omega
  have g1 := (h.2.1 r j q h1 h2).2
  have g2 := (h.2.1 r' j' q' h3 h4).2
  rw [← g1, ← g2, e]
/-- memory that agrees away from one cell -/
def zsame (M M' : zM) (r j q : Nat) : Prop := M'.2.2.2 = M.2.2.2 ∧ ∀ r' j' q', (r', j', q') ≠ (r, j, q) → ∀ kd i, zget M' kd r' j' q' i = zget M kd r' j' q' i
theorem zget0 (M : zM) (r j q i : Nat) : zget M 0 r j q i = zi (M.1 r j q i) := rfl
theorem zobj.keep {ρ : zR → Nat} {r j q ci : Nat} (h : zobj ρ D M H r j q ci) (he : ∀ kd i, zget M' kd r j q i = zget M kd r j q i) (hH : H'[ρ (r, j, q)]? = H[ρ (r, j, q)]?) : zobj ρ D M' H' r j q ci := by
  unfold zobj at h ⊢
  simp only [he]
  exact h.kept hH
theorem zarr.keep {ρ : zR → Nat} {r j q : Nat} (h : zarr ρ U M H r j q) (hS : M'.2.2.2.1 r j q = M.2.2.2.1 r j q) (he : ∀ kd i, zget M' kd r j q i = zget M kd r j q i) (hH : H'[ρ (r, j, q)]? = H[ρ (r, j, q)]?) : zarr ρ U M' H' r j q := by
  obtain ⟨cA, g1, g2, g3, g4⟩ := h
  refine ⟨cA, ?_, ?_, ?_, ?_⟩
  · rw [hS, hH]
    simp only [he]
    exact g1
  · rw [hS]; exact g2
  · rw [hS]; exact g3
  · rw [hS]
    intro ht i
    have e := he 0 i
    simp only [zget0] at e
    rw [Sum.inl.inj e]
    exact g4 ht i
theorem zRel.set (h : zRel b base ix al D U M H) {r j q : Nat} (hr : r ≠ 9) (ha : (M.2.2.2.1 r j q).1 ≠ 0) (hz : H'.size = H.size) (ho : ∀ a, a ≠ zrho b base ix (r, j, q) → H'[a]? = H[a]?) (hM : zsame M M' r j q)
    (hob : ∀ ci, (M.2.2.2.1 r j q).1 = ci + 1 → ci < 11 → zobj (zrho b base ix) D M' H' r j q ci) (har : 19 < (M.2.2.2.1 r j q).1 → zarr (zrho b base ix) U M' H' r j q) : zRel b base ix al D U M' H' := by
  obtain ⟨e4, em⟩ := hM
  obtain ⟨⟨h1, h1b, h1c, h1d⟩, h2, h3, h4, h5⟩ := id h
  have hb : b ≠ zrho b base ix (r, j, q) := by
    rw [zrho_ne9 hr]; omega
  refine ⟨⟨by rw [hz, e4]; exact h1, h1b, h1c, h1d⟩, by rw [e4]; exact h2, ?_, ?_, ?_⟩
  · intro r' j' q' ci ht hc
    rw [e4] at ht
    by_cases hq : (r', j', q') = (r, j, q)
    · cases hq
      exact ⟨hr, hob ci ht hc⟩
    · obtain ⟨g1, g2⟩ := h3 r' j' q' ci ht hc
      refine ⟨g1, g2.keep (em r' j' q' hq) (ho _ fun he => hq ?_)⟩
      exact h.inj (by rw [ht]; omega) g1 ha hr he
  · intro r' j' q' ht h9
    rw [e4] at ht
    by_cases hq : (r', j', q') = (r, j, q)
    · cases hq
      exact har ht
    · refine (h4 r' j' q' ht h9).keep (by rw [e4]) (em r' j' q' hq) (ho _ fun he => hq ?_)
      exact h.inj (by omega) h9 ha hr he
  · intro j' q' ht
    rw [e4] at ht ⊢
    obtain ⟨g1, scr, e1, e2, e3, e5, e6⟩ := h5 j' q' ht
    refine ⟨g1, scr, by rw [ho b hb]; exact e1, e2, e3, e5, fun i hi => ?_⟩
    have e := em 9 j' q' (by intro hq; cases hq; exact hr rfl) 0 i
    simp only [zget0] at e
    rw [Sum.inl.inj e]
    exact e6 i hi
theorem zup_s {α : Type} (f : Nat → α) (k : Nat) (v : α) : zup f k v k = v := by simp [zup]
theorem zup_n {α : Type} (f : Nat → α) {k i : Nat} (v : α) (h : i ≠ k) : zup f k v i = f i := by simp [zup, h]
theorem zup3_s {α : Type} (f : Nat → Nat → Nat → α) (r j q : Nat) (v : α) : zup3 f r j q v r j q = v := by simp [zup3, zup]
theorem zup3_n {α : Type} (f : Nat → Nat → Nat → α) {r j q r' j' q' : Nat} (v : α) (h : (r', j', q') ≠ (r, j, q)) : zup3 f r j q v r' j' q' = f r' j' q' := by
  unfold zup3
  by_cases h1 : r' = r
  · subst h1
    rw [zup_s]
    by_cases h2 : j' = j
    · subst h2
      rw [zup_s]
      exact zup_n _ _ (fun h3 => h (by rw [h3]))
    · rw [zup_n _ _ h2]
  · rw [zup_n _ _ h1]
theorem zup4_s {α : Type} (f : Nat → Nat → Nat → Nat → α) (r j q i : Nat) (v : α) (i' : Nat) : zup4 f r j q i v r j q i' = if i' = i then v else f r j q i' := by
  unfold zup4
  rw [zup3_s]
  rfl
theorem zup4_n {α : Type} (f : Nat → Nat → Nat → Nat → α) {r j q i r' j' q' : Nat} (v : α) (h : (r', j', q') ≠ (r, j, q)) : zup4 f r j q i v r' j' q' = f r' j' q' := by
  unfold zup4
  exact zup3_n _ _ h
theorem zget_I (I' : zI) (M : zM) {r j q : Nat} (h : I' r j q = M.1 r j q) (kd i : Nat) : zget (I', M.2) kd r j q i = zget M kd r j q i := by
  unfold zget
  split <;> first | rfl | (rw [show ((I', M.2) : zM).1 = I' from rfl, h])
theorem zget_L (L' : zL) (M : zM) {r j q : Nat} (h : L' r j q = M.2.1 r j q) (kd i : Nat) : zget (M.1, L', M.2.2) kd r j q i = zget M kd r j q i := by
  unfold zget
  split <;> first | rfl | (rw [show ((M.1, L', M.2.2) : zM).2.1 = L' from rfl, h])
theorem zget_P (P' : zP) (M : zM) {r j q : Nat} (h : P' r j q = M.2.2.1 r j q) (kd i : Nat) : zget (M.1, M.2.1, P', M.2.2.2) kd r j q i = zget M kd r j q i := by
  unfold zget
  split <;> first | rfl | (rw [show ((M.1, M.2.1, P', M.2.2.2) : zM).2.2.1 = P' from rfl, h])
theorem zsame_I {I' : zI} {r j q : Nat} (h : ∀ r' j' q', (r', j', q') ≠ (r, j, q) → I' r' j' q' = M.1 r' j' q') : zsame M (I', M.2) r j q := ⟨rfl, fun r' j' q' hq kd i => zget_I I' M (h r' j' q' hq) kd i⟩
theorem zsame_L {L' : zL} {r j q : Nat} (h : ∀ r' j' q', (r', j', q') ≠ (r, j, q) → L' r' j' q' = M.2.1 r' j' q') : zsame M (M.1, L', M.2.2) r j q := ⟨rfl, fun r' j' q' hq kd i => zget_L L' M (h r' j' q' hq) kd i⟩
theorem zsame_P {P' : zP} {r j q : Nat} (h : ∀ r' j' q', (r', j', q') ≠ (r, j, q) → P' r' j' q' = M.2.2.1 r' j' q') : zsame M (M.1, M.2.1, P', M.2.2.2) r j q := ⟨rfl, fun r' j' q' hq kd i => zget_P P' M (h r' j' q' hq) kd i⟩
/-- a new cell -/
theorem zRel.push (h : zRel b base ix al D U M H) {tag len : Nat} (hz : H'.size = H.size + 1) (ho : ∀ a, a < H.size → H'[a]? = H[a]?) (ht : tag ≠ 0) (hS : M'.2.2.2 = (zup3 M.2.2.2.1 (al M.2.2.2.2).1 (al M.2.2.2.2).2.1 (al M.2.2.2.2).2.2 (tag, len), M.2.2.2.2 + 1))
    (hM : ∀ r' j' q', (r', j', q') ≠ al M.2.2.2.2 → ∀ kd i, zget M' kd r' j' q' i = zget M kd r' j' q' i)
    (hob : ∀ ci, tag = ci + 1 → ci < 11 → zobj (zrho b base ix) D M' H' (al M.2.2.2.2).1 (al M.2.2.2.2).2.1 (al M.2.2.2.2).2.2 ci) (har : 19 < tag → zarr (zrho b base ix) U M' H' (al M.2.2.2.2).1 (al M.2.2.2.2).2.1 (al M.2.2.2.2).2.2) :
    zRel b base ix al D U M' H' ∧ zrho b base ix (al M.2.2.2.2) = H.size := by
  obtain ⟨⟨h1, h1b, h1c, h1d⟩, h2, h3, h4, h5⟩ := h
  have hal : al M.2.2.2.2 = ((al M.2.2.2.2).1, (al M.2.2.2.2).2.1, (al M.2.2.2.2).2.2) := rfl
  have hne : ∀ r j q, (r, j, q) ≠ al M.2.2.2.2 → M'.2.2.2.1 r j q = M.2.2.2.1 r j q := fun r j q hq => by rw [hS]; exact zup3_n _ _ (by rw [← hal]; exact hq)
  have hsf : M'.2.2.2.1 (al M.2.2.2.2).1 (al M.2.2.2.2).2.1 (al M.2.2.2.2).2.2 = (tag, len) := by rw [hS]; exact zup3_s _ _ _ _ _
  have htop : M'.2.2.2.2 = M.2.2.2.2 + 1 := by rw [hS]
  have hlt : ∀ r j q, (M.2.2.2.1 r j q).1 ≠ 0 → r ≠ 9 → zrho b base ix (r, j, q) < H.size := fun r j q g1 g2 => by
    have := (h2 r j q g1 g2).1
    rw [zrho_ne9 g2, h1]; omega
  refine ⟨⟨⟨by rw [hz, h1, htop]; omega, h1b, h1c, h1d⟩, ?_, ?_, ?_, ?_⟩, ?_⟩
  · intro r j q ha h9
    by_cases hq : (r, j, q) = al M.2.2.2.2
    · rw [hq, h1c, htop]
      exact ⟨by omega, rfl⟩
    · rw [hne r j q hq] at ha
      have := h2 r j q ha h9
      rw [htop]
      exact ⟨by omega, this.2⟩
  · intro r j q ci ha hc
    by_cases hq : (r, j, q) = al M.2.2.2.2
    · rw [← hq] at hsf hob
      rw [hsf] at ha
      refine ⟨?_, hob ci ha hc⟩
      have := h1d M.2.2.2.2
      rw [← hq] at this
      exact this
    · rw [hne r j q hq] at ha
      obtain ⟨g1, g2⟩ := h3 r j q ci ha hc
      exact ⟨g1, g2.keep (hM r j q hq) (ho _ (hlt r j q (by rw [ha]; omega) g1))⟩
  · intro r j q ha h9
    by_cases hq : (r, j, q) = al M.2.2.2.2
    · rw [← hq] at hsf har
      rw [hsf] at ha
      exact har ha
    · have e := hne r j q hq
      rw [e] at ha
      exact (h4 r j q ha h9).keep e (hM r j q hq) (ho _ (hlt r j q (by omega) h9))
  · intro j q ha
    have hq : ((9 : Nat), j, q) ≠ al M.2.2.2.2 := fun hq => h1d M.2.2.2.2 (by rw [← hq])
    have e := hne 9 j q hq
    rw [e] at ha ⊢
    obtain ⟨g1, scr, e1, e2, e3, e5, e6⟩ := h5 j q ha
    refine ⟨g1, scr, by rw [ho b (by omega)]; exact e1, e2, e3, e5, fun i hi => ?_⟩
    have e := hM 9 j q hq 0 i
    simp only [zget0] at e
    rw [Sum.inl.inj e]
    exact e6 i hi
  · rw [zrho_ne9 (h1d _), h1c, h1]
end
end
section
/-! one row a group of instructions: from the interpreter's step to the machine's -/
def zlen (i : Instr) : Nat := match i with
  | .aload _ => 2
  | .astore _ => 2
  | .bipush _ => 2
  | .iload _ => 2
  | .istore _ => 2
  | .lload _ => 2
  | .lstore _ => 2
  | .ldc _ => 2
  | .newarray _ => 2
  | .sipush _ => 3
  | .iinc _ _ => 3
  | .ldc_w _ => 3
  | .ldc2_w _ => 3
  | .getfield _ => 3
  | .putfield _ => 3
  | .goto _ => 3
  | .ifCond _ _ => 3
  | .if_icmp _ _ => 3
  | .invokevirtual _ => 3
  | .invokestatic _ => 3
  | .invokespecial _ => 3
  | .new _ => 3
  | .anewarray _ => 3
  | .checkcast _ => 3
  | _ => 1
def zconst (own : String) (i : Instr) (z : Int) (Ts : List Jvm.Cond) : Prop := match i with
  | .ldc idx => Jvm.Cond.constant own idx (Int32.ofInt z) ∈ Ts
  | .ldc_w idx => Jvm.Cond.constant own idx (Int32.ofInt z) ∈ Ts
  | .ldc2_w idx => Jvm.Cond.constantLong own idx (Int64.ofInt z) ∈ Ts
  | _ => True
theorem zop2_some {f : Int32 → Int32 → Int32} {st st' : List zV} (h : zop2 f st = some st') : ∃ y x r, st = zi y :: zi x :: r ∧ st' = zi (f x y) :: r := by
  unfold zop2 at h
  split at h
  · exact ⟨_, _, _, rfl, (Option.some.inj h).symm⟩
  · cases h
theorem zop2l_some {f : Int64 → Int64 → Int64} {st st' : List zV} (h : zop2l f st = some st') : ∃ y x r, st = zl y :: zl x :: r ∧ st' = zl (f x y) :: r := by
  unfold zop2l at h
  split at h
  · exact ⟨_, _, _, rfl, (Option.some.inj h).symm⟩
  · cases h
theorem zopsl_some {f : Int64 → Int32 → Int64} {st st' : List zV} (h : zopsl f st = some st') : ∃ y x r, st = zi y :: zl x :: r ∧ st' = zl (f x y) :: r := by
  unfold zopsl at h
  split at h
  · exact ⟨_, _, _, rfl, (Option.some.inj h).symm⟩
  · cases h
theorem zop1_some {f : Int32 → zV} {st st' : List zV} (h : zop1 f st = some st') : ∃ x r, st = zi x :: r ∧ st' = f x :: r := by
  unfold zop1 at h
  split at h
  · exact ⟨_, _, rfl, (Option.some.inj h).symm⟩
  · cases h
def zlr (ρ : zR → Nat) (ls : List (Option zV)) (rls : Array Slot) (nL : Nat) : Prop := ls.length = nL ∧ ∃ l, lv_has rls nL l ∧ ∀ k v, ls[k]? = some (some v) → (k, zcv ρ v) ∈ l
theorem zlr.get {ρ : zR → Nat} {ls : List (Option zV)} {rls : Array Slot} {nL k : Nat} {v : zV} (h : zlr ρ ls rls nL) (hk : ls[k]? = some (some v)) : rls[k]? = some (.val (zcv ρ v)) := by
  obtain ⟨-, l, h1, h2⟩ := h
  exact h1.2.2 _ (h2 k v hk)
theorem zlr.sz {ρ : zR → Nat} {ls : List (Option zV)} {rls : Array Slot} {nL : Nat} (h : zlr ρ ls rls nL) : rls.size = nL := by
  obtain ⟨-, l, h1, h2⟩ := h
  exact h1.1
theorem zkill_get {ls : List (Option zV)} {k k' : Nat} {v' : zV} (h : (zkill ls k)[k']? = some (some v')) : ls[k']? = some (some v') ∧ ¬ (k' + 1 = k ∧ zcat v' = 2) := by
  unfold zkill at h
  split at h
  · exact ⟨h, fun g => by omega⟩
  · rename_i k0
    split at h
    · rename_i x hx
      rw [List.getElem?_set] at h
      split at h
      · split at h <;> simp at h
      · exact ⟨h, fun g => by omega⟩
    · rename_i hx
      refine ⟨h, fun g => ?_⟩
      obtain ⟨g1, g2⟩ := g
      have e : k' = k0 := by omega
      subst e
      rcases v' with x | x | x <;> simp [zcat] at g2
      exact hx _ h
theorem zkill_len (ls : List (Option zV)) (k : Nat) : (zkill ls k).length = ls.length := by
  unfold zkill
  split
  · rfl
  · split
    · simp
    · rfl
theorem zsto_len (ls : List (Option zV)) (k : Nat) (v : zV) : (zsto ls k v).length = ls.length := by
  rcases v with x | x | x <;> simp [zsto, zkill_len]
theorem zset_get {ls : List (Option zV)} {k k' : Nat} {v v' : zV} (h : ((zkill ls k).set k (some v))[k']? = some (some v')) : (k' = k ∧ v' = v) ∨ (k' ≠ k ∧ ls[k']? = some (some v') ∧ ¬ (k' + 1 = k ∧ zcat v' = 2)) := by
  rw [List.getElem?_set] at h
  split at h
  · rename_i hk
    split at h
    · simp at h
      exact Or.inl ⟨hk.symm, h.symm⟩
    · simp at h
  · rename_i hk
    exact Or.inr ⟨fun e => hk e.symm, zkill_get h⟩
theorem zsto1_get {ls : List (Option zV)} {k k' : Nat} {v v' : zV} (hv : zcat v = 1) (h : (zsto ls k v)[k']? = some (some v')) : (k' = k ∧ v' = v) ∨ (k' ≠ k ∧ ls[k']? = some (some v') ∧ ¬ (k' + 1 = k ∧ zcat v' = 2)) := by
  rcases v with x | x | x
  · exact zset_get h
  · simp [zcat] at hv
  · exact zset_get h
theorem zsto2_get {ls : List (Option zV)} {k k' : Nat} {x : Int64} {v' : zV} (h : (zsto ls k (zl x))[k']? = some (some v')) : (k' = k ∧ v' = zl x) ∨ (k' ≠ k ∧ k' ≠ k + 1 ∧ ls[k']? = some (some v') ∧ ¬ (k' + 1 = k ∧ zcat v' = 2)) := by
  simp only [zsto] at h
  rw [List.getElem?_set] at h
  split at h
  · split at h <;> simp at h
  · rename_i hk
    rcases zset_get h with h | h
    · exact Or.inl h
    · exact Or.inr ⟨h.1, fun e => hk e.symm, h.2⟩
theorem zlr.sto1 {ρ : zR → Nat} {ls : List (Option zV)} {rls' : Array Slot} {nL k : Nat} {v : zV} {l : List (Nat × Value)} (h : ls.length = nL ∧ ∀ k v, ls[k]? = some (some v) → (k, zcv ρ v) ∈ l) (hv : zcat v = 1)
    (hs : lv_has rls' nL ((k, zcv ρ v) :: l.filter (fun q => !(q.1 == k) && !(q.1 + 1 == k && q.2.category == 2)))) : zlr ρ (zsto ls k v) rls' nL := by
  refine ⟨by rw [zsto_len]; exact h.1, _, hs, fun k' v' h' => ?_⟩
  rcases zsto1_get hv h' with ⟨e1, e2⟩ | ⟨g1, g2, g3⟩
  · rw [e1, e2]; exact List.mem_cons_self
  · refine List.mem_cons_of_mem _ (List.mem_filter.mpr ⟨h.2 k' v' g2, ?_⟩)
    have e : (zcv ρ v').category = zcat v' := zcv_cat ρ v'
    by_cases h1 : k' + 1 = k
    · have h2 : ¬ zcat v' = 2 := fun q => g3 ⟨h1, q⟩
      simp [g1, h1, e, h2]
    · simp [g1, h1]
theorem zlr.sto2 {ρ : zR → Nat} {ls : List (Option zV)} {rls' : Array Slot} {nL k : Nat} {x : Int64} {l : List (Nat × Value)} (h : ls.length = nL ∧ ∀ k v, ls[k]? = some (some v) → (k, zcv ρ v) ∈ l)
    (hs : lv_has rls' nL ((k, Value.long x) :: l.filter (fun q => !(q.1 == k) && (!(q.1 == k + 1) && !(q.1 + 1 == k && q.2.category == 2))))) : zlr ρ (zsto ls k (zl x)) rls' nL := by
  refine ⟨by rw [zsto_len]; exact h.1, _, hs, fun k' v' h' => ?_⟩
  rcases zsto2_get h' with ⟨e1, e2⟩ | ⟨g1, g0, g2, g3⟩
  · rw [e1, e2]; exact List.mem_cons_self
  · refine List.mem_cons_of_mem _ (List.mem_filter.mpr ⟨h.2 k' v' g2, ?_⟩)
    have e : (zcv ρ v').category = zcat v' := zcv_cat ρ v'
    by_cases h1 : k' + 1 = k
    · have h2 : ¬ zcat v' = 2 := fun q => g3 ⟨h1, q⟩
      simp [g0, g1, h1, e, h2]
    · simp [g0, g1, h1]
section
variable {p : Program} {l : Launch} {e : Env} {R : Room} {s : State} {m : MethodId} {args : Array Value} {below : List Frame} {meth : Method} {c : Code} {H : Heap} {locs : List Loc} {cells slots : Nat} {Q : State → Prop}
variable {cc : ByteArray} {pc len : Nat} {rls : Array Slot} {st st' : List zV} {ρ : zR → Nat} {i : Instr} {z : Int} {own : String} {Ts : List Jvm.Cond}
theorem zW_op (hx : p.tables.exec = Jvm.exec) (hb : c.code = cc) (hown : s.vm.findClass own = some m.cls) (hts : ∀ w ∈ Ts, w.before args s = true) (hd : decode cc pc = .ok (i, len)) (hlen : len = zlen i) (hc : zconst own i z Ts) (hop : zop i z st = some st')
    (k : W p l e R s m args below meth c H locs cells slots Q (F0 m (pc + len) rls (st'.map (zcv ρ)))) : W p l e R s m args below meth c H locs cells slots Q (F0 m pc rls (st.map (zcv ρ))) := by
  subst hlen
  cases i <;> first
    | (simp [zop] at hop; done)
    | skip
  case iconst k0 => simp only [zop, Option.some.injEq] at hop; subst hop; exact lv_iconst hx hb hd rfl k
  case bipush k0 => simp only [zop, Option.some.injEq] at hop; subst hop; exact lv_bipush hx hb hd rfl k
  case sipush k0 => simp only [zop, Option.some.injEq] at hop; subst hop; exact lv_sipush hx hb hd rfl k
  case lconst k0 => simp only [zop, Option.some.injEq] at hop; subst hop; exact lv_lconst hx hb hd rfl k
  case ldc k0 => simp only [zop, Option.some.injEq] at hop; subst hop; exact lv_ldc hx hb hown (hts _ hc) hd k
  case ldc_w k0 => simp only [zop, Option.some.injEq] at hop; subst hop; exact lv_ldcw hx hb hown (hts _ hc) hd k
  case ldc2_w k0 => simp only [zop, Option.some.injEq] at hop; subst hop; exact lv_ldc2 hx hb hown (hts _ hc) hd k
  case iadd => obtain ⟨y, x, r, rfl, rfl⟩ := zop2_some hop; exact lv_iadd hx hb hd k
  case isub => obtain ⟨y, x, r, rfl, rfl⟩ := zop2_some hop; exact lv_isub hx hb hd k
  case imul => obtain ⟨y, x, r, rfl, rfl⟩ := zop2_some hop; exact lv_imul hx hb hd k
  case iand => obtain ⟨y, x, r, rfl, rfl⟩ := zop2_some hop; exact lv_iand hx hb hd k
  case ior => obtain ⟨y, x, r, rfl, rfl⟩ := zop2_some hop; exact lv_ior hx hb hd k
  case ixor => obtain ⟨y, x, r, rfl, rfl⟩ := zop2_some hop; exact lv_ixor hx hb hd k
  case ishl => obtain ⟨y, x, r, rfl, rfl⟩ := zop2_some hop; exact lv_ishl hx hb hd k
  case ishr => obtain ⟨y, x, r, rfl, rfl⟩ := zop2_some hop; exact lv_ishr hx hb hd k
  case iushr => obtain ⟨y, x, r, rfl, rfl⟩ := zop2_some hop; exact lv_iushr hx hb hd rfl k
  case ineg => obtain ⟨x, r, rfl, rfl⟩ := zop1_some hop; exact lv_ineg hx hb hd k
  case i2l => obtain ⟨x, r, rfl, rfl⟩ := zop1_some hop; exact lv_i2l hx hb hd rfl k
  case i2b => obtain ⟨x, r, rfl, rfl⟩ := zop1_some hop; exact lv_i2b hx hb hd rfl k
  case i2s => obtain ⟨x, r, rfl, rfl⟩ := zop1_some hop; exact lv_i2s hx hb hd rfl k
  case i2c => obtain ⟨x, r, rfl, rfl⟩ := zop1_some hop; exact lv_i2c hx hb hd rfl k
  case l2i =>
    simp only [zop] at hop
    split at hop
    · simp only [Option.some.injEq] at hop; subst hop; exact lv_l2i hx hb hd rfl k
    · cases hop
  case ladd => obtain ⟨y, x, r, rfl, rfl⟩ := zop2l_some hop; exact lv_ladd hx hb hd k
  case lmul => obtain ⟨y, x, r, rfl, rfl⟩ := zop2l_some hop; exact lv_lmul hx hb hd k
  case land => obtain ⟨y, x, r, rfl, rfl⟩ := zop2l_some hop; exact lv_land hx hb hd k
  case lor => obtain ⟨y, x, r, rfl, rfl⟩ := zop2l_some hop; exact lv_lor hx hb hd k
  case lshl => obtain ⟨y, x, r, rfl, rfl⟩ := zopsl_some hop; exact lv_lshl hx hb hd rfl k
  case lshr => obtain ⟨y, x, r, rfl, rfl⟩ := zopsl_some hop; exact lv_lshr hx hb hd rfl k
  case lcmp =>
    simp only [zop] at hop
    split at hop
    · simp only [Option.some.injEq] at hop; subst hop; exact W.lcmp hx hb hd k
    · cases hop
  case dup =>
    simp only [zop] at hop
    split at hop
    · simp only [Option.some.injEq] at hop; subst hop; exact lv_dup hx hb hd rfl k
    · rename_i x r
      simp only [Option.some.injEq] at hop; subst hop; exact lv_dup hx hb hd (by rw [zcv_cat]; rfl) k
    · cases hop
  case pop =>
    simp only [zop] at hop
    split at hop
    · simp only [Option.some.injEq] at hop; subst hop; exact lv_pop hx hb hd rfl k
    · simp only [Option.some.injEq] at hop; subst hop; exact lv_pop hx hb hd (by rw [zcv_cat]; rfl) k
    · cases hop
  case dup2 =>
    simp only [zop] at hop
    split at hop
    · simp only [Option.some.injEq] at hop; subst hop; exact lv_dup2_11 hx hb hd rfl (by rw [zcv_cat]; rfl) k
    · simp only [Option.some.injEq] at hop; subst hop; exact lv_dup2_11 hx hb hd rfl rfl k
    · simp only [Option.some.injEq] at hop; subst hop; exact lv_dup2_2 hx hb hd rfl k
    · cases hop
theorem zW_ld {ls : List (Option zV)} {nL k kd : Nat} {v : zV} (hx : p.tables.exec = Jvm.exec) (hb : c.code = cc) (hd : decode cc pc = .ok (i, len)) (hlen : len = zlen i) (hop : zld i = some (k, kd)) (hl : zlr ρ ls rls nL) (hk : ls[k]? = some (some v)) (hkd : zkd v = kd)
    (kk : W p l e R s m args below meth c H locs cells slots Q (F0 m (pc + len) rls (zcv ρ v :: st.map (zcv ρ)))) : W p l e R s m args below meth c H locs cells slots Q (F0 m pc rls (st.map (zcv ρ))) := by
  subst hlen
  have hg := hl.get hk
  cases i <;> first
    | (simp [zld] at hop; done)
    | skip
  case iload k0 =>
    simp only [zld, Option.some.injEq, Prod.mk.injEq] at hop
    obtain ⟨rfl, rfl⟩ := hop
    rcases v with x | x | x <;> simp [zkd] at hkd
    exact lv_iload hx hb hd hg kk
  case iload_n k0 =>
    simp only [zld, Option.some.injEq, Prod.mk.injEq] at hop
    obtain ⟨rfl, rfl⟩ := hop
    rcases v with x | x | x <;> simp [zkd] at hkd
    exact lv_iload_n hx hb hd rfl hg kk
  case lload k0 =>
    simp only [zld, Option.some.injEq, Prod.mk.injEq] at hop
    obtain ⟨rfl, rfl⟩ := hop
    rcases v with x | x | x <;> simp [zkd] at hkd
    exact lv_lload hx hb hd hg kk
  case lload_n k0 =>
    simp only [zld, Option.some.injEq, Prod.mk.injEq] at hop
    obtain ⟨rfl, rfl⟩ := hop
    rcases v with x | x | x <;> simp [zkd] at hkd
    exact lv_lload_n hx hb hd rfl hg kk
  case aload k0 =>
    simp only [zld, Option.some.injEq, Prod.mk.injEq] at hop
    obtain ⟨rfl, rfl⟩ := hop
    rcases v with x | x | _ | x <;> simp [zkd] at hkd
    · exact lv_aloadN hx hb hd hg kk
    · exact lv_aload hx hb hd hg kk
  case aload_n k0 =>
    simp only [zld, Option.some.injEq, Prod.mk.injEq] at hop
    obtain ⟨rfl, rfl⟩ := hop
    rcases v with x | x | _ | x <;> simp [zkd] at hkd
    · exact lv_aload_nN hx hb hd rfl hg kk
    · exact lv_aload_n hx hb hd rfl hg kk
theorem zW_sr {ls : List (Option zV)} {nL k kd : Nat} {v : zV} (hx : p.tables.exec = Jvm.exec) (hb : c.code = cc) (hd : decode cc pc = .ok (i, len)) (hlen : len = zlen i) (hop : zsr i = some (k, kd)) (hl : zlr ρ ls rls nL) (hkd : zkd v = kd) (hk : k + zcat v ≤ nL)
    (kk : ∀ rls' : Array Slot, zlr ρ (zsto ls k v) rls' nL → W p l e R s m args below meth c H locs cells slots Q (F0 m (pc + len) rls' (st.map (zcv ρ)))) : W p l e R s m args below meth c H locs cells slots Q (F0 m pc rls (zcv ρ v :: st.map (zcv ρ))) := by
  subst hlen
  obtain ⟨h0, lv, h1, h2⟩ := hl
  cases i <;> first
    | (simp [zsr] at hop; done)
    | skip
  case istore k0 =>
    simp only [zsr, Option.some.injEq, Prod.mk.injEq] at hop
    obtain ⟨rfl, rfl⟩ := hop
    rcases v with x | x | x <;> simp [zkd] at hkd
    exact lv_istore hx hb hd h1 hk rfl (fun rls' hr => kk rls' (zlr.sto1 (v := zi x) ⟨h0, h2⟩ rfl hr))
  case istore_n k0 =>
    simp only [zsr, Option.some.injEq, Prod.mk.injEq] at hop
    obtain ⟨rfl, rfl⟩ := hop
    rcases v with x | x | x <;> simp [zkd] at hkd
    exact lv_istore_n hx hb hd rfl h1 hk rfl (fun rls' hr => kk rls' (zlr.sto1 (v := zi x) ⟨h0, h2⟩ rfl hr))
  case lstore k0 =>
    simp only [zsr, Option.some.injEq, Prod.mk.injEq] at hop
    obtain ⟨rfl, rfl⟩ := hop
    rcases v with x | x | x <;> simp [zkd] at hkd
    exact lv_lstore hx hb hd h1 hk rfl (fun rls' hr => kk rls' (zlr.sto2 ⟨h0, h2⟩ hr))
  case lstore_n k0 =>
    simp only [zsr, Option.some.injEq, Prod.mk.injEq] at hop
    obtain ⟨rfl, rfl⟩ := hop
    rcases v with x | x | x <;> simp [zkd] at hkd
    exact lv_lstore_n hx hb hd rfl h1 hk rfl (fun rls' hr => kk rls' (zlr.sto2 ⟨h0, h2⟩ hr))
  case astore k0 =>
    simp only [zsr, Option.some.injEq, Prod.mk.injEq] at hop
    obtain ⟨rfl, rfl⟩ := hop
    rcases v with x | x | _ | x <;> simp [zkd] at hkd
    · exact lv_astoreN hx hb hd h1 hk rfl (fun rls' hr => kk rls' (zlr.sto1 (v := zr none) ⟨h0, h2⟩ rfl hr))
    · exact lv_astore hx hb hd h1 hk rfl (fun rls' hr => kk rls' (zlr.sto1 (v := zr (some x)) ⟨h0, h2⟩ rfl hr))
  case astore_n k0 =>
    simp only [zsr, Option.some.injEq, Prod.mk.injEq] at hop
    obtain ⟨rfl, rfl⟩ := hop
    rcases v with x | x | _ | x <;> simp [zkd] at hkd
    · exact lv_astore_nN hx hb hd rfl h1 hk rfl (fun rls' hr => kk rls' (zlr.sto1 (v := zr none) ⟨h0, h2⟩ rfl hr))
    · exact lv_astore_n hx hb hd rfl h1 hk rfl (fun rls' hr => kk rls' (zlr.sto1 (v := zr (some x)) ⟨h0, h2⟩ rfl hr))
theorem zW_iinc {ls : List (Option zV)} {nL k : Nat} {y : Int} {x : Int32} (hx : p.tables.exec = Jvm.exec) (hb : c.code = cc) (hd : decode cc pc = .ok (.iinc k y, 3)) (hl : zlr ρ ls rls nL) (hk : ls[k]? = some (some (zi x)))
    (kk : ∀ rls' : Array Slot, zlr ρ (zsto ls k (zi (x + Int32.ofInt y))) rls' nL → W p l e R s m args below meth c H locs cells slots Q (F0 m (pc + 3) rls' (st.map (zcv ρ)))) : W p l e R s m args below meth c H locs cells slots Q (F0 m pc rls (st.map (zcv ρ))) := by
  obtain ⟨h0, lv, h1, h2⟩ := hl
  obtain ⟨k1, hk1⟩ := List.getElem?_of_mem (h2 k _ hk)
  have hlt : k < nL := by
    rw [← h0]
    exact (List.getElem?_eq_some_iff.mp hk).1
  exact lv_iinc hx hb hd h1 hk1 rfl hlt rfl (fun rls' hr => kk rls' (zlr.sto1 (v := zi (x + Int32.ofInt y)) ⟨h0, h2⟩ rfl hr))
/-- jumps have a place -/
def zjok (i : Instr) (pc : Nat) : Prop := match i with
  | .goto off => 0 ≤ (pc : Int) + off
  | .ifCond _ off => 0 ≤ (pc : Int) + off
  | .if_icmp _ off => 0 ≤ (pc : Int) + off
  | .tableswitch dflt lo hi offs => 0 ≤ (pc : Int) + dflt ∧ (offs.size : Int) = hi - lo + 1 ∧ ∀ o ∈ offs.toList, 0 ≤ (pc : Int) + o
  | _ => True
theorem zj_eq {pc : Nat} {off : Int} (h : 0 ≤ (pc : Int) + off) : (pc : Int) + off = (zj pc off : Int) := by
  unfold zj
  omega
theorem zW_br (hx : p.tables.exec = Jvm.exec) (hb : c.code = cc) (hd : decode cc pc = .ok (i, len)) (hlen : (∀ a b d f, i ≠ .tableswitch a b d f) → len = zlen i) (hj : zjok i pc) {K : Nat → List zV → Prop} (hop : zbr i pc len st K)
    (kk : ∀ pc' st', K pc' st' → W p l e R s m args below meth c H locs cells slots Q (F0 m pc' rls (st'.map (zcv ρ)))) : W p l e R s m args below meth c H locs cells slots Q (F0 m pc rls (st.map (zcv ρ))) := by
  unfold zbr at hop
  split at hop
  · rename_i off
    cases hlen (fun _ _ _ _ h => by cases h)
    exact lv_goto hx hb hd (zj_eq hj) (kk _ _ hop)
  · rename_i cd off
    cases hlen (fun _ _ _ _ h => by cases h)
    split at hop
    · rename_i x t
      cases cd
      · exact lv_if_eq hx hb hd (zj_eq hj) (fun h => kk _ _ (hop.1 h)) (fun h => kk _ _ (hop.2 h))
      · exact lv_if_ne hx hb hd (zj_eq hj) (fun h => kk _ _ (hop.1 h)) (fun h => kk _ _ (hop.2 (fun g => g h)))
      · exact lv_if_lt hx hb hd (zj_eq hj) (fun h => kk _ _ (hop.1 h)) (fun h => kk _ _ (hop.2 h))
      · exact lv_if_ge hx hb hd (zj_eq hj) (fun h => kk _ _ (hop.1 h)) (fun h => kk _ _ (hop.2 h))
      · exact lv_if_gt hx hb hd (zj_eq hj) (fun h => kk _ _ (hop.1 h)) (fun h => kk _ _ (hop.2 h))
      · exact lv_if_le hx hb hd (zj_eq hj) (fun h => kk _ _ (hop.1 h)) (fun h => kk _ _ (hop.2 h))
    · exact hop.elim
  · rename_i cd off
    cases hlen (fun _ _ _ _ h => by cases h)
    split at hop
    · rename_i y x t
      cases cd
      · exact lv_icmp_eq hx hb hd (zj_eq hj) (fun h => kk _ _ (hop.1 h)) (fun h => kk _ _ (hop.2 h))
      · exact lv_icmp_ne hx hb hd (zj_eq hj) (fun h => kk _ _ (hop.1 h)) (fun h => kk _ _ (hop.2 (fun g => g h)))
      · exact lv_icmp_lt hx hb hd (zj_eq hj) (fun h => kk _ _ (hop.1 h)) (fun h => kk _ _ (hop.2 h))
      · exact lv_icmp_ge hx hb hd (zj_eq hj) (fun h => kk _ _ (hop.1 h)) (fun h => kk _ _ (hop.2 h))
      · exact lv_icmp_gt hx hb hd (zj_eq hj) (fun h => kk _ _ (hop.1 h)) (fun h => kk _ _ (hop.2 h))
      · exact lv_icmp_le hx hb hd (zj_eq hj) (fun h => kk _ _ (hop.1 h)) (fun h => kk _ _ (hop.2 h))
    · exact hop.elim
  · rename_i dflt lo hi offs
    split at hop
    · rename_i x t
      obtain ⟨j1, j2, j3⟩ := hj
      by_cases hc : x.toInt < lo ∨ hi < x.toInt
      · rw [show ztw pc dflt lo hi offs x = zj pc dflt by unfold ztw; rw [if_pos hc]] at hop
        exact lv_tableOut hx hb hd hc (zj_eq j1) (kk _ _ hop)
      · have c1 : ¬ x.toInt < lo := fun h => hc (Or.inl h)
        have c2 : ¬ hi < x.toInt := fun h => hc (Or.inr h)
        have hlt : (x.toInt - lo).toNat < offs.size := by omega
        have ho : offs[(x.toInt - lo).toNat]? = some offs[(x.toInt - lo).toNat] := Array.getElem?_eq_getElem hlt
        rw [show ztw pc dflt lo hi offs x = zj pc offs[(x.toInt - lo).toNat] by unfold ztw; rw [if_neg hc, ho]; rfl] at hop
        exact lv_tableIn hx hb hd c1 c2 ho (zj_eq (j3 _ (by simp))) (kk _ _ hop)
    · exact hop.elim
  · exact hop.elim
end
end
section
/-! memory instructions, cells that are made, the machine's own methods -/
def zcls (Ts : List Jvm.Cond) : Prop := ∀ ci, ci < 11 → (∀ w ∈ u_ws (zcl ci).1 (zcl ci).2.1 (zcl ci).2.2, w ∈ Ts) ∧ (∀ k, k < (zcl ci).2.2 → parseFieldDescriptor ((zcl ci).2.1 k).2.2.1 = some (zty ci k)) ∧ (∀ a, a < (zcl ci).2.2 → ∀ b, b < (zcl ci).2.2 → a ≠ b → ((zcl ci).2.1 a).2.1 ≠ ((zcl ci).2.1 b).2.1) ∧ Jvm.Cond.instantiable (zcl ci).1 (zcl ci).2.2 ∈ Ts ∧ Jvm.Cond.initialized (zcl ci).1 ∈ Ts ∧ ∀ k, k < (zcl ci).2.2 → zkf (zty ci k) ≠ 9
theorem zcl_at {ci : Nat} (h : ci < 11) : vwCl[ci]? = some (zcl ci) := by
  unfold zcl
  rw [List.getD_eq_getElem?_getD, List.getElem?_eq_getElem (show ci < vwCl.length from h)]
  rfl
/-- what holds of the machine's classes at every state of the run -/
def zK (Nw : List Jvm.Cond) (AO : List String) (D : va_G) (U : State) : Prop := va_K D vwCl [] U ∧ (∀ w ∈ Nw, va_Nw w U) ∧ ∀ C ∈ AO, va_AO C U
/-- a word that stays when the machine has warmed -/
def znw (w : Jvm.Cond) : Prop := (∃ a i b n d h, w = .fieldLinkNest a i b n d h) ∨ (∃ a i x h, w = .methodLinkNest a i x h) ∨ ∃ C T, w = .castable C T
theorem zK.warm {Nw : List Jvm.Cond} {AO : List String} {D : va_G} {s U : State} (hN : ∀ w ∈ Nw, znw w) (hW : s.WarmedH U.vm) (h : zK Nw AO D s) : zK Nw AO D U := by
  obtain ⟨h1, h2, h3⟩ := h
  refine ⟨va_K.moved hW.alike h1, fun w hw => ?_, fun C hC => (h3 C hC).moved hW.alike⟩
  have h4 := h2 w hw
  rcases hN w hw with ⟨a, i, b, n, d, h, rfl⟩ | ⟨a, i, x, h, rfl⟩ | ⟨C, T, rfl⟩
  · exact va_Nw.warmF hW h4
  · exact va_Nw.warmM hW h4
  · exact va_Nw.warmC hW h4
theorem zK.same {Nw : List Jvm.Cond} {AO : List String} {D : va_G} {s U : State} (hN : ∀ w ∈ Nw, znw w) (hW : s.vm = U.vm) (h : zK Nw AO D s) : zK Nw AO D U := by
  obtain ⟨h1, h2, h3⟩ := h
  have ha : s.vm.Alike U.vm := by rw [hW]; exact Vm.Alike.refl U.vm
  refine ⟨va_K.moved ha h1, fun w hw => ?_, fun C hC => (h3 C hC).moved ha⟩
  have h4 := h2 w hw
  rcases hN w hw with ⟨a, i, b, n, d, h, rfl⟩ | ⟨a, i, x, h, rfl⟩ | ⟨C, T, rfl⟩
  · exact va_Nw.same rfl hW h4
  · exact va_Nw.same rfl hW h4
  · exact va_Nw.same rfl hW h4
/-- a field's link -/
def zfok (Ts Nw : List Jvm.Cond) (own : String) (idx ci f kd : Nat) : Prop := ci < 11 ∧ f < (zcl ci).2.2 ∧ zkf (zty ci f) = kd ∧ (Jvm.Cond.fieldLink own idx ((zcl ci).2.1 f).1 ((zcl ci).2.1 f).2.1 ((zcl ci).2.1 f).2.2.1 ∈ Ts ∨ ∃ host, Jvm.Cond.fieldLinkNest own idx ((zcl ci).2.1 f).1 ((zcl ci).2.1 f).2.1 ((zcl ci).2.1 f).2.2.1 host ∈ Nw)
/-- a field that is written -/
def zpok (Ts : List Jvm.Cond) (own mn : String) (idx ci f kd : Nat) : Prop := ci < 11 ∧ f < (zcl ci).2.2 ∧ zkf (zty ci f) = kd ∧ Jvm.Cond.fieldLink own idx ((zcl ci).2.1 f).1 ((zcl ci).2.1 f).2.1 ((zcl ci).2.1 f).2.2.1 ∈ Ts ∧ (((zcl ci).2.1 f).2.2.2 = false ∨ (((zcl ci).2.1 f).2.2.2 = true ∧ mn = "<init>" ∧ ((zcl ci).2.1 f).1 = own))
/-- what the tables say of a memory instruction -/
def zmok (Ts Nw : List Jvm.Cond) (own mn : String) (i : Instr) (a : List Nat) : Prop := match i with
  | .getfield idx => ∃ ci f kd, a = [ci, f, kd] ∧ zfok Ts Nw own idx ci f kd
  | .putfield idx => ∃ ci f kd, a = [ci, f, kd] ∧ zpok Ts own mn idx ci f kd
  | .checkcast idx => ∃ tag, a = [tag] ∧ (tag = 20 ∨ tag = 22) ∧ Jvm.Cond.classLink own idx ("[" ++ (zaf tag).toString) ∈ Ts
  | _ => True
theorem zch_fits (x : Int32) : fits .char (.int (vp_nar .char x)) = true := by
  rw [vp_nar_char]
  have h : 0 ≤ x.toUInt32.toUInt16.toUInt32.toInt32 ∧ x.toUInt32.toUInt16.toUInt32.toInt32 ≤ 65535 := by
    have e : x.toUInt32.toUInt16.toUInt32.toInt32.toInt = (x.toUInt32.toNat % 65536 : Nat) := by
      have h1 : x.toUInt32.toUInt16.toUInt32.toNat = x.toUInt32.toNat % 65536 := by simp
      have h2 : x.toUInt32.toUInt16.toUInt32.toInt32.toInt = (x.toUInt32.toUInt16.toUInt32.toNat : Int).bmod (2 ^ 32) := by
        show (Int32.toBitVec _).toInt = _
        rw [BitVec.toInt_eq_toNat_bmod]
        rfl
      rw [h2, h1]
      have h3 : x.toUInt32.toNat % 65536 < 65536 := Nat.mod_lt _ (by decide)
      rw [Int.bmod_def]
      omega
    have h3 : x.toUInt32.toNat % 65536 < 65536 := Nat.mod_lt _ (by decide)
    rw [Int32.le_iff_toInt_le, Int32.le_iff_toInt_le, e]
    have e0 : (0 : Int32).toInt = 0 := rfl
    have e1 : (65535 : Int32).toInt = 65535 := rfl
    rw [e0, e1]
    omega
  simp only [fits, Bool.and_eq_true, decide_eq_true_eq]
  exact h
theorem zkf_narrow {ty : FieldType} {kd : Nat} (h : zkf ty = kd) (ρ : zR → Nat) (v : zV) (hv : (kd = 0 ∧ ∃ x, v = zi x) ∨ (kd = 3 ∧ ∃ x, v = zi x ∧ (x = 0 ∨ x = 1)) ∨ (kd = 1 ∧ ∃ x, v = zl x) ∨ (kd = 2 ∧ ∃ x, v = zr x)) : narrow ty (zcv ρ v) = zcv ρ v ∧ fits ty (zcv ρ v) = true := by
  subst h
  rcases hv with ⟨h, x, rfl⟩ | ⟨h, x, rfl, hx⟩ | ⟨h, x, rfl⟩ | ⟨h, x, rfl⟩
  · cases ty <;> simp [zkf] at h
    exact ⟨rfl, rfl⟩
  · cases ty <;> simp [zkf] at h
    rcases hx with rfl | rfl <;> exact ⟨rfl, rfl⟩
  · cases ty <;> simp [zkf] at h
    exact ⟨rfl, rfl⟩
  · cases ty <;> simp [zkf] at h
    · cases x <;> exact ⟨rfl, rfl⟩
    · cases x <;> exact ⟨rfl, rfl⟩
section
variable {p : Program} {l : Launch} {e : Env} {R : Room} {s : State} {m : MethodId} {args : Array Value} {below : List Frame} {meth : Method} {c : Code} {H : Heap} {locs : List Loc} {cells slots : Nat} {Q : State → Prop}
variable {cc : ByteArray} {pc len : Nat} {rls : Array Slot} {st : List zV} {i : Instr} {own : String} {Ts Nw : List Jvm.Cond} {AO : List String} {D : va_G} {b base : Nat} {ix : zR → Nat} {al : Nat → zR} {M : zM}
theorem zW_get (hx : p.tables.exec = Jvm.exec) (hb : c.code = cc) (hown : s.vm.findClass own = some m.cls) (hts : ∀ w ∈ Ts, w.before args s = true) (hcls : zcls Ts) (hK : zK Nw AO D s) (hR : zRel b base ix al D s M H) {idx ci f kd r j q : Nat} (hf : zfok Ts Nw own idx ci f kd) (hS : (M.2.2.2.1 r j q).1 = ci + 1) {v : Value} (hv : v = zcv (zrho b base ix) (zget M kd r j q f)) (hd : decode cc pc = .ok (.getfield idx, 3)) {rest : List Value}
    (k : W p l e R s m args below meth c H locs cells slots Q (F0 m (pc + 3) rls (v :: rest))) : W p l e R s m args below meth c H locs cells slots Q (F0 m pc rls (.ref (zrho b base ix (r, j, q)) :: rest)) := by
  obtain ⟨hci, hfN, hkd, hl⟩ := hf
  obtain ⟨-, cell, q1, q2, q3, q4⟩ := hR.2.2.1 r j q ci hS hci
  obtain ⟨hSl, hfc, kC, hkC, hkind⟩ := hK.1.1 ci _ (zcl_at hci)
  obtain ⟨cf, kf, fi, fd, hi, hsl⟩ := hSl f hfN
  have hst := (u_facts hfc hkC (u_lays hts (hcls ci hci).1 hfN) hi).1
  subst hv
  rcases hl with hl | ⟨host, hl⟩
  · refine W.getf hx hb hown (hts _ hl) hi hst q1 (by rw [q3]; exact fun h => by cases h) ?_ rfl rfl hd k
    rw [hsl, q4 f hfN]
    show some (zcv _ (zget M (zkf (zty ci f)) r j q f)) = _
    rw [hkd]
  · refine va_Wgetf hx hb hown (va_Nw.use rfl (hK.2.1 _ hl)) hi hst q1 (by rw [q3]; exact fun h => by cases h) ?_ rfl rfl hd k
    rw [hsl, q4 f hfN]
    show some (zcv _ (zget M (zkf (zty ci f)) r j q f)) = _
    rw [hkd]
/-- a store into a field: the machine's side and the memory's -/
theorem zW_put (hx : p.tables.exec = Jvm.exec) (hb : c.code = cc) (hown : s.vm.findClass own = some m.cls) (hts : ∀ w ∈ Ts, w.before args s = true) (hcls : zcls Ts) (hK : zK Nw AO D s) (hR : zRel b base ix al D s M H) {idx ci f kd r j q : Nat} (hf : zpok Ts own meth.name idx ci f kd) (hS : (M.2.2.2.1 r j q).1 = ci + 1) {M' : zM} {v : zV}
    (hn : narrow (zty ci f) (zcv (zrho b base ix) v) = zcv (zrho b base ix) v ∧ fits (zty ci f) (zcv (zrho b base ix) v) = true) (hM : zsame M M' r j q) (hself : ∀ k, k < (zcl ci).2.2 → zget M' (zkf (zty ci k)) r j q k = if k = f then v else zget M (zkf (zty ci k)) r j q k)
    (hd : decode cc pc = .ok (.putfield idx, 3)) {rest : List Value}
    (k : ∀ (H' : Heap) (slot : Nat), zRel b base ix al D s M' H' → W p l e R s m args below meth c H' (locs ++ [⟨zrho b base ix (r, j, q), slot⟩]) cells slots Q (F0 m (pc + 3) rls rest)) : W p l e R s m args below meth c H locs cells slots Q (F0 m pc rls (zcv (zrho b base ix) v :: .ref (zrho b base ix (r, j, q)) :: rest)) := by
  obtain ⟨hci, hfN, hkd, hl, hfin⟩ := hf
  obtain ⟨h9, cell, q1, q2, q3, q4⟩ := hR.2.2.1 r j q ci hS hci
  obtain ⟨w1, w2, w3, -, -, -⟩ := hcls ci hci
  have hap := va_apart (own := own) hts w1 (zty ci) w2 w3 hK.1 (zcl_at hci)
  obtain ⟨hSl, hfc, kC, hkC, hkind⟩ := hK.1.1 ci _ (zcl_at hci)
  obtain ⟨cf, kf, fi, fd, hi, hsl⟩ := hSl f hfN
  have hst := (u_facts hfc hkC (u_lays hts w1 hfN) hi).1
  have hlay := hts _ (w1 _ (u_in_lay hfN))
  unfold u_lay at hlay
  have fin : ∀ H' : Heap, H'[zrho b base ix (r, j, q)]? = some (cell.setSlot fd.slot (zcv (zrho b base ix) v)) → H'.size = H.size → (∀ a, a ≠ zrho b base ix (r, j, q) → H'[a]? = H[a]?) → zRel b base ix al D s M' H' := by
    intro H' e1 e2 e3
    rw [hsl] at e1
    refine hR.set h9 (by rw [hS]; omega) e2 e3 hM (fun ci' hc' _ => ?_) (fun ha => by omega)
    have : ci' = ci := by omega
    subst this
    refine t_OB.to (V := updV (fun k => zcv (zrho b base ix) (zget M (zkf (zty ci' k)) r j q k)) f (zcv (zrho b base ix) v)) ⟨_, e1, q2, q3, t_set q4 hap hfN _⟩ (fun k hk => ?_)
    rw [hself k hk]
    unfold updV
    split <;> rfl
  rcases hfin with hfin | ⟨hfin, hmn, hdecl⟩
  · rw [if_neg (by rw [hfin]; decide)] at hlay
    have h6 := u_store hfc hkC hkind hlay hi (w2 f hfN) hn.1 hn.2
    exact W.putK hx hb (f := fd) ⟨hown, hts _ hl, ⟨_, _, _, hi⟩, hst⟩ (by rw [q2]; exact h6) q1 q3 (by rw [hsl]; exact k2_hasslot (q4 f hfN)) rfl rfl hd fun H' e1 e2 e3 => k H' fd.slot (fin H' e1 e2 e3)
  · rw [if_pos hfin] at hlay
    have hcf : m.cls = cf := by
      obtain ⟨_, _, c', _, _, _, -, -, hf', -, -, -, hown2, -⟩ := Cond.laysFinal_spec hlay
      have e1 : c' = cf := by have := hi.symm.trans hf'; simp at this; exact this.1.symm
      rw [hdecl] at hown2
      rw [← e1]; exact Option.some.inj (hown.symm.trans hown2)
    have h6 := u_fits hfc hkC hkind (Or.inr hlay) hi (w2 f hfN) hn.1 hn.2
    exact W.putFinK hx hb hown (hts _ hl) hi hst hcf hmn (by rw [q2]; exact h6) q1 q3 (by rw [hsl]; exact k2_hasslot (q4 f hfN)) rfl rfl hd fun H' e1 e2 e3 => k H' fd.slot (fin H' e1 e2 e3)
theorem zin_lt {x : Int32} {n : Nat} (h : vp_in x n) : x.toNatClampNeg < n := Nat.not_le.mp fun q => h (Or.inr q)
theorem zarr_in {cA : ClassId} {n : Nat} {f : Nat → Value} {x : Int32} (h : vp_in x n) : ¬ (x < 0 ∨ (arrV cA n f).slots.size ≤ x.toNatClampNeg) := by
  rw [arrV_size]; exact h
/-- a store into an array's place -/
theorem zRel.put {H' : Heap} (hR : zRel b base ix al D s M H) {r j q n : Nat} (h9 : r ≠ 9) (ht : 19 < (M.2.2.2.1 r j q).1) {cA : ClassId} (hA : ArrOfT s cA (zaf (M.2.2.2.1 r j q).1)) (hRA : va_RA s cA (zaf (M.2.2.2.1 r j q).1)) {v : zV} {M' : zM} (hM : zsame M M' r j q)
    (hself : ∀ i, zget M' (zak (M.2.2.2.1 r j q).1) r j q i = if i = n then v else zget M (zak (M.2.2.2.1 r j q).1) r j q i) (hch : (M.2.2.2.1 r j q).1 = 22 → ∀ i, fits .char (.int (M'.1 r j q i)) = true)
    (e1 : H'[zrho b base ix (r, j, q)]? = some ((arrV cA (M.2.2.2.1 r j q).2 (fun i => zcv (zrho b base ix) (zget M (zak (M.2.2.2.1 r j q).1) r j q i))).setSlot n (zcv (zrho b base ix) v))) (e2 : H'.size = H.size) (e3 : ∀ a, a ≠ zrho b base ix (r, j, q) → H'[a]? = H[a]?) : zRel b base ix al D s M' H' := by
  refine hR.set h9 (by omega) e2 e3 hM (fun ci hc h11 => by omega) (fun _ => ?_)
  have hS : M'.2.2.2 = M.2.2.2 := hM.1
  refine ⟨cA, ?_, by rw [hS]; exact hA, by rw [hS]; exact hRA, by rw [hS]; exact hch⟩
  rw [e1, arrV_store, hS]
  congr 2
  funext i
  rw [hself i]
  unfold updV
  split <;> rfl
theorem zel_tag {t : Nat} (h : 0 < zel t) : t ≠ 20 ∧ 22 < t ∧ zak t = 2 ∧ t < 27 ∧ ∃ C, zaf t = .object C := by
  unfold zel at h
  split at h <;> first
    | exact ⟨by decide, by decide, rfl, by decide, _, rfl⟩
    | exact absurd h (Nat.lt_irrefl 0)
theorem zel_cl {t : Nat} (h : 0 < zel t) : zel t - 1 < 11 ∧ zaf t = .object (zcl (zel t - 1)).1 := by
  unfold zel at h
  split at h <;> first
    | exact ⟨by decide, rfl⟩
    | exact absurd h (Nat.lt_irrefl 0)
theorem zW_mem (hx : p.tables.exec = Jvm.exec) (hb : c.code = cc) (hown : s.vm.findClass own = some m.cls) (hts : ∀ w ∈ Ts, w.before args s = true) (hcls : zcls Ts) (hK : zK Nw AO D s) (hR : zRel b base ix al D s M H) (hd : decode cc pc = .ok (i, len)) (hlen : len = zlen i) {a : List Nat} (hok : zmok Ts Nw own meth.name i a) (hloc : ∀ l ∈ locs, base ≤ l.base)
    {K : List zV → zM → Prop} (hop : zmem i a st M K) (kk : ∀ st' M' H' locs', K st' M' → zRel b base ix al D s M' H' → (∀ l ∈ locs', base ≤ l.base) → W p l e R s m args below meth c H' locs' cells slots Q (F0 m (pc + len) rls (st'.map (zcv (zrho b base ix))))) :
    W p l e R s m args below meth c H locs cells slots Q (F0 m pc rls (st.map (zcv (zrho b base ix)))) := by
  subst hlen
  have hl1 : ∀ (r j q n : Nat), r ≠ 9 → ∀ l ∈ locs ++ [⟨zrho b base ix (r, j, q), n⟩], base ≤ l.base := by
    intro r j q n h9 l hl
    rcases List.mem_append.mp hl with h | h
    · exact hloc l h
    · rw [List.mem_singleton.mp h]
      show base ≤ zrho b base ix (r, j, q)
      rw [zrho_ne9 h9]; omega
  have h9c : ∀ {r j q ci : Nat}, (M.2.2.2.1 r j q).1 = ci + 1 → ci < 11 → r ≠ 9 := fun h h2 => (hR.2.2.1 _ _ _ _ h h2).1
  have h9t : ∀ {r j q : Nat}, (M.2.2.2.1 r j q).1 ≠ 20 → (M.2.2.2.1 r j q).1 ≠ 0 → r ≠ 9 := fun h1 h2 h3 => by
    subst h3
    exact h1 (hR.2.2.2.2 _ _ h2).1
  cases i <;> first
    | (simp [zmem] at hop; done)
    | skip
  case getfield idx =>
    obtain ⟨ci, f, kd, rfl, hf⟩ := hok
    simp only [zmem] at hop
    split at hop
    · have h1 := ‹[ci, f, kd] = _›
      simp only [List.cons.injEq, and_true] at h1
      obtain ⟨rfl, rfl, rfl⟩ := h1
      exact zW_get hx hb hown hts hcls hK hR hf hop.1 rfl hd (kk _ _ _ _ hop.2 hR hloc)
    · exact hop.elim
  case putfield idx =>
    obtain ⟨ci, f, kd, rfl, hf⟩ := hok
    simp only [zmem] at hop
    split at hop
    · have h1 := ‹[ci, f, kd] = _›
      simp only [List.cons.injEq, and_true] at h1
      obtain ⟨rfl, rfl, rfl⟩ := h1
      refine zW_put (M' := (zup4 M.1 _ _ _ _ _, M.2)) (v := zi _) hx hb hown hts hcls hK hR hf hop.1 (zkf_narrow hf.2.2.1 _ _ (Or.inl ⟨rfl, _, rfl⟩)) (zsame_I fun r' j' q' h => zup4_n _ _ h) (fun k hk => ?_) hd (fun H' sl hR' => kk _ _ _ _ hop.2 hR' (hl1 _ _ _ _ (h9c hop.1 hf.1)))
      split
      · rename_i e; subst e; rw [hf.2.2.1]; simp only [zget, zup4_s]; simp
      · rename_i e
        generalize zkf (zty _ k) = kq
        unfold zget
        split <;> first | rfl | (simp only [zup4_s, if_neg e])
    · have h1 := ‹[ci, f, kd] = _›
      simp only [List.cons.injEq, and_true] at h1
      obtain ⟨rfl, rfl, rfl⟩ := h1
      refine zW_put (M' := (zup4 M.1 _ _ _ _ _, M.2)) (v := zi _) hx hb hown hts hcls hK hR hf hop.1 (zkf_narrow hf.2.2.1 _ _ (Or.inr (Or.inl ⟨rfl, _, rfl, hop.2.1⟩))) (zsame_I fun r' j' q' h => zup4_n _ _ h) (fun k hk => ?_) hd (fun H' sl hR' => kk _ _ _ _ hop.2.2 hR' (hl1 _ _ _ _ (h9c hop.1 hf.1)))
      split
      · rename_i e; subst e; rw [hf.2.2.1]; simp only [zget, zup4_s]; simp
      · rename_i e
        generalize zkf (zty _ k) = kq
        unfold zget
        split <;> first | rfl | (simp only [zup4_s, if_neg e])
    · have h1 := ‹[ci, f, kd] = _›
      simp only [List.cons.injEq, and_true] at h1
      obtain ⟨rfl, rfl, rfl⟩ := h1
      refine zW_put (M' := (M.1, zup4 M.2.1 _ _ _ _ _, M.2.2)) (v := zl _) hx hb hown hts hcls hK hR hf hop.1 (zkf_narrow hf.2.2.1 _ _ (Or.inr (Or.inr (Or.inl ⟨rfl, _, rfl⟩)))) (zsame_L fun r' j' q' h => zup4_n _ _ h) (fun k hk => ?_) hd (fun H' sl hR' => kk _ _ _ _ hop.2 hR' (hl1 _ _ _ _ (h9c hop.1 hf.1)))
      split
      · rename_i e; subst e; rw [hf.2.2.1]; simp only [zget, zup4_s]; simp
      · rename_i e
        generalize zkf (zty _ k) = kq
        unfold zget
        split <;> first | rfl | (simp only [zup4_s, if_neg e])
    · have h1 := ‹[ci, f, kd] = _›
      simp only [List.cons.injEq, and_true] at h1
      obtain ⟨rfl, rfl, rfl⟩ := h1
      refine zW_put (M' := (M.1, M.2.1, zup4 M.2.2.1 _ _ _ _ _, M.2.2.2)) (v := zr _) hx hb hown hts hcls hK hR hf hop.1 (zkf_narrow hf.2.2.1 _ _ (Or.inr (Or.inr (Or.inr ⟨rfl, _, rfl⟩)))) (zsame_P fun r' j' q' h => zup4_n _ _ h) (fun k hk => ?_) hd (fun H' sl hR' => kk _ _ _ _ hop.2 hR' (hl1 _ _ _ _ (h9c hop.1 hf.1)))
      split
      · rename_i e; subst e; rw [hf.2.2.1]; simp only [zget, zup4_s]; simp
      · rename_i e
        generalize zkf (zty _ k) = kq
        unfold zget
        split <;> first | rfl | (simp only [zup4_s, if_neg e])
    · exact hop.elim
  case iaload =>
    simp only [zmem] at hop
    split at hop
    · rename_i x r j q t
      obtain ⟨h1, h2, h3⟩ := hop
      by_cases h9 : r = 9
      · subst h9
        obtain ⟨-, scr, e1, e2, e3, e4, e5⟩ := hR.2.2.2.2 j q (by rw [h1]; omega)
        exact W.iald (a := b) hx hb e1 e2 e3 (by rw [e4]; exact h2) (e5 _ (zin_lt h2)) rfl rfl hd (kk _ _ _ _ h3 hR hloc)
      · obtain ⟨cA, g1, g2, g3, -⟩ := hR.2.2.2.1 r j q (by rw [h1]; omega) h9
        rw [h1] at g1 g2
        exact W.iald hx hb g1 (g2 _ _) (fun h => by cases h) (zarr_in h2) (by rw [arrV_read _ _ (zin_lt h2)]; rfl) rfl rfl hd (kk _ _ _ _ h3 hR hloc)
    · exact hop.elim
  case caload =>
    simp only [zmem] at hop
    split at hop
    · rename_i x r j q t
      obtain ⟨h1, h2, h3⟩ := hop
      obtain ⟨cA, g1, g2, g3, -⟩ := hR.2.2.2.1 r j q (by rw [h1]; omega) (h9t (by rw [h1]; decide) (by rw [h1]; decide))
      rw [h1] at g1 g2
      exact W.cald hx hb g1 (g2 _ _) (fun h => by cases h) (zarr_in h2) (by rw [arrV_read _ _ (zin_lt h2)]; rfl) rfl rfl hd (kk _ _ _ _ h3 hR hloc)
    · exact hop.elim
  case laload =>
    simp only [zmem] at hop
    split at hop
    · rename_i x r j q t
      obtain ⟨h1, h2, h3⟩ := hop
      obtain ⟨cA, g1, g2, g3, -⟩ := hR.2.2.2.1 r j q (by rw [h1]; omega) (h9t (by rw [h1]; decide) (by rw [h1]; decide))
      rw [h1] at g1 g2
      exact W.lald hx hb g1 (g2 _ _) (fun h => by cases h) (zarr_in h2) (by rw [arrV_read _ _ (zin_lt h2)]; rfl) rfl rfl hd (kk _ _ _ _ h3 hR hloc)
    · exact hop.elim
  case arraylength =>
    simp only [zmem] at hop
    split at hop
    · rename_i r j q t
      obtain ⟨h1, h3⟩ := hop
      by_cases h9 : r = 9
      · subst h9
        obtain ⟨-, scr, e1, e2, e3, e4, e5⟩ := hR.2.2.2.2 j q (by omega)
        exact W.alen (a := b) hx hb e1 e2 (by rw [e4]) rfl rfl hd (kk _ _ _ _ h3 hR hloc)
      · obtain ⟨cA, g1, g2, g3, -⟩ := hR.2.2.2.1 r j q h1 h9
        exact W.alen hx hb g1 (g2 _ _) (by rw [arrV_size]) rfl rfl hd (kk _ _ _ _ h3 hR hloc)
    · exact hop.elim
  case iastore =>
    simp only [zmem] at hop
    split at hop
    · rename_i v x r j q t
      obtain ⟨h9, h1, h2, h3⟩ := hop
      obtain ⟨cA, g1, g2, g3, -⟩ := hR.2.2.2.1 r j q (by rw [h1]; omega) h9
      have g1' := g1
      have g2' := g2
      rw [h1] at g1' g2'
      refine W.iast hx hb g1' (g2' _ _) (fun h => by cases h) (zarr_in h2) rfl rfl hd (fun H' e1 e2 e3 => kk _ _ _ _ h3 ?_ (hl1 _ _ _ _ h9))
      refine zRel.put (v := zi v) (n := x.toNatClampNeg) hR h9 (by rw [h1]; omega) g2 g3 (zsame_I fun r' j' q' h => zup4_n _ _ h) (fun i => ?_) (fun h => by omega) (by rw [h1]; exact e1) e2 e3
      rw [h1]
      show zi (zup4 M.1 r j q x.toNatClampNeg v r j q i) = _
      rw [zup4_s]
      split <;> rfl
    · exact hop.elim
  case castore =>
    simp only [zmem] at hop
    split at hop
    · rename_i v x r j q t
      obtain ⟨h1, h2, h3⟩ := hop
      have h9 : r ≠ 9 := h9t (by rw [h1]; decide) (by rw [h1]; decide)
      obtain ⟨cA, g1, g2, g3, g4⟩ := hR.2.2.2.1 r j q (by rw [h1]; omega) h9
      have g1' := g1
      have g2' := g2
      rw [h1] at g1' g2'
      refine W.cast hx hb g1' (g2' _ _) (fun h => by cases h) (zarr_in h2) rfl rfl hd (fun H' e1 e2 e3 => kk _ _ _ _ h3 ?_ (hl1 _ _ _ _ h9))
      refine zRel.put (v := zi (vp_nar .char v)) (n := x.toNatClampNeg) hR h9 (by rw [h1]; omega) g2 g3 (zsame_I fun r' j' q' h => zup4_n _ _ h) (fun i => ?_) (fun h i => ?_) (by rw [h1]; exact e1) e2 e3
      · rw [h1]
        show zi (zup4 M.1 r j q x.toNatClampNeg (vp_nar .char v) r j q i) = _
        rw [zup4_s]
        split <;> rfl
      · show fits .char (.int (zup4 M.1 r j q x.toNatClampNeg (vp_nar .char v) r j q i)) = true
        rw [zup4_s]
        split
        · exact zch_fits v
        · exact g4 h i
    · exact hop.elim
  case lastore =>
    simp only [zmem] at hop
    split at hop
    · rename_i v x r j q t
      obtain ⟨h1, h2, h3⟩ := hop
      have h9 : r ≠ 9 := h9t (by rw [h1]; decide) (by rw [h1]; decide)
      obtain ⟨cA, g1, g2, g3, g4⟩ := hR.2.2.2.1 r j q (by rw [h1]; omega) h9
      have g1' := g1
      have g2' := g2
      rw [h1] at g1' g2'
      refine W.last hx hb g1' (g2' _ _) (fun h => by cases h) (zarr_in h2) rfl rfl hd (fun H' e1 e2 e3 => kk _ _ _ _ h3 ?_ (hl1 _ _ _ _ h9))
      refine zRel.put (v := zl v) (n := x.toNatClampNeg) hR h9 (by rw [h1]; omega) g2 g3 (zsame_L fun r' j' q' h => zup4_n _ _ h) (fun i => ?_) (fun h => by omega) (by rw [h1]; exact e1) e2 e3
      rw [h1]
      show zl (zup4 M.2.1 r j q x.toNatClampNeg v r j q i) = _
      rw [zup4_s]
      split <;> rfl
    · exact hop.elim
  case idiv =>
    simp only [zmem] at hop
    split at hop
    · exact lv_idiv hx hb hd hop.1 (kk _ _ _ _ hop.2 hR hloc)
    · exact hop.elim
  case irem =>
    simp only [zmem] at hop
    split at hop
    · exact lv_irem hx hb hd hop.1 (kk _ _ _ _ hop.2 hR hloc)
    · exact hop.elim
  case ldiv =>
    simp only [zmem] at hop
    split at hop
    · exact lv_ldiv hx hb hd hop.1 (kk _ _ _ _ hop.2 hR hloc)
    · exact hop.elim
  case lrem =>
    simp only [zmem] at hop
    split at hop
    · exact lv_lrem hx hb hd hop.1 (kk _ _ _ _ hop.2 hR hloc)
    · exact hop.elim
  case aaload =>
    simp only [zmem] at hop
    split at hop
    · rename_i x r j q t
      obtain ⟨h1, h2, h3⟩ := hop
      obtain ⟨t1, t2, t3, t4, C, t5⟩ := zel_tag h1
      have h9 : r ≠ 9 := h9t (by omega) (by omega)
      obtain ⟨cA, g1, g2, g3, -⟩ := hR.2.2.2.1 r j q (by omega) h9
      exact W.aald hx hb g1 (g2 _ _) (by rw [t5]; rfl) (fun h => by cases h) (zarr_in h2) (by rw [arrV_read _ _ (zin_lt h2), t3]; rfl) rfl rfl hd (kk _ _ _ _ h3 hR hloc)
    · exact hop.elim
  case aastore =>
    simp only [zmem] at hop
    split at hop
    · rename_i r' j' q' x r j q t
      obtain ⟨h1, h0, h2, h3⟩ := hop
      obtain ⟨t1, t2, t3, t4, C, t5⟩ := zel_tag h1
      obtain ⟨u1, u2⟩ := zel_cl h1
      have h9 : r ≠ 9 := h9t (by omega) (by omega)
      obtain ⟨cA, g1, g2, g3, -⟩ := hR.2.2.2.1 r j q (by omega) h9
      obtain ⟨-, cellV, v1, v2, v3, -⟩ := hR.2.2.1 r' j' q' (zel (M.2.2.2.1 r j q).1 - 1) (by omega) u1
      have hcls := (hK.1.1 _ _ (zcl_at u1)).2
      have g3' := g3
      rw [u2] at g3'
      obtain ⟨kA, comp, k1, k2, k3, -⟩ := g3'
      have hcomp : comp = D.1 (zel (M.2.2.2.1 r j q).1 - 1) := Option.some.inj (k3.symm.trans hcls.1)
      subst hcomp
      obtain ⟨kC, hkC, -⟩ := hcls.2
      have h0' : ¬ x < 0 := fun g => h2 (Or.inl g)
      refine W.aast hx hb g1 (fun g h => by cases h) (fun h => by cases h) k1 k2 rfl hkC ⟨h0', by rw [arrV_size]; exact zin_lt h2⟩ v1 (fun g h => by rw [v3] at h; cases h) (by rw [v2]; exact hkC) (by rw [v2]; exact va_assign hcls) rfl rfl hd (fun H' e1 e2 e3 => kk _ _ _ _ h3 ?_ (hl1 _ _ _ _ h9))
      refine zRel.put (v := zr (some (r', j', q'))) (n := x.toNatClampNeg) hR h9 (by omega) g2 g3 (zsame_P fun r' j' q' h => zup4_n _ _ h) (fun i => ?_) (fun h => by omega) e1 e2 e3
      rw [t3]
      show zr (zup4 M.2.2.1 r j q x.toNatClampNeg (some (r', j', q')) r j q i) = _
      rw [zup4_s]
      split <;> rfl
    · exact hop.elim
  case checkcast idx =>
    obtain ⟨tag, rfl, ht, hlk⟩ := hok
    simp only [zmem] at hop
    split at hop
    · have h1 := ‹[tag] = _›
      simp only [List.cons.injEq, and_true] at h1
      subst h1
      rename_i r j q t _
      obtain ⟨h9, h1, h3⟩ := hop
      · obtain ⟨cA, g1, g2, g3, -⟩ := hR.2.2.2.1 r j q (by omega) h9
        have hz : zak (M.2.2.2.1 r j q).1 = 0 := by rw [h1]; rcases ht with rfl | rfl <;> rfl
        rw [hz] at g1
        refine va_castA (D := D) (cl := vwCl) (x := ((M.2.2.2.1 r j q).2, .inl (fun i => M.1 r j q i))) (ws := [(zrho b base ix (r, j, q), .inl (cA, ((M.2.2.2.1 r j q).2, .inl (fun i => M.1 r j q i))))]) hx hb hown (hts _ hlk) (fun k y hk => ?_) 0 rfl ?_ hd (kk _ _ _ _ h3 hR hloc)
        · have hk0 : k = 0 := by
            have := (List.getElem?_eq_some_iff.mp hk).1
            simp at this; omega
          subst hk0
          cases hk
          exact g1
        · rw [h1] at g3
          rcases ht with rfl | rfl <;> exact g3
    · exact hop.elim
end
end
section
/-! cells that are made, arraycopy, clone, Object's constructor -/
def zkok (Ts : List Jvm.Cond) (AO : List String) (own : String) (i : Instr) (a : List Nat) : Prop := match i with
  | .new idx => ∃ ci, a = [ci, (zcl ci).2.2] ∧ ci < 11 ∧ Jvm.Cond.classLink own idx (zcl ci).1 ∈ Ts
  | .newarray ty => zaty ty ≠ 0 ∧ Jvm.Cond.arrayClass (newarray.typeOf ty) ∈ Ts
  | .anewarray idx => ∃ tag C, a = [tag] ∧ 0 < zel tag ∧ zaf tag = .object C ∧ Jvm.Cond.classLink own idx C ∈ Ts ∧ C ∈ AO
  | _ => True
theorem znew_S (al : Nat → zR) (M : zM) (tag len : Nat) : (znew al M tag len).2.2.2 = (zup3 M.2.2.2.1 (al M.2.2.2.2).1 (al M.2.2.2.2).2.1 (al M.2.2.2.2).2.2 (tag, len), M.2.2.2.2 + 1) := rfl
theorem znew_ne {al : Nat → zR} {M : zM} {tag len r j q : Nat} (h : (r, j, q) ≠ al M.2.2.2.2) (kd i : Nat) : zget (znew al M tag len) kd r j q i = zget M kd r j q i := by
  have h1 : (znew al M tag len).1 r j q = M.1 r j q := zup3_n _ _ h
  have h2 : (znew al M tag len).2.1 r j q = M.2.1 r j q := zup3_n _ _ h
  have h3 : (znew al M tag len).2.2.1 r j q = M.2.2.1 r j q := zup3_n _ _ h
  unfold zget
  rw [h1, h2, h3]
theorem znew_at (al : Nat → zR) (M : zM) (tag len kd i : Nat) : zget (znew al M tag len) kd (al M.2.2.2.2).1 (al M.2.2.2.2).2.1 (al M.2.2.2.2).2.2 i = (match kd with | 1 => zl 0 | 2 => zr none | _ => zi 0) := by
  have h1 : (znew al M tag len).1 (al M.2.2.2.2).1 (al M.2.2.2.2).2.1 (al M.2.2.2.2).2.2 = fun _ => 0 := zup3_s _ _ _ _ _
  have h2 : (znew al M tag len).2.1 (al M.2.2.2.2).1 (al M.2.2.2.2).2.1 (al M.2.2.2.2).2.2 = fun _ => 0 := zup3_s _ _ _ _ _
  have h3 : (znew al M tag len).2.2.1 (al M.2.2.2.2).1 (al M.2.2.2.2).2.1 (al M.2.2.2.2).2.2 = fun _ => none := zup3_s _ _ _ _ _
  unfold zget
  rw [h1, h2, h3]
  rcases kd with _ | _ | _ | kd <;> rfl
section
variable {p : Program} {l : Launch} {e : Env} {R : Room} {s : State} {m : MethodId} {args : Array Value} {below : List Frame} {meth : Method} {c : Code} {H : Heap} {locs : List Loc} {cells slots : Nat} {Q : State → Prop}
variable {cc : ByteArray} {pc len : Nat} {rls : Array Slot} {st : List zV} {i : Instr} {own : String} {Ts Nw : List Jvm.Cond} {AO : List String} {D : va_G} {b base : Nat} {ix : zR → Nat} {al : Nat → zR} {M : zM}
theorem zW_mk (hx : p.tables.exec = Jvm.exec) (hb : c.code = cc) (hown : s.vm.findClass own = some m.cls) (hts : ∀ w ∈ Ts, w.before args s = true) (hcls : zcls Ts) (hK : zK Nw AO D s) (hR : zRel b base ix al D s M H) (hd : decode cc pc = .ok (i, len)) (hlen : len = zlen i) {a : List Nat} (hok : zkok Ts AO own i a) {bc bs : Nat} (hbc : cells + bc ≤ R.cells) (hbs : slots + bs ≤ R.slots)
    {K : Nat → Nat → List zV → zM → Prop} (hop : zmk al i a st M bc bs K) (kk : ∀ dc ds st' M' H', K (bc - dc) (bs - ds) st' M' → dc ≤ bc → ds ≤ bs → zRel b base ix al D s M' H' → W p l e R s m args below meth c H' locs (cells + dc) (slots + ds) Q (F0 m (pc + len) rls (st'.map (zcv (zrho b base ix))))) :
    W p l e R s m args below meth c H locs cells slots Q (F0 m pc rls (st.map (zcv (zrho b base ix)))) := by
  subst hlen
  cases i <;> first
    | (simp [zmk] at hop; done)
    | skip
  case new idx =>
    obtain ⟨ci, rfl, hci, hlk⟩ := hok
    simp only [zmk] at hop
    obtain ⟨h1, h2, h3⟩ := hop
    obtain ⟨w1, w2, w3, w4, w5, w6⟩ := hcls ci hci
    have hKn := hK.1.1 ci _ (zcl_at hci)
    refine W.newcK hx hb hown (hts _ hlk) (hts _ w4) (hts _ w5) rfl hd (by omega) (by omega) hKn.2.1 rfl fun H' kC hkC e1 z1 o1 => ?_
    have hob := (u_born (zty ci) hts w1 hKn hkC e1 w2)
    have hpush := zRel.push (M' := znew al M (ci + 1) 0) (len := 0) hR z1 o1 (by omega) (znew_S al M (ci + 1) 0) (fun r' j' q' h kd i => znew_ne h kd i) (fun ci' hc' h11 => ?_) (fun h => by omega)
    · have := kk 1 (zcl ci).2.2 _ _ _ h3 h1 h2 hpush.1
      rw [List.map_cons, show zcv (zrho b base ix) (zr (some (al M.2.2.2.2))) = .ref H.size by rw [← hpush.2]; rfl] at this
      exact this
    · have e : ci' = ci := by omega
      subst e
      unfold zobj
      rw [show zrho b base ix ((al M.2.2.2.2).1, (al M.2.2.2.2).2.1, (al M.2.2.2.2).2.2) = H.size by
        show zrho b base ix (al M.2.2.2.2) = H.size
        rw [zrho_ne9 (hR.1.2.2.2 _), hR.1.2.2.1, hR.1.1]]
      refine hob.to fun k hk => ?_
      rw [znew_at]
      have h9 := w6 k hk
      generalize zty ci' k = ty at h9 ⊢
      cases ty <;> first | rfl | (exact absurd rfl h9)
  case newarray ty =>
    obtain ⟨hz, hac⟩ := hok
    simp only [zmk] at hop
    split at hop
    · rename_i x t
      obtain ⟨h0, h1, h2, h3, h4⟩ := hop
      refine va_newaK hx hb (hts _ hac) rfl hd rfl h0 rfl ?_ (by omega) (by omega) rfl fun H' cA e1 z1 o1 hAr hNm => ?_
      · have : componentBytes (newarray.typeOf ty) ≤ 8 := by cases ty <;> decide
        calc x.toNatClampNeg * componentBytes (newarray.typeOf ty) ≤ 5000 * 8 := Nat.mul_le_mul h1 this
          _ ≤ 536870912 := by decide
      · have hrho : zrho b base ix (al M.2.2.2.2) = H.size := by rw [zrho_ne9 (hR.1.2.2.2 _), hR.1.2.2.1, hR.1.1]
        have hSe : (znew al M (zaty ty) x.toNatClampNeg).2.2.2.1 (al M.2.2.2.2).1 (al M.2.2.2.2).2.1 (al M.2.2.2.2).2.2 = (zaty ty, x.toNatClampNeg) := zup3_s _ _ _ _ _
        have hpush := zRel.push (M' := znew al M (zaty ty) x.toNatClampNeg) (len := x.toNatClampNeg) hR z1 o1 hz (znew_S al M _ _) (fun r' j' q' h kd i => znew_ne h kd i) (fun ci' hc' h11 => by cases ty <;> simp [zaty] at hc' hz <;> omega) (fun h => ?_)
        · have := kk 1 x.toNatClampNeg _ _ _ h4 h2 h3 hpush.1
          rw [List.map_cons, show zcv (zrho b base ix) (zr (some (al M.2.2.2.2))) = .ref H.size by rw [← hrho]; rfl] at this
          exact this
        · refine ⟨cA, ?_, ?_, ?_, fun _ i => ?_⟩
          · rw [hSe]
            show H'[zrho b base ix (al M.2.2.2.2)]? = _
            rw [hrho, e1]
            congr 2
            funext i
            rw [znew_at]
            cases ty <;> first | rfl | (exact absurd rfl hz)
          · rw [hSe]
            cases ty <;> first | exact hAr | (exact absurd rfl hz)
          · rw [hSe]
            cases ty <;> first | exact hNm | (exact absurd rfl hz)
          · have h1 : (znew al M (zaty ty) x.toNatClampNeg).1 (al M.2.2.2.2).1 (al M.2.2.2.2).2.1 (al M.2.2.2.2).2.2 = fun _ => 0 := zup3_s _ _ _ _ _
            rw [h1]
            rfl
    · exact hop.elim
  case anewarray idx =>
    obtain ⟨tag, C, rfl, hz, hC, hlk, hAO⟩ := hok
    simp only [zmk] at hop
    split at hop
    · have h1 := ‹[tag] = _›
      simp only [List.cons.injEq, and_true] at h1
      subst h1
      rename_i x t _
      obtain ⟨h0, h1, h2, h3, h4⟩ := hop
      obtain ⟨t1, t2, t3, t4, -⟩ := zel_tag hz
      refine W.anew hx hb hown (hts _ hlk) (hK.2.2 C hAO).use rfl hd rfl h0 (by omega) (by omega) (by omega) fun cA kA comp e1 e2 e3 e4 => ?_
      have hrho : zrho b base ix (al M.2.2.2.2) = H.size := by rw [zrho_ne9 (hR.1.2.2.2 _), hR.1.2.2.1, hR.1.1]
      have hSe : (znew al M tag x.toNatClampNeg).2.2.2.1 (al M.2.2.2.2).1 (al M.2.2.2.2).2.1 (al M.2.2.2.2).2.2 = (tag, x.toNatClampNeg) := zup3_s _ _ _ _ _
      have hpush := zRel.push (H' := H.push { cls := cA, slots := Array.replicate x.toNatClampNeg .null, vm := .none }) (M' := znew al M tag x.toNatClampNeg) (len := x.toNatClampNeg) hR (by simp) (fun a ha => by rw [Array.getElem?_push, if_neg (Nat.ne_of_lt ha)]) (by omega) (znew_S al M _ _) (fun r' j' q' h kd i => znew_ne h kd i) (fun ci' hc' h11 => by omega) (fun h => ?_)
      · have := kk 1 x.toNatClampNeg _ _ _ h4 h2 h3 hpush.1
        rw [List.map_cons, show zcv (zrho b base ix) (zr (some (al M.2.2.2.2))) = .ref H.size by rw [← hrho]; rfl] at this
        exact this
      · refine ⟨cA, ?_, ?_, ?_, fun g => by rw [hSe] at g; omega⟩
        · rw [hSe]
          show (H.push _)[zrho b base ix (al M.2.2.2.2)]? = _
          rw [hrho, Array.getElem?_push_size, arrV_new]
          congr 2
          funext i
          rw [znew_at, t3]
          rfl
        · rw [hSe, hC]
          exact fun n z => ⟨fun k h => (by cases h), kA, e2, comp, e3⟩
        · rw [hSe, hC]
          exact ⟨kA, comp, e2, e3, e4, e1⟩
    · exact hop.elim
/-- arraycopy between two arrays of one kind of number -/
theorem zW_cpy {α : Type} (mk : α → Value) (hx : p.tables.exec = Jvm.exec) (hb : c.code = cc) (hml : c.maxLocals = rls.size) (hown : s.vm.findClass own = some m.cls) {idx : Nat} (hlink : (Jvm.Cond.methodLink own idx arraycopyName).before args s = true) (hnat : (Jvm.Cond.native arraycopyName).before args s = true) (hstat : (Jvm.Cond.static arraycopyName).before args s = true) (hini : (Jvm.Cond.initialized "java/lang/System").before args s = true)
    {a0 a : Nat} {c0 c1 : ClassId} {n0 n1 : Nat} {f g : Nat → α} {ty : FieldType} (hc0 : H[a0]? = some (arrV c0 n0 (fun j => mk (f j)))) (hc1 : H[a]? = some (arrV c1 n1 (fun j => mk (g j)))) (ht0 : ArrOfT s c0 ty) (ht1 : ArrOfT s c1 ty) (hprim : refKind ty = false) (hfit : ∀ i, fits ty (mk (f i)) = true) (hnr : ∀ x a, mk x ≠ .ref a)
    {sp dp n : Int32} (h1 : ¬ sp < 0) (h2 : ¬ dp < 0) (h3 : ¬ n < 0) (h4 : sp.toNatClampNeg + n.toNatClampNeg ≤ n0) (h5 : dp.toNatClampNeg + n.toNatClampNeg ≤ n1) {rest : List Value}
    (hframes : 1 ≤ R.frames) (hlocals : (rest.map fun v => v.category).sum + 18 ≤ R.locals) (hdg : decode cc pc = .ok (.invokestatic idx, 3))
    (kk : ∀ (H1 : Heap) (locs1 : List Loc), H1[a]? = some (arrV c1 n1 (fun j => mk (va_cpy f g sp.toNatClampNeg dp.toNatClampNeg n.toNatClampNeg j))) → H1.size = H.size → (∀ q, q ≠ a → H1[q]? = H[q]?) → (∀ l ∈ locs1, l ∈ locs ∨ l.base = a) → W p l e R s m args below meth c H1 locs1 cells slots Q (F0 m (pc + 3) rls rest)) :
    W p l e R s m args below meth c H locs cells slots Q (F0 m pc rls (.int n :: .int dp :: .ref a :: .int sp :: .ref a0 :: rest)) := by
  have nn : ∀ z : Int32, ¬ z < 0 → z.toInt = (z.toNatClampNeg : Int) := by
    intro z hz
    have hz0 : (0 : Int) ≤ z.toInt := by
      have := Int32.not_lt.mp hz
      simpa using Int32.le_iff_toInt_le.mp this
    show z.toInt = ((z.toInt.toNat : Nat) : Int)
    omega
  intro T hT X
  obtain ⟨-, k0, hk0, cm0, hkk0⟩ := ht0 n0 (fun j => mk (f j))
  obtain ⟨-, k1, hk1, cm1, hkk1⟩ := ht1 n1 (fun j => mk (g j))
  obtain ⟨vm', X', step⟩ := X.arraycopy hx hown hlink hnat hstat hini (src := a0) (dst := a) (cs := arrV c0 n0 (fun j => mk (f j))) (cd := arrV c1 n1 (fun j => mk (g j))) (srcPos := sp) (destPos := dp) (n := n) (by rw [hT]; exact hc0) (by rw [hT]; exact hc1)
    (fun _ h => by cases h) (fun _ h => by cases h) (fun h => by cases h) (fun h => by cases h) hk0 hk1 hkk0 hkk1 (by simp [hprim]) h1 h2 h3
    (by rw [nn sp h1, nn n h3, arrV_size]; omega)
    (by rw [nn dp h2, nn n h3, arrV_size]; omega)
    (fun vm₁ _ i hi => by
      have e : (arrV c0 n0 (fun j => mk (f j))).slots.getD (sp.toNatClampNeg + i) .null = mk (f (sp.toNatClampNeg + i)) := by
        rw [Array.getD_eq_getD_getElem?, arrV_read _ _ (by omega)]
        rfl
      refine ⟨?_, ?_⟩
      · rw [e]
        exact hfit _
      · rw [e]
        generalize hz : mk (f (sp.toNatClampNeg + i)) = z
        cases z <;> first | exact trivial | exact absurd hz (hnr _ _))
    (g := F0 m pc rls (.int n :: .int dp :: .ref a :: .int sp :: .ref a0 :: rest)) rfl (by rw [hml]) (rest := rest) rfl (by rw [hb]; exact hdg) hframes (by
      have e : nativeFrameWords "java/lang/System" "arraycopy" 5 = 7 := by decide
      show 2 * 0 + _ + _ ≤ _
      first | (rw [e]; omega) | omega)
  have e1 : copied (arrV c0 n0 (fun j => mk (f j))) (arrV c1 n1 (fun j => mk (g j))) sp dp n = arrV c1 n1 (fun j => mk (va_cpy f g sp.toNatClampNeg dp.toNatClampNeg n.toNatClampNeg j)) := va_copied mk c0 c1 f g h4
  rw [e1] at X' step
  have hl : a < H.size := (Array.getElem?_eq_some_iff.mp hc1).1
  have hheap : ((T.setVm vm').setCell a (arrV c1 n1 (fun j => mk (va_cpy f g sp.toNatClampNeg dp.toNatClampNeg n.toNatClampNeg j)))).heap = H.setIfInBounds a (arrV c1 n1 (fun j => mk (va_cpy f g sp.toNatClampNeg dp.toNatClampNeg n.toNatClampNeg j))) := by rw [← hT]; rfl
  obtain ⟨t, a1, b1⟩ := kk _ _ (by simp [Array.getElem?_setIfInBounds, hl]) (by simp) (fun q hq => by simp [Array.getElem?_setIfInBounds, Ne.symm hq]) (fun q hq => by
      rcases List.mem_append.mp hq with h | h
      · exact Or.inl h
      · obtain ⟨z, -, hz⟩ := List.mem_map.mp h
        rw [← hz]
        exact Or.inr rfl) _ hheap X'
  exact ⟨t, step t a1, b1⟩
/-- clone of an array of numbers -/
theorem zW_cln (hx : p.tables.exec = Jvm.exec) (hb : c.code = cc) (hml : c.maxLocals = rls.size) (hown : s.vm.findClass own = some m.cls) {ad : String} {idx : Nat}
    (hlink : (Jvm.Cond.methodLink own idx ⟨ad, "clone", "()Ljava/lang/Object;"⟩).before args s = true) (hsame : (Jvm.Cond.sameMethod ad "java/lang/Object" "clone" "()Ljava/lang/Object;").before args s = true)
    (hnat : (Jvm.Cond.native ⟨"java/lang/Object", "clone", "()Ljava/lang/Object;"⟩).before args s = true) (hinst : (Jvm.Cond.instanceMethod ⟨"java/lang/Object", "clone", "()Ljava/lang/Object;"⟩).before args s = true)
    (hsel : (Jvm.Cond.selects ad ⟨ad, "clone", "()Ljava/lang/Object;"⟩ ⟨"java/lang/Object", "clone", "()Ljava/lang/Object;"⟩).before args s = true) (hcl : va_Nw (.castable ad "java/lang/Cloneable") s)
    {a : Nat} {cA : ClassId} {n : Nat} {f : Nat → Int32} {ty : FieldType} (hcell : H[a]? = some (arrV cA n (fun j => .int (f j)))) (ht0 : ArrOfT s cA ty) (hnm : s.vm.findClass ad = some cA) (hfit : ∀ i, fits ty (.int (f i)) = true) {rest : List Value}
    (hframes : 1 ≤ R.frames) (hlocals : (rest.map fun v => v.category).sum + 14 ≤ R.locals) (hcells : cells + 1 ≤ R.cells) (hslots : slots + n ≤ R.slots) (hdg : decode cc pc = .ok (.invokevirtual idx, 3))
    (kk : W p l e R s m args below meth c (H.push (arrV cA n (fun j => .int (f j)))) locs (cells + 1) (slots + n) Q (F0 m (pc + 3) rls (.ref H.size :: rest))) : W p l e R s m args below meth c H locs cells slots Q (F0 m pc rls (.ref a :: rest)) := by
  have hsz : (arrV cA n (fun j => Value.int (f j))).slots.size = n := arrV_size _ _ _
  obtain ⟨c0, t0', f1, f2, f3⟩ := Cond.castable_spec (va_Nw.use (A := args) rfl hcl)
  cases hnm.symm.trans f1
  intro T hT X
  have hcellT : T.heap[a]? = some (arrV cA n (fun j => .int (f j))) := by rw [hT]; exact hcell
  obtain ⟨-, kA, hkA, comp, hkind⟩ := State.isArrayOf_alike X.warmed.alike (ht0 0 (fun _ => .null))
  obtain ⟨-, kS, hkS, compS, hkindS⟩ := ht0 0 (fun _ => .null)
  obtain ⟨vm', X', st⟩ := X.cloneArray hx hown hlink hsame hnat hinst hsel (a := a) (cell := arrV cA n (fun j => .int (f j))) hcellT (fun k h => by cases h) (fun h => by cases h) hnm f2 f3
    (fun i v hv => by
      have hk' : T.vm.classes[cA]? = some kA := hkA
      have hi : i < n := by
        have := (Array.getElem?_eq_some_iff.mp hv).1
        rw [hsz] at this; exact this
      rw [arrV_read _ _ hi] at hv
      cases hv
      show T.fitsSlot cA .none i (.int (f i)) = true
      simpa [State.fitsSlot, State.slotType?, hk', hkind] using hfit i)
    (g := F0 m pc rls (.ref a :: rest)) rfl (by rw [hml]) rfl (by rw [hb]; exact hdg) hframes (by show 2 * 0 + _ + 14 ≤ _; omega) hcells (by rw [hsz]; exact hslots) (hloader := Vm.clonesLoader_of_array hkS hkindS)
  have hcellE : ({ cls := (arrV cA n (fun j => Value.int (f j))).cls, slots := (arrV cA n (fun j => Value.int (f j))).slots } : Cell) = arrV cA n (fun j => .int (f j)) := rfl
  rw [hcellE, hsz] at X'
  obtain ⟨t, b1, b2⟩ := kk ((T.setVm vm').pushCell (arrV cA n (fun j => .int (f j)))) (by rw [← hT]; rfl) X'
  refine ⟨t, st t ?_, b2⟩
  rw [hcellE, hT]
  exact b1
/-- what the tables say of the machine's own methods -/
def zclok (Ts Nw : List Jvm.Cond) (own : String) (i : Instr) (t0 : Nat) : Prop := ∃ idx, i = .invokevirtual idx ∧ Jvm.Cond.methodLink own idx ⟨"[" ++ (zaf t0).toString, "clone", "()Ljava/lang/Object;"⟩ ∈ Ts ∧ Jvm.Cond.sameMethod ("[" ++ (zaf t0).toString) "java/lang/Object" "clone" "()Ljava/lang/Object;" ∈ Ts ∧ Jvm.Cond.native ⟨"java/lang/Object", "clone", "()Ljava/lang/Object;"⟩ ∈ Ts ∧ Jvm.Cond.instanceMethod ⟨"java/lang/Object", "clone", "()Ljava/lang/Object;"⟩ ∈ Ts ∧ Jvm.Cond.selects ("[" ++ (zaf t0).toString) ⟨"[" ++ (zaf t0).toString, "clone", "()Ljava/lang/Object;"⟩ ⟨"java/lang/Object", "clone", "()Ljava/lang/Object;"⟩ ∈ Ts ∧ Jvm.Cond.castable ("[" ++ (zaf t0).toString) "java/lang/Cloneable" ∈ Nw
def znok (Ts Nw : List Jvm.Cond) (own : String) (i : Instr) (mode : Nat) : Prop := match mode with
  | 5 => ∃ idx, i = .invokestatic idx ∧ Jvm.Cond.methodLink own idx arraycopyName ∈ Ts ∧ Jvm.Cond.native arraycopyName ∈ Ts ∧ Jvm.Cond.static arraycopyName ∈ Ts ∧ Jvm.Cond.initialized "java/lang/System" ∈ Ts
  | 6 => zclok Ts Nw own i 20
  | 7 => zclok Ts Nw own i 22
  | 8 => ∃ idx, i = .invokespecial idx ∧ Jvm.Cond.methodLink own idx objectInit ∈ Ts ∧ Jvm.Cond.instanceMethod objectInit ∈ Ts ∧ Jvm.Cond.code objectInit ⟨#[0xb1]⟩ 1 none ∈ Ts
  | _ => False
theorem zW_cl2 (hx : p.tables.exec = Jvm.exec) (hb : c.code = cc) (hml : c.maxLocals = rls.size) (hown : s.vm.findClass own = some m.cls) (hts : ∀ w ∈ Ts, w.before args s = true) (hK : zK Nw AO D s) (hR : zRel b base ix al D s M H) (hd : decode cc pc = .ok (i, 3)) {t0 : Nat} (ht0 : t0 = 20 ∨ t0 = 22) (hok : zclok Ts Nw own i t0) {bc bs : Nat} (hbc : cells + bc ≤ R.cells) (hbs : slots + bs ≤ R.slots) (hfr : 1 ≤ R.frames) (hlo : 64 ≤ R.locals)
    {K : Nat → Nat → List zV → zM → Prop} (hop : zcln al t0 st M bc bs K) (kk : ∀ dc ds st' M' H', K (bc - dc) (bs - ds) st' M' → dc ≤ bc → ds ≤ bs → zRel b base ix al D s M' H' → W p l e R s m args below meth c H' locs (cells + dc) (slots + ds) Q (F0 m (pc + 3) rls (st'.map (zcv (zrho b base ix))))) :
    W p l e R s m args below meth c H locs cells slots Q (F0 m pc rls (st.map (zcv (zrho b base ix)))) := by
  obtain ⟨idx, rfl, o1, o2, o3, o4, o5, o6⟩ := hok
  unfold zcln at hop
  split at hop
  · rename_i r j q t
    obtain ⟨h1, h9, h2, h3, h4, h5⟩ := hop
    obtain ⟨cA, g1, g2, g3, g4⟩ := hR.2.2.2.1 r j q (by omega) h9
    have hz : zak (M.2.2.2.1 r j q).1 = 0 := by rw [h2]; rcases ht0 with rfl | rfl <;> rfl
    rw [hz] at g1
    rw [h2] at g2 g3 g4
    have hnm : s.vm.findClass ("[" ++ (zaf t0).toString) = some cA := by rcases ht0 with rfl | rfl <;> exact g3
    have hfit : ∀ i, fits (zaf t0) (.int (M.1 r j q i)) = true := by
      intro i
      rcases ht0 with rfl | rfl
      · rfl
      · exact g4 rfl i
    refine zW_cln (f := M.1 r j q) hx hb hml hown (hts _ o1) (hts _ o2) (hts _ o3) (hts _ o4) (hts _ o5) (hK.2.1 _ o6) g1 g2 hnm hfit hfr (by rw [zcv_cats]; omega) (by omega) (by omega) hd ?_
    have hrho : zrho b base ix (al M.2.2.2.2) = H.size := by rw [zrho_ne9 (hR.1.2.2.2 _), hR.1.2.2.1, hR.1.1]
    have hsz : (M.2.2.2.1 r j q).2 = (M.2.2.2.1 r j q).2 := rfl
    have hpush := zRel.push (H' := H.push (arrV cA (M.2.2.2.1 r j q).2 (fun i => .int (M.1 r j q i)))) (M' := (zup3 M.1 (al M.2.2.2.2).1 (al M.2.2.2.2).2.1 (al M.2.2.2.2).2.2 (M.1 r j q), zup3 M.2.1 (al M.2.2.2.2).1 (al M.2.2.2.2).2.1 (al M.2.2.2.2).2.2 (fun _ => 0), zup3 M.2.2.1 (al M.2.2.2.2).1 (al M.2.2.2.2).2.1 (al M.2.2.2.2).2.2 (fun _ => none), zup3 M.2.2.2.1 (al M.2.2.2.2).1 (al M.2.2.2.2).2.1 (al M.2.2.2.2).2.2 (t0, (M.2.2.2.1 r j q).2), M.2.2.2.2 + 1)) (tag := t0) (len := (M.2.2.2.1 r j q).2) hR (by simp) (fun a ha => by rw [Array.getElem?_push, if_neg (Nat.ne_of_lt ha)]) (by omega) rfl (fun r' j' q' h kd i => ?_) (fun ci' hc' h11 => by omega) (fun h => ?_)
    · have := kk 1 (M.2.2.2.1 r j q).2 _ _ _ h5 h3 h4 hpush.1
      rw [List.map_cons, show zcv (zrho b base ix) (zr (some (al M.2.2.2.2))) = .ref H.size by rw [← hrho]; rfl] at this
      exact this
    · unfold zget
      simp only [zup3_n _ _ h]
    · have e1 : zup3 M.1 (al M.2.2.2.2).1 (al M.2.2.2.2).2.1 (al M.2.2.2.2).2.2 (M.1 r j q) (al M.2.2.2.2).1 (al M.2.2.2.2).2.1 (al M.2.2.2.2).2.2 = M.1 r j q := zup3_s _ _ _ _ _
      have e2 : zup3 M.2.2.2.1 (al M.2.2.2.2).1 (al M.2.2.2.2).2.1 (al M.2.2.2.2).2.2 (t0, (M.2.2.2.1 r j q).2) (al M.2.2.2.2).1 (al M.2.2.2.2).2.1 (al M.2.2.2.2).2.2 = (t0, (M.2.2.2.1 r j q).2) := zup3_s _ _ _ _ _
      have hz0 : zak t0 = 0 := by rw [h2] at hz; exact hz
      refine ⟨cA, ?_, ?_, ?_, fun ht i => ?_⟩
      · simp only [e2, hz0]
        show (H.push _)[zrho b base ix (al M.2.2.2.2)]? = _
        rw [hrho, Array.getElem?_push_size]
        congr 2
        funext i
        show _ = zcv _ (zi (zup3 M.1 (al M.2.2.2.2).1 (al M.2.2.2.2).2.1 (al M.2.2.2.2).2.2 (M.1 r j q) (al M.2.2.2.2).1 (al M.2.2.2.2).2.1 (al M.2.2.2.2).2.2 i))
        rw [e1]
        rfl
      · simp only [e2]; exact g2
      · simp only [e2]; exact g3
      · simp only [e2] at ht
        show fits .char (.int (zup3 M.1 (al M.2.2.2.2).1 (al M.2.2.2.2).2.1 (al M.2.2.2.2).2.2 (M.1 r j q) (al M.2.2.2.2).1 (al M.2.2.2.2).2.1 (al M.2.2.2.2).2.2 i)) = true
        rw [e1]
        exact g4 ht i
  · exact hop.elim
theorem zW_nat (hx : p.tables.exec = Jvm.exec) (hb : c.code = cc) (hml : c.maxLocals = rls.size) (hown : s.vm.findClass own = some m.cls) (hts : ∀ w ∈ Ts, w.before args s = true) (hK : zK Nw AO D s) (hR : zRel b base ix al D s M H) (hd : decode cc pc = .ok (i, 3)) {mode : Nat} (hok : znok Ts Nw own i mode) {bc bs : Nat} (hbc : cells + bc ≤ R.cells) (hbs : slots + bs ≤ R.slots) (hfr : 1 ≤ R.frames) (hlo : 64 ≤ R.locals) (hloc : ∀ l ∈ locs, base ≤ l.base)
    {K : Nat → Nat → List zV → zM → Prop} (hop : znat al mode st M bc bs K) (kk : ∀ dc ds st' M' H' locs', K (bc - dc) (bs - ds) st' M' → dc ≤ bc → ds ≤ bs → zRel b base ix al D s M' H' → (∀ l ∈ locs', base ≤ l.base) → W p l e R s m args below meth c H' locs' (cells + dc) (slots + ds) Q (F0 m (pc + 3) rls (st'.map (zcv (zrho b base ix))))) :
    W p l e R s m args below meth c H locs cells slots Q (F0 m pc rls (st.map (zcv (zrho b base ix)))) := by
  unfold znat at hop
  split at hop
  · obtain ⟨idx, rfl, o1, o2, o3, o4⟩ := hok
    split at hop
    · rename_i n dp r j q sp r' j' q' t
      obtain ⟨h1, h9, h9', h2, h3, h4, h5, h6, h7, h8⟩ := hop
      have hlocs : ∀ locs1 : List Loc, (∀ l ∈ locs1, l ∈ locs ∨ l.base = zrho b base ix (r, j, q)) → ∀ l ∈ locs1, base ≤ l.base := by
        intro locs1 g l hl
        rcases g l hl with g | g
        · exact hloc l g
        · rw [g, zrho_ne9 h9]; omega
      rcases h8 with ⟨ht, hk⟩ | ⟨ht, hk⟩
      · have htag : 19 < (M.2.2.2.1 r j q).1 := by omega
        obtain ⟨cA, g1, g2, g3, g4⟩ := hR.2.2.2.1 r j q htag h9
        obtain ⟨cA', g1', g2', g3', g4'⟩ := hR.2.2.2.1 r' j' q' (by omega) h9'
        have hz : zak (M.2.2.2.1 r j q).1 = 0 := by rcases ht with ht | ht <;> rw [ht] <;> rfl
        rw [h2] at g1' g2' g4'
        rw [hz] at g1 g1'
        have hfit : ∀ i, fits (zaf (M.2.2.2.1 r j q).1) (.int (M.1 r' j' q' i)) = true := by
          intro i
          rcases ht with ht | ht
          · rw [ht]; rfl
          · rw [ht]; exact g4' ht i
        refine zW_cpy (fun x => .int x) (f := M.1 r' j' q') (g := M.1 r j q) hx hb hml hown (hts _ o1) (hts _ o2) (hts _ o3) (hts _ o4) g1' g1 g2' g2 (by rcases ht with ht | ht <;> rw [ht] <;> rfl) hfit (fun x a h => by cases h) h3 h4 h5 h6 h7 hfr (by rw [zcv_cats]; omega) hd (fun H1 locs1 e1 e2 e3 e4 => ?_)
        refine kk 0 0 _ _ H1 locs1 hk (Nat.zero_le _) (Nat.zero_le _) ?_ (hlocs locs1 e4)
        refine hR.set h9 (by omega) e2 e3 (zsame_I fun r1 j1 q1 h => zup3_n _ _ h) (fun ci hc h11 => by omega) (fun _ => ⟨cA, ?_, g2, g3, ?_⟩)
        · rw [e1]
          show _ = some (arrV cA (M.2.2.2.1 r j q).2 (fun i => zcv (zrho b base ix) (zget _ (zak (M.2.2.2.1 r j q).1) r j q i)))
          rw [hz]
          congr 2
          funext i
          show _ = zcv _ (zi (zup3 M.1 r j q _ r j q i))
          rw [zup3_s]
          rfl
        · intro h22 i
          show fits .char (.int (zup3 M.1 r j q _ r j q i)) = true
          rw [zup3_s]
          unfold va_cpy
          split
          · exact g4' h22 _
          · exact g4 h22 _
      · obtain ⟨cA, g1, g2, g3, g4⟩ := hR.2.2.2.1 r j q (by omega) h9
        obtain ⟨cA', g1', g2', g3', g4'⟩ := hR.2.2.2.1 r' j' q' (by omega) h9'
        have hz : zak (M.2.2.2.1 r j q).1 = 1 := by rw [ht]; rfl
        rw [h2] at g1' g2'
        rw [hz] at g1 g1'
        refine zW_cpy (fun x => .long x) (f := M.2.1 r' j' q') (g := M.2.1 r j q) hx hb hml hown (hts _ o1) (hts _ o2) (hts _ o3) (hts _ o4) g1' g1 g2' g2 (by rw [ht]; rfl) (fun i => by rw [ht]; rfl) (fun x a h => by cases h) h3 h4 h5 h6 h7 hfr (by rw [zcv_cats]; omega) hd (fun H1 locs1 e1 e2 e3 e4 => ?_)
        refine kk 0 0 _ _ H1 locs1 hk (Nat.zero_le _) (Nat.zero_le _) ?_ (hlocs locs1 e4)
        refine hR.set h9 (by omega) e2 e3 (zsame_L fun r1 j1 q1 h => zup3_n _ _ h) (fun ci hc h11 => by omega) (fun _ => ⟨cA, ?_, g2, g3, fun h => absurd (ht.symm.trans h) (by decide)⟩)
        rw [e1]
        show _ = some (arrV cA (M.2.2.2.1 r j q).2 (fun i => zcv (zrho b base ix) (zget _ (zak (M.2.2.2.1 r j q).1) r j q i)))
        rw [hz]
        congr 2
        funext i
        show _ = zcv _ (zl (zup3 M.2.1 r j q _ r j q i))
        rw [zup3_s]
        rfl
    · exact hop.elim
  · exact zW_cl2 hx hb hml hown hts hK hR hd (Or.inl rfl) hok hbc hbs hfr hlo hop (fun dc ds st' M' H' h1 h2 h3 h4 => kk dc ds st' M' H' locs h1 h2 h3 h4 hloc)
  · exact zW_cl2 hx hb hml hown hts hK hR hd (Or.inr rfl) hok hbc hbs hfr hlo hop (fun dc ds st' M' H' h1 h2 h3 h4 => kk dc ds st' M' H' locs h1 h2 h3 h4 hloc)
  · obtain ⟨idx, rfl, o1, o2, o3⟩ := hok
    split at hop
    · rename_i r t
      exact W.objInit hx hb hown (hts _ o1) (hts _ o2) (hts _ o3) rfl hml.symm rfl hd hfr (by show 2 * 0 + _ + 12 ≤ _; rw [zcv_cats]; omega) (kk 0 0 _ _ _ _ hop.2 (Nat.zero_le _) (Nat.zero_le _) hR hloc)
    · exact hop.elim
  · exact hop.elim
end
end
section
/-! calls, returns, and the whole: what the interpreter comes to, the machine comes to -/
def zPc (Nw : List Jvm.Cond) (AO : List String) (D : va_G) (b base : Nat) (ix : zR → Nat) (al : Nat → zR) (as : List zV) (M : zM) : Array Value → State → Prop := fun v U => v = (as.map (zcv (zrho b base ix))).toArray ∧ zK Nw AO D U ∧ zRel b base ix al D U M U.heap
def zQc (D : va_G) (b base : Nat) (ix : zR → Nat) (al : Nat → zR) (Q : Option zV → zM → Prop) : Array Value → State → Outcome → State → Prop := fun _ _ o t => ∃ r M', o = .returned (r.map (zcv (zrho b base ix))) ∧ zRel b base ix al D t M' t.heap ∧ Q r M'
theorem zPc_blind {Nw : List Jvm.Cond} {AO : List String} {D : va_G} {b base : Nat} {ix : zR → Nat} {al : Nat → zR} {as : List zV} {M : zM} (hN : ∀ w ∈ Nw, znw w) : FrameBlind (zPc Nw AO D b base ix al as M) := fun a U g mk h => ⟨h.1, zK.same (s := U) (U := U.calling g mk a) hN rfl h.2.1, zRel.moved (U := U) (U' := U.calling g mk a) h.2.2 (Vm.Alike.refl U.vm)⟩
section
variable (Y : Nat → MethodName) (B : Nat → ByteArray) (X : Nat → Nat) (T : Nat → Option FieldType) (Ts Nw : List Jvm.Cond)
def zws (mid : Nat) : List Jvm.Cond := Jvm.Cond.code (Y mid) (B mid) (X mid) (T mid) :: Ts
/-- what the tables say of a call -/
def zcok (own : String) (i : Instr) (a : List Nat) : Prop := (∃ mode, a = [mode] ∧ znok Ts Nw own i mode) ∨ ∃ mode mid cl na bc bs np, a = [mode, mid, cl, na, X mid, bc, bs] ∧ Jvm.Cond.code (Y mid) (B mid) (X mid) (T mid) ∈ Ts ∧ Jvm.Cond.initialized (Y mid).cls ∈ Ts ∧ ((Y mid).cls ≠ "java/lang/invoke/MethodHandle" ∧ (Y mid).cls ≠ "java/lang/invoke/VarHandle") ∧ (∀ sig, parseMethodDescriptor (Y mid).desc = some sig → np = sig.parameters.length) ∧ plainName (Y mid).cls = true ∧ X mid ≤ 40 ∧
  ((mode = 0 ∧ na = np + 1 ∧ cl < 11 ∧ ∃ idx, i = .invokevirtual idx ∧ Jvm.Cond.methodLink own idx (Y mid) ∈ Ts ∧ Jvm.Cond.instanceMethod (Y mid) ∈ Ts ∧ Jvm.Cond.selects (zcl cl).1 (Y mid) (Y mid) ∈ Ts) ∨
   (mode = 1 ∧ na = np ∧ ∃ idx, i = .invokestatic idx ∧ Jvm.Cond.methodLink own idx (Y mid) ∈ Ts ∧ Jvm.Cond.static (Y mid) ∈ Ts) ∨
   (mode = 2 ∧ na = np + 1 ∧ T mid = none ∧ (Y mid).name = "<init>" ∧ ∃ idx, i = .invokespecial idx ∧ Jvm.Cond.methodLink own idx (Y mid) ∈ Ts ∧ Jvm.Cond.instanceMethod (Y mid) ∈ Ts) ∨
   (mode = 3 ∧ na = np ∧ ∃ idx host, i = .invokestatic idx ∧ Jvm.Cond.methodLinkNest own idx (Y mid) host ∈ Nw ∧ Jvm.Cond.static (Y mid) ∈ Ts) ∨
   (mode = 4 ∧ na = np + 1 ∧ T mid = none ∧ (Y mid).name = "<init>" ∧ ∃ idx host, i = .invokespecial idx ∧ Jvm.Cond.methodLinkNest own idx (Y mid) host ∈ Nw ∧ Jvm.Cond.instanceMethod (Y mid) ∈ Ts))
def zrok (mid : Nat) (i : Instr) (a : List Nat) : Prop := match i with
  | .ireturn => (a = [0] ∧ T mid = some .int) ∨ (a = [1] ∧ T mid = some .boolean) ∨ (a = [2] ∧ T mid = some .char)
  | .lreturn => T mid = some .long
  | .areturn => (∃ n, T mid = some (.object n)) ∨ ∃ t, T mid = some (.array t)
  | .return_ => T mid = none
  | _ => True
/-- what the tables say of an instruction -/
def zsite (AO : List String) (mid pc : Nat) (e : zE) : Prop := decode (B mid) pc = .ok (e.1, e.2.1) ∧ ((∀ a b d f, e.1 ≠ .tableswitch a b d f) → e.2.1 = zlen e.1) ∧ zconst (Y mid).cls e.1 e.2.2.2 Ts ∧ zjok e.1 pc ∧ zmok Ts Nw (Y mid).cls (Y mid).name e.1 e.2.2.1 ∧ zkok Ts AO (Y mid).cls e.1 e.2.2.1 ∧ (zcall e.1 = true → zcok Y B X T Ts Nw (Y mid).cls e.1 e.2.2.1) ∧ zrok T mid e.1 e.2.2.1
end
section
variable {Y : Nat → MethodName} {B : Nat → ByteArray} {X : Nat → Nat} {T : Nat → Option FieldType} {Ts Nw : List Jvm.Cond} {AO : List String}
variable {p : Program} {l : Launch} {e : Env} {R : Room} {s : State} {m : MethodId} {args : Array Value} {below : List Frame} {meth : Method} {c : Code} {H : Heap} {locs : List Loc} {cells slots : Nat} {Q : State → Prop}
variable {cc : ByteArray} {pc len : Nat} {rls : Array Slot} {st : List zV} {i : Instr} {own : String} {D : va_G} {b base : Nat} {ix : zR → Nat} {al : Nat → zR} {M : zM}
theorem zpush_map (ρ : zR → Nat) (r : Option zV) (t : List zV) : (r.map (zcv ρ)).toList ++ t.map (zcv ρ) = (zpush r t).map (zcv ρ) := by
  cases r <;> rfl
theorem zW_run {mc ms : Nat} {Q' : Option zV → zM → Prop} {rest : List zV} {g : JFrame} {Qa : Array Value} (hg : g = F0 m pc rls (st.map (zcv (zrho b base ix))))
    (hrun : va_Run p l e R s m args below meth c H locs cells slots mc ms g (rest.map (zcv (zrho b base ix))) (zQc D b base ix al Q' Qa) (fun q => base ≤ q)) (hloc : ∀ l ∈ locs, base ≤ l.base)
    (kk : ∀ r M' H' locs', Q' r M' → zRel b base ix al D s M' H' → (∀ l ∈ locs', base ≤ l.base) → W p l e R s m args below meth c H' locs' (cells + mc) (slots + ms) Q (F0 m (pc + 3) rls ((zpush r rest).map (zcv (zrho b base ix))))) :
    W p l e R s m args below meth c H locs cells slots Q (F0 m pc rls (st.map (zcv (zrho b base ix)))) := by
  subst hg
  intro T0 hT Xs
  obtain ⟨v, st0, t, T', L, e0, X', hL, e1, e2, ⟨r, M', hv, hRel, hQ⟩, hgo⟩ := hrun T0 hT Xs
  cases hv
  have hal : t.vm.Alike s.vm := by rw [← e2]; exact X'.warmed.alike.symm
  obtain ⟨t2, s1, q1⟩ := kk r M' T'.heap (locs ++ L) hQ (by rw [e1]; exact hRel.moved hal) (fun q hq => by
    rcases List.mem_append.mp hq with h | h
    · exact hloc q h
    · exact hL q h) T' rfl X'
  refine ⟨t2, hgo t2 ?_, q1⟩
  rw [zpush_map]
  exact s1
theorem zW_call (hx : p.tables.exec = Jvm.exec) (hb : c.code = cc) (hml : c.maxLocals = rls.size) (hown : s.vm.findClass own = some m.cls) (hts : ∀ w ∈ Ts, w.before args s = true) (hgood : ∀ w ∈ Ts, (w.onTables && w.keeps) = true ∨ ∃ ty, w = .arrayClass ty) (hN : ∀ w ∈ Nw, znw w) (hK : zK Nw AO D s) (hR : zRel b base ix al D s M H) (hd : decode cc pc = .ok (i, 3)) (hloc : ∀ l ∈ locs, base ≤ l.base)
    {mode mid cl na bc bs : Nat} (hok : zcok Y B X T Ts Nw own i [mode, mid, cl, na, X mid, bc, bs]) (hna : na ≤ st.length) (hcat : zcats (st.drop na) ≤ 8) (hrec : zrec mode cl (st.take na).reverse M) {d : Nat} {Q' : Option zV → zM → Prop} (hfr : d + 1 ≤ R.frames) (hlo : 64 * (d + 1) ≤ R.locals) (hbc : cells + bc ≤ R.cells) (hbs : slots + bs ≤ R.slots)
    (hM : Met l (Y mid) (zws Y B X T Ts mid) { frames := d, cells := bc, slots := bs, locals := 64 * d } (zPc Nw AO D b base ix al (st.take na).reverse M) (zQc D b base ix al Q') bc bs (fun q => base ≤ q))
    (kk : ∀ r M' H' locs', Q' r M' → zRel b base ix al D s M' H' → (∀ l ∈ locs', base ≤ l.base) → W p l e R s m args below meth c H' locs' (cells + bc) (slots + bs) Q (F0 m (pc + 3) rls ((zpush r (st.drop na)).map (zcv (zrho b base ix))))) :
    W p l e R s m args below meth c H locs cells slots Q (F0 m pc rls (st.map (zcv (zrho b base ix)))) := by
  rcases hok with ⟨mode', h, -⟩ | ⟨mode', mid', cl', na', bc', bs', np, ha, hcode, hini, hmh, hpar, hpl, hX, hmode⟩
  · simp at h
  simp only [List.cons.injEq, and_true] at ha
  obtain ⟨rfl, rfl, rfl, rfl, -, rfl, rfl⟩ := ha
  have hS : CallFix p m c cc rls.size s args Ts own := ⟨hx, hb, hml, hown, hts⟩
  have hws : ∀ w ∈ zws Y B X T Ts mid, ∀ (a' : Array Value) (U : State), s.WarmedH U.vm → w.before a' U = true := by
    intro w hw a' U hW
    rcases List.mem_cons.mp hw with rfl | hw
    · exact word_at hW (hgood _ hcode) (hts _ hcode)
    · exact word_at hW (hgood _ hw) (hts _ hw)
  have hcw : Jvm.Cond.code (Y mid) (B mid) (X mid) (T mid) ∈ zws Y B X T Ts mid := List.mem_cons_self
  have hpre : ∀ U : State, U.heap = H → s.WarmedH U.vm → zPc Nw AO D b base ix al (st.take na).reverse M (((st.take na).reverse).map (zcv (zrho b base ix))).toArray U := fun U hU hW => ⟨rfl, hK.warm hN hW, by rw [hU]; exact hR.moved hW.alike⟩
  have hst : st.map (zcv (zrho b base ix)) = (((st.take na).reverse).map (zcv (zrho b base ix))).reverse ++ (st.drop na).map (zcv (zrho b base ix)) := by
    rw [← List.map_reverse, List.reverse_reverse, ← List.map_append, List.take_append_drop]
  have hlen : ((st.take na).reverse).length = na := by simp; omega
  have hcats : 2 * (F0 m pc rls (st.map (zcv (zrho b base ix)))).monitorRoom + (((st.drop na).map (zcv (zrho b base ix))).map fun v => v.category).sum ≤ 8 := by
    rw [zcv_cats]
    show 2 * 0 + _ ≤ 8
    omega
  have hlo2 : 8 + (X mid + 11) + 64 * d ≤ R.locals := by omega
  rcases hmode with ⟨rfl, hnp, hcl, idx, rfl, o1, o2, o3⟩ | ⟨rfl, hnp, idx, rfl, o1, o2⟩ | ⟨rfl, hnp, hT, hnm, idx, rfl, o1, o2⟩ | ⟨rfl, hnp, idx, host, rfl, o1, o2⟩ | ⟨rfl, hnp, hT, hnm, idx, host, rfl, o1, o2⟩
  · -- a method of an object
    generalize has : (st.take na).reverse = as at hst hlen hpre hM hrec
    simp only [zrec] at hrec
    split at hrec
    · rename_i r j q as'
      obtain ⟨h9, cell, q1, q2, q3, -⟩ := hR.2.2.1 r j q cl hrec hcl
      have hcB : ∃ cellB : Cell, H[zrho b base ix (r, j, q)]? = some cellB ∧ cellB.vm.isStatics = false ∧ s.vm.findClass (zcl cl).1 = some cellB.cls := ⟨cell, q1, by rw [q3]; rfl, by rw [q2]; exact (hK.1.1 cl _ (zcl_at hcl)).2.1⟩
      refine zW_run rfl (va_runV (C := (zcl cl).1) (b := zrho b base ix (r, j, q)) (As := as'.map (zcv (zrho b base ix))) hS hM ⟨⟨rfl, rfl, hfr, hlo2, hws, hcw, hts _ hcode, hts _ hini, hmh, hpar, hts _ o1⟩, hts _ o2, hts _ o3⟩ ⟨zPc_blind hN, hcB, fun U hU hW => hpre U hU hW⟩ rfl (by simp at hlen ⊢; omega) rfl ?_ hcats hd ⟨hbc, hbs⟩) hloc kk
      show st.map (zcv (zrho b base ix)) = _
      rw [hst]
      simp [zcv]
    · exact hrec.elim
  · exact zW_run rfl (va_runS (As := ((st.take na).reverse).map (zcv (zrho b base ix))) hS hM ⟨⟨rfl, rfl, hfr, hlo2, hws, hcw, hts _ hcode, hts _ hini, hmh, hpar, hts _ o1⟩, hts _ o2⟩ ⟨zPc_blind hN, hpre⟩ rfl (by rw [List.length_map, hlen]; omega) rfl hst hcats hd ⟨hbc, hbs⟩) hloc kk
  · generalize has : (st.take na).reverse = as at hst hlen hpre hM hrec
    simp only [zrec] at hrec
    split at hrec
    · rename_i r as'
      have hM' := hM
      refine zW_run rfl (va_runI (b := zrho b base ix r) (As := as'.map (zcv (zrho b base ix))) hS hM ⟨⟨rfl, rfl, hfr, hlo2, hws, by rw [← hT]; exact hcw, by rw [← hT]; exact hts _ hcode, hts _ hini, hmh, hpar, hts _ o1⟩, hnm, hts _ o2⟩ ⟨zPc_blind hN, fun U hU hW => hpre U hU hW⟩ rfl (by simp at hlen ⊢; omega) rfl ?_ hcats hd ⟨hbc, hbs⟩) hloc kk
      show st.map (zcv (zrho b base ix)) = _
      rw [hst]
      simp [zcv]
    · exact hrec.elim
  · exact zW_run rfl (va_runSN (As := ((st.take na).reverse).map (zcv (zrho b base ix))) (host := host) hS hM ⟨⟨⟨rfl, rfl, hfr, hlo2, hws, hcw⟩, hts _ hcode, hts _ hini, hmh, hpar, va_Nw.use rfl (hK.2.1 _ o1)⟩, hts _ o2, trivial⟩ ⟨zPc_blind hN, hpre⟩ rfl (by rw [List.length_map, hlen]; omega) rfl hst hcats hd ⟨hbc, hbs⟩) hloc kk
  · generalize has : (st.take na).reverse = as at hst hlen hpre hM hrec
    simp only [zrec] at hrec
    split at hrec
    · rename_i r as'
      have hM' := hM
      refine zW_run rfl (va_runIN (host := host) (b := zrho b base ix r) (As := as'.map (zcv (zrho b base ix))) hS hM ⟨⟨⟨rfl, rfl, hfr, hlo2, hws, by rw [← hT]; exact hcw⟩, by rw [← hT]; exact hts _ hcode, hts _ hini, hmh, hpar, va_Nw.use rfl (hK.2.1 _ o1)⟩, hnm, hts _ o2⟩ ⟨zPc_blind hN, fun U hU hW => hpre U hU hW⟩ rfl (by simp at hlen ⊢; omega) rfl ?_ hcats hd ⟨hbc, hbs⟩) hloc kk
      show st.map (zcv (zrho b base ix)) = _
      rw [hst]
      simp [zcv]
    · exact hrec.elim
end
end
section
/-! the interpreter's runs are the machine's -/
theorem zent_args (ρ : zR → Nat) : ∀ (as : List zV) (i k : Nat) (v : zV), (zent as)[k]? = some (some v) → (i + k, zcv ρ v) ∈ lv_args i (as.map (zcv ρ)) := by
  intro as
  induction as with
  | nil => intro i k v h; simp [zent] at h
  | cons a t ih =>
    intro i k v h
    rcases a with x | x | x
    · rcases k with _ | k
      · simp [zent] at h
        subst h
        exact List.mem_cons_self
      · have := ih (i + 1) k v (by simpa [zent] using h)
        rw [show i + (k + 1) = i + 1 + k by omega]
        exact List.mem_cons_of_mem _ this
    · rcases k with _ | _ | k
      · simp [zent] at h
        subst h
        exact List.mem_cons_self
      · simp [zent] at h
      · have := ih (i + 2) k v (by simpa [zent] using h)
        rw [show i + (k + 1 + 1) = i + 2 + k by omega]
        exact List.mem_cons_of_mem _ this
    · rcases k with _ | k
      · simp [zent] at h
        subst h
        exact List.mem_cons_self
      · have := ih (i + 1) k v (by simpa [zent] using h)
        rw [show i + (k + 1) = i + 1 + k by omega]
        refine List.mem_cons_of_mem _ ?_
        have e : (zcv ρ (zr x)).category = 1 := zcv_cat ρ (zr x)
        rw [show (Sum.inr (Sum.inr x) : zV) = zr x from rfl, e]
        exact this
theorem zent_len (ρ : zR → Nat) (as : List zV) : (lg_sl (as.map (zcv ρ))).length = (zent as).length := by
  induction as with
  | nil => rfl
  | cons a t ih =>
    unfold lg_sl at ih ⊢
    rw [List.map_cons, List.flatMap_cons, List.length_append, ih, zcv_cat]
    rcases a with x | x | x <;> simp [zcat, zent] <;> omega
theorem zlr_entry (ρ : zR → Nat) (as : List zV) {n : Nat} (h : (zent as).length ≤ n) : zlr ρ (zpad (zent as) n) ((lg_sl (as.map (zcv ρ)) ++ List.replicate (n - (lg_sl (as.map (zcv ρ))).length) Slot.unset).toArray) n := by
  have h2 := zent_len ρ as
  refine ⟨by unfold zpad; simp; omega, _, lv_entry (as.map (zcv ρ)) (by rw [h2]; exact h), fun k v hk => ?_⟩
  have := zent_args ρ as 0 k v (by
    unfold zpad at hk
    by_cases hl : k < (zent as).length
    · rw [List.getElem?_append_left hl] at hk; exact hk
    · rw [List.getElem?_append_right (by omega), List.getElem?_replicate] at hk
      split at hk <;> simp at hk)
  rw [Nat.zero_add] at this
  exact this
section
variable {Y : Nat → MethodName} {B : Nat → ByteArray} {X : Nat → Nat} {T : Nat → Option FieldType} {Ts Nw : List Jvm.Cond} {AO : List String}
variable {p : Program} {l : Launch} {e : Env} {R : Room} {s : State} {m : MethodId} {args : Array Value} {below : List Frame} {meth : Method} {c : Code} {H : Heap} {locs : List Loc} {cells slots : Nat}
variable {pc len : Nat} {rls : Array Slot} {st : List zV} {i : Instr} {D : va_G} {b base : Nat} {ix : zR → Nat} {al : Nat → zR} {M : zM} {mid : Nat} {a : List Nat}
theorem znar_c {x : Int32} (h : vp_nar .char x = x) : narrow .char (.int x) = .int x := by
  have : narrow .char (.int x) = .int (vp_nar .char x) := rfl
  rw [this, h]
theorem zW_ret {cc : ByteArray} (hx : p.tables.exec = Jvm.exec) (hb : c.code = cc) (hr : meth.sig.returnType = T mid) (hlocks : meth.locks = false) (hd : decode cc pc = .ok (i, len)) (hlen : len = zlen i) (hok : zrok T mid i a) (hR : zRel b base ix al D s M H) (hloc : ∀ l ∈ locs, base ≤ l.base) {bc bs : Nat} (hbc : cells ≤ bc) (hbs : slots ≤ bs) {Q : Option zV → zM → Prop} (hop : zret i a st (fun r => Q r M)) :
    W p l e R s m args below meth c H locs cells slots (MQ below (zQc D b base ix al Q) args s bc bs (fun q => base ≤ q)) (F0 m pc rls (st.map (zcv (zrho b base ix)))) := by
  subst hlen
  refine W.widen (k := bc) (n := bs) hbc hbs ?_
  have hq : ∀ r, Q r M → ∀ t : State, t.heap = H → s.WarmedH t.vm → zQc D b base ix al Q args s (.returned (r.map (zcv (zrho b base ix)))) t := fun r h t ht hW => ⟨r, M, rfl, by rw [ht]; exact hR.moved hW.alike, h⟩
  cases i <;> first
    | (simp [zret] at hop; done)
    | skip
  case ireturn =>
    simp only [zret] at hop
    rcases hok with ⟨rfl, hT⟩ | ⟨rfl, hT⟩ | ⟨rfl, hT⟩
    · split at hop <;> first | (exact hop.elim) | skip
      all_goals (have h1 := ‹[0] = _›; simp at h1)
      exact W.iret hx hb (hr.trans hT) (hq _ hop) hloc hd hlocks
    · split at hop <;> first | (exact hop.elim) | skip
      all_goals (have h1 := ‹[1] = _›; simp at h1)
      exact W.zret hx hb (hr.trans hT) (by rcases hop.1 with h | h <;> rw [h] <;> rfl) (hq _ hop.2) hloc hd hlocks
    · split at hop <;> first | (exact hop.elim) | skip
      all_goals (have h1 := ‹[2] = _›; simp at h1)
      exact W.zret hx hb (hr.trans hT) (znar_c hop.1) (hq _ hop.2) hloc hd hlocks
  case lreturn =>
    simp only [zret] at hop
    split at hop
    · exact W.lret hx hb (hr.trans hok) (hq _ hop) hloc hd hlocks
    · exact hop.elim
  case areturn =>
    simp only [zret] at hop
    split at hop
    · rename_i x
      rcases hok with ⟨n, hT⟩ | ⟨t, hT⟩
      · exact W.aret hx hb (hr.trans hT) (Or.inl ⟨n, rfl⟩) (by cases x <;> first | exact Or.inl rfl | exact Or.inr ⟨_, rfl⟩) (hq _ hop) hloc hd hlocks
      · exact W.aret hx hb (hr.trans hT) (Or.inr ⟨t, rfl⟩) (by cases x <;> first | exact Or.inl rfl | exact Or.inr ⟨_, rfl⟩) (hq _ hop) hloc hd hlocks
    · exact hop.elim
  case return_ =>
    simp only [zret] at hop
    split at hop
    · exact W.vret hx hb (hr.trans hok) (hq _ hop) hloc hd hlocks
    · exact hop.elim
end
/-- the tables' words and sites, all at once -/
def zall (F : Nat → Nat → Option zE) (Y : Nat → MethodName) (B : Nat → ByteArray) (X : Nat → Nat) (T : Nat → Option FieldType) (Ts Nw : List Jvm.Cond) (AO : List String) : Prop := (∀ mid pc x, F mid pc = some x → zsite Y B X T Ts Nw AO mid pc x) ∧ zcls Ts ∧ (∀ w ∈ Ts, (w.onTables && w.keeps) = true ∨ ∃ ty, w = .arrayClass ty) ∧ ∀ w ∈ Nw, znw w
/-- what a frame stands on -/
def zfr (Y : Nat → MethodName) (B : Nat → ByteArray) (Ts : List Jvm.Cond) (p : Program) (s : State) (m : MethodId) (args : Array Value) (meth : Method) (c : Code) (mid : Nat) : Prop := p.tables.exec = Jvm.exec ∧ c.code = B mid ∧ s.vm.findClass (Y mid).cls = some m.cls ∧ (∀ w ∈ Ts, w.before args s = true) ∧ meth.name = (Y mid).name
set_option maxHeartbeats 4000000 in
theorem ev_sound {F : Nat → Nat → Option zE} {al : Nat → zR} {Y : Nat → MethodName} {B : Nat → ByteArray} {X : Nat → Nat} {T : Nat → Option FieldType} {Ts Nw : List Jvm.Cond} {AO : List String} (hall : zall F Y B X T Ts Nw AO) {l : Launch} {D : va_G} {b base : Nat} {ix : zR → Nat} :
    ∀ (n d bc bs mid pc : Nat) (ls : List (Option zV)) (st : List zV) (M : zM) (Q : Option zV → zM → Prop), ev F al n d bc bs mid pc ls st M Q →
    ∀ {p : Program} {e : Env} {R : Room} {s : State} {m : MethodId} {args : Array Value} {below : List Frame} {meth : Method} {c : Code} {H : Heap} {locs : List Loc} {cells slots : Nat} {Qf : State → Prop} {rls : Array Slot},
    zfr Y B Ts p s m args meth c mid → c.maxLocals = rls.size → zK Nw AO D s → zRel b base ix al D s M H → zlr (zrho b base ix) ls rls rls.size → d ≤ R.frames → 64 * d ≤ R.locals → cells + bc ≤ R.cells → slots + bs ≤ R.slots → (∀ l ∈ locs, base ≤ l.base) →
    (∀ (i : Instr) (len : Nat) (a : List Nat) (z : Int) (pc' : Nat) (st' : List zV) (rls' : Array Slot) (M' : zM) (H' : Heap) (locs' : List Loc) (cells' slots' : Nat), F mid pc' = some (i, len, a, z) → zret i a st' (fun r => Q r M') → zRel b base ix al D s M' H' → (∀ l ∈ locs', base ≤ l.base) → cells' ≤ cells + bc → slots' ≤ slots + bs → W p l e R s m args below meth c H' locs' cells' slots' Qf (F0 m pc' rls' (st'.map (zcv (zrho b base ix))))) →
    W p l e R s m args below meth c H locs cells slots Qf (F0 m pc rls (st.map (zcv (zrho b base ix)))) := by
  intro n
  induction n with
  | zero => intro d bc bs mid pc ls st M Q h; exact h.elim
  | succ n ih =>
    intro d bc bs mid pc ls st M Q h p e R s m args below meth c H locs cells slots Qf rls hf hml hK hR hl hfr hlo hbc hbs hloc HR
    obtain ⟨hsite, hcls, hgood, hN⟩ := id hall
    obtain ⟨hx, hb, hown, hts, hmn⟩ := id hf
    rw [ev] at h
    split at h
    · exact h.elim
    · rename_i i len a z hF
      obtain ⟨hd, hlen, hco, hjo, hmo, hko, hca, hro⟩ := hsite mid pc _ hF
      split at h
      · rename_i st' hop
        have hl3 : len = zlen i := hlen (fun _ _ _ _ he => by rw [show i = _ from he] at hop; simp [zop] at hop)
        exact zW_op hx hb hown hts hd hl3 hco hop (ih _ _ _ _ _ _ _ _ _ h hf hml hK hR hl hfr hlo hbc hbs hloc HR)
      · split at h
        · rename_i k kd hop
          have hl3 : len = zlen i := hlen (fun _ _ _ _ he => by rw [show i = _ from he] at hop; simp [zld] at hop)
          split at h
          · rename_i v hk
            exact zW_ld hx hb hd hl3 hop hl hk h.1 (ih _ _ _ _ _ _ _ _ _ h.2 hf hml hK hR hl hfr hlo hbc hbs hloc HR)
          · exact h.elim
        · split at h
          · rename_i k kd hop
            have hl3 : len = zlen i := hlen (fun _ _ _ _ he => by rw [show i = _ from he] at hop; simp [zsr] at hop)
            split at h
            · rename_i v t
              obtain ⟨h1, h2, h3⟩ := h
              refine zW_sr hx hb hd hl3 hop hl h1 (by rw [← hl.1]; exact h2) (fun rls' hl' => ?_)
              have hsz : rls'.size = rls.size := hl'.sz
              exact ih _ _ _ _ _ _ _ _ _ h3 hf (hml.trans hsz.symm) hK hR (by rw [hsz]; exact hl') hfr hlo hbc hbs hloc HR
            · exact h.elim
          · split at h
            · rename_i k y
              have hl3 : len = 3 := hlen (fun _ _ _ _ he => by cases he)
              subst hl3
              split at h
              · rename_i x hk
                refine zW_iinc hx hb hd hl hk (fun rls' hl' => ?_)
                have hsz : rls'.size = rls.size := hl'.sz
                exact ih _ _ _ _ _ _ _ _ _ h hf (hml.trans hsz.symm) hK hR (by rw [hsz]; exact hl') hfr hlo hbc hbs hloc HR
              · exact h.elim
            · split at h
              · rename_i hcall
                have hl3 : len = 3 := by
                  have hh : len = zlen i := hlen (fun _ _ _ _ he => by rw [show i = _ from he] at hcall; simp [zcall] at hcall)
                  rw [hh]
                  cases i <;> first | rfl | (simp [zcall] at hcall)
                subst hl3
                split at h
                · exact h.elim
                · rename_i d
                  split at h
                  · rename_i mode
                    rcases hca hcall with ⟨mode', ha, hok⟩ | ⟨mode', mid', cl, na, bc', bs', np, ha, -⟩
                    · have hm : mode = mode' := by simpa using ha
                      subst hm
                      refine zW_nat hx hb hml hown hts hK hR hd hok hbc hbs (by omega) (by omega) hloc h (fun dc ds st' M' H' locs' g1 g2 g3 g4 g5 => ?_)
                      exact ih _ _ _ _ _ _ _ _ _ g1 hf hml hK g4 hl hfr hlo (by omega) (by omega) g5 (fun i len a z pc' st' rls' M' H' locs' cells' slots' q1 q2 q3 q4 q5 q6 => HR i len a z pc' st' rls' M' H' locs' cells' slots' q1 q2 q3 q4 (by omega) (by omega))
                    · simp at ha
                  · rename_i mode mid' cl na nl bc' bs'
                    obtain ⟨g1, g2, g3, g4, g5, g6, g7⟩ := h
                    have hok := hca hcall
                    have hnl : nl = X mid' := by
                      rcases hok with ⟨mode', ha, -⟩ | ⟨mode', mid'', cl', na', bc'', bs'', np, ha, -⟩
                      · simp at ha
                      · simp only [List.cons.injEq, and_true] at ha
                        obtain ⟨-, rfl, -, -, ha, -, -⟩ := ha
                        exact ha
                    subst hnl
                    have hok2 := hok
                    rcases hok2 with ⟨mode', ha, -⟩ | ⟨mode', mid'', cl', na', bc'', bs'', np, ha, hcode, hini, hmh, hpar, hpl, hX, -⟩
                    · simp at ha
                    simp only [List.cons.injEq, and_true] at ha
                    obtain ⟨-, rfl, -, -, -, -, -⟩ := ha
                    refine zW_call hx hb hml hown hts hgood hN hK hR hd hloc hok g3 g4 g5 hfr hlo (by omega) (by omega) ?_ (fun r M' H' locs' q1 q2 q3 => ?_) (Q' := fun r M' => ev F al n (d + 1) (bc - bc') (bs - bs') mid (pc + 3) ls (zpush r (st.drop na)) M' Q)
                    · refine Met.ofW (cc := B mid') (maxL := X mid') (ret := T mid') hpl rfl ?_
                      intro p2 e2 s2 m2 args2 below2 meth2 c2 s₁ Bd hml2 hv
                      obtain ⟨rfl, hK2, hR2⟩ := hv
                      rw [lg_entry_eq]
                      have hl2 := zlr_entry (zrho b base ix) (st.take na).reverse g6
                      have hsz2 := hl2.sz
                      refine ih d bc' bs' mid' 0 _ [] M _ g7 (cells := 0) (slots := 0) (locs := []) ⟨Bd.exec, Bd.bytes, findClass_of_methodNamed Bd.named, fun w hw => atoms_spec (ws := zws Y B X T Ts mid') Bd.pre w (List.mem_cons_of_mem _ hw), (name_of_methodNamed Bd.named Bd.method).1⟩ (hml2.trans hsz2.symm) hK2 hR2 (by rw [hsz2]; exact hl2) (Nat.le_refl _) (Nat.le_refl _) (by rw [Nat.zero_add]; exact Nat.le_refl _) (by rw [Nat.zero_add]; exact Nat.le_refl _) (fun _ hh => absurd hh List.not_mem_nil) (fun i len a z pc' st' rls' M' H' locs' cells' slots' q1 q2 q3 q4 q5 q6 => ?_)
                      obtain ⟨hd', hlen', -, -, -, -, -, hro'⟩ := hsite mid' pc' _ q1
                      exact zW_ret Bd.exec Bd.bytes Bd.returns Bd.notSynchronized hd' (hlen' (fun _ _ _ _ he => by rw [show i = _ from he] at q2; simp [zret] at q2)) hro' q3 q4 (by omega) (by omega) q2
                    · exact ih _ _ _ _ _ _ _ _ _ q1 hf hml hK q2 hl hfr hlo (by omega) (by omega) q3 (fun i len a z pc' st' rls' M' H' locs' cells' slots' w1 w2 w3 w4 w5 w6 => HR i len a z pc' st' rls' M' H' locs' cells' slots' w1 w2 w3 w4 (by omega) (by omega))
                  · exact h.elim
              · rcases h with h | h | h | h
                · have hl3 : len = zlen i := hlen (fun _ _ _ _ he => by rw [show i = _ from he] at h; simp [zmem] at h)
                  refine zW_mem hx hb hown hts hcls hK hR hd hl3 (by rw [hmn]; exact hmo) hloc h (fun st' M' H' locs' g1 g2 g3 => ?_)
                  exact ih _ _ _ _ _ _ _ _ _ g1 hf hml hK g2 hl hfr hlo hbc hbs g3 HR
                · have hl3 : len = zlen i := hlen (fun _ _ _ _ he => by rw [show i = _ from he] at h; simp [zmk] at h)
                  refine zW_mk hx hb hown hts hcls hK hR hd hl3 hko hbc hbs h (fun dc ds st' M' H' g1 g2 g3 g4 => ?_)
                  exact ih _ _ _ _ _ _ _ _ _ g1 hf hml hK g4 hl hfr hlo (by omega) (by omega) hloc (fun i len a z pc' st' rls' M' H' locs' cells' slots' q1 q2 q3 q4 q5 q6 => HR i len a z pc' st' rls' M' H' locs' cells' slots' q1 q2 q3 q4 (by omega) (by omega))
                · exact zW_br hx hb hd hlen hjo h (fun pc' st' g1 => ih _ _ _ _ _ _ _ _ _ g1 hf hml hK hR hl hfr hlo hbc hbs hloc HR)
                · exact HR i len a z pc st rls M H locs cells slots hF h hR hloc (by omega) (by omega)
end
