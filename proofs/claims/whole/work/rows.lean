section
-- ===== PART A: goes FIRST, ahead of the names: the tables' words, and 'selects' of the private methods out of them =====
/-- a private method of a class that the tables say can be made, by its rows of tables_1 -/
def lw_okq (q : MethodName × Nat) : Prop := (q.1.cls ≠ "java/lang/invoke/MethodHandle" ∧ q.1.cls ≠ "java/lang/invoke/VarHandle") ∧ Cond.instantiable q.1.cls q.2 ∈ tables_1 ∧ Cond.privateMethod q.1 ∈ tables_1 ∧ Cond.instanceMethod q.1 ∈ tables_1
theorem lw_p0 : lw_okq (⟨"GateTable", "told", "(I)I"⟩, 12) := ⟨⟨by decide +kernel, by decide +kernel⟩, List.mem_of_getElem? (i := 17) (by decide +kernel), List.mem_of_getElem? (i := 383) (by decide +kernel), List.mem_of_getElem? (i := 384) (by decide +kernel)⟩
theorem lw_p1 : lw_okq (⟨"GateTable$Tape", "accepts", "(C)Z"⟩, 5) := ⟨⟨by decide +kernel, by decide +kernel⟩, List.mem_of_getElem? (i := 25) (by decide +kernel), List.mem_of_getElem? (i := 391) (by decide +kernel), List.mem_of_getElem? (i := 392) (by decide +kernel)⟩
theorem lw_p2 : lw_okq (⟨"GateTable$Tape", "opens", "(C)Z"⟩, 5) := ⟨⟨by decide +kernel, by decide +kernel⟩, List.mem_of_getElem? (i := 25) (by decide +kernel), List.mem_of_getElem? (i := 395) (by decide +kernel), List.mem_of_getElem? (i := 396) (by decide +kernel)⟩
theorem lw_p3 : lw_okq (⟨"GateTable$Tape", "acceptsAtItem", "(C)Z"⟩, 5) := ⟨⟨by decide +kernel, by decide +kernel⟩, List.mem_of_getElem? (i := 25) (by decide +kernel), List.mem_of_getElem? (i := 399) (by decide +kernel), List.mem_of_getElem? (i := 400) (by decide +kernel)⟩
theorem lw_p4 : lw_okq (⟨"GateTable$Tape", "closes", "(C)Z"⟩, 5) := ⟨⟨by decide +kernel, by decide +kernel⟩, List.mem_of_getElem? (i := 25) (by decide +kernel), List.mem_of_getElem? (i := 403) (by decide +kernel), List.mem_of_getElem? (i := 404) (by decide +kernel)⟩
theorem lw_p5 : lw_okq (⟨"GateTable$Player", "doBody", "(II)I"⟩, 18) := ⟨⟨by decide +kernel, by decide +kernel⟩, List.mem_of_getElem? (i := 48) (by decide +kernel), List.mem_of_getElem? (i := 430) (by decide +kernel), List.mem_of_getElem? (i := 431) (by decide +kernel)⟩
theorem lw_p6 : lw_okq (⟨"GateTable$Player", "doOne", "(II)I"⟩, 18) := ⟨⟨by decide +kernel, by decide +kernel⟩, List.mem_of_getElem? (i := 48) (by decide +kernel), List.mem_of_getElem? (i := 442) (by decide +kernel), List.mem_of_getElem? (i := 443) (by decide +kernel)⟩
theorem lw_p7 : lw_okq (⟨"GateTable$Player", "breakBy", "(II)I"⟩, 18) := ⟨⟨by decide +kernel, by decide +kernel⟩, List.mem_of_getElem? (i := 48) (by decide +kernel), List.mem_of_getElem? (i := 447) (by decide +kernel), List.mem_of_getElem? (i := 448) (by decide +kernel)⟩
theorem lw_p8 : lw_okq (⟨"GateTable$Player", "doTry", "(II)I"⟩, 18) := ⟨⟨by decide +kernel, by decide +kernel⟩, List.mem_of_getElem? (i := 48) (by decide +kernel), List.mem_of_getElem? (i := 451) (by decide +kernel), List.mem_of_getElem? (i := 452) (by decide +kernel)⟩
theorem lw_p9 : lw_okq (⟨"GateTable$Player", "takeBack", "(I)V"⟩, 18) := ⟨⟨by decide +kernel, by decide +kernel⟩, List.mem_of_getElem? (i := 48) (by decide +kernel), List.mem_of_getElem? (i := 455) (by decide +kernel), List.mem_of_getElem? (i := 456) (by decide +kernel)⟩
theorem lw_p10 : lw_okq (⟨"GateTable$Player", "put", "(III)V"⟩, 18) := ⟨⟨by decide +kernel, by decide +kernel⟩, List.mem_of_getElem? (i := 48) (by decide +kernel), List.mem_of_getElem? (i := 459) (by decide +kernel), List.mem_of_getElem? (i := 460) (by decide +kernel)⟩
theorem lw_p11 : lw_okq (⟨"GateTable$Player", "doOften", "(III)I"⟩, 18) := ⟨⟨by decide +kernel, by decide +kernel⟩, List.mem_of_getElem? (i := 48) (by decide +kernel), List.mem_of_getElem? (i := 468) (by decide +kernel), List.mem_of_getElem? (i := 469) (by decide +kernel)⟩
theorem lw_p12 : lw_okq (⟨"GateTable$Player", "doStay", "(III)I"⟩, 18) := ⟨⟨by decide +kernel, by decide +kernel⟩, List.mem_of_getElem? (i := 48) (by decide +kernel), List.mem_of_getElem? (i := 475) (by decide +kernel), List.mem_of_getElem? (i := 476) (by decide +kernel)⟩
theorem lw_p13 : lw_okq (⟨"GateTable$Player", "enter", "(I)V"⟩, 18) := ⟨⟨by decide +kernel, by decide +kernel⟩, List.mem_of_getElem? (i := 48) (by decide +kernel), List.mem_of_getElem? (i := 482) (by decide +kernel), List.mem_of_getElem? (i := 483) (by decide +kernel)⟩
theorem lw_p14 : lw_okq (⟨"GateTable$Player", "leave", "(I)V"⟩, 18) := ⟨⟨by decide +kernel, by decide +kernel⟩, List.mem_of_getElem? (i := 48) (by decide +kernel), List.mem_of_getElem? (i := 490) (by decide +kernel), List.mem_of_getElem? (i := 491) (by decide +kernel)⟩
theorem lw_p15 : lw_okq (⟨"GateTable$Player", "doAdd", "(II)I"⟩, 18) := ⟨⟨by decide +kernel, by decide +kernel⟩, List.mem_of_getElem? (i := 48) (by decide +kernel), List.mem_of_getElem? (i := 494) (by decide +kernel), List.mem_of_getElem? (i := 495) (by decide +kernel)⟩
def lw_privs_1 : List (MethodName × Nat) := [(⟨"GateTable", "told", "(I)I"⟩, 12), (⟨"GateTable$Tape", "accepts", "(C)Z"⟩, 5), (⟨"GateTable$Tape", "opens", "(C)Z"⟩, 5), (⟨"GateTable$Tape", "acceptsAtItem", "(C)Z"⟩, 5), (⟨"GateTable$Tape", "closes", "(C)Z"⟩, 5), (⟨"GateTable$Player", "doBody", "(II)I"⟩, 18), (⟨"GateTable$Player", "doOne", "(II)I"⟩, 18), (⟨"GateTable$Player", "breakBy", "(II)I"⟩, 18), (⟨"GateTable$Player", "doTry", "(II)I"⟩, 18), (⟨"GateTable$Player", "takeBack", "(I)V"⟩, 18), (⟨"GateTable$Player", "put", "(III)V"⟩, 18), (⟨"GateTable$Player", "doOften", "(III)I"⟩, 18), (⟨"GateTable$Player", "doStay", "(III)I"⟩, 18), (⟨"GateTable$Player", "enter", "(I)V"⟩, 18), (⟨"GateTable$Player", "leave", "(I)V"⟩, 18), (⟨"GateTable$Player", "doAdd", "(II)I"⟩, 18)]
theorem lw_r1 : ∀ q ∈ lw_privs_1, lw_okq q := List.forall_mem_cons.mpr ⟨lw_p0, List.forall_mem_cons.mpr ⟨lw_p1, List.forall_mem_cons.mpr ⟨lw_p2, List.forall_mem_cons.mpr ⟨lw_p3, List.forall_mem_cons.mpr ⟨lw_p4, List.forall_mem_cons.mpr ⟨lw_p5, List.forall_mem_cons.mpr ⟨lw_p6, List.forall_mem_cons.mpr ⟨lw_p7, List.forall_mem_cons.mpr ⟨lw_p8, List.forall_mem_cons.mpr ⟨lw_p9, List.forall_mem_cons.mpr ⟨lw_p10, List.forall_mem_cons.mpr ⟨lw_p11, List.forall_mem_cons.mpr ⟨lw_p12, List.forall_mem_cons.mpr ⟨lw_p13, List.forall_mem_cons.mpr ⟨lw_p14, List.forall_mem_cons.mpr ⟨lw_p15, fun _ h => absurd h List.not_mem_nil⟩⟩⟩⟩⟩⟩⟩⟩⟩⟩⟩⟩⟩⟩⟩⟩
theorem lw_p16 : lw_okq (⟨"GateTable$History", "loseOldest", "()V"⟩, 2) := ⟨⟨by decide +kernel, by decide +kernel⟩, List.mem_of_getElem? (i := 241) (by decide +kernel), List.mem_of_getElem? (i := 502) (by decide +kernel), List.mem_of_getElem? (i := 503) (by decide +kernel)⟩
theorem lw_p17 : lw_okq (⟨"GateTable$Table", "rest", "(I)V"⟩, 14) := ⟨⟨by decide +kernel, by decide +kernel⟩, List.mem_of_getElem? (i := 186) (by decide +kernel), List.mem_of_getElem? (i := 514) (by decide +kernel), List.mem_of_getElem? (i := 515) (by decide +kernel)⟩
theorem lw_p18 : lw_okq (⟨"GateTable$Table", "awaitGate", "(II)I"⟩, 14) := ⟨⟨by decide +kernel, by decide +kernel⟩, List.mem_of_getElem? (i := 186) (by decide +kernel), List.mem_of_getElem? (i := 610) (by decide +kernel), List.mem_of_getElem? (i := 611) (by decide +kernel)⟩
theorem lw_p19 : lw_okq (⟨"GateTable$Table", "ringOf", "(I)I"⟩, 14) := ⟨⟨by decide +kernel, by decide +kernel⟩, List.mem_of_getElem? (i := 186) (by decide +kernel), List.mem_of_getElem? (i := 614) (by decide +kernel), List.mem_of_getElem? (i := 615) (by decide +kernel)⟩
theorem lw_p20 : lw_okq (⟨"GateTable$Table", "blockerOf", "(I)I"⟩, 14) := ⟨⟨by decide +kernel, by decide +kernel⟩, List.mem_of_getElem? (i := 186) (by decide +kernel), List.mem_of_getElem? (i := 618) (by decide +kernel), List.mem_of_getElem? (i := 619) (by decide +kernel)⟩
theorem lw_p21 : lw_okq (⟨"GateTable$Table", "chooseVictim", "(I)I"⟩, 14) := ⟨⟨by decide +kernel, by decide +kernel⟩, List.mem_of_getElem? (i := 186) (by decide +kernel), List.mem_of_getElem? (i := 623) (by decide +kernel), List.mem_of_getElem? (i := 624) (by decide +kernel)⟩
theorem lw_p22 : lw_okq (⟨"GateTable$Table", "claim", "(I)I"⟩, 14) := ⟨⟨by decide +kernel, by decide +kernel⟩, List.mem_of_getElem? (i := 186) (by decide +kernel), List.mem_of_getElem? (i := 628) (by decide +kernel), List.mem_of_getElem? (i := 629) (by decide +kernel)⟩
theorem lw_p23 : lw_okq (⟨"GateTable$Table", "gatesOf", "(I)I"⟩, 14) := ⟨⟨by decide +kernel, by decide +kernel⟩, List.mem_of_getElem? (i := 186) (by decide +kernel), List.mem_of_getElem? (i := 632) (by decide +kernel), List.mem_of_getElem? (i := 633) (by decide +kernel)⟩
theorem lw_p24 : lw_okq (⟨"GateTable$Table", "withdraw", "(I)V"⟩, 14) := ⟨⟨by decide +kernel, by decide +kernel⟩, List.mem_of_getElem? (i := 186) (by decide +kernel), List.mem_of_getElem? (i := 642) (by decide +kernel), List.mem_of_getElem? (i := 643) (by decide +kernel)⟩
theorem lw_p25 : lw_okq (⟨"GateTable$Table", "doNextStep", "(I)V"⟩, 14) := ⟨⟨by decide +kernel, by decide +kernel⟩, List.mem_of_getElem? (i := 186) (by decide +kernel), List.mem_of_getElem? (i := 646) (by decide +kernel), List.mem_of_getElem? (i := 647) (by decide +kernel)⟩
theorem lw_p26 : lw_okq (⟨"GateTable$Table", "drawOnce", "()I"⟩, 14) := ⟨⟨by decide +kernel, by decide +kernel⟩, List.mem_of_getElem? (i := 186) (by decide +kernel), List.mem_of_getElem? (i := 676) (by decide +kernel), List.mem_of_getElem? (i := 677) (by decide +kernel)⟩
theorem lw_p27 : lw_okq (⟨"GateTable$Table", "tasksThatAwait", "(I)I"⟩, 14) := ⟨⟨by decide +kernel, by decide +kernel⟩, List.mem_of_getElem? (i := 186) (by decide +kernel), List.mem_of_getElem? (i := 707) (by decide +kernel), List.mem_of_getElem? (i := 708) (by decide +kernel)⟩
theorem lw_p28 : lw_okq (⟨"GateTable$Table", "tasksInRings", "()I"⟩, 14) := ⟨⟨by decide +kernel, by decide +kernel⟩, List.mem_of_getElem? (i := 186) (by decide +kernel), List.mem_of_getElem? (i := 731) (by decide +kernel), List.mem_of_getElem? (i := 732) (by decide +kernel)⟩
theorem lw_p29 : lw_okq (⟨"GateTable$Order", "readTrace", "(LGateTable$Trace;)V"⟩, 1) := ⟨⟨by decide +kernel, by decide +kernel⟩, List.mem_of_getElem? (i := 257) (by decide +kernel), List.mem_of_getElem? (i := 745) (by decide +kernel), List.mem_of_getElem? (i := 746) (by decide +kernel)⟩
theorem lw_p30 : lw_okq (⟨"GateTable$Order", "loopThrough", "(I)I"⟩, 1) := ⟨⟨by decide +kernel, by decide +kernel⟩, List.mem_of_getElem? (i := 257) (by decide +kernel), List.mem_of_getElem? (i := 769) (by decide +kernel), List.mem_of_getElem? (i := 770) (by decide +kernel)⟩
theorem lw_p31 : lw_okq (⟨"GateTable$Order", "behindAll", "(I)I"⟩, 1) := ⟨⟨by decide +kernel, by decide +kernel⟩, List.mem_of_getElem? (i := 257) (by decide +kernel), List.mem_of_getElem? (i := 773) (by decide +kernel), List.mem_of_getElem? (i := 774) (by decide +kernel)⟩
def lw_privs_2 : List (MethodName × Nat) := [(⟨"GateTable$History", "loseOldest", "()V"⟩, 2), (⟨"GateTable$Table", "rest", "(I)V"⟩, 14), (⟨"GateTable$Table", "awaitGate", "(II)I"⟩, 14), (⟨"GateTable$Table", "ringOf", "(I)I"⟩, 14), (⟨"GateTable$Table", "blockerOf", "(I)I"⟩, 14), (⟨"GateTable$Table", "chooseVictim", "(I)I"⟩, 14), (⟨"GateTable$Table", "claim", "(I)I"⟩, 14), (⟨"GateTable$Table", "gatesOf", "(I)I"⟩, 14), (⟨"GateTable$Table", "withdraw", "(I)V"⟩, 14), (⟨"GateTable$Table", "doNextStep", "(I)V"⟩, 14), (⟨"GateTable$Table", "drawOnce", "()I"⟩, 14), (⟨"GateTable$Table", "tasksThatAwait", "(I)I"⟩, 14), (⟨"GateTable$Table", "tasksInRings", "()I"⟩, 14), (⟨"GateTable$Order", "readTrace", "(LGateTable$Trace;)V"⟩, 1), (⟨"GateTable$Order", "loopThrough", "(I)I"⟩, 1), (⟨"GateTable$Order", "behindAll", "(I)I"⟩, 1)]
theorem lw_r2 : ∀ q ∈ lw_privs_2, lw_okq q := List.forall_mem_cons.mpr ⟨lw_p16, List.forall_mem_cons.mpr ⟨lw_p17, List.forall_mem_cons.mpr ⟨lw_p18, List.forall_mem_cons.mpr ⟨lw_p19, List.forall_mem_cons.mpr ⟨lw_p20, List.forall_mem_cons.mpr ⟨lw_p21, List.forall_mem_cons.mpr ⟨lw_p22, List.forall_mem_cons.mpr ⟨lw_p23, List.forall_mem_cons.mpr ⟨lw_p24, List.forall_mem_cons.mpr ⟨lw_p25, List.forall_mem_cons.mpr ⟨lw_p26, List.forall_mem_cons.mpr ⟨lw_p27, List.forall_mem_cons.mpr ⟨lw_p28, List.forall_mem_cons.mpr ⟨lw_p29, List.forall_mem_cons.mpr ⟨lw_p30, List.forall_mem_cons.mpr ⟨lw_p31, fun _ h => absurd h List.not_mem_nil⟩⟩⟩⟩⟩⟩⟩⟩⟩⟩⟩⟩⟩⟩⟩⟩
theorem lw_p32 : lw_okq (⟨"GateTable$Pair", "goOn", "(II)V"⟩, 8) := ⟨⟨by decide +kernel, by decide +kernel⟩, List.mem_of_getElem? (i := 267) (by decide +kernel), List.mem_of_getElem? (i := 795) (by decide +kernel), List.mem_of_getElem? (i := 796) (by decide +kernel)⟩
theorem lw_p33 : lw_okq (⟨"GateTable$Pair", "endWays", "(IIJJ)V"⟩, 8) := ⟨⟨by decide +kernel, by decide +kernel⟩, List.mem_of_getElem? (i := 267) (by decide +kernel), List.mem_of_getElem? (i := 807) (by decide +kernel), List.mem_of_getElem? (i := 808) (by decide +kernel)⟩
theorem lw_p34 : lw_okq (⟨"GateTable$Pair", "commonHalvings", "()I"⟩, 8) := ⟨⟨by decide +kernel, by decide +kernel⟩, List.mem_of_getElem? (i := 267) (by decide +kernel), List.mem_of_getElem? (i := 828) (by decide +kernel), List.mem_of_getElem? (i := 829) (by decide +kernel)⟩
theorem lw_p35 : lw_okq (⟨"GateTable", "tryRow", "(LGateTable$Sheet;II)I"⟩, 12) := ⟨⟨by decide +kernel, by decide +kernel⟩, List.mem_of_getElem? (i := 17) (by decide +kernel), List.mem_of_getElem? (i := 916) (by decide +kernel), List.mem_of_getElem? (i := 917) (by decide +kernel)⟩
theorem lw_p36 : lw_okq (⟨"GateTableModel", "put", "(III)V"⟩, 47) := ⟨⟨by decide +kernel, by decide +kernel⟩, List.mem_of_getElem? (i := 973) (by decide +kernel), List.mem_of_getElem? (i := 979) (by decide +kernel), List.mem_of_getElem? (i := 980) (by decide +kernel)⟩
theorem lw_p37 : lw_okq (⟨"GateTableModel", "laysTraces", "()Z"⟩, 47) := ⟨⟨by decide +kernel, by decide +kernel⟩, List.mem_of_getElem? (i := 973) (by decide +kernel), List.mem_of_getElem? (i := 983) (by decide +kernel), List.mem_of_getElem? (i := 984) (by decide +kernel)⟩
theorem lw_p38 : lw_okq (⟨"GateTableModel", "laysTrace", "(I)V"⟩, 47) := ⟨⟨by decide +kernel, by decide +kernel⟩, List.mem_of_getElem? (i := 973) (by decide +kernel), List.mem_of_getElem? (i := 987) (by decide +kernel), List.mem_of_getElem? (i := 988) (by decide +kernel)⟩
theorem lw_p39 : lw_okq (⟨"GateTableModel", "letterAt", "(II)I"⟩, 47) := ⟨⟨by decide +kernel, by decide +kernel⟩, List.mem_of_getElem? (i := 973) (by decide +kernel), List.mem_of_getElem? (i := 991) (by decide +kernel), List.mem_of_getElem? (i := 992) (by decide +kernel)⟩
theorem lw_p40 : lw_okq (⟨"GateTableModel", "visits", "(II)V"⟩, 47) := ⟨⟨by decide +kernel, by decide +kernel⟩, List.mem_of_getElem? (i := 973) (by decide +kernel), List.mem_of_getElem? (i := 1000) (by decide +kernel), List.mem_of_getElem? (i := 1001) (by decide +kernel)⟩
theorem lw_p41 : lw_okq (⟨"GateTableModel", "breaks", "(III)V"⟩, 47) := ⟨⟨by decide +kernel, by decide +kernel⟩, List.mem_of_getElem? (i := 973) (by decide +kernel), List.mem_of_getElem? (i := 1007) (by decide +kernel), List.mem_of_getElem? (i := 1008) (by decide +kernel)⟩
theorem lw_p42 : lw_okq (⟨"GateTableModel", "takesBack", "(I)V"⟩, 47) := ⟨⟨by decide +kernel, by decide +kernel⟩, List.mem_of_getElem? (i := 973) (by decide +kernel), List.mem_of_getElem? (i := 1011) (by decide +kernel), List.mem_of_getElem? (i := 1012) (by decide +kernel)⟩
theorem lw_p43 : lw_okq (⟨"GateTableModel", "writes", "(IIII)V"⟩, 47) := ⟨⟨by decide +kernel, by decide +kernel⟩, List.mem_of_getElem? (i := 973) (by decide +kernel), List.mem_of_getElem? (i := 1015) (by decide +kernel), List.mem_of_getElem? (i := 1016) (by decide +kernel)⟩
theorem lw_p44 : lw_okq (⟨"GateTableModel", "leaves", "(I)V"⟩, 47) := ⟨⟨by decide +kernel, by decide +kernel⟩, List.mem_of_getElem? (i := 973) (by decide +kernel), List.mem_of_getElem? (i := 1019) (by decide +kernel), List.mem_of_getElem? (i := 1020) (by decide +kernel)⟩
theorem lw_p45 : lw_okq (⟨"GateTableModel", "shutOf", "(II)I"⟩, 47) := ⟨⟨by decide +kernel, by decide +kernel⟩, List.mem_of_getElem? (i := 973) (by decide +kernel), List.mem_of_getElem? (i := 1023) (by decide +kernel), List.mem_of_getElem? (i := 1024) (by decide +kernel)⟩
theorem lw_p46 : lw_okq (⟨"GateTableModel", "enters", "(II)V"⟩, 47) := ⟨⟨by decide +kernel, by decide +kernel⟩, List.mem_of_getElem? (i := 973) (by decide +kernel), List.mem_of_getElem? (i := 1027) (by decide +kernel), List.mem_of_getElem? (i := 1028) (by decide +kernel)⟩
theorem lw_p47 : lw_okq (⟨"GateTableModel", "opens", "(II)V"⟩, 47) := ⟨⟨by decide +kernel, by decide +kernel⟩, List.mem_of_getElem? (i := 973) (by decide +kernel), List.mem_of_getElem? (i := 1031) (by decide +kernel), List.mem_of_getElem? (i := 1032) (by decide +kernel)⟩
def lw_privs_3 : List (MethodName × Nat) := [(⟨"GateTable$Pair", "goOn", "(II)V"⟩, 8), (⟨"GateTable$Pair", "endWays", "(IIJJ)V"⟩, 8), (⟨"GateTable$Pair", "commonHalvings", "()I"⟩, 8), (⟨"GateTable", "tryRow", "(LGateTable$Sheet;II)I"⟩, 12), (⟨"GateTableModel", "put", "(III)V"⟩, 47), (⟨"GateTableModel", "laysTraces", "()Z"⟩, 47), (⟨"GateTableModel", "laysTrace", "(I)V"⟩, 47), (⟨"GateTableModel", "letterAt", "(II)I"⟩, 47), (⟨"GateTableModel", "visits", "(II)V"⟩, 47), (⟨"GateTableModel", "breaks", "(III)V"⟩, 47), (⟨"GateTableModel", "takesBack", "(I)V"⟩, 47), (⟨"GateTableModel", "writes", "(IIII)V"⟩, 47), (⟨"GateTableModel", "leaves", "(I)V"⟩, 47), (⟨"GateTableModel", "shutOf", "(II)I"⟩, 47), (⟨"GateTableModel", "enters", "(II)V"⟩, 47), (⟨"GateTableModel", "opens", "(II)V"⟩, 47)]
theorem lw_r3 : ∀ q ∈ lw_privs_3, lw_okq q := List.forall_mem_cons.mpr ⟨lw_p32, List.forall_mem_cons.mpr ⟨lw_p33, List.forall_mem_cons.mpr ⟨lw_p34, List.forall_mem_cons.mpr ⟨lw_p35, List.forall_mem_cons.mpr ⟨lw_p36, List.forall_mem_cons.mpr ⟨lw_p37, List.forall_mem_cons.mpr ⟨lw_p38, List.forall_mem_cons.mpr ⟨lw_p39, List.forall_mem_cons.mpr ⟨lw_p40, List.forall_mem_cons.mpr ⟨lw_p41, List.forall_mem_cons.mpr ⟨lw_p42, List.forall_mem_cons.mpr ⟨lw_p43, List.forall_mem_cons.mpr ⟨lw_p44, List.forall_mem_cons.mpr ⟨lw_p45, List.forall_mem_cons.mpr ⟨lw_p46, List.forall_mem_cons.mpr ⟨lw_p47, fun _ h => absurd h List.not_mem_nil⟩⟩⟩⟩⟩⟩⟩⟩⟩⟩⟩⟩⟩⟩⟩⟩
theorem lw_p48 : lw_okq (⟨"GateTableModel", "shuts", "(II)V"⟩, 47) := ⟨⟨by decide +kernel, by decide +kernel⟩, List.mem_of_getElem? (i := 973) (by decide +kernel), List.mem_of_getElem? (i := 1037) (by decide +kernel), List.mem_of_getElem? (i := 1038) (by decide +kernel)⟩
theorem lw_p49 : lw_okq (⟨"GateTableModel", "kindAt", "(II)I"⟩, 47) := ⟨⟨by decide +kernel, by decide +kernel⟩, List.mem_of_getElem? (i := 973) (by decide +kernel), List.mem_of_getElem? (i := 1195) (by decide +kernel), List.mem_of_getElem? (i := 1196) (by decide +kernel)⟩
theorem lw_p50 : lw_okq (⟨"GateTableModel", "gateAt", "(II)I"⟩, 47) := ⟨⟨by decide +kernel, by decide +kernel⟩, List.mem_of_getElem? (i := 973) (by decide +kernel), List.mem_of_getElem? (i := 1199) (by decide +kernel), List.mem_of_getElem? (i := 1200) (by decide +kernel)⟩
theorem lw_p51 : lw_okq (⟨"GateTableModel", "isBody", "()Z"⟩, 47) := ⟨⟨by decide +kernel, by decide +kernel⟩, List.mem_of_getElem? (i := 973) (by decide +kernel), List.mem_of_getElem? (i := 1213) (by decide +kernel), List.mem_of_getElem? (i := 1214) (by decide +kernel)⟩
theorem lw_p52 : lw_okq (⟨"GateTableModel", "here", "()I"⟩, 47) := ⟨⟨by decide +kernel, by decide +kernel⟩, List.mem_of_getElem? (i := 973) (by decide +kernel), List.mem_of_getElem? (i := 1217) (by decide +kernel), List.mem_of_getElem? (i := 1218) (by decide +kernel)⟩
theorem lw_p53 : lw_okq (⟨"GateTableModel", "isVisit", "()Z"⟩, 47) := ⟨⟨by decide +kernel, by decide +kernel⟩, List.mem_of_getElem? (i := 973) (by decide +kernel), List.mem_of_getElem? (i := 1221) (by decide +kernel), List.mem_of_getElem? (i := 1222) (by decide +kernel)⟩
theorem lw_p54 : lw_okq (⟨"GateTableModel", "takes", "()V"⟩, 47) := ⟨⟨by decide +kernel, by decide +kernel⟩, List.mem_of_getElem? (i := 973) (by decide +kernel), List.mem_of_getElem? (i := 1225) (by decide +kernel), List.mem_of_getElem? (i := 1226) (by decide +kernel)⟩
theorem lw_p55 : lw_okq (⟨"GateTableModel", "isOpened", "()Z"⟩, 47) := ⟨⟨by decide +kernel, by decide +kernel⟩, List.mem_of_getElem? (i := 973) (by decide +kernel), List.mem_of_getElem? (i := 1229) (by decide +kernel), List.mem_of_getElem? (i := 1230) (by decide +kernel)⟩
theorem lw_p56 : lw_okq (⟨"GateTableModel", "isTaken", "(Z)Z"⟩, 47) := ⟨⟨by decide +kernel, by decide +kernel⟩, List.mem_of_getElem? (i := 973) (by decide +kernel), List.mem_of_getElem? (i := 1233) (by decide +kernel), List.mem_of_getElem? (i := 1234) (by decide +kernel)⟩
theorem lw_p57 : lw_okq (⟨"GateTableModel", "isBusy", "()Z"⟩, 47) := ⟨⟨by decide +kernel, by decide +kernel⟩, List.mem_of_getElem? (i := 973) (by decide +kernel), List.mem_of_getElem? (i := 1242) (by decide +kernel), List.mem_of_getElem? (i := 1243) (by decide +kernel)⟩
theorem lw_p58 : lw_okq (⟨"GateTableModel", "of", "(II)I"⟩, 47) := ⟨⟨by decide +kernel, by decide +kernel⟩, List.mem_of_getElem? (i := 973) (by decide +kernel), List.mem_of_getElem? (i := 1246) (by decide +kernel), List.mem_of_getElem? (i := 1247) (by decide +kernel)⟩
theorem lw_p59 : lw_okq (⟨"GateTableModel", "holds", "()V"⟩, 47) := ⟨⟨by decide +kernel, by decide +kernel⟩, List.mem_of_getElem? (i := 973) (by decide +kernel), List.mem_of_getElem? (i := 1250) (by decide +kernel), List.mem_of_getElem? (i := 1251) (by decide +kernel)⟩
theorem lw_p60 : lw_okq (⟨"GateTableModel", "idles", "(I)V"⟩, 47) := ⟨⟨by decide +kernel, by decide +kernel⟩, List.mem_of_getElem? (i := 973) (by decide +kernel), List.mem_of_getElem? (i := 1254) (by decide +kernel), List.mem_of_getElem? (i := 1255) (by decide +kernel)⟩
theorem lw_p61 : lw_okq (⟨"GateTableModel", "isKept", "()Z"⟩, 47) := ⟨⟨by decide +kernel, by decide +kernel⟩, List.mem_of_getElem? (i := 973) (by decide +kernel), List.mem_of_getElem? (i := 1258) (by decide +kernel), List.mem_of_getElem? (i := 1259) (by decide +kernel)⟩
theorem lw_p62 : lw_okq (⟨"GateTableModel", "notes", "()V"⟩, 47) := ⟨⟨by decide +kernel, by decide +kernel⟩, List.mem_of_getElem? (i := 973) (by decide +kernel), List.mem_of_getElem? (i := 1262) (by decide +kernel), List.mem_of_getElem? (i := 1263) (by decide +kernel)⟩
theorem lw_p63 : lw_okq (⟨"GateTableModel", "returns", "()V"⟩, 47) := ⟨⟨by decide +kernel, by decide +kernel⟩, List.mem_of_getElem? (i := 973) (by decide +kernel), List.mem_of_getElem? (i := 1266) (by decide +kernel), List.mem_of_getElem? (i := 1267) (by decide +kernel)⟩
def lw_privs_4 : List (MethodName × Nat) := [(⟨"GateTableModel", "shuts", "(II)V"⟩, 47), (⟨"GateTableModel", "kindAt", "(II)I"⟩, 47), (⟨"GateTableModel", "gateAt", "(II)I"⟩, 47), (⟨"GateTableModel", "isBody", "()Z"⟩, 47), (⟨"GateTableModel", "here", "()I"⟩, 47), (⟨"GateTableModel", "isVisit", "()Z"⟩, 47), (⟨"GateTableModel", "takes", "()V"⟩, 47), (⟨"GateTableModel", "isOpened", "()Z"⟩, 47), (⟨"GateTableModel", "isTaken", "(Z)Z"⟩, 47), (⟨"GateTableModel", "isBusy", "()Z"⟩, 47), (⟨"GateTableModel", "of", "(II)I"⟩, 47), (⟨"GateTableModel", "holds", "()V"⟩, 47), (⟨"GateTableModel", "idles", "(I)V"⟩, 47), (⟨"GateTableModel", "isKept", "()Z"⟩, 47), (⟨"GateTableModel", "notes", "()V"⟩, 47), (⟨"GateTableModel", "returns", "()V"⟩, 47)]
theorem lw_r4 : ∀ q ∈ lw_privs_4, lw_okq q := List.forall_mem_cons.mpr ⟨lw_p48, List.forall_mem_cons.mpr ⟨lw_p49, List.forall_mem_cons.mpr ⟨lw_p50, List.forall_mem_cons.mpr ⟨lw_p51, List.forall_mem_cons.mpr ⟨lw_p52, List.forall_mem_cons.mpr ⟨lw_p53, List.forall_mem_cons.mpr ⟨lw_p54, List.forall_mem_cons.mpr ⟨lw_p55, List.forall_mem_cons.mpr ⟨lw_p56, List.forall_mem_cons.mpr ⟨lw_p57, List.forall_mem_cons.mpr ⟨lw_p58, List.forall_mem_cons.mpr ⟨lw_p59, List.forall_mem_cons.mpr ⟨lw_p60, List.forall_mem_cons.mpr ⟨lw_p61, List.forall_mem_cons.mpr ⟨lw_p62, List.forall_mem_cons.mpr ⟨lw_p63, fun _ h => absurd h List.not_mem_nil⟩⟩⟩⟩⟩⟩⟩⟩⟩⟩⟩⟩⟩⟩⟩⟩
theorem lw_p64 : lw_okq (⟨"GateTableModel", "comes", "(III)V"⟩, 47) := ⟨⟨by decide +kernel, by decide +kernel⟩, List.mem_of_getElem? (i := 973) (by decide +kernel), List.mem_of_getElem? (i := 1282) (by decide +kernel), List.mem_of_getElem? (i := 1283) (by decide +kernel)⟩
theorem lw_p65 : lw_okq (⟨"GateTableModel", "isOut", "(I)Z"⟩, 47) := ⟨⟨by decide +kernel, by decide +kernel⟩, List.mem_of_getElem? (i := 973) (by decide +kernel), List.mem_of_getElem? (i := 1290) (by decide +kernel), List.mem_of_getElem? (i := 1291) (by decide +kernel)⟩
theorem lw_p66 : lw_okq (⟨"GateTableModel", "turns", "(I)I"⟩, 47) := ⟨⟨by decide +kernel, by decide +kernel⟩, List.mem_of_getElem? (i := 973) (by decide +kernel), List.mem_of_getElem? (i := 1294) (by decide +kernel), List.mem_of_getElem? (i := 1295) (by decide +kernel)⟩
theorem lw_p67 : lw_okq (⟨"GateTableModel", "holder", "(I)I"⟩, 47) := ⟨⟨by decide +kernel, by decide +kernel⟩, List.mem_of_getElem? (i := 973) (by decide +kernel), List.mem_of_getElem? (i := 1298) (by decide +kernel), List.mem_of_getElem? (i := 1299) (by decide +kernel)⟩
theorem lw_p68 : lw_okq (⟨"GateTableModel", "insides", "(III)I"⟩, 47) := ⟨⟨by decide +kernel, by decide +kernel⟩, List.mem_of_getElem? (i := 973) (by decide +kernel), List.mem_of_getElem? (i := 1302) (by decide +kernel), List.mem_of_getElem? (i := 1303) (by decide +kernel)⟩
theorem lw_p69 : lw_okq (⟨"GateTableModel", "waits", "(I)I"⟩, 47) := ⟨⟨by decide +kernel, by decide +kernel⟩, List.mem_of_getElem? (i := 973) (by decide +kernel), List.mem_of_getElem? (i := 1306) (by decide +kernel), List.mem_of_getElem? (i := 1307) (by decide +kernel)⟩
theorem lw_p70 : lw_okq (⟨"GateTableModel", "ring", "(I)I"⟩, 47) := ⟨⟨by decide +kernel, by decide +kernel⟩, List.mem_of_getElem? (i := 973) (by decide +kernel), List.mem_of_getElem? (i := 1310) (by decide +kernel), List.mem_of_getElem? (i := 1311) (by decide +kernel)⟩
theorem lw_p71 : lw_okq (⟨"GateTableModel", "nextOf", "(I)I"⟩, 47) := ⟨⟨by decide +kernel, by decide +kernel⟩, List.mem_of_getElem? (i := 973) (by decide +kernel), List.mem_of_getElem? (i := 1314) (by decide +kernel), List.mem_of_getElem? (i := 1315) (by decide +kernel)⟩
theorem lw_p72 : lw_okq (⟨"GateTableModel", "waitsFor", "(I)I"⟩, 47) := ⟨⟨by decide +kernel, by decide +kernel⟩, List.mem_of_getElem? (i := 973) (by decide +kernel), List.mem_of_getElem? (i := 1318) (by decide +kernel), List.mem_of_getElem? (i := 1319) (by decide +kernel)⟩
theorem lw_p73 : lw_okq (⟨"GateTableModel", "victim", "(I)I"⟩, 47) := ⟨⟨by decide +kernel, by decide +kernel⟩, List.mem_of_getElem? (i := 973) (by decide +kernel), List.mem_of_getElem? (i := 1322) (by decide +kernel), List.mem_of_getElem? (i := 1323) (by decide +kernel)⟩
theorem lw_p74 : lw_okq (⟨"GateTableModel", "weight", "(I)I"⟩, 47) := ⟨⟨by decide +kernel, by decide +kernel⟩, List.mem_of_getElem? (i := 973) (by decide +kernel), List.mem_of_getElem? (i := 1326) (by decide +kernel), List.mem_of_getElem? (i := 1327) (by decide +kernel)⟩
theorem lw_p75 : lw_okq (⟨"GateTableModel", "heldBy", "(II)I"⟩, 47) := ⟨⟨by decide +kernel, by decide +kernel⟩, List.mem_of_getElem? (i := 973) (by decide +kernel), List.mem_of_getElem? (i := 1330) (by decide +kernel), List.mem_of_getElem? (i := 1331) (by decide +kernel)⟩
theorem lw_p76 : lw_okq (⟨"GateTableModel", "falls", "(I)V"⟩, 47) := ⟨⟨by decide +kernel, by decide +kernel⟩, List.mem_of_getElem? (i := 973) (by decide +kernel), List.mem_of_getElem? (i := 1337) (by decide +kernel), List.mem_of_getElem? (i := 1338) (by decide +kernel)⟩
theorem lw_p77 : lw_okq (⟨"GateTableModel", "lefts", "()I"⟩, 47) := ⟨⟨by decide +kernel, by decide +kernel⟩, List.mem_of_getElem? (i := 973) (by decide +kernel), List.mem_of_getElem? (i := 1346) (by decide +kernel), List.mem_of_getElem? (i := 1347) (by decide +kernel)⟩
theorem lw_p78 : lw_okq (⟨"GateTableModel", "draws", "()I"⟩, 47) := ⟨⟨by decide +kernel, by decide +kernel⟩, List.mem_of_getElem? (i := 973) (by decide +kernel), List.mem_of_getElem? (i := 1350) (by decide +kernel), List.mem_of_getElem? (i := 1351) (by decide +kernel)⟩
theorem lw_p79 : lw_okq (⟨"GateTableModel", "lays", "()I"⟩, 47) := ⟨⟨by decide +kernel, by decide +kernel⟩, List.mem_of_getElem? (i := 973) (by decide +kernel), List.mem_of_getElem? (i := 1365) (by decide +kernel), List.mem_of_getElem? (i := 1366) (by decide +kernel)⟩
def lw_privs_5 : List (MethodName × Nat) := [(⟨"GateTableModel", "comes", "(III)V"⟩, 47), (⟨"GateTableModel", "isOut", "(I)Z"⟩, 47), (⟨"GateTableModel", "turns", "(I)I"⟩, 47), (⟨"GateTableModel", "holder", "(I)I"⟩, 47), (⟨"GateTableModel", "insides", "(III)I"⟩, 47), (⟨"GateTableModel", "waits", "(I)I"⟩, 47), (⟨"GateTableModel", "ring", "(I)I"⟩, 47), (⟨"GateTableModel", "nextOf", "(I)I"⟩, 47), (⟨"GateTableModel", "waitsFor", "(I)I"⟩, 47), (⟨"GateTableModel", "victim", "(I)I"⟩, 47), (⟨"GateTableModel", "weight", "(I)I"⟩, 47), (⟨"GateTableModel", "heldBy", "(II)I"⟩, 47), (⟨"GateTableModel", "falls", "(I)V"⟩, 47), (⟨"GateTableModel", "lefts", "()I"⟩, 47), (⟨"GateTableModel", "draws", "()I"⟩, 47), (⟨"GateTableModel", "lays", "()I"⟩, 47)]
theorem lw_r5 : ∀ q ∈ lw_privs_5, lw_okq q := List.forall_mem_cons.mpr ⟨lw_p64, List.forall_mem_cons.mpr ⟨lw_p65, List.forall_mem_cons.mpr ⟨lw_p66, List.forall_mem_cons.mpr ⟨lw_p67, List.forall_mem_cons.mpr ⟨lw_p68, List.forall_mem_cons.mpr ⟨lw_p69, List.forall_mem_cons.mpr ⟨lw_p70, List.forall_mem_cons.mpr ⟨lw_p71, List.forall_mem_cons.mpr ⟨lw_p72, List.forall_mem_cons.mpr ⟨lw_p73, List.forall_mem_cons.mpr ⟨lw_p74, List.forall_mem_cons.mpr ⟨lw_p75, List.forall_mem_cons.mpr ⟨lw_p76, List.forall_mem_cons.mpr ⟨lw_p77, List.forall_mem_cons.mpr ⟨lw_p78, List.forall_mem_cons.mpr ⟨lw_p79, fun _ h => absurd h List.not_mem_nil⟩⟩⟩⟩⟩⟩⟩⟩⟩⟩⟩⟩⟩⟩⟩⟩
theorem lw_p80 : lw_okq (⟨"GateTableModel", "rules", "(I)I"⟩, 47) := ⟨⟨by decide +kernel, by decide +kernel⟩, List.mem_of_getElem? (i := 973) (by decide +kernel), List.mem_of_getElem? (i := 1373) (by decide +kernel), List.mem_of_getElem? (i := 1374) (by decide +kernel)⟩
theorem lw_p81 : lw_okq (⟨"GateTableModel", "waiters", "(I)I"⟩, 47) := ⟨⟨by decide +kernel, by decide +kernel⟩, List.mem_of_getElem? (i := 973) (by decide +kernel), List.mem_of_getElem? (i := 1383) (by decide +kernel), List.mem_of_getElem? (i := 1384) (by decide +kernel)⟩
theorem lw_p82 : lw_okq (⟨"GateTableModel", "those", "(I)I"⟩, 47) := ⟨⟨by decide +kernel, by decide +kernel⟩, List.mem_of_getElem? (i := 973) (by decide +kernel), List.mem_of_getElem? (i := 1395) (by decide +kernel), List.mem_of_getElem? (i := 1396) (by decide +kernel)⟩
theorem lw_p83 : lw_okq (⟨"GateTableModel", "ringed", "()I"⟩, 47) := ⟨⟨by decide +kernel, by decide +kernel⟩, List.mem_of_getElem? (i := 973) (by decide +kernel), List.mem_of_getElem? (i := 1399) (by decide +kernel), List.mem_of_getElem? (i := 1400) (by decide +kernel)⟩
theorem lw_p84 : lw_okq (⟨"GateTableModel", "isAhead", "(II)Z"⟩, 47) := ⟨⟨by decide +kernel, by decide +kernel⟩, List.mem_of_getElem? (i := 973) (by decide +kernel), List.mem_of_getElem? (i := 1407) (by decide +kernel), List.mem_of_getElem? (i := 1408) (by decide +kernel)⟩
theorem lw_p85 : lw_okq (⟨"GateTableModel", "loopOf", "(I)I"⟩, 47) := ⟨⟨by decide +kernel, by decide +kernel⟩, List.mem_of_getElem? (i := 973) (by decide +kernel), List.mem_of_getElem? (i := 1416) (by decide +kernel), List.mem_of_getElem? (i := 1417) (by decide +kernel)⟩
theorem lw_p86 : lw_okq (⟨"GateTableModel", "goesBoth", "(II)V"⟩, 47) := ⟨⟨by decide +kernel, by decide +kernel⟩, List.mem_of_getElem? (i := 973) (by decide +kernel), List.mem_of_getElem? (i := 1428) (by decide +kernel), List.mem_of_getElem? (i := 1429) (by decide +kernel)⟩
theorem lw_p87 : lw_okq (⟨"GateTableModel", "goesOn", "(IIII)V"⟩, 47) := ⟨⟨by decide +kernel, by decide +kernel⟩, List.mem_of_getElem? (i := 973) (by decide +kernel), List.mem_of_getElem? (i := 1433) (by decide +kernel), List.mem_of_getElem? (i := 1434) (by decide +kernel)⟩
theorem lw_p88 : lw_okq (⟨"GateTableModel", "isShut", "(III)Z"⟩, 47) := ⟨⟨by decide +kernel, by decide +kernel⟩, List.mem_of_getElem? (i := 973) (by decide +kernel), List.mem_of_getElem? (i := 1437) (by decide +kernel), List.mem_of_getElem? (i := 1438) (by decide +kernel)⟩
theorem lw_p89 : lw_okq (⟨"GateTableModel", "found", "(IIII)I"⟩, 47) := ⟨⟨by decide +kernel, by decide +kernel⟩, List.mem_of_getElem? (i := 973) (by decide +kernel), List.mem_of_getElem? (i := 1477) (by decide +kernel), List.mem_of_getElem? (i := 1478) (by decide +kernel)⟩
def lw_privs_6 : List (MethodName × Nat) := [(⟨"GateTableModel", "rules", "(I)I"⟩, 47), (⟨"GateTableModel", "waiters", "(I)I"⟩, 47), (⟨"GateTableModel", "those", "(I)I"⟩, 47), (⟨"GateTableModel", "ringed", "()I"⟩, 47), (⟨"GateTableModel", "isAhead", "(II)Z"⟩, 47), (⟨"GateTableModel", "loopOf", "(I)I"⟩, 47), (⟨"GateTableModel", "goesBoth", "(II)V"⟩, 47), (⟨"GateTableModel", "goesOn", "(IIII)V"⟩, 47), (⟨"GateTableModel", "isShut", "(III)Z"⟩, 47), (⟨"GateTableModel", "found", "(IIII)I"⟩, 47)]
theorem lw_r6 : ∀ q ∈ lw_privs_6, lw_okq q := List.forall_mem_cons.mpr ⟨lw_p80, List.forall_mem_cons.mpr ⟨lw_p81, List.forall_mem_cons.mpr ⟨lw_p82, List.forall_mem_cons.mpr ⟨lw_p83, List.forall_mem_cons.mpr ⟨lw_p84, List.forall_mem_cons.mpr ⟨lw_p85, List.forall_mem_cons.mpr ⟨lw_p86, List.forall_mem_cons.mpr ⟨lw_p87, List.forall_mem_cons.mpr ⟨lw_p88, List.forall_mem_cons.mpr ⟨lw_p89, fun _ h => absurd h List.not_mem_nil⟩⟩⟩⟩⟩⟩⟩⟩⟩⟩
def lw_privs : List (MethodName × Nat) := lw_privs_1 ++ (lw_privs_2 ++ (lw_privs_3 ++ (lw_privs_4 ++ (lw_privs_5 ++ (lw_privs_6)))))
def lw_tbl : List Cond := k2_sels lw_privs ++ tables_1
theorem lw_privs_ok : ∀ q ∈ lw_privs, lw_okq q := by
  show ∀ q ∈ lw_privs_1 ++ (lw_privs_2 ++ (lw_privs_3 ++ (lw_privs_4 ++ (lw_privs_5 ++ (lw_privs_6))))), lw_okq q
  exact List.forall_mem_append.mpr ⟨lw_r1, List.forall_mem_append.mpr ⟨lw_r2, List.forall_mem_append.mpr ⟨lw_r3, List.forall_mem_append.mpr ⟨lw_r4, List.forall_mem_append.mpr ⟨lw_r5, lw_r6⟩⟩⟩⟩⟩
-- ===== end of PART A; then your names; then what follows =====
end
section
/-! ===== BEGIN words of one list among another's, by their places ===== -/
theorem goodIn_r {big : List Cond} (ws : List Cond) (ps : List Nat) (hp : ws = ps.filterMap (fun i => big[i]?)) (h : ws.all goodWord = true) : GoodIn big ws := by
  intro w hw
  have h1 := List.all_eq_true.mp h w hw
  rw [hp] at hw
  obtain ⟨i, -, hi⟩ := List.mem_filterMap.mp hw
  have hm : w ∈ big := by first | exact List.mem_of_getElem? hi | exact List.getElem?_mem hi
  exact ⟨hm, good_of_word h1⟩
theorem goodIn_app {big a b : List Cond} (ha : GoodIn big a) (hb : GoodIn big b) : GoodIn big (a ++ b) := fun w h => (List.mem_append.mp h).elim (ha w) (hb w)
theorem goodIn_ca {big a b : List Cond} {c : Cond} (ha : GoodIn big (c :: a)) (hb : GoodIn big b) : GoodIn big (c :: (a ++ b)) := fun w h => (List.mem_cons.mp h).elim (fun e => ha w (List.mem_cons.mpr (Or.inl e))) (fun h => (List.mem_append.mp h).elim (fun h => ha w (List.mem_cons.mpr (Or.inr h))) (hb w))
theorem goodIn_sub {big ws : List Cond} (hm : ∀ w ∈ ws, w ∈ big) (h : ws.all goodWord = true) : GoodIn big ws := fun w hw => ⟨hm w hw, good_of_word (List.all_eq_true.mp h w hw)⟩
/-! ===== END ===== -/

/-! ===== BEGIN printed: names, fields, word lists, decode rows ===== -/
def RX0 : String := "GateTable$History"
def TX0 : u_T := fun k => match k with
  | 0 => ("GateTable$History", "kept", "[LGateTable$Table;", true)
  | _ => ("GateTable$History", "size", "I", false)
def tyX0 : Nat → FieldType := fun k => match k with
  | 0 => .array (.object "GateTable$Table")
  | _ => .int
abbrev wsX00 : List Cond := u_ws RX0 TX0 2
theorem nmX0 : ∀ a, a < 2 → ∀ b, b < 2 → a ≠ b → (TX0 a).2.1 ≠ (TX0 b).2.1 := by decide +kernel
theorem tyX0_ok : ∀ k, k < 2 → parseFieldDescriptor (TX0 k).2.2.1 = some (tyX0 k) := by decide +kernel
abbrev cX0_init : ByteArray := prog_2_method_1_code
def yX0_init : MethodName := ⟨RX0, "<init>", "(LGateTable$Script;LGateTable$Trace;)V"⟩
abbrev cX0_length : ByteArray := prog_2_method_2_code
def yX0_length : MethodName := ⟨RX0, "length", "()I"⟩
abbrev cX0_keep : ByteArray := prog_2_method_3_code
def yX0_keep : MethodName := ⟨RX0, "keep", "(LGateTable$Table;)V"⟩
abbrev cX0_giveBack : ByteArray := prog_2_method_4_code
def yX0_giveBack : MethodName := ⟨RX0, "giveBack", "(LGateTable$Table;)V"⟩
abbrev cX0_become : ByteArray := prog_2_method_5_code
def yX0_become : MethodName := ⟨RX0, "become", "(LGateTable$History;)V"⟩
abbrev cX0_loseOldest : ByteArray := prog_2_method_6_code
def yX0_loseOldest : MethodName := ⟨RX0, "loseOldest", "()V"⟩
def RX1 : String := "GateTable$Order"
def TX1 : u_T := fun k => match k with
  | _ => ("GateTable$Order", "behind", "[I", true)
def tyX1 : Nat → FieldType := fun k => match k with
  | _ => .array .int
abbrev wsX10 : List Cond := u_ws RX1 TX1 1
theorem nmX1 : ∀ a, a < 1 → ∀ b, b < 1 → a ≠ b → (TX1 a).2.1 ≠ (TX1 b).2.1 := by decide +kernel
theorem tyX1_ok : ∀ k, k < 1 → parseFieldDescriptor (TX1 k).2.2.1 = some (tyX1 k) := by decide +kernel
abbrev cX1_init : ByteArray := prog_3_method_1_code
def yX1_init : MethodName := ⟨RX1, "<init>", "()V"⟩
abbrev cX1_read : ByteArray := prog_3_method_2_code
def yX1_read : MethodName := ⟨RX1, "read", "(LGateTable$Table;)V"⟩
abbrev cX1_isAhead : ByteArray := prog_3_method_3_code
def yX1_isAhead : MethodName := ⟨RX1, "isAhead", "(II)Z"⟩
abbrev cX1_tellLoops : ByteArray := prog_3_method_4_code
def yX1_tellLoops : MethodName := ⟨RX1, "tellLoops", "(I)I"⟩
abbrev cX1_readTrace : ByteArray := prog_3_method_5_code
def yX1_readTrace : MethodName := ⟨RX1, "readTrace", "(LGateTable$Trace;)V"⟩
abbrev cX1_loopThrough : ByteArray := prog_3_method_6_code
def yX1_loopThrough : MethodName := ⟨RX1, "loopThrough", "(I)I"⟩
abbrev cX1_behindAll : ByteArray := prog_3_method_7_code
def yX1_behindAll : MethodName := ⟨RX1, "behindAll", "(I)I"⟩
def RX2 : String := "GateTable$Pair"
def TX2 : u_T := fun k => match k with
  | 0 => ("GateTable$Pair", "ways", "[J", true)
  | 1 => ("GateTable$Pair", "weights", "[J", true)
  | 2 => ("GateTable$Pair", "doneWays", "J", false)
  | 3 => ("GateTable$Pair", "stuckWays", "J", false)
  | 4 => ("GateTable$Pair", "stuckWeight", "J", false)
  | 5 => ("GateTable$Pair", "nearest", "I", false)
  | 6 => ("GateTable$Pair", "one", "LGateTable$Trace;", false)
  | _ => ("GateTable$Pair", "two", "LGateTable$Trace;", false)
def tyX2 : Nat → FieldType := fun k => match k with
  | 0 => .array .long
  | 1 => .array .long
  | 2 => .long
  | 3 => .long
  | 4 => .long
  | 5 => .int
  | 6 => .object "GateTable$Trace"
  | _ => .object "GateTable$Trace"
abbrev wsX20 : List Cond := u_ws RX2 TX2 8
theorem nmX2 : ∀ a, a < 8 → ∀ b, b < 8 → a ≠ b → (TX2 a).2.1 ≠ (TX2 b).2.1 := by decide +kernel
theorem tyX2_ok : ∀ k, k < 8 → parseFieldDescriptor (TX2 k).2.2.1 = some (tyX2 k) := by decide +kernel
abbrev cX2_init : ByteArray := prog_4_method_1_code
def yX2_init : MethodName := ⟨RX2, "<init>", "(LGateTable$Trace;)V"⟩
abbrev cX2_waysDone : ByteArray := prog_4_method_2_code
def yX2_waysDone : MethodName := ⟨RX2, "waysDone", "()J"⟩
abbrev cX2_waysStuck : ByteArray := prog_4_method_3_code
def yX2_waysStuck : MethodName := ⟨RX2, "waysStuck", "()J"⟩
abbrev cX2_nearestStuck : ByteArray := prog_4_method_4_code
def yX2_nearestStuck : MethodName := ⟨RX2, "nearestStuck", "()I"⟩
abbrev cX2_oddsAbove : ByteArray := prog_4_method_5_code
def yX2_oddsAbove : MethodName := ⟨RX2, "oddsAbove", "()J"⟩
abbrev cX2_oddsBelow : ByteArray := prog_4_method_6_code
def yX2_oddsBelow : MethodName := ⟨RX2, "oddsBelow", "()J"⟩
abbrev cX2_goAllWays : ByteArray := prog_4_method_7_code
def yX2_goAllWays : MethodName := ⟨RX2, "goAllWays", "(LGateTable$Trace;LGateTable$Trace;)V"⟩
abbrev cX2_goOn : ByteArray := prog_4_method_8_code
def yX2_goOn : MethodName := ⟨RX2, "goOn", "(II)V"⟩
abbrev cX2_endWays : ByteArray := prog_4_method_9_code
def yX2_endWays : MethodName := ⟨RX2, "endWays", "(IIJJ)V"⟩
abbrev cX2_commonHalvings : ByteArray := prog_4_method_10_code
def yX2_commonHalvings : MethodName := ⟨RX2, "commonHalvings", "()I"⟩
def RX3 : String := "GateTable$Player"
def TX3 : u_T := fun k => match k with
  | 0 => ("GateTable$Player", "script", "LGateTable$Script;", false)
  | 1 => ("GateTable$Player", "gone", "I", false)
  | 2 => ("GateTable$Player", "kinds", "[I", true)
  | 3 => ("GateTable$Player", "gates", "[I", true)
  | 4 => ("GateTable$Player", "adds", "[I", true)
  | 5 => ("GateTable$Player", "inside", "[I", true)
  | 6 => ("GateTable$Player", "size", "I", false)
  | 7 => ("GateTable$Player", "tooLong", "Z", false)
  | 8 => ("GateTable$Player", "stays", "[I", true)
  | 9 => ("GateTable$Player", "insideNow", "I", false)
  | 10 => ("GateTable$Player", "staysNow", "I", false)
  | 11 => ("GateTable$Player", "mostStays", "I", false)
  | 12 => ("GateTable$Player", "unsealed", "[I", true)
  | 13 => ("GateTable$Player", "unsealedSize", "I", false)
  | 14 => ("GateTable$Player", "why", "I", false)
  | 15 => ("GateTable$Player", "brokenBy", "I", false)
  | 16 => ("GateTable$Player", "mended", "I", false)
  | _ => ("GateTable$Player", "again", "I", false)
def tyX3 : Nat → FieldType := fun k => match k with
  | 0 => .object "GateTable$Script"
  | 1 => .int
  | 2 => .array .int
  | 3 => .array .int
  | 4 => .array .int
  | 5 => .array .int
  | 6 => .int
  | 7 => .boolean
  | 8 => .array .int
  | 9 => .int
  | 10 => .int
  | 11 => .int
  | 12 => .array .int
  | 13 => .int
  | 14 => .int
  | 15 => .int
  | 16 => .int
  | _ => .int
abbrev wsX30 : List Cond := u_ws RX3 TX3 18
theorem nmX3 : ∀ a, a < 18 → ∀ b, b < 18 → a ≠ b → (TX3 a).2.1 ≠ (TX3 b).2.1 := by decide +kernel
theorem tyX3_ok : ∀ k, k < 18 → parseFieldDescriptor (TX3 k).2.2.1 = some (tyX3 k) := by decide +kernel
abbrev cX3_init : ByteArray := prog_5_method_1_code
def yX3_init : MethodName := ⟨RX3, "<init>", "()V"⟩
abbrev cX3_plays : ByteArray := prog_5_method_2_code
def yX3_plays : MethodName := ⟨RX3, "plays", "(LGateTable$Script;I)Z"⟩
abbrev cX3_doBody : ByteArray := prog_5_method_3_code
def yX3_doBody : MethodName := ⟨RX3, "doBody", "(II)I"⟩
abbrev cX3_doOne : ByteArray := prog_5_method_4_code
def yX3_doOne : MethodName := ⟨RX3, "doOne", "(II)I"⟩
abbrev cX3_doStay : ByteArray := prog_5_method_5_code
def yX3_doStay : MethodName := ⟨RX3, "doStay", "(III)I"⟩
abbrev cX3_doAdd : ByteArray := prog_5_method_6_code
def yX3_doAdd : MethodName := ⟨RX3, "doAdd", "(II)I"⟩
abbrev cX3_doTry : ByteArray := prog_5_method_7_code
def yX3_doTry : MethodName := ⟨RX3, "doTry", "(II)I"⟩
abbrev cX3_doOften : ByteArray := prog_5_method_8_code
def yX3_doOften : MethodName := ⟨RX3, "doOften", "(III)I"⟩
abbrev cX3_breakBy : ByteArray := prog_5_method_9_code
def yX3_breakBy : MethodName := ⟨RX3, "breakBy", "(II)I"⟩
abbrev cX3_enter : ByteArray := prog_5_method_10_code
def yX3_enter : MethodName := ⟨RX3, "enter", "(I)V"⟩
abbrev cX3_leave : ByteArray := prog_5_method_11_code
def yX3_leave : MethodName := ⟨RX3, "leave", "(I)V"⟩
abbrev cX3_takeBack : ByteArray := prog_5_method_12_code
def yX3_takeBack : MethodName := ⟨RX3, "takeBack", "(I)V"⟩
abbrev cX3_put : ByteArray := prog_5_method_13_code
def yX3_put : MethodName := ⟨RX3, "put", "(III)V"⟩
def RX4 : String := "GateTable$Script"
def TX4 : u_T := fun k => match k with
  | _ => ("GateTable$Script", "letters", "[C", true)
def tyX4 : Nat → FieldType := fun k => match k with
  | _ => .array .char
abbrev wsX40 : List Cond := u_ws RX4 TX4 1
theorem nmX4 : ∀ a, a < 1 → ∀ b, b < 1 → a ≠ b → (TX4 a).2.1 ≠ (TX4 b).2.1 := by decide +kernel
theorem tyX4_ok : ∀ k, k < 1 → parseFieldDescriptor (TX4 k).2.2.1 = some (tyX4 k) := by decide +kernel
abbrev cX4_init : ByteArray := prog_6_method_1_code
def yX4_init : MethodName := ⟨RX4, "<init>", "([C)V"⟩
abbrev cX4_letter : ByteArray := prog_6_method_2_code
def yX4_letter : MethodName := ⟨RX4, "letter", "(I)C"⟩
abbrev cX4_closesAt : ByteArray := prog_6_method_3_code
def yX4_closesAt : MethodName := ⟨RX4, "closesAt", "(I)Z"⟩
abbrev cX4_closerOf : ByteArray := prog_6_method_4_code
def yX4_closerOf : MethodName := ⟨RX4, "closerOf", "(I)I"⟩
def RX5 : String := "GateTable$Sheet"
def TX5 : u_T := fun k => match k with
  | 0 => ("GateTable$Sheet", "size", "I", false)
  | 1 => ("GateTable$Sheet", "lane", "I", false)
  | _ => ("GateTable$Sheet", "items", "[J", true)
def tyX5 : Nat → FieldType := fun k => match k with
  | 0 => .int
  | 1 => .int
  | _ => .array .long
abbrev wsX50 : List Cond := u_ws RX5 TX5 3
theorem nmX5 : ∀ a, a < 3 → ∀ b, b < 3 → a ≠ b → (TX5 a).2.1 ≠ (TX5 b).2.1 := by decide +kernel
theorem tyX5_ok : ∀ k, k < 3 → parseFieldDescriptor (TX5 k).2.2.1 = some (tyX5 k) := by decide +kernel
abbrev cX5_init : ByteArray := prog_7_method_1_code
def yX5_init : MethodName := ⟨RX5, "<init>", "()V"⟩
abbrev cX5_isMissing : ByteArray := prog_7_method_2_code
def yX5_isMissing : MethodName := ⟨RX5, "isMissing", "()Z"⟩
abbrev cX5_isLike : ByteArray := prog_7_method_3_code
def yX5_isLike : MethodName := ⟨RX5, "isLike", "(LGateTable$Sheet;)Z"⟩
abbrev cX5_hasRoom : ByteArray := prog_7_method_4_code
def yX5_hasRoom : MethodName := ⟨RX5, "hasRoom", "(II)Z"⟩
abbrev cX5_find : ByteArray := prog_7_method_5_code
def yX5_find : MethodName := ⟨RX5, "find", "(III)I"⟩
abbrev cX5_begin : ByteArray := prog_7_method_6_code
def yX5_begin : MethodName := ⟨RX5, "begin", "(II)V"⟩
abbrev cX5_end : ByteArray := prog_7_method_7_code
def yX5_end : MethodName := ⟨RX5, "end", "()I"⟩
abbrev cX5_put : ByteArray := prog_7_method_8_code
def yX5_put : MethodName := ⟨RX5, "put", "(IJ)V"⟩
abbrev cX5_give : ByteArray := prog_7_method_9_code
def yX5_give : MethodName := ⟨RX5, "give", "(ILGateTable$Sheet;II)V"⟩
abbrev cX5_taskAt : ByteArray := prog_7_method_10_code
def yX5_taskAt : MethodName := ⟨RX5, "taskAt", "(I)I"⟩
abbrev cX5_tellsTasks : ByteArray := prog_7_method_11_code
def yX5_tellsTasks : MethodName := ⟨RX5, "tellsTasks", "(II)Z"⟩
def RX6 : String := "GateTable$Table"
def TX6 : u_T := fun k => match k with
  | 0 => ("GateTable$Table", "scripts", "[LGateTable$Script;", true)
  | 1 => ("GateTable$Table", "traces", "[LGateTable$Trace;", true)
  | 2 => ("GateTable$Table", "gone", "I", false)
  | 3 => ("GateTable$Table", "rule", "I", false)
  | 4 => ("GateTable$Table", "draw", "I", false)
  | 5 => ("GateTable$Table", "begun", "I", false)
  | 6 => ("GateTable$Table", "cells", "[I", true)
  | 7 => ("GateTable$Table", "holders", "[I", true)
  | 8 => ("GateTable$Table", "holds", "[I", true)
  | 9 => ("GateTable$Table", "states", "[I", true)
  | 10 => ("GateTable$Table", "done", "[I", true)
  | 11 => ("GateTable$Table", "awaited", "[I", true)
  | 12 => ("GateTable$Table", "ages", "[I", true)
  | _ => ("GateTable$Table", "fallen", "[I", true)
def tyX6 : Nat → FieldType := fun k => match k with
  | 0 => .array (.object "GateTable$Script")
  | 1 => .array (.object "GateTable$Trace")
  | 2 => .int
  | 3 => .int
  | 4 => .int
  | 5 => .int
  | 6 => .array .int
  | 7 => .array .int
  | 8 => .array .int
  | 9 => .array .int
  | 10 => .array .int
  | 11 => .array .int
  | 12 => .array .int
  | _ => .array .int
abbrev wsX60 : List Cond := u_ws RX6 TX6 14
theorem nmX6 : ∀ a, a < 14 → ∀ b, b < 14 → a ≠ b → (TX6 a).2.1 ≠ (TX6 b).2.1 := by decide +kernel
theorem tyX6_ok : ∀ k, k < 14 → parseFieldDescriptor (TX6 k).2.2.1 = some (tyX6 k) := by decide +kernel
abbrev cX6_init : ByteArray := prog_8_method_1_code
def yX6_init : MethodName := ⟨RX6, "<init>", "(LGateTable$Script;LGateTable$Trace;)V"⟩
abbrev cX6_become : ByteArray := prog_8_method_2_code
def yX6_become : MethodName := ⟨RX6, "become", "(LGateTable$Table;)V"⟩
abbrev cX6_script : ByteArray := prog_8_method_3_code
def yX6_script : MethodName := ⟨RX6, "script", "(I)LGateTable$Script;"⟩
abbrev cX6_trace : ByteArray := prog_8_method_4_code
def yX6_trace : MethodName := ⟨RX6, "trace", "(I)LGateTable$Trace;"⟩
abbrev cX6_goneGates : ByteArray := prog_8_method_5_code
def yX6_goneGates : MethodName := ⟨RX6, "goneGates", "()I"⟩
abbrev cX6_ruleNow : ByteArray := prog_8_method_6_code
def yX6_ruleNow : MethodName := ⟨RX6, "ruleNow", "()I"⟩
abbrev cX6_stepsDone : ByteArray := prog_8_method_7_code
def yX6_stepsDone : MethodName := ⟨RX6, "stepsDone", "(I)I"⟩
abbrev cX6_isOver : ByteArray := prog_8_method_8_code
def yX6_isOver : MethodName := ⟨RX6, "isOver", "(I)Z"⟩
abbrev cX6_isWaiting : ByteArray := prog_8_method_9_code
def yX6_isWaiting : MethodName := ⟨RX6, "isWaiting", "(I)Z"⟩
abbrev cX6_isBusy : ByteArray := prog_8_method_10_code
def yX6_isBusy : MethodName := ⟨RX6, "isBusy", "()Z"⟩
abbrev cX6_isUntouched : ByteArray := prog_8_method_11_code
def yX6_isUntouched : MethodName := ⟨RX6, "isUntouched", "()Z"⟩
abbrev cX6_tasksThatAre : ByteArray := prog_8_method_12_code
def yX6_tasksThatAre : MethodName := ⟨RX6, "tasksThatAre", "(I)I"⟩
abbrev cX6_tasksLeft : ByteArray := prog_8_method_13_code
def yX6_tasksLeft : MethodName := ⟨RX6, "tasksLeft", "()I"⟩
abbrev cX6_tellGate : ByteArray := prog_8_method_14_code
def yX6_tellGate : MethodName := ⟨RX6, "tellGate", "(II)I"⟩
abbrev cX6_tellTask : ByteArray := prog_8_method_15_code
def yX6_tellTask : MethodName := ⟨RX6, "tellTask", "(II)I"⟩
abbrev cX6_tellAll : ByteArray := prog_8_method_16_code
def yX6_tellAll : MethodName := ⟨RX6, "tellAll", "(I)I"⟩
abbrev cX6_tasksThatAwait : ByteArray := prog_8_method_17_code
def yX6_tasksThatAwait : MethodName := ⟨RX6, "tasksThatAwait", "(I)I"⟩
abbrev cX6_gatesOf : ByteArray := prog_8_method_18_code
def yX6_gatesOf : MethodName := ⟨RX6, "gatesOf", "(I)I"⟩
abbrev cX6_tasksInRings : ByteArray := prog_8_method_19_code
def yX6_tasksInRings : MethodName := ⟨RX6, "tasksInRings", "()I"⟩
abbrev cX6_ringOf : ByteArray := prog_8_method_20_code
def yX6_ringOf : MethodName := ⟨RX6, "ringOf", "(I)I"⟩
abbrev cX6_blockerOf : ByteArray := prog_8_method_21_code
def yX6_blockerOf : MethodName := ⟨RX6, "blockerOf", "(I)I"⟩
abbrev cX6_changeProgram : ByteArray := prog_8_method_22_code
def yX6_changeProgram : MethodName := ⟨RX6, "changeProgram", "(ILGateTable$Script;LGateTable$Trace;)V"⟩
abbrev cX6_changeGates : ByteArray := prog_8_method_23_code
def yX6_changeGates : MethodName := ⟨RX6, "changeGates", "(I[LGateTable$Trace;)V"⟩
abbrev cX6_changeRule : ByteArray := prog_8_method_24_code
def yX6_changeRule : MethodName := ⟨RX6, "changeRule", "(I)V"⟩
abbrev cX6_changeDraw : ByteArray := prog_8_method_25_code
def yX6_changeDraw : MethodName := ⟨RX6, "changeDraw", "(I)I"⟩
abbrev cX6_addWholeTrace : ByteArray := prog_8_method_26_code
def yX6_addWholeTrace : MethodName := ⟨RX6, "addWholeTrace", "(I)V"⟩
abbrev cX6_layAnew : ByteArray := prog_8_method_27_code
def yX6_layAnew : MethodName := ⟨RX6, "layAnew", "()I"⟩
abbrev cX6_takeDrawnTurn : ByteArray := prog_8_method_28_code
def yX6_takeDrawnTurn : MethodName := ⟨RX6, "takeDrawnTurn", "()V"⟩
abbrev cX6_driftOnce : ByteArray := prog_8_method_29_code
def yX6_driftOnce : MethodName := ⟨RX6, "driftOnce", "()V"⟩
abbrev cX6_takeTurn : ByteArray := prog_8_method_30_code
def yX6_takeTurn : MethodName := ⟨RX6, "takeTurn", "(I)I"⟩
abbrev cX6_drawOnce : ByteArray := prog_8_method_31_code
def yX6_drawOnce : MethodName := ⟨RX6, "drawOnce", "()I"⟩
abbrev cX6_awaitGate : ByteArray := prog_8_method_32_code
def yX6_awaitGate : MethodName := ⟨RX6, "awaitGate", "(II)I"⟩
abbrev cX6_doNextStep : ByteArray := prog_8_method_33_code
def yX6_doNextStep : MethodName := ⟨RX6, "doNextStep", "(I)V"⟩
abbrev cX6_chooseVictim : ByteArray := prog_8_method_34_code
def yX6_chooseVictim : MethodName := ⟨RX6, "chooseVictim", "(I)I"⟩
abbrev cX6_claim : ByteArray := prog_8_method_35_code
def yX6_claim : MethodName := ⟨RX6, "claim", "(I)I"⟩
abbrev cX6_withdraw : ByteArray := prog_8_method_36_code
def yX6_withdraw : MethodName := ⟨RX6, "withdraw", "(I)V"⟩
abbrev cX6_rest : ByteArray := prog_8_method_37_code
def yX6_rest : MethodName := ⟨RX6, "rest", "(I)V"⟩
def RX7 : String := "GateTable$Tape"
def TX7 : u_T := fun k => match k with
  | 0 => ("GateTable$Tape", "letters", "[C", true)
  | 1 => ("GateTable$Tape", "size", "I", false)
  | 2 => ("GateTable$Tape", "closers", "[C", true)
  | 3 => ("GateTable$Tape", "open", "I", false)
  | _ => ("GateTable$Tape", "place", "I", false)
def tyX7 : Nat → FieldType := fun k => match k with
  | 0 => .array .char
  | 1 => .int
  | 2 => .array .char
  | 3 => .int
  | _ => .int
abbrev wsX70 : List Cond := u_ws RX7 TX7 5
theorem nmX7 : ∀ a, a < 5 → ∀ b, b < 5 → a ≠ b → (TX7 a).2.1 ≠ (TX7 b).2.1 := by decide +kernel
theorem tyX7_ok : ∀ k, k < 5 → parseFieldDescriptor (TX7 k).2.2.1 = some (tyX7 k) := by decide +kernel
abbrev cX7_init : ByteArray := prog_9_method_1_code
def yX7_init : MethodName := ⟨RX7, "<init>", "()V"⟩
abbrev cX7_length : ByteArray := prog_9_method_2_code
def yX7_length : MethodName := ⟨RX7, "length", "()I"⟩
abbrev cX7_append : ByteArray := prog_9_method_3_code
def yX7_append : MethodName := ⟨RX7, "append", "(C)Z"⟩
abbrev cX7_clear : ByteArray := prog_9_method_4_code
def yX7_clear : MethodName := ⟨RX7, "clear", "()V"⟩
abbrev cX7_findFault : ByteArray := prog_9_method_5_code
def yX7_findFault : MethodName := ⟨RX7, "findFault", "()I"⟩
abbrev cX7_toScript : ByteArray := prog_9_method_6_code
def yX7_toScript : MethodName := ⟨RX7, "toScript", "()LGateTable$Script;"⟩
abbrev cX7_accepts : ByteArray := prog_9_method_7_code
def yX7_accepts : MethodName := ⟨RX7, "accepts", "(C)Z"⟩
abbrev cX7_acceptsAtItem : ByteArray := prog_9_method_8_code
def yX7_acceptsAtItem : MethodName := ⟨RX7, "acceptsAtItem", "(C)Z"⟩
abbrev cX7_opens : ByteArray := prog_9_method_9_code
def yX7_opens : MethodName := ⟨RX7, "opens", "(C)Z"⟩
abbrev cX7_closes : ByteArray := prog_9_method_10_code
def yX7_closes : MethodName := ⟨RX7, "closes", "(C)Z"⟩
def RX8 : String := "GateTable$Trace"
def TX8 : u_T := fun k => match k with
  | 0 => ("GateTable$Trace", "size", "I", true)
  | 1 => ("GateTable$Trace", "kinds", "[I", true)
  | 2 => ("GateTable$Trace", "gates", "[I", true)
  | 3 => ("GateTable$Trace", "adds", "[I", true)
  | 4 => ("GateTable$Trace", "inside", "[I", true)
  | 5 => ("GateTable$Trace", "why", "I", true)
  | 6 => ("GateTable$Trace", "brokenBy", "I", true)
  | 7 => ("GateTable$Trace", "mended", "I", true)
  | 8 => ("GateTable$Trace", "again", "I", true)
  | _ => ("GateTable$Trace", "mostStays", "I", true)
def tyX8 : Nat → FieldType := fun k => match k with
  | 0 => .int
  | 1 => .array .int
  | 2 => .array .int
  | 3 => .array .int
  | 4 => .array .int
  | 5 => .int
  | 6 => .int
  | 7 => .int
  | 8 => .int
  | _ => .int
abbrev wsX80 : List Cond := u_ws RX8 TX8 10
theorem nmX8 : ∀ a, a < 10 → ∀ b, b < 10 → a ≠ b → (TX8 a).2.1 ≠ (TX8 b).2.1 := by decide +kernel
theorem tyX8_ok : ∀ k, k < 10 → parseFieldDescriptor (TX8 k).2.2.1 = some (tyX8 k) := by decide +kernel
abbrev cX8_init : ByteArray := prog_10_method_1_code
def yX8_init : MethodName := ⟨RX8, "<init>", "(LGateTable$Player;)V"⟩
abbrev cX8_length : ByteArray := prog_10_method_2_code
def yX8_length : MethodName := ⟨RX8, "length", "()I"⟩
abbrev cX8_breaks : ByteArray := prog_10_method_3_code
def yX8_breaks : MethodName := ⟨RX8, "breaks", "()Z"⟩
abbrev cX8_hasStep : ByteArray := prog_10_method_4_code
def yX8_hasStep : MethodName := ⟨RX8, "hasStep", "(I)Z"⟩
abbrev cX8_kindAt : ByteArray := prog_10_method_5_code
def yX8_kindAt : MethodName := ⟨RX8, "kindAt", "(I)I"⟩
abbrev cX8_gateAt : ByteArray := prog_10_method_6_code
def yX8_gateAt : MethodName := ⟨RX8, "gateAt", "(I)I"⟩
abbrev cX8_addAt : ByteArray := prog_10_method_7_code
def yX8_addAt : MethodName := ⟨RX8, "addAt", "(I)I"⟩
abbrev cX8_addTo : ByteArray := prog_10_method_8_code
def yX8_addTo : MethodName := ⟨RX8, "addTo", "([III)V"⟩
abbrev cX8_insideAt : ByteArray := prog_10_method_9_code
def yX8_insideAt : MethodName := ⟨RX8, "insideAt", "(I)I"⟩
abbrev cX8_entersAt : ByteArray := prog_10_method_10_code
def yX8_entersAt : MethodName := ⟨RX8, "entersAt", "(I)I"⟩
abbrev cX8_canGo : ByteArray := prog_10_method_11_code
def yX8_canGo : MethodName := ⟨RX8, "canGo", "(II)Z"⟩
abbrev cX8_summary : ByteArray := prog_10_method_12_code
def yX8_summary : MethodName := ⟨RX8, "summary", "(I)I"⟩
abbrev cX8_detail : ByteArray := prog_10_method_13_code
def yX8_detail : MethodName := ⟨RX8, "detail", "(II)I"⟩
def RX9 : String := "GateTable"
def TX9 : u_T := fun k => match k with
  | 0 => ("GateTable", "tape", "LGateTable$Tape;", true)
  | 1 => ("GateTable", "player", "LGateTable$Player;", true)
  | 2 => ("GateTable", "fresh", "[LGateTable$Trace;", true)
  | 3 => ("GateTable", "table", "LGateTable$Table;", true)
  | 4 => ("GateTable", "trial", "LGateTable$Table;", true)
  | 5 => ("GateTable", "history", "LGateTable$History;", true)
  | 6 => ("GateTable", "imageTable", "LGateTable$Table;", true)
  | 7 => ("GateTable", "imageHistory", "LGateTable$History;", true)
  | 8 => ("GateTable", "imaged", "Z", false)
  | 9 => ("GateTable", "order", "LGateTable$Order;", true)
  | 10 => ("GateTable", "pair", "LGateTable$Pair;", true)
  | _ => ("GateTable", "sheets", "[LGateTable$Sheet;", true)
def tyX9 : Nat → FieldType := fun k => match k with
  | 0 => .object "GateTable$Tape"
  | 1 => .object "GateTable$Player"
  | 2 => .array (.object "GateTable$Trace")
  | 3 => .object "GateTable$Table"
  | 4 => .object "GateTable$Table"
  | 5 => .object "GateTable$History"
  | 6 => .object "GateTable$Table"
  | 7 => .object "GateTable$History"
  | 8 => .boolean
  | 9 => .object "GateTable$Order"
  | 10 => .object "GateTable$Pair"
  | _ => .array (.object "GateTable$Sheet")
abbrev wsX90 : List Cond := u_ws RX9 TX9 12
theorem nmX9 : ∀ a, a < 12 → ∀ b, b < 12 → a ≠ b → (TX9 a).2.1 ≠ (TX9 b).2.1 := by decide +kernel
theorem tyX9_ok : ∀ k, k < 12 → parseFieldDescriptor (TX9 k).2.2.1 = some (tyX9 k) := by decide +kernel
abbrev cX9_init : ByteArray := prog_1_method_1_code
def yX9_init : MethodName := ⟨RX9, "<init>", "()V"⟩
abbrev cX9_type : ByteArray := prog_1_method_2_code
def yX9_type : MethodName := ⟨RX9, "type", "(I)I"⟩
abbrev cX9_program : ByteArray := prog_1_method_3_code
def yX9_program : MethodName := ⟨RX9, "program", "(I)I"⟩
abbrev cX9_gone : ByteArray := prog_1_method_4_code
def yX9_gone : MethodName := ⟨RX9, "gone", "(I)I"⟩
abbrev cX9_run : ByteArray := prog_1_method_5_code
def yX9_run : MethodName := ⟨RX9, "run", "(I)I"⟩
abbrev cX9_alone : ByteArray := prog_1_method_6_code
def yX9_alone : MethodName := ⟨RX9, "alone", "(II)I"⟩
abbrev cX9_step : ByteArray := prog_1_method_7_code
def yX9_step : MethodName := ⟨RX9, "step", "(III)I"⟩
abbrev cX9_rule : ByteArray := prog_1_method_8_code
def yX9_rule : MethodName := ⟨RX9, "rule", "(I)I"⟩
abbrev cX9_turn : ByteArray := prog_1_method_9_code
def yX9_turn : MethodName := ⟨RX9, "turn", "(I)I"⟩
abbrev cX9_go : ByteArray := prog_1_method_10_code
def yX9_go : MethodName := ⟨RX9, "go", "(I)I"⟩
abbrev cX9_lay : ByteArray := prog_1_method_11_code
def yX9_lay : MethodName := ⟨RX9, "lay", "()I"⟩
abbrev cX9_gate : ByteArray := prog_1_method_12_code
def yX9_gate : MethodName := ⟨RX9, "gate", "(II)I"⟩
abbrev cX9_task : ByteArray := prog_1_method_13_code
def yX9_task : MethodName := ⟨RX9, "task", "(II)I"⟩
abbrev cX9_count : ByteArray := prog_1_method_14_code
def yX9_count : MethodName := ⟨RX9, "count", "(I)I"⟩
abbrev cX9_ahead : ByteArray := prog_1_method_15_code
def yX9_ahead : MethodName := ⟨RX9, "ahead", "(II)I"⟩
abbrev cX9_loops : ByteArray := prog_1_method_16_code
def yX9_loops : MethodName := ⟨RX9, "loops", "(I)I"⟩
abbrev cX9_ways : ByteArray := prog_1_method_17_code
def yX9_ways : MethodName := ⟨RX9, "ways", "(III)J"⟩
abbrev cX9_odds : ByteArray := prog_1_method_18_code
def yX9_odds : MethodName := ⟨RX9, "odds", "(III)J"⟩
abbrev cX9_near : ByteArray := prog_1_method_19_code
def yX9_near : MethodName := ⟨RX9, "near", "(II)I"⟩
abbrev cX9_drift : ByteArray := prog_1_method_20_code
def yX9_drift : MethodName := ⟨RX9, "drift", "(I)I"⟩
abbrev cX9_undo : ByteArray := prog_1_method_21_code
def yX9_undo : MethodName := ⟨RX9, "undo", "()I"⟩
abbrev cX9_seed : ByteArray := prog_1_method_22_code
def yX9_seed : MethodName := ⟨RX9, "seed", "(I)I"⟩
abbrev cX9_image : ByteArray := prog_1_method_23_code
def yX9_image : MethodName := ⟨RX9, "image", "()I"⟩
abbrev cX9_restore : ByteArray := prog_1_method_24_code
def yX9_restore : MethodName := ⟨RX9, "restore", "()I"⟩
abbrev cX9_tried : ByteArray := prog_1_method_25_code
def yX9_tried : MethodName := ⟨RX9, "tried", "(IIII)I"⟩
abbrev cX9_film : ByteArray := prog_1_method_26_code
def yX9_film : MethodName := ⟨RX9, "film", "(III)I"⟩
abbrev cX9_sheet : ByteArray := prog_1_method_27_code
def yX9_sheet : MethodName := ⟨RX9, "sheet", "(III)I"⟩
abbrev cX9_drop : ByteArray := prog_1_method_28_code
def yX9_drop : MethodName := ⟨RX9, "drop", "(I)I"⟩
abbrev cX9_item : ByteArray := prog_1_method_29_code
def yX9_item : MethodName := ⟨RX9, "item", "(IIIJ)I"⟩
abbrev cX9_copy : ByteArray := prog_1_method_30_code
def yX9_copy : MethodName := ⟨RX9, "copy", "(IIIII)I"⟩
abbrev cX9_isNoTask : ByteArray := prog_1_method_31_code
def yX9_isNoTask : MethodName := ⟨RX9, "isNoTask", "(I)Z"⟩
abbrev cX9_isNoGate : ByteArray := prog_1_method_32_code
def yX9_isNoGate : MethodName := ⟨RX9, "isNoGate", "(I)Z"⟩
abbrev cX9_isNoPair : ByteArray := prog_1_method_33_code
def yX9_isNoPair : MethodName := ⟨RX9, "isNoPair", "(II)Z"⟩
abbrev cX9_isNoSheet : ByteArray := prog_1_method_34_code
def yX9_isNoSheet : MethodName := ⟨RX9, "isNoSheet", "(I)Z"⟩
abbrev cX9_isNoLane : ByteArray := prog_1_method_35_code
def yX9_isNoLane : MethodName := ⟨RX9, "isNoLane", "(I)Z"⟩
abbrev cX9_bit : ByteArray := prog_1_method_36_code
def yX9_bit : MethodName := ⟨RX9, "bit", "(I)I"⟩
abbrev cX9_has : ByteArray := prog_1_method_37_code
def yX9_has : MethodName := ⟨RX9, "has", "(II)Z"⟩
abbrev cX9_told : ByteArray := prog_1_method_38_code
def yX9_told : MethodName := ⟨RX9, "told", "(I)I"⟩
abbrev cX9_tryRow : ByteArray := prog_1_method_39_code
def yX9_tryRow : MethodName := ⟨RX9, "tryRow", "(LGateTable$Sheet;II)I"⟩
def RX10 : String := "GateTableModel"
def TX10 : u_T := fun k => match k with
  | 0 => ("GateTableModel", "now", "[I", true)
  | 1 => ("GateTableModel", "past", "[I", true)
  | 2 => ("GateTableModel", "acts", "I", false)
  | 3 => ("GateTableModel", "kept", "[I", true)
  | 4 => ("GateTableModel", "keptPast", "[I", true)
  | 5 => ("GateTableModel", "keptActs", "I", false)
  | 6 => ("GateTableModel", "tape", "[I", true)
  | 7 => ("GateTableModel", "typed", "I", false)
  | 8 => ("GateTableModel", "lanes", "[I", true)
  | 9 => ("GateTableModel", "sizes", "[I", true)
  | 10 => ("GateTableModel", "items", "[J", true)
  | 11 => ("GateTableModel", "moved", "[J", true)
  | 12 => ("GateTableModel", "kinds", "[I", true)
  | 13 => ("GateTableModel", "gates", "[I", true)
  | 14 => ("GateTableModel", "adds", "[I", true)
  | 15 => ("GateTableModel", "many", "[I", true)
  | 16 => ("GateTableModel", "why", "[I", true)
  | 17 => ("GateTableModel", "whyGate", "[I", true)
  | 18 => ("GateTableModel", "mended", "[I", true)
  | 19 => ("GateTableModel", "again", "[I", true)
  | 20 => ("GateTableModel", "deep", "[I", true)
  | 21 => ("GateTableModel", "isOver", "Z", false)
  | 22 => ("GateTableModel", "open", "[I", true)
  | 23 => ("GateTableModel", "openAt", "[I", true)
  | 24 => ("GateTableModel", "openOf", "[I", true)
  | 25 => ("GateTableModel", "openAdds", "[I", true)
  | 26 => ("GateTableModel", "opened", "I", false)
  | 27 => ("GateTableModel", "addGate", "[I", true)
  | 28 => ("GateTableModel", "addBy", "[I", true)
  | 29 => ("GateTableModel", "addMany", "I", false)
  | 30 => ("GateTableModel", "inside", "[I", true)
  | 31 => ("GateTableModel", "at", "I", false)
  | 32 => ("GateTableModel", "stays", "I", false)
  | 33 => ("GateTableModel", "first", "[I", true)
  | 34 => ("GateTableModel", "place", "I", false)
  | 35 => ("GateTableModel", "said", "[I", true)
  | 36 => ("GateTableModel", "saidMany", "I", false)
  | 37 => ("GateTableModel", "lastTold", "I", false)
  | 38 => ("GateTableModel", "behind", "[I", true)
  | 39 => ("GateTableModel", "wayMany", "[J", true)
  | 40 => ("GateTableModel", "likely", "[J", true)
  | 41 => ("GateTableModel", "heldOne", "[I", true)
  | 42 => ("GateTableModel", "heldOther", "[I", true)
  | 43 => ("GateTableModel", "waysDone", "J", false)
  | 44 => ("GateTableModel", "waysShut", "J", false)
  | 45 => ("GateTableModel", "oddsShut", "J", false)
  | _ => ("GateTableModel", "nearest", "I", false)
def tyX10 : Nat → FieldType := fun k => match k with
  | 0 => .array .int
  | 1 => .array .int
  | 2 => .int
  | 3 => .array .int
  | 4 => .array .int
  | 5 => .int
  | 6 => .array .int
  | 7 => .int
  | 8 => .array .int
  | 9 => .array .int
  | 10 => .array .long
  | 11 => .array .long
  | 12 => .array .int
  | 13 => .array .int
  | 14 => .array .int
  | 15 => .array .int
  | 16 => .array .int
  | 17 => .array .int
  | 18 => .array .int
  | 19 => .array .int
  | 20 => .array .int
  | 21 => .boolean
  | 22 => .array .int
  | 23 => .array .int
  | 24 => .array .int
  | 25 => .array .int
  | 26 => .int
  | 27 => .array .int
  | 28 => .array .int
  | 29 => .int
  | 30 => .array .int
  | 31 => .int
  | 32 => .int
  | 33 => .array .int
  | 34 => .int
  | 35 => .array .int
  | 36 => .int
  | 37 => .int
  | 38 => .array .int
  | 39 => .array .long
  | 40 => .array .long
  | 41 => .array .int
  | 42 => .array .int
  | 43 => .long
  | 44 => .long
  | 45 => .long
  | _ => .int
abbrev wsX100 : List Cond := u_ws RX10 TX10 47
theorem nmX10 : ∀ a, a < 47 → ∀ b, b < 47 → a ≠ b → (TX10 a).2.1 ≠ (TX10 b).2.1 := by decide +kernel
theorem tyX10_ok : ∀ k, k < 47 → parseFieldDescriptor (TX10 k).2.2.1 = some (tyX10 k) := by decide +kernel
abbrev cX10_init : ByteArray := prog_12_method_1_code
def yX10_init : MethodName := ⟨RX10, "<init>", "()V"⟩
abbrev cX10_in : ByteArray := prog_12_method_2_code
def yX10_in : MethodName := ⟨RX10, "in", "(JJJ)Z"⟩
abbrev cX10_has : ByteArray := prog_12_method_3_code
def yX10_has : MethodName := ⟨RX10, "has", "(II)Z"⟩
abbrev cX10_sizeOf : ByteArray := prog_12_method_4_code
def yX10_sizeOf : MethodName := ⟨RX10, "sizeOf", "(I)I"⟩
abbrev cX10_isTask : ByteArray := prog_12_method_5_code
def yX10_isTask : MethodName := ⟨RX10, "isTask", "(J)Z"⟩
abbrev cX10_isGate : ByteArray := prog_12_method_6_code
def yX10_isGate : MethodName := ⟨RX10, "isGate", "(I)Z"⟩
abbrev cX10_of : ByteArray := prog_12_method_7_code
def yX10_of : MethodName := ⟨RX10, "of", "(II)I"⟩
abbrev cX10_put : ByteArray := prog_12_method_8_code
def yX10_put : MethodName := ⟨RX10, "put", "(III)V"⟩
abbrev cX10_writes : ByteArray := prog_12_method_9_code
def yX10_writes : MethodName := ⟨RX10, "writes", "(IIII)V"⟩
abbrev cX10_opens : ByteArray := prog_12_method_10_code
def yX10_opens : MethodName := ⟨RX10, "opens", "(II)V"⟩
abbrev cX10_enters : ByteArray := prog_12_method_11_code
def yX10_enters : MethodName := ⟨RX10, "enters", "(II)V"⟩
abbrev cX10_leaves : ByteArray := prog_12_method_12_code
def yX10_leaves : MethodName := ⟨RX10, "leaves", "(I)V"⟩
abbrev cX10_takesBack : ByteArray := prog_12_method_13_code
def yX10_takesBack : MethodName := ⟨RX10, "takesBack", "(I)V"⟩
abbrev cX10_letterAt : ByteArray := prog_12_method_14_code
def yX10_letterAt : MethodName := ⟨RX10, "letterAt", "(II)I"⟩
abbrev cX10_shutOf : ByteArray := prog_12_method_15_code
def yX10_shutOf : MethodName := ⟨RX10, "shutOf", "(II)I"⟩
abbrev cX10_breaks : ByteArray := prog_12_method_16_code
def yX10_breaks : MethodName := ⟨RX10, "breaks", "(III)V"⟩
abbrev cX10_visits : ByteArray := prog_12_method_17_code
def yX10_visits : MethodName := ⟨RX10, "visits", "(II)V"⟩
abbrev cX10_shuts : ByteArray := prog_12_method_18_code
def yX10_shuts : MethodName := ⟨RX10, "shuts", "(II)V"⟩
abbrev cX10_laysTrace : ByteArray := prog_12_method_19_code
def yX10_laysTrace : MethodName := ⟨RX10, "laysTrace", "(I)V"⟩
abbrev cX10_laysTraces : ByteArray := prog_12_method_20_code
def yX10_laysTraces : MethodName := ⟨RX10, "laysTraces", "()Z"⟩
abbrev cX10_kindAt : ByteArray := prog_12_method_21_code
def yX10_kindAt : MethodName := ⟨RX10, "kindAt", "(II)I"⟩
abbrev cX10_gateAt : ByteArray := prog_12_method_22_code
def yX10_gateAt : MethodName := ⟨RX10, "gateAt", "(II)I"⟩
abbrev cX10_alone : ByteArray := prog_12_method_23_code
def yX10_alone : MethodName := ⟨RX10, "alone", "(II)I"⟩
abbrev cX10_step : ByteArray := prog_12_method_24_code
def yX10_step : MethodName := ⟨RX10, "step", "(III)I"⟩
abbrev cX10_holds : ByteArray := prog_12_method_25_code
def yX10_holds : MethodName := ⟨RX10, "holds", "()V"⟩
abbrev cX10_notes : ByteArray := prog_12_method_26_code
def yX10_notes : MethodName := ⟨RX10, "notes", "()V"⟩
abbrev cX10_returns : ByteArray := prog_12_method_27_code
def yX10_returns : MethodName := ⟨RX10, "returns", "()V"⟩
abbrev cX10_isBusy : ByteArray := prog_12_method_28_code
def yX10_isBusy : MethodName := ⟨RX10, "isBusy", "()Z"⟩
abbrev cX10_idles : ByteArray := prog_12_method_29_code
def yX10_idles : MethodName := ⟨RX10, "idles", "(I)V"⟩
abbrev cX10_type : ByteArray := prog_12_method_30_code
def yX10_type : MethodName := ⟨RX10, "type", "(I)I"⟩
abbrev cX10_here : ByteArray := prog_12_method_31_code
def yX10_here : MethodName := ⟨RX10, "here", "()I"⟩
abbrev cX10_takes : ByteArray := prog_12_method_32_code
def yX10_takes : MethodName := ⟨RX10, "takes", "()V"⟩
abbrev cX10_isTaken : ByteArray := prog_12_method_33_code
def yX10_isTaken : MethodName := ⟨RX10, "isTaken", "(Z)Z"⟩
abbrev cX10_isOpened : ByteArray := prog_12_method_34_code
def yX10_isOpened : MethodName := ⟨RX10, "isOpened", "()Z"⟩
abbrev cX10_shutBy : ByteArray := prog_12_method_35_code
def yX10_shutBy : MethodName := ⟨RX10, "shutBy", "(I)I"⟩
abbrev cX10_isVisit : ByteArray := prog_12_method_36_code
def yX10_isVisit : MethodName := ⟨RX10, "isVisit", "()Z"⟩
abbrev cX10_isBody : ByteArray := prog_12_method_37_code
def yX10_isBody : MethodName := ⟨RX10, "isBody", "()Z"⟩
abbrev cX10_isKept : ByteArray := prog_12_method_38_code
def yX10_isKept : MethodName := ⟨RX10, "isKept", "()Z"⟩
abbrev cX10_program : ByteArray := prog_12_method_39_code
def yX10_program : MethodName := ⟨RX10, "program", "(I)I"⟩
abbrev cX10_gone : ByteArray := prog_12_method_40_code
def yX10_gone : MethodName := ⟨RX10, "gone", "(I)I"⟩
abbrev cX10_comes : ByteArray := prog_12_method_41_code
def yX10_comes : MethodName := ⟨RX10, "comes", "(III)V"⟩
abbrev cX10_run : ByteArray := prog_12_method_42_code
def yX10_run : MethodName := ⟨RX10, "run", "(I)I"⟩
abbrev cX10_insides : ByteArray := prog_12_method_43_code
def yX10_insides : MethodName := ⟨RX10, "insides", "(III)I"⟩
abbrev cX10_heldBy : ByteArray := prog_12_method_44_code
def yX10_heldBy : MethodName := ⟨RX10, "heldBy", "(II)I"⟩
abbrev cX10_holder : ByteArray := prog_12_method_45_code
def yX10_holder : MethodName := ⟨RX10, "holder", "(I)I"⟩
abbrev cX10_waitsFor : ByteArray := prog_12_method_46_code
def yX10_waitsFor : MethodName := ⟨RX10, "waitsFor", "(I)I"⟩
abbrev cX10_nextOf : ByteArray := prog_12_method_47_code
def yX10_nextOf : MethodName := ⟨RX10, "nextOf", "(I)I"⟩
abbrev cX10_ring : ByteArray := prog_12_method_48_code
def yX10_ring : MethodName := ⟨RX10, "ring", "(I)I"⟩
abbrev cX10_weight : ByteArray := prog_12_method_49_code
def yX10_weight : MethodName := ⟨RX10, "weight", "(I)I"⟩
abbrev cX10_victim : ByteArray := prog_12_method_50_code
def yX10_victim : MethodName := ⟨RX10, "victim", "(I)I"⟩
abbrev cX10_falls : ByteArray := prog_12_method_51_code
def yX10_falls : MethodName := ⟨RX10, "falls", "(I)V"⟩
abbrev cX10_isOut : ByteArray := prog_12_method_52_code
def yX10_isOut : MethodName := ⟨RX10, "isOut", "(I)Z"⟩
abbrev cX10_turns : ByteArray := prog_12_method_53_code
def yX10_turns : MethodName := ⟨RX10, "turns", "(I)I"⟩
abbrev cX10_waits : ByteArray := prog_12_method_54_code
def yX10_waits : MethodName := ⟨RX10, "waits", "(I)I"⟩
abbrev cX10_turn : ByteArray := prog_12_method_55_code
def yX10_turn : MethodName := ⟨RX10, "turn", "(I)I"⟩
abbrev cX10_draws : ByteArray := prog_12_method_56_code
def yX10_draws : MethodName := ⟨RX10, "draws", "()I"⟩
abbrev cX10_lefts : ByteArray := prog_12_method_57_code
def yX10_lefts : MethodName := ⟨RX10, "lefts", "()I"⟩
abbrev cX10_nth : ByteArray := prog_12_method_58_code
def yX10_nth : MethodName := ⟨RX10, "nth", "(II)I"⟩
abbrev cX10_go : ByteArray := prog_12_method_59_code
def yX10_go : MethodName := ⟨RX10, "go", "(I)I"⟩
abbrev cX10_lays : ByteArray := prog_12_method_60_code
def yX10_lays : MethodName := ⟨RX10, "lays", "()I"⟩
abbrev cX10_rules : ByteArray := prog_12_method_61_code
def yX10_rules : MethodName := ⟨RX10, "rules", "(I)I"⟩
abbrev cX10_lay : ByteArray := prog_12_method_62_code
def yX10_lay : MethodName := ⟨RX10, "lay", "()I"⟩
abbrev cX10_rule : ByteArray := prog_12_method_63_code
def yX10_rule : MethodName := ⟨RX10, "rule", "(I)I"⟩
abbrev cX10_waiters : ByteArray := prog_12_method_64_code
def yX10_waiters : MethodName := ⟨RX10, "waiters", "(I)I"⟩
abbrev cX10_gate : ByteArray := prog_12_method_65_code
def yX10_gate : MethodName := ⟨RX10, "gate", "(II)I"⟩
abbrev cX10_task : ByteArray := prog_12_method_66_code
def yX10_task : MethodName := ⟨RX10, "task", "(II)I"⟩
abbrev cX10_those : ByteArray := prog_12_method_67_code
def yX10_those : MethodName := ⟨RX10, "those", "(I)I"⟩
abbrev cX10_ringed : ByteArray := prog_12_method_68_code
def yX10_ringed : MethodName := ⟨RX10, "ringed", "()I"⟩
abbrev cX10_count : ByteArray := prog_12_method_69_code
def yX10_count : MethodName := ⟨RX10, "count", "(I)I"⟩
abbrev cX10_isAhead : ByteArray := prog_12_method_70_code
def yX10_isAhead : MethodName := ⟨RX10, "isAhead", "(II)Z"⟩
abbrev cX10_ahead : ByteArray := prog_12_method_71_code
def yX10_ahead : MethodName := ⟨RX10, "ahead", "(II)I"⟩
abbrev cX10_loopOf : ByteArray := prog_12_method_72_code
def yX10_loopOf : MethodName := ⟨RX10, "loopOf", "(I)I"⟩
abbrev cX10_loops : ByteArray := prog_12_method_73_code
def yX10_loops : MethodName := ⟨RX10, "loops", "(I)I"⟩
abbrev cX10_isShut : ByteArray := prog_12_method_74_code
def yX10_isShut : MethodName := ⟨RX10, "isShut", "(III)Z"⟩
abbrev cX10_goesOn : ByteArray := prog_12_method_75_code
def yX10_goesOn : MethodName := ⟨RX10, "goesOn", "(IIII)V"⟩
abbrev cX10_goesBoth : ByteArray := prog_12_method_76_code
def yX10_goesBoth : MethodName := ⟨RX10, "goesBoth", "(II)V"⟩
abbrev cX10_areTwo : ByteArray := prog_12_method_77_code
def yX10_areTwo : MethodName := ⟨RX10, "areTwo", "(II)Z"⟩
abbrev cX10_ways : ByteArray := prog_12_method_78_code
def yX10_ways : MethodName := ⟨RX10, "ways", "(III)J"⟩
abbrev cX10_odds : ByteArray := prog_12_method_79_code
def yX10_odds : MethodName := ⟨RX10, "odds", "(III)J"⟩
abbrev cX10_near : ByteArray := prog_12_method_80_code
def yX10_near : MethodName := ⟨RX10, "near", "(II)I"⟩
abbrev cX10_drift : ByteArray := prog_12_method_81_code
def yX10_drift : MethodName := ⟨RX10, "drift", "(I)I"⟩
abbrev cX10_undo : ByteArray := prog_12_method_82_code
def yX10_undo : MethodName := ⟨RX10, "undo", "()I"⟩
abbrev cX10_seed : ByteArray := prog_12_method_83_code
def yX10_seed : MethodName := ⟨RX10, "seed", "(I)I"⟩
abbrev cX10_image : ByteArray := prog_12_method_84_code
def yX10_image : MethodName := ⟨RX10, "image", "()I"⟩
abbrev cX10_restore : ByteArray := prog_12_method_85_code
def yX10_restore : MethodName := ⟨RX10, "restore", "()I"⟩
abbrev cX10_isSheet : ByteArray := prog_12_method_86_code
def yX10_isSheet : MethodName := ⟨RX10, "isSheet", "(I)Z"⟩
abbrev cX10_cut : ByteArray := prog_12_method_87_code
def yX10_cut : MethodName := ⟨RX10, "cut", "(IJ)J"⟩
abbrev cX10_found : ByteArray := prog_12_method_88_code
def yX10_found : MethodName := ⟨RX10, "found", "(IIII)I"⟩
abbrev cX10_tried : ByteArray := prog_12_method_89_code
def yX10_tried : MethodName := ⟨RX10, "tried", "(IIII)I"⟩
abbrev cX10_film : ByteArray := prog_12_method_90_code
def yX10_film : MethodName := ⟨RX10, "film", "(III)I"⟩
abbrev cX10_sheet : ByteArray := prog_12_method_91_code
def yX10_sheet : MethodName := ⟨RX10, "sheet", "(III)I"⟩
abbrev cX10_drop : ByteArray := prog_12_method_92_code
def yX10_drop : MethodName := ⟨RX10, "drop", "(I)I"⟩
abbrev cX10_item : ByteArray := prog_12_method_93_code
def yX10_item : MethodName := ⟨RX10, "item", "(IIIJ)I"⟩
abbrev cX10_copy : ByteArray := prog_12_method_94_code
def yX10_copy : MethodName := ⟨RX10, "copy", "(IIIII)I"⟩
def RJx8e188 : String := "java/lang/Cloneable"
def TJx8e188 : u_T := fun k => match k with
  | _ => ("", "", "", false)
def tyJx8e188 : Nat → FieldType := fun k => match k with
  | _ => .int
abbrev wsJx8e1880 : List Cond := u_ws RJx8e188 TJx8e188 0
theorem nmJx8e188 : ∀ a, a < 0 → ∀ b, b < 0 → a ≠ b → (TJx8e188 a).2.1 ≠ (TJx8e188 b).2.1 := by decide +kernel
theorem tyJx8e188_ok : ∀ k, k < 0 → parseFieldDescriptor (TJx8e188 k).2.2.1 = some (tyJx8e188 k) := by decide +kernel
def RJ6 : String := "java/lang/Integer"
def TJ6 : u_T := fun k => match k with
  | _ => ("", "", "", false)
def tyJ6 : Nat → FieldType := fun k => match k with
  | _ => .int
abbrev wsJ60 : List Cond := u_ws RJ6 TJ6 0
theorem nmJ6 : ∀ a, a < 0 → ∀ b, b < 0 → a ≠ b → (TJ6 a).2.1 ≠ (TJ6 b).2.1 := by decide +kernel
theorem tyJ6_ok : ∀ k, k < 0 → parseFieldDescriptor (TJ6 k).2.2.1 = some (tyJ6 k) := by decide +kernel
abbrev cJ6_bitCount_0f7a4 : ByteArray := prog_14_method_49_code
def yJ6_bitCount_0f7a4 : MethodName := ⟨RJ6, "bitCount", "(I)I"⟩
def RJ9 : String := "java/lang/Math"
def TJ9 : u_T := fun k => match k with
  | _ => ("", "", "", false)
def tyJ9 : Nat → FieldType := fun k => match k with
  | _ => .int
abbrev wsJ90 : List Cond := u_ws RJ9 TJ9 0
theorem nmJ9 : ∀ a, a < 0 → ∀ b, b < 0 → a ≠ b → (TJ9 a).2.1 ≠ (TJ9 b).2.1 := by decide +kernel
theorem tyJ9_ok : ∀ k, k < 0 → parseFieldDescriptor (TJ9 k).2.2.1 = some (tyJ9 k) := by decide +kernel
abbrev cJ9_max_7cf53 : ByteArray := prog_15_method_65_code
def yJ9_max_7cf53 : MethodName := ⟨RJ9, "max", "(II)I"⟩
abbrev cJ9_min_7cf53 : ByteArray := prog_15_method_69_code
def yJ9_min_7cf53 : MethodName := ⟨RJ9, "min", "(II)I"⟩
def RJ10 : String := "java/lang/System"
def TJ10 : u_T := fun k => match k with
  | _ => ("", "", "", false)
def tyJ10 : Nat → FieldType := fun k => match k with
  | _ => .int
abbrev wsJ100 : List Cond := u_ws RJ10 TJ10 0
theorem nmJ10 : ∀ a, a < 0 → ∀ b, b < 0 → a ≠ b → (TJ10 a).2.1 ≠ (TJ10 b).2.1 := by decide +kernel
theorem tyJ10_ok : ∀ k, k < 0 → parseFieldDescriptor (TJ10 k).2.2.1 = some (tyJ10 k) := by decide +kernel
def RJ7 : String := "java/util/Arrays"
def TJ7 : u_T := fun k => match k with
  | _ => ("", "", "", false)
def tyJ7 : Nat → FieldType := fun k => match k with
  | _ => .int
abbrev wsJ70 : List Cond := u_ws RJ7 TJ7 0
theorem nmJ7 : ∀ a, a < 0 → ∀ b, b < 0 → a ≠ b → (TJ7 a).2.1 ≠ (TJ7 b).2.1 := by decide +kernel
theorem tyJ7_ok : ∀ k, k < 0 → parseFieldDescriptor (TJ7 k).2.2.1 = some (tyJ7 k) := by decide +kernel
abbrev cJ7_fill_d0a16 : ByteArray := prog_17_method_101_code
def yJ7_fill_d0a16 : MethodName := ⟨RJ7, "fill", "([JJ)V"⟩
abbrev cJ7_fill_53178 : ByteArray := prog_17_method_103_code
def yJ7_fill_53178 : MethodName := ⟨RJ7, "fill", "([II)V"⟩
abbrev cJ7_copyOf_59c91 : ByteArray := prog_17_method_123_code
def yJ7_copyOf_59c91 : MethodName := ⟨RJ7, "copyOf", "([II)[I"⟩
abbrev cJ7_copyOf_d664f : ByteArray := prog_17_method_125_code
def yJ7_copyOf_d664f : MethodName := ⟨RJ7, "copyOf", "([CI)[C"⟩
def RL : String := "GateTableLaw"
abbrev cL_law : ByteArray := code
def yL_law : MethodName := ⟨RL, "law", "([I)Z"⟩
abbrev vwCl : List vw_C := [(RX0, TX0, 2), (RX1, TX1, 1), (RX2, TX2, 8), (RX3, TX3, 18), (RX4, TX4, 1), (RX5, TX5, 3), (RX6, TX6, 14), (RX7, TX7, 5), (RX8, TX8, 10), (RX9, TX9, 12), (RX10, TX10, 47)]
end
section
/-! an interpreter for the bytecode, over its own memory: what a run answers is said by a predicate transformer -/
abbrev zR : Type := Nat × Nat × Nat
abbrev zV : Type := Int32 ⊕ (Int64 ⊕ Option zR)
abbrev zi (x : Int32) : zV := .inl x
abbrev zl (x : Int64) : zV := .inr (.inl x)
abbrev zr (r : Option zR) : zV := .inr (.inr r)
abbrev zI : Type := Nat → Nat → Nat → Nat → Int32
abbrev zL : Type := Nat → Nat → Nat → Nat → Int64
abbrev zP : Type := Nat → Nat → Nat → Nat → Option zR
abbrev zS : Type := Nat → Nat → Nat → Nat × Nat
abbrev zM : Type := zI × zL × zP × zS × Nat
abbrev zE : Type := Instr × Nat × List Nat × Int
def zup {α : Type} (f : Nat → α) (k : Nat) (v : α) : Nat → α := fun j => if j = k then v else f j
def zup3 {α : Type} (f : Nat → Nat → Nat → α) (r j q : Nat) (v : α) : Nat → Nat → Nat → α := zup f r (zup (f r) j (zup (f r j) q v))
def zup4 {α : Type} (f : Nat → Nat → Nat → Nat → α) (r j q i : Nat) (v : α) : Nat → Nat → Nat → Nat → α := zup3 f r j q (zup (f r j q) i v)
def zfd : List (Nat × zE) → Nat → Option zE
  | [], _ => none
  | (q, e) :: t, pc => cond (Nat.beq q pc) (some e) (zfd t pc)
def zkd : zV → Nat
  | .inl _ => 0
  | .inr (.inl _) => 1
  | .inr (.inr _) => 2
def zcat (v : zV) : Nat := match v with
  | .inr (.inl _) => 2
  | _ => 1
def zcats (st : List zV) : Nat := (st.map zcat).sum
def zop2 (f : Int32 → Int32 → Int32) (st : List zV) : Option (List zV) := match st with
  | .inl y :: .inl x :: r => some (zi (f x y) :: r)
  | _ => none
def zop2l (f : Int64 → Int64 → Int64) (st : List zV) : Option (List zV) := match st with
  | .inr (.inl y) :: .inr (.inl x) :: r => some (zl (f x y) :: r)
  | _ => none
def zopsl (f : Int64 → Int32 → Int64) (st : List zV) : Option (List zV) := match st with
  | .inl y :: .inr (.inl x) :: r => some (zl (f x y) :: r)
  | _ => none
def zop1 (f : Int32 → zV) (st : List zV) : Option (List zV) := match st with
  | .inl x :: r => some (f x :: r)
  | _ => none
def zop (i : Instr) (z : Int) (st : List zV) : Option (List zV) := match i with
  | .iconst k => some (zi (Int32.ofInt k) :: st)
  | .bipush k => some (zi (Int8.ofInt k).toInt32 :: st)
  | .sipush k => some (zi (Int16.ofInt k).toInt32 :: st)
  | .lconst k => some (zl (Int64.ofNat k) :: st)
  | .ldc _ => some (zi (Int32.ofInt z) :: st)
  | .ldc_w _ => some (zi (Int32.ofInt z) :: st)
  | .ldc2_w _ => some (zl (Int64.ofInt z) :: st)
  | .iadd => zop2 (fun x y => x + y) st
  | .isub => zop2 (fun x y => x - y) st
  | .imul => zop2 (fun x y => x * y) st
  | .iand => zop2 (fun x y => x &&& y) st
  | .ior => zop2 (fun x y => x ||| y) st
  | .ixor => zop2 (fun x y => x ^^^ y) st
  | .ishl => zop2 (fun x y => x <<< (y &&& 31)) st
  | .ishr => zop2 (fun x y => x >>> (y &&& 31)) st
  | .iushr => zop2 (fun x y => (x.toUInt32 >>> (y.toUInt32 &&& Int32.toUInt32 31)).toInt32) st
  | .ineg => zop1 (fun x => zi (-x)) st
  | .i2l => zop1 (fun x => zl x.toInt64) st
  | .i2b => zop1 (fun x => zi x.toInt8.toInt32) st
  | .i2s => zop1 (fun x => zi x.toInt16.toInt32) st
  | .i2c => zop1 (fun x => zi (x.toUInt32 % 65536).toInt32) st
  | .l2i => match st with
    | .inr (.inl x) :: r => some (zi x.toInt32 :: r)
    | _ => none
  | .ladd => zop2l (fun x y => x + y) st
  | .lmul => zop2l (fun x y => x * y) st
  | .land => zop2l (fun x y => x &&& y) st
  | .lor => zop2l (fun x y => x ||| y) st
  | .lshl => zopsl (fun x y => x <<< (y.toInt64 &&& 63)) st
  | .lshr => zopsl (fun x y => x >>> (y.toInt64 &&& 63)) st
  | .lcmp => match st with
    | .inr (.inl y) :: .inr (.inl x) :: r => some (zi (lg_cmp x y) :: r)
    | _ => none
  | .dup => match st with
    | .inl x :: r => some (zi x :: zi x :: r)
    | .inr (.inr x) :: r => some (zr x :: zr x :: r)
    | _ => none
  | .pop => match st with
    | .inl _ :: r => some r
    | .inr (.inr _) :: r => some r
    | _ => none
  | .dup2 => match st with
    | .inl y :: .inr (.inr x) :: r => some (zi y :: zr x :: zi y :: zr x :: r)
    | .inl y :: .inl x :: r => some (zi y :: zi x :: zi y :: zi x :: r)
    | .inr (.inl x) :: r => some (zl x :: zl x :: r)
    | _ => none
  | _ => none
def zld (i : Instr) : Option (Nat × Nat) := match i with
  | .iload k => some (k, 0)
  | .iload_n k => some (k, 0)
  | .lload k => some (k, 1)
  | .lload_n k => some (k, 1)
  | .aload k => some (k, 2)
  | .aload_n k => some (k, 2)
  | _ => none
def zsr (i : Instr) : Option (Nat × Nat) := match i with
  | .istore k => some (k, 0)
  | .istore_n k => some (k, 0)
  | .lstore k => some (k, 1)
  | .lstore_n k => some (k, 1)
  | .astore k => some (k, 2)
  | .astore_n k => some (k, 2)
  | _ => none
/-- a long that ends at place k goes -/
def zkill (ls : List (Option zV)) (k : Nat) : List (Option zV) := match k with
  | 0 => ls
  | k' + 1 => match ls[k']? with
    | some (some (.inr (.inl _))) => ls.set k' none
    | _ => ls
def zsto (ls : List (Option zV)) (k : Nat) (v : zV) : List (Option zV) := match v with
  | .inr (.inl x) => ((zkill ls k).set k (some (zl x))).set (k + 1) none
  | .inl x => (zkill ls k).set k (some (zi x))
  | .inr (.inr x) => (zkill ls k).set k (some (zr x))
def zj (pc : Nat) (off : Int) : Nat := ((pc : Int) + off).toNat
def zcz (c : ClassFile.Cond) (x : Int32) : Prop := match c with
  | .eq => x = 0
  | .ne => ¬ x = 0
  | .lt => x < 0
  | .ge => 0 ≤ x
  | .gt => 0 < x
  | .le => x ≤ 0
def zcc (c : ClassFile.Cond) (x y : Int32) : Prop := match c with
  | .eq => x = y
  | .ne => ¬ x = y
  | .lt => x < y
  | .ge => y ≤ x
  | .gt => y < x
  | .le => x ≤ y
def ztw (pc : Nat) (dflt lo hi : Int) (offs : Array Int) (x : Int32) : Nat := zj pc (if x.toInt < lo ∨ hi < x.toInt then dflt else (offs[(x.toInt - lo).toNat]?).getD dflt)
def zget (M : zM) (kd r j q k : Nat) : zV := match kd with
  | 1 => zl (M.2.1 r j q k)
  | 2 => zr (M.2.2.1 r j q k)
  | _ => zi (M.1 r j q k)
def zent (args : List zV) : List (Option zV) := match args with
  | [] => []
  | .inl x :: t => some (zi x) :: zent t
  | .inr (.inl x) :: t => some (zl x) :: none :: zent t
  | .inr (.inr x) :: t => some (zr x) :: zent t
def zpad (l : List (Option zV)) (n : Nat) : List (Option zV) := l ++ List.replicate (n - l.length) none
def zpush (r : Option zV) (st : List zV) : List zV := match r with
  | none => st
  | some v => v :: st
def znew (al : Nat → zR) (M : zM) (tag len : Nat) : zM := match al M.2.2.2.2 with
  | (r, j, q) => (zup3 M.1 r j q (fun _ => 0), zup3 M.2.1 r j q (fun _ => 0), zup3 M.2.2.1 r j q (fun _ => none), zup3 M.2.2.2.1 r j q (tag, len), M.2.2.2.2 + 1)
/-- which class's objects an array of references holds -/
def zel (tag : Nat) : Nat := match tag with
  | 23 => 5
  | 24 => 9
  | 25 => 7
  | 26 => 6
  | _ => 0
def zaty (t : ArrayType) : Nat := match t with
  | .int => 20
  | .long => 21
  | .char => 22
  | _ => 0
/-- memory instructions: what must hold, and stack and memory behind them -/
def zmem (i : Instr) (a : List Nat) (st : List zV) (M : zM) (k : List zV → zM → Prop) : Prop := match i with
  | .getfield _ => match a, st with
    | [ci, f, kd], .inr (.inr (some (r, j, q))) :: t => (M.2.2.2.1 r j q).1 = ci + 1 ∧ k (zget M kd r j q f :: t) M
    | _, _ => False
  | .putfield _ => match a, st with
    | [ci, f, 0], .inl x :: .inr (.inr (some (r, j, q))) :: t => (M.2.2.2.1 r j q).1 = ci + 1 ∧ k t (zup4 M.1 r j q f x, M.2)
    | [ci, f, 3], .inl x :: .inr (.inr (some (r, j, q))) :: t => (M.2.2.2.1 r j q).1 = ci + 1 ∧ (x = 0 ∨ x = 1) ∧ k t (zup4 M.1 r j q f x, M.2)
    | [ci, f, 1], .inr (.inl x) :: .inr (.inr (some (r, j, q))) :: t => (M.2.2.2.1 r j q).1 = ci + 1 ∧ k t (M.1, zup4 M.2.1 r j q f x, M.2.2)
    | [ci, f, 2], .inr (.inr x) :: .inr (.inr (some (r, j, q))) :: t => (M.2.2.2.1 r j q).1 = ci + 1 ∧ k t (M.1, M.2.1, zup4 M.2.2.1 r j q f x, M.2.2.2)
    | _, _ => False
  | .iaload => match st with
    | .inl x :: .inr (.inr (some (r, j, q))) :: t => (M.2.2.2.1 r j q).1 = 20 ∧ vp_in x (M.2.2.2.1 r j q).2 ∧ k (zi (M.1 r j q x.toNatClampNeg) :: t) M
    | _ => False
  | .caload => match st with
    | .inl x :: .inr (.inr (some (r, j, q))) :: t => (M.2.2.2.1 r j q).1 = 22 ∧ vp_in x (M.2.2.2.1 r j q).2 ∧ k (zi (M.1 r j q x.toNatClampNeg) :: t) M
    | _ => False
  | .laload => match st with
    | .inl x :: .inr (.inr (some (r, j, q))) :: t => (M.2.2.2.1 r j q).1 = 21 ∧ vp_in x (M.2.2.2.1 r j q).2 ∧ k (zl (M.2.1 r j q x.toNatClampNeg) :: t) M
    | _ => False
  | .aaload => match st with
    | .inl x :: .inr (.inr (some (r, j, q))) :: t => 0 < zel (M.2.2.2.1 r j q).1 ∧ vp_in x (M.2.2.2.1 r j q).2 ∧ k (zr (M.2.2.1 r j q x.toNatClampNeg) :: t) M
    | _ => False
  | .iastore => match st with
    | .inl v :: .inl x :: .inr (.inr (some (r, j, q))) :: t => ¬ r = 9 ∧ (M.2.2.2.1 r j q).1 = 20 ∧ vp_in x (M.2.2.2.1 r j q).2 ∧ k t (zup4 M.1 r j q x.toNatClampNeg v, M.2)
    | _ => False
  | .castore => match st with
    | .inl v :: .inl x :: .inr (.inr (some (r, j, q))) :: t => (M.2.2.2.1 r j q).1 = 22 ∧ vp_in x (M.2.2.2.1 r j q).2 ∧ k t (zup4 M.1 r j q x.toNatClampNeg (vp_nar .char v), M.2)
    | _ => False
  | .lastore => match st with
    | .inr (.inl v) :: .inl x :: .inr (.inr (some (r, j, q))) :: t => (M.2.2.2.1 r j q).1 = 21 ∧ vp_in x (M.2.2.2.1 r j q).2 ∧ k t (M.1, zup4 M.2.1 r j q x.toNatClampNeg v, M.2.2)
    | _ => False
  | .aastore => match st with
    | .inr (.inr (some (r', j', q'))) :: .inl x :: .inr (.inr (some (r, j, q))) :: t => 0 < zel (M.2.2.2.1 r j q).1 ∧ (M.2.2.2.1 r' j' q').1 = zel (M.2.2.2.1 r j q).1 ∧ vp_in x (M.2.2.2.1 r j q).2 ∧ k t (M.1, M.2.1, zup4 M.2.2.1 r j q x.toNatClampNeg (some (r', j', q')), M.2.2.2)
    | _ => False
  | .arraylength => match st with
    | .inr (.inr (some (r, j, q))) :: t => 19 < (M.2.2.2.1 r j q).1 ∧ k (zi (Int32.ofNat (M.2.2.2.1 r j q).2) :: t) M
    | _ => False
  | .checkcast _ => match a, st with
    | [tag], .inr (.inr (some (r, j, q))) :: t => ¬ r = 9 ∧ (M.2.2.2.1 r j q).1 = tag ∧ k (zr (some (r, j, q)) :: t) M
    | _, _ => False
  | .idiv => match st with
    | .inl y :: .inl x :: t => ¬ y = 0 ∧ k (zi (x / y) :: t) M
    | _ => False
  | .irem => match st with
    | .inl y :: .inl x :: t => ¬ y = 0 ∧ k (zi (x - x / y * y) :: t) M
    | _ => False
  | .ldiv => match st with
    | .inr (.inl y) :: .inr (.inl x) :: t => ¬ y = 0 ∧ k (zl (x / y) :: t) M
    | _ => False
  | .lrem => match st with
    | .inr (.inl y) :: .inr (.inl x) :: t => ¬ y = 0 ∧ k (zl (x - x / y * y) :: t) M
    | _ => False
  | _ => False
/-- instructions that make a cell: budget of cells and slots -/
def zmk (al : Nat → zR) (i : Instr) (a : List Nat) (st : List zV) (M : zM) (c s : Nat) (k : Nat → Nat → List zV → zM → Prop) : Prop := match i with
  | .new _ => match a with
    | [ci, nf] => 1 ≤ c ∧ nf ≤ s ∧ k (c - 1) (s - nf) (zr (some (al M.2.2.2.2)) :: st) (znew al M (ci + 1) 0)
    | _ => False
  | .newarray ty => match st with
    | .inl x :: t => ¬ x < 0 ∧ x.toNatClampNeg ≤ 5000 ∧ 1 ≤ c ∧ x.toNatClampNeg ≤ s ∧ k (c - 1) (s - x.toNatClampNeg) (zr (some (al M.2.2.2.2)) :: t) (znew al M (zaty ty) x.toNatClampNeg)
    | _ => False
  | .anewarray _ => match a, st with
    | [tag], .inl x :: t => ¬ x < 0 ∧ x.toNatClampNeg ≤ 5000 ∧ 1 ≤ c ∧ x.toNatClampNeg ≤ s ∧ k (c - 1) (s - x.toNatClampNeg) (zr (some (al M.2.2.2.2)) :: t) (znew al M tag x.toNatClampNeg)
    | _, _ => False
  | _ => False
def zcln (al : Nat → zR) (t0 : Nat) (st : List zV) (M : zM) (c s : Nat) (k : Nat → Nat → List zV → zM → Prop) : Prop := match st with
  | .inr (.inr (some (r, j, q))) :: t => zcats t ≤ 8 ∧ ¬ r = 9 ∧ (M.2.2.2.1 r j q).1 = t0 ∧ 1 ≤ c ∧ (M.2.2.2.1 r j q).2 ≤ s ∧
      k (c - 1) (s - (M.2.2.2.1 r j q).2) (zr (some (al M.2.2.2.2)) :: t) (match al M.2.2.2.2 with
        | (r1, j1, q1) => (zup3 M.1 r1 j1 q1 (M.1 r j q), zup3 M.2.1 r1 j1 q1 (fun _ => 0), zup3 M.2.2.1 r1 j1 q1 (fun _ => none), zup3 M.2.2.2.1 r1 j1 q1 (t0, (M.2.2.2.1 r j q).2), M.2.2.2.2 + 1))
  | _ => False
/-- the machine's own methods: 5 arraycopy, 6 and 7 clone, 8 Object's constructor, 9 and 10 Math.max and min -/
def znat (al : Nat → zR) (mode : Nat) (st : List zV) (M : zM) (c s : Nat) (k : Nat → Nat → List zV → zM → Prop) : Prop := match mode with
  | 5 => match st with
    | .inl n :: .inl dp :: .inr (.inr (some (r, j, q))) :: .inl sp :: .inr (.inr (some (r', j', q'))) :: t => zcats t ≤ 8 ∧ ¬ r = 9 ∧ ¬ r' = 9 ∧ (M.2.2.2.1 r' j' q').1 = (M.2.2.2.1 r j q).1 ∧ ¬ sp < 0 ∧ ¬ dp < 0 ∧ ¬ n < 0 ∧ sp.toNatClampNeg + n.toNatClampNeg ≤ (M.2.2.2.1 r' j' q').2 ∧ dp.toNatClampNeg + n.toNatClampNeg ≤ (M.2.2.2.1 r j q).2 ∧
        (((M.2.2.2.1 r j q).1 = 20 ∨ (M.2.2.2.1 r j q).1 = 22) ∧ k c s t (zup3 M.1 r j q (va_cpy (M.1 r' j' q') (M.1 r j q) sp.toNatClampNeg dp.toNatClampNeg n.toNatClampNeg), M.2) ∨
         (M.2.2.2.1 r j q).1 = 21 ∧ k c s t (M.1, zup3 M.2.1 r j q (va_cpy (M.2.1 r' j' q') (M.2.1 r j q) sp.toNatClampNeg dp.toNatClampNeg n.toNatClampNeg), M.2.2))
    | _ => False
  | 6 => zcln al 20 st M c s k
  | 7 => zcln al 22 st M c s k
  | 8 => match st with
    | .inr (.inr (some _)) :: t => zcats t ≤ 8 ∧ k c s t M
    | _ => False
  | 9 => match st with
    | .inl y :: .inl x :: t => zcats t ≤ 8 ∧ k c s (zi (if x < y then y else x) :: t) M
    | _ => False
  | 10 => match st with
    | .inl y :: .inl x :: t => zcats t ≤ 8 ∧ k c s (zi (if y < x then y else x) :: t) M
    | _ => False
  | _ => False
/-- is the receiver there, and of that class? (a static method, a constructor: nothing is asked) -/
def zrec (mode cl : Nat) (args : List zV) (M : zM) : Prop := match mode with
  | 0 => match args with
    | .inr (.inr (some (r, j, q))) :: _ => (M.2.2.2.1 r j q).1 = cl + 1
    | _ => False
  | 1 => True
  | 3 => True
  | _ => match args with
    | .inr (.inr (some _)) :: _ => True
    | _ => False
def zcall (i : Instr) : Bool := match i with
  | .invokevirtual _ => true
  | .invokestatic _ => true
  | .invokespecial _ => true
  | _ => false
def zret (i : Instr) (a : List Nat) (st : List zV) (k : Option zV → Prop) : Prop := match i with
  | .ireturn => match a, st with
    | [0], [.inl x] => k (some (zi x))
    | [1], [.inl x] => (x = 0 ∨ x = 1) ∧ k (some (zi x))
    | [2], [.inl x] => vp_nar .char x = x ∧ k (some (zi x))
    | _, _ => False
  | .lreturn => match st with
    | [.inr (.inl x)] => k (some (zl x))
    | _ => False
  | .areturn => match st with
    | [.inr (.inr x)] => k (some (zr x))
    | _ => False
  | .return_ => match st with
    | [] => k none
    | _ => False
  | _ => False
def zbr (i : Instr) (pc len : Nat) (st : List zV) (k : Nat → List zV → Prop) : Prop := match i with
  | .goto off => k (zj pc off) st
  | .ifCond cd off => match st with
    | .inl x :: t => (zcz cd x → k (zj pc off) t) ∧ (¬ zcz cd x → k (pc + len) t)
    | _ => False
  | .if_icmp cd off => match st with
    | .inl y :: .inl x :: t => (zcc cd x y → k (zj pc off) t) ∧ (¬ zcc cd x y → k (pc + len) t)
    | _ => False
  | .tableswitch dflt lo hi offs => match st with
    | .inl x :: t => k (ztw pc dflt lo hi offs x) t
    | _ => False
  | _ => False
section
variable (F : Nat → Nat → Option zE) (al : Nat → zR)
def ev : Nat → Nat → Nat → Nat → Nat → Nat → List (Option zV) → List zV → zM → (Option zV → zM → Prop) → Prop
  | 0, _, _, _, _, _, _, _, _, _ => False
  | n + 1, d, c, s, mid, pc, ls, st, M, Q =>
    match F mid pc with
    | none => False
    | some (i, len, a, z) =>
      match zop i z st with
      | some st' => ev n d c s mid (pc + len) ls st' M Q
      | none =>
        match zld i with
        | some (k, kd) => match ls[k]? with
          | some (some v) => zkd v = kd ∧ ev n d c s mid (pc + len) ls (v :: st) M Q
          | _ => False
        | none =>
          match zsr i with
          | some (k, kd) => match st with
            | v :: t => zkd v = kd ∧ k + zcat v ≤ ls.length ∧ ev n d c s mid (pc + len) (zsto ls k v) t M Q
            | [] => False
          | none =>
            match i with
            | .iinc k y => match ls[k]? with
              | some (some (.inl x)) => ev n d c s mid (pc + len) (zsto ls k (zi (x + Int32.ofInt y))) st M Q
              | _ => False
            | i => match zcall i with
              | true => match d with
                | 0 => False
                | d + 1 => match a with
                  | [mode] => znat al mode st M c s (fun c s st M => ev n (d + 1) c s mid (pc + len) ls st M Q)
                  | [mode, mid', cl, na, nl, bc, bs] => bc ≤ c ∧ bs ≤ s ∧ na ≤ st.length ∧ zcats (st.drop na) ≤ 8 ∧ zrec mode cl (st.take na).reverse M ∧ (zent (st.take na).reverse).length ≤ nl ∧
                      ev n d bc bs mid' 0 (zpad (zent (st.take na).reverse) nl) [] M (fun r M' => ev n (d + 1) (c - bc) (s - bs) mid (pc + len) ls (zpush r (st.drop na)) M' Q)
                  | _ => False
              | false =>
                zmem i a st M (fun st M => ev n d c s mid (pc + len) ls st M Q) ∨ zmk al i a st M c s (fun c s st M => ev n d c s mid (pc + len) ls st M Q) ∨
                zbr i pc len st (fun pc st => ev n d c s mid pc ls st M Q) ∨ zret i a st (fun r => Q r M)
end
end
section
/-! each step has one way on: the transformer is that of a function -/
theorem zmem_pt {i : Instr} {a : List Nat} {st : List zV} {M : zM} {k : List zV → zM → Prop} (h : zmem i a st M k) : ∃ st' M', k st' M' ∧ ∀ k' : List zV → zM → Prop, k' st' M' → zmem i a st M k' := by
  unfold zmem at h
  split at h <;> (try (exact h.elim)) <;> split at h <;> first
    | exact h.elim
    | exact ⟨_, _, h, fun k' hk => hk⟩
    | exact ⟨_, _, h.2, fun k' hk => ⟨h.1, hk⟩⟩
    | exact ⟨_, _, h.2.2, fun k' hk => ⟨h.1, h.2.1, hk⟩⟩
    | exact ⟨_, _, h.2.2.2, fun k' hk => ⟨h.1, h.2.1, h.2.2.1, hk⟩⟩
theorem zmk_pt {al : Nat → zR} {i : Instr} {a : List Nat} {st : List zV} {M : zM} {c s : Nat} {k : Nat → Nat → List zV → zM → Prop} (h : zmk al i a st M c s k) : ∃ c' s' st' M', k c' s' st' M' ∧ ∀ k' : Nat → Nat → List zV → zM → Prop, k' c' s' st' M' → zmk al i a st M c s k' := by
  unfold zmk at h
  split at h <;> (try (exact h.elim)) <;> split at h <;> first
    | exact h.elim
    | exact ⟨_, _, _, _, h.2.2, fun k' hk => ⟨h.1, h.2.1, hk⟩⟩
    | exact ⟨_, _, _, _, h.2.2.2.2, fun k' hk => ⟨h.1, h.2.1, h.2.2.1, h.2.2.2.1, hk⟩⟩
theorem zcln_pt {al : Nat → zR} {t0 : Nat} {st : List zV} {M : zM} {c s : Nat} {k : Nat → Nat → List zV → zM → Prop} (h : zcln al t0 st M c s k) : ∃ c' s' st' M', k c' s' st' M' ∧ ∀ k' : Nat → Nat → List zV → zM → Prop, k' c' s' st' M' → zcln al t0 st M c s k' := by
  unfold zcln at h
  split at h
  · obtain ⟨h1, h2, h3, h4, h5, h6⟩ := h
    exact ⟨_, _, _, _, h6, fun k' hk => ⟨h1, h2, h3, h4, h5, hk⟩⟩
  · exact h.elim
theorem znat_pt {al : Nat → zR} {mode : Nat} {st : List zV} {M : zM} {c s : Nat} {k : Nat → Nat → List zV → zM → Prop} (h : znat al mode st M c s k) : ∃ c' s' st' M', k c' s' st' M' ∧ ∀ k' : Nat → Nat → List zV → zM → Prop, k' c' s' st' M' → znat al mode st M c s k' := by
  unfold znat at h
  split at h
  · split at h
    · obtain ⟨h1, h2, h3, h4, h5, h6, h7, h8, h9, h10⟩ := h
      rcases h10 with ⟨g1, g2⟩ | ⟨g1, g2⟩
      · exact ⟨_, _, _, _, g2, fun k' hk => ⟨h1, h2, h3, h4, h5, h6, h7, h8, h9, Or.inl ⟨g1, hk⟩⟩⟩
      · exact ⟨_, _, _, _, g2, fun k' hk => ⟨h1, h2, h3, h4, h5, h6, h7, h8, h9, Or.inr ⟨g1, hk⟩⟩⟩
    · exact h.elim
  · exact zcln_pt h
  · exact zcln_pt h
  · split at h
    · exact ⟨_, _, _, _, h.2, fun k' hk => ⟨h.1, hk⟩⟩
    · exact h.elim
  · split at h
    · exact ⟨_, _, _, _, h.2, fun k' hk => ⟨h.1, hk⟩⟩
    · exact h.elim
  · split at h
    · exact ⟨_, _, _, _, h.2, fun k' hk => ⟨h.1, hk⟩⟩
    · exact h.elim
  · exact h.elim
theorem zbr_pt {i : Instr} {pc len : Nat} {st : List zV} {k : Nat → List zV → Prop} (h : zbr i pc len st k) : ∃ pc' st', k pc' st' ∧ ∀ k' : Nat → List zV → Prop, k' pc' st' → zbr i pc len st k' := by
  unfold zbr at h
  split at h <;> (try (exact h.elim))
  · exact ⟨_, _, h, fun k' hk => hk⟩
  · split at h
    · rename_i x t
      by_cases hc : zcz ‹ClassFile.Cond› x
      · exact ⟨_, _, h.1 hc, fun k' hk => ⟨fun _ => hk, fun g => absurd hc g⟩⟩
      · exact ⟨_, _, h.2 hc, fun k' hk => ⟨fun g => absurd g hc, fun _ => hk⟩⟩
    · exact h.elim
  · split at h
    · rename_i y x t
      by_cases hc : zcc ‹ClassFile.Cond› x y
      · exact ⟨_, _, h.1 hc, fun k' hk => ⟨fun _ => hk, fun g => absurd hc g⟩⟩
      · exact ⟨_, _, h.2 hc, fun k' hk => ⟨fun g => absurd g hc, fun _ => hk⟩⟩
    · exact h.elim
  · split at h
    · exact ⟨_, _, h, fun k' hk => hk⟩
    · exact h.elim
theorem zret_pt {i : Instr} {a : List Nat} {st : List zV} {k : Option zV → Prop} (h : zret i a st k) : ∃ r, k r ∧ ∀ k' : Option zV → Prop, k' r → zret i a st k' := by
  unfold zret at h
  split at h <;> (try (exact h.elim)) <;> split at h <;> first
    | exact h.elim
    | exact ⟨_, h, fun k' hk => hk⟩
    | exact ⟨_, h.2, fun k' hk => ⟨h.1, hk⟩⟩
section
variable {F : Nat → Nat → Option zE} {al : Nat → zR}
theorem ev_pt : ∀ {n d c s mid pc : Nat} {ls : List (Option zV)} {st : List zV} {M : zM} {Q : Option zV → zM → Prop}, ev F al n d c s mid pc ls st M Q → ∃ r M', Q r M' ∧ ∀ Q' : Option zV → zM → Prop, Q' r M' → ev F al n d c s mid pc ls st M Q' := by
  intro n
  induction n with
  | zero => intro d c s mid pc ls st M Q h; exact h.elim
  | succ n ih =>
    intro d c s mid pc ls st M Q h
    simp only [ev] at h ⊢
    split at h
    · exact h.elim
    · rename_i i len a z hF
      split at h
      · exact ih h
      · split at h
        · split at h
          · obtain ⟨r, M', h1, h2⟩ := ih h.2
            exact ⟨r, M', h1, fun Q' hQ => ⟨h.1, h2 Q' hQ⟩⟩
          · exact h.elim
        · split at h
          · split at h
            · obtain ⟨r, M', h1, h2⟩ := ih h.2.2
              exact ⟨r, M', h1, fun Q' hQ => ⟨h.1, h.2.1, h2 Q' hQ⟩⟩
            · exact h.elim
          · split at h
            · split at h
              · exact ih h
              · exact h.elim
            · split at h
              · split at h
                · exact h.elim
                · split at h
                  · obtain ⟨c', s', st', M', h1, h2⟩ := znat_pt h
                    obtain ⟨r, M2, h3, h4⟩ := ih h1
                    exact ⟨r, M2, h3, fun Q' hQ => h2 (fun c s st M => ev F al n _ c s mid (pc + len) ls st M Q') (h4 Q' hQ)⟩
                  · obtain ⟨g1, g2, g3, g4, g5, g7, g6⟩ := h
                    obtain ⟨r1, M1, h1, h2⟩ := ih g6
                    obtain ⟨r, M2, h3, h4⟩ := ih h1
                    exact ⟨r, M2, h3, fun Q' hQ => ⟨g1, g2, g3, g4, g5, g7, h2 _ (h4 Q' hQ)⟩⟩
                  · exact h.elim
              · rcases h with h | h | h | h
                · obtain ⟨st', M', h1, h2⟩ := zmem_pt h
                  obtain ⟨r, M2, h3, h4⟩ := ih h1
                  exact ⟨r, M2, h3, fun Q' hQ => Or.inl (h2 (fun st M => ev F al n d c s mid (pc + len) ls st M Q') (h4 Q' hQ))⟩
                · obtain ⟨c', s', st', M', h1, h2⟩ := zmk_pt h
                  obtain ⟨r, M2, h3, h4⟩ := ih h1
                  exact ⟨r, M2, h3, fun Q' hQ => Or.inr (Or.inl (h2 (fun c s st M => ev F al n d c s mid (pc + len) ls st M Q') (h4 Q' hQ)))⟩
                · obtain ⟨pc', st', h1, h2⟩ := zbr_pt h
                  obtain ⟨r, M2, h3, h4⟩ := ih h1
                  exact ⟨r, M2, h3, fun Q' hQ => Or.inr (Or.inr (Or.inl (h2 (fun pc st => ev F al n d c s mid pc ls st M Q') (h4 Q' hQ))))⟩
                · obtain ⟨r, h1, h2⟩ := zret_pt h
                  exact ⟨r, M, h1, fun Q' hQ => Or.inr (Or.inr (Or.inr (h2 (fun r => Q' r M) hQ)))⟩
theorem ev_q {n d c s mid pc : Nat} {ls : List (Option zV)} {st : List zV} {M : zM} {Q Q' : Option zV → zM → Prop} (h : ev F al n d c s mid pc ls st M Q) (hQ : ∀ r M, Q r M → Q' r M) : ev F al n d c s mid pc ls st M Q' := by
  obtain ⟨r, M', h1, h2⟩ := ev_pt h
  exact h2 Q' (hQ _ _ h1)
theorem ev_s : ∀ {n d c s mid pc : Nat} {ls : List (Option zV)} {st : List zV} {M : zM} {Q : Option zV → zM → Prop}, ev F al n d c s mid pc ls st M Q → ev F al (n + 1) d c s mid pc ls st M Q := by
  intro n
  induction n with
  | zero => intro d c s mid pc ls st M Q h; exact h.elim
  | succ n ih =>
    intro d c s mid pc ls st M Q h
    rw [ev] at h ⊢
    split at h
    · exact h.elim
    · rename_i i len a z hF
      split at h
      · exact ih h
      · split at h
        · split at h
          · exact ⟨h.1, ih h.2⟩
          · exact h.elim
        · split at h
          · split at h
            · exact ⟨h.1, h.2.1, ih h.2.2⟩
            · exact h.elim
          · split at h
            · split at h
              · exact ih h
              · exact h.elim
            · split at h
              · split at h
                · exact h.elim
                · split at h
                  · obtain ⟨c', s', st', M', h1, h2⟩ := znat_pt h
                    exact h2 (fun c s st M => ev F al (n + 1) _ c s mid (pc + len) ls st M Q) (ih h1)
                  · obtain ⟨g1, g2, g3, g4, g5, g7, g6⟩ := h
                    exact ⟨g1, g2, g3, g4, g5, g7, ev_q (ih g6) (fun r M' h => ih h)⟩
                  · exact h.elim
              · rcases h with h | h | h | h
                · obtain ⟨st', M', h1, h2⟩ := zmem_pt h
                  exact Or.inl (h2 (fun st M => ev F al (n + 1) d c s mid (pc + len) ls st M Q) (ih h1))
                · obtain ⟨c', s', st', M', h1, h2⟩ := zmk_pt h
                  exact Or.inr (Or.inl (h2 (fun c s st M => ev F al (n + 1) d c s mid (pc + len) ls st M Q) (ih h1)))
                · obtain ⟨pc', st', h1, h2⟩ := zbr_pt h
                  exact Or.inr (Or.inr (Or.inl (h2 (fun pc st => ev F al (n + 1) d c s mid pc ls st M Q) (ih h1))))
                · exact Or.inr (Or.inr (Or.inr h))
theorem ev_le {n m d c s mid pc : Nat} {ls : List (Option zV)} {st : List zV} {M : zM} {Q : Option zV → zM → Prop} (h : ev F al n d c s mid pc ls st M Q) (hm : n ≤ m) : ev F al m d c s mid pc ls st M Q := by
  induction hm with
  | refl => exact h
  | step _ ih => exact ev_s ih
end
end
section
/-! the interpreter's memory beside the machine's heap -/
def zcv (ρ : zR → Nat) (v : zV) : Value := match v with
  | .inl x => .int x
  | .inr (.inl x) => .long x
  | .inr (.inr none) => .null
  | .inr (.inr (some r)) => .ref (ρ r)
theorem zcv_cat (ρ : zR → Nat) (v : zV) : (zcv ρ v).category = zcat v := by
  rcases v with x | x | _ | r <;> rfl
theorem zcv_cats (ρ : zR → Nat) (st : List zV) : ((st.map (zcv ρ)).map fun v => v.category).sum = zcats st := by
  unfold zcats
  rw [List.map_map]
  congr 1
  apply List.map_congr_left
  intro v _
  exact zcv_cat ρ v
/-- the kind of a field or of an array's places: 0 whole numbers, 1 long ones, 2 references, 3 truth values -/
def zkf (ty : FieldType) : Nat := match ty with
  | .int => 0
  | .long => 1
  | .object _ => 2
  | .array _ => 2
  | .boolean => 3
  | _ => 9
def zcl (ci : Nat) : vw_C := vwCl.getD ci (RX0, TX0, 2)
def zty (ci : Nat) : Nat → FieldType := match ci with
  | 0 => tyX0
  | 1 => tyX1
  | 2 => tyX2
  | 3 => tyX3
  | 4 => tyX4
  | 5 => tyX5
  | 6 => tyX6
  | 7 => tyX7
  | 8 => tyX8
  | 9 => tyX9
  | _ => tyX10
def zaf (tag : Nat) : FieldType := match tag with
  | 20 => .int
  | 21 => .long
  | 22 => .char
  | 23 => .object RX4
  | 24 => .object RX8
  | 25 => .object RX6
  | 26 => .object RX5
  | _ => .int
def zak (tag : Nat) : Nat := match tag with
  | 21 => 1
  | 23 => 2
  | 24 => 2
  | 25 => 2
  | 26 => 2
  | _ => 0
def zrho (b base : Nat) (ix : zR → Nat) (r : zR) : Nat := if r.1 = 9 then b else base + ix r
def zobj (ρ : zR → Nat) (D : va_G) (M : zM) (H : Heap) (r j q ci : Nat) : Prop := t_OB (ρ (r, j, q)) (D.1 ci) (zcl ci).2.2 (D.2 ci) H (fun k => zcv ρ (zget M (zkf (zty ci k)) r j q k))
def zarr (ρ : zR → Nat) (U : State) (M : zM) (H : Heap) (r j q : Nat) : Prop := ∃ cA : ClassId, H[ρ (r, j, q)]? = some (arrV cA (M.2.2.2.1 r j q).2 (fun i => zcv ρ (zget M (zak (M.2.2.2.1 r j q).1) r j q i))) ∧ ArrOfT U cA (zaf (M.2.2.2.1 r j q).1) ∧ va_RA U cA (zaf (M.2.2.2.1 r j q).1) ∧ ((M.2.2.2.1 r j q).1 = 22 → ∀ i, fits .char (.int (M.1 r j q i)) = true)
def zRel (b base : Nat) (ix : zR → Nat) (al : Nat → zR) (D : va_G) (U : State) (M : zM) (H : Heap) : Prop :=
  (H.size = base + M.2.2.2.2 ∧ b < base ∧ (∀ n, ix (al n) = n) ∧ (∀ n, (al n).1 ≠ 9)) ∧
  (∀ r j q, (M.2.2.2.1 r j q).1 ≠ 0 → r ≠ 9 → ix (r, j, q) < M.2.2.2.2 ∧ al (ix (r, j, q)) = (r, j, q)) ∧
  (∀ r j q ci, (M.2.2.2.1 r j q).1 = ci + 1 → ci < 11 → r ≠ 9 ∧ zobj (zrho b base ix) D M H r j q ci) ∧
  (∀ r j q, 19 < (M.2.2.2.1 r j q).1 → r ≠ 9 → zarr (zrho b base ix) U M H r j q) ∧
  (∀ j q, (M.2.2.2.1 9 j q).1 ≠ 0 → (M.2.2.2.1 9 j q).1 = 20 ∧ va_X b (M.2.2.2.1 9 j q).2 (M.1 9 j q) U H)
section
variable {b base : Nat} {ix : zR → Nat} {al : Nat → zR} {D : va_G} {U : State} {M M' : zM} {H H' : Heap}
theorem zrho_ne9 {r : zR} (h : r.1 ≠ 9) : zrho b base ix r = base + ix r := by
  unfold zrho
  rw [if_neg h]
theorem zRel.moved {U' : State} (h : zRel b base ix al D U M H) (hvm : U.vm.Alike U'.vm) : zRel b base ix al D U' M H := by
  obtain ⟨h1, h2, h3, h4, h5⟩ := h
  refine ⟨h1, h2, h3, fun r j q ht h9 => ?_, fun j q ht => ?_⟩
  · obtain ⟨cA, g1, g2, g3, g4⟩ := h4 r j q ht h9
    exact ⟨cA, g1, arrOfT_moved hvm g2, g3.moved hvm, g4⟩
  · obtain ⟨g1, scr, e1, e2, e3, e4, e5⟩ := h5 j q ht
    exact ⟨g1, scr, e1, State.isArrayOf_alike hvm e2, e3, e4, e5⟩
theorem zRel.inj (h : zRel b base ix al D U M H) {r j q r' j' q' : Nat} (h1 : (M.2.2.2.1 r j q).1 ≠ 0) (h2 : r ≠ 9) (h3 : (M.2.2.2.1 r' j' q').1 ≠ 0) (h4 : r' ≠ 9) (he : zrho b base ix (r, j, q) = zrho b base ix (r', j', q')) : (r, j, q) = (r', j', q') := by
  rw [zrho_ne9 h2, zrho_ne9 h4] at he
  have e : ix (r, j, q) = ix (r', j', q') := by omega
  have g1 := (h.2.1 r j q h1 h2).2
  have g2 := (h.2.1 r' j' q' h3 h4).2
  rw [← g1, ← g2, e]
/-- memory that agrees away from one cell -/
def zsame (M M' : zM) (r j q : Nat) : Prop := M'.2.2.2 = M.2.2.2 ∧ ∀ r' j' q', (r', j', q') ≠ (r, j, q) → ∀ kd i, zget M' kd r' j' q' i = zget M kd r' j' q' i
theorem zget0 (M : zM) (r j q i : Nat) : zget M 0 r j q i = zi (M.1 r j q i) := rfl
theorem zobj.keep {ρ : zR → Nat} {r j q ci : Nat} (h : zobj ρ D M H r j q ci) (he : ∀ kd i, zget M' kd r j q i = zget M kd r j q i) (hH : H'[ρ (r, j, q)]? = H[ρ (r, j, q)]?) : zobj ρ D M' H' r j q ci := by
  unfold zobj at h ⊢
  simp only [he]
  exact h.kept hH
theorem zarr.keep {ρ : zR → Nat} {r j q : Nat} (h : zarr ρ U M H r j q) (hS : M'.2.2.2.1 r j q = M.2.2.2.1 r j q) (he : ∀ kd i, zget M' kd r j q i = zget M kd r j q i) (hH : H'[ρ (r, j, q)]? = H[ρ (r, j, q)]?) : zarr ρ U M' H' r j q := by
  obtain ⟨cA, g1, g2, g3, g4⟩ := h
  refine ⟨cA, ?_, ?_, ?_, ?_⟩
  · rw [hS, hH]
    simp only [he]
    exact g1
  · rw [hS]; exact g2
  · rw [hS]; exact g3
  · rw [hS]
    intro ht i
    have e := he 0 i
    simp only [zget0] at e
    rw [Sum.inl.inj e]
    exact g4 ht i
theorem zRel.set (h : zRel b base ix al D U M H) {r j q : Nat} (hr : r ≠ 9) (ha : (M.2.2.2.1 r j q).1 ≠ 0) (hz : H'.size = H.size) (ho : ∀ a, a ≠ zrho b base ix (r, j, q) → H'[a]? = H[a]?) (hM : zsame M M' r j q)
    (hob : ∀ ci, (M.2.2.2.1 r j q).1 = ci + 1 → ci < 11 → zobj (zrho b base ix) D M' H' r j q ci) (har : 19 < (M.2.2.2.1 r j q).1 → zarr (zrho b base ix) U M' H' r j q) : zRel b base ix al D U M' H' := by
  obtain ⟨e4, em⟩ := hM
  obtain ⟨⟨h1, h1b, h1c, h1d⟩, h2, h3, h4, h5⟩ := id h
  have hb : b ≠ zrho b base ix (r, j, q) := by
    rw [zrho_ne9 hr]; omega
  refine ⟨⟨by rw [hz, e4]; exact h1, h1b, h1c, h1d⟩, by rw [e4]; exact h2, ?_, ?_, ?_⟩
  · intro r' j' q' ci ht hc
    rw [e4] at ht
    by_cases hq : (r', j', q') = (r, j, q)
    · cases hq
      exact ⟨hr, hob ci ht hc⟩
    · obtain ⟨g1, g2⟩ := h3 r' j' q' ci ht hc
      refine ⟨g1, g2.keep (em r' j' q' hq) (ho _ fun he => hq ?_)⟩
      exact h.inj (by rw [ht]; omega) g1 ha hr he
  · intro r' j' q' ht h9
    rw [e4] at ht
    by_cases hq : (r', j', q') = (r, j, q)
    · cases hq
      exact har ht
    · refine (h4 r' j' q' ht h9).keep (by rw [e4]) (em r' j' q' hq) (ho _ fun he => hq ?_)
      exact h.inj (by omega) h9 ha hr he
  · intro j' q' ht
    rw [e4] at ht ⊢
    obtain ⟨g1, scr, e1, e2, e3, e5, e6⟩ := h5 j' q' ht
    refine ⟨g1, scr, by rw [ho b hb]; exact e1, e2, e3, e5, fun i hi => ?_⟩
    have e := em 9 j' q' (by intro hq; cases hq; exact hr rfl) 0 i
    simp only [zget0] at e
    rw [Sum.inl.inj e]
    exact e6 i hi
theorem zup_s {α : Type} (f : Nat → α) (k : Nat) (v : α) : zup f k v k = v := by simp [zup]
theorem zup_n {α : Type} (f : Nat → α) {k i : Nat} (v : α) (h : i ≠ k) : zup f k v i = f i := by simp [zup, h]
theorem zup3_s {α : Type} (f : Nat → Nat → Nat → α) (r j q : Nat) (v : α) : zup3 f r j q v r j q = v := by simp [zup3, zup]
theorem zup3_n {α : Type} (f : Nat → Nat → Nat → α) {r j q r' j' q' : Nat} (v : α) (h : (r', j', q') ≠ (r, j, q)) : zup3 f r j q v r' j' q' = f r' j' q' := by
  unfold zup3
  by_cases h1 : r' = r
  · subst h1
    rw [zup_s]
    by_cases h2 : j' = j
    · subst h2
      rw [zup_s]
      exact zup_n _ _ (fun h3 => h (by rw [h3]))
    · rw [zup_n _ _ h2]
  · rw [zup_n _ _ h1]
theorem zup4_s {α : Type} (f : Nat → Nat → Nat → Nat → α) (r j q i : Nat) (v : α) (i' : Nat) : zup4 f r j q i v r j q i' = if i' = i then v else f r j q i' := by
  unfold zup4
  rw [zup3_s]
  rfl
theorem zup4_n {α : Type} (f : Nat → Nat → Nat → Nat → α) {r j q i r' j' q' : Nat} (v : α) (h : (r', j', q') ≠ (r, j, q)) : zup4 f r j q i v r' j' q' = f r' j' q' := by
  unfold zup4
  exact zup3_n _ _ h
theorem zget_I (I' : zI) (M : zM) {r j q : Nat} (h : I' r j q = M.1 r j q) (kd i : Nat) : zget (I', M.2) kd r j q i = zget M kd r j q i := by
  unfold zget
  split <;> first | rfl | (rw [show ((I', M.2) : zM).1 = I' from rfl, h])
theorem zget_L (L' : zL) (M : zM) {r j q : Nat} (h : L' r j q = M.2.1 r j q) (kd i : Nat) : zget (M.1, L', M.2.2) kd r j q i = zget M kd r j q i := by
  unfold zget
  split <;> first | rfl | (rw [show ((M.1, L', M.2.2) : zM).2.1 = L' from rfl, h])
theorem zget_P (P' : zP) (M : zM) {r j q : Nat} (h : P' r j q = M.2.2.1 r j q) (kd i : Nat) : zget (M.1, M.2.1, P', M.2.2.2) kd r j q i = zget M kd r j q i := by
  unfold zget
  split <;> first | rfl | (rw [show ((M.1, M.2.1, P', M.2.2.2) : zM).2.2.1 = P' from rfl, h])
theorem zsame_I {I' : zI} {r j q : Nat} (h : ∀ r' j' q', (r', j', q') ≠ (r, j, q) → I' r' j' q' = M.1 r' j' q') : zsame M (I', M.2) r j q := ⟨rfl, fun r' j' q' hq kd i => zget_I I' M (h r' j' q' hq) kd i⟩
theorem zsame_L {L' : zL} {r j q : Nat} (h : ∀ r' j' q', (r', j', q') ≠ (r, j, q) → L' r' j' q' = M.2.1 r' j' q') : zsame M (M.1, L', M.2.2) r j q := ⟨rfl, fun r' j' q' hq kd i => zget_L L' M (h r' j' q' hq) kd i⟩
theorem zsame_P {P' : zP} {r j q : Nat} (h : ∀ r' j' q', (r', j', q') ≠ (r, j, q) → P' r' j' q' = M.2.2.1 r' j' q') : zsame M (M.1, M.2.1, P', M.2.2.2) r j q := ⟨rfl, fun r' j' q' hq kd i => zget_P P' M (h r' j' q' hq) kd i⟩
/-- a new cell -/
theorem zRel.push (h : zRel b base ix al D U M H) {tag len : Nat} (hz : H'.size = H.size + 1) (ho : ∀ a, a < H.size → H'[a]? = H[a]?) (ht : tag ≠ 0) (hS : M'.2.2.2 = (zup3 M.2.2.2.1 (al M.2.2.2.2).1 (al M.2.2.2.2).2.1 (al M.2.2.2.2).2.2 (tag, len), M.2.2.2.2 + 1))
    (hM : ∀ r' j' q', (r', j', q') ≠ al M.2.2.2.2 → ∀ kd i, zget M' kd r' j' q' i = zget M kd r' j' q' i)
    (hob : ∀ ci, tag = ci + 1 → ci < 11 → zobj (zrho b base ix) D M' H' (al M.2.2.2.2).1 (al M.2.2.2.2).2.1 (al M.2.2.2.2).2.2 ci) (har : 19 < tag → zarr (zrho b base ix) U M' H' (al M.2.2.2.2).1 (al M.2.2.2.2).2.1 (al M.2.2.2.2).2.2) :
    zRel b base ix al D U M' H' ∧ zrho b base ix (al M.2.2.2.2) = H.size := by
  obtain ⟨⟨h1, h1b, h1c, h1d⟩, h2, h3, h4, h5⟩ := h
  have hal : al M.2.2.2.2 = ((al M.2.2.2.2).1, (al M.2.2.2.2).2.1, (al M.2.2.2.2).2.2) := rfl
  have hne : ∀ r j q, (r, j, q) ≠ al M.2.2.2.2 → M'.2.2.2.1 r j q = M.2.2.2.1 r j q := fun r j q hq => by rw [hS]; exact zup3_n _ _ (by rw [← hal]; exact hq)
  have hsf : M'.2.2.2.1 (al M.2.2.2.2).1 (al M.2.2.2.2).2.1 (al M.2.2.2.2).2.2 = (tag, len) := by rw [hS]; exact zup3_s _ _ _ _ _
  have htop : M'.2.2.2.2 = M.2.2.2.2 + 1 := by rw [hS]
  have hlt : ∀ r j q, (M.2.2.2.1 r j q).1 ≠ 0 → r ≠ 9 → zrho b base ix (r, j, q) < H.size := fun r j q g1 g2 => by
    have := (h2 r j q g1 g2).1
    rw [zrho_ne9 g2, h1]; omega
  refine ⟨⟨⟨by rw [hz, h1, htop]; omega, h1b, h1c, h1d⟩, ?_, ?_, ?_, ?_⟩, ?_⟩
  · intro r j q ha h9
    by_cases hq : (r, j, q) = al M.2.2.2.2
    · rw [hq, h1c, htop]
      exact ⟨by omega, rfl⟩
    · rw [hne r j q hq] at ha
      have := h2 r j q ha h9
      rw [htop]
      exact ⟨by omega, this.2⟩
  · intro r j q ci ha hc
    by_cases hq : (r, j, q) = al M.2.2.2.2
    · rw [← hq] at hsf hob
      rw [hsf] at ha
      refine ⟨?_, hob ci ha hc⟩
      have := h1d M.2.2.2.2
      rw [← hq] at this
      exact this
    · rw [hne r j q hq] at ha
      obtain ⟨g1, g2⟩ := h3 r j q ci ha hc
      exact ⟨g1, g2.keep (hM r j q hq) (ho _ (hlt r j q (by rw [ha]; omega) g1))⟩
  · intro r j q ha h9
    by_cases hq : (r, j, q) = al M.2.2.2.2
    · rw [← hq] at hsf har
      rw [hsf] at ha
      exact har ha
    · have e := hne r j q hq
      rw [e] at ha
      exact (h4 r j q ha h9).keep e (hM r j q hq) (ho _ (hlt r j q (by omega) h9))
  · intro j q ha
    have hq : ((9 : Nat), j, q) ≠ al M.2.2.2.2 := fun hq => h1d M.2.2.2.2 (by rw [← hq])
    have e := hne 9 j q hq
    rw [e] at ha ⊢
    obtain ⟨g1, scr, e1, e2, e3, e5, e6⟩ := h5 j q ha
    refine ⟨g1, scr, by rw [ho b (by omega)]; exact e1, e2, e3, e5, fun i hi => ?_⟩
    have e := hM 9 j q hq 0 i
    simp only [zget0] at e
    rw [Sum.inl.inj e]
    exact e6 i hi
  · rw [zrho_ne9 (h1d _), h1c, h1]
end
end
section
/-! one row a group of instructions: from the interpreter's step to the machine's -/
def zlen (i : Instr) : Nat := match i with
  | .aload _ => 2
  | .astore _ => 2
  | .bipush _ => 2
  | .iload _ => 2
  | .istore _ => 2
  | .lload _ => 2
  | .lstore _ => 2
  | .ldc _ => 2
  | .newarray _ => 2
  | .sipush _ => 3
  | .iinc _ _ => 3
  | .ldc_w _ => 3
  | .ldc2_w _ => 3
  | .getfield _ => 3
  | .putfield _ => 3
  | .goto _ => 3
  | .ifCond _ _ => 3
  | .if_icmp _ _ => 3
  | .invokevirtual _ => 3
  | .invokestatic _ => 3
  | .invokespecial _ => 3
  | .new _ => 3
  | .anewarray _ => 3
  | .checkcast _ => 3
  | _ => 1
def zconst (own : String) (i : Instr) (z : Int) (Ts : List Jvm.Cond) : Prop := match i with
  | .ldc idx => Jvm.Cond.constant own idx (Int32.ofInt z) ∈ Ts
  | .ldc_w idx => Jvm.Cond.constant own idx (Int32.ofInt z) ∈ Ts
  | .ldc2_w idx => Jvm.Cond.constantLong own idx (Int64.ofInt z) ∈ Ts
  | _ => True
theorem zop2_some {f : Int32 → Int32 → Int32} {st st' : List zV} (h : zop2 f st = some st') : ∃ y x r, st = zi y :: zi x :: r ∧ st' = zi (f x y) :: r := by
  unfold zop2 at h
  split at h
  · exact ⟨_, _, _, rfl, (Option.some.inj h).symm⟩
  · cases h
theorem zop2l_some {f : Int64 → Int64 → Int64} {st st' : List zV} (h : zop2l f st = some st') : ∃ y x r, st = zl y :: zl x :: r ∧ st' = zl (f x y) :: r := by
  unfold zop2l at h
  split at h
  · exact ⟨_, _, _, rfl, (Option.some.inj h).symm⟩
  · cases h
theorem zopsl_some {f : Int64 → Int32 → Int64} {st st' : List zV} (h : zopsl f st = some st') : ∃ y x r, st = zi y :: zl x :: r ∧ st' = zl (f x y) :: r := by
  unfold zopsl at h
  split at h
  · exact ⟨_, _, _, rfl, (Option.some.inj h).symm⟩
  · cases h
theorem zop1_some {f : Int32 → zV} {st st' : List zV} (h : zop1 f st = some st') : ∃ x r, st = zi x :: r ∧ st' = f x :: r := by
  unfold zop1 at h
  split at h
  · exact ⟨_, _, rfl, (Option.some.inj h).symm⟩
  · cases h
def zlr (ρ : zR → Nat) (ls : List (Option zV)) (rls : Array Slot) (nL : Nat) : Prop := ls.length = nL ∧ ∃ l, lv_has rls nL l ∧ ∀ k v, ls[k]? = some (some v) → (k, zcv ρ v) ∈ l
theorem zlr.get {ρ : zR → Nat} {ls : List (Option zV)} {rls : Array Slot} {nL k : Nat} {v : zV} (h : zlr ρ ls rls nL) (hk : ls[k]? = some (some v)) : rls[k]? = some (.val (zcv ρ v)) := by
  obtain ⟨-, l, h1, h2⟩ := h
  exact h1.2.2 _ (h2 k v hk)
theorem zlr.sz {ρ : zR → Nat} {ls : List (Option zV)} {rls : Array Slot} {nL : Nat} (h : zlr ρ ls rls nL) : rls.size = nL := by
  obtain ⟨-, l, h1, h2⟩ := h
  exact h1.1
theorem zkill_get {ls : List (Option zV)} {k k' : Nat} {v' : zV} (h : (zkill ls k)[k']? = some (some v')) : ls[k']? = some (some v') ∧ ¬ (k' + 1 = k ∧ zcat v' = 2) := by
  unfold zkill at h
  split at h
  · exact ⟨h, fun g => by omega⟩
  · rename_i k0
    split at h
    · rename_i x hx
      rw [List.getElem?_set] at h
      split at h
      · split at h <;> simp at h
      · exact ⟨h, fun g => by omega⟩
    · rename_i hx
      refine ⟨h, fun g => ?_⟩
      obtain ⟨g1, g2⟩ := g
      have e : k' = k0 := by omega
      subst e
      rcases v' with x | x | x <;> simp [zcat] at g2
      exact hx _ h
theorem zkill_len (ls : List (Option zV)) (k : Nat) : (zkill ls k).length = ls.length := by
  unfold zkill
  split
  · rfl
  · split
    · simp
    · rfl
theorem zsto_len (ls : List (Option zV)) (k : Nat) (v : zV) : (zsto ls k v).length = ls.length := by
  rcases v with x | x | x <;> simp [zsto, zkill_len]
theorem zset_get {ls : List (Option zV)} {k k' : Nat} {v v' : zV} (h : ((zkill ls k).set k (some v))[k']? = some (some v')) : (k' = k ∧ v' = v) ∨ (k' ≠ k ∧ ls[k']? = some (some v') ∧ ¬ (k' + 1 = k ∧ zcat v' = 2)) := by
  rw [List.getElem?_set] at h
  split at h
  · rename_i hk
    split at h
    · simp at h
      exact Or.inl ⟨hk.symm, h.symm⟩
    · simp at h
  · rename_i hk
    exact Or.inr ⟨fun e => hk e.symm, zkill_get h⟩
theorem zsto1_get {ls : List (Option zV)} {k k' : Nat} {v v' : zV} (hv : zcat v = 1) (h : (zsto ls k v)[k']? = some (some v')) : (k' = k ∧ v' = v) ∨ (k' ≠ k ∧ ls[k']? = some (some v') ∧ ¬ (k' + 1 = k ∧ zcat v' = 2)) := by
  rcases v with x | x | x
  · exact zset_get h
  · simp [zcat] at hv
  · exact zset_get h
theorem zsto2_get {ls : List (Option zV)} {k k' : Nat} {x : Int64} {v' : zV} (h : (zsto ls k (zl x))[k']? = some (some v')) : (k' = k ∧ v' = zl x) ∨ (k' ≠ k ∧ k' ≠ k + 1 ∧ ls[k']? = some (some v') ∧ ¬ (k' + 1 = k ∧ zcat v' = 2)) := by
  simp only [zsto] at h
  rw [List.getElem?_set] at h
  split at h
  · split at h <;> simp at h
  · rename_i hk
    rcases zset_get h with h | h
    · exact Or.inl h
    · exact Or.inr ⟨h.1, fun e => hk e.symm, h.2⟩
theorem zlr.sto1 {ρ : zR → Nat} {ls : List (Option zV)} {rls' : Array Slot} {nL k : Nat} {v : zV} {l : List (Nat × Value)} (h : ls.length = nL ∧ ∀ k v, ls[k]? = some (some v) → (k, zcv ρ v) ∈ l) (hv : zcat v = 1)
    (hs : lv_has rls' nL ((k, zcv ρ v) :: l.filter (fun q => !(q.1 == k) && !(q.1 + 1 == k && q.2.category == 2)))) : zlr ρ (zsto ls k v) rls' nL := by
  refine ⟨by rw [zsto_len]; exact h.1, _, hs, fun k' v' h' => ?_⟩
  rcases zsto1_get hv h' with ⟨e1, e2⟩ | ⟨g1, g2, g3⟩
  · rw [e1, e2]; exact List.mem_cons_self
  · refine List.mem_cons_of_mem _ (List.mem_filter.mpr ⟨h.2 k' v' g2, ?_⟩)
    have e : (zcv ρ v').category = zcat v' := zcv_cat ρ v'
    by_cases h1 : k' + 1 = k
    · have h2 : ¬ zcat v' = 2 := fun q => g3 ⟨h1, q⟩
      simp [g1, h1, e, h2]
    · simp [g1, h1]
theorem zlr.sto2 {ρ : zR → Nat} {ls : List (Option zV)} {rls' : Array Slot} {nL k : Nat} {x : Int64} {l : List (Nat × Value)} (h : ls.length = nL ∧ ∀ k v, ls[k]? = some (some v) → (k, zcv ρ v) ∈ l)
    (hs : lv_has rls' nL ((k, Value.long x) :: l.filter (fun q => !(q.1 == k) && (!(q.1 == k + 1) && !(q.1 + 1 == k && q.2.category == 2))))) : zlr ρ (zsto ls k (zl x)) rls' nL := by
  refine ⟨by rw [zsto_len]; exact h.1, _, hs, fun k' v' h' => ?_⟩
  rcases zsto2_get h' with ⟨e1, e2⟩ | ⟨g1, g0, g2, g3⟩
  · rw [e1, e2]; exact List.mem_cons_self
  · refine List.mem_cons_of_mem _ (List.mem_filter.mpr ⟨h.2 k' v' g2, ?_⟩)
    have e : (zcv ρ v').category = zcat v' := zcv_cat ρ v'
    by_cases h1 : k' + 1 = k
    · have h2 : ¬ zcat v' = 2 := fun q => g3 ⟨h1, q⟩
      simp [g0, g1, h1, e, h2]
    · simp [g0, g1, h1]
section
variable {p : Program} {l : Launch} {e : Env} {R : Room} {s : State} {m : MethodId} {args : Array Value} {below : List Frame} {meth : Method} {c : Code} {H : Heap} {locs : List Loc} {cells slots : Nat} {Q : State → Prop}
variable {cc : ByteArray} {pc len : Nat} {rls : Array Slot} {st st' : List zV} {ρ : zR → Nat} {i : Instr} {z : Int} {own : String} {Ts : List Jvm.Cond}
theorem zW_op (hx : p.tables.exec = Jvm.exec) (hb : c.code = cc) (hown : s.vm.findClass own = some m.cls) (hts : ∀ w ∈ Ts, w.before args s = true) (hd : decode cc pc = .ok (i, len)) (hlen : len = zlen i) (hc : zconst own i z Ts) (hop : zop i z st = some st')
    (k : W p l e R s m args below meth c H locs cells slots Q (F0 m (pc + len) rls (st'.map (zcv ρ)))) : W p l e R s m args below meth c H locs cells slots Q (F0 m pc rls (st.map (zcv ρ))) := by
  subst hlen
  cases i <;> first
    | (simp [zop] at hop; done)
    | skip
  case iconst k0 => simp only [zop, Option.some.injEq] at hop; subst hop; exact lv_iconst hx hb hd rfl k
  case bipush k0 => simp only [zop, Option.some.injEq] at hop; subst hop; exact lv_bipush hx hb hd rfl k
  case sipush k0 => simp only [zop, Option.some.injEq] at hop; subst hop; exact lv_sipush hx hb hd rfl k
  case lconst k0 => simp only [zop, Option.some.injEq] at hop; subst hop; exact lv_lconst hx hb hd rfl k
  case ldc k0 => simp only [zop, Option.some.injEq] at hop; subst hop; exact lv_ldc hx hb hown (hts _ hc) hd k
  case ldc_w k0 => simp only [zop, Option.some.injEq] at hop; subst hop; exact lv_ldcw hx hb hown (hts _ hc) hd k
  case ldc2_w k0 => simp only [zop, Option.some.injEq] at hop; subst hop; exact lv_ldc2 hx hb hown (hts _ hc) hd k
  case iadd => obtain ⟨y, x, r, rfl, rfl⟩ := zop2_some hop; exact lv_iadd hx hb hd k
  case isub => obtain ⟨y, x, r, rfl, rfl⟩ := zop2_some hop; exact lv_isub hx hb hd k
  case imul => obtain ⟨y, x, r, rfl, rfl⟩ := zop2_some hop; exact lv_imul hx hb hd k
  case iand => obtain ⟨y, x, r, rfl, rfl⟩ := zop2_some hop; exact lv_iand hx hb hd k
  case ior => obtain ⟨y, x, r, rfl, rfl⟩ := zop2_some hop; exact lv_ior hx hb hd k
  case ixor => obtain ⟨y, x, r, rfl, rfl⟩ := zop2_some hop; exact lv_ixor hx hb hd k
  case ishl => obtain ⟨y, x, r, rfl, rfl⟩ := zop2_some hop; exact lv_ishl hx hb hd k
  case ishr => obtain ⟨y, x, r, rfl, rfl⟩ := zop2_some hop; exact lv_ishr hx hb hd k
  case iushr => obtain ⟨y, x, r, rfl, rfl⟩ := zop2_some hop; exact lv_iushr hx hb hd rfl k
  case ineg => obtain ⟨x, r, rfl, rfl⟩ := zop1_some hop; exact lv_ineg hx hb hd k
  case i2l => obtain ⟨x, r, rfl, rfl⟩ := zop1_some hop; exact lv_i2l hx hb hd rfl k
  case i2b => obtain ⟨x, r, rfl, rfl⟩ := zop1_some hop; exact lv_i2b hx hb hd rfl k
  case i2s => obtain ⟨x, r, rfl, rfl⟩ := zop1_some hop; exact lv_i2s hx hb hd rfl k
  case i2c => obtain ⟨x, r, rfl, rfl⟩ := zop1_some hop; exact lv_i2c hx hb hd rfl k
  case l2i =>
    simp only [zop] at hop
    split at hop
    · simp only [Option.some.injEq] at hop; subst hop; exact lv_l2i hx hb hd rfl k
    · cases hop
  case ladd => obtain ⟨y, x, r, rfl, rfl⟩ := zop2l_some hop; exact lv_ladd hx hb hd k
  case lmul => obtain ⟨y, x, r, rfl, rfl⟩ := zop2l_some hop; exact lv_lmul hx hb hd k
  case land => obtain ⟨y, x, r, rfl, rfl⟩ := zop2l_some hop; exact lv_land hx hb hd k
  case lor => obtain ⟨y, x, r, rfl, rfl⟩ := zop2l_some hop; exact lv_lor hx hb hd k
  case lshl => obtain ⟨y, x, r, rfl, rfl⟩ := zopsl_some hop; exact lv_lshl hx hb hd rfl k
  case lshr => obtain ⟨y, x, r, rfl, rfl⟩ := zopsl_some hop; exact lv_lshr hx hb hd rfl k
  case lcmp =>
    simp only [zop] at hop
    split at hop
    · simp only [Option.some.injEq] at hop; subst hop; exact W.lcmp hx hb hd k
    · cases hop
  case dup =>
    simp only [zop] at hop
    split at hop
    · simp only [Option.some.injEq] at hop; subst hop; exact lv_dup hx hb hd rfl k
    · rename_i x r
      simp only [Option.some.injEq] at hop; subst hop; exact lv_dup hx hb hd (by rw [zcv_cat]; rfl) k
    · cases hop
  case pop =>
    simp only [zop] at hop
    split at hop
    · simp only [Option.some.injEq] at hop; subst hop; exact lv_pop hx hb hd rfl k
    · simp only [Option.some.injEq] at hop; subst hop; exact lv_pop hx hb hd (by rw [zcv_cat]; rfl) k
    · cases hop
  case dup2 =>
    simp only [zop] at hop
    split at hop
    · simp only [Option.some.injEq] at hop; subst hop; exact lv_dup2_11 hx hb hd rfl (by rw [zcv_cat]; rfl) k
    · simp only [Option.some.injEq] at hop; subst hop; exact lv_dup2_11 hx hb hd rfl rfl k
    · simp only [Option.some.injEq] at hop; subst hop; exact lv_dup2_2 hx hb hd rfl k
    · cases hop
theorem zW_ld {ls : List (Option zV)} {nL k kd : Nat} {v : zV} (hx : p.tables.exec = Jvm.exec) (hb : c.code = cc) (hd : decode cc pc = .ok (i, len)) (hlen : len = zlen i) (hop : zld i = some (k, kd)) (hl : zlr ρ ls rls nL) (hk : ls[k]? = some (some v)) (hkd : zkd v = kd)
    (kk : W p l e R s m args below meth c H locs cells slots Q (F0 m (pc + len) rls (zcv ρ v :: st.map (zcv ρ)))) : W p l e R s m args below meth c H locs cells slots Q (F0 m pc rls (st.map (zcv ρ))) := by
  subst hlen
  have hg := hl.get hk
  cases i <;> first
    | (simp [zld] at hop; done)
    | skip
  case iload k0 =>
    simp only [zld, Option.some.injEq, Prod.mk.injEq] at hop
    obtain ⟨rfl, rfl⟩ := hop
    rcases v with x | x | x <;> simp [zkd] at hkd
    exact lv_iload hx hb hd hg kk
  case iload_n k0 =>
    simp only [zld, Option.some.injEq, Prod.mk.injEq] at hop
    obtain ⟨rfl, rfl⟩ := hop
    rcases v with x | x | x <;> simp [zkd] at hkd
    exact lv_iload_n hx hb hd rfl hg kk
  case lload k0 =>
    simp only [zld, Option.some.injEq, Prod.mk.injEq] at hop
    obtain ⟨rfl, rfl⟩ := hop
    rcases v with x | x | x <;> simp [zkd] at hkd
    exact lv_lload hx hb hd hg kk
  case lload_n k0 =>
    simp only [zld, Option.some.injEq, Prod.mk.injEq] at hop
    obtain ⟨rfl, rfl⟩ := hop
    rcases v with x | x | x <;> simp [zkd] at hkd
    exact lv_lload_n hx hb hd rfl hg kk
  case aload k0 =>
    simp only [zld, Option.some.injEq, Prod.mk.injEq] at hop
    obtain ⟨rfl, rfl⟩ := hop
    rcases v with x | x | _ | x <;> simp [zkd] at hkd
    · exact lv_aloadN hx hb hd hg kk
    · exact lv_aload hx hb hd hg kk
  case aload_n k0 =>
    simp only [zld, Option.some.injEq, Prod.mk.injEq] at hop
    obtain ⟨rfl, rfl⟩ := hop
    rcases v with x | x | _ | x <;> simp [zkd] at hkd
    · exact lv_aload_nN hx hb hd rfl hg kk
    · exact lv_aload_n hx hb hd rfl hg kk
theorem zW_sr {ls : List (Option zV)} {nL k kd : Nat} {v : zV} (hx : p.tables.exec = Jvm.exec) (hb : c.code = cc) (hd : decode cc pc = .ok (i, len)) (hlen : len = zlen i) (hop : zsr i = some (k, kd)) (hl : zlr ρ ls rls nL) (hkd : zkd v = kd) (hk : k + zcat v ≤ nL)
    (kk : ∀ rls' : Array Slot, zlr ρ (zsto ls k v) rls' nL → W p l e R s m args below meth c H locs cells slots Q (F0 m (pc + len) rls' (st.map (zcv ρ)))) : W p l e R s m args below meth c H locs cells slots Q (F0 m pc rls (zcv ρ v :: st.map (zcv ρ))) := by
  subst hlen
  obtain ⟨h0, lv, h1, h2⟩ := hl
  cases i <;> first
    | (simp [zsr] at hop; done)
    | skip
  case istore k0 =>
    simp only [zsr, Option.some.injEq, Prod.mk.injEq] at hop
    obtain ⟨rfl, rfl⟩ := hop
    rcases v with x | x | x <;> simp [zkd] at hkd
    exact lv_istore hx hb hd h1 hk rfl (fun rls' hr => kk rls' (zlr.sto1 (v := zi x) ⟨h0, h2⟩ rfl hr))
  case istore_n k0 =>
    simp only [zsr, Option.some.injEq, Prod.mk.injEq] at hop
    obtain ⟨rfl, rfl⟩ := hop
    rcases v with x | x | x <;> simp [zkd] at hkd
    exact lv_istore_n hx hb hd rfl h1 hk rfl (fun rls' hr => kk rls' (zlr.sto1 (v := zi x) ⟨h0, h2⟩ rfl hr))
  case lstore k0 =>
    simp only [zsr, Option.some.injEq, Prod.mk.injEq] at hop
    obtain ⟨rfl, rfl⟩ := hop
    rcases v with x | x | x <;> simp [zkd] at hkd
    exact lv_lstore hx hb hd h1 hk rfl (fun rls' hr => kk rls' (zlr.sto2 ⟨h0, h2⟩ hr))
  case lstore_n k0 =>
    simp only [zsr, Option.some.injEq, Prod.mk.injEq] at hop
    obtain ⟨rfl, rfl⟩ := hop
    rcases v with x | x | x <;> simp [zkd] at hkd
    exact lv_lstore_n hx hb hd rfl h1 hk rfl (fun rls' hr => kk rls' (zlr.sto2 ⟨h0, h2⟩ hr))
  case astore k0 =>
    simp only [zsr, Option.some.injEq, Prod.mk.injEq] at hop
    obtain ⟨rfl, rfl⟩ := hop
    rcases v with x | x | _ | x <;> simp [zkd] at hkd
    · exact lv_astoreN hx hb hd h1 hk rfl (fun rls' hr => kk rls' (zlr.sto1 (v := zr none) ⟨h0, h2⟩ rfl hr))
    · exact lv_astore hx hb hd h1 hk rfl (fun rls' hr => kk rls' (zlr.sto1 (v := zr (some x)) ⟨h0, h2⟩ rfl hr))
  case astore_n k0 =>
    simp only [zsr, Option.some.injEq, Prod.mk.injEq] at hop
    obtain ⟨rfl, rfl⟩ := hop
    rcases v with x | x | _ | x <;> simp [zkd] at hkd
    · exact lv_astore_nN hx hb hd rfl h1 hk rfl (fun rls' hr => kk rls' (zlr.sto1 (v := zr none) ⟨h0, h2⟩ rfl hr))
    · exact lv_astore_n hx hb hd rfl h1 hk rfl (fun rls' hr => kk rls' (zlr.sto1 (v := zr (some x)) ⟨h0, h2⟩ rfl hr))
theorem zW_iinc {ls : List (Option zV)} {nL k : Nat} {y : Int} {x : Int32} (hx : p.tables.exec = Jvm.exec) (hb : c.code = cc) (hd : decode cc pc = .ok (.iinc k y, 3)) (hl : zlr ρ ls rls nL) (hk : ls[k]? = some (some (zi x)))
    (kk : ∀ rls' : Array Slot, zlr ρ (zsto ls k (zi (x + Int32.ofInt y))) rls' nL → W p l e R s m args below meth c H locs cells slots Q (F0 m (pc + 3) rls' (st.map (zcv ρ)))) : W p l e R s m args below meth c H locs cells slots Q (F0 m pc rls (st.map (zcv ρ))) := by
  obtain ⟨h0, lv, h1, h2⟩ := hl
  obtain ⟨k1, hk1⟩ := List.getElem?_of_mem (h2 k _ hk)
  have hlt : k < nL := by
    rw [← h0]
    exact (List.getElem?_eq_some_iff.mp hk).1
  exact lv_iinc hx hb hd h1 hk1 rfl hlt rfl (fun rls' hr => kk rls' (zlr.sto1 (v := zi (x + Int32.ofInt y)) ⟨h0, h2⟩ rfl hr))
/-- jumps have a place -/
def zjok (i : Instr) (pc : Nat) : Prop := match i with
  | .goto off => 0 ≤ (pc : Int) + off
  | .ifCond _ off => 0 ≤ (pc : Int) + off
  | .if_icmp _ off => 0 ≤ (pc : Int) + off
  | .tableswitch dflt lo hi offs => 0 ≤ (pc : Int) + dflt ∧ (offs.size : Int) = hi - lo + 1 ∧ ∀ o ∈ offs.toList, 0 ≤ (pc : Int) + o
  | _ => True
theorem zj_eq {pc : Nat} {off : Int} (h : 0 ≤ (pc : Int) + off) : (pc : Int) + off = (zj pc off : Int) := by
  unfold zj
  omega
theorem zW_br (hx : p.tables.exec = Jvm.exec) (hb : c.code = cc) (hd : decode cc pc = .ok (i, len)) (hlen : (∀ a b d f, i ≠ .tableswitch a b d f) → len = zlen i) (hj : zjok i pc) {K : Nat → List zV → Prop} (hop : zbr i pc len st K)
    (kk : ∀ pc' st', K pc' st' → W p l e R s m args below meth c H locs cells slots Q (F0 m pc' rls (st'.map (zcv ρ)))) : W p l e R s m args below meth c H locs cells slots Q (F0 m pc rls (st.map (zcv ρ))) := by
  unfold zbr at hop
  split at hop
  · rename_i off
    cases hlen (fun _ _ _ _ h => by cases h)
    exact lv_goto hx hb hd (zj_eq hj) (kk _ _ hop)
  · rename_i cd off
    cases hlen (fun _ _ _ _ h => by cases h)
    split at hop
    · rename_i x t
      cases cd
      · exact lv_if_eq hx hb hd (zj_eq hj) (fun h => kk _ _ (hop.1 h)) (fun h => kk _ _ (hop.2 h))
      · exact lv_if_ne hx hb hd (zj_eq hj) (fun h => kk _ _ (hop.1 h)) (fun h => kk _ _ (hop.2 (fun g => g h)))
      · exact lv_if_lt hx hb hd (zj_eq hj) (fun h => kk _ _ (hop.1 h)) (fun h => kk _ _ (hop.2 h))
      · exact lv_if_ge hx hb hd (zj_eq hj) (fun h => kk _ _ (hop.1 h)) (fun h => kk _ _ (hop.2 h))
      · exact lv_if_gt hx hb hd (zj_eq hj) (fun h => kk _ _ (hop.1 h)) (fun h => kk _ _ (hop.2 h))
      · exact lv_if_le hx hb hd (zj_eq hj) (fun h => kk _ _ (hop.1 h)) (fun h => kk _ _ (hop.2 h))
    · exact hop.elim
  · rename_i cd off
    cases hlen (fun _ _ _ _ h => by cases h)
    split at hop
    · rename_i y x t
      cases cd
      · exact lv_icmp_eq hx hb hd (zj_eq hj) (fun h => kk _ _ (hop.1 h)) (fun h => kk _ _ (hop.2 h))
      · exact lv_icmp_ne hx hb hd (zj_eq hj) (fun h => kk _ _ (hop.1 h)) (fun h => kk _ _ (hop.2 (fun g => g h)))
      · exact lv_icmp_lt hx hb hd (zj_eq hj) (fun h => kk _ _ (hop.1 h)) (fun h => kk _ _ (hop.2 h))
      · exact lv_icmp_ge hx hb hd (zj_eq hj) (fun h => kk _ _ (hop.1 h)) (fun h => kk _ _ (hop.2 h))
      · exact lv_icmp_gt hx hb hd (zj_eq hj) (fun h => kk _ _ (hop.1 h)) (fun h => kk _ _ (hop.2 h))
      · exact lv_icmp_le hx hb hd (zj_eq hj) (fun h => kk _ _ (hop.1 h)) (fun h => kk _ _ (hop.2 h))
    · exact hop.elim
  · rename_i dflt lo hi offs
    split at hop
    · rename_i x t
      obtain ⟨j1, j2, j3⟩ := hj
      by_cases hc : x.toInt < lo ∨ hi < x.toInt
      · rw [show ztw pc dflt lo hi offs x = zj pc dflt by unfold ztw; rw [if_pos hc]] at hop
        exact lv_tableOut hx hb hd hc (zj_eq j1) (kk _ _ hop)
      · have c1 : ¬ x.toInt < lo := fun h => hc (Or.inl h)
        have c2 : ¬ hi < x.toInt := fun h => hc (Or.inr h)
        have hlt : (x.toInt - lo).toNat < offs.size := by omega
        have ho : offs[(x.toInt - lo).toNat]? = some offs[(x.toInt - lo).toNat] := Array.getElem?_eq_getElem hlt
        rw [show ztw pc dflt lo hi offs x = zj pc offs[(x.toInt - lo).toNat] by unfold ztw; rw [if_neg hc, ho]; rfl] at hop
        exact lv_tableIn hx hb hd c1 c2 ho (zj_eq (j3 _ (by simp))) (kk _ _ hop)
    · exact hop.elim
  · exact hop.elim
end
end
section
/-! memory instructions, cells that are made, the machine's own methods -/
def zcls (Ts : List Jvm.Cond) : Prop := ∀ ci, ci < 11 → (∀ w ∈ u_ws (zcl ci).1 (zcl ci).2.1 (zcl ci).2.2, w ∈ Ts) ∧ (∀ k, k < (zcl ci).2.2 → parseFieldDescriptor ((zcl ci).2.1 k).2.2.1 = some (zty ci k)) ∧ (∀ a, a < (zcl ci).2.2 → ∀ b, b < (zcl ci).2.2 → a ≠ b → ((zcl ci).2.1 a).2.1 ≠ ((zcl ci).2.1 b).2.1) ∧ Jvm.Cond.instantiable (zcl ci).1 (zcl ci).2.2 ∈ Ts ∧ Jvm.Cond.initialized (zcl ci).1 ∈ Ts ∧ ∀ k, k < (zcl ci).2.2 → zkf (zty ci k) ≠ 9
theorem zcl_at {ci : Nat} (h : ci < 11) : vwCl[ci]? = some (zcl ci) := by
  unfold zcl
  rw [List.getD_eq_getElem?_getD, List.getElem?_eq_getElem (show ci < vwCl.length from h)]
  rfl
/-- what holds of the machine's classes at every state of the run -/
def zK (Nw : List Jvm.Cond) (AO : List String) (D : va_G) (U : State) : Prop := va_K D vwCl [] U ∧ (∀ w ∈ Nw, va_Nw w U) ∧ ∀ C ∈ AO, va_AO C U
/-- a word that stays when the machine has warmed -/
def znw (w : Jvm.Cond) : Prop := (∃ a i b n d h, w = .fieldLinkNest a i b n d h) ∨ (∃ a i x h, w = .methodLinkNest a i x h) ∨ ∃ C T, w = .castable C T
theorem zK.warm {Nw : List Jvm.Cond} {AO : List String} {D : va_G} {s U : State} (hN : ∀ w ∈ Nw, znw w) (hW : s.WarmedH U.vm) (h : zK Nw AO D s) : zK Nw AO D U := by
  obtain ⟨h1, h2, h3⟩ := h
  refine ⟨va_K.moved hW.alike h1, fun w hw => ?_, fun C hC => (h3 C hC).moved hW.alike⟩
  have h4 := h2 w hw
  rcases hN w hw with ⟨a, i, b, n, d, h, rfl⟩ | ⟨a, i, x, h, rfl⟩ | ⟨C, T, rfl⟩
  · exact va_Nw.warmF hW h4
  · exact va_Nw.warmM hW h4
  · exact va_Nw.warmC hW h4
theorem zK.same {Nw : List Jvm.Cond} {AO : List String} {D : va_G} {s U : State} (hN : ∀ w ∈ Nw, znw w) (hW : s.vm = U.vm) (h : zK Nw AO D s) : zK Nw AO D U := by
  obtain ⟨h1, h2, h3⟩ := h
  have ha : s.vm.Alike U.vm := by rw [hW]; exact Vm.Alike.refl U.vm
  refine ⟨va_K.moved ha h1, fun w hw => ?_, fun C hC => (h3 C hC).moved ha⟩
  have h4 := h2 w hw
  rcases hN w hw with ⟨a, i, b, n, d, h, rfl⟩ | ⟨a, i, x, h, rfl⟩ | ⟨C, T, rfl⟩
  · exact va_Nw.same rfl hW h4
  · exact va_Nw.same rfl hW h4
  · exact va_Nw.same rfl hW h4
/-- a field's link -/
def zfok (Ts Nw : List Jvm.Cond) (own : String) (idx ci f kd : Nat) : Prop := ci < 11 ∧ f < (zcl ci).2.2 ∧ zkf (zty ci f) = kd ∧ (Jvm.Cond.fieldLink own idx ((zcl ci).2.1 f).1 ((zcl ci).2.1 f).2.1 ((zcl ci).2.1 f).2.2.1 ∈ Ts ∨ ∃ host, Jvm.Cond.fieldLinkNest own idx ((zcl ci).2.1 f).1 ((zcl ci).2.1 f).2.1 ((zcl ci).2.1 f).2.2.1 host ∈ Nw)
/-- a field that is written -/
def zpok (Ts : List Jvm.Cond) (own mn : String) (idx ci f kd : Nat) : Prop := ci < 11 ∧ f < (zcl ci).2.2 ∧ zkf (zty ci f) = kd ∧ Jvm.Cond.fieldLink own idx ((zcl ci).2.1 f).1 ((zcl ci).2.1 f).2.1 ((zcl ci).2.1 f).2.2.1 ∈ Ts ∧ (((zcl ci).2.1 f).2.2.2 = false ∨ (((zcl ci).2.1 f).2.2.2 = true ∧ mn = "<init>" ∧ ((zcl ci).2.1 f).1 = own))
/-- what the tables say of a memory instruction -/
def zmok (Ts Nw : List Jvm.Cond) (own mn : String) (i : Instr) (a : List Nat) : Prop := match i with
  | .getfield idx => ∃ ci f kd, a = [ci, f, kd] ∧ zfok Ts Nw own idx ci f kd
  | .putfield idx => ∃ ci f kd, a = [ci, f, kd] ∧ zpok Ts own mn idx ci f kd
  | .checkcast idx => ∃ tag, a = [tag] ∧ (tag = 20 ∨ tag = 22) ∧ Jvm.Cond.classLink own idx ("[" ++ (zaf tag).toString) ∈ Ts
  | _ => True
theorem zch_fits (x : Int32) : fits .char (.int (vp_nar .char x)) = true := by
  rw [vp_nar_char]
  have h : 0 ≤ x.toUInt32.toUInt16.toUInt32.toInt32 ∧ x.toUInt32.toUInt16.toUInt32.toInt32 ≤ 65535 := by
    have e : x.toUInt32.toUInt16.toUInt32.toInt32.toInt = (x.toUInt32.toNat % 65536 : Nat) := by
      have h1 : x.toUInt32.toUInt16.toUInt32.toNat = x.toUInt32.toNat % 65536 := by simp
      have h2 : x.toUInt32.toUInt16.toUInt32.toInt32.toInt = (x.toUInt32.toUInt16.toUInt32.toNat : Int).bmod (2 ^ 32) := by
        show (Int32.toBitVec _).toInt = _
        rw [BitVec.toInt_eq_toNat_bmod]
        rfl
      rw [h2, h1]
      have h3 : x.toUInt32.toNat % 65536 < 65536 := Nat.mod_lt _ (by decide)
      rw [Int.bmod_def]
      omega
    have h3 : x.toUInt32.toNat % 65536 < 65536 := Nat.mod_lt _ (by decide)
    rw [Int32.le_iff_toInt_le, Int32.le_iff_toInt_le, e]
    have e0 : (0 : Int32).toInt = 0 := rfl
    have e1 : (65535 : Int32).toInt = 65535 := rfl
    rw [e0, e1]
    omega
  simp only [fits, Bool.and_eq_true, decide_eq_true_eq]
  exact h
theorem zkf_narrow {ty : FieldType} {kd : Nat} (h : zkf ty = kd) (ρ : zR → Nat) (v : zV) (hv : (kd = 0 ∧ ∃ x, v = zi x) ∨ (kd = 3 ∧ ∃ x, v = zi x ∧ (x = 0 ∨ x = 1)) ∨ (kd = 1 ∧ ∃ x, v = zl x) ∨ (kd = 2 ∧ ∃ x, v = zr x)) : narrow ty (zcv ρ v) = zcv ρ v ∧ fits ty (zcv ρ v) = true := by
  subst h
  rcases hv with ⟨h, x, rfl⟩ | ⟨h, x, rfl, hx⟩ | ⟨h, x, rfl⟩ | ⟨h, x, rfl⟩
  · cases ty <;> simp [zkf] at h
    exact ⟨rfl, rfl⟩
  · cases ty <;> simp [zkf] at h
    rcases hx with rfl | rfl <;> exact ⟨rfl, rfl⟩
  · cases ty <;> simp [zkf] at h
    exact ⟨rfl, rfl⟩
  · cases ty <;> simp [zkf] at h
    · cases x <;> exact ⟨rfl, rfl⟩
    · cases x <;> exact ⟨rfl, rfl⟩
section
variable {p : Program} {l : Launch} {e : Env} {R : Room} {s : State} {m : MethodId} {args : Array Value} {below : List Frame} {meth : Method} {c : Code} {H : Heap} {locs : List Loc} {cells slots : Nat} {Q : State → Prop}
variable {cc : ByteArray} {pc len : Nat} {rls : Array Slot} {st : List zV} {i : Instr} {own : String} {Ts Nw : List Jvm.Cond} {AO : List String} {D : va_G} {b base : Nat} {ix : zR → Nat} {al : Nat → zR} {M : zM}
theorem zW_get (hx : p.tables.exec = Jvm.exec) (hb : c.code = cc) (hown : s.vm.findClass own = some m.cls) (hts : ∀ w ∈ Ts, w.before args s = true) (hcls : zcls Ts) (hK : zK Nw AO D s) (hR : zRel b base ix al D s M H) {idx ci f kd r j q : Nat} (hf : zfok Ts Nw own idx ci f kd) (hS : (M.2.2.2.1 r j q).1 = ci + 1) {v : Value} (hv : v = zcv (zrho b base ix) (zget M kd r j q f)) (hd : decode cc pc = .ok (.getfield idx, 3)) {rest : List Value}
    (k : W p l e R s m args below meth c H locs cells slots Q (F0 m (pc + 3) rls (v :: rest))) : W p l e R s m args below meth c H locs cells slots Q (F0 m pc rls (.ref (zrho b base ix (r, j, q)) :: rest)) := by
  obtain ⟨hci, hfN, hkd, hl⟩ := hf
  obtain ⟨-, cell, q1, q2, q3, q4⟩ := hR.2.2.1 r j q ci hS hci
  obtain ⟨hSl, hfc, kC, hkC, hkind⟩ := hK.1.1 ci _ (zcl_at hci)
  obtain ⟨cf, kf, fi, fd, hi, hsl⟩ := hSl f hfN
  have hst := (u_facts hfc hkC (u_lays hts (hcls ci hci).1 hfN) hi).1
  subst hv
  rcases hl with hl | ⟨host, hl⟩
  · refine W.getf hx hb hown (hts _ hl) hi hst q1 (by rw [q3]; exact fun h => by cases h) ?_ rfl rfl hd k
    rw [hsl, q4 f hfN]
    show some (zcv _ (zget M (zkf (zty ci f)) r j q f)) = _
    rw [hkd]
  · refine va_Wgetf hx hb hown (va_Nw.use rfl (hK.2.1 _ hl)) hi hst q1 (by rw [q3]; exact fun h => by cases h) ?_ rfl rfl hd k
    rw [hsl, q4 f hfN]
    show some (zcv _ (zget M (zkf (zty ci f)) r j q f)) = _
    rw [hkd]
/-- a store into a field: the machine's side and the memory's -/
theorem zW_put (hx : p.tables.exec = Jvm.exec) (hb : c.code = cc) (hown : s.vm.findClass own = some m.cls) (hts : ∀ w ∈ Ts, w.before args s = true) (hcls : zcls Ts) (hK : zK Nw AO D s) (hR : zRel b base ix al D s M H) {idx ci f kd r j q : Nat} (hf : zpok Ts own meth.name idx ci f kd) (hS : (M.2.2.2.1 r j q).1 = ci + 1) {M' : zM} {v : zV}
    (hn : narrow (zty ci f) (zcv (zrho b base ix) v) = zcv (zrho b base ix) v ∧ fits (zty ci f) (zcv (zrho b base ix) v) = true) (hM : zsame M M' r j q) (hself : ∀ k, k < (zcl ci).2.2 → zget M' (zkf (zty ci k)) r j q k = if k = f then v else zget M (zkf (zty ci k)) r j q k)
    (hd : decode cc pc = .ok (.putfield idx, 3)) {rest : List Value}
    (k : ∀ (H' : Heap) (slot : Nat), zRel b base ix al D s M' H' → W p l e R s m args below meth c H' (locs ++ [⟨zrho b base ix (r, j, q), slot⟩]) cells slots Q (F0 m (pc + 3) rls rest)) : W p l e R s m args below meth c H locs cells slots Q (F0 m pc rls (zcv (zrho b base ix) v :: .ref (zrho b base ix (r, j, q)) :: rest)) := by
  obtain ⟨hci, hfN, hkd, hl, hfin⟩ := hf
  obtain ⟨h9, cell, q1, q2, q3, q4⟩ := hR.2.2.1 r j q ci hS hci
  obtain ⟨w1, w2, w3, -, -, -⟩ := hcls ci hci
  have hap := va_apart (own := own) hts w1 (zty ci) w2 w3 hK.1 (zcl_at hci)
  obtain ⟨hSl, hfc, kC, hkC, hkind⟩ := hK.1.1 ci _ (zcl_at hci)
  obtain ⟨cf, kf, fi, fd, hi, hsl⟩ := hSl f hfN
  have hst := (u_facts hfc hkC (u_lays hts w1 hfN) hi).1
  have hlay := hts _ (w1 _ (u_in_lay hfN))
  unfold u_lay at hlay
  have fin : ∀ H' : Heap, H'[zrho b base ix (r, j, q)]? = some (cell.setSlot fd.slot (zcv (zrho b base ix) v)) → H'.size = H.size → (∀ a, a ≠ zrho b base ix (r, j, q) → H'[a]? = H[a]?) → zRel b base ix al D s M' H' := by
    intro H' e1 e2 e3
    rw [hsl] at e1
    refine hR.set h9 (by rw [hS]; omega) e2 e3 hM (fun ci' hc' _ => ?_) (fun ha => by omega)
    have : ci' = ci := by omega
    subst this
    refine t_OB.to (V := updV (fun k => zcv (zrho b base ix) (zget M (zkf (zty ci' k)) r j q k)) f (zcv (zrho b base ix) v)) ⟨_, e1, q2, q3, t_set q4 hap hfN _⟩ (fun k hk => ?_)
    rw [hself k hk]
    unfold updV
    split <;> rfl
  rcases hfin with hfin | ⟨hfin, hmn, hdecl⟩
  · rw [if_neg (by rw [hfin]; decide)] at hlay
    have h6 := u_store hfc hkC hkind hlay hi (w2 f hfN) hn.1 hn.2
    exact W.putK hx hb (f := fd) ⟨hown, hts _ hl, ⟨_, _, _, hi⟩, hst⟩ (by rw [q2]; exact h6) q1 q3 (by rw [hsl]; exact k2_hasslot (q4 f hfN)) rfl rfl hd fun H' e1 e2 e3 => k H' fd.slot (fin H' e1 e2 e3)
  · rw [if_pos hfin] at hlay
    have hcf : m.cls = cf := by
      obtain ⟨_, _, c', _, _, _, -, -, hf', -, -, -, hown2, -⟩ := Cond.laysFinal_spec hlay
      have e1 : c' = cf := by have := hi.symm.trans hf'; simp at this; exact this.1.symm
      rw [hdecl] at hown2
      rw [← e1]; exact Option.some.inj (hown.symm.trans hown2)
    have h6 := u_fits hfc hkC hkind (Or.inr hlay) hi (w2 f hfN) hn.1 hn.2
    exact W.putFinK hx hb hown (hts _ hl) hi hst hcf hmn (by rw [q2]; exact h6) q1 q3 (by rw [hsl]; exact k2_hasslot (q4 f hfN)) rfl rfl hd fun H' e1 e2 e3 => k H' fd.slot (fin H' e1 e2 e3)
theorem zin_lt {x : Int32} {n : Nat} (h : vp_in x n) : x.toNatClampNeg < n := Nat.not_le.mp fun q => h (Or.inr q)
theorem zarr_in {cA : ClassId} {n : Nat} {f : Nat → Value} {x : Int32} (h : vp_in x n) : ¬ (x < 0 ∨ (arrV cA n f).slots.size ≤ x.toNatClampNeg) := by
  rw [arrV_size]; exact h
/-- a store into an array's place -/
theorem zRel.put {H' : Heap} (hR : zRel b base ix al D s M H) {r j q n : Nat} (h9 : r ≠ 9) (ht : 19 < (M.2.2.2.1 r j q).1) {cA : ClassId} (hA : ArrOfT s cA (zaf (M.2.2.2.1 r j q).1)) (hRA : va_RA s cA (zaf (M.2.2.2.1 r j q).1)) {v : zV} {M' : zM} (hM : zsame M M' r j q)
    (hself : ∀ i, zget M' (zak (M.2.2.2.1 r j q).1) r j q i = if i = n then v else zget M (zak (M.2.2.2.1 r j q).1) r j q i) (hch : (M.2.2.2.1 r j q).1 = 22 → ∀ i, fits .char (.int (M'.1 r j q i)) = true)
    (e1 : H'[zrho b base ix (r, j, q)]? = some ((arrV cA (M.2.2.2.1 r j q).2 (fun i => zcv (zrho b base ix) (zget M (zak (M.2.2.2.1 r j q).1) r j q i))).setSlot n (zcv (zrho b base ix) v))) (e2 : H'.size = H.size) (e3 : ∀ a, a ≠ zrho b base ix (r, j, q) → H'[a]? = H[a]?) : zRel b base ix al D s M' H' := by
  refine hR.set h9 (by omega) e2 e3 hM (fun ci hc h11 => by omega) (fun _ => ?_)
  have hS : M'.2.2.2 = M.2.2.2 := hM.1
  refine ⟨cA, ?_, by rw [hS]; exact hA, by rw [hS]; exact hRA, by rw [hS]; exact hch⟩
  rw [e1, arrV_store, hS]
  congr 2
  funext i
  rw [hself i]
  unfold updV
  split <;> rfl
theorem zel_tag {t : Nat} (h : 0 < zel t) : t ≠ 20 ∧ 22 < t ∧ zak t = 2 ∧ t < 27 ∧ ∃ C, zaf t = .object C := by
  unfold zel at h
  split at h <;> first
    | exact ⟨by decide, by decide, rfl, by decide, _, rfl⟩
    | exact absurd h (Nat.lt_irrefl 0)
theorem zel_cl {t : Nat} (h : 0 < zel t) : zel t - 1 < 11 ∧ zaf t = .object (zcl (zel t - 1)).1 := by
  unfold zel at h
  split at h <;> first
    | exact ⟨by decide, rfl⟩
    | exact absurd h (Nat.lt_irrefl 0)
theorem zW_mem (hx : p.tables.exec = Jvm.exec) (hb : c.code = cc) (hown : s.vm.findClass own = some m.cls) (hts : ∀ w ∈ Ts, w.before args s = true) (hcls : zcls Ts) (hK : zK Nw AO D s) (hR : zRel b base ix al D s M H) (hd : decode cc pc = .ok (i, len)) (hlen : len = zlen i) {a : List Nat} (hok : zmok Ts Nw own meth.name i a) (hloc : ∀ l ∈ locs, base ≤ l.base)
    {K : List zV → zM → Prop} (hop : zmem i a st M K) (kk : ∀ st' M' H' locs', K st' M' → zRel b base ix al D s M' H' → (∀ l ∈ locs', base ≤ l.base) → W p l e R s m args below meth c H' locs' cells slots Q (F0 m (pc + len) rls (st'.map (zcv (zrho b base ix))))) :
    W p l e R s m args below meth c H locs cells slots Q (F0 m pc rls (st.map (zcv (zrho b base ix)))) := by
  subst hlen
  have hl1 : ∀ (r j q n : Nat), r ≠ 9 → ∀ l ∈ locs ++ [⟨zrho b base ix (r, j, q), n⟩], base ≤ l.base := by
    intro r j q n h9 l hl
    rcases List.mem_append.mp hl with h | h
    · exact hloc l h
    · rw [List.mem_singleton.mp h]
      show base ≤ zrho b base ix (r, j, q)
      rw [zrho_ne9 h9]; omega
  have h9c : ∀ {r j q ci : Nat}, (M.2.2.2.1 r j q).1 = ci + 1 → ci < 11 → r ≠ 9 := fun h h2 => (hR.2.2.1 _ _ _ _ h h2).1
  have h9t : ∀ {r j q : Nat}, (M.2.2.2.1 r j q).1 ≠ 20 → (M.2.2.2.1 r j q).1 ≠ 0 → r ≠ 9 := fun h1 h2 h3 => by
    subst h3
    exact h1 (hR.2.2.2.2 _ _ h2).1
  cases i <;> first
    | (simp [zmem] at hop; done)
    | skip
  case getfield idx =>
    obtain ⟨ci, f, kd, rfl, hf⟩ := hok
    simp only [zmem] at hop
    split at hop
    · have h1 := ‹[ci, f, kd] = _›
      simp only [List.cons.injEq, and_true] at h1
      obtain ⟨rfl, rfl, rfl⟩ := h1
      exact zW_get hx hb hown hts hcls hK hR hf hop.1 rfl hd (kk _ _ _ _ hop.2 hR hloc)
    · exact hop.elim
  case putfield idx =>
    obtain ⟨ci, f, kd, rfl, hf⟩ := hok
    simp only [zmem] at hop
    split at hop
    · have h1 := ‹[ci, f, kd] = _›
      simp only [List.cons.injEq, and_true] at h1
      obtain ⟨rfl, rfl, rfl⟩ := h1
      refine zW_put (M' := (zup4 M.1 _ _ _ _ _, M.2)) (v := zi _) hx hb hown hts hcls hK hR hf hop.1 (zkf_narrow hf.2.2.1 _ _ (Or.inl ⟨rfl, _, rfl⟩)) (zsame_I fun r' j' q' h => zup4_n _ _ h) (fun k hk => ?_) hd (fun H' sl hR' => kk _ _ _ _ hop.2 hR' (hl1 _ _ _ _ (h9c hop.1 hf.1)))
      split
      · rename_i e; subst e; rw [hf.2.2.1]; simp only [zget, zup4_s]; simp
      · rename_i e
        generalize zkf (zty _ k) = kq
        unfold zget
        split <;> first | rfl | (simp only [zup4_s, if_neg e])
    · have h1 := ‹[ci, f, kd] = _›
      simp only [List.cons.injEq, and_true] at h1
      obtain ⟨rfl, rfl, rfl⟩ := h1
      refine zW_put (M' := (zup4 M.1 _ _ _ _ _, M.2)) (v := zi _) hx hb hown hts hcls hK hR hf hop.1 (zkf_narrow hf.2.2.1 _ _ (Or.inr (Or.inl ⟨rfl, _, rfl, hop.2.1⟩))) (zsame_I fun r' j' q' h => zup4_n _ _ h) (fun k hk => ?_) hd (fun H' sl hR' => kk _ _ _ _ hop.2.2 hR' (hl1 _ _ _ _ (h9c hop.1 hf.1)))
      split
      · rename_i e; subst e; rw [hf.2.2.1]; simp only [zget, zup4_s]; simp
      · rename_i e
        generalize zkf (zty _ k) = kq
        unfold zget
        split <;> first | rfl | (simp only [zup4_s, if_neg e])
    · have h1 := ‹[ci, f, kd] = _›
      simp only [List.cons.injEq, and_true] at h1
      obtain ⟨rfl, rfl, rfl⟩ := h1
      refine zW_put (M' := (M.1, zup4 M.2.1 _ _ _ _ _, M.2.2)) (v := zl _) hx hb hown hts hcls hK hR hf hop.1 (zkf_narrow hf.2.2.1 _ _ (Or.inr (Or.inr (Or.inl ⟨rfl, _, rfl⟩)))) (zsame_L fun r' j' q' h => zup4_n _ _ h) (fun k hk => ?_) hd (fun H' sl hR' => kk _ _ _ _ hop.2 hR' (hl1 _ _ _ _ (h9c hop.1 hf.1)))
      split
      · rename_i e; subst e; rw [hf.2.2.1]; simp only [zget, zup4_s]; simp
      · rename_i e
        generalize zkf (zty _ k) = kq
        unfold zget
        split <;> first | rfl | (simp only [zup4_s, if_neg e])
    · have h1 := ‹[ci, f, kd] = _›
      simp only [List.cons.injEq, and_true] at h1
      obtain ⟨rfl, rfl, rfl⟩ := h1
      refine zW_put (M' := (M.1, M.2.1, zup4 M.2.2.1 _ _ _ _ _, M.2.2.2)) (v := zr _) hx hb hown hts hcls hK hR hf hop.1 (zkf_narrow hf.2.2.1 _ _ (Or.inr (Or.inr (Or.inr ⟨rfl, _, rfl⟩)))) (zsame_P fun r' j' q' h => zup4_n _ _ h) (fun k hk => ?_) hd (fun H' sl hR' => kk _ _ _ _ hop.2 hR' (hl1 _ _ _ _ (h9c hop.1 hf.1)))
      split
      · rename_i e; subst e; rw [hf.2.2.1]; simp only [zget, zup4_s]; simp
      · rename_i e
        generalize zkf (zty _ k) = kq
        unfold zget
        split <;> first | rfl | (simp only [zup4_s, if_neg e])
    · exact hop.elim
  case iaload =>
    simp only [zmem] at hop
    split at hop
    · rename_i x r j q t
      obtain ⟨h1, h2, h3⟩ := hop
      by_cases h9 : r = 9
      · subst h9
        obtain ⟨-, scr, e1, e2, e3, e4, e5⟩ := hR.2.2.2.2 j q (by rw [h1]; omega)
        exact W.iald (a := b) hx hb e1 e2 e3 (by rw [e4]; exact h2) (e5 _ (zin_lt h2)) rfl rfl hd (kk _ _ _ _ h3 hR hloc)
      · obtain ⟨cA, g1, g2, g3, -⟩ := hR.2.2.2.1 r j q (by rw [h1]; omega) h9
        rw [h1] at g1 g2
        exact W.iald hx hb g1 (g2 _ _) (fun h => by cases h) (zarr_in h2) (by rw [arrV_read _ _ (zin_lt h2)]; rfl) rfl rfl hd (kk _ _ _ _ h3 hR hloc)
    · exact hop.elim
  case caload =>
    simp only [zmem] at hop
    split at hop
    · rename_i x r j q t
      obtain ⟨h1, h2, h3⟩ := hop
      obtain ⟨cA, g1, g2, g3, -⟩ := hR.2.2.2.1 r j q (by rw [h1]; omega) (h9t (by rw [h1]; decide) (by rw [h1]; decide))
      rw [h1] at g1 g2
      exact W.cald hx hb g1 (g2 _ _) (fun h => by cases h) (zarr_in h2) (by rw [arrV_read _ _ (zin_lt h2)]; rfl) rfl rfl hd (kk _ _ _ _ h3 hR hloc)
    · exact hop.elim
  case laload =>
    simp only [zmem] at hop
    split at hop
    · rename_i x r j q t
      obtain ⟨h1, h2, h3⟩ := hop
      obtain ⟨cA, g1, g2, g3, -⟩ := hR.2.2.2.1 r j q (by rw [h1]; omega) (h9t (by rw [h1]; decide) (by rw [h1]; decide))
      rw [h1] at g1 g2
      exact W.lald hx hb g1 (g2 _ _) (fun h => by cases h) (zarr_in h2) (by rw [arrV_read _ _ (zin_lt h2)]; rfl) rfl rfl hd (kk _ _ _ _ h3 hR hloc)
    · exact hop.elim
  case arraylength =>
    simp only [zmem] at hop
    split at hop
    · rename_i r j q t
      obtain ⟨h1, h3⟩ := hop
      by_cases h9 : r = 9
      · subst h9
        obtain ⟨-, scr, e1, e2, e3, e4, e5⟩ := hR.2.2.2.2 j q (by omega)
        exact W.alen (a := b) hx hb e1 e2 (by rw [e4]) rfl rfl hd (kk _ _ _ _ h3 hR hloc)
      · obtain ⟨cA, g1, g2, g3, -⟩ := hR.2.2.2.1 r j q h1 h9
        exact W.alen hx hb g1 (g2 _ _) (by rw [arrV_size]) rfl rfl hd (kk _ _ _ _ h3 hR hloc)
    · exact hop.elim
  case iastore =>
    simp only [zmem] at hop
    split at hop
    · rename_i v x r j q t
      obtain ⟨h9, h1, h2, h3⟩ := hop
      obtain ⟨cA, g1, g2, g3, -⟩ := hR.2.2.2.1 r j q (by rw [h1]; omega) h9
      have g1' := g1
      have g2' := g2
      rw [h1] at g1' g2'
      refine W.iast hx hb g1' (g2' _ _) (fun h => by cases h) (zarr_in h2) rfl rfl hd (fun H' e1 e2 e3 => kk _ _ _ _ h3 ?_ (hl1 _ _ _ _ h9))
      refine zRel.put (v := zi v) (n := x.toNatClampNeg) hR h9 (by rw [h1]; omega) g2 g3 (zsame_I fun r' j' q' h => zup4_n _ _ h) (fun i => ?_) (fun h => by omega) (by rw [h1]; exact e1) e2 e3
      rw [h1]
      show zi (zup4 M.1 r j q x.toNatClampNeg v r j q i) = _
      rw [zup4_s]
      split <;> rfl
    · exact hop.elim
  case castore =>
    simp only [zmem] at hop
    split at hop
    · rename_i v x r j q t
      obtain ⟨h1, h2, h3⟩ := hop
      have h9 : r ≠ 9 := h9t (by rw [h1]; decide) (by rw [h1]; decide)
      obtain ⟨cA, g1, g2, g3, g4⟩ := hR.2.2.2.1 r j q (by rw [h1]; omega) h9
      have g1' := g1
      have g2' := g2
      rw [h1] at g1' g2'
      refine W.cast hx hb g1' (g2' _ _) (fun h => by cases h) (zarr_in h2) rfl rfl hd (fun H' e1 e2 e3 => kk _ _ _ _ h3 ?_ (hl1 _ _ _ _ h9))
      refine zRel.put (v := zi (vp_nar .char v)) (n := x.toNatClampNeg) hR h9 (by rw [h1]; omega) g2 g3 (zsame_I fun r' j' q' h => zup4_n _ _ h) (fun i => ?_) (fun h i => ?_) (by rw [h1]; exact e1) e2 e3
      · rw [h1]
        show zi (zup4 M.1 r j q x.toNatClampNeg (vp_nar .char v) r j q i) = _
        rw [zup4_s]
        split <;> rfl
      · show fits .char (.int (zup4 M.1 r j q x.toNatClampNeg (vp_nar .char v) r j q i)) = true
        rw [zup4_s]
        split
        · exact zch_fits v
        · exact g4 h i
    · exact hop.elim
  case lastore =>
    simp only [zmem] at hop
    split at hop
    · rename_i v x r j q t
      obtain ⟨h1, h2, h3⟩ := hop
      have h9 : r ≠ 9 := h9t (by rw [h1]; decide) (by rw [h1]; decide)
      obtain ⟨cA, g1, g2, g3, g4⟩ := hR.2.2.2.1 r j q (by rw [h1]; omega) h9
      have g1' := g1
      have g2' := g2
      rw [h1] at g1' g2'
      refine W.last hx hb g1' (g2' _ _) (fun h => by cases h) (zarr_in h2) rfl rfl hd (fun H' e1 e2 e3 => kk _ _ _ _ h3 ?_ (hl1 _ _ _ _ h9))
      refine zRel.put (v := zl v) (n := x.toNatClampNeg) hR h9 (by rw [h1]; omega) g2 g3 (zsame_L fun r' j' q' h => zup4_n _ _ h) (fun i => ?_) (fun h => by omega) (by rw [h1]; exact e1) e2 e3
      rw [h1]
      show zl (zup4 M.2.1 r j q x.toNatClampNeg v r j q i) = _
      rw [zup4_s]
      split <;> rfl
    · exact hop.elim
  case idiv =>
    simp only [zmem] at hop
    split at hop
    · exact lv_idiv hx hb hd hop.1 (kk _ _ _ _ hop.2 hR hloc)
    · exact hop.elim
  case irem =>
    simp only [zmem] at hop
    split at hop
    · exact lv_irem hx hb hd hop.1 (kk _ _ _ _ hop.2 hR hloc)
    · exact hop.elim
  case ldiv =>
    simp only [zmem] at hop
    split at hop
    · exact lv_ldiv hx hb hd hop.1 (kk _ _ _ _ hop.2 hR hloc)
    · exact hop.elim
  case lrem =>
    simp only [zmem] at hop
    split at hop
    · exact lv_lrem hx hb hd hop.1 (kk _ _ _ _ hop.2 hR hloc)
    · exact hop.elim
  case aaload =>
    simp only [zmem] at hop
    split at hop
    · rename_i x r j q t
      obtain ⟨h1, h2, h3⟩ := hop
      obtain ⟨t1, t2, t3, t4, C, t5⟩ := zel_tag h1
      have h9 : r ≠ 9 := h9t (by omega) (by omega)
      obtain ⟨cA, g1, g2, g3, -⟩ := hR.2.2.2.1 r j q (by omega) h9
      exact W.aald hx hb g1 (g2 _ _) (by rw [t5]; rfl) (fun h => by cases h) (zarr_in h2) (by rw [arrV_read _ _ (zin_lt h2), t3]; rfl) rfl rfl hd (kk _ _ _ _ h3 hR hloc)
    · exact hop.elim
  case aastore =>
    simp only [zmem] at hop
    split at hop
    · rename_i r' j' q' x r j q t
      obtain ⟨h1, h0, h2, h3⟩ := hop
      obtain ⟨t1, t2, t3, t4, C, t5⟩ := zel_tag h1
      obtain ⟨u1, u2⟩ := zel_cl h1
      have h9 : r ≠ 9 := h9t (by omega) (by omega)
      obtain ⟨cA, g1, g2, g3, -⟩ := hR.2.2.2.1 r j q (by omega) h9
      obtain ⟨-, cellV, v1, v2, v3, -⟩ := hR.2.2.1 r' j' q' (zel (M.2.2.2.1 r j q).1 - 1) (by omega) u1
      have hcls := (hK.1.1 _ _ (zcl_at u1)).2
      have g3' := g3
      rw [u2] at g3'
      obtain ⟨kA, comp, k1, k2, k3, -⟩ := g3'
      have hcomp : comp = D.1 (zel (M.2.2.2.1 r j q).1 - 1) := Option.some.inj (k3.symm.trans hcls.1)
      subst hcomp
      obtain ⟨kC, hkC, -⟩ := hcls.2
      have h0' : ¬ x < 0 := fun g => h2 (Or.inl g)
      refine W.aast hx hb g1 (fun g h => by cases h) (fun h => by cases h) k1 k2 rfl hkC ⟨h0', by rw [arrV_size]; exact zin_lt h2⟩ v1 (fun g h => by rw [v3] at h; cases h) (by rw [v2]; exact hkC) (by rw [v2]; exact va_assign hcls) rfl rfl hd (fun H' e1 e2 e3 => kk _ _ _ _ h3 ?_ (hl1 _ _ _ _ h9))
      refine zRel.put (v := zr (some (r', j', q'))) (n := x.toNatClampNeg) hR h9 (by omega) g2 g3 (zsame_P fun r' j' q' h => zup4_n _ _ h) (fun i => ?_) (fun h => by omega) e1 e2 e3
      rw [t3]
      show zr (zup4 M.2.2.1 r j q x.toNatClampNeg (some (r', j', q')) r j q i) = _
      rw [zup4_s]
      split <;> rfl
    · exact hop.elim
  case checkcast idx =>
    obtain ⟨tag, rfl, ht, hlk⟩ := hok
    simp only [zmem] at hop
    split at hop
    · have h1 := ‹[tag] = _›
      simp only [List.cons.injEq, and_true] at h1
      subst h1
      rename_i r j q t _
      obtain ⟨h9, h1, h3⟩ := hop
      · obtain ⟨cA, g1, g2, g3, -⟩ := hR.2.2.2.1 r j q (by omega) h9
        have hz : zak (M.2.2.2.1 r j q).1 = 0 := by rw [h1]; rcases ht with rfl | rfl <;> rfl
        rw [hz] at g1
        refine va_castA (D := D) (cl := vwCl) (x := ((M.2.2.2.1 r j q).2, .inl (fun i => M.1 r j q i))) (ws := [(zrho b base ix (r, j, q), .inl (cA, ((M.2.2.2.1 r j q).2, .inl (fun i => M.1 r j q i))))]) hx hb hown (hts _ hlk) (fun k y hk => ?_) 0 rfl ?_ hd (kk _ _ _ _ h3 hR hloc)
        · have hk0 : k = 0 := by
            have := (List.getElem?_eq_some_iff.mp hk).1
            simp at this; omega
          subst hk0
          cases hk
          exact g1
        · rw [h1] at g3
          rcases ht with rfl | rfl <;> exact g3
    · exact hop.elim
end
end
section
/-! cells that are made, arraycopy, clone, Object's constructor -/
def zkok (Ts : List Jvm.Cond) (AO : List String) (own : String) (i : Instr) (a : List Nat) : Prop := match i with
  | .new idx => ∃ ci, a = [ci, (zcl ci).2.2] ∧ ci < 11 ∧ Jvm.Cond.classLink own idx (zcl ci).1 ∈ Ts
  | .newarray ty => zaty ty ≠ 0 ∧ Jvm.Cond.arrayClass (newarray.typeOf ty) ∈ Ts
  | .anewarray idx => ∃ tag C, a = [tag] ∧ 0 < zel tag ∧ zaf tag = .object C ∧ Jvm.Cond.classLink own idx C ∈ Ts ∧ C ∈ AO
  | _ => True
theorem znew_S (al : Nat → zR) (M : zM) (tag len : Nat) : (znew al M tag len).2.2.2 = (zup3 M.2.2.2.1 (al M.2.2.2.2).1 (al M.2.2.2.2).2.1 (al M.2.2.2.2).2.2 (tag, len), M.2.2.2.2 + 1) := rfl
theorem znew_ne {al : Nat → zR} {M : zM} {tag len r j q : Nat} (h : (r, j, q) ≠ al M.2.2.2.2) (kd i : Nat) : zget (znew al M tag len) kd r j q i = zget M kd r j q i := by
  have h1 : (znew al M tag len).1 r j q = M.1 r j q := zup3_n _ _ h
  have h2 : (znew al M tag len).2.1 r j q = M.2.1 r j q := zup3_n _ _ h
  have h3 : (znew al M tag len).2.2.1 r j q = M.2.2.1 r j q := zup3_n _ _ h
  unfold zget
  rw [h1, h2, h3]
theorem znew_at (al : Nat → zR) (M : zM) (tag len kd i : Nat) : zget (znew al M tag len) kd (al M.2.2.2.2).1 (al M.2.2.2.2).2.1 (al M.2.2.2.2).2.2 i = (match kd with | 1 => zl 0 | 2 => zr none | _ => zi 0) := by
  have h1 : (znew al M tag len).1 (al M.2.2.2.2).1 (al M.2.2.2.2).2.1 (al M.2.2.2.2).2.2 = fun _ => 0 := zup3_s _ _ _ _ _
  have h2 : (znew al M tag len).2.1 (al M.2.2.2.2).1 (al M.2.2.2.2).2.1 (al M.2.2.2.2).2.2 = fun _ => 0 := zup3_s _ _ _ _ _
  have h3 : (znew al M tag len).2.2.1 (al M.2.2.2.2).1 (al M.2.2.2.2).2.1 (al M.2.2.2.2).2.2 = fun _ => none := zup3_s _ _ _ _ _
  unfold zget
  rw [h1, h2, h3]
  rcases kd with _ | _ | _ | kd <;> rfl
section
variable {p : Program} {l : Launch} {e : Env} {R : Room} {s : State} {m : MethodId} {args : Array Value} {below : List Frame} {meth : Method} {c : Code} {H : Heap} {locs : List Loc} {cells slots : Nat} {Q : State → Prop}
variable {cc : ByteArray} {pc len : Nat} {rls : Array Slot} {st : List zV} {i : Instr} {own : String} {Ts Nw : List Jvm.Cond} {AO : List String} {D : va_G} {b base : Nat} {ix : zR → Nat} {al : Nat → zR} {M : zM}
theorem zW_mk (hx : p.tables.exec = Jvm.exec) (hb : c.code = cc) (hown : s.vm.findClass own = some m.cls) (hts : ∀ w ∈ Ts, w.before args s = true) (hcls : zcls Ts) (hK : zK Nw AO D s) (hR : zRel b base ix al D s M H) (hd : decode cc pc = .ok (i, len)) (hlen : len = zlen i) {a : List Nat} (hok : zkok Ts AO own i a) {bc bs : Nat} (hbc : cells + bc ≤ R.cells) (hbs : slots + bs ≤ R.slots)
    {K : Nat → Nat → List zV → zM → Prop} (hop : zmk al i a st M bc bs K) (kk : ∀ dc ds st' M' H', K (bc - dc) (bs - ds) st' M' → dc ≤ bc → ds ≤ bs → zRel b base ix al D s M' H' → W p l e R s m args below meth c H' locs (cells + dc) (slots + ds) Q (F0 m (pc + len) rls (st'.map (zcv (zrho b base ix))))) :
    W p l e R s m args below meth c H locs cells slots Q (F0 m pc rls (st.map (zcv (zrho b base ix)))) := by
  subst hlen
  cases i <;> first
    | (simp [zmk] at hop; done)
    | skip
  case new idx =>
    obtain ⟨ci, rfl, hci, hlk⟩ := hok
    simp only [zmk] at hop
    obtain ⟨h1, h2, h3⟩ := hop
    obtain ⟨w1, w2, w3, w4, w5, w6⟩ := hcls ci hci
    have hKn := hK.1.1 ci _ (zcl_at hci)
    refine W.newcK hx hb hown (hts _ hlk) (hts _ w4) (hts _ w5) rfl hd (by omega) (by omega) hKn.2.1 rfl fun H' kC hkC e1 z1 o1 => ?_
    have hob := (u_born (zty ci) hts w1 hKn hkC e1 w2)
    have hpush := zRel.push (M' := znew al M (ci + 1) 0) (len := 0) hR z1 o1 (by omega) (znew_S al M (ci + 1) 0) (fun r' j' q' h kd i => znew_ne h kd i) (fun ci' hc' h11 => ?_) (fun h => by omega)
    · have := kk 1 (zcl ci).2.2 _ _ _ h3 h1 h2 hpush.1
      rw [List.map_cons, show zcv (zrho b base ix) (zr (some (al M.2.2.2.2))) = .ref H.size by rw [← hpush.2]; rfl] at this
      exact this
    · have e : ci' = ci := by omega
      subst e
      unfold zobj
      rw [show zrho b base ix ((al M.2.2.2.2).1, (al M.2.2.2.2).2.1, (al M.2.2.2.2).2.2) = H.size by
        show zrho b base ix (al M.2.2.2.2) = H.size
        rw [zrho_ne9 (hR.1.2.2.2 _), hR.1.2.2.1, hR.1.1]]
      refine hob.to fun k hk => ?_
      rw [znew_at]
      have h9 := w6 k hk
      generalize zty ci' k = ty at h9 ⊢
      cases ty <;> first | rfl | (exact absurd rfl h9)
  case newarray ty =>
    obtain ⟨hz, hac⟩ := hok
    simp only [zmk] at hop
    split at hop
    · rename_i x t
      obtain ⟨h0, h1, h2, h3, h4⟩ := hop
      refine va_newaK hx hb (hts _ hac) rfl hd rfl h0 rfl ?_ (by omega) (by omega) rfl fun H' cA e1 z1 o1 hAr hNm => ?_
      · have : componentBytes (newarray.typeOf ty) ≤ 8 := by cases ty <;> decide
        calc x.toNatClampNeg * componentBytes (newarray.typeOf ty) ≤ 5000 * 8 := Nat.mul_le_mul h1 this
          _ ≤ 536870912 := by decide
      · have hrho : zrho b base ix (al M.2.2.2.2) = H.size := by rw [zrho_ne9 (hR.1.2.2.2 _), hR.1.2.2.1, hR.1.1]
        have hSe : (znew al M (zaty ty) x.toNatClampNeg).2.2.2.1 (al M.2.2.2.2).1 (al M.2.2.2.2).2.1 (al M.2.2.2.2).2.2 = (zaty ty, x.toNatClampNeg) := zup3_s _ _ _ _ _
        have hpush := zRel.push (M' := znew al M (zaty ty) x.toNatClampNeg) (len := x.toNatClampNeg) hR z1 o1 hz (znew_S al M _ _) (fun r' j' q' h kd i => znew_ne h kd i) (fun ci' hc' h11 => by cases ty <;> simp [zaty] at hc' hz <;> omega) (fun h => ?_)
        · have := kk 1 x.toNatClampNeg _ _ _ h4 h2 h3 hpush.1
          rw [List.map_cons, show zcv (zrho b base ix) (zr (some (al M.2.2.2.2))) = .ref H.size by rw [← hrho]; rfl] at this
          exact this
        · refine ⟨cA, ?_, ?_, ?_, fun _ i => ?_⟩
          · rw [hSe]
            show H'[zrho b base ix (al M.2.2.2.2)]? = _
            rw [hrho, e1]
            congr 2
            funext i
            rw [znew_at]
            cases ty <;> first | rfl | (exact absurd rfl hz)
          · rw [hSe]
            cases ty <;> first | exact hAr | (exact absurd rfl hz)
          · rw [hSe]
            cases ty <;> first | exact hNm | (exact absurd rfl hz)
          · have h1 : (znew al M (zaty ty) x.toNatClampNeg).1 (al M.2.2.2.2).1 (al M.2.2.2.2).2.1 (al M.2.2.2.2).2.2 = fun _ => 0 := zup3_s _ _ _ _ _
            rw [h1]
            rfl
    · exact hop.elim
  case anewarray idx =>
    obtain ⟨tag, C, rfl, hz, hC, hlk, hAO⟩ := hok
    simp only [zmk] at hop
    split at hop
    · have h1 := ‹[tag] = _›
      simp only [List.cons.injEq, and_true] at h1
      subst h1
      rename_i x t _
      obtain ⟨h0, h1, h2, h3, h4⟩ := hop
      obtain ⟨t1, t2, t3, t4, -⟩ := zel_tag hz
      refine W.anew hx hb hown (hts _ hlk) (hK.2.2 C hAO).use rfl hd rfl h0 (by omega) (by omega) (by omega) fun cA kA comp e1 e2 e3 e4 => ?_
      have hrho : zrho b base ix (al M.2.2.2.2) = H.size := by rw [zrho_ne9 (hR.1.2.2.2 _), hR.1.2.2.1, hR.1.1]
      have hSe : (znew al M tag x.toNatClampNeg).2.2.2.1 (al M.2.2.2.2).1 (al M.2.2.2.2).2.1 (al M.2.2.2.2).2.2 = (tag, x.toNatClampNeg) := zup3_s _ _ _ _ _
      have hpush := zRel.push (H' := H.push { cls := cA, slots := Array.replicate x.toNatClampNeg .null, vm := .none }) (M' := znew al M tag x.toNatClampNeg) (len := x.toNatClampNeg) hR (by simp) (fun a ha => by rw [Array.getElem?_push, if_neg (Nat.ne_of_lt ha)]) (by omega) (znew_S al M _ _) (fun r' j' q' h kd i => znew_ne h kd i) (fun ci' hc' h11 => by omega) (fun h => ?_)
      · have := kk 1 x.toNatClampNeg _ _ _ h4 h2 h3 hpush.1
        rw [List.map_cons, show zcv (zrho b base ix) (zr (some (al M.2.2.2.2))) = .ref H.size by rw [← hrho]; rfl] at this
        exact this
      · refine ⟨cA, ?_, ?_, ?_, fun g => by rw [hSe] at g; omega⟩
        · rw [hSe]
          show (H.push _)[zrho b base ix (al M.2.2.2.2)]? = _
          rw [hrho, Array.getElem?_push_size, arrV_new]
          congr 2
          funext i
          rw [znew_at, t3]
          rfl
        · rw [hSe, hC]
          exact fun n z => ⟨fun k h => (by cases h), kA, e2, comp, e3⟩
        · rw [hSe, hC]
          exact ⟨kA, comp, e2, e3, e4, e1⟩
    · exact hop.elim
/-- arraycopy between two arrays of one kind of number -/
theorem zW_cpy {α : Type} (mk : α → Value) (hx : p.tables.exec = Jvm.exec) (hb : c.code = cc) (hml : c.maxLocals = rls.size) (hown : s.vm.findClass own = some m.cls) {idx : Nat} (hlink : (Jvm.Cond.methodLink own idx arraycopyName).before args s = true) (hnat : (Jvm.Cond.native arraycopyName).before args s = true) (hstat : (Jvm.Cond.static arraycopyName).before args s = true) (hini : (Jvm.Cond.initialized "java/lang/System").before args s = true)
    {a0 a : Nat} {c0 c1 : ClassId} {n0 n1 : Nat} {f g : Nat → α} {ty : FieldType} (hc0 : H[a0]? = some (arrV c0 n0 (fun j => mk (f j)))) (hc1 : H[a]? = some (arrV c1 n1 (fun j => mk (g j)))) (ht0 : ArrOfT s c0 ty) (ht1 : ArrOfT s c1 ty) (hprim : refKind ty = false) (hfit : ∀ i, fits ty (mk (f i)) = true) (hnr : ∀ x a, mk x ≠ .ref a)
    {sp dp n : Int32} (h1 : ¬ sp < 0) (h2 : ¬ dp < 0) (h3 : ¬ n < 0) (h4 : sp.toNatClampNeg + n.toNatClampNeg ≤ n0) (h5 : dp.toNatClampNeg + n.toNatClampNeg ≤ n1) {rest : List Value}
    (hframes : 1 ≤ R.frames) (hlocals : (rest.map fun v => v.category).sum + 18 ≤ R.locals) (hdg : decode cc pc = .ok (.invokestatic idx, 3))
    (kk : ∀ (H1 : Heap) (locs1 : List Loc), H1[a]? = some (arrV c1 n1 (fun j => mk (va_cpy f g sp.toNatClampNeg dp.toNatClampNeg n.toNatClampNeg j))) → H1.size = H.size → (∀ q, q ≠ a → H1[q]? = H[q]?) → (∀ l ∈ locs1, l ∈ locs ∨ l.base = a) → W p l e R s m args below meth c H1 locs1 cells slots Q (F0 m (pc + 3) rls rest)) :
    W p l e R s m args below meth c H locs cells slots Q (F0 m pc rls (.int n :: .int dp :: .ref a :: .int sp :: .ref a0 :: rest)) := by
  have nn : ∀ z : Int32, ¬ z < 0 → z.toInt = (z.toNatClampNeg : Int) := by
    intro z hz
    have hz0 : (0 : Int) ≤ z.toInt := by
      have := Int32.not_lt.mp hz
      simpa using Int32.le_iff_toInt_le.mp this
    show z.toInt = ((z.toInt.toNat : Nat) : Int)
    omega
  intro T hT X
  obtain ⟨-, k0, hk0, cm0, hkk0⟩ := ht0 n0 (fun j => mk (f j))
  obtain ⟨-, k1, hk1, cm1, hkk1⟩ := ht1 n1 (fun j => mk (g j))
  obtain ⟨vm', X', step⟩ := X.arraycopy hx hown hlink hnat hstat hini (src := a0) (dst := a) (cs := arrV c0 n0 (fun j => mk (f j))) (cd := arrV c1 n1 (fun j => mk (g j))) (srcPos := sp) (destPos := dp) (n := n) (by rw [hT]; exact hc0) (by rw [hT]; exact hc1)
    (fun _ h => by cases h) (fun _ h => by cases h) (fun h => by cases h) (fun h => by cases h) hk0 hk1 hkk0 hkk1 (by simp [hprim]) h1 h2 h3
    (by rw [nn sp h1, nn n h3, arrV_size]; omega)
    (by rw [nn dp h2, nn n h3, arrV_size]; omega)
    (fun vm₁ _ i hi => by
      have e : (arrV c0 n0 (fun j => mk (f j))).slots.getD (sp.toNatClampNeg + i) .null = mk (f (sp.toNatClampNeg + i)) := by
        rw [Array.getD_eq_getD_getElem?, arrV_read _ _ (by omega)]
        rfl
      refine ⟨?_, ?_⟩
      · rw [e]
        exact hfit _
      · rw [e]
        generalize hz : mk (f (sp.toNatClampNeg + i)) = z
        cases z <;> first | exact trivial | exact absurd hz (hnr _ _))
    (g := F0 m pc rls (.int n :: .int dp :: .ref a :: .int sp :: .ref a0 :: rest)) rfl (by rw [hml]) (rest := rest) rfl (by rw [hb]; exact hdg) hframes (by
      have e : nativeFrameWords "java/lang/System" "arraycopy" 5 = 7 := by decide
      show 2 * 0 + _ + _ ≤ _
      first | (rw [e]; omega) | omega)
  have e1 : copied (arrV c0 n0 (fun j => mk (f j))) (arrV c1 n1 (fun j => mk (g j))) sp dp n = arrV c1 n1 (fun j => mk (va_cpy f g sp.toNatClampNeg dp.toNatClampNeg n.toNatClampNeg j)) := va_copied mk c0 c1 f g h4
  rw [e1] at X' step
  have hl : a < H.size := (Array.getElem?_eq_some_iff.mp hc1).1
  have hheap : ((T.setVm vm').setCell a (arrV c1 n1 (fun j => mk (va_cpy f g sp.toNatClampNeg dp.toNatClampNeg n.toNatClampNeg j)))).heap = H.setIfInBounds a (arrV c1 n1 (fun j => mk (va_cpy f g sp.toNatClampNeg dp.toNatClampNeg n.toNatClampNeg j))) := by rw [← hT]; rfl
  obtain ⟨t, a1, b1⟩ := kk _ _ (by simp [Array.getElem?_setIfInBounds, hl]) (by simp) (fun q hq => by simp [Array.getElem?_setIfInBounds, Ne.symm hq]) (fun q hq => by
      rcases List.mem_append.mp hq with h | h
      · exact Or.inl h
      · obtain ⟨z, -, hz⟩ := List.mem_map.mp h
        rw [← hz]
        exact Or.inr rfl) _ hheap X'
  exact ⟨t, step t a1, b1⟩
/-- clone of an array of numbers -/
theorem zW_cln (hx : p.tables.exec = Jvm.exec) (hb : c.code = cc) (hml : c.maxLocals = rls.size) (hown : s.vm.findClass own = some m.cls) {ad : String} {idx : Nat}
    (hlink : (Jvm.Cond.methodLink own idx ⟨ad, "clone", "()Ljava/lang/Object;"⟩).before args s = true) (hsame : (Jvm.Cond.sameMethod ad "java/lang/Object" "clone" "()Ljava/lang/Object;").before args s = true)
    (hnat : (Jvm.Cond.native ⟨"java/lang/Object", "clone", "()Ljava/lang/Object;"⟩).before args s = true) (hinst : (Jvm.Cond.instanceMethod ⟨"java/lang/Object", "clone", "()Ljava/lang/Object;"⟩).before args s = true)
    (hsel : (Jvm.Cond.selects ad ⟨ad, "clone", "()Ljava/lang/Object;"⟩ ⟨"java/lang/Object", "clone", "()Ljava/lang/Object;"⟩).before args s = true) (hcl : va_Nw (.castable ad "java/lang/Cloneable") s)
    {a : Nat} {cA : ClassId} {n : Nat} {f : Nat → Int32} {ty : FieldType} (hcell : H[a]? = some (arrV cA n (fun j => .int (f j)))) (ht0 : ArrOfT s cA ty) (hnm : s.vm.findClass ad = some cA) (hfit : ∀ i, fits ty (.int (f i)) = true) {rest : List Value}
    (hframes : 1 ≤ R.frames) (hlocals : (rest.map fun v => v.category).sum + 14 ≤ R.locals) (hcells : cells + 1 ≤ R.cells) (hslots : slots + n ≤ R.slots) (hdg : decode cc pc = .ok (.invokevirtual idx, 3))
    (kk : W p l e R s m args below meth c (H.push (arrV cA n (fun j => .int (f j)))) locs (cells + 1) (slots + n) Q (F0 m (pc + 3) rls (.ref H.size :: rest))) : W p l e R s m args below meth c H locs cells slots Q (F0 m pc rls (.ref a :: rest)) := by
  have hsz : (arrV cA n (fun j => Value.int (f j))).slots.size = n := arrV_size _ _ _
  obtain ⟨c0, t0', f1, f2, f3⟩ := Cond.castable_spec (va_Nw.use (A := args) rfl hcl)
  cases hnm.symm.trans f1
  intro T hT X
  have hcellT : T.heap[a]? = some (arrV cA n (fun j => .int (f j))) := by rw [hT]; exact hcell
  obtain ⟨-, kA, hkA, comp, hkind⟩ := State.isArrayOf_alike X.warmed.alike (ht0 0 (fun _ => .null))
  obtain ⟨-, kS, hkS, compS, hkindS⟩ := ht0 0 (fun _ => .null)
  obtain ⟨vm', X', st⟩ := X.cloneArray hx hown hlink hsame hnat hinst hsel (a := a) (cell := arrV cA n (fun j => .int (f j))) hcellT (fun k h => by cases h) (fun h => by cases h) hnm f2 f3
    (fun i v hv => by
      have hk' : T.vm.classes[cA]? = some kA := hkA
      have hi : i < n := by
        have := (Array.getElem?_eq_some_iff.mp hv).1
        rw [hsz] at this; exact this
      rw [arrV_read _ _ hi] at hv
      cases hv
      show T.fitsSlot cA .none i (.int (f i)) = true
      simpa [State.fitsSlot, State.slotType?, hk', hkind] using hfit i)
    (g := F0 m pc rls (.ref a :: rest)) rfl (by rw [hml]) rfl (by rw [hb]; exact hdg) hframes (by show 2 * 0 + _ + 14 ≤ _; omega) hcells (by rw [hsz]; exact hslots) (hloader := Vm.clonesLoader_of_array hkS hkindS)
  have hcellE : ({ cls := (arrV cA n (fun j => Value.int (f j))).cls, slots := (arrV cA n (fun j => Value.int (f j))).slots } : Cell) = arrV cA n (fun j => .int (f j)) := rfl
  rw [hcellE, hsz] at X'
  obtain ⟨t, b1, b2⟩ := kk ((T.setVm vm').pushCell (arrV cA n (fun j => .int (f j)))) (by rw [← hT]; rfl) X'
  refine ⟨t, st t ?_, b2⟩
  rw [hcellE, hT]
  exact b1
/-- what the tables say of the machine's own methods -/
def zclok (Ts Nw : List Jvm.Cond) (own : String) (i : Instr) (t0 : Nat) : Prop := ∃ idx, i = .invokevirtual idx ∧ Jvm.Cond.methodLink own idx ⟨"[" ++ (zaf t0).toString, "clone", "()Ljava/lang/Object;"⟩ ∈ Ts ∧ Jvm.Cond.sameMethod ("[" ++ (zaf t0).toString) "java/lang/Object" "clone" "()Ljava/lang/Object;" ∈ Ts ∧ Jvm.Cond.native ⟨"java/lang/Object", "clone", "()Ljava/lang/Object;"⟩ ∈ Ts ∧ Jvm.Cond.instanceMethod ⟨"java/lang/Object", "clone", "()Ljava/lang/Object;"⟩ ∈ Ts ∧ Jvm.Cond.selects ("[" ++ (zaf t0).toString) ⟨"[" ++ (zaf t0).toString, "clone", "()Ljava/lang/Object;"⟩ ⟨"java/lang/Object", "clone", "()Ljava/lang/Object;"⟩ ∈ Ts ∧ Jvm.Cond.castable ("[" ++ (zaf t0).toString) "java/lang/Cloneable" ∈ Nw
def znok (Ts Nw : List Jvm.Cond) (own : String) (i : Instr) (mode : Nat) : Prop := match mode with
  | 5 => ∃ idx, i = .invokestatic idx ∧ Jvm.Cond.methodLink own idx arraycopyName ∈ Ts ∧ Jvm.Cond.native arraycopyName ∈ Ts ∧ Jvm.Cond.static arraycopyName ∈ Ts ∧ Jvm.Cond.initialized "java/lang/System" ∈ Ts
  | 6 => zclok Ts Nw own i 20
  | 7 => zclok Ts Nw own i 22
  | 8 => ∃ idx, i = .invokespecial idx ∧ Jvm.Cond.methodLink own idx objectInit ∈ Ts ∧ Jvm.Cond.instanceMethod objectInit ∈ Ts ∧ Jvm.Cond.code objectInit ⟨#[0xb1]⟩ 1 none ∈ Ts
  | 9 => ∃ idx, i = .invokestatic idx ∧ Jvm.Cond.methodLink own idx Lib.Math.max.name ∈ Ts ∧ Jvm.Cond.static Lib.Math.max.name ∈ Ts ∧ Jvm.Cond.initialized "java/lang/Math" ∈ Ts ∧ Jvm.Cond.code Lib.Math.max.name Lib.Math.max.code 2 (some .int) ∈ Ts
  | 10 => ∃ idx, i = .invokestatic idx ∧ Jvm.Cond.methodLink own idx Lib.Math.min.name ∈ Ts ∧ Jvm.Cond.static Lib.Math.min.name ∈ Ts ∧ Jvm.Cond.initialized "java/lang/Math" ∈ Ts ∧ Jvm.Cond.code Lib.Math.min.name Lib.Math.min.code 2 (some .int) ∈ Ts
  | _ => False
theorem zW_cl2 (hx : p.tables.exec = Jvm.exec) (hb : c.code = cc) (hml : c.maxLocals = rls.size) (hown : s.vm.findClass own = some m.cls) (hts : ∀ w ∈ Ts, w.before args s = true) (hK : zK Nw AO D s) (hR : zRel b base ix al D s M H) (hd : decode cc pc = .ok (i, 3)) {t0 : Nat} (ht0 : t0 = 20 ∨ t0 = 22) (hok : zclok Ts Nw own i t0) {bc bs : Nat} (hbc : cells + bc ≤ R.cells) (hbs : slots + bs ≤ R.slots) (hfr : 1 ≤ R.frames) (hlo : 64 ≤ R.locals)
    {K : Nat → Nat → List zV → zM → Prop} (hop : zcln al t0 st M bc bs K) (kk : ∀ dc ds st' M' H', K (bc - dc) (bs - ds) st' M' → dc ≤ bc → ds ≤ bs → zRel b base ix al D s M' H' → W p l e R s m args below meth c H' locs (cells + dc) (slots + ds) Q (F0 m (pc + 3) rls (st'.map (zcv (zrho b base ix))))) :
    W p l e R s m args below meth c H locs cells slots Q (F0 m pc rls (st.map (zcv (zrho b base ix)))) := by
  obtain ⟨idx, rfl, o1, o2, o3, o4, o5, o6⟩ := hok
  unfold zcln at hop
  split at hop
  · rename_i r j q t
    obtain ⟨h1, h9, h2, h3, h4, h5⟩ := hop
    obtain ⟨cA, g1, g2, g3, g4⟩ := hR.2.2.2.1 r j q (by omega) h9
    have hz : zak (M.2.2.2.1 r j q).1 = 0 := by rw [h2]; rcases ht0 with rfl | rfl <;> rfl
    rw [hz] at g1
    rw [h2] at g2 g3 g4
    have hnm : s.vm.findClass ("[" ++ (zaf t0).toString) = some cA := by rcases ht0 with rfl | rfl <;> exact g3
    have hfit : ∀ i, fits (zaf t0) (.int (M.1 r j q i)) = true := by
      intro i
      rcases ht0 with rfl | rfl
      · rfl
      · exact g4 rfl i
    refine zW_cln (f := M.1 r j q) hx hb hml hown (hts _ o1) (hts _ o2) (hts _ o3) (hts _ o4) (hts _ o5) (hK.2.1 _ o6) g1 g2 hnm hfit hfr (by rw [zcv_cats]; omega) (by omega) (by omega) hd ?_
    have hrho : zrho b base ix (al M.2.2.2.2) = H.size := by rw [zrho_ne9 (hR.1.2.2.2 _), hR.1.2.2.1, hR.1.1]
    have hsz : (M.2.2.2.1 r j q).2 = (M.2.2.2.1 r j q).2 := rfl
    have hpush := zRel.push (H' := H.push (arrV cA (M.2.2.2.1 r j q).2 (fun i => .int (M.1 r j q i)))) (M' := (zup3 M.1 (al M.2.2.2.2).1 (al M.2.2.2.2).2.1 (al M.2.2.2.2).2.2 (M.1 r j q), zup3 M.2.1 (al M.2.2.2.2).1 (al M.2.2.2.2).2.1 (al M.2.2.2.2).2.2 (fun _ => 0), zup3 M.2.2.1 (al M.2.2.2.2).1 (al M.2.2.2.2).2.1 (al M.2.2.2.2).2.2 (fun _ => none), zup3 M.2.2.2.1 (al M.2.2.2.2).1 (al M.2.2.2.2).2.1 (al M.2.2.2.2).2.2 (t0, (M.2.2.2.1 r j q).2), M.2.2.2.2 + 1)) (tag := t0) (len := (M.2.2.2.1 r j q).2) hR (by simp) (fun a ha => by rw [Array.getElem?_push, if_neg (Nat.ne_of_lt ha)]) (by omega) rfl (fun r' j' q' h kd i => ?_) (fun ci' hc' h11 => by omega) (fun h => ?_)
    · have := kk 1 (M.2.2.2.1 r j q).2 _ _ _ h5 h3 h4 hpush.1
      rw [List.map_cons, show zcv (zrho b base ix) (zr (some (al M.2.2.2.2))) = .ref H.size by rw [← hrho]; rfl] at this
      exact this
    · unfold zget
      simp only [zup3_n _ _ h]
    · have e1 : zup3 M.1 (al M.2.2.2.2).1 (al M.2.2.2.2).2.1 (al M.2.2.2.2).2.2 (M.1 r j q) (al M.2.2.2.2).1 (al M.2.2.2.2).2.1 (al M.2.2.2.2).2.2 = M.1 r j q := zup3_s _ _ _ _ _
      have e2 : zup3 M.2.2.2.1 (al M.2.2.2.2).1 (al M.2.2.2.2).2.1 (al M.2.2.2.2).2.2 (t0, (M.2.2.2.1 r j q).2) (al M.2.2.2.2).1 (al M.2.2.2.2).2.1 (al M.2.2.2.2).2.2 = (t0, (M.2.2.2.1 r j q).2) := zup3_s _ _ _ _ _
      have hz0 : zak t0 = 0 := by rw [h2] at hz; exact hz
      refine ⟨cA, ?_, ?_, ?_, fun ht i => ?_⟩
      · simp only [e2, hz0]
        show (H.push _)[zrho b base ix (al M.2.2.2.2)]? = _
        rw [hrho, Array.getElem?_push_size]
        congr 2
        funext i
        show _ = zcv _ (zi (zup3 M.1 (al M.2.2.2.2).1 (al M.2.2.2.2).2.1 (al M.2.2.2.2).2.2 (M.1 r j q) (al M.2.2.2.2).1 (al M.2.2.2.2).2.1 (al M.2.2.2.2).2.2 i))
        rw [e1]
        rfl
      · simp only [e2]; exact g2
      · simp only [e2]; exact g3
      · simp only [e2] at ht
        show fits .char (.int (zup3 M.1 (al M.2.2.2.2).1 (al M.2.2.2.2).2.1 (al M.2.2.2.2).2.2 (M.1 r j q) (al M.2.2.2.2).1 (al M.2.2.2.2).2.1 (al M.2.2.2.2).2.2 i)) = true
        rw [e1]
        exact g4 ht i
  · exact hop.elim
theorem zW_nat (hx : p.tables.exec = Jvm.exec) (hb : c.code = cc) (hml : c.maxLocals = rls.size) (hown : s.vm.findClass own = some m.cls) (hts : ∀ w ∈ Ts, w.before args s = true) (hK : zK Nw AO D s) (hR : zRel b base ix al D s M H) (hd : decode cc pc = .ok (i, 3)) {mode : Nat} (hok : znok Ts Nw own i mode) {bc bs : Nat} (hbc : cells + bc ≤ R.cells) (hbs : slots + bs ≤ R.slots) (hfr : 1 ≤ R.frames) (hlo : 64 ≤ R.locals) (hloc : ∀ l ∈ locs, base ≤ l.base)
    {K : Nat → Nat → List zV → zM → Prop} (hop : znat al mode st M bc bs K) (kk : ∀ dc ds st' M' H' locs', K (bc - dc) (bs - ds) st' M' → dc ≤ bc → ds ≤ bs → zRel b base ix al D s M' H' → (∀ l ∈ locs', base ≤ l.base) → W p l e R s m args below meth c H' locs' (cells + dc) (slots + ds) Q (F0 m (pc + 3) rls (st'.map (zcv (zrho b base ix))))) :
    W p l e R s m args below meth c H locs cells slots Q (F0 m pc rls (st.map (zcv (zrho b base ix)))) := by
  unfold znat at hop
  split at hop
  · obtain ⟨idx, rfl, o1, o2, o3, o4⟩ := hok
    split at hop
    · rename_i n dp r j q sp r' j' q' t
      obtain ⟨h1, h9, h9', h2, h3, h4, h5, h6, h7, h8⟩ := hop
      have hlocs : ∀ locs1 : List Loc, (∀ l ∈ locs1, l ∈ locs ∨ l.base = zrho b base ix (r, j, q)) → ∀ l ∈ locs1, base ≤ l.base := by
        intro locs1 g l hl
        rcases g l hl with g | g
        · exact hloc l g
        · rw [g, zrho_ne9 h9]; omega
      rcases h8 with ⟨ht, hk⟩ | ⟨ht, hk⟩
      · have htag : 19 < (M.2.2.2.1 r j q).1 := by omega
        obtain ⟨cA, g1, g2, g3, g4⟩ := hR.2.2.2.1 r j q htag h9
        obtain ⟨cA', g1', g2', g3', g4'⟩ := hR.2.2.2.1 r' j' q' (by omega) h9'
        have hz : zak (M.2.2.2.1 r j q).1 = 0 := by rcases ht with ht | ht <;> rw [ht] <;> rfl
        rw [h2] at g1' g2' g4'
        rw [hz] at g1 g1'
        have hfit : ∀ i, fits (zaf (M.2.2.2.1 r j q).1) (.int (M.1 r' j' q' i)) = true := by
          intro i
          rcases ht with ht | ht
          · rw [ht]; rfl
          · rw [ht]; exact g4' ht i
        refine zW_cpy (fun x => .int x) (f := M.1 r' j' q') (g := M.1 r j q) hx hb hml hown (hts _ o1) (hts _ o2) (hts _ o3) (hts _ o4) g1' g1 g2' g2 (by rcases ht with ht | ht <;> rw [ht] <;> rfl) hfit (fun x a h => by cases h) h3 h4 h5 h6 h7 hfr (by rw [zcv_cats]; omega) hd (fun H1 locs1 e1 e2 e3 e4 => ?_)
        refine kk 0 0 _ _ H1 locs1 hk (Nat.zero_le _) (Nat.zero_le _) ?_ (hlocs locs1 e4)
        refine hR.set h9 (by omega) e2 e3 (zsame_I fun r1 j1 q1 h => zup3_n _ _ h) (fun ci hc h11 => by omega) (fun _ => ⟨cA, ?_, g2, g3, ?_⟩)
        · rw [e1]
          show _ = some (arrV cA (M.2.2.2.1 r j q).2 (fun i => zcv (zrho b base ix) (zget _ (zak (M.2.2.2.1 r j q).1) r j q i)))
          rw [hz]
          congr 2
          funext i
          show _ = zcv _ (zi (zup3 M.1 r j q _ r j q i))
          rw [zup3_s]
          rfl
        · intro h22 i
          show fits .char (.int (zup3 M.1 r j q _ r j q i)) = true
          rw [zup3_s]
          unfold va_cpy
          split
          · exact g4' h22 _
          · exact g4 h22 _
      · obtain ⟨cA, g1, g2, g3, g4⟩ := hR.2.2.2.1 r j q (by omega) h9
        obtain ⟨cA', g1', g2', g3', g4'⟩ := hR.2.2.2.1 r' j' q' (by omega) h9'
        have hz : zak (M.2.2.2.1 r j q).1 = 1 := by rw [ht]; rfl
        rw [h2] at g1' g2'
        rw [hz] at g1 g1'
        refine zW_cpy (fun x => .long x) (f := M.2.1 r' j' q') (g := M.2.1 r j q) hx hb hml hown (hts _ o1) (hts _ o2) (hts _ o3) (hts _ o4) g1' g1 g2' g2 (by rw [ht]; rfl) (fun i => by rw [ht]; rfl) (fun x a h => by cases h) h3 h4 h5 h6 h7 hfr (by rw [zcv_cats]; omega) hd (fun H1 locs1 e1 e2 e3 e4 => ?_)
        refine kk 0 0 _ _ H1 locs1 hk (Nat.zero_le _) (Nat.zero_le _) ?_ (hlocs locs1 e4)
        refine hR.set h9 (by omega) e2 e3 (zsame_L fun r1 j1 q1 h => zup3_n _ _ h) (fun ci hc h11 => by omega) (fun _ => ⟨cA, ?_, g2, g3, fun h => absurd (ht.symm.trans h) (by decide)⟩)
        rw [e1]
        show _ = some (arrV cA (M.2.2.2.1 r j q).2 (fun i => zcv (zrho b base ix) (zget _ (zak (M.2.2.2.1 r j q).1) r j q i)))
        rw [hz]
        congr 2
        funext i
        show _ = zcv _ (zl (zup3 M.2.1 r j q _ r j q i))
        rw [zup3_s]
        rfl
    · exact hop.elim
  · exact zW_cl2 hx hb hml hown hts hK hR hd (Or.inl rfl) hok hbc hbs hfr hlo hop (fun dc ds st' M' H' h1 h2 h3 h4 => kk dc ds st' M' H' locs h1 h2 h3 h4 hloc)
  · exact zW_cl2 hx hb hml hown hts hK hR hd (Or.inr rfl) hok hbc hbs hfr hlo hop (fun dc ds st' M' H' h1 h2 h3 h4 => kk dc ds st' M' H' locs h1 h2 h3 h4 hloc)
  · obtain ⟨idx, rfl, o1, o2, o3⟩ := hok
    split at hop
    · rename_i r t
      exact W.objInit hx hb hown (hts _ o1) (hts _ o2) (hts _ o3) rfl hml.symm rfl hd hfr (by show 2 * 0 + _ + 12 ≤ _; rw [zcv_cats]; omega) (kk 0 0 _ _ _ _ hop.2 (Nat.zero_le _) (Nat.zero_le _) hR hloc)
    · exact hop.elim
  · obtain ⟨idx, rfl, o1, o2, o3, o4⟩ := hok
    split at hop
    · exact va_mmax hx hb hml hown (hts _ o1) (hts _ o2) (hts _ o3) (hts _ o4) hfr (by rw [zcv_cats]; omega) (by omega) (by omega) hd (kk 0 0 _ _ _ _ hop.2 (Nat.zero_le _) (Nat.zero_le _) hR hloc)
    · exact hop.elim
  · obtain ⟨idx, rfl, o1, o2, o3, o4⟩ := hok
    split at hop
    · exact va_mmin hx hb hml hown (hts _ o1) (hts _ o2) (hts _ o3) (hts _ o4) hfr (by rw [zcv_cats]; omega) (by omega) (by omega) hd (kk 0 0 _ _ _ _ hop.2 (Nat.zero_le _) (Nat.zero_le _) hR hloc)
    · exact hop.elim
  · exact hop.elim
end
end
section
/-! calls, returns, and the whole: what the interpreter comes to, the machine comes to -/
def zPc (Nw : List Jvm.Cond) (AO : List String) (D : va_G) (b base : Nat) (ix : zR → Nat) (al : Nat → zR) (as : List zV) (M : zM) : Array Value → State → Prop := fun v U => v = (as.map (zcv (zrho b base ix))).toArray ∧ zK Nw AO D U ∧ zRel b base ix al D U M U.heap
def zQc (D : va_G) (b base : Nat) (ix : zR → Nat) (al : Nat → zR) (Q : Option zV → zM → Prop) : Array Value → State → Outcome → State → Prop := fun _ _ o t => ∃ r M', o = .returned (r.map (zcv (zrho b base ix))) ∧ zRel b base ix al D t M' t.heap ∧ Q r M'
theorem zPc_blind {Nw : List Jvm.Cond} {AO : List String} {D : va_G} {b base : Nat} {ix : zR → Nat} {al : Nat → zR} {as : List zV} {M : zM} (hN : ∀ w ∈ Nw, znw w) : FrameBlind (zPc Nw AO D b base ix al as M) := fun a U g mk h => ⟨h.1, zK.same (s := U) (U := U.calling g mk a) hN rfl h.2.1, zRel.moved (U := U) (U' := U.calling g mk a) h.2.2 (Vm.Alike.refl U.vm)⟩
section
variable (Y : Nat → MethodName) (B : Nat → ByteArray) (X : Nat → Nat) (T : Nat → Option FieldType) (Ts Nw : List Jvm.Cond)
def zws (mid : Nat) : List Jvm.Cond := Jvm.Cond.code (Y mid) (B mid) (X mid) (T mid) :: Ts
/-- what the tables say of a call -/
def zcok (own : String) (i : Instr) (a : List Nat) : Prop := (∃ mode, a = [mode] ∧ znok Ts Nw own i mode) ∨ ∃ mode mid cl na bc bs np, a = [mode, mid, cl, na, X mid, bc, bs] ∧ Jvm.Cond.code (Y mid) (B mid) (X mid) (T mid) ∈ Ts ∧ Jvm.Cond.initialized (Y mid).cls ∈ Ts ∧ ((Y mid).cls ≠ "java/lang/invoke/MethodHandle" ∧ (Y mid).cls ≠ "java/lang/invoke/VarHandle") ∧ (∀ sig, parseMethodDescriptor (Y mid).desc = some sig → np = sig.parameters.length) ∧ plainName (Y mid).cls = true ∧ X mid ≤ 40 ∧
  ((mode = 0 ∧ na = np + 1 ∧ cl < 11 ∧ ∃ idx, i = .invokevirtual idx ∧ Jvm.Cond.methodLink own idx (Y mid) ∈ Ts ∧ Jvm.Cond.instanceMethod (Y mid) ∈ Ts ∧ Jvm.Cond.selects (zcl cl).1 (Y mid) (Y mid) ∈ Ts) ∨
   (mode = 1 ∧ na = np ∧ ∃ idx, i = .invokestatic idx ∧ Jvm.Cond.methodLink own idx (Y mid) ∈ Ts ∧ Jvm.Cond.static (Y mid) ∈ Ts) ∨
   (mode = 2 ∧ na = np + 1 ∧ T mid = none ∧ (Y mid).name = "<init>" ∧ ∃ idx, i = .invokespecial idx ∧ Jvm.Cond.methodLink own idx (Y mid) ∈ Ts ∧ Jvm.Cond.instanceMethod (Y mid) ∈ Ts) ∨
   (mode = 3 ∧ na = np ∧ ∃ idx host, i = .invokestatic idx ∧ Jvm.Cond.methodLinkNest own idx (Y mid) host ∈ Nw ∧ Jvm.Cond.static (Y mid) ∈ Ts) ∨
   (mode = 4 ∧ na = np + 1 ∧ T mid = none ∧ (Y mid).name = "<init>" ∧ ∃ idx host, i = .invokespecial idx ∧ Jvm.Cond.methodLinkNest own idx (Y mid) host ∈ Nw ∧ Jvm.Cond.instanceMethod (Y mid) ∈ Ts))
def zrok (mid : Nat) (i : Instr) (a : List Nat) : Prop := match i with
  | .ireturn => (a = [0] ∧ T mid = some .int) ∨ (a = [1] ∧ T mid = some .boolean) ∨ (a = [2] ∧ T mid = some .char)
  | .lreturn => T mid = some .long
  | .areturn => (∃ n, T mid = some (.object n)) ∨ ∃ t, T mid = some (.array t)
  | .return_ => T mid = none
  | _ => True
/-- what the tables say of an instruction -/
def zsite (AO : List String) (mid pc : Nat) (e : zE) : Prop := decode (B mid) pc = .ok (e.1, e.2.1) ∧ ((∀ a b d f, e.1 ≠ .tableswitch a b d f) → e.2.1 = zlen e.1) ∧ zconst (Y mid).cls e.1 e.2.2.2 Ts ∧ zjok e.1 pc ∧ zmok Ts Nw (Y mid).cls (Y mid).name e.1 e.2.2.1 ∧ zkok Ts AO (Y mid).cls e.1 e.2.2.1 ∧ (zcall e.1 = true → zcok Y B X T Ts Nw (Y mid).cls e.1 e.2.2.1) ∧ zrok T mid e.1 e.2.2.1
end
section
variable {Y : Nat → MethodName} {B : Nat → ByteArray} {X : Nat → Nat} {T : Nat → Option FieldType} {Ts Nw : List Jvm.Cond} {AO : List String}
variable {p : Program} {l : Launch} {e : Env} {R : Room} {s : State} {m : MethodId} {args : Array Value} {below : List Frame} {meth : Method} {c : Code} {H : Heap} {locs : List Loc} {cells slots : Nat} {Q : State → Prop}
variable {cc : ByteArray} {pc len : Nat} {rls : Array Slot} {st : List zV} {i : Instr} {own : String} {D : va_G} {b base : Nat} {ix : zR → Nat} {al : Nat → zR} {M : zM}
theorem zpush_map (ρ : zR → Nat) (r : Option zV) (t : List zV) : (r.map (zcv ρ)).toList ++ t.map (zcv ρ) = (zpush r t).map (zcv ρ) := by
  cases r <;> rfl
theorem zW_run {mc ms : Nat} {Q' : Option zV → zM → Prop} {rest : List zV} {g : JFrame} {Qa : Array Value} (hg : g = F0 m pc rls (st.map (zcv (zrho b base ix))))
    (hrun : va_Run p l e R s m args below meth c H locs cells slots mc ms g (rest.map (zcv (zrho b base ix))) (zQc D b base ix al Q' Qa) (fun q => base ≤ q)) (hloc : ∀ l ∈ locs, base ≤ l.base)
    (kk : ∀ r M' H' locs', Q' r M' → zRel b base ix al D s M' H' → (∀ l ∈ locs', base ≤ l.base) → W p l e R s m args below meth c H' locs' (cells + mc) (slots + ms) Q (F0 m (pc + 3) rls ((zpush r rest).map (zcv (zrho b base ix))))) :
    W p l e R s m args below meth c H locs cells slots Q (F0 m pc rls (st.map (zcv (zrho b base ix)))) := by
  subst hg
  intro T0 hT Xs
  obtain ⟨v, st0, t, T', L, e0, X', hL, e1, e2, ⟨r, M', hv, hRel, hQ⟩, hgo⟩ := hrun T0 hT Xs
  cases hv
  have hal : t.vm.Alike s.vm := by rw [← e2]; exact X'.warmed.alike.symm
  obtain ⟨t2, s1, q1⟩ := kk r M' T'.heap (locs ++ L) hQ (by rw [e1]; exact hRel.moved hal) (fun q hq => by
    rcases List.mem_append.mp hq with h | h
    · exact hloc q h
    · exact hL q h) T' rfl X'
  refine ⟨t2, hgo t2 ?_, q1⟩
  rw [zpush_map]
  exact s1
theorem zW_call (hx : p.tables.exec = Jvm.exec) (hb : c.code = cc) (hml : c.maxLocals = rls.size) (hown : s.vm.findClass own = some m.cls) (hts : ∀ w ∈ Ts, w.before args s = true) (hgood : ∀ w ∈ Ts, (w.onTables && w.keeps) = true ∨ ∃ ty, w = .arrayClass ty) (hN : ∀ w ∈ Nw, znw w) (hK : zK Nw AO D s) (hR : zRel b base ix al D s M H) (hd : decode cc pc = .ok (i, 3)) (hloc : ∀ l ∈ locs, base ≤ l.base)
    {mode mid cl na bc bs : Nat} (hok : zcok Y B X T Ts Nw own i [mode, mid, cl, na, X mid, bc, bs]) (hna : na ≤ st.length) (hcat : zcats (st.drop na) ≤ 8) (hrec : zrec mode cl (st.take na).reverse M) {d : Nat} {Q' : Option zV → zM → Prop} (hfr : d + 1 ≤ R.frames) (hlo : 64 * (d + 1) ≤ R.locals) (hbc : cells + bc ≤ R.cells) (hbs : slots + bs ≤ R.slots)
    (hM : Met l (Y mid) (zws Y B X T Ts mid) { frames := d, cells := bc, slots := bs, locals := 64 * d } (zPc Nw AO D b base ix al (st.take na).reverse M) (zQc D b base ix al Q') bc bs (fun q => base ≤ q))
    (kk : ∀ r M' H' locs', Q' r M' → zRel b base ix al D s M' H' → (∀ l ∈ locs', base ≤ l.base) → W p l e R s m args below meth c H' locs' (cells + bc) (slots + bs) Q (F0 m (pc + 3) rls ((zpush r (st.drop na)).map (zcv (zrho b base ix))))) :
    W p l e R s m args below meth c H locs cells slots Q (F0 m pc rls (st.map (zcv (zrho b base ix)))) := by
  rcases hok with ⟨mode', h, -⟩ | ⟨mode', mid', cl', na', bc', bs', np, ha, hcode, hini, hmh, hpar, hpl, hX, hmode⟩
  · simp at h
  simp only [List.cons.injEq, and_true] at ha
  obtain ⟨rfl, rfl, rfl, rfl, -, rfl, rfl⟩ := ha
  have hS : CallFix p m c cc rls.size s args Ts own := ⟨hx, hb, hml, hown, hts⟩
  have hws : ∀ w ∈ zws Y B X T Ts mid, ∀ (a' : Array Value) (U : State), s.WarmedH U.vm → w.before a' U = true := by
    intro w hw a' U hW
    rcases List.mem_cons.mp hw with rfl | hw
    · exact word_at hW (hgood _ hcode) (hts _ hcode)
    · exact word_at hW (hgood _ hw) (hts _ hw)
  have hcw : Jvm.Cond.code (Y mid) (B mid) (X mid) (T mid) ∈ zws Y B X T Ts mid := List.mem_cons_self
  have hpre : ∀ U : State, U.heap = H → s.WarmedH U.vm → zPc Nw AO D b base ix al (st.take na).reverse M (((st.take na).reverse).map (zcv (zrho b base ix))).toArray U := fun U hU hW => ⟨rfl, hK.warm hN hW, by rw [hU]; exact hR.moved hW.alike⟩
  have hst : st.map (zcv (zrho b base ix)) = (((st.take na).reverse).map (zcv (zrho b base ix))).reverse ++ (st.drop na).map (zcv (zrho b base ix)) := by
    rw [← List.map_reverse, List.reverse_reverse, ← List.map_append, List.take_append_drop]
  have hlen : ((st.take na).reverse).length = na := by simp; omega
  have hcats : 2 * (F0 m pc rls (st.map (zcv (zrho b base ix)))).monitorRoom + (((st.drop na).map (zcv (zrho b base ix))).map fun v => v.category).sum ≤ 8 := by
    rw [zcv_cats]
    show 2 * 0 + _ ≤ 8
    omega
  have hlo2 : 8 + (X mid + 11) + 64 * d ≤ R.locals := by omega
  rcases hmode with ⟨rfl, hnp, hcl, idx, rfl, o1, o2, o3⟩ | ⟨rfl, hnp, idx, rfl, o1, o2⟩ | ⟨rfl, hnp, hT, hnm, idx, rfl, o1, o2⟩ | ⟨rfl, hnp, idx, host, rfl, o1, o2⟩ | ⟨rfl, hnp, hT, hnm, idx, host, rfl, o1, o2⟩
  · -- a method of an object
    generalize has : (st.take na).reverse = as at hst hlen hpre hM hrec
    simp only [zrec] at hrec
    split at hrec
    · rename_i r j q as'
      obtain ⟨h9, cell, q1, q2, q3, -⟩ := hR.2.2.1 r j q cl hrec hcl
      have hcB : ∃ cellB : Cell, H[zrho b base ix (r, j, q)]? = some cellB ∧ cellB.vm.isStatics = false ∧ s.vm.findClass (zcl cl).1 = some cellB.cls := ⟨cell, q1, by rw [q3]; rfl, by rw [q2]; exact (hK.1.1 cl _ (zcl_at hcl)).2.1⟩
      refine zW_run rfl (va_runV (C := (zcl cl).1) (b := zrho b base ix (r, j, q)) (As := as'.map (zcv (zrho b base ix))) hS hM ⟨⟨rfl, rfl, hfr, hlo2, hws, hcw, hts _ hcode, hts _ hini, hmh, hpar, hts _ o1⟩, hts _ o2, hts _ o3⟩ ⟨zPc_blind hN, hcB, fun U hU hW => hpre U hU hW⟩ rfl (by simp at hlen ⊢; omega) rfl ?_ hcats hd ⟨hbc, hbs⟩) hloc kk
      show st.map (zcv (zrho b base ix)) = _
      rw [hst]
      simp [zcv]
    · exact hrec.elim
  · exact zW_run rfl (va_runS (As := ((st.take na).reverse).map (zcv (zrho b base ix))) hS hM ⟨⟨rfl, rfl, hfr, hlo2, hws, hcw, hts _ hcode, hts _ hini, hmh, hpar, hts _ o1⟩, hts _ o2⟩ ⟨zPc_blind hN, hpre⟩ rfl (by rw [List.length_map, hlen]; omega) rfl hst hcats hd ⟨hbc, hbs⟩) hloc kk
  · generalize has : (st.take na).reverse = as at hst hlen hpre hM hrec
    simp only [zrec] at hrec
    split at hrec
    · rename_i r as'
      have hM' := hM
      refine zW_run rfl (va_runI (b := zrho b base ix r) (As := as'.map (zcv (zrho b base ix))) hS hM ⟨⟨rfl, rfl, hfr, hlo2, hws, by rw [← hT]; exact hcw, by rw [← hT]; exact hts _ hcode, hts _ hini, hmh, hpar, hts _ o1⟩, hnm, hts _ o2⟩ ⟨zPc_blind hN, fun U hU hW => hpre U hU hW⟩ rfl (by simp at hlen ⊢; omega) rfl ?_ hcats hd ⟨hbc, hbs⟩) hloc kk
      show st.map (zcv (zrho b base ix)) = _
      rw [hst]
      simp [zcv]
    · exact hrec.elim
  · exact zW_run rfl (va_runSN (As := ((st.take na).reverse).map (zcv (zrho b base ix))) (host := host) hS hM ⟨⟨⟨rfl, rfl, hfr, hlo2, hws, hcw⟩, hts _ hcode, hts _ hini, hmh, hpar, va_Nw.use rfl (hK.2.1 _ o1)⟩, hts _ o2, trivial⟩ ⟨zPc_blind hN, hpre⟩ rfl (by rw [List.length_map, hlen]; omega) rfl hst hcats hd ⟨hbc, hbs⟩) hloc kk
  · generalize has : (st.take na).reverse = as at hst hlen hpre hM hrec
    simp only [zrec] at hrec
    split at hrec
    · rename_i r as'
      have hM' := hM
      refine zW_run rfl (va_runIN (host := host) (b := zrho b base ix r) (As := as'.map (zcv (zrho b base ix))) hS hM ⟨⟨⟨rfl, rfl, hfr, hlo2, hws, by rw [← hT]; exact hcw⟩, by rw [← hT]; exact hts _ hcode, hts _ hini, hmh, hpar, va_Nw.use rfl (hK.2.1 _ o1)⟩, hnm, hts _ o2⟩ ⟨zPc_blind hN, fun U hU hW => hpre U hU hW⟩ rfl (by simp at hlen ⊢; omega) rfl ?_ hcats hd ⟨hbc, hbs⟩) hloc kk
      show st.map (zcv (zrho b base ix)) = _
      rw [hst]
      simp [zcv]
    · exact hrec.elim
end
end
section
/-! the interpreter's runs are the machine's -/
theorem zent_args (ρ : zR → Nat) : ∀ (as : List zV) (i k : Nat) (v : zV), (zent as)[k]? = some (some v) → (i + k, zcv ρ v) ∈ lv_args i (as.map (zcv ρ)) := by
  intro as
  induction as with
  | nil => intro i k v h; simp [zent] at h
  | cons a t ih =>
    intro i k v h
    rcases a with x | x | x
    · rcases k with _ | k
      · simp [zent] at h
        subst h
        exact List.mem_cons_self
      · have := ih (i + 1) k v (by simpa [zent] using h)
        rw [show i + (k + 1) = i + 1 + k by omega]
        exact List.mem_cons_of_mem _ this
    · rcases k with _ | _ | k
      · simp [zent] at h
        subst h
        exact List.mem_cons_self
      · simp [zent] at h
      · have := ih (i + 2) k v (by simpa [zent] using h)
        rw [show i + (k + 1 + 1) = i + 2 + k by omega]
        exact List.mem_cons_of_mem _ this
    · rcases k with _ | k
      · simp [zent] at h
        subst h
        exact List.mem_cons_self
      · have := ih (i + 1) k v (by simpa [zent] using h)
        rw [show i + (k + 1) = i + 1 + k by omega]
        refine List.mem_cons_of_mem _ ?_
        have e : (zcv ρ (zr x)).category = 1 := zcv_cat ρ (zr x)
        rw [show (Sum.inr (Sum.inr x) : zV) = zr x from rfl, e]
        exact this
theorem zent_len (ρ : zR → Nat) (as : List zV) : (lg_sl (as.map (zcv ρ))).length = (zent as).length := by
  induction as with
  | nil => rfl
  | cons a t ih =>
    unfold lg_sl at ih ⊢
    rw [List.map_cons, List.flatMap_cons, List.length_append, ih, zcv_cat]
    rcases a with x | x | x <;> simp [zcat, zent] <;> omega
theorem zlr_entry (ρ : zR → Nat) (as : List zV) {n : Nat} (h : (zent as).length ≤ n) : zlr ρ (zpad (zent as) n) ((lg_sl (as.map (zcv ρ)) ++ List.replicate (n - (lg_sl (as.map (zcv ρ))).length) Slot.unset).toArray) n := by
  have h2 := zent_len ρ as
  refine ⟨by unfold zpad; simp; omega, _, lv_entry (as.map (zcv ρ)) (by rw [h2]; exact h), fun k v hk => ?_⟩
  have := zent_args ρ as 0 k v (by
    unfold zpad at hk
    by_cases hl : k < (zent as).length
    · rw [List.getElem?_append_left hl] at hk; exact hk
    · rw [List.getElem?_append_right (by omega), List.getElem?_replicate] at hk
      split at hk <;> simp at hk)
  rw [Nat.zero_add] at this
  exact this
section
variable {Y : Nat → MethodName} {B : Nat → ByteArray} {X : Nat → Nat} {T : Nat → Option FieldType} {Ts Nw : List Jvm.Cond} {AO : List String}
variable {p : Program} {l : Launch} {e : Env} {R : Room} {s : State} {m : MethodId} {args : Array Value} {below : List Frame} {meth : Method} {c : Code} {H : Heap} {locs : List Loc} {cells slots : Nat}
variable {pc len : Nat} {rls : Array Slot} {st : List zV} {i : Instr} {D : va_G} {b base : Nat} {ix : zR → Nat} {al : Nat → zR} {M : zM} {mid : Nat} {a : List Nat}
theorem znar_c {x : Int32} (h : vp_nar .char x = x) : narrow .char (.int x) = .int x := by
  have : narrow .char (.int x) = .int (vp_nar .char x) := rfl
  rw [this, h]
theorem zW_ret {cc : ByteArray} (hx : p.tables.exec = Jvm.exec) (hb : c.code = cc) (hr : meth.sig.returnType = T mid) (hlocks : meth.locks = false) (hd : decode cc pc = .ok (i, len)) (hlen : len = zlen i) (hok : zrok T mid i a) (hR : zRel b base ix al D s M H) (hloc : ∀ l ∈ locs, base ≤ l.base) {bc bs : Nat} (hbc : cells ≤ bc) (hbs : slots ≤ bs) {Q : Option zV → zM → Prop} (hop : zret i a st (fun r => Q r M)) :
    W p l e R s m args below meth c H locs cells slots (MQ below (zQc D b base ix al Q) args s bc bs (fun q => base ≤ q)) (F0 m pc rls (st.map (zcv (zrho b base ix)))) := by
  subst hlen
  refine W.widen (k := bc) (n := bs) hbc hbs ?_
  have hq : ∀ r, Q r M → ∀ t : State, t.heap = H → s.WarmedH t.vm → zQc D b base ix al Q args s (.returned (r.map (zcv (zrho b base ix)))) t := fun r h t ht hW => ⟨r, M, rfl, by rw [ht]; exact hR.moved hW.alike, h⟩
  cases i <;> first
    | (simp [zret] at hop; done)
    | skip
  case ireturn =>
    simp only [zret] at hop
    rcases hok with ⟨rfl, hT⟩ | ⟨rfl, hT⟩ | ⟨rfl, hT⟩
    · split at hop <;> first | (exact hop.elim) | skip
      all_goals (have h1 := ‹[0] = _›; simp at h1)
      exact W.iret hx hb (hr.trans hT) (hq _ hop) hloc hd hlocks
    · split at hop <;> first | (exact hop.elim) | skip
      all_goals (have h1 := ‹[1] = _›; simp at h1)
      exact W.zret hx hb (hr.trans hT) (by rcases hop.1 with h | h <;> rw [h] <;> rfl) (hq _ hop.2) hloc hd hlocks
    · split at hop <;> first | (exact hop.elim) | skip
      all_goals (have h1 := ‹[2] = _›; simp at h1)
      exact W.zret hx hb (hr.trans hT) (znar_c hop.1) (hq _ hop.2) hloc hd hlocks
  case lreturn =>
    simp only [zret] at hop
    split at hop
    · exact W.lret hx hb (hr.trans hok) (hq _ hop) hloc hd hlocks
    · exact hop.elim
  case areturn =>
    simp only [zret] at hop
    split at hop
    · rename_i x
      rcases hok with ⟨n, hT⟩ | ⟨t, hT⟩
      · exact W.aret hx hb (hr.trans hT) (Or.inl ⟨n, rfl⟩) (by cases x <;> first | exact Or.inl rfl | exact Or.inr ⟨_, rfl⟩) (hq _ hop) hloc hd hlocks
      · exact W.aret hx hb (hr.trans hT) (Or.inr ⟨t, rfl⟩) (by cases x <;> first | exact Or.inl rfl | exact Or.inr ⟨_, rfl⟩) (hq _ hop) hloc hd hlocks
    · exact hop.elim
  case return_ =>
    simp only [zret] at hop
    split at hop
    · exact W.vret hx hb (hr.trans hok) (hq _ hop) hloc hd hlocks
    · exact hop.elim
end
/-- the tables' words and sites, all at once -/
def zall (F : Nat → Nat → Option zE) (Y : Nat → MethodName) (B : Nat → ByteArray) (X : Nat → Nat) (T : Nat → Option FieldType) (Ts Nw : List Jvm.Cond) (AO : List String) : Prop := (∀ mid pc x, F mid pc = some x → zsite Y B X T Ts Nw AO mid pc x) ∧ zcls Ts ∧ (∀ w ∈ Ts, (w.onTables && w.keeps) = true ∨ ∃ ty, w = .arrayClass ty) ∧ ∀ w ∈ Nw, znw w
/-- what a frame stands on -/
def zfr (Y : Nat → MethodName) (B : Nat → ByteArray) (Ts : List Jvm.Cond) (p : Program) (s : State) (m : MethodId) (args : Array Value) (meth : Method) (c : Code) (mid : Nat) : Prop := p.tables.exec = Jvm.exec ∧ c.code = B mid ∧ s.vm.findClass (Y mid).cls = some m.cls ∧ (∀ w ∈ Ts, w.before args s = true) ∧ meth.name = (Y mid).name
set_option maxHeartbeats 4000000 in
theorem ev_sound {F : Nat → Nat → Option zE} {al : Nat → zR} {Y : Nat → MethodName} {B : Nat → ByteArray} {X : Nat → Nat} {T : Nat → Option FieldType} {Ts Nw : List Jvm.Cond} {AO : List String} (hall : zall F Y B X T Ts Nw AO) {l : Launch} {D : va_G} {b base : Nat} {ix : zR → Nat} :
    ∀ (n d bc bs mid pc : Nat) (ls : List (Option zV)) (st : List zV) (M : zM) (Q : Option zV → zM → Prop), ev F al n d bc bs mid pc ls st M Q →
    ∀ {p : Program} {e : Env} {R : Room} {s : State} {m : MethodId} {args : Array Value} {below : List Frame} {meth : Method} {c : Code} {H : Heap} {locs : List Loc} {cells slots : Nat} {Qf : State → Prop} {rls : Array Slot},
    zfr Y B Ts p s m args meth c mid → c.maxLocals = rls.size → zK Nw AO D s → zRel b base ix al D s M H → zlr (zrho b base ix) ls rls rls.size → d ≤ R.frames → 64 * d ≤ R.locals → cells + bc ≤ R.cells → slots + bs ≤ R.slots → (∀ l ∈ locs, base ≤ l.base) →
    (∀ (i : Instr) (len : Nat) (a : List Nat) (z : Int) (pc' : Nat) (st' : List zV) (rls' : Array Slot) (M' : zM) (H' : Heap) (locs' : List Loc) (cells' slots' : Nat), F mid pc' = some (i, len, a, z) → zret i a st' (fun r => Q r M') → zRel b base ix al D s M' H' → (∀ l ∈ locs', base ≤ l.base) → cells' ≤ cells + bc → slots' ≤ slots + bs → W p l e R s m args below meth c H' locs' cells' slots' Qf (F0 m pc' rls' (st'.map (zcv (zrho b base ix))))) →
    W p l e R s m args below meth c H locs cells slots Qf (F0 m pc rls (st.map (zcv (zrho b base ix)))) := by
  intro n
  induction n with
  | zero => intro d bc bs mid pc ls st M Q h; exact h.elim
  | succ n ih =>
    intro d bc bs mid pc ls st M Q h p e R s m args below meth c H locs cells slots Qf rls hf hml hK hR hl hfr hlo hbc hbs hloc HR
    obtain ⟨hsite, hcls, hgood, hN⟩ := id hall
    obtain ⟨hx, hb, hown, hts, hmn⟩ := id hf
    rw [ev] at h
    split at h
    · exact h.elim
    · rename_i i len a z hF
      obtain ⟨hd, hlen, hco, hjo, hmo, hko, hca, hro⟩ := hsite mid pc _ hF
      split at h
      · rename_i st' hop
        have hl3 : len = zlen i := hlen (fun _ _ _ _ he => by rw [show i = _ from he] at hop; simp [zop] at hop)
        exact zW_op hx hb hown hts hd hl3 hco hop (ih _ _ _ _ _ _ _ _ _ h hf hml hK hR hl hfr hlo hbc hbs hloc HR)
      · split at h
        · rename_i k kd hop
          have hl3 : len = zlen i := hlen (fun _ _ _ _ he => by rw [show i = _ from he] at hop; simp [zld] at hop)
          split at h
          · rename_i v hk
            exact zW_ld hx hb hd hl3 hop hl hk h.1 (ih _ _ _ _ _ _ _ _ _ h.2 hf hml hK hR hl hfr hlo hbc hbs hloc HR)
          · exact h.elim
        · split at h
          · rename_i k kd hop
            have hl3 : len = zlen i := hlen (fun _ _ _ _ he => by rw [show i = _ from he] at hop; simp [zsr] at hop)
            split at h
            · rename_i v t
              obtain ⟨h1, h2, h3⟩ := h
              refine zW_sr hx hb hd hl3 hop hl h1 (by rw [← hl.1]; exact h2) (fun rls' hl' => ?_)
              have hsz : rls'.size = rls.size := hl'.sz
              exact ih _ _ _ _ _ _ _ _ _ h3 hf (hml.trans hsz.symm) hK hR (by rw [hsz]; exact hl') hfr hlo hbc hbs hloc HR
            · exact h.elim
          · split at h
            · rename_i k y
              have hl3 : len = 3 := hlen (fun _ _ _ _ he => by cases he)
              subst hl3
              split at h
              · rename_i x hk
                refine zW_iinc hx hb hd hl hk (fun rls' hl' => ?_)
                have hsz : rls'.size = rls.size := hl'.sz
                exact ih _ _ _ _ _ _ _ _ _ h hf (hml.trans hsz.symm) hK hR (by rw [hsz]; exact hl') hfr hlo hbc hbs hloc HR
              · exact h.elim
            · split at h
              · rename_i hcall
                have hl3 : len = 3 := by
                  have hh : len = zlen i := hlen (fun _ _ _ _ he => by rw [show i = _ from he] at hcall; simp [zcall] at hcall)
                  rw [hh]
                  cases i <;> first | rfl | (simp [zcall] at hcall)
                subst hl3
                split at h
                · exact h.elim
                · rename_i d
                  split at h
                  · rename_i mode
                    rcases hca hcall with ⟨mode', ha, hok⟩ | ⟨mode', mid', cl, na, bc', bs', np, ha, -⟩
                    · have hm : mode = mode' := by simpa using ha
                      subst hm
                      refine zW_nat hx hb hml hown hts hK hR hd hok hbc hbs (by omega) (by omega) hloc h (fun dc ds st' M' H' locs' g1 g2 g3 g4 g5 => ?_)
                      exact ih _ _ _ _ _ _ _ _ _ g1 hf hml hK g4 hl hfr hlo (by omega) (by omega) g5 (fun i len a z pc' st' rls' M' H' locs' cells' slots' q1 q2 q3 q4 q5 q6 => HR i len a z pc' st' rls' M' H' locs' cells' slots' q1 q2 q3 q4 (by omega) (by omega))
                    · simp at ha
                  · rename_i mode mid' cl na nl bc' bs'
                    obtain ⟨g1, g2, g3, g4, g5, g6, g7⟩ := h
                    have hok := hca hcall
                    have hnl : nl = X mid' := by
                      rcases hok with ⟨mode', ha, -⟩ | ⟨mode', mid'', cl', na', bc'', bs'', np, ha, -⟩
                      · simp at ha
                      · simp only [List.cons.injEq, and_true] at ha
                        obtain ⟨-, rfl, -, -, ha, -, -⟩ := ha
                        exact ha
                    subst hnl
                    have hok2 := hok
                    rcases hok2 with ⟨mode', ha, -⟩ | ⟨mode', mid'', cl', na', bc'', bs'', np, ha, hcode, hini, hmh, hpar, hpl, hX, -⟩
                    · simp at ha
                    simp only [List.cons.injEq, and_true] at ha
                    obtain ⟨-, rfl, -, -, -, -, -⟩ := ha
                    refine zW_call hx hb hml hown hts hgood hN hK hR hd hloc hok g3 g4 g5 hfr hlo (by omega) (by omega) ?_ (fun r M' H' locs' q1 q2 q3 => ?_) (Q' := fun r M' => ev F al n (d + 1) (bc - bc') (bs - bs') mid (pc + 3) ls (zpush r (st.drop na)) M' Q)
                    · refine Met.ofW (cc := B mid') (maxL := X mid') (ret := T mid') hpl rfl ?_
                      intro p2 e2 s2 m2 args2 below2 meth2 c2 s₁ Bd hml2 hv
                      obtain ⟨rfl, hK2, hR2⟩ := hv
                      rw [lg_entry_eq]
                      have hl2 := zlr_entry (zrho b base ix) (st.take na).reverse g6
                      have hsz2 := hl2.sz
                      refine ih d bc' bs' mid' 0 _ [] M _ g7 (cells := 0) (slots := 0) (locs := []) ⟨Bd.exec, Bd.bytes, findClass_of_methodNamed Bd.named, fun w hw => atoms_spec (ws := zws Y B X T Ts mid') Bd.pre w (List.mem_cons_of_mem _ hw), (name_of_methodNamed Bd.named Bd.method).1⟩ (hml2.trans hsz2.symm) hK2 hR2 (by rw [hsz2]; exact hl2) (Nat.le_refl _) (Nat.le_refl _) (by rw [Nat.zero_add]; exact Nat.le_refl _) (by rw [Nat.zero_add]; exact Nat.le_refl _) (fun _ hh => absurd hh List.not_mem_nil) (fun i len a z pc' st' rls' M' H' locs' cells' slots' q1 q2 q3 q4 q5 q6 => ?_)
                      obtain ⟨hd', hlen', -, -, -, -, -, hro'⟩ := hsite mid' pc' _ q1
                      exact zW_ret Bd.exec Bd.bytes Bd.returns Bd.notSynchronized hd' (hlen' (fun _ _ _ _ he => by rw [show i = _ from he] at q2; simp [zret] at q2)) hro' q3 q4 (by omega) (by omega) q2
                    · exact ih _ _ _ _ _ _ _ _ _ q1 hf hml hK q2 hl hfr hlo (by omega) (by omega) q3 (fun i len a z pc' st' rls' M' H' locs' cells' slots' w1 w2 w3 w4 w5 w6 => HR i len a z pc' st' rls' M' H' locs' cells' slots' w1 w2 w3 w4 (by omega) (by omega))
                  · exact h.elim
              · rcases h with h | h | h | h
                · have hl3 : len = zlen i := hlen (fun _ _ _ _ he => by rw [show i = _ from he] at h; simp [zmem] at h)
                  refine zW_mem hx hb hown hts hcls hK hR hd hl3 (by rw [hmn]; exact hmo) hloc h (fun st' M' H' locs' g1 g2 g3 => ?_)
                  exact ih _ _ _ _ _ _ _ _ _ g1 hf hml hK g2 hl hfr hlo hbc hbs g3 HR
                · have hl3 : len = zlen i := hlen (fun _ _ _ _ he => by rw [show i = _ from he] at h; simp [zmk] at h)
                  refine zW_mk hx hb hown hts hcls hK hR hd hl3 hko hbc hbs h (fun dc ds st' M' H' g1 g2 g3 g4 => ?_)
                  exact ih _ _ _ _ _ _ _ _ _ g1 hf hml hK g4 hl hfr hlo (by omega) (by omega) hloc (fun i len a z pc' st' rls' M' H' locs' cells' slots' q1 q2 q3 q4 q5 q6 => HR i len a z pc' st' rls' M' H' locs' cells' slots' q1 q2 q3 q4 (by omega) (by omega))
                · exact zW_br hx hb hd hlen hjo h (fun pc' st' g1 => ih _ _ _ _ _ _ _ _ _ g1 hf hml hK hR hl hfr hlo hbc hbs hloc HR)
                · exact HR i len a z pc st rls M H locs cells slots hF h hR hloc (by omega) (by omega)
end
section
/-! the tables of this claim: methods, instructions, links (printed by a program of the prover out of the claim's files) -/
def zc0 : List (Nat × zE) := [(0, .aload_n 0, 1, [], 0), (1, .invokespecial 3, 3, [8], 0), (4, .aload_n 0, 1, [], 0), (5, .bipush 6, 2, [], 0), (7, .anewarray 9, 3, [25], 0), (10, .putfield 11, 3, [0, 0, 2], 0), (13, .aload_n 0, 1, [], 0), (14, .iconst 0, 1, [], 0), (15, .putfield 17, 3, [0, 1, 0], 0), (18, .iconst 0, 1, [], 0), (19, .istore_n 3, 1, [], 0), (20, .iload_n 3, 1, [], 0), (21, .bipush 6, 2, [], 0), (23, .if_icmp .ge 24, 3, [], 0), (26, .aload_n 0, 1, [], 0), (27, .getfield 11, 3, [0, 0, 2], 0), (30, .iload_n 3, 1, [], 0), (31, .new 9, 3, [6, 14], 0), (34, .dup, 1, [], 0), (35, .aload_n 1, 1, [], 0), (36, .aload_n 2, 1, [], 0), (37, .invokespecial 21, 3, [2, 51, 0, 3, 4, 10, 46], 0), (40, .aastore, 1, [], 0), (41, .iinc 3 1, 3, [], 0), (44, .goto (-24), 3, [], 0), (47, .return_, 1, [], 0)]
def zc1 : List (Nat × zE) := [(0, .aload_n 0, 1, [], 0), (1, .getfield 17, 3, [0, 1, 0], 0), (4, .ireturn, 1, [0], 0)]
def zc2 : List (Nat × zE) := [(0, .aload_n 0, 1, [], 0), (1, .getfield 17, 3, [0, 1, 0], 0), (4, .bipush 6, 2, [], 0), (6, .if_icmp .ne 7, 3, [], 0), (9, .aload_n 0, 1, [], 0), (10, .invokevirtual 24, 3, [0, 5, 0, 1, 3, 0, 0], 0), (13, .aload_n 0, 1, [], 0), (14, .getfield 11, 3, [0, 0, 2], 0), (17, .aload_n 0, 1, [], 0), (18, .getfield 17, 3, [0, 1, 0], 0), (21, .aaload, 1, [], 0), (22, .aload_n 1, 1, [], 0), (23, .invokevirtual 27, 3, [0, 52, 6, 2, 3, 0, 0], 0), (26, .aload_n 0, 1, [], 0), (27, .dup, 1, [], 0), (28, .getfield 17, 3, [0, 1, 0], 0), (31, .iconst 1, 1, [], 0), (32, .iadd, 1, [], 0), (33, .putfield 17, 3, [0, 1, 0], 0), (36, .return_, 1, [], 0)]
def zc3 : List (Nat × zE) := [(0, .aload_n 0, 1, [], 0), (1, .getfield 17, 3, [0, 1, 0], 0), (4, .ifCond .le 26, 3, [], 0), (7, .aload_n 0, 1, [], 0), (8, .dup, 1, [], 0), (9, .getfield 17, 3, [0, 1, 0], 0), (12, .iconst 1, 1, [], 0), (13, .isub, 1, [], 0), (14, .putfield 17, 3, [0, 1, 0], 0), (17, .aload_n 1, 1, [], 0), (18, .aload_n 0, 1, [], 0), (19, .getfield 11, 3, [0, 0, 2], 0), (22, .aload_n 0, 1, [], 0), (23, .getfield 17, 3, [0, 1, 0], 0), (26, .aaload, 1, [], 0), (27, .invokevirtual 27, 3, [0, 52, 6, 2, 3, 0, 0], 0), (30, .return_, 1, [], 0)]
def zc4 : List (Nat × zE) := [(0, .aload_n 0, 1, [], 0), (1, .aload_n 1, 1, [], 0), (2, .getfield 17, 3, [0, 1, 0], 0), (5, .putfield 17, 3, [0, 1, 0], 0), (8, .iconst 0, 1, [], 0), (9, .istore_n 2, 1, [], 0), (10, .iload_n 2, 1, [], 0), (11, .aload_n 0, 1, [], 0), (12, .getfield 17, 3, [0, 1, 0], 0), (15, .if_icmp .ge 24, 3, [], 0), (18, .aload_n 0, 1, [], 0), (19, .getfield 11, 3, [0, 0, 2], 0), (22, .iload_n 2, 1, [], 0), (23, .aaload, 1, [], 0), (24, .aload_n 1, 1, [], 0), (25, .getfield 11, 3, [0, 0, 2], 0), (28, .iload_n 2, 1, [], 0), (29, .aaload, 1, [], 0), (30, .invokevirtual 27, 3, [0, 52, 6, 2, 3, 0, 0], 0), (33, .iinc 2 1, 3, [], 0), (36, .goto (-26), 3, [], 0), (39, .return_, 1, [], 0)]
def zc5 : List (Nat × zE) := [(0, .aload_n 0, 1, [], 0), (1, .getfield 11, 3, [0, 0, 2], 0), (4, .iconst 0, 1, [], 0), (5, .aaload, 1, [], 0), (6, .astore_n 1, 1, [], 0), (7, .iconst 1, 1, [], 0), (8, .istore_n 2, 1, [], 0), (9, .iload_n 2, 1, [], 0), (10, .bipush 6, 2, [], 0), (12, .if_icmp .ge 23, 3, [], 0), (15, .aload_n 0, 1, [], 0), (16, .getfield 11, 3, [0, 0, 2], 0), (19, .iload_n 2, 1, [], 0), (20, .iconst 1, 1, [], 0), (21, .isub, 1, [], 0), (22, .aload_n 0, 1, [], 0), (23, .getfield 11, 3, [0, 0, 2], 0), (26, .iload_n 2, 1, [], 0), (27, .aaload, 1, [], 0), (28, .aastore, 1, [], 0), (29, .iinc 2 1, 3, [], 0), (32, .goto (-23), 3, [], 0), (35, .aload_n 0, 1, [], 0), (36, .getfield 11, 3, [0, 0, 2], 0), (39, .iconst 5, 1, [], 0), (40, .aload_n 1, 1, [], 0), (41, .aastore, 1, [], 0), (42, .aload_n 0, 1, [], 0), (43, .dup, 1, [], 0), (44, .getfield 17, 3, [0, 1, 0], 0), (47, .iconst 1, 1, [], 0), (48, .isub, 1, [], 0), (49, .putfield 17, 3, [0, 1, 0], 0), (52, .return_, 1, [], 0)]
def zc6 : List (Nat × zE) := [(0, .aload_n 0, 1, [], 0), (1, .invokespecial 3, 3, [8], 0), (4, .aload_n 0, 1, [], 0), (5, .bipush 6, 2, [], 0), (7, .newarray .int, 2, [], 0), (9, .putfield 9, 3, [1, 0, 2], 0), (12, .return_, 1, [], 0)]
def zc7 : List (Nat × zE) := [(0, .aload_n 0, 1, [], 0), (1, .getfield 9, 3, [1, 0, 2], 0), (4, .iconst 0, 1, [], 0), (5, .invokestatic 15, 3, [1, 246, 0, 2, 4, 0, 0], 0), (8, .iconst 0, 1, [], 0), (9, .istore_n 2, 1, [], 0), (10, .iload_n 2, 1, [], 0), (11, .iconst 4, 1, [], 0), (12, .if_icmp .ge 18, 3, [], 0), (15, .aload_n 0, 1, [], 0), (16, .aload_n 1, 1, [], 0), (17, .iload_n 2, 1, [], 0), (18, .invokevirtual 21, 3, [0, 54, 6, 2, 2, 0, 0], 0), (21, .invokevirtual 27, 3, [0, 10, 1, 2, 6, 0, 0], 0), (24, .iinc 2 1, 3, [], 0), (27, .goto (-17), 3, [], 0), (30, .return_, 1, [], 0)]
def zc8 : List (Nat × zE) := [(0, .aload_n 0, 1, [], 0), (1, .getfield 9, 3, [1, 0, 2], 0), (4, .iload_n 1, 1, [], 0), (5, .iaload, 1, [], 0), (6, .iload_n 2, 1, [], 0), (7, .invokestatic 31, 3, [3, 147, 0, 2, 2, 0, 0], 0), (10, .ireturn, 1, [1], 0)]
def zc9 : List (Nat × zE) := [(0, .bipush (-4), 2, [], 0), (2, .istore_n 2, 1, [], 0), (3, .iconst 0, 1, [], 0), (4, .istore_n 3, 1, [], 0), (5, .iconst 0, 1, [], 0), (6, .istore 4, 2, [], 0), (8, .iload 4, 2, [], 0), (10, .bipush 6, 2, [], 0), (12, .if_icmp .ge 50, 3, [], 0), (15, .aload_n 0, 1, [], 0), (16, .iload 4, 2, [], 0), (18, .invokevirtual 35, 3, [0, 11, 1, 2, 4, 0, 0], 0), (21, .istore 5, 2, [], 0), (23, .iload 5, 2, [], 0), (25, .bipush (-4), 2, [], 0), (27, .if_icmp .eq 29, 3, [], 0), (30, .iload_n 3, 1, [], 0), (31, .iload 4, 2, [], 0), (33, .invokestatic 39, 3, [3, 146, 0, 1, 1, 0, 0], 0), (36, .ior, 1, [], 0), (37, .istore_n 3, 1, [], 0), (38, .iload_n 2, 1, [], 0), (39, .bipush (-4), 2, [], 0), (41, .if_icmp .ne 8, 3, [], 0), (44, .iload 5, 2, [], 0), (46, .goto 9, 3, [], 0), (49, .iload_n 2, 1, [], 0), (50, .iload 5, 2, [], 0), (52, .invokestatic 42, 3, [10], 0), (55, .istore_n 2, 1, [], 0), (56, .iinc 4 1, 3, [], 0), (59, .goto (-51), 3, [], 0), (62, .iload_n 1, 1, [], 0), (63, .ifCond .ne 13, 3, [], 0), (66, .iload_n 3, 1, [], 0), (67, .ifCond .eq 7, 3, [], 0), (70, .iconst 1, 1, [], 0), (71, .goto 4, 3, [], 0), (74, .iconst 0, 1, [], 0), (75, .ireturn, 1, [0], 0), (76, .iload_n 1, 1, [], 0), (77, .iconst 1, 1, [], 0), (78, .if_icmp .ne 7, 3, [], 0), (81, .iload_n 2, 1, [], 0), (82, .goto 4, 3, [], 0), (85, .iload_n 3, 1, [], 0), (86, .ireturn, 1, [0], 0)]
def zc10 : List (Nat × zE) := [(0, .iconst 0, 1, [], 0), (1, .istore_n 2, 1, [], 0), (2, .iload_n 2, 1, [], 0), (3, .aload_n 1, 1, [], 0), (4, .invokevirtual 48, 3, [0, 99, 8, 1, 1, 0, 0], 0), (7, .if_icmp .ge 77, 3, [], 0), (10, .aload_n 1, 1, [], 0), (11, .iload_n 2, 1, [], 0), (12, .invokevirtual 54, 3, [0, 107, 8, 2, 2, 0, 0], 0), (15, .istore_n 3, 1, [], 0), (16, .aload_n 1, 1, [], 0), (17, .iload_n 2, 1, [], 0), (18, .invokevirtual 57, 3, [0, 106, 8, 2, 2, 0, 0], 0), (21, .istore 4, 2, [], 0), (23, .iload_n 3, 1, [], 0), (24, .bipush (-4), 2, [], 0), (26, .if_icmp .eq 52, 3, [], 0), (29, .iload 4, 2, [], 0), (31, .iload_n 3, 1, [], 0), (32, .invokestatic 31, 3, [3, 147, 0, 2, 2, 0, 0], 0), (35, .ifCond .ne 43, 3, [], 0), (38, .iconst 0, 1, [], 0), (39, .istore 5, 2, [], 0), (41, .iload 5, 2, [], 0), (43, .bipush 6, 2, [], 0), (45, .if_icmp .ge 33, 3, [], 0), (48, .iload 4, 2, [], 0), (50, .iload 5, 2, [], 0), (52, .invokestatic 31, 3, [3, 147, 0, 2, 2, 0, 0], 0), (55, .ifCond .eq 17, 3, [], 0), (58, .aload_n 0, 1, [], 0), (59, .getfield 9, 3, [1, 0, 2], 0), (62, .iload 5, 2, [], 0), (64, .dup2, 1, [], 0), (65, .iaload, 1, [], 0), (66, .iload_n 3, 1, [], 0), (67, .invokestatic 39, 3, [3, 146, 0, 1, 1, 0, 0], 0), (70, .ior, 1, [], 0), (71, .iastore, 1, [], 0), (72, .iinc 5 1, 3, [], 0), (75, .goto (-34), 3, [], 0), (78, .iinc 2 1, 3, [], 0), (81, .goto (-79), 3, [], 0), (84, .return_, 1, [], 0)]
def zc11 : List (Nat × zE) := [(0, .iload_n 1, 1, [], 0), (1, .invokestatic 39, 3, [3, 146, 0, 1, 1, 0, 0], 0), (4, .istore_n 2, 1, [], 0), (5, .iconst 1, 1, [], 0), (6, .istore_n 3, 1, [], 0), (7, .iload_n 3, 1, [], 0), (8, .bipush 6, 2, [], 0), (10, .if_icmp .gt 25, 3, [], 0), (13, .aload_n 0, 1, [], 0), (14, .iload_n 2, 1, [], 0), (15, .invokevirtual 60, 3, [0, 12, 1, 2, 4, 0, 0], 0), (18, .istore_n 2, 1, [], 0), (19, .iload_n 2, 1, [], 0), (20, .iload_n 1, 1, [], 0), (21, .invokestatic 31, 3, [3, 147, 0, 2, 2, 0, 0], 0), (24, .ifCond .eq 5, 3, [], 0), (27, .iload_n 3, 1, [], 0), (28, .ireturn, 1, [0], 0), (29, .iinc 3 1, 3, [], 0), (32, .goto (-25), 3, [], 0), (35, .bipush (-4), 2, [], 0), (37, .ireturn, 1, [0], 0)]
def zc12 : List (Nat × zE) := [(0, .iconst 0, 1, [], 0), (1, .istore_n 2, 1, [], 0), (2, .iconst 0, 1, [], 0), (3, .istore_n 3, 1, [], 0), (4, .iload_n 3, 1, [], 0), (5, .bipush 6, 2, [], 0), (7, .if_icmp .ge 26, 3, [], 0), (10, .iload_n 1, 1, [], 0), (11, .iload_n 3, 1, [], 0), (12, .invokestatic 31, 3, [3, 147, 0, 2, 2, 0, 0], 0), (15, .ifCond .eq 12, 3, [], 0), (18, .iload_n 2, 1, [], 0), (19, .aload_n 0, 1, [], 0), (20, .getfield 9, 3, [1, 0, 2], 0), (23, .iload_n 3, 1, [], 0), (24, .iaload, 1, [], 0), (25, .ior, 1, [], 0), (26, .istore_n 2, 1, [], 0), (27, .iinc 3 1, 3, [], 0), (30, .goto (-26), 3, [], 0), (33, .iload_n 2, 1, [], 0), (34, .ireturn, 1, [0], 0)]
def zc13 : List (Nat × zE) := [(0, .aload_n 0, 1, [], 0), (1, .invokespecial 3, 3, [8], 0), (4, .aload_n 0, 1, [], 0), (5, .bipush 31, 2, [], 0), (7, .newarray .long, 2, [], 0), (9, .putfield 9, 3, [2, 0, 2], 0), (12, .aload_n 0, 1, [], 0), (13, .bipush 31, 2, [], 0), (15, .newarray .long, 2, [], 0), (17, .putfield 15, 3, [2, 1, 2], 0), (20, .aload_n 0, 1, [], 0), (21, .lconst 0, 1, [], 0), (22, .putfield 18, 3, [2, 2, 1], 0), (25, .aload_n 0, 1, [], 0), (26, .lconst 0, 1, [], 0), (27, .putfield 22, 3, [2, 3, 1], 0), (30, .aload_n 0, 1, [], 0), (31, .lconst 0, 1, [], 0), (32, .putfield 25, 3, [2, 4, 1], 0), (35, .aload_n 0, 1, [], 0), (36, .bipush (-4), 2, [], 0), (38, .putfield 28, 3, [2, 5, 0], 0), (41, .aload_n 0, 1, [], 0), (42, .aload_n 1, 1, [], 0), (43, .putfield 32, 3, [2, 6, 2], 0), (46, .aload_n 0, 1, [], 0), (47, .aload_n 1, 1, [], 0), (48, .putfield 36, 3, [2, 7, 2], 0), (51, .return_, 1, [], 0)]
def zc14 : List (Nat × zE) := [(0, .aload_n 0, 1, [], 0), (1, .getfield 18, 3, [2, 2, 1], 0), (4, .lreturn, 1, [], 0)]
def zc15 : List (Nat × zE) := [(0, .aload_n 0, 1, [], 0), (1, .getfield 22, 3, [2, 3, 1], 0), (4, .lreturn, 1, [], 0)]
def zc16 : List (Nat × zE) := [(0, .aload_n 0, 1, [], 0), (1, .getfield 28, 3, [2, 5, 0], 0), (4, .ireturn, 1, [0], 0)]
def zc17 : List (Nat × zE) := [(0, .aload_n 0, 1, [], 0), (1, .getfield 25, 3, [2, 4, 1], 0), (4, .aload_n 0, 1, [], 0), (5, .invokevirtual 39, 3, [0, 22, 2, 1, 2, 0, 0], 0), (8, .lshr, 1, [], 0), (9, .lreturn, 1, [], 0)]
def zc18 : List (Nat × zE) := [(0, .ldc2_w 43, 3, [], 1152921504606846976), (3, .aload_n 0, 1, [], 0), (4, .invokevirtual 39, 3, [0, 22, 2, 1, 2, 0, 0], 0), (7, .lshr, 1, [], 0), (8, .lreturn, 1, [], 0)]
def zc19 : List (Nat × zE) := [(0, .aload_n 0, 1, [], 0), (1, .aload_n 1, 1, [], 0), (2, .putfield 32, 3, [2, 6, 2], 0), (5, .aload_n 0, 1, [], 0), (6, .aload_n 2, 1, [], 0), (7, .putfield 36, 3, [2, 7, 2], 0), (10, .aload_n 0, 1, [], 0), (11, .lconst 0, 1, [], 0), (12, .putfield 18, 3, [2, 2, 1], 0), (15, .aload_n 0, 1, [], 0), (16, .lconst 0, 1, [], 0), (17, .putfield 22, 3, [2, 3, 1], 0), (20, .aload_n 0, 1, [], 0), (21, .lconst 0, 1, [], 0), (22, .putfield 25, 3, [2, 4, 1], 0), (25, .aload_n 0, 1, [], 0), (26, .bipush (-4), 2, [], 0), (28, .putfield 28, 3, [2, 5, 0], 0), (31, .aload_n 0, 1, [], 0), (32, .getfield 9, 3, [2, 0, 2], 0), (35, .lconst 0, 1, [], 0), (36, .invokestatic 45, 3, [1, 245, 0, 2, 5, 0, 0], 0), (39, .aload_n 0, 1, [], 0), (40, .getfield 15, 3, [2, 1, 2], 0), (43, .lconst 0, 1, [], 0), (44, .invokestatic 45, 3, [1, 245, 0, 2, 5, 0, 0], 0), (47, .aload_n 0, 1, [], 0), (48, .getfield 9, 3, [2, 0, 2], 0), (51, .iconst 0, 1, [], 0), (52, .lconst 1, 1, [], 0), (53, .lastore, 1, [], 0), (54, .aload_n 0, 1, [], 0), (55, .getfield 15, 3, [2, 1, 2], 0), (58, .iconst 0, 1, [], 0), (59, .ldc2_w 43, 3, [], 1152921504606846976), (62, .lastore, 1, [], 0), (63, .iconst 0, 1, [], 0), (64, .istore_n 3, 1, [], 0), (65, .iload_n 3, 1, [], 0), (66, .aload_n 1, 1, [], 0), (67, .invokevirtual 51, 3, [0, 99, 8, 1, 1, 0, 0], 0), (70, .if_icmp .gt 46, 3, [], 0), (73, .iconst 0, 1, [], 0), (74, .istore 4, 2, [], 0), (76, .iload 4, 2, [], 0), (78, .aload_n 2, 1, [], 0), (79, .invokevirtual 51, 3, [0, 99, 8, 1, 1, 0, 0], 0), (82, .if_icmp .gt 28, 3, [], 0), (85, .aload_n 0, 1, [], 0), (86, .getfield 9, 3, [2, 0, 2], 0), (89, .iload 4, 2, [], 0), (91, .laload, 1, [], 0), (92, .lconst 0, 1, [], 0), (93, .lcmp, 1, [], 0), (94, .ifCond .eq 10, 3, [], 0), (97, .aload_n 0, 1, [], 0), (98, .iload_n 3, 1, [], 0), (99, .iload 4, 2, [], 0), (101, .invokevirtual 56, 3, [0, 20, 2, 3, 11, 0, 0], 0), (104, .iinc 4 1, 3, [], 0), (107, .goto (-31), 3, [], 0), (110, .iinc 3 1, 3, [], 0), (113, .goto (-48), 3, [], 0), (116, .return_, 1, [], 0)]
def zc20 : List (Nat × zE) := [(0, .aload_n 0, 1, [], 0), (1, .getfield 9, 3, [2, 0, 2], 0), (4, .iload_n 2, 1, [], 0), (5, .laload, 1, [], 0), (6, .lstore_n 3, 1, [], 0), (7, .aload_n 0, 1, [], 0), (8, .getfield 15, 3, [2, 1, 2], 0), (11, .iload_n 2, 1, [], 0), (12, .laload, 1, [], 0), (13, .lstore 5, 2, [], 0), (15, .aload_n 0, 1, [], 0), (16, .getfield 32, 3, [2, 6, 2], 0), (19, .iload_n 1, 1, [], 0), (20, .aload_n 0, 1, [], 0), (21, .getfield 36, 3, [2, 7, 2], 0), (24, .iload_n 2, 1, [], 0), (25, .invokevirtual 60, 3, [0, 106, 8, 2, 2, 0, 0], 0), (28, .invokevirtual 64, 3, [0, 108, 8, 3, 4, 0, 0], 0), (31, .istore 7, 2, [], 0), (33, .aload_n 0, 1, [], 0), (34, .getfield 36, 3, [2, 7, 2], 0), (37, .iload_n 2, 1, [], 0), (38, .aload_n 0, 1, [], 0), (39, .getfield 32, 3, [2, 6, 2], 0), (42, .iload_n 1, 1, [], 0), (43, .invokevirtual 60, 3, [0, 106, 8, 2, 2, 0, 0], 0), (46, .invokevirtual 64, 3, [0, 108, 8, 3, 4, 0, 0], 0), (49, .istore 8, 2, [], 0), (51, .iload 7, 2, [], 0), (53, .ifCond .eq 17, 3, [], 0), (56, .iload 8, 2, [], 0), (58, .ifCond .eq 12, 3, [], 0), (61, .lload 5, 2, [], 0), (63, .ldc2_w 68, 3, [], 2), (66, .ldiv, 1, [], 0), (67, .goto 5, 3, [], 0), (70, .lload 5, 2, [], 0), (72, .lstore 9, 2, [], 0), (74, .iload 7, 2, [], 0), (76, .ifCond .ne 20, 3, [], 0), (79, .aload_n 0, 1, [], 0), (80, .getfield 9, 3, [2, 0, 2], 0), (83, .iload_n 2, 1, [], 0), (84, .lconst 0, 1, [], 0), (85, .lastore, 1, [], 0), (86, .aload_n 0, 1, [], 0), (87, .getfield 15, 3, [2, 1, 2], 0), (90, .iload_n 2, 1, [], 0), (91, .lconst 0, 1, [], 0), (92, .lastore, 1, [], 0), (93, .goto 11, 3, [], 0), (96, .aload_n 0, 1, [], 0), (97, .getfield 15, 3, [2, 1, 2], 0), (100, .iload_n 2, 1, [], 0), (101, .lload 9, 2, [], 0), (103, .lastore, 1, [], 0), (104, .iload 8, 2, [], 0), (106, .ifCond .eq 34, 3, [], 0), (109, .iload_n 2, 1, [], 0), (110, .bipush 30, 2, [], 0), (112, .if_icmp .ge 28, 3, [], 0), (115, .aload_n 0, 1, [], 0), (116, .getfield 9, 3, [2, 0, 2], 0), (119, .iload_n 2, 1, [], 0), (120, .iconst 1, 1, [], 0), (121, .iadd, 1, [], 0), (122, .dup2, 1, [], 0), (123, .laload, 1, [], 0), (124, .lload_n 3, 1, [], 0), (125, .ladd, 1, [], 0), (126, .lastore, 1, [], 0), (127, .aload_n 0, 1, [], 0), (128, .getfield 15, 3, [2, 1, 2], 0), (131, .iload_n 2, 1, [], 0), (132, .iconst 1, 1, [], 0), (133, .iadd, 1, [], 0), (134, .dup2, 1, [], 0), (135, .laload, 1, [], 0), (136, .lload 9, 2, [], 0), (138, .ladd, 1, [], 0), (139, .lastore, 1, [], 0), (140, .iload 7, 2, [], 0), (142, .ifCond .ne 17, 3, [], 0), (145, .iload 8, 2, [], 0), (147, .ifCond .ne 12, 3, [], 0), (150, .aload_n 0, 1, [], 0), (151, .iload_n 1, 1, [], 0), (152, .iload_n 2, 1, [], 0), (153, .lload_n 3, 1, [], 0), (154, .lload 5, 2, [], 0), (156, .invokevirtual 70, 3, [0, 21, 2, 5, 7, 0, 0], 0), (159, .return_, 1, [], 0)]
def zc21 : List (Nat × zE) := [(0, .iload_n 1, 1, [], 0), (1, .aload_n 0, 1, [], 0), (2, .getfield 32, 3, [2, 6, 2], 0), (5, .invokevirtual 51, 3, [0, 99, 8, 1, 1, 0, 0], 0), (8, .if_icmp .ne 25, 3, [], 0), (11, .iload_n 2, 1, [], 0), (12, .aload_n 0, 1, [], 0), (13, .getfield 36, 3, [2, 7, 2], 0), (16, .invokevirtual 51, 3, [0, 99, 8, 1, 1, 0, 0], 0), (19, .if_icmp .ne 14, 3, [], 0), (22, .aload_n 0, 1, [], 0), (23, .dup, 1, [], 0), (24, .getfield 18, 3, [2, 2, 1], 0), (27, .lload_n 3, 1, [], 0), (28, .ladd, 1, [], 0), (29, .putfield 18, 3, [2, 2, 1], 0), (32, .return_, 1, [], 0), (33, .aload_n 0, 1, [], 0), (34, .dup, 1, [], 0), (35, .getfield 22, 3, [2, 3, 1], 0), (38, .lload_n 3, 1, [], 0), (39, .ladd, 1, [], 0), (40, .putfield 22, 3, [2, 3, 1], 0), (43, .aload_n 0, 1, [], 0), (44, .dup, 1, [], 0), (45, .getfield 25, 3, [2, 4, 1], 0), (48, .lload 5, 2, [], 0), (50, .ladd, 1, [], 0), (51, .putfield 25, 3, [2, 4, 1], 0), (54, .aload_n 0, 1, [], 0), (55, .aload_n 0, 1, [], 0), (56, .getfield 28, 3, [2, 5, 0], 0), (59, .bipush (-4), 2, [], 0), (61, .if_icmp .ne 9, 3, [], 0), (64, .iload_n 1, 1, [], 0), (65, .iload_n 2, 1, [], 0), (66, .iadd, 1, [], 0), (67, .goto 13, 3, [], 0), (70, .aload_n 0, 1, [], 0), (71, .getfield 28, 3, [2, 5, 0], 0), (74, .iload_n 1, 1, [], 0), (75, .iload_n 2, 1, [], 0), (76, .iadd, 1, [], 0), (77, .invokestatic 74, 3, [10], 0), (80, .putfield 28, 3, [2, 5, 0], 0), (83, .return_, 1, [], 0)]
def zc22 : List (Nat × zE) := [(0, .iconst 0, 1, [], 0), (1, .istore_n 1, 1, [], 0), (2, .iload_n 1, 1, [], 0), (3, .bipush 60, 2, [], 0), (5, .if_icmp .ge 24, 3, [], 0), (8, .aload_n 0, 1, [], 0), (9, .getfield 25, 3, [2, 4, 1], 0), (12, .iload_n 1, 1, [], 0), (13, .lshr, 1, [], 0), (14, .ldc2_w 68, 3, [], 2), (17, .lrem, 1, [], 0), (18, .lconst 0, 1, [], 0), (19, .lcmp, 1, [], 0), (20, .ifCond .ne 9, 3, [], 0), (23, .iinc 1 1, 3, [], 0), (26, .goto (-24), 3, [], 0), (29, .iload_n 1, 1, [], 0), (30, .ireturn, 1, [0], 0)]
def zc23 : List (Nat × zE) := [(0, .aload_n 0, 1, [], 0), (1, .invokespecial 3, 3, [8], 0), (4, .aload_n 0, 1, [], 0), (5, .new 9, 3, [4, 1], 0), (8, .dup, 1, [], 0), (9, .iconst 0, 1, [], 0), (10, .newarray .char, 2, [], 0), (12, .invokespecial 11, 3, [2, 36, 0, 2, 2, 0, 0], 0), (15, .putfield 14, 3, [3, 0, 2], 0), (18, .aload_n 0, 1, [], 0), (19, .iconst 0, 1, [], 0), (20, .putfield 20, 3, [3, 1, 0], 0), (23, .aload_n 0, 1, [], 0), (24, .bipush 30, 2, [], 0), (26, .newarray .int, 2, [], 0), (28, .putfield 24, 3, [3, 2, 2], 0), (31, .aload_n 0, 1, [], 0), (32, .bipush 30, 2, [], 0), (34, .newarray .int, 2, [], 0), (36, .putfield 28, 3, [3, 3, 2], 0), (39, .aload_n 0, 1, [], 0), (40, .bipush 30, 2, [], 0), (42, .newarray .int, 2, [], 0), (44, .putfield 31, 3, [3, 4, 2], 0), (47, .aload_n 0, 1, [], 0), (48, .bipush 31, 2, [], 0), (50, .newarray .int, 2, [], 0), (52, .putfield 34, 3, [3, 5, 2], 0), (55, .aload_n 0, 1, [], 0), (56, .iconst 0, 1, [], 0), (57, .putfield 37, 3, [3, 6, 0], 0), (60, .aload_n 0, 1, [], 0), (61, .iconst 0, 1, [], 0), (62, .putfield 40, 3, [3, 7, 3], 0), (65, .aload_n 0, 1, [], 0), (66, .bipush 6, 2, [], 0), (68, .newarray .int, 2, [], 0), (70, .putfield 44, 3, [3, 8, 2], 0), (73, .aload_n 0, 1, [], 0), (74, .iconst 0, 1, [], 0), (75, .putfield 47, 3, [3, 9, 0], 0), (78, .aload_n 0, 1, [], 0), (79, .iconst 0, 1, [], 0), (80, .putfield 50, 3, [3, 10, 0], 0), (83, .aload_n 0, 1, [], 0), (84, .iconst 0, 1, [], 0), (85, .putfield 53, 3, [3, 11, 0], 0), (88, .aload_n 0, 1, [], 0), (89, .bipush 30, 2, [], 0), (91, .newarray .int, 2, [], 0), (93, .putfield 56, 3, [3, 12, 2], 0), (96, .aload_n 0, 1, [], 0), (97, .iconst 0, 1, [], 0), (98, .putfield 59, 3, [3, 13, 0], 0), (101, .aload_n 0, 1, [], 0), (102, .iconst 0, 1, [], 0), (103, .putfield 62, 3, [3, 14, 0], 0), (106, .aload_n 0, 1, [], 0), (107, .bipush (-4), 2, [], 0), (109, .putfield 65, 3, [3, 15, 0], 0), (112, .aload_n 0, 1, [], 0), (113, .iconst 0, 1, [], 0), (114, .putfield 68, 3, [3, 16, 0], 0), (117, .aload_n 0, 1, [], 0), (118, .iconst 0, 1, [], 0), (119, .putfield 71, 3, [3, 17, 0], 0), (122, .return_, 1, [], 0)]
def zc24 : List (Nat × zE) := [(0, .aload_n 0, 1, [], 0), (1, .aload_n 1, 1, [], 0), (2, .putfield 14, 3, [3, 0, 2], 0), (5, .aload_n 0, 1, [], 0), (6, .iload_n 2, 1, [], 0), (7, .putfield 20, 3, [3, 1, 0], 0), (10, .aload_n 0, 1, [], 0), (11, .iconst 0, 1, [], 0), (12, .putfield 37, 3, [3, 6, 0], 0), (15, .aload_n 0, 1, [], 0), (16, .iconst 0, 1, [], 0), (17, .putfield 40, 3, [3, 7, 3], 0), (20, .aload_n 0, 1, [], 0), (21, .getfield 44, 3, [3, 8, 2], 0), (24, .iconst 0, 1, [], 0), (25, .invokestatic 74, 3, [1, 246, 0, 2, 4, 0, 0], 0), (28, .aload_n 0, 1, [], 0), (29, .iconst 0, 1, [], 0), (30, .putfield 47, 3, [3, 9, 0], 0), (33, .aload_n 0, 1, [], 0), (34, .getfield 34, 3, [3, 5, 2], 0), (37, .iconst 0, 1, [], 0), (38, .iconst 0, 1, [], 0), (39, .iastore, 1, [], 0), (40, .aload_n 0, 1, [], 0), (41, .iconst 0, 1, [], 0), (42, .putfield 50, 3, [3, 10, 0], 0), (45, .aload_n 0, 1, [], 0), (46, .iconst 0, 1, [], 0), (47, .putfield 53, 3, [3, 11, 0], 0), (50, .aload_n 0, 1, [], 0), (51, .iconst 0, 1, [], 0), (52, .putfield 59, 3, [3, 13, 0], 0), (55, .aload_n 0, 1, [], 0), (56, .iconst 0, 1, [], 0), (57, .putfield 62, 3, [3, 14, 0], 0), (60, .aload_n 0, 1, [], 0), (61, .bipush (-4), 2, [], 0), (63, .putfield 65, 3, [3, 15, 0], 0), (66, .aload_n 0, 1, [], 0), (67, .iconst 0, 1, [], 0), (68, .putfield 68, 3, [3, 16, 0], 0), (71, .aload_n 0, 1, [], 0), (72, .iconst 0, 1, [], 0), (73, .putfield 71, 3, [3, 17, 0], 0), (76, .aload_n 0, 1, [], 0), (77, .iconst 0, 1, [], 0), (78, .iconst 0, 1, [], 0), (79, .invokevirtual 80, 3, [0, 25, 3, 3, 5, 0, 0], 0), (82, .iconst (-1), 1, [], 0), (83, .if_icmp .eq 14, 3, [], 0), (86, .aload_n 0, 1, [], 0), (87, .iconst 0, 1, [], 0), (88, .putfield 62, 3, [3, 14, 0], 0), (91, .aload_n 0, 1, [], 0), (92, .bipush (-4), 2, [], 0), (94, .putfield 65, 3, [3, 15, 0], 0), (97, .aload_n 0, 1, [], 0), (98, .getfield 40, 3, [3, 7, 3], 0), (101, .ifCond .ne 7, 3, [], 0), (104, .iconst 1, 1, [], 0), (105, .goto 4, 3, [], 0), (108, .iconst 0, 1, [], 0), (109, .ireturn, 1, [1], 0)]
def zc25 : List (Nat × zE) := [(0, .iload_n 2, 1, [], 0), (1, .bipush 6, 2, [], 0), (3, .if_icmp .le 5, 3, [], 0), (6, .iconst (-1), 1, [], 0), (7, .ireturn, 1, [0], 0), (8, .iload_n 1, 1, [], 0), (9, .istore_n 3, 1, [], 0), (10, .iconst 0, 1, [], 0), (11, .istore 4, 2, [], 0), (13, .iload 4, 2, [], 0), (15, .bipush 60, 2, [], 0), (17, .if_icmp .ge 34, 3, [], 0), (20, .aload_n 0, 1, [], 0), (21, .getfield 14, 3, [3, 0, 2], 0), (24, .iload_n 3, 1, [], 0), (25, .invokevirtual 84, 3, [0, 38, 4, 2, 3, 0, 0], 0), (28, .ifCond .ne 23, 3, [], 0), (31, .aload_n 0, 1, [], 0), (32, .iload_n 3, 1, [], 0), (33, .iload_n 2, 1, [], 0), (34, .invokevirtual 88, 3, [0, 26, 3, 3, 4, 0, 0], 0), (37, .istore_n 3, 1, [], 0), (38, .iload_n 3, 1, [], 0), (39, .iconst (-1), 1, [], 0), (40, .if_icmp .ne 5, 3, [], 0), (43, .iconst (-1), 1, [], 0), (44, .ireturn, 1, [0], 0), (45, .iinc 4 1, 3, [], 0), (48, .goto (-35), 3, [], 0), (51, .iload_n 3, 1, [], 0), (52, .ireturn, 1, [0], 0)]
def zc26 : List (Nat × zE) := [(0, .aload_n 0, 1, [], 0), (1, .getfield 14, 3, [3, 0, 2], 0), (4, .iload_n 1, 1, [], 0), (5, .invokevirtual 91, 3, [0, 37, 4, 2, 2, 0, 0], 0), (8, .istore_n 3, 1, [], 0), (9, .iload_n 3, 1, [], 0), (10, .bipush 33, 2, [], 0), (12, .if_icmp .ne 11, 3, [], 0), (15, .aload_n 0, 1, [], 0), (16, .iconst 2, 1, [], 0), (17, .bipush (-4), 2, [], 0), (19, .invokevirtual 95, 3, [0, 31, 3, 3, 3, 0, 0], 0), (22, .ireturn, 1, [0], 0), (23, .iload_n 3, 1, [], 0), (24, .bipush 91, 2, [], 0), (26, .if_icmp .ne 10, 3, [], 0), (29, .aload_n 0, 1, [], 0), (30, .iload_n 1, 1, [], 0), (31, .iload_n 2, 1, [], 0), (32, .invokevirtual 98, 3, [0, 29, 3, 3, 5, 0, 0], 0), (35, .ireturn, 1, [0], 0), (36, .iload_n 3, 1, [], 0), (37, .bipush 50, 2, [], 0), (39, .if_icmp .lt 20, 3, [], 0), (42, .iload_n 3, 1, [], 0), (43, .bipush 53, 2, [], 0), (45, .if_icmp .gt 14, 3, [], 0), (48, .aload_n 0, 1, [], 0), (49, .iload_n 1, 1, [], 0), (50, .iload_n 3, 1, [], 0), (51, .bipush 48, 2, [], 0), (53, .isub, 1, [], 0), (54, .iload_n 2, 1, [], 0), (55, .invokevirtual 101, 3, [0, 30, 3, 4, 8, 0, 0], 0), (58, .ireturn, 1, [0], 0), (59, .iload_n 3, 1, [], 0), (60, .bipush 97, 2, [], 0), (62, .isub, 1, [], 0), (63, .invokestatic 105, 3, [3, 142, 0, 1, 1, 0, 0], 0), (66, .ifCond .eq 5, 3, [], 0), (69, .iconst (-1), 1, [], 0), (70, .ireturn, 1, [0], 0), (71, .aload_n 0, 1, [], 0), (72, .getfield 14, 3, [3, 0, 2], 0), (75, .iload_n 1, 1, [], 0), (76, .iconst 1, 1, [], 0), (77, .iadd, 1, [], 0), (78, .invokevirtual 91, 3, [0, 37, 4, 2, 2, 0, 0], 0), (81, .bipush 40, 2, [], 0), (83, .if_icmp .ne 14, 3, [], 0), (86, .aload_n 0, 1, [], 0), (87, .iload_n 1, 1, [], 0), (88, .iload_n 3, 1, [], 0), (89, .bipush 97, 2, [], 0), (91, .isub, 1, [], 0), (92, .iload_n 2, 1, [], 0), (93, .invokevirtual 108, 3, [0, 27, 3, 4, 6, 0, 0], 0), (96, .ireturn, 1, [0], 0), (97, .aload_n 0, 1, [], 0), (98, .iload_n 1, 1, [], 0), (99, .iload_n 3, 1, [], 0), (100, .bipush 97, 2, [], 0), (102, .isub, 1, [], 0), (103, .invokevirtual 111, 3, [0, 28, 3, 3, 5, 0, 0], 0), (106, .ireturn, 1, [0], 0)]
def zc27 : List (Nat × zE) := [(0, .aload_n 0, 1, [], 0), (1, .getfield 20, 3, [3, 1, 0], 0), (4, .iload_n 2, 1, [], 0), (5, .invokestatic 114, 3, [3, 147, 0, 2, 2, 0, 0], 0), (8, .ifCond .eq 10, 3, [], 0), (11, .aload_n 0, 1, [], 0), (12, .iconst 3, 1, [], 0), (13, .iload_n 2, 1, [], 0), (14, .invokevirtual 95, 3, [0, 31, 3, 3, 3, 0, 0], 0), (17, .ireturn, 1, [0], 0), (18, .aload_n 0, 1, [], 0), (19, .getfield 59, 3, [3, 13, 0], 0), (22, .istore 4, 2, [], 0), (24, .aload_n 0, 1, [], 0), (25, .iload_n 2, 1, [], 0), (26, .invokevirtual 118, 3, [0, 32, 3, 2, 2, 0, 0], 0), (29, .aload_n 0, 1, [], 0), (30, .iload_n 1, 1, [], 0), (31, .iconst 2, 1, [], 0), (32, .iadd, 1, [], 0), (33, .iload_n 3, 1, [], 0), (34, .iconst 1, 1, [], 0), (35, .iadd, 1, [], 0), (36, .invokevirtual 80, 3, [0, 25, 3, 3, 5, 0, 0], 0), (39, .istore 5, 2, [], 0), (41, .iload 5, 2, [], 0), (43, .iconst (-1), 1, [], 0), (44, .if_icmp .ne 16, 3, [], 0), (47, .aload_n 0, 1, [], 0), (48, .iload 4, 2, [], 0), (50, .invokevirtual 122, 3, [0, 34, 3, 2, 4, 0, 0], 0), (53, .aload_n 0, 1, [], 0), (54, .iload_n 2, 1, [], 0), (55, .invokevirtual 125, 3, [0, 33, 3, 2, 2, 0, 0], 0), (58, .iconst (-1), 1, [], 0), (59, .ireturn, 1, [0], 0), (60, .aload_n 0, 1, [], 0), (61, .iload_n 2, 1, [], 0), (62, .invokevirtual 125, 3, [0, 33, 3, 2, 2, 0, 0], 0), (65, .aload_n 0, 1, [], 0), (66, .iload 4, 2, [], 0), (68, .putfield 59, 3, [3, 13, 0], 0), (71, .aload_n 0, 1, [], 0), (72, .getfield 40, 3, [3, 7, 3], 0), (75, .ifCond .eq 7, 3, [], 0), (78, .iconst (-1), 1, [], 0), (79, .goto 7, 3, [], 0), (82, .iload 5, 2, [], 0), (84, .iconst 1, 1, [], 0), (85, .iadd, 1, [], 0), (86, .ireturn, 1, [0], 0)]
def zc28 : List (Nat × zE) := [(0, .aload_n 0, 1, [], 0), (1, .getfield 44, 3, [3, 8, 2], 0), (4, .iload_n 2, 1, [], 0), (5, .iaload, 1, [], 0), (6, .ifCond .ne 10, 3, [], 0), (9, .aload_n 0, 1, [], 0), (10, .iconst 1, 1, [], 0), (11, .iload_n 2, 1, [], 0), (12, .invokevirtual 95, 3, [0, 31, 3, 3, 3, 0, 0], 0), (15, .ireturn, 1, [0], 0), (16, .aload_n 0, 1, [], 0), (17, .getfield 14, 3, [3, 0, 2], 0), (20, .iload_n 1, 1, [], 0), (21, .iconst 2, 1, [], 0), (22, .iadd, 1, [], 0), (23, .invokevirtual 91, 3, [0, 37, 4, 2, 2, 0, 0], 0), (26, .bipush 48, 2, [], 0), (28, .isub, 1, [], 0), (29, .istore_n 3, 1, [], 0), (30, .aload_n 0, 1, [], 0), (31, .getfield 14, 3, [3, 0, 2], 0), (34, .iload_n 1, 1, [], 0), (35, .iconst 1, 1, [], 0), (36, .iadd, 1, [], 0), (37, .invokevirtual 91, 3, [0, 37, 4, 2, 2, 0, 0], 0), (40, .bipush 45, 2, [], 0), (42, .if_icmp .ne 8, 3, [], 0), (45, .iload_n 3, 1, [], 0), (46, .ineg, 1, [], 0), (47, .goto 4, 3, [], 0), (50, .iload_n 3, 1, [], 0), (51, .istore 4, 2, [], 0), (53, .aload_n 0, 1, [], 0), (54, .iconst 2, 1, [], 0), (55, .iload_n 2, 1, [], 0), (56, .iload 4, 2, [], 0), (58, .invokevirtual 128, 3, [0, 35, 3, 4, 4, 0, 0], 0), (61, .aload_n 0, 1, [], 0), (62, .getfield 40, 3, [3, 7, 3], 0), (65, .ifCond .ne 12, 3, [], 0), (68, .aload_n 0, 1, [], 0), (69, .getfield 59, 3, [3, 13, 0], 0), (72, .bipush 30, 2, [], 0), (74, .if_icmp .lt 5, 3, [], 0), (77, .iconst (-1), 1, [], 0), (78, .ireturn, 1, [0], 0), (79, .aload_n 0, 1, [], 0), (80, .getfield 56, 3, [3, 12, 2], 0), (83, .aload_n 0, 1, [], 0), (84, .getfield 59, 3, [3, 13, 0], 0), (87, .aload_n 0, 1, [], 0), (88, .getfield 37, 3, [3, 6, 0], 0), (91, .iconst 1, 1, [], 0), (92, .isub, 1, [], 0), (93, .iastore, 1, [], 0), (94, .aload_n 0, 1, [], 0), (95, .dup, 1, [], 0), (96, .getfield 59, 3, [3, 13, 0], 0), (99, .iconst 1, 1, [], 0), (100, .iadd, 1, [], 0), (101, .putfield 59, 3, [3, 13, 0], 0), (104, .iload_n 1, 1, [], 0), (105, .iconst 3, 1, [], 0), (106, .iadd, 1, [], 0), (107, .ireturn, 1, [0], 0)]
def zc29 : List (Nat × zE) := [(0, .aload_n 0, 1, [], 0), (1, .getfield 59, 3, [3, 13, 0], 0), (4, .istore_n 3, 1, [], 0), (5, .aload_n 0, 1, [], 0), (6, .iload_n 1, 1, [], 0), (7, .iconst 1, 1, [], 0), (8, .iadd, 1, [], 0), (9, .iload_n 2, 1, [], 0), (10, .iconst 1, 1, [], 0), (11, .iadd, 1, [], 0), (12, .invokevirtual 80, 3, [0, 25, 3, 3, 5, 0, 0], 0), (15, .istore 4, 2, [], 0), (17, .iload 4, 2, [], 0), (19, .iconst (-1), 1, [], 0), (20, .if_icmp .eq 8, 3, [], 0), (23, .iload 4, 2, [], 0), (25, .iconst 1, 1, [], 0), (26, .iadd, 1, [], 0), (27, .ireturn, 1, [0], 0), (28, .aload_n 0, 1, [], 0), (29, .iload_n 3, 1, [], 0), (30, .invokevirtual 122, 3, [0, 34, 3, 2, 4, 0, 0], 0), (33, .aload_n 0, 1, [], 0), (34, .dup, 1, [], 0), (35, .getfield 68, 3, [3, 16, 0], 0), (38, .iconst 1, 1, [], 0), (39, .iadd, 1, [], 0), (40, .putfield 68, 3, [3, 16, 0], 0), (43, .aload_n 0, 1, [], 0), (44, .getfield 40, 3, [3, 7, 3], 0), (47, .ifCond .eq 7, 3, [], 0), (50, .iconst (-1), 1, [], 0), (51, .goto 13, 3, [], 0), (54, .aload_n 0, 1, [], 0), (55, .getfield 14, 3, [3, 0, 2], 0), (58, .iload_n 1, 1, [], 0), (59, .invokevirtual 132, 3, [0, 39, 4, 2, 4, 0, 0], 0), (62, .iconst 1, 1, [], 0), (63, .iadd, 1, [], 0), (64, .ireturn, 1, [0], 0)]
def zc30 : List (Nat × zE) := [(0, .iconst (-1), 1, [], 0), (1, .istore 4, 2, [], 0), (3, .iconst 0, 1, [], 0), (4, .istore 5, 2, [], 0), (6, .iload 5, 2, [], 0), (8, .iload_n 2, 1, [], 0), (9, .if_icmp .ge 78, 3, [], 0), (12, .aload_n 0, 1, [], 0), (13, .getfield 37, 3, [3, 6, 0], 0), (16, .istore 6, 2, [], 0), (18, .aload_n 0, 1, [], 0), (19, .getfield 68, 3, [3, 16, 0], 0), (22, .istore 7, 2, [], 0), (24, .aload_n 0, 1, [], 0), (25, .iload_n 1, 1, [], 0), (26, .iconst 2, 1, [], 0), (27, .iadd, 1, [], 0), (28, .iload_n 3, 1, [], 0), (29, .iconst 1, 1, [], 0), (30, .iadd, 1, [], 0), (31, .invokevirtual 80, 3, [0, 25, 3, 3, 5, 0, 0], 0), (34, .istore 4, 2, [], 0), (36, .iload 4, 2, [], 0), (38, .iconst (-1), 1, [], 0), (39, .if_icmp .ne 5, 3, [], 0), (42, .iconst (-1), 1, [], 0), (43, .ireturn, 1, [0], 0), (44, .aload_n 0, 1, [], 0), (45, .getfield 37, 3, [3, 6, 0], 0), (48, .iload 6, 2, [], 0), (50, .if_icmp .ne 31, 3, [], 0), (53, .aload_n 0, 1, [], 0), (54, .dup, 1, [], 0), (55, .getfield 68, 3, [3, 16, 0], 0), (58, .aload_n 0, 1, [], 0), (59, .getfield 68, 3, [3, 16, 0], 0), (62, .iload 7, 2, [], 0), (64, .isub, 1, [], 0), (65, .iload_n 2, 1, [], 0), (66, .iconst 1, 1, [], 0), (67, .isub, 1, [], 0), (68, .iload 5, 2, [], 0), (70, .isub, 1, [], 0), (71, .imul, 1, [], 0), (72, .iadd, 1, [], 0), (73, .putfield 68, 3, [3, 16, 0], 0), (76, .iload 4, 2, [], 0), (78, .iconst 1, 1, [], 0), (79, .iadd, 1, [], 0), (80, .ireturn, 1, [0], 0), (81, .iinc 5 1, 3, [], 0), (84, .goto (-78), 3, [], 0), (87, .iload 4, 2, [], 0), (89, .iconst 1, 1, [], 0), (90, .iadd, 1, [], 0), (91, .ireturn, 1, [0], 0)]
def zc31 : List (Nat × zE) := [(0, .aload_n 0, 1, [], 0), (1, .iload_n 1, 1, [], 0), (2, .putfield 62, 3, [3, 14, 0], 0), (5, .aload_n 0, 1, [], 0), (6, .iload_n 2, 1, [], 0), (7, .putfield 65, 3, [3, 15, 0], 0), (10, .iconst (-1), 1, [], 0), (11, .ireturn, 1, [0], 0)]
def zc32 : List (Nat × zE) := [(0, .aload_n 0, 1, [], 0), (1, .getfield 44, 3, [3, 8, 2], 0), (4, .iload_n 1, 1, [], 0), (5, .iaload, 1, [], 0), (6, .ifCond .le 13, 3, [], 0), (9, .aload_n 0, 1, [], 0), (10, .dup, 1, [], 0), (11, .getfield 71, 3, [3, 17, 0], 0), (14, .iconst 1, 1, [], 0), (15, .iadd, 1, [], 0), (16, .putfield 71, 3, [3, 17, 0], 0), (19, .aload_n 0, 1, [], 0), (20, .getfield 44, 3, [3, 8, 2], 0), (23, .iload_n 1, 1, [], 0), (24, .dup2, 1, [], 0), (25, .iaload, 1, [], 0), (26, .iconst 1, 1, [], 0), (27, .iadd, 1, [], 0), (28, .iastore, 1, [], 0), (29, .aload_n 0, 1, [], 0), (30, .dup, 1, [], 0), (31, .getfield 47, 3, [3, 9, 0], 0), (34, .iload_n 1, 1, [], 0), (35, .invokestatic 136, 3, [3, 146, 0, 1, 1, 0, 0], 0), (38, .ior, 1, [], 0), (39, .putfield 47, 3, [3, 9, 0], 0), (42, .aload_n 0, 1, [], 0), (43, .dup, 1, [], 0), (44, .getfield 50, 3, [3, 10, 0], 0), (47, .iconst 1, 1, [], 0), (48, .iadd, 1, [], 0), (49, .putfield 50, 3, [3, 10, 0], 0), (52, .aload_n 0, 1, [], 0), (53, .aload_n 0, 1, [], 0), (54, .getfield 53, 3, [3, 11, 0], 0), (57, .aload_n 0, 1, [], 0), (58, .getfield 50, 3, [3, 10, 0], 0), (61, .invokestatic 139, 3, [9], 0), (64, .putfield 53, 3, [3, 11, 0], 0), (67, .aload_n 0, 1, [], 0), (68, .iconst 0, 1, [], 0), (69, .iload_n 1, 1, [], 0), (70, .iconst 0, 1, [], 0), (71, .invokevirtual 128, 3, [0, 35, 3, 4, 4, 0, 0], 0), (74, .return_, 1, [], 0)]
def zc33 : List (Nat × zE) := [(0, .aload_n 0, 1, [], 0), (1, .getfield 44, 3, [3, 8, 2], 0), (4, .iload_n 1, 1, [], 0), (5, .dup2, 1, [], 0), (6, .iaload, 1, [], 0), (7, .iconst 1, 1, [], 0), (8, .isub, 1, [], 0), (9, .iastore, 1, [], 0), (10, .aload_n 0, 1, [], 0), (11, .getfield 44, 3, [3, 8, 2], 0), (14, .iload_n 1, 1, [], 0), (15, .iaload, 1, [], 0), (16, .ifCond .ne 18, 3, [], 0), (19, .aload_n 0, 1, [], 0), (20, .dup, 1, [], 0), (21, .getfield 47, 3, [3, 9, 0], 0), (24, .iload_n 1, 1, [], 0), (25, .invokestatic 136, 3, [3, 146, 0, 1, 1, 0, 0], 0), (28, .iconst (-1), 1, [], 0), (29, .ixor, 1, [], 0), (30, .iand, 1, [], 0), (31, .putfield 47, 3, [3, 9, 0], 0), (34, .aload_n 0, 1, [], 0), (35, .dup, 1, [], 0), (36, .getfield 50, 3, [3, 10, 0], 0), (39, .iconst 1, 1, [], 0), (40, .isub, 1, [], 0), (41, .putfield 50, 3, [3, 10, 0], 0), (44, .aload_n 0, 1, [], 0), (45, .iconst 1, 1, [], 0), (46, .iload_n 1, 1, [], 0), (47, .iconst 0, 1, [], 0), (48, .invokevirtual 128, 3, [0, 35, 3, 4, 4, 0, 0], 0), (51, .return_, 1, [], 0)]
def zc34 : List (Nat × zE) := [(0, .aload_n 0, 1, [], 0), (1, .getfield 59, 3, [3, 13, 0], 0), (4, .iconst 1, 1, [], 0), (5, .isub, 1, [], 0), (6, .istore_n 2, 1, [], 0), (7, .iload_n 2, 1, [], 0), (8, .iload_n 1, 1, [], 0), (9, .if_icmp .lt 34, 3, [], 0), (12, .aload_n 0, 1, [], 0), (13, .getfield 56, 3, [3, 12, 2], 0), (16, .iload_n 2, 1, [], 0), (17, .iaload, 1, [], 0), (18, .istore_n 3, 1, [], 0), (19, .aload_n 0, 1, [], 0), (20, .iconst 2, 1, [], 0), (21, .aload_n 0, 1, [], 0), (22, .getfield 28, 3, [3, 3, 2], 0), (25, .iload_n 3, 1, [], 0), (26, .iaload, 1, [], 0), (27, .aload_n 0, 1, [], 0), (28, .getfield 31, 3, [3, 4, 2], 0), (31, .iload_n 3, 1, [], 0), (32, .iaload, 1, [], 0), (33, .ineg, 1, [], 0), (34, .invokevirtual 128, 3, [0, 35, 3, 4, 4, 0, 0], 0), (37, .iinc 2 (-1), 3, [], 0), (40, .goto (-33), 3, [], 0), (43, .aload_n 0, 1, [], 0), (44, .iload_n 1, 1, [], 0), (45, .putfield 59, 3, [3, 13, 0], 0), (48, .return_, 1, [], 0)]
def zc35 : List (Nat × zE) := [(0, .aload_n 0, 1, [], 0), (1, .getfield 37, 3, [3, 6, 0], 0), (4, .bipush 30, 2, [], 0), (6, .if_icmp .lt 9, 3, [], 0), (9, .aload_n 0, 1, [], 0), (10, .iconst 1, 1, [], 0), (11, .putfield 40, 3, [3, 7, 3], 0), (14, .return_, 1, [], 0), (15, .aload_n 0, 1, [], 0), (16, .getfield 24, 3, [3, 2, 2], 0), (19, .aload_n 0, 1, [], 0), (20, .getfield 37, 3, [3, 6, 0], 0), (23, .iload_n 1, 1, [], 0), (24, .iastore, 1, [], 0), (25, .aload_n 0, 1, [], 0), (26, .getfield 28, 3, [3, 3, 2], 0), (29, .aload_n 0, 1, [], 0), (30, .getfield 37, 3, [3, 6, 0], 0), (33, .iload_n 2, 1, [], 0), (34, .iastore, 1, [], 0), (35, .aload_n 0, 1, [], 0), (36, .getfield 31, 3, [3, 4, 2], 0), (39, .aload_n 0, 1, [], 0), (40, .getfield 37, 3, [3, 6, 0], 0), (43, .iload_n 3, 1, [], 0), (44, .iastore, 1, [], 0), (45, .aload_n 0, 1, [], 0), (46, .dup, 1, [], 0), (47, .getfield 37, 3, [3, 6, 0], 0), (50, .iconst 1, 1, [], 0), (51, .iadd, 1, [], 0), (52, .putfield 37, 3, [3, 6, 0], 0), (55, .aload_n 0, 1, [], 0), (56, .getfield 34, 3, [3, 5, 2], 0), (59, .aload_n 0, 1, [], 0), (60, .getfield 37, 3, [3, 6, 0], 0), (63, .aload_n 0, 1, [], 0), (64, .getfield 47, 3, [3, 9, 0], 0), (67, .iastore, 1, [], 0), (68, .return_, 1, [], 0)]
def zc36 : List (Nat × zE) := [(0, .aload_n 0, 1, [], 0), (1, .invokespecial 1, 3, [8], 0), (4, .aload_n 0, 1, [], 0), (5, .aload_n 1, 1, [], 0), (6, .putfield 7, 3, [4, 0, 2], 0), (9, .return_, 1, [], 0)]
def zc37 : List (Nat × zE) := [(0, .iload_n 1, 1, [], 0), (1, .ifCond .lt 12, 3, [], 0), (4, .iload_n 1, 1, [], 0), (5, .aload_n 0, 1, [], 0), (6, .getfield 7, 3, [4, 0, 2], 0), (9, .arraylength, 1, [], 0), (10, .if_icmp .lt 8, 3, [], 0), (13, .bipush 41, 2, [], 0), (15, .goto 9, 3, [], 0), (18, .aload_n 0, 1, [], 0), (19, .getfield 7, 3, [4, 0, 2], 0), (22, .iload_n 1, 1, [], 0), (23, .caload, 1, [], 0), (24, .ireturn, 1, [2], 0)]
def zc38 : List (Nat × zE) := [(0, .aload_n 0, 1, [], 0), (1, .iload_n 1, 1, [], 0), (2, .invokevirtual 13, 3, [0, 37, 4, 2, 2, 0, 0], 0), (5, .istore_n 2, 1, [], 0), (6, .iload_n 2, 1, [], 0), (7, .bipush 41, 2, [], 0), (9, .if_icmp .eq 15, 3, [], 0), (12, .iload_n 2, 1, [], 0), (13, .bipush 93, 2, [], 0), (15, .if_icmp .eq 9, 3, [], 0), (18, .iload_n 2, 1, [], 0), (19, .bipush 125, 2, [], 0), (21, .if_icmp .ne 7, 3, [], 0), (24, .iconst 1, 1, [], 0), (25, .goto 4, 3, [], 0), (28, .iconst 0, 1, [], 0), (29, .ireturn, 1, [1], 0)]
def zc39 : List (Nat × zE) := [(0, .iconst 0, 1, [], 0), (1, .istore_n 2, 1, [], 0), (2, .iload_n 1, 1, [], 0), (3, .istore_n 3, 1, [], 0), (4, .iload_n 3, 1, [], 0), (5, .aload_n 0, 1, [], 0), (6, .getfield 7, 3, [4, 0, 2], 0), (9, .arraylength, 1, [], 0), (10, .if_icmp .ge 65, 3, [], 0), (13, .aload_n 0, 1, [], 0), (14, .getfield 7, 3, [4, 0, 2], 0), (17, .iload_n 3, 1, [], 0), (18, .caload, 1, [], 0), (19, .bipush 40, 2, [], 0), (21, .if_icmp .eq 25, 3, [], 0), (24, .aload_n 0, 1, [], 0), (25, .getfield 7, 3, [4, 0, 2], 0), (28, .iload_n 3, 1, [], 0), (29, .caload, 1, [], 0), (30, .bipush 91, 2, [], 0), (32, .if_icmp .eq 14, 3, [], 0), (35, .aload_n 0, 1, [], 0), (36, .getfield 7, 3, [4, 0, 2], 0), (39, .iload_n 3, 1, [], 0), (40, .caload, 1, [], 0), (41, .bipush 123, 2, [], 0), (43, .if_icmp .ne 9, 3, [], 0), (46, .iinc 2 1, 3, [], 0), (49, .goto 14, 3, [], 0), (52, .aload_n 0, 1, [], 0), (53, .iload_n 3, 1, [], 0), (54, .invokevirtual 17, 3, [0, 38, 4, 2, 3, 0, 0], 0), (57, .ifCond .eq 6, 3, [], 0), (60, .iinc 2 (-1), 3, [], 0), (63, .iload_n 2, 1, [], 0), (64, .ifCond .ne 5, 3, [], 0), (67, .iload_n 3, 1, [], 0), (68, .ireturn, 1, [0], 0), (69, .iinc 3 1, 3, [], 0), (72, .goto (-68), 3, [], 0), (75, .aload_n 0, 1, [], 0), (76, .getfield 7, 3, [4, 0, 2], 0), (79, .arraylength, 1, [], 0), (80, .ireturn, 1, [0], 0)]
def zc40 : List (Nat × zE) := [(0, .aload_n 0, 1, [], 0), (1, .invokespecial 3, 3, [8], 0), (4, .aload_n 0, 1, [], 0), (5, .iconst (-1), 1, [], 0), (6, .putfield 11, 3, [5, 0, 0], 0), (9, .aload_n 0, 1, [], 0), (10, .iconst 0, 1, [], 0), (11, .putfield 15, 3, [5, 1, 0], 0), (14, .aload_n 0, 1, [], 0), (15, .bipush 24, 2, [], 0), (17, .newarray .long, 2, [], 0), (19, .putfield 18, 3, [5, 2, 2], 0), (22, .return_, 1, [], 0)]
def zc41 : List (Nat × zE) := [(0, .aload_n 0, 1, [], 0), (1, .getfield 11, 3, [5, 0, 0], 0), (4, .iconst (-1), 1, [], 0), (5, .if_icmp .ne 7, 3, [], 0), (8, .iconst 1, 1, [], 0), (9, .goto 4, 3, [], 0), (12, .iconst 0, 1, [], 0), (13, .ireturn, 1, [1], 0)]
def zc42 : List (Nat × zE) := [(0, .aload_n 0, 1, [], 0), (1, .getfield 15, 3, [5, 1, 0], 0), (4, .aload_n 1, 1, [], 0), (5, .getfield 15, 3, [5, 1, 0], 0), (8, .if_icmp .ne 7, 3, [], 0), (11, .iconst 1, 1, [], 0), (12, .goto 4, 3, [], 0), (15, .iconst 0, 1, [], 0), (16, .ireturn, 1, [1], 0)]
def zc43 : List (Nat × zE) := [(0, .iload_n 2, 1, [], 0), (1, .ifCond .lt 21, 3, [], 0), (4, .iload_n 1, 1, [], 0), (5, .ifCond .lt 17, 3, [], 0), (8, .iload_n 1, 1, [], 0), (9, .aload_n 0, 1, [], 0), (10, .getfield 11, 3, [5, 0, 0], 0), (13, .iload_n 2, 1, [], 0), (14, .isub, 1, [], 0), (15, .if_icmp .gt 7, 3, [], 0), (18, .iconst 1, 1, [], 0), (19, .goto 4, 3, [], 0), (22, .iconst 0, 1, [], 0), (23, .ireturn, 1, [1], 0)]
def zc44 : List (Nat × zE) := [(0, .aload_n 0, 1, [], 0), (1, .invokevirtual 22, 3, [0, 41, 5, 1, 1, 0, 0], 0), (4, .ifCond .eq 6, 3, [], 0), (7, .bipush (-11), 2, [], 0), (9, .ireturn, 1, [0], 0), (10, .iload_n 1, 1, [], 0), (11, .aload_n 0, 1, [], 0), (12, .getfield 15, 3, [5, 1, 0], 0), (15, .if_icmp .eq 6, 3, [], 0), (18, .bipush (-12), 2, [], 0), (20, .ireturn, 1, [0], 0), (21, .aload_n 0, 1, [], 0), (22, .iload_n 2, 1, [], 0), (23, .iload_n 3, 1, [], 0), (24, .invokevirtual 26, 3, [0, 43, 5, 3, 3, 0, 0], 0), (27, .ifCond .eq 7, 3, [], 0), (30, .iconst 0, 1, [], 0), (31, .goto 5, 3, [], 0), (34, .bipush (-13), 2, [], 0), (36, .ireturn, 1, [0], 0)]
def zc45 : List (Nat × zE) := [(0, .aload_n 0, 1, [], 0), (1, .iload_n 1, 1, [], 0), (2, .putfield 15, 3, [5, 1, 0], 0), (5, .aload_n 0, 1, [], 0), (6, .iload_n 2, 1, [], 0), (7, .putfield 11, 3, [5, 0, 0], 0), (10, .aload_n 0, 1, [], 0), (11, .getfield 18, 3, [5, 2, 2], 0), (14, .lconst 0, 1, [], 0), (15, .invokestatic 30, 3, [1, 245, 0, 2, 5, 0, 0], 0), (18, .return_, 1, [], 0)]
def zc46 : List (Nat × zE) := [(0, .aload_n 0, 1, [], 0), (1, .getfield 11, 3, [5, 0, 0], 0), (4, .istore_n 1, 1, [], 0), (5, .aload_n 0, 1, [], 0), (6, .iconst (-1), 1, [], 0), (7, .putfield 11, 3, [5, 0, 0], 0), (10, .iload_n 1, 1, [], 0), (11, .ireturn, 1, [0], 0)]
def zc47 : List (Nat × zE) := [(0, .aload_n 0, 1, [], 0), (1, .iload_n 1, 1, [], 0), (2, .iconst 1, 1, [], 0), (3, .invokevirtual 26, 3, [0, 43, 5, 3, 3, 0, 0], 0), (6, .ifCond .ne 4, 3, [], 0), (9, .return_, 1, [], 0), (10, .aload_n 0, 1, [], 0), (11, .getfield 15, 3, [5, 1, 0], 0), (14, .tableswitch 64 0 2 #[26, 39, 52], 26, [], 0), (40, .aload_n 0, 1, [], 0), (41, .getfield 18, 3, [5, 2, 2], 0), (44, .iload_n 1, 1, [], 0), (45, .lload_n 2, 1, [], 0), (46, .l2i, 1, [], 0), (47, .i2b, 1, [], 0), (48, .i2l, 1, [], 0), (49, .lastore, 1, [], 0), (50, .goto 35, 3, [], 0), (53, .aload_n 0, 1, [], 0), (54, .getfield 18, 3, [5, 2, 2], 0), (57, .iload_n 1, 1, [], 0), (58, .lload_n 2, 1, [], 0), (59, .l2i, 1, [], 0), (60, .i2s, 1, [], 0), (61, .i2l, 1, [], 0), (62, .lastore, 1, [], 0), (63, .goto 22, 3, [], 0), (66, .aload_n 0, 1, [], 0), (67, .getfield 18, 3, [5, 2, 2], 0), (70, .iload_n 1, 1, [], 0), (71, .lload_n 2, 1, [], 0), (72, .l2i, 1, [], 0), (73, .i2l, 1, [], 0), (74, .lastore, 1, [], 0), (75, .goto 10, 3, [], 0), (78, .aload_n 0, 1, [], 0), (79, .getfield 18, 3, [5, 2, 2], 0), (82, .iload_n 1, 1, [], 0), (83, .lload_n 2, 1, [], 0), (84, .lastore, 1, [], 0), (85, .return_, 1, [], 0)]
def zc48 : List (Nat × zE) := [(0, .aload_n 0, 1, [], 0), (1, .getfield 18, 3, [5, 2, 2], 0), (4, .iload_n 1, 1, [], 0), (5, .aload_n 2, 1, [], 0), (6, .getfield 18, 3, [5, 2, 2], 0), (9, .iload_n 3, 1, [], 0), (10, .iload 4, 2, [], 0), (12, .invokestatic 36, 3, [5], 0), (15, .return_, 1, [], 0)]
def zc49 : List (Nat × zE) := [(0, .aload_n 0, 1, [], 0), (1, .iload_n 1, 1, [], 0), (2, .iconst 1, 1, [], 0), (3, .invokevirtual 26, 3, [0, 43, 5, 3, 3, 0, 0], 0), (6, .ifCond .eq 27, 3, [], 0), (9, .aload_n 0, 1, [], 0), (10, .getfield 18, 3, [5, 2, 2], 0), (13, .iload_n 1, 1, [], 0), (14, .laload, 1, [], 0), (15, .lconst 0, 1, [], 0), (16, .lcmp, 1, [], 0), (17, .ifCond .lt 16, 3, [], 0), (20, .aload_n 0, 1, [], 0), (21, .getfield 18, 3, [5, 2, 2], 0), (24, .iload_n 1, 1, [], 0), (25, .laload, 1, [], 0), (26, .ldc2_w 42, 3, [], 4), (29, .lcmp, 1, [], 0), (30, .ifCond .lt 6, 3, [], 0), (33, .bipush (-4), 2, [], 0), (35, .ireturn, 1, [0], 0), (36, .aload_n 0, 1, [], 0), (37, .getfield 18, 3, [5, 2, 2], 0), (40, .iload_n 1, 1, [], 0), (41, .laload, 1, [], 0), (42, .l2i, 1, [], 0), (43, .ireturn, 1, [0], 0)]
def zc50 : List (Nat × zE) := [(0, .iconst 0, 1, [], 0), (1, .istore_n 3, 1, [], 0), (2, .iload_n 3, 1, [], 0), (3, .iload_n 2, 1, [], 0), (4, .if_icmp .ge 23, 3, [], 0), (7, .aload_n 0, 1, [], 0), (8, .iload_n 1, 1, [], 0), (9, .iload_n 3, 1, [], 0), (10, .iadd, 1, [], 0), (11, .invokevirtual 44, 3, [0, 49, 5, 2, 2, 0, 0], 0), (14, .bipush (-4), 2, [], 0), (16, .if_icmp .ne 5, 3, [], 0), (19, .iconst 0, 1, [], 0), (20, .ireturn, 1, [1], 0), (21, .iinc 3 1, 3, [], 0), (24, .goto (-22), 3, [], 0), (27, .iconst 1, 1, [], 0), (28, .ireturn, 1, [1], 0)]
def zc51 : List (Nat × zE) := [(0, .aload_n 0, 1, [], 0), (1, .invokespecial 3, 3, [8], 0), (4, .aload_n 0, 1, [], 0), (5, .iconst 4, 1, [], 0), (6, .anewarray 9, 3, [23], 0), (9, .putfield 11, 3, [6, 0, 2], 0), (12, .aload_n 0, 1, [], 0), (13, .iconst 4, 1, [], 0), (14, .anewarray 17, 3, [24], 0), (17, .putfield 19, 3, [6, 1, 2], 0), (20, .aload_n 0, 1, [], 0), (21, .iconst 0, 1, [], 0), (22, .putfield 23, 3, [6, 2, 0], 0), (25, .aload_n 0, 1, [], 0), (26, .iconst 0, 1, [], 0), (27, .putfield 27, 3, [6, 3, 0], 0), (30, .aload_n 0, 1, [], 0), (31, .iconst 1, 1, [], 0), (32, .putfield 30, 3, [6, 4, 0], 0), (35, .aload_n 0, 1, [], 0), (36, .iconst 0, 1, [], 0), (37, .putfield 33, 3, [6, 5, 0], 0), (40, .aload_n 0, 1, [], 0), (41, .bipush 6, 2, [], 0), (43, .newarray .int, 2, [], 0), (45, .putfield 36, 3, [6, 6, 2], 0), (48, .aload_n 0, 1, [], 0), (49, .bipush 6, 2, [], 0), (51, .newarray .int, 2, [], 0), (53, .putfield 40, 3, [6, 7, 2], 0), (56, .aload_n 0, 1, [], 0), (57, .bipush 6, 2, [], 0), (59, .newarray .int, 2, [], 0), (61, .putfield 43, 3, [6, 8, 2], 0), (64, .aload_n 0, 1, [], 0), (65, .iconst 4, 1, [], 0), (66, .newarray .int, 2, [], 0), (68, .putfield 46, 3, [6, 9, 2], 0), (71, .aload_n 0, 1, [], 0), (72, .iconst 4, 1, [], 0), (73, .newarray .int, 2, [], 0), (75, .putfield 49, 3, [6, 10, 2], 0), (78, .aload_n 0, 1, [], 0), (79, .iconst 4, 1, [], 0), (80, .newarray .int, 2, [], 0), (82, .putfield 52, 3, [6, 11, 2], 0), (85, .aload_n 0, 1, [], 0), (86, .iconst 4, 1, [], 0), (87, .newarray .int, 2, [], 0), (89, .putfield 55, 3, [6, 12, 2], 0), (92, .aload_n 0, 1, [], 0), (93, .iconst 4, 1, [], 0), (94, .newarray .int, 2, [], 0), (96, .putfield 58, 3, [6, 13, 2], 0), (99, .aload_n 0, 1, [], 0), (100, .getfield 40, 3, [6, 7, 2], 0), (103, .bipush (-4), 2, [], 0), (105, .invokestatic 61, 3, [1, 246, 0, 2, 4, 0, 0], 0), (108, .aload_n 0, 1, [], 0), (109, .getfield 52, 3, [6, 11, 2], 0), (112, .bipush (-4), 2, [], 0), (114, .invokestatic 61, 3, [1, 246, 0, 2, 4, 0, 0], 0), (117, .aload_n 0, 1, [], 0), (118, .getfield 55, 3, [6, 12, 2], 0), (121, .bipush (-4), 2, [], 0), (123, .invokestatic 61, 3, [1, 246, 0, 2, 4, 0, 0], 0), (126, .iconst 0, 1, [], 0), (127, .istore_n 3, 1, [], 0), (128, .iload_n 3, 1, [], 0), (129, .iconst 4, 1, [], 0), (130, .if_icmp .ge 23, 3, [], 0), (133, .aload_n 0, 1, [], 0), (134, .getfield 11, 3, [6, 0, 2], 0), (137, .iload_n 3, 1, [], 0), (138, .aload_n 1, 1, [], 0), (139, .aastore, 1, [], 0), (140, .aload_n 0, 1, [], 0), (141, .getfield 19, 3, [6, 1, 2], 0), (144, .iload_n 3, 1, [], 0), (145, .aload_n 2, 1, [], 0), (146, .aastore, 1, [], 0), (147, .iinc 3 1, 3, [], 0), (150, .goto (-22), 3, [], 0), (153, .return_, 1, [], 0)]
def zc52 : List (Nat × zE) := [(0, .aload_n 0, 1, [], 0), (1, .aload_n 1, 1, [], 0), (2, .getfield 23, 3, [6, 2, 0], 0), (5, .putfield 23, 3, [6, 2, 0], 0), (8, .aload_n 0, 1, [], 0), (9, .aload_n 1, 1, [], 0), (10, .getfield 27, 3, [6, 3, 0], 0), (13, .putfield 27, 3, [6, 3, 0], 0), (16, .aload_n 0, 1, [], 0), (17, .aload_n 1, 1, [], 0), (18, .getfield 30, 3, [6, 4, 0], 0), (21, .putfield 30, 3, [6, 4, 0], 0), (24, .aload_n 0, 1, [], 0), (25, .aload_n 1, 1, [], 0), (26, .getfield 33, 3, [6, 5, 0], 0), (29, .putfield 33, 3, [6, 5, 0], 0), (32, .iconst 0, 1, [], 0), (33, .istore_n 2, 1, [], 0), (34, .iload_n 2, 1, [], 0), (35, .bipush 6, 2, [], 0), (37, .if_icmp .ge 45, 3, [], 0), (40, .aload_n 0, 1, [], 0), (41, .getfield 36, 3, [6, 6, 2], 0), (44, .iload_n 2, 1, [], 0), (45, .aload_n 1, 1, [], 0), (46, .getfield 36, 3, [6, 6, 2], 0), (49, .iload_n 2, 1, [], 0), (50, .iaload, 1, [], 0), (51, .iastore, 1, [], 0), (52, .aload_n 0, 1, [], 0), (53, .getfield 40, 3, [6, 7, 2], 0), (56, .iload_n 2, 1, [], 0), (57, .aload_n 1, 1, [], 0), (58, .getfield 40, 3, [6, 7, 2], 0), (61, .iload_n 2, 1, [], 0), (62, .iaload, 1, [], 0), (63, .iastore, 1, [], 0), (64, .aload_n 0, 1, [], 0), (65, .getfield 43, 3, [6, 8, 2], 0), (68, .iload_n 2, 1, [], 0), (69, .aload_n 1, 1, [], 0), (70, .getfield 43, 3, [6, 8, 2], 0), (73, .iload_n 2, 1, [], 0), (74, .iaload, 1, [], 0), (75, .iastore, 1, [], 0), (76, .iinc 2 1, 3, [], 0), (79, .goto (-45), 3, [], 0), (82, .iconst 0, 1, [], 0), (83, .istore_n 2, 1, [], 0), (84, .iload_n 2, 1, [], 0), (85, .iconst 4, 1, [], 0), (86, .if_icmp .ge 93, 3, [], 0), (89, .aload_n 0, 1, [], 0), (90, .getfield 11, 3, [6, 0, 2], 0), (93, .iload_n 2, 1, [], 0), (94, .aload_n 1, 1, [], 0), (95, .getfield 11, 3, [6, 0, 2], 0), (98, .iload_n 2, 1, [], 0), (99, .aaload, 1, [], 0), (100, .aastore, 1, [], 0), (101, .aload_n 0, 1, [], 0), (102, .getfield 19, 3, [6, 1, 2], 0), (105, .iload_n 2, 1, [], 0), (106, .aload_n 1, 1, [], 0), (107, .getfield 19, 3, [6, 1, 2], 0), (110, .iload_n 2, 1, [], 0), (111, .aaload, 1, [], 0), (112, .aastore, 1, [], 0), (113, .aload_n 0, 1, [], 0), (114, .getfield 46, 3, [6, 9, 2], 0), (117, .iload_n 2, 1, [], 0), (118, .aload_n 1, 1, [], 0), (119, .getfield 46, 3, [6, 9, 2], 0), (122, .iload_n 2, 1, [], 0), (123, .iaload, 1, [], 0), (124, .iastore, 1, [], 0), (125, .aload_n 0, 1, [], 0), (126, .getfield 49, 3, [6, 10, 2], 0), (129, .iload_n 2, 1, [], 0), (130, .aload_n 1, 1, [], 0), (131, .getfield 49, 3, [6, 10, 2], 0), (134, .iload_n 2, 1, [], 0), (135, .iaload, 1, [], 0), (136, .iastore, 1, [], 0), (137, .aload_n 0, 1, [], 0), (138, .getfield 52, 3, [6, 11, 2], 0), (141, .iload_n 2, 1, [], 0), (142, .aload_n 1, 1, [], 0), (143, .getfield 52, 3, [6, 11, 2], 0), (146, .iload_n 2, 1, [], 0), (147, .iaload, 1, [], 0), (148, .iastore, 1, [], 0), (149, .aload_n 0, 1, [], 0), (150, .getfield 55, 3, [6, 12, 2], 0), (153, .iload_n 2, 1, [], 0), (154, .aload_n 1, 1, [], 0), (155, .getfield 55, 3, [6, 12, 2], 0), (158, .iload_n 2, 1, [], 0), (159, .iaload, 1, [], 0), (160, .iastore, 1, [], 0), (161, .aload_n 0, 1, [], 0), (162, .getfield 58, 3, [6, 13, 2], 0), (165, .iload_n 2, 1, [], 0), (166, .aload_n 1, 1, [], 0), (167, .getfield 58, 3, [6, 13, 2], 0), (170, .iload_n 2, 1, [], 0), (171, .iaload, 1, [], 0), (172, .iastore, 1, [], 0), (173, .iinc 2 1, 3, [], 0), (176, .goto (-92), 3, [], 0), (179, .return_, 1, [], 0)]
def zc53 : List (Nat × zE) := [(0, .aload_n 0, 1, [], 0), (1, .getfield 11, 3, [6, 0, 2], 0), (4, .iload_n 1, 1, [], 0), (5, .aaload, 1, [], 0), (6, .areturn, 1, [], 0)]
def zc54 : List (Nat × zE) := [(0, .aload_n 0, 1, [], 0), (1, .getfield 19, 3, [6, 1, 2], 0), (4, .iload_n 1, 1, [], 0), (5, .aaload, 1, [], 0), (6, .areturn, 1, [], 0)]
def zc55 : List (Nat × zE) := [(0, .aload_n 0, 1, [], 0), (1, .getfield 23, 3, [6, 2, 0], 0), (4, .ireturn, 1, [0], 0)]
def zc56 : List (Nat × zE) := [(0, .aload_n 0, 1, [], 0), (1, .getfield 27, 3, [6, 3, 0], 0), (4, .ireturn, 1, [0], 0)]
def zc57 : List (Nat × zE) := [(0, .aload_n 0, 1, [], 0), (1, .getfield 49, 3, [6, 10, 2], 0), (4, .iload_n 1, 1, [], 0), (5, .iaload, 1, [], 0), (6, .ireturn, 1, [0], 0)]
def zc58 : List (Nat × zE) := [(0, .aload_n 0, 1, [], 0), (1, .getfield 46, 3, [6, 9, 2], 0), (4, .iload_n 1, 1, [], 0), (5, .iaload, 1, [], 0), (6, .iconst 3, 1, [], 0), (7, .if_icmp .eq 13, 3, [], 0), (10, .aload_n 0, 1, [], 0), (11, .getfield 46, 3, [6, 9, 2], 0), (14, .iload_n 1, 1, [], 0), (15, .iaload, 1, [], 0), (16, .iconst 4, 1, [], 0), (17, .if_icmp .ne 7, 3, [], 0), (20, .iconst 1, 1, [], 0), (21, .goto 4, 3, [], 0), (24, .iconst 0, 1, [], 0), (25, .ireturn, 1, [1], 0)]
def zc59 : List (Nat × zE) := [(0, .aload_n 0, 1, [], 0), (1, .getfield 46, 3, [6, 9, 2], 0), (4, .iload_n 1, 1, [], 0), (5, .iaload, 1, [], 0), (6, .iconst 2, 1, [], 0), (7, .if_icmp .ne 7, 3, [], 0), (10, .iconst 1, 1, [], 0), (11, .goto 4, 3, [], 0), (14, .iconst 0, 1, [], 0), (15, .ireturn, 1, [1], 0)]
def zc60 : List (Nat × zE) := [(0, .aload_n 0, 1, [], 0), (1, .iconst 1, 1, [], 0), (2, .invokevirtual 67, 3, [0, 62, 6, 2, 4, 0, 0], 0), (5, .aload_n 0, 1, [], 0), (6, .iconst 2, 1, [], 0), (7, .invokevirtual 67, 3, [0, 62, 6, 2, 4, 0, 0], 0), (10, .ior, 1, [], 0), (11, .ifCond .eq 7, 3, [], 0), (14, .iconst 1, 1, [], 0), (15, .goto 4, 3, [], 0), (18, .iconst 0, 1, [], 0), (19, .ireturn, 1, [1], 0)]
def zc61 : List (Nat × zE) := [(0, .aload_n 0, 1, [], 0), (1, .iconst 0, 1, [], 0), (2, .invokevirtual 67, 3, [0, 62, 6, 2, 4, 0, 0], 0), (5, .iconst 4, 1, [], 0), (6, .invokestatic 71, 3, [3, 146, 0, 1, 1, 0, 0], 0), (9, .iconst 1, 1, [], 0), (10, .isub, 1, [], 0), (11, .if_icmp .ne 14, 3, [], 0), (14, .aload_n 0, 1, [], 0), (15, .getfield 33, 3, [6, 5, 0], 0), (18, .ifCond .ne 7, 3, [], 0), (21, .iconst 1, 1, [], 0), (22, .goto 4, 3, [], 0), (25, .iconst 0, 1, [], 0), (26, .ireturn, 1, [1], 0)]
def zc62 : List (Nat × zE) := [(0, .iconst 0, 1, [], 0), (1, .istore_n 2, 1, [], 0), (2, .iconst 0, 1, [], 0), (3, .istore_n 3, 1, [], 0), (4, .iload_n 3, 1, [], 0), (5, .iconst 4, 1, [], 0), (6, .if_icmp .ge 26, 3, [], 0), (9, .aload_n 0, 1, [], 0), (10, .getfield 46, 3, [6, 9, 2], 0), (13, .iload_n 3, 1, [], 0), (14, .iaload, 1, [], 0), (15, .iload_n 1, 1, [], 0), (16, .if_icmp .ne 10, 3, [], 0), (19, .iload_n 2, 1, [], 0), (20, .iload_n 3, 1, [], 0), (21, .invokestatic 71, 3, [3, 146, 0, 1, 1, 0, 0], 0), (24, .ior, 1, [], 0), (25, .istore_n 2, 1, [], 0), (26, .iinc 3 1, 3, [], 0), (29, .goto (-25), 3, [], 0), (32, .iload_n 2, 1, [], 0), (33, .ireturn, 1, [0], 0)]
def zc63 : List (Nat × zE) := [(0, .aload_n 0, 1, [], 0), (1, .iconst 0, 1, [], 0), (2, .invokevirtual 67, 3, [0, 62, 6, 2, 4, 0, 0], 0), (5, .aload_n 0, 1, [], 0), (6, .iconst 1, 1, [], 0), (7, .invokevirtual 67, 3, [0, 62, 6, 2, 4, 0, 0], 0), (10, .ior, 1, [], 0), (11, .aload_n 0, 1, [], 0), (12, .iconst 2, 1, [], 0), (13, .invokevirtual 67, 3, [0, 62, 6, 2, 4, 0, 0], 0), (16, .ior, 1, [], 0), (17, .ireturn, 1, [0], 0)]
def zc64 : List (Nat × zE) := [(0, .iload_n 2, 1, [], 0), (1, .tableswitch 82 0 4 #[35, 45, 52, 59, 76], 35, [], 0), (36, .aload_n 0, 1, [], 0), (37, .getfield 36, 3, [6, 6, 2], 0), (40, .iload_n 1, 1, [], 0), (41, .iaload, 1, [], 0), (42, .ldc 74, 2, [], 1000000), (44, .iadd, 1, [], 0), (45, .ireturn, 1, [0], 0), (46, .aload_n 0, 1, [], 0), (47, .getfield 40, 3, [6, 7, 2], 0), (50, .iload_n 1, 1, [], 0), (51, .iaload, 1, [], 0), (52, .ireturn, 1, [0], 0), (53, .aload_n 0, 1, [], 0), (54, .getfield 43, 3, [6, 8, 2], 0), (57, .iload_n 1, 1, [], 0), (58, .iaload, 1, [], 0), (59, .ireturn, 1, [0], 0), (60, .aload_n 0, 1, [], 0), (61, .getfield 23, 3, [6, 2, 0], 0), (64, .iload_n 1, 1, [], 0), (65, .invokestatic 75, 3, [3, 147, 0, 2, 2, 0, 0], 0), (68, .ifCond .eq 7, 3, [], 0), (71, .iconst 1, 1, [], 0), (72, .goto 4, 3, [], 0), (75, .iconst 0, 1, [], 0), (76, .ireturn, 1, [0], 0), (77, .aload_n 0, 1, [], 0), (78, .iload_n 1, 1, [], 0), (79, .invokevirtual 79, 3, [0, 67, 6, 2, 4, 0, 0], 0), (82, .ireturn, 1, [0], 0), (83, .iconst (-1), 1, [], 0), (84, .ireturn, 1, [0], 0)]
def zc65 : List (Nat × zE) := [(0, .iload_n 2, 1, [], 0), (1, .tableswitch 98 0 6 #[43, 50, 57, 63, 70, 77, 84], 43, [], 0), (44, .aload_n 0, 1, [], 0), (45, .getfield 46, 3, [6, 9, 2], 0), (48, .iload_n 1, 1, [], 0), (49, .iaload, 1, [], 0), (50, .ireturn, 1, [0], 0), (51, .aload_n 0, 1, [], 0), (52, .getfield 49, 3, [6, 10, 2], 0), (55, .iload_n 1, 1, [], 0), (56, .iaload, 1, [], 0), (57, .ireturn, 1, [0], 0), (58, .aload_n 0, 1, [], 0), (59, .iload_n 1, 1, [], 0), (60, .invokevirtual 82, 3, [0, 68, 6, 2, 4, 0, 0], 0), (63, .ireturn, 1, [0], 0), (64, .aload_n 0, 1, [], 0), (65, .getfield 52, 3, [6, 11, 2], 0), (68, .iload_n 1, 1, [], 0), (69, .iaload, 1, [], 0), (70, .ireturn, 1, [0], 0), (71, .aload_n 0, 1, [], 0), (72, .getfield 55, 3, [6, 12, 2], 0), (75, .iload_n 1, 1, [], 0), (76, .iaload, 1, [], 0), (77, .ireturn, 1, [0], 0), (78, .aload_n 0, 1, [], 0), (79, .getfield 58, 3, [6, 13, 2], 0), (82, .iload_n 1, 1, [], 0), (83, .iaload, 1, [], 0), (84, .ireturn, 1, [0], 0), (85, .aload_n 0, 1, [], 0), (86, .iload_n 1, 1, [], 0), (87, .invokevirtual 85, 3, [0, 70, 6, 2, 5, 0, 0], 0), (90, .ifCond .eq 7, 3, [], 0), (93, .iconst 1, 1, [], 0), (94, .goto 4, 3, [], 0), (97, .iconst 0, 1, [], 0), (98, .ireturn, 1, [0], 0), (99, .iconst (-1), 1, [], 0), (100, .ireturn, 1, [0], 0)]
def zc66 : List (Nat × zE) := [(0, .iload_n 1, 1, [], 0), (1, .tableswitch 73 0 7 #[47, 52, 52, 52, 52, 58, 63, 68], 47, [], 0), (48, .aload_n 0, 1, [], 0), (49, .getfield 27, 3, [6, 3, 0], 0), (52, .ireturn, 1, [0], 0), (53, .aload_n 0, 1, [], 0), (54, .iload_n 1, 1, [], 0), (55, .invokevirtual 67, 3, [0, 62, 6, 2, 4, 0, 0], 0), (58, .ireturn, 1, [0], 0), (59, .aload_n 0, 1, [], 0), (60, .invokevirtual 88, 3, [0, 69, 6, 1, 3, 0, 0], 0), (63, .ireturn, 1, [0], 0), (64, .aload_n 0, 1, [], 0), (65, .getfield 23, 3, [6, 2, 0], 0), (68, .ireturn, 1, [0], 0), (69, .aload_n 0, 1, [], 0), (70, .getfield 33, 3, [6, 5, 0], 0), (73, .ireturn, 1, [0], 0), (74, .iconst (-1), 1, [], 0), (75, .ireturn, 1, [0], 0)]
def zc67 : List (Nat × zE) := [(0, .iconst 0, 1, [], 0), (1, .istore_n 2, 1, [], 0), (2, .iconst 0, 1, [], 0), (3, .istore_n 3, 1, [], 0), (4, .iload_n 3, 1, [], 0), (5, .iconst 4, 1, [], 0), (6, .if_icmp .ge 26, 3, [], 0), (9, .aload_n 0, 1, [], 0), (10, .getfield 52, 3, [6, 11, 2], 0), (13, .iload_n 3, 1, [], 0), (14, .iaload, 1, [], 0), (15, .iload_n 1, 1, [], 0), (16, .if_icmp .ne 10, 3, [], 0), (19, .iload_n 2, 1, [], 0), (20, .iload_n 3, 1, [], 0), (21, .invokestatic 71, 3, [3, 146, 0, 1, 1, 0, 0], 0), (24, .ior, 1, [], 0), (25, .istore_n 2, 1, [], 0), (26, .iinc 3 1, 3, [], 0), (29, .goto (-25), 3, [], 0), (32, .iload_n 2, 1, [], 0), (33, .ireturn, 1, [0], 0)]
def zc68 : List (Nat × zE) := [(0, .iconst 0, 1, [], 0), (1, .istore_n 2, 1, [], 0), (2, .iconst 0, 1, [], 0), (3, .istore_n 3, 1, [], 0), (4, .iload_n 3, 1, [], 0), (5, .bipush 6, 2, [], 0), (7, .if_icmp .ge 25, 3, [], 0), (10, .aload_n 0, 1, [], 0), (11, .getfield 40, 3, [6, 7, 2], 0), (14, .iload_n 3, 1, [], 0), (15, .iaload, 1, [], 0), (16, .iload_n 1, 1, [], 0), (17, .if_icmp .ne 9, 3, [], 0), (20, .iload_n 2, 1, [], 0), (21, .iconst 1, 1, [], 0), (22, .iload_n 3, 1, [], 0), (23, .ishl, 1, [], 0), (24, .ior, 1, [], 0), (25, .istore_n 2, 1, [], 0), (26, .iinc 3 1, 3, [], 0), (29, .goto (-25), 3, [], 0), (32, .iload_n 2, 1, [], 0), (33, .ireturn, 1, [0], 0)]
def zc69 : List (Nat × zE) := [(0, .iconst 0, 1, [], 0), (1, .istore_n 1, 1, [], 0), (2, .iconst 0, 1, [], 0), (3, .istore_n 2, 1, [], 0), (4, .iload_n 2, 1, [], 0), (5, .iconst 4, 1, [], 0), (6, .if_icmp .ge 17, 3, [], 0), (9, .iload_n 1, 1, [], 0), (10, .aload_n 0, 1, [], 0), (11, .iload_n 2, 1, [], 0), (12, .invokevirtual 85, 3, [0, 70, 6, 2, 5, 0, 0], 0), (15, .ior, 1, [], 0), (16, .istore_n 1, 1, [], 0), (17, .iinc 2 1, 3, [], 0), (20, .goto (-16), 3, [], 0), (23, .iload_n 1, 1, [], 0), (24, .ireturn, 1, [0], 0)]
def zc70 : List (Nat × zE) := [(0, .iconst 0, 1, [], 0), (1, .istore_n 2, 1, [], 0), (2, .iload_n 1, 1, [], 0), (3, .istore_n 3, 1, [], 0), (4, .iconst 0, 1, [], 0), (5, .istore 4, 2, [], 0), (7, .iload 4, 2, [], 0), (9, .iconst 4, 1, [], 0), (10, .if_icmp .ge 35, 3, [], 0), (13, .iload_n 3, 1, [], 0), (14, .bipush (-4), 2, [], 0), (16, .if_icmp .eq 29, 3, [], 0), (19, .iload_n 2, 1, [], 0), (20, .iload_n 3, 1, [], 0), (21, .invokestatic 71, 3, [3, 146, 0, 1, 1, 0, 0], 0), (24, .ior, 1, [], 0), (25, .istore_n 2, 1, [], 0), (26, .aload_n 0, 1, [], 0), (27, .iload_n 3, 1, [], 0), (28, .invokevirtual 92, 3, [0, 71, 6, 2, 3, 0, 0], 0), (31, .istore_n 3, 1, [], 0), (32, .iload_n 3, 1, [], 0), (33, .iload_n 1, 1, [], 0), (34, .if_icmp .ne 5, 3, [], 0), (37, .iload_n 2, 1, [], 0), (38, .ireturn, 1, [0], 0), (39, .iinc 4 1, 3, [], 0), (42, .goto (-35), 3, [], 0), (45, .iconst 0, 1, [], 0), (46, .ireturn, 1, [0], 0)]
def zc71 : List (Nat × zE) := [(0, .aload_n 0, 1, [], 0), (1, .getfield 52, 3, [6, 11, 2], 0), (4, .iload_n 1, 1, [], 0), (5, .iaload, 1, [], 0), (6, .istore_n 2, 1, [], 0), (7, .iload_n 2, 1, [], 0), (8, .invokestatic 95, 3, [3, 142, 0, 1, 1, 0, 0], 0), (11, .ifCond .eq 8, 3, [], 0), (14, .bipush (-4), 2, [], 0), (16, .goto 9, 3, [], 0), (19, .aload_n 0, 1, [], 0), (20, .getfield 40, 3, [6, 7, 2], 0), (23, .iload_n 2, 1, [], 0), (24, .iaload, 1, [], 0), (25, .ireturn, 1, [0], 0)]
def zc72 : List (Nat × zE) := [(0, .aload_n 0, 1, [], 0), (1, .getfield 11, 3, [6, 0, 2], 0), (4, .iload_n 1, 1, [], 0), (5, .aload_n 2, 1, [], 0), (6, .aastore, 1, [], 0), (7, .aload_n 0, 1, [], 0), (8, .getfield 19, 3, [6, 1, 2], 0), (11, .iload_n 1, 1, [], 0), (12, .aload_n 3, 1, [], 0), (13, .aastore, 1, [], 0), (14, .aload_n 0, 1, [], 0), (15, .iload_n 1, 1, [], 0), (16, .invokevirtual 99, 3, [0, 87, 6, 2, 2, 0, 0], 0), (19, .return_, 1, [], 0)]
def zc73 : List (Nat × zE) := [(0, .aload_n 0, 1, [], 0), (1, .iload_n 1, 1, [], 0), (2, .putfield 23, 3, [6, 2, 0], 0), (5, .iconst 0, 1, [], 0), (6, .istore_n 3, 1, [], 0), (7, .iload_n 3, 1, [], 0), (8, .iconst 4, 1, [], 0), (9, .if_icmp .ge 29, 3, [], 0), (12, .iload_n 3, 1, [], 0), (13, .aload_n 2, 1, [], 0), (14, .arraylength, 1, [], 0), (15, .if_icmp .ge 23, 3, [], 0), (18, .aload_n 0, 1, [], 0), (19, .getfield 19, 3, [6, 1, 2], 0), (22, .iload_n 3, 1, [], 0), (23, .aload_n 2, 1, [], 0), (24, .iload_n 3, 1, [], 0), (25, .aaload, 1, [], 0), (26, .aastore, 1, [], 0), (27, .aload_n 0, 1, [], 0), (28, .iload_n 3, 1, [], 0), (29, .invokevirtual 99, 3, [0, 87, 6, 2, 2, 0, 0], 0), (32, .iinc 3 1, 3, [], 0), (35, .goto (-28), 3, [], 0), (38, .return_, 1, [], 0)]
def zc74 : List (Nat × zE) := [(0, .aload_n 0, 1, [], 0), (1, .iload_n 1, 1, [], 0), (2, .putfield 27, 3, [6, 3, 0], 0), (5, .return_, 1, [], 0)]
def zc75 : List (Nat × zE) := [(0, .aload_n 0, 1, [], 0), (1, .getfield 30, 3, [6, 4, 0], 0), (4, .istore_n 2, 1, [], 0), (5, .aload_n 0, 1, [], 0), (6, .iload_n 1, 1, [], 0), (7, .putfield 30, 3, [6, 4, 0], 0), (10, .iload_n 2, 1, [], 0), (11, .ireturn, 1, [0], 0)]
def zc76 : List (Nat × zE) := [(0, .aload_n 0, 1, [], 0), (1, .getfield 19, 3, [6, 1, 2], 0), (4, .iload_n 1, 1, [], 0), (5, .aaload, 1, [], 0), (6, .aload_n 0, 1, [], 0), (7, .getfield 36, 3, [6, 6, 2], 0), (10, .aload_n 0, 1, [], 0), (11, .getfield 19, 3, [6, 1, 2], 0), (14, .iload_n 1, 1, [], 0), (15, .aaload, 1, [], 0), (16, .invokevirtual 103, 3, [0, 99, 8, 1, 1, 0, 0], 0), (19, .iconst 1, 1, [], 0), (20, .invokevirtual 106, 3, [0, 105, 8, 4, 5, 0, 0], 0), (23, .return_, 1, [], 0)]
def zc77 : List (Nat × zE) := [(0, .iconst 4, 1, [], 0), (1, .aload_n 0, 1, [], 0), (2, .iconst 0, 1, [], 0), (3, .invokevirtual 67, 3, [0, 62, 6, 2, 4, 0, 0], 0), (6, .invokestatic 110, 3, [1, 244, 0, 1, 1, 0, 0], 0), (9, .isub, 1, [], 0), (10, .istore_n 1, 1, [], 0), (11, .iconst 0, 1, [], 0), (12, .istore_n 2, 1, [], 0), (13, .iload_n 2, 1, [], 0), (14, .iconst 4, 1, [], 0), (15, .if_icmp .ge 46, 3, [], 0), (18, .aload_n 0, 1, [], 0), (19, .getfield 46, 3, [6, 9, 2], 0), (22, .iload_n 2, 1, [], 0), (23, .iaload, 1, [], 0), (24, .iconst 1, 1, [], 0), (25, .if_icmp .eq 13, 3, [], 0), (28, .aload_n 0, 1, [], 0), (29, .getfield 46, 3, [6, 9, 2], 0), (32, .iload_n 2, 1, [], 0), (33, .iaload, 1, [], 0), (34, .iconst 2, 1, [], 0), (35, .if_icmp .ne 8, 3, [], 0), (38, .aload_n 0, 1, [], 0), (39, .iload_n 2, 1, [], 0), (40, .invokevirtual 115, 3, [0, 86, 6, 2, 3, 0, 0], 0), (43, .aload_n 0, 1, [], 0), (44, .iload_n 2, 1, [], 0), (45, .invokevirtual 99, 3, [0, 87, 6, 2, 2, 0, 0], 0), (48, .aload_n 0, 1, [], 0), (49, .getfield 58, 3, [6, 13, 2], 0), (52, .iload_n 2, 1, [], 0), (53, .iconst 0, 1, [], 0), (54, .iastore, 1, [], 0), (55, .iinc 2 1, 3, [], 0), (58, .goto (-45), 3, [], 0), (61, .aload_n 0, 1, [], 0), (62, .iconst 0, 1, [], 0), (63, .putfield 33, 3, [6, 5, 0], 0), (66, .iload_n 1, 1, [], 0), (67, .ireturn, 1, [0], 0)]
def zc78 : List (Nat × zE) := [(0, .aload_n 0, 1, [], 0), (1, .invokevirtual 118, 3, [0, 81, 6, 1, 1, 0, 0], 0), (4, .istore_n 1, 1, [], 0), (5, .aload_n 0, 1, [], 0), (6, .invokevirtual 121, 3, [0, 63, 6, 1, 1, 0, 0], 0), (9, .istore_n 2, 1, [], 0), (10, .iload_n 2, 1, [], 0), (11, .invokestatic 110, 3, [1, 244, 0, 1, 1, 0, 0], 0), (14, .istore_n 3, 1, [], 0), (15, .iload_n 3, 1, [], 0), (16, .ifCond .ne 4, 3, [], 0), (19, .return_, 1, [], 0), (20, .iload_n 1, 1, [], 0), (21, .iload_n 3, 1, [], 0), (22, .irem, 1, [], 0), (23, .istore 4, 2, [], 0), (25, .iconst 0, 1, [], 0), (26, .istore 5, 2, [], 0), (28, .iload 5, 2, [], 0), (30, .iconst 4, 1, [], 0), (31, .if_icmp .ge 34, 3, [], 0), (34, .iload_n 2, 1, [], 0), (35, .iload 5, 2, [], 0), (37, .invokestatic 75, 3, [3, 147, 0, 2, 2, 0, 0], 0), (40, .ifCond .eq 19, 3, [], 0), (43, .iload 4, 2, [], 0), (45, .ifCond .ne 11, 3, [], 0), (48, .aload_n 0, 1, [], 0), (49, .iload 5, 2, [], 0), (51, .invokevirtual 124, 3, [0, 80, 6, 2, 3, 0, 0], 0), (54, .pop, 1, [], 0), (55, .return_, 1, [], 0), (56, .iinc 4 (-1), 3, [], 0), (59, .iinc 5 1, 3, [], 0), (62, .goto (-34), 3, [], 0), (65, .return_, 1, [], 0)]
def zc79 : List (Nat × zE) := [(0, .aload_n 0, 1, [], 0), (1, .invokevirtual 118, 3, [0, 81, 6, 1, 1, 0, 0], 0), (4, .istore_n 1, 1, [], 0), (5, .iload_n 1, 1, [], 0), (6, .bipush 8, 2, [], 0), (8, .irem, 1, [], 0), (9, .istore_n 2, 1, [], 0), (10, .iload_n 1, 1, [], 0), (11, .bipush 8, 2, [], 0), (13, .idiv, 1, [], 0), (14, .istore_n 3, 1, [], 0), (15, .iload_n 2, 1, [], 0), (16, .bipush 6, 2, [], 0), (18, .if_icmp .ne 18, 3, [], 0), (21, .aload_n 0, 1, [], 0), (22, .invokevirtual 127, 3, [0, 61, 6, 1, 1, 0, 0], 0), (25, .ifCond .ne 45, 3, [], 0), (28, .aload_n 0, 1, [], 0), (29, .invokevirtual 131, 3, [0, 77, 6, 1, 3, 0, 0], 0), (32, .pop, 1, [], 0), (33, .goto 37, 3, [], 0), (36, .iload_n 2, 1, [], 0), (37, .bipush 7, 2, [], 0), (39, .if_icmp .ne 13, 3, [], 0), (42, .aload_n 0, 1, [], 0), (43, .iload_n 3, 1, [], 0), (44, .iconst 5, 1, [], 0), (45, .irem, 1, [], 0), (46, .putfield 27, 3, [6, 3, 0], 0), (49, .goto 21, 3, [], 0), (52, .aload_n 0, 1, [], 0), (53, .iload_n 3, 1, [], 0), (54, .iconst 4, 1, [], 0), (55, .irem, 1, [], 0), (56, .invokevirtual 134, 3, [0, 58, 6, 2, 2, 0, 0], 0), (59, .ifCond .ne 11, 3, [], 0), (62, .aload_n 0, 1, [], 0), (63, .iload_n 3, 1, [], 0), (64, .iconst 4, 1, [], 0), (65, .irem, 1, [], 0), (66, .invokevirtual 124, 3, [0, 80, 6, 2, 3, 0, 0], 0), (69, .pop, 1, [], 0), (70, .return_, 1, [], 0)]
def zc80 : List (Nat × zE) := [(0, .aload_n 0, 1, [], 0), (1, .getfield 46, 3, [6, 9, 2], 0), (4, .iload_n 1, 1, [], 0), (5, .iaload, 1, [], 0), (6, .ifCond .ne 23, 3, [], 0), (9, .aload_n 0, 1, [], 0), (10, .getfield 55, 3, [6, 12, 2], 0), (13, .iload_n 1, 1, [], 0), (14, .aload_n 0, 1, [], 0), (15, .getfield 33, 3, [6, 5, 0], 0), (18, .iastore, 1, [], 0), (19, .aload_n 0, 1, [], 0), (20, .dup, 1, [], 0), (21, .getfield 33, 3, [6, 5, 0], 0), (24, .iconst 1, 1, [], 0), (25, .iadd, 1, [], 0), (26, .putfield 33, 3, [6, 5, 0], 0), (29, .aload_n 0, 1, [], 0), (30, .getfield 19, 3, [6, 1, 2], 0), (33, .iload_n 1, 1, [], 0), (34, .aaload, 1, [], 0), (35, .aload_n 0, 1, [], 0), (36, .getfield 49, 3, [6, 10, 2], 0), (39, .iload_n 1, 1, [], 0), (40, .iaload, 1, [], 0), (41, .invokevirtual 137, 3, [0, 107, 8, 2, 2, 0, 0], 0), (44, .istore_n 2, 1, [], 0), (45, .iload_n 2, 1, [], 0), (46, .bipush (-4), 2, [], 0), (48, .if_icmp .eq 31, 3, [], 0), (51, .aload_n 0, 1, [], 0), (52, .getfield 40, 3, [6, 7, 2], 0), (55, .iload_n 2, 1, [], 0), (56, .iaload, 1, [], 0), (57, .bipush (-4), 2, [], 0), (59, .if_icmp .eq 20, 3, [], 0), (62, .aload_n 0, 1, [], 0), (63, .getfield 40, 3, [6, 7, 2], 0), (66, .iload_n 2, 1, [], 0), (67, .iaload, 1, [], 0), (68, .iload_n 1, 1, [], 0), (69, .if_icmp .eq 10, 3, [], 0), (72, .aload_n 0, 1, [], 0), (73, .iload_n 1, 1, [], 0), (74, .iload_n 2, 1, [], 0), (75, .invokevirtual 140, 3, [0, 82, 6, 3, 5, 0, 0], 0), (78, .ireturn, 1, [0], 0), (79, .aload_n 0, 1, [], 0), (80, .iload_n 1, 1, [], 0), (81, .invokevirtual 144, 3, [0, 83, 6, 2, 5, 0, 0], 0), (84, .aload_n 0, 1, [], 0), (85, .getfield 52, 3, [6, 11, 2], 0), (88, .iload_n 1, 1, [], 0), (89, .bipush (-4), 2, [], 0), (91, .iastore, 1, [], 0), (92, .aload_n 0, 1, [], 0), (93, .getfield 19, 3, [6, 1, 2], 0), (96, .iload_n 1, 1, [], 0), (97, .aaload, 1, [], 0), (98, .aload_n 0, 1, [], 0), (99, .getfield 49, 3, [6, 10, 2], 0), (102, .iload_n 1, 1, [], 0), (103, .iaload, 1, [], 0), (104, .invokevirtual 147, 3, [0, 101, 8, 2, 2, 0, 0], 0), (107, .ifCond .eq 12, 3, [], 0), (110, .aload_n 0, 1, [], 0), (111, .getfield 46, 3, [6, 9, 2], 0), (114, .iload_n 1, 1, [], 0), (115, .iconst 1, 1, [], 0), (116, .iastore, 1, [], 0), (117, .iconst 0, 1, [], 0), (118, .ireturn, 1, [0], 0), (119, .aload_n 0, 1, [], 0), (120, .getfield 46, 3, [6, 9, 2], 0), (123, .iload_n 1, 1, [], 0), (124, .aload_n 0, 1, [], 0), (125, .getfield 19, 3, [6, 1, 2], 0), (128, .iload_n 1, 1, [], 0), (129, .aaload, 1, [], 0), (130, .invokevirtual 150, 3, [0, 100, 8, 1, 1, 0, 0], 0), (133, .ifCond .eq 7, 3, [], 0), (136, .iconst 4, 1, [], 0), (137, .goto 4, 3, [], 0), (140, .iconst 3, 1, [], 0), (141, .iastore, 1, [], 0), (142, .aload_n 0, 1, [], 0), (143, .getfield 46, 3, [6, 9, 2], 0), (146, .iload_n 1, 1, [], 0), (147, .iaload, 1, [], 0), (148, .iconst 4, 1, [], 0), (149, .if_icmp .ne 7, 3, [], 0), (152, .iconst 3, 1, [], 0), (153, .goto 4, 3, [], 0), (156, .iconst 2, 1, [], 0), (157, .ireturn, 1, [0], 0)]
def zc81 : List (Nat × zE) := [(0, .aload_n 0, 1, [], 0), (1, .aload_n 0, 1, [], 0), (2, .getfield 30, 3, [6, 4, 0], 0), (5, .i2l, 1, [], 0), (6, .ldc2_w 153, 3, [], 1103515245), (9, .lmul, 1, [], 0), (10, .ldc2_w 155, 3, [], 12345), (13, .ladd, 1, [], 0), (14, .ldc2_w 157, 3, [], 2147483647), (17, .land, 1, [], 0), (18, .l2i, 1, [], 0), (19, .putfield 30, 3, [6, 4, 0], 0), (22, .aload_n 0, 1, [], 0), (23, .getfield 30, 3, [6, 4, 0], 0), (26, .ldc 159, 2, [], 65536), (28, .idiv, 1, [], 0), (29, .ireturn, 1, [0], 0)]
def zc82 : List (Nat × zE) := [(0, .aload_n 0, 1, [], 0), (1, .getfield 46, 3, [6, 9, 2], 0), (4, .iload_n 1, 1, [], 0), (5, .iconst 2, 1, [], 0), (6, .iastore, 1, [], 0), (7, .aload_n 0, 1, [], 0), (8, .getfield 52, 3, [6, 11, 2], 0), (11, .iload_n 1, 1, [], 0), (12, .iload_n 2, 1, [], 0), (13, .iastore, 1, [], 0), (14, .aload_n 0, 1, [], 0), (15, .iload_n 1, 1, [], 0), (16, .invokevirtual 85, 3, [0, 70, 6, 2, 5, 0, 0], 0), (19, .istore_n 3, 1, [], 0), (20, .iload_n 3, 1, [], 0), (21, .ifCond .ne 5, 3, [], 0), (24, .iconst 1, 1, [], 0), (25, .ireturn, 1, [0], 0), (26, .aload_n 0, 1, [], 0), (27, .getfield 27, 3, [6, 3, 0], 0), (30, .ifCond .ne 5, 3, [], 0), (33, .iconst 4, 1, [], 0), (34, .ireturn, 1, [0], 0), (35, .aload_n 0, 1, [], 0), (36, .iload_n 3, 1, [], 0), (37, .invokevirtual 160, 3, [0, 84, 6, 2, 4, 0, 0], 0), (40, .istore 4, 2, [], 0), (42, .aload_n 0, 1, [], 0), (43, .iload 4, 2, [], 0), (45, .invokevirtual 115, 3, [0, 86, 6, 2, 3, 0, 0], 0), (48, .aload_n 0, 1, [], 0), (49, .iload 4, 2, [], 0), (51, .invokevirtual 99, 3, [0, 87, 6, 2, 2, 0, 0], 0), (54, .aload_n 0, 1, [], 0), (55, .getfield 58, 3, [6, 13, 2], 0), (58, .iload 4, 2, [], 0), (60, .dup2, 1, [], 0), (61, .iaload, 1, [], 0), (62, .iconst 1, 1, [], 0), (63, .iadd, 1, [], 0), (64, .iastore, 1, [], 0), (65, .bipush 10, 2, [], 0), (67, .iload 4, 2, [], 0), (69, .iadd, 1, [], 0), (70, .ireturn, 1, [0], 0)]
def zc83 : List (Nat × zE) := [(0, .aload_n 0, 1, [], 0), (1, .getfield 19, 3, [6, 1, 2], 0), (4, .iload_n 1, 1, [], 0), (5, .aaload, 1, [], 0), (6, .astore_n 2, 1, [], 0), (7, .aload_n 0, 1, [], 0), (8, .getfield 49, 3, [6, 10, 2], 0), (11, .iload_n 1, 1, [], 0), (12, .iaload, 1, [], 0), (13, .istore_n 3, 1, [], 0), (14, .aload_n 2, 1, [], 0), (15, .iload_n 3, 1, [], 0), (16, .invokevirtual 147, 3, [0, 101, 8, 2, 2, 0, 0], 0), (19, .ifCond .ne 4, 3, [], 0), (22, .return_, 1, [], 0), (23, .aload_n 2, 1, [], 0), (24, .iload_n 3, 1, [], 0), (25, .invokevirtual 163, 3, [0, 103, 8, 2, 2, 0, 0], 0), (28, .istore 4, 2, [], 0), (30, .aload_n 2, 1, [], 0), (31, .iload_n 3, 1, [], 0), (32, .invokevirtual 166, 3, [0, 102, 8, 2, 2, 0, 0], 0), (35, .ifCond .ne 25, 3, [], 0), (38, .aload_n 0, 1, [], 0), (39, .getfield 40, 3, [6, 7, 2], 0), (42, .iload 4, 2, [], 0), (44, .iload_n 1, 1, [], 0), (45, .iastore, 1, [], 0), (46, .aload_n 0, 1, [], 0), (47, .getfield 43, 3, [6, 8, 2], 0), (50, .iload 4, 2, [], 0), (52, .dup2, 1, [], 0), (53, .iaload, 1, [], 0), (54, .iconst 1, 1, [], 0), (55, .iadd, 1, [], 0), (56, .iastore, 1, [], 0), (57, .goto 60, 3, [], 0), (60, .aload_n 2, 1, [], 0), (61, .iload_n 3, 1, [], 0), (62, .invokevirtual 166, 3, [0, 102, 8, 2, 2, 0, 0], 0), (65, .iconst 1, 1, [], 0), (66, .if_icmp .ne 36, 3, [], 0), (69, .aload_n 0, 1, [], 0), (70, .getfield 43, 3, [6, 8, 2], 0), (73, .iload 4, 2, [], 0), (75, .dup2, 1, [], 0), (76, .iaload, 1, [], 0), (77, .iconst 1, 1, [], 0), (78, .isub, 1, [], 0), (79, .iastore, 1, [], 0), (80, .aload_n 0, 1, [], 0), (81, .getfield 43, 3, [6, 8, 2], 0), (84, .iload 4, 2, [], 0), (86, .iaload, 1, [], 0), (87, .ifCond .ne 30, 3, [], 0), (90, .aload_n 0, 1, [], 0), (91, .getfield 40, 3, [6, 7, 2], 0), (94, .iload 4, 2, [], 0), (96, .bipush (-4), 2, [], 0), (98, .iastore, 1, [], 0), (99, .goto 18, 3, [], 0), (102, .aload_n 0, 1, [], 0), (103, .getfield 36, 3, [6, 6, 2], 0), (106, .iload 4, 2, [], 0), (108, .dup2, 1, [], 0), (109, .iaload, 1, [], 0), (110, .aload_n 2, 1, [], 0), (111, .iload_n 3, 1, [], 0), (112, .invokevirtual 169, 3, [0, 104, 8, 2, 2, 0, 0], 0), (115, .iadd, 1, [], 0), (116, .iastore, 1, [], 0), (117, .aload_n 0, 1, [], 0), (118, .getfield 49, 3, [6, 10, 2], 0), (121, .iload_n 1, 1, [], 0), (122, .iload_n 3, 1, [], 0), (123, .iconst 1, 1, [], 0), (124, .iadd, 1, [], 0), (125, .iastore, 1, [], 0), (126, .return_, 1, [], 0)]
def zc84 : List (Nat × zE) := [(0, .bipush (-4), 2, [], 0), (2, .istore_n 2, 1, [], 0), (3, .iconst 0, 1, [], 0), (4, .istore_n 3, 1, [], 0), (5, .iload_n 3, 1, [], 0), (6, .iconst 4, 1, [], 0), (7, .if_icmp .ge 38, 3, [], 0), (10, .iload_n 1, 1, [], 0), (11, .iload_n 3, 1, [], 0), (12, .invokestatic 75, 3, [3, 147, 0, 2, 2, 0, 0], 0), (15, .ifCond .eq 24, 3, [], 0), (18, .iload_n 2, 1, [], 0), (19, .bipush (-4), 2, [], 0), (21, .if_icmp .eq 16, 3, [], 0), (24, .aload_n 0, 1, [], 0), (25, .iload_n 3, 1, [], 0), (26, .invokevirtual 172, 3, [0, 85, 6, 2, 2, 0, 0], 0), (29, .aload_n 0, 1, [], 0), (30, .iload_n 2, 1, [], 0), (31, .invokevirtual 172, 3, [0, 85, 6, 2, 2, 0, 0], 0), (34, .if_icmp .le 5, 3, [], 0), (37, .iload_n 3, 1, [], 0), (38, .istore_n 2, 1, [], 0), (39, .iinc 3 1, 3, [], 0), (42, .goto (-37), 3, [], 0), (45, .iload_n 2, 1, [], 0), (46, .ireturn, 1, [0], 0)]
def zc85 : List (Nat × zE) := [(0, .aload_n 0, 1, [], 0), (1, .getfield 27, 3, [6, 3, 0], 0), (4, .tableswitch 53 1 3 #[28, 35, 43], 28, [], 0), (32, .aload_n 0, 1, [], 0), (33, .getfield 55, 3, [6, 12, 2], 0), (36, .iload_n 1, 1, [], 0), (37, .iaload, 1, [], 0), (38, .ireturn, 1, [0], 0), (39, .aload_n 0, 1, [], 0), (40, .getfield 49, 3, [6, 10, 2], 0), (43, .iload_n 1, 1, [], 0), (44, .iaload, 1, [], 0), (45, .ineg, 1, [], 0), (46, .ireturn, 1, [0], 0), (47, .aload_n 0, 1, [], 0), (48, .iload_n 1, 1, [], 0), (49, .invokevirtual 82, 3, [0, 68, 6, 2, 4, 0, 0], 0), (52, .invokestatic 110, 3, [1, 244, 0, 1, 1, 0, 0], 0), (55, .ineg, 1, [], 0), (56, .ireturn, 1, [0], 0), (57, .iload_n 1, 1, [], 0), (58, .ireturn, 1, [0], 0)]
def zc86 : List (Nat × zE) := [(0, .aload_n 0, 1, [], 0), (1, .getfield 19, 3, [6, 1, 2], 0), (4, .iload_n 1, 1, [], 0), (5, .aaload, 1, [], 0), (6, .aload_n 0, 1, [], 0), (7, .getfield 36, 3, [6, 6, 2], 0), (10, .aload_n 0, 1, [], 0), (11, .getfield 49, 3, [6, 10, 2], 0), (14, .iload_n 1, 1, [], 0), (15, .iaload, 1, [], 0), (16, .iconst (-1), 1, [], 0), (17, .invokevirtual 106, 3, [0, 105, 8, 4, 5, 0, 0], 0), (20, .iconst 0, 1, [], 0), (21, .istore_n 2, 1, [], 0), (22, .iload_n 2, 1, [], 0), (23, .bipush 6, 2, [], 0), (25, .if_icmp .ge 34, 3, [], 0), (28, .aload_n 0, 1, [], 0), (29, .getfield 40, 3, [6, 7, 2], 0), (32, .iload_n 2, 1, [], 0), (33, .iaload, 1, [], 0), (34, .iload_n 1, 1, [], 0), (35, .if_icmp .ne 18, 3, [], 0), (38, .aload_n 0, 1, [], 0), (39, .getfield 40, 3, [6, 7, 2], 0), (42, .iload_n 2, 1, [], 0), (43, .bipush (-4), 2, [], 0), (45, .iastore, 1, [], 0), (46, .aload_n 0, 1, [], 0), (47, .getfield 43, 3, [6, 8, 2], 0), (50, .iload_n 2, 1, [], 0), (51, .iconst 0, 1, [], 0), (52, .iastore, 1, [], 0), (53, .iinc 2 1, 3, [], 0), (56, .goto (-34), 3, [], 0), (59, .return_, 1, [], 0)]
def zc87 : List (Nat × zE) := [(0, .aload_n 0, 1, [], 0), (1, .getfield 46, 3, [6, 9, 2], 0), (4, .iload_n 1, 1, [], 0), (5, .iconst 0, 1, [], 0), (6, .iastore, 1, [], 0), (7, .aload_n 0, 1, [], 0), (8, .getfield 49, 3, [6, 10, 2], 0), (11, .iload_n 1, 1, [], 0), (12, .iconst 0, 1, [], 0), (13, .iastore, 1, [], 0), (14, .aload_n 0, 1, [], 0), (15, .getfield 52, 3, [6, 11, 2], 0), (18, .iload_n 1, 1, [], 0), (19, .bipush (-4), 2, [], 0), (21, .iastore, 1, [], 0), (22, .aload_n 0, 1, [], 0), (23, .getfield 55, 3, [6, 12, 2], 0), (26, .iload_n 1, 1, [], 0), (27, .bipush (-4), 2, [], 0), (29, .iastore, 1, [], 0), (30, .return_, 1, [], 0)]
def zc88 : List (Nat × zE) := [(0, .aload_n 0, 1, [], 0), (1, .invokespecial 3, 3, [8], 0), (4, .aload_n 0, 1, [], 0), (5, .bipush 60, 2, [], 0), (7, .newarray .char, 2, [], 0), (9, .putfield 9, 3, [7, 0, 2], 0), (12, .aload_n 0, 1, [], 0), (13, .iconst 0, 1, [], 0), (14, .putfield 15, 3, [7, 1, 0], 0), (17, .aload_n 0, 1, [], 0), (18, .bipush 6, 2, [], 0), (20, .newarray .char, 2, [], 0), (22, .putfield 19, 3, [7, 2, 2], 0), (25, .aload_n 0, 1, [], 0), (26, .iconst 0, 1, [], 0), (27, .putfield 22, 3, [7, 3, 0], 0), (30, .aload_n 0, 1, [], 0), (31, .iconst 0, 1, [], 0), (32, .putfield 25, 3, [7, 4, 0], 0), (35, .return_, 1, [], 0)]
def zc89 : List (Nat × zE) := [(0, .aload_n 0, 1, [], 0), (1, .getfield 15, 3, [7, 1, 0], 0), (4, .ireturn, 1, [0], 0)]
def zc90 : List (Nat × zE) := [(0, .aload_n 0, 1, [], 0), (1, .getfield 15, 3, [7, 1, 0], 0), (4, .bipush 60, 2, [], 0), (6, .if_icmp .lt 5, 3, [], 0), (9, .iconst 0, 1, [], 0), (10, .ireturn, 1, [1], 0), (11, .aload_n 0, 1, [], 0), (12, .getfield 9, 3, [7, 0, 2], 0), (15, .aload_n 0, 1, [], 0), (16, .getfield 15, 3, [7, 1, 0], 0), (19, .iload_n 1, 1, [], 0), (20, .castore, 1, [], 0), (21, .aload_n 0, 1, [], 0), (22, .dup, 1, [], 0), (23, .getfield 15, 3, [7, 1, 0], 0), (26, .iconst 1, 1, [], 0), (27, .iadd, 1, [], 0), (28, .putfield 15, 3, [7, 1, 0], 0), (31, .iconst 1, 1, [], 0), (32, .ireturn, 1, [1], 0)]
def zc91 : List (Nat × zE) := [(0, .aload_n 0, 1, [], 0), (1, .iconst 0, 1, [], 0), (2, .putfield 15, 3, [7, 1, 0], 0), (5, .return_, 1, [], 0)]
def zc92 : List (Nat × zE) := [(0, .aload_n 0, 1, [], 0), (1, .iconst 0, 1, [], 0), (2, .putfield 22, 3, [7, 3, 0], 0), (5, .aload_n 0, 1, [], 0), (6, .iconst 0, 1, [], 0), (7, .putfield 25, 3, [7, 4, 0], 0), (10, .iconst 0, 1, [], 0), (11, .istore_n 1, 1, [], 0), (12, .iload_n 1, 1, [], 0), (13, .aload_n 0, 1, [], 0), (14, .getfield 15, 3, [7, 1, 0], 0), (17, .if_icmp .ge 35, 3, [], 0), (20, .aload_n 0, 1, [], 0), (21, .getfield 9, 3, [7, 0, 2], 0), (24, .iload_n 1, 1, [], 0), (25, .caload, 1, [], 0), (26, .bipush 32, 2, [], 0), (28, .if_icmp .eq 18, 3, [], 0), (31, .aload_n 0, 1, [], 0), (32, .aload_n 0, 1, [], 0), (33, .getfield 9, 3, [7, 0, 2], 0), (36, .iload_n 1, 1, [], 0), (37, .caload, 1, [], 0), (38, .invokevirtual 28, 3, [0, 94, 7, 2, 2, 0, 0], 0), (41, .ifCond .ne 5, 3, [], 0), (44, .iload_n 1, 1, [], 0), (45, .ireturn, 1, [0], 0), (46, .iinc 1 1, 3, [], 0), (49, .goto (-37), 3, [], 0), (52, .aload_n 0, 1, [], 0), (53, .getfield 22, 3, [7, 3, 0], 0), (56, .ifCond .ne 15, 3, [], 0), (59, .aload_n 0, 1, [], 0), (60, .getfield 25, 3, [7, 4, 0], 0), (63, .ifCond .ne 8, 3, [], 0), (66, .bipush (-4), 2, [], 0), (68, .goto 7, 3, [], 0), (71, .aload_n 0, 1, [], 0), (72, .getfield 15, 3, [7, 1, 0], 0), (75, .ireturn, 1, [0], 0)]
def zc93 : List (Nat × zE) := [(0, .aload_n 0, 1, [], 0), (1, .getfield 15, 3, [7, 1, 0], 0), (4, .newarray .char, 2, [], 0), (6, .astore_n 1, 1, [], 0), (7, .iconst 0, 1, [], 0), (8, .istore_n 2, 1, [], 0), (9, .iconst 0, 1, [], 0), (10, .istore_n 3, 1, [], 0), (11, .iload_n 3, 1, [], 0), (12, .aload_n 0, 1, [], 0), (13, .getfield 15, 3, [7, 1, 0], 0), (16, .if_icmp .ge 32, 3, [], 0), (19, .aload_n 0, 1, [], 0), (20, .getfield 9, 3, [7, 0, 2], 0), (23, .iload_n 3, 1, [], 0), (24, .caload, 1, [], 0), (25, .bipush 32, 2, [], 0), (27, .if_icmp .eq 15, 3, [], 0), (30, .aload_n 1, 1, [], 0), (31, .iload_n 2, 1, [], 0), (32, .aload_n 0, 1, [], 0), (33, .getfield 9, 3, [7, 0, 2], 0), (36, .iload_n 3, 1, [], 0), (37, .caload, 1, [], 0), (38, .castore, 1, [], 0), (39, .iinc 2 1, 3, [], 0), (42, .iinc 3 1, 3, [], 0), (45, .goto (-34), 3, [], 0), (48, .new 32, 3, [4, 1], 0), (51, .dup, 1, [], 0), (52, .aload_n 1, 1, [], 0), (53, .iload_n 2, 1, [], 0), (54, .invokestatic 34, 3, [1, 248, 0, 2, 3, 1, 60], 0), (57, .invokespecial 40, 3, [2, 36, 0, 2, 2, 0, 0], 0), (60, .areturn, 1, [], 0)]
def zc94 : List (Nat × zE) := [(0, .aload_n 0, 1, [], 0), (1, .getfield 25, 3, [7, 4, 0], 0), (4, .tableswitch 112 1 3 #[28, 68, 91], 28, [], 0), (32, .iload_n 1, 1, [], 0), (33, .bipush 43, 2, [], 0), (35, .if_icmp .eq 9, 3, [], 0), (38, .iload_n 1, 1, [], 0), (39, .bipush 45, 2, [], 0), (41, .if_icmp .ne 10, 3, [], 0), (44, .aload_n 0, 1, [], 0), (45, .iconst 2, 1, [], 0), (46, .putfield 25, 3, [7, 4, 0], 0), (49, .iconst 1, 1, [], 0), (50, .ireturn, 1, [1], 0), (51, .iload_n 1, 1, [], 0), (52, .bipush 40, 2, [], 0), (54, .if_icmp .ne 16, 3, [], 0), (57, .aload_n 0, 1, [], 0), (58, .bipush 41, 2, [], 0), (60, .invokevirtual 43, 3, [0, 96, 7, 2, 2, 0, 0], 0), (63, .ifCond .eq 7, 3, [], 0), (66, .iconst 1, 1, [], 0), (67, .goto 4, 3, [], 0), (70, .iconst 0, 1, [], 0), (71, .ireturn, 1, [1], 0), (72, .aload_n 0, 1, [], 0), (73, .iconst 0, 1, [], 0), (74, .putfield 25, 3, [7, 4, 0], 0), (77, .iload_n 1, 1, [], 0), (78, .bipush 49, 2, [], 0), (80, .if_icmp .lt 13, 3, [], 0), (83, .iload_n 1, 1, [], 0), (84, .bipush 57, 2, [], 0), (86, .if_icmp .gt 7, 3, [], 0), (89, .iconst 1, 1, [], 0), (90, .goto 4, 3, [], 0), (93, .iconst 0, 1, [], 0), (94, .ireturn, 1, [1], 0), (95, .iload_n 1, 1, [], 0), (96, .bipush 123, 2, [], 0), (98, .if_icmp .ne 16, 3, [], 0), (101, .aload_n 0, 1, [], 0), (102, .bipush 125, 2, [], 0), (104, .invokevirtual 43, 3, [0, 96, 7, 2, 2, 0, 0], 0), (107, .ifCond .eq 7, 3, [], 0), (110, .iconst 1, 1, [], 0), (111, .goto 4, 3, [], 0), (114, .iconst 0, 1, [], 0), (115, .ireturn, 1, [1], 0), (116, .aload_n 0, 1, [], 0), (117, .iload_n 1, 1, [], 0), (118, .invokevirtual 46, 3, [0, 95, 7, 2, 2, 0, 0], 0), (121, .ireturn, 1, [1], 0)]
def zc95 : List (Nat × zE) := [(0, .iload_n 1, 1, [], 0), (1, .bipush 97, 2, [], 0), (3, .if_icmp .lt 16, 3, [], 0), (6, .iload_n 1, 1, [], 0), (7, .bipush 102, 2, [], 0), (9, .if_icmp .gt 10, 3, [], 0), (12, .aload_n 0, 1, [], 0), (13, .iconst 1, 1, [], 0), (14, .putfield 25, 3, [7, 4, 0], 0), (17, .iconst 1, 1, [], 0), (18, .ireturn, 1, [1], 0), (19, .iload_n 1, 1, [], 0), (20, .bipush 50, 2, [], 0), (22, .if_icmp .lt 16, 3, [], 0), (25, .iload_n 1, 1, [], 0), (26, .bipush 53, 2, [], 0), (28, .if_icmp .gt 10, 3, [], 0), (31, .aload_n 0, 1, [], 0), (32, .iconst 3, 1, [], 0), (33, .putfield 25, 3, [7, 4, 0], 0), (36, .iconst 1, 1, [], 0), (37, .ireturn, 1, [1], 0), (38, .iload_n 1, 1, [], 0), (39, .bipush 91, 2, [], 0), (41, .if_icmp .ne 10, 3, [], 0), (44, .aload_n 0, 1, [], 0), (45, .bipush 93, 2, [], 0), (47, .invokevirtual 43, 3, [0, 96, 7, 2, 2, 0, 0], 0), (50, .ireturn, 1, [1], 0), (51, .iload_n 1, 1, [], 0), (52, .bipush 33, 2, [], 0), (54, .if_icmp .eq 11, 3, [], 0), (57, .aload_n 0, 1, [], 0), (58, .iload_n 1, 1, [], 0), (59, .invokevirtual 49, 3, [0, 97, 7, 2, 2, 0, 0], 0), (62, .ifCond .eq 7, 3, [], 0), (65, .iconst 1, 1, [], 0), (66, .goto 4, 3, [], 0), (69, .iconst 0, 1, [], 0), (70, .ireturn, 1, [1], 0)]
def zc96 : List (Nat × zE) := [(0, .aload_n 0, 1, [], 0), (1, .getfield 22, 3, [7, 3, 0], 0), (4, .bipush 6, 2, [], 0), (6, .if_icmp .lt 5, 3, [], 0), (9, .iconst 0, 1, [], 0), (10, .ireturn, 1, [1], 0), (11, .aload_n 0, 1, [], 0), (12, .getfield 19, 3, [7, 2, 2], 0), (15, .aload_n 0, 1, [], 0), (16, .getfield 22, 3, [7, 3, 0], 0), (19, .iload_n 1, 1, [], 0), (20, .castore, 1, [], 0), (21, .aload_n 0, 1, [], 0), (22, .dup, 1, [], 0), (23, .getfield 22, 3, [7, 3, 0], 0), (26, .iconst 1, 1, [], 0), (27, .iadd, 1, [], 0), (28, .putfield 22, 3, [7, 3, 0], 0), (31, .aload_n 0, 1, [], 0), (32, .iconst 0, 1, [], 0), (33, .putfield 25, 3, [7, 4, 0], 0), (36, .iconst 1, 1, [], 0), (37, .ireturn, 1, [1], 0)]
def zc97 : List (Nat × zE) := [(0, .aload_n 0, 1, [], 0), (1, .getfield 22, 3, [7, 3, 0], 0), (4, .iconst 1, 1, [], 0), (5, .if_icmp .lt 18, 3, [], 0), (8, .aload_n 0, 1, [], 0), (9, .getfield 19, 3, [7, 2, 2], 0), (12, .aload_n 0, 1, [], 0), (13, .getfield 22, 3, [7, 3, 0], 0), (16, .iconst 1, 1, [], 0), (17, .isub, 1, [], 0), (18, .caload, 1, [], 0), (19, .iload_n 1, 1, [], 0), (20, .if_icmp .eq 5, 3, [], 0), (23, .iconst 0, 1, [], 0), (24, .ireturn, 1, [1], 0), (25, .aload_n 0, 1, [], 0), (26, .dup, 1, [], 0), (27, .getfield 22, 3, [7, 3, 0], 0), (30, .iconst 1, 1, [], 0), (31, .isub, 1, [], 0), (32, .putfield 22, 3, [7, 3, 0], 0), (35, .iconst 1, 1, [], 0), (36, .ireturn, 1, [1], 0)]
def zc98 : List (Nat × zE) := [(0, .aload_n 0, 1, [], 0), (1, .invokespecial 3, 3, [8], 0), (4, .aload_n 0, 1, [], 0), (5, .aload_n 1, 1, [], 0), (6, .getfield 9, 3, [3, 6, 0], 0), (9, .putfield 15, 3, [8, 0, 0], 0), (12, .aload_n 0, 1, [], 0), (13, .aload_n 1, 1, [], 0), (14, .getfield 18, 3, [3, 2, 2], 0), (17, .aload_n 0, 1, [], 0), (18, .getfield 15, 3, [8, 0, 0], 0), (21, .invokestatic 22, 3, [1, 247, 0, 2, 3, 1, 31], 0), (24, .putfield 28, 3, [8, 1, 2], 0), (27, .aload_n 0, 1, [], 0), (28, .aload_n 1, 1, [], 0), (29, .getfield 29, 3, [3, 3, 2], 0), (32, .aload_n 0, 1, [], 0), (33, .getfield 15, 3, [8, 0, 0], 0), (36, .invokestatic 22, 3, [1, 247, 0, 2, 3, 1, 31], 0), (39, .putfield 32, 3, [8, 2, 2], 0), (42, .aload_n 0, 1, [], 0), (43, .aload_n 1, 1, [], 0), (44, .getfield 33, 3, [3, 4, 2], 0), (47, .aload_n 0, 1, [], 0), (48, .getfield 15, 3, [8, 0, 0], 0), (51, .invokestatic 22, 3, [1, 247, 0, 2, 3, 1, 31], 0), (54, .putfield 36, 3, [8, 3, 2], 0), (57, .aload_n 0, 1, [], 0), (58, .aload_n 1, 1, [], 0), (59, .getfield 37, 3, [3, 5, 2], 0), (62, .aload_n 0, 1, [], 0), (63, .getfield 15, 3, [8, 0, 0], 0), (66, .iconst 1, 1, [], 0), (67, .iadd, 1, [], 0), (68, .invokestatic 22, 3, [1, 247, 0, 2, 3, 1, 31], 0), (71, .putfield 40, 3, [8, 4, 2], 0), (74, .aload_n 0, 1, [], 0), (75, .aload_n 1, 1, [], 0), (76, .getfield 41, 3, [3, 14, 0], 0), (79, .putfield 44, 3, [8, 5, 0], 0), (82, .aload_n 0, 1, [], 0), (83, .aload_n 1, 1, [], 0), (84, .getfield 45, 3, [3, 15, 0], 0), (87, .putfield 48, 3, [8, 6, 0], 0), (90, .aload_n 0, 1, [], 0), (91, .aload_n 1, 1, [], 0), (92, .getfield 49, 3, [3, 16, 0], 0), (95, .putfield 52, 3, [8, 7, 0], 0), (98, .aload_n 0, 1, [], 0), (99, .aload_n 1, 1, [], 0), (100, .getfield 53, 3, [3, 17, 0], 0), (103, .putfield 56, 3, [8, 8, 0], 0), (106, .aload_n 0, 1, [], 0), (107, .aload_n 1, 1, [], 0), (108, .getfield 57, 3, [3, 11, 0], 0), (111, .putfield 60, 3, [8, 9, 0], 0), (114, .return_, 1, [], 0)]
def zc99 : List (Nat × zE) := [(0, .aload_n 0, 1, [], 0), (1, .getfield 15, 3, [8, 0, 0], 0), (4, .ireturn, 1, [0], 0)]
def zc100 : List (Nat × zE) := [(0, .aload_n 0, 1, [], 0), (1, .getfield 44, 3, [8, 5, 0], 0), (4, .ifCond .eq 7, 3, [], 0), (7, .iconst 1, 1, [], 0), (8, .goto 4, 3, [], 0), (11, .iconst 0, 1, [], 0), (12, .ireturn, 1, [1], 0)]
def zc101 : List (Nat × zE) := [(0, .iload_n 1, 1, [], 0), (1, .ifCond .lt 15, 3, [], 0), (4, .iload_n 1, 1, [], 0), (5, .aload_n 0, 1, [], 0), (6, .getfield 15, 3, [8, 0, 0], 0), (9, .if_icmp .ge 7, 3, [], 0), (12, .iconst 1, 1, [], 0), (13, .goto 4, 3, [], 0), (16, .iconst 0, 1, [], 0), (17, .ireturn, 1, [1], 0)]
def zc102 : List (Nat × zE) := [(0, .aload_n 0, 1, [], 0), (1, .iload_n 1, 1, [], 0), (2, .invokevirtual 61, 3, [0, 101, 8, 2, 2, 0, 0], 0), (5, .ifCond .eq 12, 3, [], 0), (8, .aload_n 0, 1, [], 0), (9, .getfield 28, 3, [8, 1, 2], 0), (12, .iload_n 1, 1, [], 0), (13, .iaload, 1, [], 0), (14, .goto 5, 3, [], 0), (17, .bipush (-4), 2, [], 0), (19, .ireturn, 1, [0], 0)]
def zc103 : List (Nat × zE) := [(0, .aload_n 0, 1, [], 0), (1, .iload_n 1, 1, [], 0), (2, .invokevirtual 61, 3, [0, 101, 8, 2, 2, 0, 0], 0), (5, .ifCond .eq 12, 3, [], 0), (8, .aload_n 0, 1, [], 0), (9, .getfield 32, 3, [8, 2, 2], 0), (12, .iload_n 1, 1, [], 0), (13, .iaload, 1, [], 0), (14, .goto 5, 3, [], 0), (17, .bipush (-4), 2, [], 0), (19, .ireturn, 1, [0], 0)]
def zc104 : List (Nat × zE) := [(0, .aload_n 0, 1, [], 0), (1, .iload_n 1, 1, [], 0), (2, .invokevirtual 61, 3, [0, 101, 8, 2, 2, 0, 0], 0), (5, .ifCond .eq 12, 3, [], 0), (8, .aload_n 0, 1, [], 0), (9, .getfield 36, 3, [8, 3, 2], 0), (12, .iload_n 1, 1, [], 0), (13, .iaload, 1, [], 0), (14, .goto 4, 3, [], 0), (17, .iconst 0, 1, [], 0), (18, .ireturn, 1, [0], 0)]
def zc105 : List (Nat × zE) := [(0, .iconst 0, 1, [], 0), (1, .istore 4, 2, [], 0), (3, .iload 4, 2, [], 0), (5, .iload_n 2, 1, [], 0), (6, .if_icmp .ge 51, 3, [], 0), (9, .iload 4, 2, [], 0), (11, .aload_n 0, 1, [], 0), (12, .getfield 15, 3, [8, 0, 0], 0), (15, .if_icmp .ge 42, 3, [], 0), (18, .aload_n 0, 1, [], 0), (19, .getfield 32, 3, [8, 2, 2], 0), (22, .iload 4, 2, [], 0), (24, .iaload, 1, [], 0), (25, .aload_n 1, 1, [], 0), (26, .arraylength, 1, [], 0), (27, .if_icmp .ge 24, 3, [], 0), (30, .aload_n 1, 1, [], 0), (31, .aload_n 0, 1, [], 0), (32, .getfield 32, 3, [8, 2, 2], 0), (35, .iload 4, 2, [], 0), (37, .iaload, 1, [], 0), (38, .dup2, 1, [], 0), (39, .iaload, 1, [], 0), (40, .iload_n 3, 1, [], 0), (41, .aload_n 0, 1, [], 0), (42, .getfield 36, 3, [8, 3, 2], 0), (45, .iload 4, 2, [], 0), (47, .iaload, 1, [], 0), (48, .imul, 1, [], 0), (49, .iadd, 1, [], 0), (50, .iastore, 1, [], 0), (51, .iinc 4 1, 3, [], 0), (54, .goto (-51), 3, [], 0), (57, .return_, 1, [], 0)]
def zc106 : List (Nat × zE) := [(0, .iload_n 1, 1, [], 0), (1, .ifCond .lt 11, 3, [], 0), (4, .iload_n 1, 1, [], 0), (5, .aload_n 0, 1, [], 0), (6, .getfield 15, 3, [8, 0, 0], 0), (9, .if_icmp .le 7, 3, [], 0), (12, .iconst 0, 1, [], 0), (13, .goto 9, 3, [], 0), (16, .aload_n 0, 1, [], 0), (17, .getfield 40, 3, [8, 4, 2], 0), (20, .iload_n 1, 1, [], 0), (21, .iaload, 1, [], 0), (22, .ireturn, 1, [0], 0)]
def zc107 : List (Nat × zE) := [(0, .aload_n 0, 1, [], 0), (1, .iload_n 1, 1, [], 0), (2, .invokevirtual 65, 3, [0, 102, 8, 2, 2, 0, 0], 0), (5, .ifCond .ne 12, 3, [], 0), (8, .aload_n 0, 1, [], 0), (9, .getfield 32, 3, [8, 2, 2], 0), (12, .iload_n 1, 1, [], 0), (13, .iaload, 1, [], 0), (14, .goto 5, 3, [], 0), (17, .bipush (-4), 2, [], 0), (19, .ireturn, 1, [0], 0)]
def zc108 : List (Nat × zE) := [(0, .aload_n 0, 1, [], 0), (1, .iload_n 1, 1, [], 0), (2, .invokevirtual 69, 3, [0, 107, 8, 2, 2, 0, 0], 0), (5, .istore_n 3, 1, [], 0), (6, .aload_n 0, 1, [], 0), (7, .iload_n 1, 1, [], 0), (8, .invokevirtual 61, 3, [0, 101, 8, 2, 2, 0, 0], 0), (11, .ifCond .eq 21, 3, [], 0), (14, .iload_n 3, 1, [], 0), (15, .bipush (-4), 2, [], 0), (17, .if_icmp .eq 11, 3, [], 0), (20, .iload_n 2, 1, [], 0), (21, .iload_n 3, 1, [], 0), (22, .invokestatic 72, 3, [3, 147, 0, 2, 2, 0, 0], 0), (25, .ifCond .ne 7, 3, [], 0), (28, .iconst 1, 1, [], 0), (29, .goto 4, 3, [], 0), (32, .iconst 0, 1, [], 0), (33, .ireturn, 1, [1], 0)]
def zc109 : List (Nat × zE) := [(0, .iload_n 1, 1, [], 0), (1, .tableswitch 69 0 5 #[39, 44, 49, 54, 59, 64], 39, [], 0), (40, .aload_n 0, 1, [], 0), (41, .getfield 15, 3, [8, 0, 0], 0), (44, .ireturn, 1, [0], 0), (45, .aload_n 0, 1, [], 0), (46, .getfield 44, 3, [8, 5, 0], 0), (49, .ireturn, 1, [0], 0), (50, .aload_n 0, 1, [], 0), (51, .getfield 48, 3, [8, 6, 0], 0), (54, .ireturn, 1, [0], 0), (55, .aload_n 0, 1, [], 0), (56, .getfield 52, 3, [8, 7, 0], 0), (59, .ireturn, 1, [0], 0), (60, .aload_n 0, 1, [], 0), (61, .getfield 56, 3, [8, 8, 0], 0), (64, .ireturn, 1, [0], 0), (65, .aload_n 0, 1, [], 0), (66, .getfield 60, 3, [8, 9, 0], 0), (69, .ireturn, 1, [0], 0), (70, .iconst (-1), 1, [], 0), (71, .ireturn, 1, [0], 0)]
def zc110 : List (Nat × zE) := [(0, .aload_n 0, 1, [], 0), (1, .iload_n 1, 1, [], 0), (2, .invokevirtual 61, 3, [0, 101, 8, 2, 2, 0, 0], 0), (5, .ifCond .ne 5, 3, [], 0), (8, .iconst (-1), 1, [], 0), (9, .ireturn, 1, [0], 0), (10, .iload_n 2, 1, [], 0), (11, .tableswitch 49 0 2 #[25, 32, 39], 25, [], 0), (36, .aload_n 0, 1, [], 0), (37, .getfield 28, 3, [8, 1, 2], 0), (40, .iload_n 1, 1, [], 0), (41, .iaload, 1, [], 0), (42, .ireturn, 1, [0], 0), (43, .aload_n 0, 1, [], 0), (44, .getfield 32, 3, [8, 2, 2], 0), (47, .iload_n 1, 1, [], 0), (48, .iaload, 1, [], 0), (49, .ireturn, 1, [0], 0), (50, .aload_n 0, 1, [], 0), (51, .getfield 36, 3, [8, 3, 2], 0), (54, .iload_n 1, 1, [], 0), (55, .iaload, 1, [], 0), (56, .bipush 10, 2, [], 0), (58, .iadd, 1, [], 0), (59, .ireturn, 1, [0], 0), (60, .iconst (-1), 1, [], 0), (61, .ireturn, 1, [0], 0)]
def zc111 : List (Nat × zE) := [(0, .aload_n 0, 1, [], 0), (1, .invokespecial 1, 3, [8], 0), (4, .aload_n 0, 1, [], 0), (5, .new 7, 3, [7, 5], 0), (8, .dup, 1, [], 0), (9, .invokespecial 9, 3, [4, 88, 0, 1, 1, 2, 66], 0), (12, .putfield 10, 3, [9, 0, 2], 0), (15, .aload_n 0, 1, [], 0), (16, .new 16, 3, [3, 18], 0), (19, .dup, 1, [], 0), (20, .invokespecial 18, 3, [4, 23, 0, 1, 1, 8, 158], 0), (23, .putfield 19, 3, [9, 1, 2], 0), (26, .new 23, 3, [4, 1], 0), (29, .dup, 1, [], 0), (30, .iconst 0, 1, [], 0), (31, .newarray .char, 2, [], 0), (33, .invokespecial 25, 3, [2, 36, 0, 2, 2, 0, 0], 0), (36, .astore_n 1, 1, [], 0), (37, .new 28, 3, [8, 10], 0), (40, .dup, 1, [], 0), (41, .aload_n 0, 1, [], 0), (42, .getfield 19, 3, [9, 1, 2], 0), (45, .invokespecial 30, 3, [2, 98, 0, 2, 2, 4, 121], 0), (48, .astore_n 2, 1, [], 0), (49, .aload_n 0, 1, [], 0), (50, .iconst 4, 1, [], 0), (51, .anewarray 28, 3, [24], 0), (54, .putfield 33, 3, [9, 2, 2], 0), (57, .iconst 0, 1, [], 0), (58, .istore_n 3, 1, [], 0), (59, .iload_n 3, 1, [], 0), (60, .iconst 4, 1, [], 0), (61, .if_icmp .ge 16, 3, [], 0), (64, .aload_n 0, 1, [], 0), (65, .getfield 33, 3, [9, 2, 2], 0), (68, .iload_n 3, 1, [], 0), (69, .aload_n 2, 1, [], 0), (70, .aastore, 1, [], 0), (71, .iinc 3 1, 3, [], 0), (74, .goto (-15), 3, [], 0), (77, .aload_n 0, 1, [], 0), (78, .new 37, 3, [6, 14], 0), (81, .dup, 1, [], 0), (82, .aload_n 1, 1, [], 0), (83, .aload_n 2, 1, [], 0), (84, .invokespecial 39, 3, [2, 51, 0, 3, 4, 10, 46], 0), (87, .putfield 42, 3, [9, 3, 2], 0), (90, .aload_n 0, 1, [], 0), (91, .new 37, 3, [6, 14], 0), (94, .dup, 1, [], 0), (95, .aload_n 1, 1, [], 0), (96, .aload_n 2, 1, [], 0), (97, .invokespecial 39, 3, [2, 51, 0, 3, 4, 10, 46], 0), (100, .putfield 46, 3, [9, 4, 2], 0), (103, .aload_n 0, 1, [], 0), (104, .new 49, 3, [0, 2], 0), (107, .dup, 1, [], 0), (108, .aload_n 1, 1, [], 0), (109, .aload_n 2, 1, [], 0), (110, .invokespecial 51, 3, [2, 0, 0, 3, 4, 67, 366], 0), (113, .putfield 52, 3, [9, 5, 2], 0), (116, .aload_n 0, 1, [], 0), (117, .new 37, 3, [6, 14], 0), (120, .dup, 1, [], 0), (121, .aload_n 1, 1, [], 0), (122, .aload_n 2, 1, [], 0), (123, .invokespecial 39, 3, [2, 51, 0, 3, 4, 10, 46], 0), (126, .putfield 56, 3, [9, 6, 2], 0), (129, .aload_n 0, 1, [], 0), (130, .new 49, 3, [0, 2], 0), (133, .dup, 1, [], 0), (134, .aload_n 1, 1, [], 0), (135, .aload_n 2, 1, [], 0), (136, .invokespecial 51, 3, [2, 0, 0, 3, 4, 67, 366], 0), (139, .putfield 59, 3, [9, 7, 2], 0), (142, .aload_n 0, 1, [], 0), (143, .iconst 0, 1, [], 0), (144, .putfield 62, 3, [9, 8, 3], 0), (147, .aload_n 0, 1, [], 0), (148, .new 66, 3, [1, 1], 0), (151, .dup, 1, [], 0), (152, .invokespecial 68, 3, [4, 6, 0, 1, 1, 1, 6], 0), (155, .putfield 69, 3, [9, 9, 2], 0), (158, .aload_n 0, 1, [], 0), (159, .new 73, 3, [2, 8], 0), (162, .dup, 1, [], 0), (163, .aload_n 2, 1, [], 0), (164, .invokespecial 75, 3, [2, 13, 0, 2, 2, 2, 62], 0), (167, .putfield 78, 3, [9, 10, 2], 0), (170, .aload_n 0, 1, [], 0), (171, .iconst 4, 1, [], 0), (172, .anewarray 82, 3, [26], 0), (175, .putfield 84, 3, [9, 11, 2], 0), (178, .iconst 0, 1, [], 0), (179, .istore_n 3, 1, [], 0), (180, .iload_n 3, 1, [], 0), (181, .iconst 4, 1, [], 0), (182, .if_icmp .ge 22, 3, [], 0), (185, .aload_n 0, 1, [], 0), (186, .getfield 84, 3, [9, 11, 2], 0), (189, .iload_n 3, 1, [], 0), (190, .new 82, 3, [5, 3], 0), (193, .dup, 1, [], 0), (194, .invokespecial 88, 3, [4, 40, 0, 1, 1, 1, 24], 0), (197, .aastore, 1, [], 0), (198, .iinc 3 1, 3, [], 0), (201, .goto (-21), 3, [], 0), (204, .return_, 1, [], 0)]
def zc112 : List (Nat × zE) := [(0, .iload_n 1, 1, [], 0), (1, .bipush 32, 2, [], 0), (3, .if_icmp .lt 9, 3, [], 0), (6, .iload_n 1, 1, [], 0), (7, .bipush 126, 2, [], 0), (9, .if_icmp .le 5, 3, [], 0), (12, .iconst (-1), 1, [], 0), (13, .ireturn, 1, [0], 0), (14, .aload_n 0, 1, [], 0), (15, .getfield 10, 3, [9, 0, 2], 0), (18, .iload_n 1, 1, [], 0), (19, .i2c, 1, [], 0), (20, .invokevirtual 89, 3, [0, 90, 7, 2, 2, 0, 0], 0), (23, .ifCond .eq 13, 3, [], 0), (26, .aload_n 0, 1, [], 0), (27, .getfield 10, 3, [9, 0, 2], 0), (30, .invokevirtual 93, 3, [0, 89, 7, 1, 1, 0, 0], 0), (33, .goto 5, 3, [], 0), (36, .bipush (-3), 2, [], 0), (38, .ireturn, 1, [0], 0)]
def zc113 : List (Nat × zE) := [(0, .iload_n 1, 1, [], 0), (1, .invokestatic 97, 3, [1, 141, 0, 1, 1, 0, 0], 0), (4, .ifCond .eq 5, 3, [], 0), (7, .iconst (-1), 1, [], 0), (8, .ireturn, 1, [0], 0), (9, .aload_n 0, 1, [], 0), (10, .getfield 42, 3, [9, 3, 2], 0), (13, .invokevirtual 101, 3, [0, 60, 6, 1, 1, 0, 0], 0), (16, .ifCond .eq 8, 3, [], 0), (19, .bipush (-2), 2, [], 0), (21, .goto 8, 3, [], 0), (24, .aload_n 0, 1, [], 0), (25, .iload_n 1, 1, [], 0), (26, .invokevirtual 105, 3, [0, 148, 9, 2, 4, 8, 252], 0), (29, .istore_n 2, 1, [], 0), (30, .aload_n 0, 1, [], 0), (31, .getfield 10, 3, [9, 0, 2], 0), (34, .invokevirtual 109, 3, [0, 91, 7, 1, 1, 0, 0], 0), (37, .iload_n 2, 1, [], 0), (38, .ireturn, 1, [0], 0)]
def zc114 : List (Nat × zE) := [(0, .iload_n 1, 1, [], 0), (1, .invokestatic 112, 3, [1, 142, 0, 1, 1, 0, 0], 0), (4, .ifCond .eq 5, 3, [], 0), (7, .iconst (-1), 1, [], 0), (8, .ireturn, 1, [0], 0), (9, .aload_n 0, 1, [], 0), (10, .getfield 42, 3, [9, 3, 2], 0), (13, .invokevirtual 101, 3, [0, 60, 6, 1, 1, 0, 0], 0), (16, .ifCond .eq 6, 3, [], 0), (19, .bipush (-2), 2, [], 0), (21, .ireturn, 1, [0], 0), (22, .aload_n 0, 1, [], 0), (23, .getfield 42, 3, [9, 3, 2], 0), (26, .invokevirtual 115, 3, [0, 55, 6, 1, 1, 0, 0], 0), (29, .iload_n 1, 1, [], 0), (30, .invokestatic 118, 3, [1, 146, 0, 1, 1, 0, 0], 0), (33, .ixor, 1, [], 0), (34, .istore_n 2, 1, [], 0), (35, .iconst 0, 1, [], 0), (36, .istore_n 3, 1, [], 0), (37, .iload_n 3, 1, [], 0), (38, .iconst 4, 1, [], 0), (39, .if_icmp .ge 48, 3, [], 0), (42, .aload_n 0, 1, [], 0), (43, .getfield 19, 3, [9, 1, 2], 0), (46, .aload_n 0, 1, [], 0), (47, .getfield 42, 3, [9, 3, 2], 0), (50, .iload_n 3, 1, [], 0), (51, .invokevirtual 121, 3, [0, 53, 6, 2, 2, 0, 0], 0), (54, .iload_n 2, 1, [], 0), (55, .invokevirtual 125, 3, [0, 24, 3, 3, 3, 0, 0], 0), (58, .ifCond .ne 6, 3, [], 0), (61, .bipush (-3), 2, [], 0), (63, .ireturn, 1, [0], 0), (64, .aload_n 0, 1, [], 0), (65, .getfield 33, 3, [9, 2, 2], 0), (68, .iload_n 3, 1, [], 0), (69, .new 28, 3, [8, 10], 0), (72, .dup, 1, [], 0), (73, .aload_n 0, 1, [], 0), (74, .getfield 19, 3, [9, 1, 2], 0), (77, .invokespecial 30, 3, [2, 98, 0, 2, 2, 4, 121], 0), (80, .aastore, 1, [], 0), (81, .iinc 3 1, 3, [], 0), (84, .goto (-47), 3, [], 0), (87, .aload_n 0, 1, [], 0), (88, .getfield 52, 3, [9, 5, 2], 0), (91, .aload_n 0, 1, [], 0), (92, .getfield 42, 3, [9, 3, 2], 0), (95, .invokevirtual 129, 3, [0, 2, 0, 2, 2, 0, 0], 0), (98, .aload_n 0, 1, [], 0), (99, .getfield 42, 3, [9, 3, 2], 0), (102, .iload_n 2, 1, [], 0), (103, .aload_n 0, 1, [], 0), (104, .getfield 33, 3, [9, 2, 2], 0), (107, .invokevirtual 133, 3, [0, 73, 6, 3, 4, 0, 0], 0), (110, .iload_n 2, 1, [], 0), (111, .iload_n 1, 1, [], 0), (112, .invokestatic 137, 3, [1, 147, 0, 2, 2, 0, 0], 0), (115, .ifCond .eq 7, 3, [], 0), (118, .iconst 1, 1, [], 0), (119, .goto 4, 3, [], 0), (122, .iconst 0, 1, [], 0), (123, .ireturn, 1, [0], 0)]
def zc115 : List (Nat × zE) := [(0, .iload_n 1, 1, [], 0), (1, .invokestatic 97, 3, [1, 141, 0, 1, 1, 0, 0], 0), (4, .ifCond .eq 5, 3, [], 0), (7, .iconst (-1), 1, [], 0), (8, .ireturn, 1, [0], 0), (9, .aload_n 0, 1, [], 0), (10, .getfield 42, 3, [9, 3, 2], 0), (13, .invokevirtual 101, 3, [0, 60, 6, 1, 1, 0, 0], 0), (16, .ifCond .eq 6, 3, [], 0), (19, .bipush (-2), 2, [], 0), (21, .ireturn, 1, [0], 0), (22, .aload_n 0, 1, [], 0), (23, .getfield 52, 3, [9, 5, 2], 0), (26, .aload_n 0, 1, [], 0), (27, .getfield 42, 3, [9, 3, 2], 0), (30, .invokevirtual 129, 3, [0, 2, 0, 2, 2, 0, 0], 0), (33, .aload_n 0, 1, [], 0), (34, .getfield 42, 3, [9, 3, 2], 0), (37, .iload_n 1, 1, [], 0), (38, .invokevirtual 141, 3, [0, 76, 6, 2, 2, 0, 0], 0), (41, .aload_n 0, 1, [], 0), (42, .getfield 42, 3, [9, 3, 2], 0), (45, .iload_n 1, 1, [], 0), (46, .invokevirtual 145, 3, [0, 54, 6, 2, 2, 0, 0], 0), (49, .invokevirtual 149, 3, [0, 99, 8, 1, 1, 0, 0], 0), (52, .ireturn, 1, [0], 0)]
def zc116 : List (Nat × zE) := [(0, .iload_n 1, 1, [], 0), (1, .invokestatic 97, 3, [1, 141, 0, 1, 1, 0, 0], 0), (4, .ifCond .eq 7, 3, [], 0), (7, .iconst (-1), 1, [], 0), (8, .goto 15, 3, [], 0), (11, .aload_n 0, 1, [], 0), (12, .getfield 42, 3, [9, 3, 2], 0), (15, .iload_n 1, 1, [], 0), (16, .invokevirtual 145, 3, [0, 54, 6, 2, 2, 0, 0], 0), (19, .iload_n 2, 1, [], 0), (20, .invokevirtual 150, 3, [0, 109, 8, 2, 2, 0, 0], 0), (23, .ireturn, 1, [0], 0)]
def zc117 : List (Nat × zE) := [(0, .iload_n 1, 1, [], 0), (1, .invokestatic 97, 3, [1, 141, 0, 1, 1, 0, 0], 0), (4, .ifCond .eq 7, 3, [], 0), (7, .iconst (-1), 1, [], 0), (8, .goto 16, 3, [], 0), (11, .aload_n 0, 1, [], 0), (12, .getfield 42, 3, [9, 3, 2], 0), (15, .iload_n 1, 1, [], 0), (16, .invokevirtual 145, 3, [0, 54, 6, 2, 2, 0, 0], 0), (19, .iload_n 2, 1, [], 0), (20, .iload_n 3, 1, [], 0), (21, .invokevirtual 153, 3, [0, 110, 8, 3, 3, 0, 0], 0), (24, .ireturn, 1, [0], 0)]
def zc118 : List (Nat × zE) := [(0, .iload_n 1, 1, [], 0), (1, .ifCond .lt 8, 3, [], 0), (4, .iload_n 1, 1, [], 0), (5, .iconst 5, 1, [], 0), (6, .if_icmp .lt 5, 3, [], 0), (9, .iconst (-1), 1, [], 0), (10, .ireturn, 1, [0], 0), (11, .aload_n 0, 1, [], 0), (12, .getfield 42, 3, [9, 3, 2], 0), (15, .invokevirtual 157, 3, [0, 56, 6, 1, 1, 0, 0], 0), (18, .istore_n 2, 1, [], 0), (19, .iload_n 1, 1, [], 0), (20, .iload_n 2, 1, [], 0), (21, .if_icmp .ne 6, 3, [], 0), (24, .bipush (-2), 2, [], 0), (26, .ireturn, 1, [0], 0), (27, .aload_n 0, 1, [], 0), (28, .getfield 52, 3, [9, 5, 2], 0), (31, .aload_n 0, 1, [], 0), (32, .getfield 42, 3, [9, 3, 2], 0), (35, .invokevirtual 129, 3, [0, 2, 0, 2, 2, 0, 0], 0), (38, .aload_n 0, 1, [], 0), (39, .getfield 42, 3, [9, 3, 2], 0), (42, .iload_n 1, 1, [], 0), (43, .invokevirtual 160, 3, [0, 74, 6, 2, 2, 0, 0], 0), (46, .iload_n 2, 1, [], 0), (47, .ireturn, 1, [0], 0)]
def zc119 : List (Nat × zE) := [(0, .iload_n 1, 1, [], 0), (1, .invokestatic 97, 3, [1, 141, 0, 1, 1, 0, 0], 0), (4, .ifCond .eq 5, 3, [], 0), (7, .iconst (-1), 1, [], 0), (8, .ireturn, 1, [0], 0), (9, .aload_n 0, 1, [], 0), (10, .getfield 42, 3, [9, 3, 2], 0), (13, .iload_n 1, 1, [], 0), (14, .invokevirtual 163, 3, [0, 58, 6, 2, 2, 0, 0], 0), (17, .ifCond .eq 6, 3, [], 0), (20, .bipush (-2), 2, [], 0), (22, .ireturn, 1, [0], 0), (23, .aload_n 0, 1, [], 0), (24, .getfield 52, 3, [9, 5, 2], 0), (27, .aload_n 0, 1, [], 0), (28, .getfield 42, 3, [9, 3, 2], 0), (31, .invokevirtual 129, 3, [0, 2, 0, 2, 2, 0, 0], 0), (34, .aload_n 0, 1, [], 0), (35, .getfield 42, 3, [9, 3, 2], 0), (38, .iload_n 1, 1, [], 0), (39, .invokevirtual 166, 3, [0, 80, 6, 2, 3, 0, 0], 0), (42, .ireturn, 1, [0], 0)]
def zc120 : List (Nat × zE) := [(0, .iload_n 1, 1, [], 0), (1, .iconst 1, 1, [], 0), (2, .if_icmp .lt 9, 3, [], 0), (5, .iload_n 1, 1, [], 0), (6, .bipush 40, 2, [], 0), (8, .if_icmp .le 5, 3, [], 0), (11, .iconst (-1), 1, [], 0), (12, .ireturn, 1, [0], 0), (13, .aload_n 0, 1, [], 0), (14, .getfield 42, 3, [9, 3, 2], 0), (17, .invokevirtual 169, 3, [0, 63, 6, 1, 1, 0, 0], 0), (20, .ifCond .ne 5, 3, [], 0), (23, .iconst 0, 1, [], 0), (24, .ireturn, 1, [0], 0), (25, .aload_n 0, 1, [], 0), (26, .getfield 52, 3, [9, 5, 2], 0), (29, .aload_n 0, 1, [], 0), (30, .getfield 42, 3, [9, 3, 2], 0), (33, .invokevirtual 129, 3, [0, 2, 0, 2, 2, 0, 0], 0), (36, .iconst 0, 1, [], 0), (37, .istore_n 2, 1, [], 0), (38, .iload_n 2, 1, [], 0), (39, .iload_n 1, 1, [], 0), (40, .if_icmp .ge 26, 3, [], 0), (43, .aload_n 0, 1, [], 0), (44, .getfield 42, 3, [9, 3, 2], 0), (47, .invokevirtual 169, 3, [0, 63, 6, 1, 1, 0, 0], 0), (50, .ifCond .eq 16, 3, [], 0), (53, .aload_n 0, 1, [], 0), (54, .getfield 42, 3, [9, 3, 2], 0), (57, .invokevirtual 172, 3, [0, 78, 6, 1, 6, 0, 0], 0), (60, .iinc 2 1, 3, [], 0), (63, .goto (-25), 3, [], 0), (66, .iload_n 2, 1, [], 0), (67, .ireturn, 1, [0], 0)]
def zc121 : List (Nat × zE) := [(0, .aload_n 0, 1, [], 0), (1, .getfield 42, 3, [9, 3, 2], 0), (4, .invokevirtual 175, 3, [0, 61, 6, 1, 1, 0, 0], 0), (7, .ifCond .eq 6, 3, [], 0), (10, .bipush (-2), 2, [], 0), (12, .ireturn, 1, [0], 0), (13, .aload_n 0, 1, [], 0), (14, .getfield 52, 3, [9, 5, 2], 0), (17, .aload_n 0, 1, [], 0), (18, .getfield 42, 3, [9, 3, 2], 0), (21, .invokevirtual 129, 3, [0, 2, 0, 2, 2, 0, 0], 0), (24, .aload_n 0, 1, [], 0), (25, .getfield 42, 3, [9, 3, 2], 0), (28, .invokevirtual 178, 3, [0, 77, 6, 1, 3, 0, 0], 0), (31, .ireturn, 1, [0], 0)]
def zc122 : List (Nat × zE) := [(0, .iload_n 1, 1, [], 0), (1, .invokestatic 112, 3, [1, 142, 0, 1, 1, 0, 0], 0), (4, .ifCond .eq 7, 3, [], 0), (7, .iconst (-1), 1, [], 0), (8, .goto 12, 3, [], 0), (11, .aload_n 0, 1, [], 0), (12, .getfield 42, 3, [9, 3, 2], 0), (15, .iload_n 1, 1, [], 0), (16, .iload_n 2, 1, [], 0), (17, .invokevirtual 181, 3, [0, 64, 6, 3, 3, 0, 0], 0), (20, .ireturn, 1, [0], 0)]
def zc123 : List (Nat × zE) := [(0, .iload_n 1, 1, [], 0), (1, .invokestatic 97, 3, [1, 141, 0, 1, 1, 0, 0], 0), (4, .ifCond .eq 7, 3, [], 0), (7, .iconst (-1), 1, [], 0), (8, .goto 12, 3, [], 0), (11, .aload_n 0, 1, [], 0), (12, .getfield 42, 3, [9, 3, 2], 0), (15, .iload_n 1, 1, [], 0), (16, .iload_n 2, 1, [], 0), (17, .invokevirtual 184, 3, [0, 65, 6, 3, 3, 0, 0], 0), (20, .ireturn, 1, [0], 0)]
def zc124 : List (Nat × zE) := [(0, .iload_n 1, 1, [], 0), (1, .bipush 8, 2, [], 0), (3, .if_icmp .ne 13, 3, [], 0), (6, .aload_n 0, 1, [], 0), (7, .getfield 52, 3, [9, 5, 2], 0), (10, .invokevirtual 187, 3, [0, 1, 0, 1, 1, 0, 0], 0), (13, .goto 11, 3, [], 0), (16, .aload_n 0, 1, [], 0), (17, .getfield 42, 3, [9, 3, 2], 0), (20, .iload_n 1, 1, [], 0), (21, .invokevirtual 188, 3, [0, 66, 6, 2, 2, 0, 0], 0), (24, .ireturn, 1, [0], 0)]
def zc125 : List (Nat × zE) := [(0, .iload_n 1, 1, [], 0), (1, .invokestatic 112, 3, [1, 142, 0, 1, 1, 0, 0], 0), (4, .ifCond .ne 15, 3, [], 0), (7, .iload_n 2, 1, [], 0), (8, .invokestatic 112, 3, [1, 142, 0, 1, 1, 0, 0], 0), (11, .ifCond .ne 8, 3, [], 0), (14, .iload_n 1, 1, [], 0), (15, .iload_n 2, 1, [], 0), (16, .if_icmp .ne 5, 3, [], 0), (19, .iconst (-1), 1, [], 0), (20, .ireturn, 1, [0], 0), (21, .aload_n 0, 1, [], 0), (22, .getfield 69, 3, [9, 9, 2], 0), (25, .aload_n 0, 1, [], 0), (26, .getfield 42, 3, [9, 3, 2], 0), (29, .invokevirtual 191, 3, [0, 7, 1, 2, 3, 0, 0], 0), (32, .aload_n 0, 1, [], 0), (33, .getfield 69, 3, [9, 9, 2], 0), (36, .iload_n 1, 1, [], 0), (37, .iload_n 2, 1, [], 0), (38, .invokevirtual 194, 3, [0, 8, 1, 3, 3, 0, 0], 0), (41, .ifCond .eq 7, 3, [], 0), (44, .iconst 1, 1, [], 0), (45, .goto 4, 3, [], 0), (48, .iconst 0, 1, [], 0), (49, .ireturn, 1, [0], 0)]
def zc126 : List (Nat × zE) := [(0, .iload_n 1, 1, [], 0), (1, .ifCond .lt 8, 3, [], 0), (4, .iload_n 1, 1, [], 0), (5, .iconst 2, 1, [], 0), (6, .if_icmp .le 5, 3, [], 0), (9, .iconst (-1), 1, [], 0), (10, .ireturn, 1, [0], 0), (11, .aload_n 0, 1, [], 0), (12, .getfield 69, 3, [9, 9, 2], 0), (15, .aload_n 0, 1, [], 0), (16, .getfield 42, 3, [9, 3, 2], 0), (19, .invokevirtual 191, 3, [0, 7, 1, 2, 3, 0, 0], 0), (22, .aload_n 0, 1, [], 0), (23, .getfield 69, 3, [9, 9, 2], 0), (26, .iload_n 1, 1, [], 0), (27, .invokevirtual 197, 3, [0, 9, 1, 2, 6, 0, 0], 0), (30, .ireturn, 1, [0], 0)]
def zc127 : List (Nat × zE) := [(0, .iload_n 1, 1, [], 0), (1, .iload_n 2, 1, [], 0), (2, .invokestatic 200, 3, [1, 143, 0, 2, 2, 0, 0], 0), (5, .ifCond .ne 12, 3, [], 0), (8, .iload_n 3, 1, [], 0), (9, .ifCond .lt 8, 3, [], 0), (12, .iload_n 3, 1, [], 0), (13, .iconst 1, 1, [], 0), (14, .if_icmp .le 7, 3, [], 0), (17, .ldc2_w 203, 3, [], (-1)), (20, .lreturn, 1, [], 0), (21, .aload_n 0, 1, [], 0), (22, .getfield 78, 3, [9, 10, 2], 0), (25, .aload_n 0, 1, [], 0), (26, .getfield 42, 3, [9, 3, 2], 0), (29, .iload_n 1, 1, [], 0), (30, .invokevirtual 145, 3, [0, 54, 6, 2, 2, 0, 0], 0), (33, .aload_n 0, 1, [], 0), (34, .getfield 42, 3, [9, 3, 2], 0), (37, .iload_n 2, 1, [], 0), (38, .invokevirtual 145, 3, [0, 54, 6, 2, 2, 0, 0], 0), (41, .invokevirtual 205, 3, [0, 19, 2, 3, 5, 0, 0], 0), (44, .iload_n 3, 1, [], 0), (45, .ifCond .ne 13, 3, [], 0), (48, .aload_n 0, 1, [], 0), (49, .getfield 78, 3, [9, 10, 2], 0), (52, .invokevirtual 209, 3, [0, 14, 2, 1, 1, 0, 0], 0), (55, .goto 10, 3, [], 0), (58, .aload_n 0, 1, [], 0), (59, .getfield 78, 3, [9, 10, 2], 0), (62, .invokevirtual 213, 3, [0, 15, 2, 1, 1, 0, 0], 0), (65, .lreturn, 1, [], 0)]
def zc128 : List (Nat × zE) := [(0, .iload_n 1, 1, [], 0), (1, .iload_n 2, 1, [], 0), (2, .invokestatic 200, 3, [1, 143, 0, 2, 2, 0, 0], 0), (5, .ifCond .ne 12, 3, [], 0), (8, .iload_n 3, 1, [], 0), (9, .ifCond .lt 8, 3, [], 0), (12, .iload_n 3, 1, [], 0), (13, .iconst 1, 1, [], 0), (14, .if_icmp .le 7, 3, [], 0), (17, .ldc2_w 203, 3, [], (-1)), (20, .lreturn, 1, [], 0), (21, .aload_n 0, 1, [], 0), (22, .getfield 78, 3, [9, 10, 2], 0), (25, .aload_n 0, 1, [], 0), (26, .getfield 42, 3, [9, 3, 2], 0), (29, .iload_n 1, 1, [], 0), (30, .invokevirtual 145, 3, [0, 54, 6, 2, 2, 0, 0], 0), (33, .aload_n 0, 1, [], 0), (34, .getfield 42, 3, [9, 3, 2], 0), (37, .iload_n 2, 1, [], 0), (38, .invokevirtual 145, 3, [0, 54, 6, 2, 2, 0, 0], 0), (41, .invokevirtual 205, 3, [0, 19, 2, 3, 5, 0, 0], 0), (44, .iload_n 3, 1, [], 0), (45, .ifCond .ne 13, 3, [], 0), (48, .aload_n 0, 1, [], 0), (49, .getfield 78, 3, [9, 10, 2], 0), (52, .invokevirtual 216, 3, [0, 17, 2, 1, 1, 0, 0], 0), (55, .goto 10, 3, [], 0), (58, .aload_n 0, 1, [], 0), (59, .getfield 78, 3, [9, 10, 2], 0), (62, .invokevirtual 219, 3, [0, 18, 2, 1, 1, 0, 0], 0), (65, .lreturn, 1, [], 0)]
def zc129 : List (Nat × zE) := [(0, .iload_n 1, 1, [], 0), (1, .iload_n 2, 1, [], 0), (2, .invokestatic 200, 3, [1, 143, 0, 2, 2, 0, 0], 0), (5, .ifCond .eq 5, 3, [], 0), (8, .iconst (-1), 1, [], 0), (9, .ireturn, 1, [0], 0), (10, .aload_n 0, 1, [], 0), (11, .getfield 78, 3, [9, 10, 2], 0), (14, .aload_n 0, 1, [], 0), (15, .getfield 42, 3, [9, 3, 2], 0), (18, .iload_n 1, 1, [], 0), (19, .invokevirtual 145, 3, [0, 54, 6, 2, 2, 0, 0], 0), (22, .aload_n 0, 1, [], 0), (23, .getfield 42, 3, [9, 3, 2], 0), (26, .iload_n 2, 1, [], 0), (27, .invokevirtual 145, 3, [0, 54, 6, 2, 2, 0, 0], 0), (30, .invokevirtual 205, 3, [0, 19, 2, 3, 5, 0, 0], 0), (33, .aload_n 0, 1, [], 0), (34, .getfield 78, 3, [9, 10, 2], 0), (37, .invokevirtual 222, 3, [0, 16, 2, 1, 1, 0, 0], 0), (40, .ireturn, 1, [0], 0)]
def zc130 : List (Nat × zE) := [(0, .iload_n 1, 1, [], 0), (1, .iconst 1, 1, [], 0), (2, .if_icmp .lt 9, 3, [], 0), (5, .iload_n 1, 1, [], 0), (6, .bipush 40, 2, [], 0), (8, .if_icmp .le 5, 3, [], 0), (11, .iconst (-1), 1, [], 0), (12, .ireturn, 1, [0], 0), (13, .iconst 0, 1, [], 0), (14, .istore_n 2, 1, [], 0), (15, .iload_n 2, 1, [], 0), (16, .iload_n 1, 1, [], 0), (17, .if_icmp .ge 27, 3, [], 0), (20, .aload_n 0, 1, [], 0), (21, .getfield 52, 3, [9, 5, 2], 0), (24, .aload_n 0, 1, [], 0), (25, .getfield 42, 3, [9, 3, 2], 0), (28, .invokevirtual 129, 3, [0, 2, 0, 2, 2, 0, 0], 0), (31, .aload_n 0, 1, [], 0), (32, .getfield 42, 3, [9, 3, 2], 0), (35, .invokevirtual 225, 3, [0, 79, 6, 1, 4, 0, 0], 0), (38, .iinc 2 1, 3, [], 0), (41, .goto (-26), 3, [], 0), (44, .aload_n 0, 1, [], 0), (45, .getfield 42, 3, [9, 3, 2], 0), (48, .iconst 0, 1, [], 0), (49, .invokevirtual 228, 3, [0, 62, 6, 2, 4, 0, 0], 0), (52, .ireturn, 1, [0], 0)]
def zc131 : List (Nat × zE) := [(0, .aload_n 0, 1, [], 0), (1, .getfield 52, 3, [9, 5, 2], 0), (4, .invokevirtual 187, 3, [0, 1, 0, 1, 1, 0, 0], 0), (7, .ifCond .ne 6, 3, [], 0), (10, .bipush (-4), 2, [], 0), (12, .ireturn, 1, [0], 0), (13, .aload_n 0, 1, [], 0), (14, .getfield 52, 3, [9, 5, 2], 0), (17, .aload_n 0, 1, [], 0), (18, .getfield 42, 3, [9, 3, 2], 0), (21, .invokevirtual 231, 3, [0, 3, 0, 2, 2, 0, 0], 0), (24, .aload_n 0, 1, [], 0), (25, .getfield 52, 3, [9, 5, 2], 0), (28, .invokevirtual 187, 3, [0, 1, 0, 1, 1, 0, 0], 0), (31, .ireturn, 1, [0], 0)]
def zc132 : List (Nat × zE) := [(0, .iload_n 1, 1, [], 0), (1, .ifCond .ge 7, 3, [], 0), (4, .iconst (-1), 1, [], 0), (5, .goto 11, 3, [], 0), (8, .aload_n 0, 1, [], 0), (9, .getfield 42, 3, [9, 3, 2], 0), (12, .iload_n 1, 1, [], 0), (13, .invokevirtual 234, 3, [0, 75, 6, 2, 3, 0, 0], 0), (16, .ireturn, 1, [0], 0)]
def zc133 : List (Nat × zE) := [(0, .aload_n 0, 1, [], 0), (1, .getfield 56, 3, [9, 6, 2], 0), (4, .aload_n 0, 1, [], 0), (5, .getfield 42, 3, [9, 3, 2], 0), (8, .invokevirtual 237, 3, [0, 52, 6, 2, 3, 0, 0], 0), (11, .aload_n 0, 1, [], 0), (12, .getfield 59, 3, [9, 7, 2], 0), (15, .aload_n 0, 1, [], 0), (16, .getfield 52, 3, [9, 5, 2], 0), (19, .invokevirtual 240, 3, [0, 4, 0, 2, 3, 0, 0], 0), (22, .aload_n 0, 1, [], 0), (23, .iconst 1, 1, [], 0), (24, .putfield 62, 3, [9, 8, 3], 0), (27, .iconst 1, 1, [], 0), (28, .ireturn, 1, [0], 0)]
def zc134 : List (Nat × zE) := [(0, .aload_n 0, 1, [], 0), (1, .getfield 62, 3, [9, 8, 3], 0), (4, .ifCond .ne 6, 3, [], 0), (7, .bipush (-4), 2, [], 0), (9, .ireturn, 1, [0], 0), (10, .aload_n 0, 1, [], 0), (11, .getfield 42, 3, [9, 3, 2], 0), (14, .aload_n 0, 1, [], 0), (15, .getfield 56, 3, [9, 6, 2], 0), (18, .invokevirtual 237, 3, [0, 52, 6, 2, 3, 0, 0], 0), (21, .aload_n 0, 1, [], 0), (22, .getfield 52, 3, [9, 5, 2], 0), (25, .aload_n 0, 1, [], 0), (26, .getfield 59, 3, [9, 7, 2], 0), (29, .invokevirtual 240, 3, [0, 4, 0, 2, 3, 0, 0], 0), (32, .iconst 1, 1, [], 0), (33, .ireturn, 1, [0], 0)]
def zc135 : List (Nat × zE) := [(0, .iload_n 1, 1, [], 0), (1, .invokestatic 243, 3, [1, 144, 0, 1, 1, 0, 0], 0), (4, .ifCond .ne 23, 3, [], 0), (7, .iload_n 2, 1, [], 0), (8, .invokestatic 246, 3, [1, 145, 0, 1, 1, 0, 0], 0), (11, .ifCond .ne 16, 3, [], 0), (14, .iload 4, 2, [], 0), (16, .iconst 1, 1, [], 0), (17, .if_icmp .lt 10, 3, [], 0), (20, .iload 4, 2, [], 0), (22, .bipush 24, 2, [], 0), (24, .if_icmp .le 5, 3, [], 0), (27, .iconst (-1), 1, [], 0), (28, .ireturn, 1, [0], 0), (29, .aload_n 0, 1, [], 0), (30, .getfield 84, 3, [9, 11, 2], 0), (33, .iload_n 1, 1, [], 0), (34, .aaload, 1, [], 0), (35, .iload_n 2, 1, [], 0), (36, .iload_n 3, 1, [], 0), (37, .iload 4, 2, [], 0), (39, .invokevirtual 249, 3, [0, 44, 5, 4, 4, 0, 0], 0), (42, .istore 5, 2, [], 0), (44, .iload 5, 2, [], 0), (46, .ifCond .eq 6, 3, [], 0), (49, .iload 5, 2, [], 0), (51, .ireturn, 1, [0], 0), (52, .aload_n 0, 1, [], 0), (53, .getfield 84, 3, [9, 11, 2], 0), (56, .iload_n 1, 1, [], 0), (57, .aaload, 1, [], 0), (58, .iload_n 3, 1, [], 0), (59, .iload 4, 2, [], 0), (61, .invokevirtual 253, 3, [0, 50, 5, 3, 4, 0, 0], 0), (64, .ifCond .eq 19, 3, [], 0), (67, .aload_n 0, 1, [], 0), (68, .aload_n 0, 1, [], 0), (69, .getfield 84, 3, [9, 11, 2], 0), (72, .iload_n 1, 1, [], 0), (73, .aaload, 1, [], 0), (74, .iload_n 3, 1, [], 0), (75, .iload 4, 2, [], 0), (77, .invokevirtual 256, 3, [0, 149, 9, 4, 6, 0, 0], 0), (80, .goto 5, 3, [], 0), (83, .bipush (-2), 2, [], 0), (85, .ireturn, 1, [0], 0)]
def zc136 : List (Nat × zE) := [(0, .iload_n 1, 1, [], 0), (1, .invokestatic 243, 3, [1, 144, 0, 1, 1, 0, 0], 0), (4, .ifCond .ne 10, 3, [], 0), (7, .iload_n 2, 1, [], 0), (8, .invokestatic 246, 3, [1, 145, 0, 1, 1, 0, 0], 0), (11, .ifCond .eq 5, 3, [], 0), (14, .iconst (-1), 1, [], 0), (15, .ireturn, 1, [0], 0), (16, .aload_n 0, 1, [], 0), (17, .getfield 84, 3, [9, 11, 2], 0), (20, .iload_n 1, 1, [], 0), (21, .aaload, 1, [], 0), (22, .iload_n 2, 1, [], 0), (23, .iload_n 3, 1, [], 0), (24, .iconst 4, 1, [], 0), (25, .invokevirtual 249, 3, [0, 44, 5, 4, 4, 0, 0], 0), (28, .istore 4, 2, [], 0), (30, .iload 4, 2, [], 0), (32, .ifCond .eq 6, 3, [], 0), (35, .iload 4, 2, [], 0), (37, .ireturn, 1, [0], 0), (38, .iconst 0, 1, [], 0), (39, .istore 5, 2, [], 0), (41, .iload 5, 2, [], 0), (43, .iconst 4, 1, [], 0), (44, .if_icmp .ge 32, 3, [], 0), (47, .aload_n 0, 1, [], 0), (48, .getfield 84, 3, [9, 11, 2], 0), (51, .iload_n 1, 1, [], 0), (52, .aaload, 1, [], 0), (53, .iload_n 3, 1, [], 0), (54, .iload 5, 2, [], 0), (56, .iadd, 1, [], 0), (57, .aload_n 0, 1, [], 0), (58, .getfield 42, 3, [9, 3, 2], 0), (61, .iload 5, 2, [], 0), (63, .invokevirtual 260, 3, [0, 57, 6, 2, 2, 0, 0], 0), (66, .i2l, 1, [], 0), (67, .invokevirtual 263, 3, [0, 47, 5, 3, 4, 0, 0], 0), (70, .iinc 5 1, 3, [], 0), (73, .goto (-32), 3, [], 0), (76, .iconst 4, 1, [], 0), (77, .ireturn, 1, [0], 0)]
def zc137 : List (Nat × zE) := [(0, .iload_n 1, 1, [], 0), (1, .invokestatic 243, 3, [1, 144, 0, 1, 1, 0, 0], 0), (4, .ifCond .ne 16, 3, [], 0), (7, .iload_n 2, 1, [], 0), (8, .invokestatic 246, 3, [1, 145, 0, 1, 1, 0, 0], 0), (11, .ifCond .ne 9, 3, [], 0), (14, .iload_n 3, 1, [], 0), (15, .bipush 24, 2, [], 0), (17, .if_icmp .le 5, 3, [], 0), (20, .iconst (-1), 1, [], 0), (21, .ireturn, 1, [0], 0), (22, .iload_n 3, 1, [], 0), (23, .ifCond .ge 6, 3, [], 0), (26, .bipush (-14), 2, [], 0), (28, .ireturn, 1, [0], 0), (29, .aload_n 0, 1, [], 0), (30, .getfield 84, 3, [9, 11, 2], 0), (33, .iload_n 1, 1, [], 0), (34, .aaload, 1, [], 0), (35, .iload_n 2, 1, [], 0), (36, .iload_n 3, 1, [], 0), (37, .invokevirtual 267, 3, [0, 45, 5, 3, 3, 0, 0], 0), (40, .iload_n 3, 1, [], 0), (41, .ireturn, 1, [0], 0)]
def zc138 : List (Nat × zE) := [(0, .iload_n 1, 1, [], 0), (1, .invokestatic 243, 3, [1, 144, 0, 1, 1, 0, 0], 0), (4, .ifCond .eq 5, 3, [], 0), (7, .iconst (-1), 1, [], 0), (8, .ireturn, 1, [0], 0), (9, .aload_n 0, 1, [], 0), (10, .getfield 84, 3, [9, 11, 2], 0), (13, .iload_n 1, 1, [], 0), (14, .aaload, 1, [], 0), (15, .invokevirtual 271, 3, [0, 41, 5, 1, 1, 0, 0], 0), (18, .ifCond .eq 8, 3, [], 0), (21, .bipush (-11), 2, [], 0), (23, .goto 12, 3, [], 0), (26, .aload_n 0, 1, [], 0), (27, .getfield 84, 3, [9, 11, 2], 0), (30, .iload_n 1, 1, [], 0), (31, .aaload, 1, [], 0), (32, .invokevirtual 274, 3, [0, 46, 5, 1, 2, 0, 0], 0), (35, .ireturn, 1, [0], 0)]
def zc139 : List (Nat × zE) := [(0, .iload_n 1, 1, [], 0), (1, .invokestatic 243, 3, [1, 144, 0, 1, 1, 0, 0], 0), (4, .ifCond .ne 10, 3, [], 0), (7, .iload_n 2, 1, [], 0), (8, .invokestatic 246, 3, [1, 145, 0, 1, 1, 0, 0], 0), (11, .ifCond .eq 5, 3, [], 0), (14, .iconst (-1), 1, [], 0), (15, .ireturn, 1, [0], 0), (16, .aload_n 0, 1, [], 0), (17, .getfield 84, 3, [9, 11, 2], 0), (20, .iload_n 1, 1, [], 0), (21, .aaload, 1, [], 0), (22, .iload_n 2, 1, [], 0), (23, .iload_n 3, 1, [], 0), (24, .iconst 1, 1, [], 0), (25, .invokevirtual 249, 3, [0, 44, 5, 4, 4, 0, 0], 0), (28, .istore 6, 2, [], 0), (30, .iload 6, 2, [], 0), (32, .ifCond .eq 6, 3, [], 0), (35, .iload 6, 2, [], 0), (37, .ireturn, 1, [0], 0), (38, .aload_n 0, 1, [], 0), (39, .getfield 84, 3, [9, 11, 2], 0), (42, .iload_n 1, 1, [], 0), (43, .aaload, 1, [], 0), (44, .iload_n 3, 1, [], 0), (45, .lload 4, 2, [], 0), (47, .invokevirtual 263, 3, [0, 47, 5, 3, 4, 0, 0], 0), (50, .iconst 1, 1, [], 0), (51, .ireturn, 1, [0], 0)]
def zc140 : List (Nat × zE) := [(0, .iload_n 1, 1, [], 0), (1, .invokestatic 243, 3, [1, 144, 0, 1, 1, 0, 0], 0), (4, .ifCond .ne 10, 3, [], 0), (7, .iload_n 3, 1, [], 0), (8, .invokestatic 243, 3, [1, 144, 0, 1, 1, 0, 0], 0), (11, .ifCond .eq 5, 3, [], 0), (14, .iconst (-1), 1, [], 0), (15, .ireturn, 1, [0], 0), (16, .aload_n 0, 1, [], 0), (17, .getfield 84, 3, [9, 11, 2], 0), (20, .iload_n 1, 1, [], 0), (21, .aaload, 1, [], 0), (22, .astore 6, 2, [], 0), (24, .aload_n 0, 1, [], 0), (25, .getfield 84, 3, [9, 11, 2], 0), (28, .iload_n 3, 1, [], 0), (29, .aaload, 1, [], 0), (30, .astore 7, 2, [], 0), (32, .aload 6, 2, [], 0), (34, .invokevirtual 271, 3, [0, 41, 5, 1, 1, 0, 0], 0), (37, .ifCond .ne 11, 3, [], 0), (40, .aload 7, 2, [], 0), (42, .invokevirtual 271, 3, [0, 41, 5, 1, 1, 0, 0], 0), (45, .ifCond .eq 6, 3, [], 0), (48, .bipush (-11), 2, [], 0), (50, .ireturn, 1, [0], 0), (51, .aload 6, 2, [], 0), (53, .aload 7, 2, [], 0), (55, .invokevirtual 277, 3, [0, 42, 5, 2, 2, 0, 0], 0), (58, .ifCond .ne 6, 3, [], 0), (61, .bipush (-12), 2, [], 0), (63, .ireturn, 1, [0], 0), (64, .aload 6, 2, [], 0), (66, .iload_n 2, 1, [], 0), (67, .iload 5, 2, [], 0), (69, .invokevirtual 281, 3, [0, 43, 5, 3, 3, 0, 0], 0), (72, .ifCond .eq 15, 3, [], 0), (75, .aload 7, 2, [], 0), (77, .iload 4, 2, [], 0), (79, .iload 5, 2, [], 0), (81, .invokevirtual 281, 3, [0, 43, 5, 3, 3, 0, 0], 0), (84, .ifCond .ne 6, 3, [], 0), (87, .bipush (-13), 2, [], 0), (89, .ireturn, 1, [0], 0), (90, .aload 6, 2, [], 0), (92, .iload_n 2, 1, [], 0), (93, .aload 7, 2, [], 0), (95, .iload 4, 2, [], 0), (97, .iload 5, 2, [], 0), (99, .invokevirtual 284, 3, [0, 48, 5, 5, 5, 0, 0], 0), (102, .iload 5, 2, [], 0), (104, .ireturn, 1, [0], 0)]
def zc141 : List (Nat × zE) := [(0, .iload_n 0, 1, [], 0), (1, .ifCond .lt 8, 3, [], 0), (4, .iload_n 0, 1, [], 0), (5, .iconst 4, 1, [], 0), (6, .if_icmp .lt 7, 3, [], 0), (9, .iconst 1, 1, [], 0), (10, .goto 4, 3, [], 0), (13, .iconst 0, 1, [], 0), (14, .ireturn, 1, [1], 0)]
def zc142 : List (Nat × zE) := [(0, .iload_n 0, 1, [], 0), (1, .ifCond .lt 9, 3, [], 0), (4, .iload_n 0, 1, [], 0), (5, .bipush 6, 2, [], 0), (7, .if_icmp .lt 7, 3, [], 0), (10, .iconst 1, 1, [], 0), (11, .goto 4, 3, [], 0), (14, .iconst 0, 1, [], 0), (15, .ireturn, 1, [1], 0)]
def zc143 : List (Nat × zE) := [(0, .iload_n 0, 1, [], 0), (1, .invokestatic 97, 3, [1, 141, 0, 1, 1, 0, 0], 0), (4, .ifCond .ne 15, 3, [], 0), (7, .iload_n 1, 1, [], 0), (8, .invokestatic 97, 3, [1, 141, 0, 1, 1, 0, 0], 0), (11, .ifCond .ne 8, 3, [], 0), (14, .iload_n 0, 1, [], 0), (15, .iload_n 1, 1, [], 0), (16, .if_icmp .ne 7, 3, [], 0), (19, .iconst 1, 1, [], 0), (20, .goto 4, 3, [], 0), (23, .iconst 0, 1, [], 0), (24, .ireturn, 1, [1], 0)]
def zc144 : List (Nat × zE) := [(0, .iload_n 0, 1, [], 0), (1, .ifCond .lt 8, 3, [], 0), (4, .iload_n 0, 1, [], 0), (5, .iconst 4, 1, [], 0), (6, .if_icmp .lt 7, 3, [], 0), (9, .iconst 1, 1, [], 0), (10, .goto 4, 3, [], 0), (13, .iconst 0, 1, [], 0), (14, .ireturn, 1, [1], 0)]
def zc145 : List (Nat × zE) := [(0, .iload_n 0, 1, [], 0), (1, .ifCond .lt 8, 3, [], 0), (4, .iload_n 0, 1, [], 0), (5, .iconst 4, 1, [], 0), (6, .if_icmp .lt 7, 3, [], 0), (9, .iconst 1, 1, [], 0), (10, .goto 4, 3, [], 0), (13, .iconst 0, 1, [], 0), (14, .ireturn, 1, [1], 0)]
def zc146 : List (Nat × zE) := [(0, .iconst 1, 1, [], 0), (1, .iload_n 0, 1, [], 0), (2, .ishl, 1, [], 0), (3, .ireturn, 1, [0], 0)]
def zc147 : List (Nat × zE) := [(0, .iload_n 0, 1, [], 0), (1, .iconst 1, 1, [], 0), (2, .iload_n 1, 1, [], 0), (3, .ishl, 1, [], 0), (4, .iand, 1, [], 0), (5, .ifCond .eq 7, 3, [], 0), (8, .iconst 1, 1, [], 0), (9, .goto 4, 3, [], 0), (12, .iconst 0, 1, [], 0), (13, .ireturn, 1, [1], 0)]
def zc148 : List (Nat × zE) := [(0, .aload_n 0, 1, [], 0), (1, .getfield 10, 3, [9, 0, 2], 0), (4, .invokevirtual 288, 3, [0, 92, 7, 1, 2, 0, 0], 0), (7, .istore_n 2, 1, [], 0), (8, .iload_n 2, 1, [], 0), (9, .bipush (-4), 2, [], 0), (11, .if_icmp .eq 8, 3, [], 0), (14, .bipush (-20), 2, [], 0), (16, .iload_n 2, 1, [], 0), (17, .isub, 1, [], 0), (18, .ireturn, 1, [0], 0), (19, .aload_n 0, 1, [], 0), (20, .getfield 10, 3, [9, 0, 2], 0), (23, .invokevirtual 291, 3, [0, 93, 7, 1, 4, 3, 121], 0), (26, .astore_n 3, 1, [], 0), (27, .aload_n 0, 1, [], 0), (28, .getfield 19, 3, [9, 1, 2], 0), (31, .aload_n 3, 1, [], 0), (32, .aload_n 0, 1, [], 0), (33, .getfield 42, 3, [9, 3, 2], 0), (36, .invokevirtual 115, 3, [0, 55, 6, 1, 1, 0, 0], 0), (39, .invokevirtual 125, 3, [0, 24, 3, 3, 3, 0, 0], 0), (42, .ifCond .ne 6, 3, [], 0), (45, .bipush (-3), 2, [], 0), (47, .ireturn, 1, [0], 0), (48, .aload_n 0, 1, [], 0), (49, .getfield 52, 3, [9, 5, 2], 0), (52, .aload_n 0, 1, [], 0), (53, .getfield 42, 3, [9, 3, 2], 0), (56, .invokevirtual 129, 3, [0, 2, 0, 2, 2, 0, 0], 0), (59, .aload_n 0, 1, [], 0), (60, .getfield 42, 3, [9, 3, 2], 0), (63, .iload_n 1, 1, [], 0), (64, .aload_n 3, 1, [], 0), (65, .new 28, 3, [8, 10], 0), (68, .dup, 1, [], 0), (69, .aload_n 0, 1, [], 0), (70, .getfield 19, 3, [9, 1, 2], 0), (73, .invokespecial 30, 3, [2, 98, 0, 2, 2, 4, 121], 0), (76, .invokevirtual 295, 3, [0, 72, 6, 4, 4, 0, 0], 0), (79, .aload_n 0, 1, [], 0), (80, .getfield 42, 3, [9, 3, 2], 0), (83, .iload_n 1, 1, [], 0), (84, .invokevirtual 145, 3, [0, 54, 6, 2, 2, 0, 0], 0), (87, .invokevirtual 149, 3, [0, 99, 8, 1, 1, 0, 0], 0), (90, .ireturn, 1, [0], 0)]
def zc149 : List (Nat × zE) := [(0, .aload_n 0, 1, [], 0), (1, .getfield 46, 3, [9, 4, 2], 0), (4, .aload_n 0, 1, [], 0), (5, .getfield 42, 3, [9, 3, 2], 0), (8, .invokevirtual 237, 3, [0, 52, 6, 2, 3, 0, 0], 0), (11, .iconst 0, 1, [], 0), (12, .istore 4, 2, [], 0), (14, .iload 4, 2, [], 0), (16, .iload_n 3, 1, [], 0), (17, .if_icmp .ge 67, 3, [], 0), (20, .aload_n 1, 1, [], 0), (21, .iload_n 2, 1, [], 0), (22, .iload 4, 2, [], 0), (24, .iadd, 1, [], 0), (25, .invokevirtual 299, 3, [0, 49, 5, 2, 2, 0, 0], 0), (28, .istore 5, 2, [], 0), (30, .iload 5, 2, [], 0), (32, .invokestatic 97, 3, [1, 141, 0, 1, 1, 0, 0], 0), (35, .ifCond .ne 15, 3, [], 0), (38, .aload_n 0, 1, [], 0), (39, .getfield 46, 3, [9, 4, 2], 0), (42, .iload 5, 2, [], 0), (44, .invokevirtual 163, 3, [0, 58, 6, 2, 2, 0, 0], 0), (47, .ifCond .eq 6, 3, [], 0), (50, .iload 4, 2, [], 0), (52, .ireturn, 1, [0], 0), (53, .aload_n 0, 1, [], 0), (54, .getfield 46, 3, [9, 4, 2], 0), (57, .iload 5, 2, [], 0), (59, .invokevirtual 166, 3, [0, 80, 6, 2, 3, 0, 0], 0), (62, .pop, 1, [], 0), (63, .aload_n 0, 1, [], 0), (64, .getfield 46, 3, [9, 4, 2], 0), (67, .iload 5, 2, [], 0), (69, .invokevirtual 302, 3, [0, 59, 6, 2, 2, 0, 0], 0), (72, .ifCond .eq 6, 3, [], 0), (75, .iload 4, 2, [], 0), (77, .ireturn, 1, [0], 0), (78, .iinc 4 1, 3, [], 0), (81, .goto (-67), 3, [], 0), (84, .iload 4, 2, [], 0), (86, .ireturn, 1, [0], 0)]
def zc150 : List (Nat × zE) := [(0, .aload_n 0, 1, [], 0), (1, .invokespecial 1, 3, [8], 0), (4, .aload_n 0, 1, [], 0), (5, .sipush 270, 3, [], 0), (8, .newarray .int, 2, [], 0), (10, .putfield 7, 3, [10, 0, 2], 0), (13, .aload_n 0, 1, [], 0), (14, .sipush 1620, 3, [], 0), (17, .newarray .int, 2, [], 0), (19, .putfield 13, 3, [10, 1, 2], 0), (22, .aload_n 0, 1, [], 0), (23, .sipush 270, 3, [], 0), (26, .newarray .int, 2, [], 0), (28, .putfield 16, 3, [10, 3, 2], 0), (31, .aload_n 0, 1, [], 0), (32, .sipush 1620, 3, [], 0), (35, .newarray .int, 2, [], 0), (37, .putfield 19, 3, [10, 4, 2], 0), (40, .aload_n 0, 1, [], 0), (41, .iconst (-1), 1, [], 0), (42, .putfield 22, 3, [10, 5, 0], 0), (45, .aload_n 0, 1, [], 0), (46, .bipush 60, 2, [], 0), (48, .newarray .int, 2, [], 0), (50, .putfield 26, 3, [10, 6, 2], 0), (53, .aload_n 0, 1, [], 0), (54, .iconst 4, 1, [], 0), (55, .newarray .int, 2, [], 0), (57, .putfield 29, 3, [10, 8, 2], 0), (60, .aload_n 0, 1, [], 0), (61, .iconst 4, 1, [], 0), (62, .newarray .int, 2, [], 0), (64, .putfield 32, 3, [10, 9, 2], 0), (67, .aload_n 0, 1, [], 0), (68, .bipush 96, 2, [], 0), (70, .newarray .long, 2, [], 0), (72, .putfield 35, 3, [10, 10, 2], 0), (75, .aload_n 0, 1, [], 0), (76, .bipush 24, 2, [], 0), (78, .newarray .long, 2, [], 0), (80, .putfield 39, 3, [10, 11, 2], 0), (83, .aload_n 0, 1, [], 0), (84, .bipush 120, 2, [], 0), (86, .newarray .int, 2, [], 0), (88, .putfield 42, 3, [10, 12, 2], 0), (91, .aload_n 0, 1, [], 0), (92, .bipush 120, 2, [], 0), (94, .newarray .int, 2, [], 0), (96, .putfield 45, 3, [10, 13, 2], 0), (99, .aload_n 0, 1, [], 0), (100, .bipush 120, 2, [], 0), (102, .newarray .int, 2, [], 0), (104, .putfield 48, 3, [10, 14, 2], 0), (107, .aload_n 0, 1, [], 0), (108, .iconst 4, 1, [], 0), (109, .newarray .int, 2, [], 0), (111, .putfield 51, 3, [10, 15, 2], 0), (114, .aload_n 0, 1, [], 0), (115, .iconst 4, 1, [], 0), (116, .newarray .int, 2, [], 0), (118, .putfield 54, 3, [10, 16, 2], 0), (121, .aload_n 0, 1, [], 0), (122, .iconst 4, 1, [], 0), (123, .newarray .int, 2, [], 0), (125, .putfield 57, 3, [10, 17, 2], 0), (128, .aload_n 0, 1, [], 0), (129, .iconst 4, 1, [], 0), (130, .newarray .int, 2, [], 0), (132, .putfield 60, 3, [10, 18, 2], 0), (135, .aload_n 0, 1, [], 0), (136, .iconst 4, 1, [], 0), (137, .newarray .int, 2, [], 0), (139, .putfield 63, 3, [10, 19, 2], 0), (142, .aload_n 0, 1, [], 0), (143, .iconst 4, 1, [], 0), (144, .newarray .int, 2, [], 0), (146, .putfield 66, 3, [10, 20, 2], 0), (149, .aload_n 0, 1, [], 0), (150, .bipush 6, 2, [], 0), (152, .newarray .int, 2, [], 0), (154, .putfield 69, 3, [10, 22, 2], 0), (157, .aload_n 0, 1, [], 0), (158, .bipush 6, 2, [], 0), (160, .newarray .int, 2, [], 0), (162, .putfield 72, 3, [10, 23, 2], 0), (165, .aload_n 0, 1, [], 0), (166, .bipush 6, 2, [], 0), (168, .newarray .int, 2, [], 0), (170, .putfield 75, 3, [10, 24, 2], 0), (173, .aload_n 0, 1, [], 0), (174, .bipush 6, 2, [], 0), (176, .newarray .int, 2, [], 0), (178, .putfield 78, 3, [10, 25, 2], 0), (181, .aload_n 0, 1, [], 0), (182, .bipush 31, 2, [], 0), (184, .newarray .int, 2, [], 0), (186, .putfield 81, 3, [10, 27, 2], 0), (189, .aload_n 0, 1, [], 0), (190, .bipush 31, 2, [], 0), (192, .newarray .int, 2, [], 0), (194, .putfield 84, 3, [10, 28, 2], 0), (197, .aload_n 0, 1, [], 0), (198, .bipush 6, 2, [], 0), (200, .newarray .int, 2, [], 0), (202, .putfield 87, 3, [10, 30, 2], 0), (205, .aload_n 0, 1, [], 0), (206, .sipush 270, 3, [], 0), (209, .newarray .int, 2, [], 0), (211, .putfield 90, 3, [10, 33, 2], 0), (214, .aload_n 0, 1, [], 0), (215, .bipush 60, 2, [], 0), (217, .newarray .int, 2, [], 0), (219, .putfield 93, 3, [10, 35, 2], 0), (222, .aload_n 0, 1, [], 0), (223, .bipush 6, 2, [], 0), (225, .newarray .int, 2, [], 0), (227, .putfield 96, 3, [10, 38, 2], 0), (230, .aload_n 0, 1, [], 0), (231, .sipush 961, 3, [], 0), (234, .newarray .long, 2, [], 0), (236, .putfield 99, 3, [10, 39, 2], 0), (239, .aload_n 0, 1, [], 0), (240, .sipush 961, 3, [], 0), (243, .newarray .long, 2, [], 0), (245, .putfield 102, 3, [10, 40, 2], 0), (248, .aload_n 0, 1, [], 0), (249, .bipush 31, 2, [], 0), (251, .newarray .int, 2, [], 0), (253, .putfield 105, 3, [10, 41, 2], 0), (256, .aload_n 0, 1, [], 0), (257, .bipush 31, 2, [], 0), (259, .newarray .int, 2, [], 0), (261, .putfield 108, 3, [10, 42, 2], 0), (264, .aload_n 0, 1, [], 0), (265, .getfield 7, 3, [10, 0, 2], 0), (268, .iconst 3, 1, [], 0), (269, .iconst 1, 1, [], 0), (270, .iastore, 1, [], 0), (271, .iconst 0, 1, [], 0), (272, .istore_n 1, 1, [], 0), (273, .iload_n 1, 1, [], 0), (274, .iconst 4, 1, [], 0), (275, .if_icmp .ge 17, 3, [], 0), (278, .aload_n 0, 1, [], 0), (279, .iload_n 1, 1, [], 0), (280, .iconst 2, 1, [], 0), (281, .bipush (-4), 2, [], 0), (283, .invokevirtual 111, 3, [0, 157, 10, 4, 4, 0, 0], 0), (286, .iinc 1 1, 3, [], 0), (289, .goto (-16), 3, [], 0), (292, .iconst 0, 1, [], 0), (293, .istore_n 1, 1, [], 0), (294, .iload_n 1, 1, [], 0), (295, .iconst 4, 1, [], 0), (296, .if_icmp .ge 16, 3, [], 0), (299, .aload_n 0, 1, [], 0), (300, .getfield 29, 3, [10, 8, 2], 0), (303, .iload_n 1, 1, [], 0), (304, .iconst (-1), 1, [], 0), (305, .iastore, 1, [], 0), (306, .iinc 1 1, 3, [], 0), (309, .goto (-15), 3, [], 0), (312, .aload_n 0, 1, [], 0), (313, .invokevirtual 115, 3, [0, 169, 10, 1, 2, 0, 0], 0), (316, .pop, 1, [], 0), (317, .return_, 1, [], 0)]
def zc151 : List (Nat × zE) := [(0, .lload_n 0, 1, [], 0), (1, .lload_n 2, 1, [], 0), (2, .lcmp, 1, [], 0), (3, .ifCond .lt 14, 3, [], 0), (6, .lload_n 0, 1, [], 0), (7, .lload 4, 2, [], 0), (9, .lcmp, 1, [], 0), (10, .ifCond .gt 7, 3, [], 0), (13, .iconst 1, 1, [], 0), (14, .goto 4, 3, [], 0), (17, .iconst 0, 1, [], 0), (18, .ireturn, 1, [1], 0)]
def zc152 : List (Nat × zE) := [(0, .iload_n 0, 1, [], 0), (1, .iload_n 1, 1, [], 0), (2, .ishr, 1, [], 0), (3, .iconst 1, 1, [], 0), (4, .iand, 1, [], 0), (5, .iconst 1, 1, [], 0), (6, .if_icmp .ne 7, 3, [], 0), (9, .iconst 1, 1, [], 0), (10, .goto 4, 3, [], 0), (13, .iconst 0, 1, [], 0), (14, .ireturn, 1, [1], 0)]
def zc153 : List (Nat × zE) := [(0, .iconst 0, 1, [], 0), (1, .istore_n 1, 1, [], 0), (2, .iload_n 0, 1, [], 0), (3, .istore_n 2, 1, [], 0), (4, .iload_n 2, 1, [], 0), (5, .ifCond .eq 15, 3, [], 0), (8, .iinc 1 1, 3, [], 0), (11, .iload_n 2, 1, [], 0), (12, .iload_n 2, 1, [], 0), (13, .iconst 1, 1, [], 0), (14, .isub, 1, [], 0), (15, .iand, 1, [], 0), (16, .istore_n 2, 1, [], 0), (17, .goto (-13), 3, [], 0), (20, .iload_n 1, 1, [], 0), (21, .ireturn, 1, [0], 0)]
def zc154 : List (Nat × zE) := [(0, .lload_n 0, 1, [], 0), (1, .lconst 0, 1, [], 0), (2, .ldc2_w 119, 3, [], 3), (5, .invokestatic 121, 3, [1, 151, 0, 3, 6, 0, 0], 0), (8, .ireturn, 1, [1], 0)]
def zc155 : List (Nat × zE) := [(0, .iload_n 0, 1, [], 0), (1, .i2l, 1, [], 0), (2, .lconst 0, 1, [], 0), (3, .ldc2_w 125, 3, [], 5), (6, .invokestatic 121, 3, [1, 151, 0, 3, 6, 0, 0], 0), (9, .ireturn, 1, [1], 0)]
def zc156 : List (Nat × zE) := [(0, .aload_n 0, 1, [], 0), (1, .getfield 7, 3, [10, 0, 2], 0), (4, .bipush 10, 2, [], 0), (6, .iconst 4, 1, [], 0), (7, .iload_n 1, 1, [], 0), (8, .imul, 1, [], 0), (9, .iadd, 1, [], 0), (10, .iload_n 2, 1, [], 0), (11, .iadd, 1, [], 0), (12, .iaload, 1, [], 0), (13, .ireturn, 1, [0], 0)]
def zc157 : List (Nat × zE) := [(0, .aload_n 0, 1, [], 0), (1, .getfield 7, 3, [10, 0, 2], 0), (4, .bipush 10, 2, [], 0), (6, .iconst 4, 1, [], 0), (7, .iload_n 1, 1, [], 0), (8, .imul, 1, [], 0), (9, .iadd, 1, [], 0), (10, .iload_n 2, 1, [], 0), (11, .iadd, 1, [], 0), (12, .iload_n 3, 1, [], 0), (13, .iastore, 1, [], 0), (14, .return_, 1, [], 0)]
def zc158 : List (Nat × zE) := [(0, .aload_n 0, 1, [], 0), (1, .getfield 51, 3, [10, 15, 2], 0), (4, .iload_n 1, 1, [], 0), (5, .iaload, 1, [], 0), (6, .bipush 30, 2, [], 0), (8, .if_icmp .ne 11, 3, [], 0), (11, .aload_n 0, 1, [], 0), (12, .iconst 1, 1, [], 0), (13, .putfield 127, 3, [10, 21, 3], 0), (16, .goto 65, 3, [], 0), (19, .aload_n 0, 1, [], 0), (20, .getfield 42, 3, [10, 12, 2], 0), (23, .bipush 30, 2, [], 0), (25, .iload_n 1, 1, [], 0), (26, .imul, 1, [], 0), (27, .aload_n 0, 1, [], 0), (28, .getfield 51, 3, [10, 15, 2], 0), (31, .iload_n 1, 1, [], 0), (32, .iaload, 1, [], 0), (33, .iadd, 1, [], 0), (34, .iload_n 2, 1, [], 0), (35, .iastore, 1, [], 0), (36, .aload_n 0, 1, [], 0), (37, .getfield 45, 3, [10, 13, 2], 0), (40, .bipush 30, 2, [], 0), (42, .iload_n 1, 1, [], 0), (43, .imul, 1, [], 0), (44, .aload_n 0, 1, [], 0), (45, .getfield 51, 3, [10, 15, 2], 0), (48, .iload_n 1, 1, [], 0), (49, .iaload, 1, [], 0), (50, .iadd, 1, [], 0), (51, .iload_n 3, 1, [], 0), (52, .iastore, 1, [], 0), (53, .aload_n 0, 1, [], 0), (54, .getfield 48, 3, [10, 14, 2], 0), (57, .bipush 30, 2, [], 0), (59, .iload_n 1, 1, [], 0), (60, .imul, 1, [], 0), (61, .aload_n 0, 1, [], 0), (62, .getfield 51, 3, [10, 15, 2], 0), (65, .iload_n 1, 1, [], 0), (66, .iaload, 1, [], 0), (67, .iadd, 1, [], 0), (68, .iload 4, 2, [], 0), (70, .iastore, 1, [], 0), (71, .aload_n 0, 1, [], 0), (72, .getfield 51, 3, [10, 15, 2], 0), (75, .iload_n 1, 1, [], 0), (76, .dup2, 1, [], 0), (77, .iaload, 1, [], 0), (78, .iconst 1, 1, [], 0), (79, .iadd, 1, [], 0), (80, .iastore, 1, [], 0), (81, .return_, 1, [], 0)]
def zc159 : List (Nat × zE) := [(0, .aload_n 0, 1, [], 0), (1, .getfield 69, 3, [10, 22, 2], 0), (4, .aload_n 0, 1, [], 0), (5, .getfield 131, 3, [10, 26, 0], 0), (8, .iload_n 1, 1, [], 0), (9, .iastore, 1, [], 0), (10, .aload_n 0, 1, [], 0), (11, .getfield 72, 3, [10, 23, 2], 0), (14, .aload_n 0, 1, [], 0), (15, .getfield 131, 3, [10, 26, 0], 0), (18, .aload_n 0, 1, [], 0), (19, .getfield 134, 3, [10, 31, 0], 0), (22, .iastore, 1, [], 0), (23, .aload_n 0, 1, [], 0), (24, .getfield 75, 3, [10, 24, 2], 0), (27, .aload_n 0, 1, [], 0), (28, .getfield 131, 3, [10, 26, 0], 0), (31, .iload_n 2, 1, [], 0), (32, .iastore, 1, [], 0), (33, .aload_n 0, 1, [], 0), (34, .getfield 78, 3, [10, 25, 2], 0), (37, .aload_n 0, 1, [], 0), (38, .getfield 131, 3, [10, 26, 0], 0), (41, .aload_n 0, 1, [], 0), (42, .getfield 137, 3, [10, 29, 0], 0), (45, .iastore, 1, [], 0), (46, .aload_n 0, 1, [], 0), (47, .dup, 1, [], 0), (48, .getfield 131, 3, [10, 26, 0], 0), (51, .iconst 1, 1, [], 0), (52, .iadd, 1, [], 0), (53, .putfield 131, 3, [10, 26, 0], 0), (56, .return_, 1, [], 0)]
def zc160 : List (Nat × zE) := [(0, .aload_n 0, 1, [], 0), (1, .iload_n 1, 1, [], 0), (2, .iconst 0, 1, [], 0), (3, .iload_n 2, 1, [], 0), (4, .iconst 0, 1, [], 0), (5, .invokevirtual 140, 3, [0, 158, 10, 5, 5, 0, 0], 0), (8, .aload_n 0, 1, [], 0), (9, .getfield 63, 3, [10, 19, 2], 0), (12, .iload_n 1, 1, [], 0), (13, .dup2, 1, [], 0), (14, .iaload, 1, [], 0), (15, .aload_n 0, 1, [], 0), (16, .getfield 87, 3, [10, 30, 2], 0), (19, .iload_n 2, 1, [], 0), (20, .iaload, 1, [], 0), (21, .ifCond .le 7, 3, [], 0), (24, .iconst 1, 1, [], 0), (25, .goto 4, 3, [], 0), (28, .iconst 0, 1, [], 0), (29, .iadd, 1, [], 0), (30, .iastore, 1, [], 0), (31, .aload_n 0, 1, [], 0), (32, .getfield 87, 3, [10, 30, 2], 0), (35, .iload_n 2, 1, [], 0), (36, .dup2, 1, [], 0), (37, .iaload, 1, [], 0), (38, .iconst 1, 1, [], 0), (39, .iadd, 1, [], 0), (40, .iastore, 1, [], 0), (41, .aload_n 0, 1, [], 0), (42, .dup, 1, [], 0), (43, .getfield 144, 3, [10, 32, 0], 0), (46, .iconst 1, 1, [], 0), (47, .iadd, 1, [], 0), (48, .putfield 144, 3, [10, 32, 0], 0), (51, .aload_n 0, 1, [], 0), (52, .getfield 66, 3, [10, 20, 2], 0), (55, .iload_n 1, 1, [], 0), (56, .aload_n 0, 1, [], 0), (57, .getfield 144, 3, [10, 32, 0], 0), (60, .aload_n 0, 1, [], 0), (61, .getfield 66, 3, [10, 20, 2], 0), (64, .iload_n 1, 1, [], 0), (65, .iaload, 1, [], 0), (66, .if_icmp .le 10, 3, [], 0), (69, .aload_n 0, 1, [], 0), (70, .getfield 144, 3, [10, 32, 0], 0), (73, .goto 9, 3, [], 0), (76, .aload_n 0, 1, [], 0), (77, .getfield 66, 3, [10, 20, 2], 0), (80, .iload_n 1, 1, [], 0), (81, .iaload, 1, [], 0), (82, .iastore, 1, [], 0), (83, .aload_n 0, 1, [], 0), (84, .iconst 0, 1, [], 0), (85, .iload_n 2, 1, [], 0), (86, .invokevirtual 147, 3, [0, 159, 10, 3, 3, 0, 0], 0), (89, .return_, 1, [], 0)]
def zc161 : List (Nat × zE) := [(0, .aload_n 0, 1, [], 0), (1, .iload_n 1, 1, [], 0), (2, .iconst 1, 1, [], 0), (3, .aload_n 0, 1, [], 0), (4, .getfield 75, 3, [10, 24, 2], 0), (7, .aload_n 0, 1, [], 0), (8, .getfield 131, 3, [10, 26, 0], 0), (11, .iaload, 1, [], 0), (12, .iconst 0, 1, [], 0), (13, .invokevirtual 140, 3, [0, 158, 10, 5, 5, 0, 0], 0), (16, .aload_n 0, 1, [], 0), (17, .getfield 87, 3, [10, 30, 2], 0), (20, .aload_n 0, 1, [], 0), (21, .getfield 75, 3, [10, 24, 2], 0), (24, .aload_n 0, 1, [], 0), (25, .getfield 131, 3, [10, 26, 0], 0), (28, .iaload, 1, [], 0), (29, .dup2, 1, [], 0), (30, .iaload, 1, [], 0), (31, .iconst 1, 1, [], 0), (32, .isub, 1, [], 0), (33, .iastore, 1, [], 0), (34, .aload_n 0, 1, [], 0), (35, .dup, 1, [], 0), (36, .getfield 144, 3, [10, 32, 0], 0), (39, .iconst 1, 1, [], 0), (40, .isub, 1, [], 0), (41, .putfield 144, 3, [10, 32, 0], 0), (44, .return_, 1, [], 0)]
def zc162 : List (Nat × zE) := [(0, .aload_n 0, 1, [], 0), (1, .getfield 137, 3, [10, 29, 0], 0), (4, .aload_n 0, 1, [], 0), (5, .getfield 78, 3, [10, 25, 2], 0), (8, .aload_n 0, 1, [], 0), (9, .getfield 131, 3, [10, 26, 0], 0), (12, .iaload, 1, [], 0), (13, .if_icmp .le 53, 3, [], 0), (16, .aload_n 0, 1, [], 0), (17, .dup, 1, [], 0), (18, .getfield 137, 3, [10, 29, 0], 0), (21, .iconst 1, 1, [], 0), (22, .isub, 1, [], 0), (23, .putfield 137, 3, [10, 29, 0], 0), (26, .aload_n 0, 1, [], 0), (27, .getfield 84, 3, [10, 28, 2], 0), (30, .aload_n 0, 1, [], 0), (31, .getfield 137, 3, [10, 29, 0], 0), (34, .iaload, 1, [], 0), (35, .ifCond .eq (-35), 3, [], 0), (38, .aload_n 0, 1, [], 0), (39, .iload_n 1, 1, [], 0), (40, .iconst 2, 1, [], 0), (41, .aload_n 0, 1, [], 0), (42, .getfield 81, 3, [10, 27, 2], 0), (45, .aload_n 0, 1, [], 0), (46, .getfield 137, 3, [10, 29, 0], 0), (49, .iaload, 1, [], 0), (50, .aload_n 0, 1, [], 0), (51, .getfield 84, 3, [10, 28, 2], 0), (54, .aload_n 0, 1, [], 0), (55, .getfield 137, 3, [10, 29, 0], 0), (58, .iaload, 1, [], 0), (59, .ineg, 1, [], 0), (60, .invokevirtual 140, 3, [0, 158, 10, 5, 5, 0, 0], 0), (63, .goto (-63), 3, [], 0), (66, .return_, 1, [], 0)]
def zc163 : List (Nat × zE) := [(0, .iload_n 2, 1, [], 0), (1, .aload_n 0, 1, [], 0), (2, .getfield 7, 3, [10, 0, 2], 0), (5, .bipush 26, 2, [], 0), (7, .bipush 61, 2, [], 0), (9, .iload_n 1, 1, [], 0), (10, .imul, 1, [], 0), (11, .iadd, 1, [], 0), (12, .iaload, 1, [], 0), (13, .if_icmp .ge 22, 3, [], 0), (16, .aload_n 0, 1, [], 0), (17, .getfield 7, 3, [10, 0, 2], 0), (20, .bipush 26, 2, [], 0), (22, .bipush 61, 2, [], 0), (24, .iload_n 1, 1, [], 0), (25, .imul, 1, [], 0), (26, .iadd, 1, [], 0), (27, .iconst 1, 1, [], 0), (28, .iadd, 1, [], 0), (29, .iload_n 2, 1, [], 0), (30, .iadd, 1, [], 0), (31, .iaload, 1, [], 0), (32, .goto 4, 3, [], 0), (35, .iconst 0, 1, [], 0), (36, .ireturn, 1, [0], 0)]
def zc164 : List (Nat × zE) := [(0, .iconst 0, 1, [], 0), (1, .istore_n 3, 1, [], 0), (2, .iload_n 2, 1, [], 0), (3, .istore 4, 2, [], 0), (5, .aload_n 0, 1, [], 0), (6, .iload_n 1, 1, [], 0), (7, .iload 4, 2, [], 0), (9, .invokevirtual 151, 3, [0, 163, 10, 3, 3, 0, 0], 0), (12, .istore 5, 2, [], 0), (14, .iload_n 3, 1, [], 0), (15, .iload 5, 2, [], 0), (17, .bipush 40, 2, [], 0), (19, .if_icmp .eq 17, 3, [], 0), (22, .iload 5, 2, [], 0), (24, .bipush 91, 2, [], 0), (26, .if_icmp .eq 10, 3, [], 0), (29, .iload 5, 2, [], 0), (31, .bipush 123, 2, [], 0), (33, .if_icmp .ne 7, 3, [], 0), (36, .iconst 1, 1, [], 0), (37, .goto 29, 3, [], 0), (40, .iload 5, 2, [], 0), (42, .bipush 41, 2, [], 0), (44, .if_icmp .eq 17, 3, [], 0), (47, .iload 5, 2, [], 0), (49, .bipush 93, 2, [], 0), (51, .if_icmp .eq 10, 3, [], 0), (54, .iload 5, 2, [], 0), (56, .bipush 125, 2, [], 0), (58, .if_icmp .ne 7, 3, [], 0), (61, .iconst (-1), 1, [], 0), (62, .goto 4, 3, [], 0), (65, .iconst 0, 1, [], 0), (66, .iadd, 1, [], 0), (67, .istore_n 3, 1, [], 0), (68, .iinc 4 1, 3, [], 0), (71, .iload_n 3, 1, [], 0), (72, .ifCond .gt (-67), 3, [], 0), (75, .iload 4, 2, [], 0), (77, .iconst 1, 1, [], 0), (78, .isub, 1, [], 0), (79, .ireturn, 1, [0], 0)]
def zc165 : List (Nat × zE) := [(0, .iconst 1, 1, [], 0), (1, .istore 4, 2, [], 0), (3, .iload 4, 2, [], 0), (5, .ifCond .eq 99, 3, [], 0), (8, .aload_n 0, 1, [], 0), (9, .getfield 131, 3, [10, 26, 0], 0), (12, .ifCond .le 92, 3, [], 0), (15, .aload_n 0, 1, [], 0), (16, .dup, 1, [], 0), (17, .getfield 131, 3, [10, 26, 0], 0), (20, .iconst 1, 1, [], 0), (21, .isub, 1, [], 0), (22, .putfield 131, 3, [10, 26, 0], 0), (25, .aload_n 0, 1, [], 0), (26, .getfield 69, 3, [10, 22, 2], 0), (29, .aload_n 0, 1, [], 0), (30, .getfield 131, 3, [10, 26, 0], 0), (33, .iaload, 1, [], 0), (34, .ifCond .ne 16, 3, [], 0), (37, .aload_n 0, 1, [], 0), (38, .iload_n 1, 1, [], 0), (39, .invokevirtual 155, 3, [0, 162, 10, 2, 2, 0, 0], 0), (42, .aload_n 0, 1, [], 0), (43, .iload_n 1, 1, [], 0), (44, .invokevirtual 159, 3, [0, 161, 10, 2, 2, 0, 0], 0), (47, .goto (-44), 3, [], 0), (50, .aload_n 0, 1, [], 0), (51, .getfield 69, 3, [10, 22, 2], 0), (54, .aload_n 0, 1, [], 0), (55, .getfield 131, 3, [10, 26, 0], 0), (58, .iaload, 1, [], 0), (59, .iconst 1, 1, [], 0), (60, .if_icmp .ne (-57), 3, [], 0), (63, .aload_n 0, 1, [], 0), (64, .iload_n 1, 1, [], 0), (65, .invokevirtual 155, 3, [0, 162, 10, 2, 2, 0, 0], 0), (68, .aload_n 0, 1, [], 0), (69, .getfield 60, 3, [10, 18, 2], 0), (72, .iload_n 1, 1, [], 0), (73, .dup2, 1, [], 0), (74, .iaload, 1, [], 0), (75, .iconst 1, 1, [], 0), (76, .iadd, 1, [], 0), (77, .iastore, 1, [], 0), (78, .aload_n 0, 1, [], 0), (79, .aload_n 0, 1, [], 0), (80, .iload_n 1, 1, [], 0), (81, .aload_n 0, 1, [], 0), (82, .getfield 72, 3, [10, 23, 2], 0), (85, .aload_n 0, 1, [], 0), (86, .getfield 131, 3, [10, 26, 0], 0), (89, .iaload, 1, [], 0), (90, .invokevirtual 162, 3, [0, 164, 10, 3, 6, 0, 0], 0), (93, .iconst 1, 1, [], 0), (94, .iadd, 1, [], 0), (95, .putfield 134, 3, [10, 31, 0], 0), (98, .iconst 0, 1, [], 0), (99, .istore 4, 2, [], 0), (101, .goto (-98), 3, [], 0), (104, .iload 4, 2, [], 0), (106, .ifCond .eq 17, 3, [], 0), (109, .aload_n 0, 1, [], 0), (110, .getfield 54, 3, [10, 16, 2], 0), (113, .iload_n 1, 1, [], 0), (114, .iload_n 2, 1, [], 0), (115, .iastore, 1, [], 0), (116, .aload_n 0, 1, [], 0), (117, .getfield 57, 3, [10, 17, 2], 0), (120, .iload_n 1, 1, [], 0), (121, .iload_n 3, 1, [], 0), (122, .iastore, 1, [], 0), (123, .return_, 1, [], 0)]
def zc166 : List (Nat × zE) := [(0, .aload_n 0, 1, [], 0), (1, .iload_n 1, 1, [], 0), (2, .aload_n 0, 1, [], 0), (3, .getfield 134, 3, [10, 31, 0], 0), (6, .iconst 1, 1, [], 0), (7, .iadd, 1, [], 0), (8, .invokevirtual 151, 3, [0, 163, 10, 3, 3, 0, 0], 0), (11, .istore_n 3, 1, [], 0), (12, .iload_n 3, 1, [], 0), (13, .bipush 40, 2, [], 0), (15, .if_icmp .ne 55, 3, [], 0), (18, .aload_n 0, 1, [], 0), (19, .getfield 7, 3, [10, 0, 2], 0), (22, .iconst 0, 1, [], 0), (23, .iaload, 1, [], 0), (24, .iload_n 2, 1, [], 0), (25, .invokestatic 165, 3, [1, 152, 0, 2, 2, 0, 0], 0), (28, .ifCond .eq 13, 3, [], 0), (31, .aload_n 0, 1, [], 0), (32, .iload_n 1, 1, [], 0), (33, .iconst 3, 1, [], 0), (34, .iload_n 2, 1, [], 0), (35, .invokevirtual 169, 3, [0, 165, 10, 4, 5, 0, 0], 0), (38, .goto 140, 3, [], 0), (41, .aload_n 0, 1, [], 0), (42, .dup, 1, [], 0), (43, .getfield 134, 3, [10, 31, 0], 0), (46, .iconst 1, 1, [], 0), (47, .iadd, 1, [], 0), (48, .putfield 134, 3, [10, 31, 0], 0), (51, .aload_n 0, 1, [], 0), (52, .iload_n 1, 1, [], 0), (53, .iload_n 2, 1, [], 0), (54, .invokevirtual 172, 3, [0, 160, 10, 3, 3, 0, 0], 0), (57, .aload_n 0, 1, [], 0), (58, .dup, 1, [], 0), (59, .getfield 134, 3, [10, 31, 0], 0), (62, .iconst 1, 1, [], 0), (63, .iadd, 1, [], 0), (64, .putfield 134, 3, [10, 31, 0], 0), (67, .goto 111, 3, [], 0), (70, .aload_n 0, 1, [], 0), (71, .getfield 87, 3, [10, 30, 2], 0), (74, .iload_n 2, 1, [], 0), (75, .iaload, 1, [], 0), (76, .ifCond .ne 13, 3, [], 0), (79, .aload_n 0, 1, [], 0), (80, .iload_n 1, 1, [], 0), (81, .iconst 1, 1, [], 0), (82, .iload_n 2, 1, [], 0), (83, .invokevirtual 169, 3, [0, 165, 10, 4, 5, 0, 0], 0), (86, .goto 92, 3, [], 0), (89, .aload_n 0, 1, [], 0), (90, .iload_n 1, 1, [], 0), (91, .aload_n 0, 1, [], 0), (92, .getfield 134, 3, [10, 31, 0], 0), (95, .iconst 2, 1, [], 0), (96, .iadd, 1, [], 0), (97, .invokevirtual 151, 3, [0, 163, 10, 3, 3, 0, 0], 0), (100, .bipush 48, 2, [], 0), (102, .isub, 1, [], 0), (103, .istore 4, 2, [], 0), (105, .iload_n 3, 1, [], 0), (106, .bipush 43, 2, [], 0), (108, .if_icmp .ne 8, 3, [], 0), (111, .iload 4, 2, [], 0), (113, .goto 6, 3, [], 0), (116, .iload 4, 2, [], 0), (118, .ineg, 1, [], 0), (119, .istore 4, 2, [], 0), (121, .aload_n 0, 1, [], 0), (122, .iload_n 1, 1, [], 0), (123, .iconst 2, 1, [], 0), (124, .iload_n 2, 1, [], 0), (125, .iload 4, 2, [], 0), (127, .invokevirtual 140, 3, [0, 158, 10, 5, 5, 0, 0], 0), (130, .aload_n 0, 1, [], 0), (131, .getfield 127, 3, [10, 21, 3], 0), (134, .ifCond .ne 34, 3, [], 0), (137, .aload_n 0, 1, [], 0), (138, .getfield 81, 3, [10, 27, 2], 0), (141, .aload_n 0, 1, [], 0), (142, .getfield 137, 3, [10, 29, 0], 0), (145, .iload_n 2, 1, [], 0), (146, .iastore, 1, [], 0), (147, .aload_n 0, 1, [], 0), (148, .getfield 84, 3, [10, 28, 2], 0), (151, .aload_n 0, 1, [], 0), (152, .getfield 137, 3, [10, 29, 0], 0), (155, .iload 4, 2, [], 0), (157, .iastore, 1, [], 0), (158, .aload_n 0, 1, [], 0), (159, .dup, 1, [], 0), (160, .getfield 137, 3, [10, 29, 0], 0), (163, .iconst 1, 1, [], 0), (164, .iadd, 1, [], 0), (165, .putfield 137, 3, [10, 29, 0], 0), (168, .aload_n 0, 1, [], 0), (169, .dup, 1, [], 0), (170, .getfield 134, 3, [10, 31, 0], 0), (173, .iconst 3, 1, [], 0), (174, .iadd, 1, [], 0), (175, .putfield 134, 3, [10, 31, 0], 0), (178, .return_, 1, [], 0)]
def zc167 : List (Nat × zE) := [(0, .aload_n 0, 1, [], 0), (1, .dup, 1, [], 0), (2, .getfield 131, 3, [10, 26, 0], 0), (5, .iconst 1, 1, [], 0), (6, .isub, 1, [], 0), (7, .putfield 131, 3, [10, 26, 0], 0), (10, .iload_n 2, 1, [], 0), (11, .bipush 41, 2, [], 0), (13, .if_icmp .ne 52, 3, [], 0), (16, .aload_n 0, 1, [], 0), (17, .getfield 78, 3, [10, 25, 2], 0), (20, .aload_n 0, 1, [], 0), (21, .getfield 131, 3, [10, 26, 0], 0), (24, .iaload, 1, [], 0), (25, .istore_n 3, 1, [], 0), (26, .iload_n 3, 1, [], 0), (27, .aload_n 0, 1, [], 0), (28, .getfield 137, 3, [10, 29, 0], 0), (31, .if_icmp .ge 16, 3, [], 0), (34, .aload_n 0, 1, [], 0), (35, .getfield 84, 3, [10, 28, 2], 0), (38, .iload_n 3, 1, [], 0), (39, .iconst 0, 1, [], 0), (40, .iastore, 1, [], 0), (41, .iinc 3 1, 3, [], 0), (44, .goto (-18), 3, [], 0), (47, .aload_n 0, 1, [], 0), (48, .iload_n 1, 1, [], 0), (49, .invokevirtual 159, 3, [0, 161, 10, 2, 2, 0, 0], 0), (52, .aload_n 0, 1, [], 0), (53, .dup, 1, [], 0), (54, .getfield 134, 3, [10, 31, 0], 0), (57, .iconst 1, 1, [], 0), (58, .iadd, 1, [], 0), (59, .putfield 134, 3, [10, 31, 0], 0), (62, .goto 85, 3, [], 0), (65, .iload_n 2, 1, [], 0), (66, .bipush 93, 2, [], 0), (68, .if_icmp .ne 16, 3, [], 0), (71, .aload_n 0, 1, [], 0), (72, .dup, 1, [], 0), (73, .getfield 134, 3, [10, 31, 0], 0), (76, .iconst 1, 1, [], 0), (77, .iadd, 1, [], 0), (78, .putfield 134, 3, [10, 31, 0], 0), (81, .goto 66, 3, [], 0), (84, .aload_n 0, 1, [], 0), (85, .getfield 75, 3, [10, 24, 2], 0), (88, .aload_n 0, 1, [], 0), (89, .getfield 131, 3, [10, 26, 0], 0), (92, .dup2, 1, [], 0), (93, .iaload, 1, [], 0), (94, .iconst 1, 1, [], 0), (95, .isub, 1, [], 0), (96, .iastore, 1, [], 0), (97, .aload_n 0, 1, [], 0), (98, .getfield 75, 3, [10, 24, 2], 0), (101, .aload_n 0, 1, [], 0), (102, .getfield 131, 3, [10, 26, 0], 0), (105, .iaload, 1, [], 0), (106, .ifCond .le 31, 3, [], 0), (109, .aload_n 0, 1, [], 0), (110, .aload_n 0, 1, [], 0), (111, .getfield 72, 3, [10, 23, 2], 0), (114, .aload_n 0, 1, [], 0), (115, .getfield 131, 3, [10, 26, 0], 0), (118, .iaload, 1, [], 0), (119, .iconst 1, 1, [], 0), (120, .iadd, 1, [], 0), (121, .putfield 134, 3, [10, 31, 0], 0), (124, .aload_n 0, 1, [], 0), (125, .dup, 1, [], 0), (126, .getfield 131, 3, [10, 26, 0], 0), (129, .iconst 1, 1, [], 0), (130, .iadd, 1, [], 0), (131, .putfield 131, 3, [10, 26, 0], 0), (134, .goto 13, 3, [], 0), (137, .aload_n 0, 1, [], 0), (138, .dup, 1, [], 0), (139, .getfield 134, 3, [10, 31, 0], 0), (142, .iconst 1, 1, [], 0), (143, .iadd, 1, [], 0), (144, .putfield 134, 3, [10, 31, 0], 0), (147, .return_, 1, [], 0)]
def zc168 : List (Nat × zE) := [(0, .aload_n 0, 1, [], 0), (1, .getfield 51, 3, [10, 15, 2], 0), (4, .iload_n 1, 1, [], 0), (5, .iconst 0, 1, [], 0), (6, .iastore, 1, [], 0), (7, .aload_n 0, 1, [], 0), (8, .getfield 54, 3, [10, 16, 2], 0), (11, .iload_n 1, 1, [], 0), (12, .iconst 0, 1, [], 0), (13, .iastore, 1, [], 0), (14, .aload_n 0, 1, [], 0), (15, .getfield 57, 3, [10, 17, 2], 0), (18, .iload_n 1, 1, [], 0), (19, .bipush (-4), 2, [], 0), (21, .iastore, 1, [], 0), (22, .aload_n 0, 1, [], 0), (23, .getfield 60, 3, [10, 18, 2], 0), (26, .iload_n 1, 1, [], 0), (27, .iconst 0, 1, [], 0), (28, .iastore, 1, [], 0), (29, .aload_n 0, 1, [], 0), (30, .getfield 63, 3, [10, 19, 2], 0), (33, .iload_n 1, 1, [], 0), (34, .iconst 0, 1, [], 0), (35, .iastore, 1, [], 0), (36, .aload_n 0, 1, [], 0), (37, .getfield 66, 3, [10, 20, 2], 0), (40, .iload_n 1, 1, [], 0), (41, .iconst 0, 1, [], 0), (42, .iastore, 1, [], 0), (43, .aload_n 0, 1, [], 0), (44, .iconst 0, 1, [], 0), (45, .putfield 131, 3, [10, 26, 0], 0), (48, .aload_n 0, 1, [], 0), (49, .iconst 0, 1, [], 0), (50, .putfield 137, 3, [10, 29, 0], 0), (53, .aload_n 0, 1, [], 0), (54, .iconst 0, 1, [], 0), (55, .putfield 144, 3, [10, 32, 0], 0), (58, .aload_n 0, 1, [], 0), (59, .iconst 0, 1, [], 0), (60, .putfield 134, 3, [10, 31, 0], 0), (63, .iconst 0, 1, [], 0), (64, .istore_n 2, 1, [], 0), (65, .iload_n 2, 1, [], 0), (66, .bipush 6, 2, [], 0), (68, .if_icmp .ge 16, 3, [], 0), (71, .aload_n 0, 1, [], 0), (72, .getfield 87, 3, [10, 30, 2], 0), (75, .iload_n 2, 1, [], 0), (76, .iconst 0, 1, [], 0), (77, .iastore, 1, [], 0), (78, .iinc 2 1, 3, [], 0), (81, .goto (-16), 3, [], 0), (84, .aload_n 0, 1, [], 0), (85, .getfield 127, 3, [10, 21, 3], 0), (88, .ifCond .ne 157, 3, [], 0), (91, .aload_n 0, 1, [], 0), (92, .getfield 54, 3, [10, 16, 2], 0), (95, .iload_n 1, 1, [], 0), (96, .iaload, 1, [], 0), (97, .ifCond .ne 148, 3, [], 0), (100, .aload_n 0, 1, [], 0), (101, .iload_n 1, 1, [], 0), (102, .aload_n 0, 1, [], 0), (103, .getfield 134, 3, [10, 31, 0], 0), (106, .invokevirtual 151, 3, [0, 163, 10, 3, 3, 0, 0], 0), (109, .ifCond .eq 136, 3, [], 0), (112, .aload_n 0, 1, [], 0), (113, .iload_n 1, 1, [], 0), (114, .aload_n 0, 1, [], 0), (115, .getfield 134, 3, [10, 31, 0], 0), (118, .invokevirtual 151, 3, [0, 163, 10, 3, 3, 0, 0], 0), (121, .istore_n 2, 1, [], 0), (122, .iload_n 2, 1, [], 0), (123, .i2l, 1, [], 0), (124, .ldc2_w 175, 3, [], 97), (127, .ldc2_w 177, 3, [], 102), (130, .invokestatic 121, 3, [1, 151, 0, 3, 6, 0, 0], 0), (133, .ifCond .eq 15, 3, [], 0), (136, .aload_n 0, 1, [], 0), (137, .iload_n 1, 1, [], 0), (138, .iload_n 2, 1, [], 0), (139, .bipush 97, 2, [], 0), (141, .isub, 1, [], 0), (142, .invokevirtual 179, 3, [0, 166, 10, 3, 5, 0, 0], 0), (145, .goto 97, 3, [], 0), (148, .iload_n 2, 1, [], 0), (149, .bipush 33, 2, [], 0), (151, .if_icmp .ne 14, 3, [], 0), (154, .aload_n 0, 1, [], 0), (155, .iload_n 1, 1, [], 0), (156, .iconst 2, 1, [], 0), (157, .bipush (-4), 2, [], 0), (159, .invokevirtual 169, 3, [0, 165, 10, 4, 5, 0, 0], 0), (162, .goto 80, 3, [], 0), (165, .iload_n 2, 1, [], 0), (166, .bipush 91, 2, [], 0), (168, .if_icmp .ne 22, 3, [], 0), (171, .aload_n 0, 1, [], 0), (172, .iconst 1, 1, [], 0), (173, .iconst 0, 1, [], 0), (174, .invokevirtual 147, 3, [0, 159, 10, 3, 3, 0, 0], 0), (177, .aload_n 0, 1, [], 0), (178, .dup, 1, [], 0), (179, .getfield 134, 3, [10, 31, 0], 0), (182, .iconst 1, 1, [], 0), (183, .iadd, 1, [], 0), (184, .putfield 134, 3, [10, 31, 0], 0), (187, .goto 55, 3, [], 0), (190, .iload_n 2, 1, [], 0), (191, .i2l, 1, [], 0), (192, .ldc2_w 182, 3, [], 50), (195, .ldc2_w 184, 3, [], 53), (198, .invokestatic 121, 3, [1, 151, 0, 3, 6, 0, 0], 0), (201, .ifCond .eq 35, 3, [], 0), (204, .aload_n 0, 1, [], 0), (205, .dup, 1, [], 0), (206, .getfield 134, 3, [10, 31, 0], 0), (209, .iconst 1, 1, [], 0), (210, .iadd, 1, [], 0), (211, .putfield 134, 3, [10, 31, 0], 0), (214, .aload_n 0, 1, [], 0), (215, .iconst 2, 1, [], 0), (216, .iload_n 2, 1, [], 0), (217, .bipush 48, 2, [], 0), (219, .isub, 1, [], 0), (220, .invokevirtual 147, 3, [0, 159, 10, 3, 3, 0, 0], 0), (223, .aload_n 0, 1, [], 0), (224, .dup, 1, [], 0), (225, .getfield 134, 3, [10, 31, 0], 0), (228, .iconst 1, 1, [], 0), (229, .iadd, 1, [], 0), (230, .putfield 134, 3, [10, 31, 0], 0), (233, .goto 9, 3, [], 0), (236, .aload_n 0, 1, [], 0), (237, .iload_n 1, 1, [], 0), (238, .iload_n 2, 1, [], 0), (239, .invokevirtual 186, 3, [0, 167, 10, 3, 4, 0, 0], 0), (242, .goto (-158), 3, [], 0), (245, .return_, 1, [], 0)]
def zc169 : List (Nat × zE) := [(0, .aload_n 0, 1, [], 0), (1, .iconst 0, 1, [], 0), (2, .putfield 127, 3, [10, 21, 3], 0), (5, .iconst 0, 1, [], 0), (6, .istore_n 1, 1, [], 0), (7, .iload_n 1, 1, [], 0), (8, .iconst 4, 1, [], 0), (9, .if_icmp .ge 21, 3, [], 0), (12, .aload_n 0, 1, [], 0), (13, .getfield 127, 3, [10, 21, 3], 0), (16, .ifCond .ne 14, 3, [], 0), (19, .aload_n 0, 1, [], 0), (20, .iload_n 1, 1, [], 0), (21, .invokevirtual 189, 3, [0, 168, 10, 2, 3, 0, 0], 0), (24, .iinc 1 1, 3, [], 0), (27, .goto (-20), 3, [], 0), (30, .aload_n 0, 1, [], 0), (31, .getfield 127, 3, [10, 21, 3], 0), (34, .ifCond .ne 7, 3, [], 0), (37, .iconst 1, 1, [], 0), (38, .goto 4, 3, [], 0), (41, .iconst 0, 1, [], 0), (42, .ireturn, 1, [1], 0)]
def zc170 : List (Nat × zE) := [(0, .aload_n 0, 1, [], 0), (1, .getfield 42, 3, [10, 12, 2], 0), (4, .bipush 30, 2, [], 0), (6, .iload_n 1, 1, [], 0), (7, .imul, 1, [], 0), (8, .iload_n 2, 1, [], 0), (9, .iadd, 1, [], 0), (10, .iaload, 1, [], 0), (11, .ireturn, 1, [0], 0)]
def zc171 : List (Nat × zE) := [(0, .aload_n 0, 1, [], 0), (1, .getfield 45, 3, [10, 13, 2], 0), (4, .bipush 30, 2, [], 0), (6, .iload_n 1, 1, [], 0), (7, .imul, 1, [], 0), (8, .iload_n 2, 1, [], 0), (9, .iadd, 1, [], 0), (10, .iaload, 1, [], 0), (11, .ireturn, 1, [0], 0)]
def zc172 : List (Nat × zE) := [(0, .iload_n 1, 1, [], 0), (1, .i2l, 1, [], 0), (2, .invokestatic 192, 3, [1, 154, 0, 1, 2, 0, 0], 0), (5, .ifCond .ne 5, 3, [], 0), (8, .iconst (-1), 1, [], 0), (9, .ireturn, 1, [0], 0), (10, .iload_n 2, 1, [], 0), (11, .tableswitch 79 0 5 #[37, 44, 51, 58, 65, 72], 37, [], 0), (48, .aload_n 0, 1, [], 0), (49, .getfield 51, 3, [10, 15, 2], 0), (52, .iload_n 1, 1, [], 0), (53, .iaload, 1, [], 0), (54, .ireturn, 1, [0], 0), (55, .aload_n 0, 1, [], 0), (56, .getfield 54, 3, [10, 16, 2], 0), (59, .iload_n 1, 1, [], 0), (60, .iaload, 1, [], 0), (61, .ireturn, 1, [0], 0), (62, .aload_n 0, 1, [], 0), (63, .getfield 57, 3, [10, 17, 2], 0), (66, .iload_n 1, 1, [], 0), (67, .iaload, 1, [], 0), (68, .ireturn, 1, [0], 0), (69, .aload_n 0, 1, [], 0), (70, .getfield 60, 3, [10, 18, 2], 0), (73, .iload_n 1, 1, [], 0), (74, .iaload, 1, [], 0), (75, .ireturn, 1, [0], 0), (76, .aload_n 0, 1, [], 0), (77, .getfield 63, 3, [10, 19, 2], 0), (80, .iload_n 1, 1, [], 0), (81, .iaload, 1, [], 0), (82, .ireturn, 1, [0], 0), (83, .aload_n 0, 1, [], 0), (84, .getfield 66, 3, [10, 20, 2], 0), (87, .iload_n 1, 1, [], 0), (88, .iaload, 1, [], 0), (89, .ireturn, 1, [0], 0), (90, .iconst (-1), 1, [], 0), (91, .ireturn, 1, [0], 0)]
def zc173 : List (Nat × zE) := [(0, .iload_n 1, 1, [], 0), (1, .i2l, 1, [], 0), (2, .invokestatic 192, 3, [1, 154, 0, 1, 2, 0, 0], 0), (5, .ifCond .eq 21, 3, [], 0), (8, .iload_n 2, 1, [], 0), (9, .i2l, 1, [], 0), (10, .lconst 0, 1, [], 0), (11, .aload_n 0, 1, [], 0), (12, .getfield 51, 3, [10, 15, 2], 0), (15, .iload_n 1, 1, [], 0), (16, .iaload, 1, [], 0), (17, .iconst 1, 1, [], 0), (18, .isub, 1, [], 0), (19, .i2l, 1, [], 0), (20, .invokestatic 121, 3, [1, 151, 0, 3, 6, 0, 0], 0), (23, .ifCond .ne 5, 3, [], 0), (26, .iconst (-1), 1, [], 0), (27, .ireturn, 1, [0], 0), (28, .iload_n 3, 1, [], 0), (29, .ifCond .ne 12, 3, [], 0), (32, .aload_n 0, 1, [], 0), (33, .iload_n 1, 1, [], 0), (34, .iload_n 2, 1, [], 0), (35, .invokevirtual 196, 3, [0, 170, 10, 3, 3, 0, 0], 0), (38, .goto 40, 3, [], 0), (41, .iload_n 3, 1, [], 0), (42, .iconst 1, 1, [], 0), (43, .if_icmp .ne 12, 3, [], 0), (46, .aload_n 0, 1, [], 0), (47, .iload_n 1, 1, [], 0), (48, .iload_n 2, 1, [], 0), (49, .invokevirtual 199, 3, [0, 171, 10, 3, 3, 0, 0], 0), (52, .goto 26, 3, [], 0), (55, .iload_n 3, 1, [], 0), (56, .iconst 2, 1, [], 0), (57, .if_icmp .ne 20, 3, [], 0), (60, .aload_n 0, 1, [], 0), (61, .getfield 48, 3, [10, 14, 2], 0), (64, .bipush 30, 2, [], 0), (66, .iload_n 1, 1, [], 0), (67, .imul, 1, [], 0), (68, .iload_n 2, 1, [], 0), (69, .iadd, 1, [], 0), (70, .iaload, 1, [], 0), (71, .bipush 10, 2, [], 0), (73, .iadd, 1, [], 0), (74, .goto 4, 3, [], 0), (77, .iconst (-1), 1, [], 0), (78, .ireturn, 1, [0], 0)]
def zc174 : List (Nat × zE) := [(0, .iconst 0, 1, [], 0), (1, .istore_n 1, 1, [], 0), (2, .iload_n 1, 1, [], 0), (3, .sipush 270, 3, [], 0), (6, .if_icmp .ge 21, 3, [], 0), (9, .aload_n 0, 1, [], 0), (10, .getfield 90, 3, [10, 33, 2], 0), (13, .iload_n 1, 1, [], 0), (14, .aload_n 0, 1, [], 0), (15, .getfield 7, 3, [10, 0, 2], 0), (18, .iload_n 1, 1, [], 0), (19, .iaload, 1, [], 0), (20, .iastore, 1, [], 0), (21, .iinc 1 1, 3, [], 0), (24, .goto (-22), 3, [], 0), (27, .return_, 1, [], 0)]
def zc175 : List (Nat × zE) := [(0, .aload_n 0, 1, [], 0), (1, .getfield 202, 3, [10, 2, 0], 0), (4, .bipush 6, 2, [], 0), (6, .if_icmp .ne 39, 3, [], 0), (9, .iconst 0, 1, [], 0), (10, .istore_n 1, 1, [], 0), (11, .iload_n 1, 1, [], 0), (12, .sipush 1350, 3, [], 0), (15, .if_icmp .ge 25, 3, [], 0), (18, .aload_n 0, 1, [], 0), (19, .getfield 13, 3, [10, 1, 2], 0), (22, .iload_n 1, 1, [], 0), (23, .aload_n 0, 1, [], 0), (24, .getfield 13, 3, [10, 1, 2], 0), (27, .iload_n 1, 1, [], 0), (28, .sipush 270, 3, [], 0), (31, .iadd, 1, [], 0), (32, .iaload, 1, [], 0), (33, .iastore, 1, [], 0), (34, .iinc 1 1, 3, [], 0), (37, .goto (-26), 3, [], 0), (40, .aload_n 0, 1, [], 0), (41, .iconst 5, 1, [], 0), (42, .putfield 202, 3, [10, 2, 0], 0), (45, .iconst 0, 1, [], 0), (46, .istore_n 1, 1, [], 0), (47, .iload_n 1, 1, [], 0), (48, .sipush 270, 3, [], 0), (51, .if_icmp .ge 30, 3, [], 0), (54, .aload_n 0, 1, [], 0), (55, .getfield 13, 3, [10, 1, 2], 0), (58, .sipush 270, 3, [], 0), (61, .aload_n 0, 1, [], 0), (62, .getfield 202, 3, [10, 2, 0], 0), (65, .imul, 1, [], 0), (66, .iload_n 1, 1, [], 0), (67, .iadd, 1, [], 0), (68, .aload_n 0, 1, [], 0), (69, .getfield 90, 3, [10, 33, 2], 0), (72, .iload_n 1, 1, [], 0), (73, .iaload, 1, [], 0), (74, .iastore, 1, [], 0), (75, .iinc 1 1, 3, [], 0), (78, .goto (-31), 3, [], 0), (81, .aload_n 0, 1, [], 0), (82, .dup, 1, [], 0), (83, .getfield 202, 3, [10, 2, 0], 0), (86, .iconst 1, 1, [], 0), (87, .iadd, 1, [], 0), (88, .putfield 202, 3, [10, 2, 0], 0), (91, .return_, 1, [], 0)]
def zc176 : List (Nat × zE) := [(0, .iconst 0, 1, [], 0), (1, .istore_n 1, 1, [], 0), (2, .iload_n 1, 1, [], 0), (3, .sipush 270, 3, [], 0), (6, .if_icmp .ge 21, 3, [], 0), (9, .aload_n 0, 1, [], 0), (10, .getfield 7, 3, [10, 0, 2], 0), (13, .iload_n 1, 1, [], 0), (14, .aload_n 0, 1, [], 0), (15, .getfield 90, 3, [10, 33, 2], 0), (18, .iload_n 1, 1, [], 0), (19, .iaload, 1, [], 0), (20, .iastore, 1, [], 0), (21, .iinc 1 1, 3, [], 0), (24, .goto (-22), 3, [], 0), (27, .return_, 1, [], 0)]
def zc177 : List (Nat × zE) := [(0, .iconst 0, 1, [], 0), (1, .istore_n 1, 1, [], 0), (2, .iconst 0, 1, [], 0), (3, .istore_n 2, 1, [], 0), (4, .iload_n 2, 1, [], 0), (5, .iconst 4, 1, [], 0), (6, .if_icmp .ge 39, 3, [], 0), (9, .iload_n 1, 1, [], 0), (10, .ifCond .ne 23, 3, [], 0), (13, .aload_n 0, 1, [], 0), (14, .iload_n 2, 1, [], 0), (15, .iconst 0, 1, [], 0), (16, .invokevirtual 205, 3, [0, 156, 10, 3, 3, 0, 0], 0), (19, .iconst 1, 1, [], 0), (20, .if_icmp .eq 13, 3, [], 0), (23, .aload_n 0, 1, [], 0), (24, .iload_n 2, 1, [], 0), (25, .iconst 0, 1, [], 0), (26, .invokevirtual 205, 3, [0, 156, 10, 3, 3, 0, 0], 0), (29, .iconst 2, 1, [], 0), (30, .if_icmp .ne 7, 3, [], 0), (33, .iconst 1, 1, [], 0), (34, .goto 4, 3, [], 0), (37, .iconst 0, 1, [], 0), (38, .istore_n 1, 1, [], 0), (39, .iinc 2 1, 3, [], 0), (42, .goto (-38), 3, [], 0), (45, .iload_n 1, 1, [], 0), (46, .ireturn, 1, [1], 0)]
def zc178 : List (Nat × zE) := [(0, .aload_n 0, 1, [], 0), (1, .iload_n 1, 1, [], 0), (2, .iconst 0, 1, [], 0), (3, .iconst 0, 1, [], 0), (4, .invokevirtual 111, 3, [0, 157, 10, 4, 4, 0, 0], 0), (7, .aload_n 0, 1, [], 0), (8, .iload_n 1, 1, [], 0), (9, .iconst 1, 1, [], 0), (10, .iconst 0, 1, [], 0), (11, .invokevirtual 111, 3, [0, 157, 10, 4, 4, 0, 0], 0), (14, .aload_n 0, 1, [], 0), (15, .iload_n 1, 1, [], 0), (16, .iconst 2, 1, [], 0), (17, .bipush (-4), 2, [], 0), (19, .invokevirtual 111, 3, [0, 157, 10, 4, 4, 0, 0], 0), (22, .return_, 1, [], 0)]
def zc179 : List (Nat × zE) := [(0, .iload_n 1, 1, [], 0), (1, .i2l, 1, [], 0), (2, .ldc2_w 208, 3, [], 32), (5, .ldc2_w 210, 3, [], 126), (8, .invokestatic 121, 3, [1, 151, 0, 3, 6, 0, 0], 0), (11, .ifCond .ne 5, 3, [], 0), (14, .iconst (-1), 1, [], 0), (15, .ireturn, 1, [0], 0), (16, .aload_n 0, 1, [], 0), (17, .getfield 212, 3, [10, 7, 0], 0), (20, .bipush 60, 2, [], 0), (22, .if_icmp .ne 6, 3, [], 0), (25, .bipush (-3), 2, [], 0), (27, .ireturn, 1, [0], 0), (28, .aload_n 0, 1, [], 0), (29, .getfield 26, 3, [10, 6, 2], 0), (32, .aload_n 0, 1, [], 0), (33, .getfield 212, 3, [10, 7, 0], 0), (36, .iload_n 1, 1, [], 0), (37, .iastore, 1, [], 0), (38, .aload_n 0, 1, [], 0), (39, .dup, 1, [], 0), (40, .getfield 212, 3, [10, 7, 0], 0), (43, .iconst 1, 1, [], 0), (44, .iadd, 1, [], 0), (45, .putfield 212, 3, [10, 7, 0], 0), (48, .aload_n 0, 1, [], 0), (49, .getfield 212, 3, [10, 7, 0], 0), (52, .ireturn, 1, [0], 0)]
def zc180 : List (Nat × zE) := [(0, .aload_n 0, 1, [], 0), (1, .getfield 215, 3, [10, 34, 0], 0), (4, .aload_n 0, 1, [], 0), (5, .getfield 212, 3, [10, 7, 0], 0), (8, .if_icmp .ge 30, 3, [], 0), (11, .aload_n 0, 1, [], 0), (12, .getfield 26, 3, [10, 6, 2], 0), (15, .aload_n 0, 1, [], 0), (16, .getfield 215, 3, [10, 34, 0], 0), (19, .iaload, 1, [], 0), (20, .bipush 32, 2, [], 0), (22, .if_icmp .ne 16, 3, [], 0), (25, .aload_n 0, 1, [], 0), (26, .dup, 1, [], 0), (27, .getfield 215, 3, [10, 34, 0], 0), (30, .iconst 1, 1, [], 0), (31, .iadd, 1, [], 0), (32, .putfield 215, 3, [10, 34, 0], 0), (35, .goto (-35), 3, [], 0), (38, .aload_n 0, 1, [], 0), (39, .getfield 215, 3, [10, 34, 0], 0), (42, .aload_n 0, 1, [], 0), (43, .getfield 212, 3, [10, 7, 0], 0), (46, .if_icmp .ge 15, 3, [], 0), (49, .aload_n 0, 1, [], 0), (50, .getfield 26, 3, [10, 6, 2], 0), (53, .aload_n 0, 1, [], 0), (54, .getfield 215, 3, [10, 34, 0], 0), (57, .iaload, 1, [], 0), (58, .goto 4, 3, [], 0), (61, .iconst 0, 1, [], 0), (62, .ireturn, 1, [0], 0)]
def zc181 : List (Nat × zE) := [(0, .aload_n 0, 1, [], 0), (1, .getfield 93, 3, [10, 35, 2], 0), (4, .aload_n 0, 1, [], 0), (5, .getfield 218, 3, [10, 36, 0], 0), (8, .aload_n 0, 1, [], 0), (9, .invokevirtual 221, 3, [0, 180, 10, 1, 1, 0, 0], 0), (12, .iastore, 1, [], 0), (13, .aload_n 0, 1, [], 0), (14, .dup, 1, [], 0), (15, .getfield 218, 3, [10, 36, 0], 0), (18, .iconst 1, 1, [], 0), (19, .iadd, 1, [], 0), (20, .putfield 218, 3, [10, 36, 0], 0), (23, .aload_n 0, 1, [], 0), (24, .dup, 1, [], 0), (25, .getfield 215, 3, [10, 34, 0], 0), (28, .iconst 1, 1, [], 0), (29, .iadd, 1, [], 0), (30, .putfield 215, 3, [10, 34, 0], 0), (33, .return_, 1, [], 0)]
def zc182 : List (Nat × zE) := [(0, .iload_n 1, 1, [], 0), (1, .ifCond .eq 7, 3, [], 0), (4, .aload_n 0, 1, [], 0), (5, .invokevirtual 225, 3, [0, 181, 10, 1, 1, 0, 0], 0), (8, .iload_n 1, 1, [], 0), (9, .ireturn, 1, [1], 0)]
def zc183 : List (Nat × zE) := [(0, .aload_n 0, 1, [], 0), (1, .getfield 131, 3, [10, 26, 0], 0), (4, .bipush 6, 2, [], 0), (6, .if_icmp .ne 5, 3, [], 0), (9, .iconst 0, 1, [], 0), (10, .ireturn, 1, [1], 0), (11, .aload_n 0, 1, [], 0), (12, .getfield 69, 3, [10, 22, 2], 0), (15, .aload_n 0, 1, [], 0), (16, .getfield 131, 3, [10, 26, 0], 0), (19, .aload_n 0, 1, [], 0), (20, .invokevirtual 221, 3, [0, 180, 10, 1, 1, 0, 0], 0), (23, .iastore, 1, [], 0), (24, .aload_n 0, 1, [], 0), (25, .dup, 1, [], 0), (26, .getfield 131, 3, [10, 26, 0], 0), (29, .iconst 1, 1, [], 0), (30, .iadd, 1, [], 0), (31, .putfield 131, 3, [10, 26, 0], 0), (34, .aload_n 0, 1, [], 0), (35, .invokevirtual 225, 3, [0, 181, 10, 1, 1, 0, 0], 0), (38, .iconst 1, 1, [], 0), (39, .ireturn, 1, [1], 0)]
def zc184 : List (Nat × zE) := [(0, .iload_n 0, 1, [], 0), (1, .bipush 40, 2, [], 0), (3, .if_icmp .ne 8, 3, [], 0), (6, .bipush 41, 2, [], 0), (8, .goto 16, 3, [], 0), (11, .iload_n 0, 1, [], 0), (12, .bipush 91, 2, [], 0), (14, .if_icmp .ne 8, 3, [], 0), (17, .bipush 93, 2, [], 0), (19, .goto 5, 3, [], 0), (22, .bipush 125, 2, [], 0), (24, .ireturn, 1, [0], 0)]
def zc185 : List (Nat × zE) := [(0, .aload_n 0, 1, [], 0), (1, .invokevirtual 225, 3, [0, 181, 10, 1, 1, 0, 0], 0), (4, .aload_n 0, 1, [], 0), (5, .invokevirtual 221, 3, [0, 180, 10, 1, 1, 0, 0], 0), (8, .bipush 40, 2, [], 0), (10, .if_icmp .ne 8, 3, [], 0), (13, .aload_n 0, 1, [], 0), (14, .invokevirtual 228, 3, [0, 183, 10, 1, 1, 0, 0], 0), (17, .ireturn, 1, [1], 0), (18, .aload_n 0, 1, [], 0), (19, .aload_n 0, 1, [], 0), (20, .invokevirtual 221, 3, [0, 180, 10, 1, 1, 0, 0], 0), (23, .bipush 43, 2, [], 0), (25, .if_icmp .eq 12, 3, [], 0), (28, .aload_n 0, 1, [], 0), (29, .invokevirtual 221, 3, [0, 180, 10, 1, 1, 0, 0], 0), (32, .bipush 45, 2, [], 0), (34, .if_icmp .ne 7, 3, [], 0), (37, .iconst 1, 1, [], 0), (38, .goto 4, 3, [], 0), (41, .iconst 0, 1, [], 0), (42, .invokevirtual 231, 3, [0, 182, 10, 2, 2, 0, 0], 0), (45, .ifCond .eq 28, 3, [], 0), (48, .aload_n 0, 1, [], 0), (49, .aload_n 0, 1, [], 0), (50, .invokevirtual 221, 3, [0, 180, 10, 1, 1, 0, 0], 0), (53, .i2l, 1, [], 0), (54, .ldc2_w 235, 3, [], 49), (57, .ldc2_w 237, 3, [], 57), (60, .invokestatic 121, 3, [1, 151, 0, 3, 6, 0, 0], 0), (63, .invokevirtual 231, 3, [0, 182, 10, 2, 2, 0, 0], 0), (66, .ifCond .eq 7, 3, [], 0), (69, .iconst 1, 1, [], 0), (70, .goto 4, 3, [], 0), (73, .iconst 0, 1, [], 0), (74, .ireturn, 1, [1], 0)]
def zc186 : List (Nat × zE) := [(0, .aload_n 0, 1, [], 0), (1, .iconst 0, 1, [], 0), (2, .putfield 215, 3, [10, 34, 0], 0), (5, .aload_n 0, 1, [], 0), (6, .iconst 0, 1, [], 0), (7, .putfield 218, 3, [10, 36, 0], 0), (10, .aload_n 0, 1, [], 0), (11, .iconst 0, 1, [], 0), (12, .putfield 131, 3, [10, 26, 0], 0), (15, .iconst 1, 1, [], 0), (16, .istore_n 1, 1, [], 0), (17, .iload_n 1, 1, [], 0), (18, .ifCond .eq 159, 3, [], 0), (21, .aload_n 0, 1, [], 0), (22, .invokevirtual 221, 3, [0, 180, 10, 1, 1, 0, 0], 0), (25, .ifCond .eq 152, 3, [], 0), (28, .aload_n 0, 1, [], 0), (29, .invokevirtual 221, 3, [0, 180, 10, 1, 1, 0, 0], 0), (32, .istore_n 2, 1, [], 0), (33, .iload_n 2, 1, [], 0), (34, .i2l, 1, [], 0), (35, .ldc2_w 175, 3, [], 97), (38, .ldc2_w 177, 3, [], 102), (41, .invokestatic 121, 3, [1, 151, 0, 3, 6, 0, 0], 0), (44, .ifCond .eq 11, 3, [], 0), (47, .aload_n 0, 1, [], 0), (48, .invokevirtual 239, 3, [0, 185, 10, 1, 1, 0, 0], 0), (51, .istore_n 1, 1, [], 0), (52, .goto 122, 3, [], 0), (55, .iload_n 2, 1, [], 0), (56, .bipush 33, 2, [], 0), (58, .if_icmp .ne 10, 3, [], 0), (61, .aload_n 0, 1, [], 0), (62, .invokevirtual 225, 3, [0, 181, 10, 1, 1, 0, 0], 0), (65, .goto 109, 3, [], 0), (68, .iload_n 2, 1, [], 0), (69, .bipush 91, 2, [], 0), (71, .if_icmp .ne 11, 3, [], 0), (74, .aload_n 0, 1, [], 0), (75, .invokevirtual 228, 3, [0, 183, 10, 1, 1, 0, 0], 0), (78, .istore_n 1, 1, [], 0), (79, .goto 95, 3, [], 0), (82, .iload_n 2, 1, [], 0), (83, .i2l, 1, [], 0), (84, .ldc2_w 182, 3, [], 50), (87, .ldc2_w 184, 3, [], 53), (90, .invokestatic 121, 3, [1, 151, 0, 3, 6, 0, 0], 0), (93, .ifCond .eq 32, 3, [], 0), (96, .aload_n 0, 1, [], 0), (97, .invokevirtual 225, 3, [0, 181, 10, 1, 1, 0, 0], 0), (100, .aload_n 0, 1, [], 0), (101, .invokevirtual 221, 3, [0, 180, 10, 1, 1, 0, 0], 0), (104, .bipush 123, 2, [], 0), (106, .if_icmp .ne 14, 3, [], 0), (109, .aload_n 0, 1, [], 0), (110, .invokevirtual 228, 3, [0, 183, 10, 1, 1, 0, 0], 0), (113, .ifCond .eq 7, 3, [], 0), (116, .iconst 1, 1, [], 0), (117, .goto 4, 3, [], 0), (120, .iconst 0, 1, [], 0), (121, .istore_n 1, 1, [], 0), (122, .goto 52, 3, [], 0), (125, .aload_n 0, 1, [], 0), (126, .getfield 131, 3, [10, 26, 0], 0), (129, .ifCond .le 25, 3, [], 0), (132, .iload_n 2, 1, [], 0), (133, .aload_n 0, 1, [], 0), (134, .getfield 69, 3, [10, 22, 2], 0), (137, .aload_n 0, 1, [], 0), (138, .getfield 131, 3, [10, 26, 0], 0), (141, .iconst 1, 1, [], 0), (142, .isub, 1, [], 0), (143, .iaload, 1, [], 0), (144, .invokestatic 242, 3, [1, 184, 0, 1, 1, 0, 0], 0), (147, .if_icmp .ne 7, 3, [], 0), (150, .iconst 1, 1, [], 0), (151, .goto 4, 3, [], 0), (154, .iconst 0, 1, [], 0), (155, .istore_n 1, 1, [], 0), (156, .iload_n 1, 1, [], 0), (157, .ifCond .eq 17, 3, [], 0), (160, .aload_n 0, 1, [], 0), (161, .invokevirtual 225, 3, [0, 181, 10, 1, 1, 0, 0], 0), (164, .aload_n 0, 1, [], 0), (165, .dup, 1, [], 0), (166, .getfield 131, 3, [10, 26, 0], 0), (169, .iconst 1, 1, [], 0), (170, .isub, 1, [], 0), (171, .putfield 131, 3, [10, 26, 0], 0), (174, .goto (-157), 3, [], 0), (177, .iload_n 1, 1, [], 0), (178, .ifCond .eq 14, 3, [], 0), (181, .aload_n 0, 1, [], 0), (182, .getfield 131, 3, [10, 26, 0], 0), (185, .ifCond .ne 7, 3, [], 0), (188, .iconst 1, 1, [], 0), (189, .goto 4, 3, [], 0), (192, .iconst 0, 1, [], 0), (193, .ireturn, 1, [1], 0)]
def zc187 : List (Nat × zE) := [(0, .aload_n 0, 1, [], 0), (1, .invokevirtual 115, 3, [0, 169, 10, 1, 2, 0, 0], 0), (4, .istore_n 1, 1, [], 0), (5, .iload_n 1, 1, [], 0), (6, .ifCond .eq 9, 3, [], 0), (9, .aload_n 0, 1, [], 0), (10, .invokevirtual 246, 3, [0, 175, 10, 1, 2, 0, 0], 0), (13, .iconst 1, 1, [], 0), (14, .ireturn, 1, [1], 0), (15, .aload_n 0, 1, [], 0), (16, .invokevirtual 249, 3, [0, 176, 10, 1, 2, 0, 0], 0), (19, .aload_n 0, 1, [], 0), (20, .invokevirtual 115, 3, [0, 169, 10, 1, 2, 0, 0], 0), (23, .ifCond .eq 11, 3, [], 0), (26, .iload_n 1, 1, [], 0), (27, .ifCond .eq 7, 3, [], 0), (30, .iconst 1, 1, [], 0), (31, .goto 4, 3, [], 0), (34, .iconst 0, 1, [], 0), (35, .ireturn, 1, [1], 0)]
def zc188 : List (Nat × zE) := [(0, .iload_n 1, 1, [], 0), (1, .i2l, 1, [], 0), (2, .invokestatic 192, 3, [1, 154, 0, 1, 2, 0, 0], 0), (5, .ifCond .ne 5, 3, [], 0), (8, .iconst (-1), 1, [], 0), (9, .ireturn, 1, [0], 0), (10, .aload_n 0, 1, [], 0), (11, .invokevirtual 252, 3, [0, 186, 10, 1, 3, 0, 0], 0), (14, .istore_n 2, 1, [], 0), (15, .aload_n 0, 1, [], 0), (16, .invokevirtual 221, 3, [0, 180, 10, 1, 1, 0, 0], 0), (19, .pop, 1, [], 0), (20, .bipush (-20), 2, [], 0), (22, .aload_n 0, 1, [], 0), (23, .getfield 215, 3, [10, 34, 0], 0), (26, .isub, 1, [], 0), (27, .istore_n 3, 1, [], 0), (28, .aload_n 0, 1, [], 0), (29, .iconst 0, 1, [], 0), (30, .putfield 212, 3, [10, 7, 0], 0), (33, .aload_n 0, 1, [], 0), (34, .invokevirtual 255, 3, [0, 177, 10, 1, 3, 0, 0], 0), (37, .ifCond .eq 6, 3, [], 0), (40, .bipush (-2), 2, [], 0), (42, .ireturn, 1, [0], 0), (43, .iload_n 2, 1, [], 0), (44, .ifCond .ne 5, 3, [], 0), (47, .iload_n 3, 1, [], 0), (48, .ireturn, 1, [0], 0), (49, .aload_n 0, 1, [], 0), (50, .invokevirtual 258, 3, [0, 174, 10, 1, 2, 0, 0], 0), (53, .aload_n 0, 1, [], 0), (54, .getfield 7, 3, [10, 0, 2], 0), (57, .bipush 26, 2, [], 0), (59, .bipush 61, 2, [], 0), (61, .iload_n 1, 1, [], 0), (62, .imul, 1, [], 0), (63, .iadd, 1, [], 0), (64, .aload_n 0, 1, [], 0), (65, .getfield 218, 3, [10, 36, 0], 0), (68, .iastore, 1, [], 0), (69, .iconst 0, 1, [], 0), (70, .istore 4, 2, [], 0), (72, .iload 4, 2, [], 0), (74, .bipush 60, 2, [], 0), (76, .if_icmp .ge 46, 3, [], 0), (79, .aload_n 0, 1, [], 0), (80, .getfield 7, 3, [10, 0, 2], 0), (83, .bipush 26, 2, [], 0), (85, .bipush 61, 2, [], 0), (87, .iload_n 1, 1, [], 0), (88, .imul, 1, [], 0), (89, .iadd, 1, [], 0), (90, .iconst 1, 1, [], 0), (91, .iadd, 1, [], 0), (92, .iload 4, 2, [], 0), (94, .iadd, 1, [], 0), (95, .iload 4, 2, [], 0), (97, .aload_n 0, 1, [], 0), (98, .getfield 218, 3, [10, 36, 0], 0), (101, .if_icmp .ge 13, 3, [], 0), (104, .aload_n 0, 1, [], 0), (105, .getfield 93, 3, [10, 35, 2], 0), (108, .iload 4, 2, [], 0), (110, .iaload, 1, [], 0), (111, .goto 4, 3, [], 0), (114, .iconst 0, 1, [], 0), (115, .iastore, 1, [], 0), (116, .iinc 4 1, 3, [], 0), (119, .goto (-47), 3, [], 0), (122, .aload_n 0, 1, [], 0), (123, .iload_n 1, 1, [], 0), (124, .invokevirtual 261, 3, [0, 178, 10, 2, 2, 0, 0], 0), (127, .aload_n 0, 1, [], 0), (128, .invokevirtual 264, 3, [0, 187, 10, 1, 2, 0, 0], 0), (131, .ifCond .eq 12, 3, [], 0), (134, .aload_n 0, 1, [], 0), (135, .getfield 51, 3, [10, 15, 2], 0), (138, .iload_n 1, 1, [], 0), (139, .iaload, 1, [], 0), (140, .goto 5, 3, [], 0), (143, .bipush (-3), 2, [], 0), (145, .ireturn, 1, [0], 0)]
def zc189 : List (Nat × zE) := [(0, .iload_n 1, 1, [], 0), (1, .invokestatic 267, 3, [1, 155, 0, 1, 1, 0, 0], 0), (4, .ifCond .ne 5, 3, [], 0), (7, .iconst (-1), 1, [], 0), (8, .ireturn, 1, [0], 0), (9, .aload_n 0, 1, [], 0), (10, .invokevirtual 255, 3, [0, 177, 10, 1, 3, 0, 0], 0), (13, .ifCond .eq 6, 3, [], 0), (16, .bipush (-2), 2, [], 0), (18, .ireturn, 1, [0], 0), (19, .aload_n 0, 1, [], 0), (20, .invokevirtual 258, 3, [0, 174, 10, 1, 2, 0, 0], 0), (23, .aload_n 0, 1, [], 0), (24, .getfield 7, 3, [10, 0, 2], 0), (27, .iconst 0, 1, [], 0), (28, .dup2, 1, [], 0), (29, .iaload, 1, [], 0), (30, .iconst 1, 1, [], 0), (31, .iload_n 1, 1, [], 0), (32, .ishl, 1, [], 0), (33, .ixor, 1, [], 0), (34, .iastore, 1, [], 0), (35, .iconst 0, 1, [], 0), (36, .istore_n 2, 1, [], 0), (37, .iload_n 2, 1, [], 0), (38, .iconst 4, 1, [], 0), (39, .if_icmp .ge 14, 3, [], 0), (42, .aload_n 0, 1, [], 0), (43, .iload_n 2, 1, [], 0), (44, .invokevirtual 261, 3, [0, 178, 10, 2, 2, 0, 0], 0), (47, .iinc 2 1, 3, [], 0), (50, .goto (-13), 3, [], 0), (53, .aload_n 0, 1, [], 0), (54, .invokevirtual 264, 3, [0, 187, 10, 1, 2, 0, 0], 0), (57, .ifCond .ne 8, 3, [], 0), (60, .bipush (-3), 2, [], 0), (62, .goto 21, 3, [], 0), (65, .aload_n 0, 1, [], 0), (66, .getfield 7, 3, [10, 0, 2], 0), (69, .iconst 0, 1, [], 0), (70, .iaload, 1, [], 0), (71, .iload_n 1, 1, [], 0), (72, .invokestatic 165, 3, [1, 152, 0, 2, 2, 0, 0], 0), (75, .ifCond .eq 7, 3, [], 0), (78, .iconst 1, 1, [], 0), (79, .goto 4, 3, [], 0), (82, .iconst 0, 1, [], 0), (83, .ireturn, 1, [0], 0)]
def zc190 : List (Nat × zE) := [(0, .iconst 0, 1, [], 0), (1, .istore 4, 2, [], 0), (3, .iload 4, 2, [], 0), (5, .iload_n 2, 1, [], 0), (6, .if_icmp .ge 40, 3, [], 0), (9, .aload_n 0, 1, [], 0), (10, .getfield 7, 3, [10, 0, 2], 0), (13, .iconst 4, 1, [], 0), (14, .aload_n 0, 1, [], 0), (15, .iload_n 1, 1, [], 0), (16, .iload 4, 2, [], 0), (18, .invokevirtual 199, 3, [0, 171, 10, 3, 3, 0, 0], 0), (21, .iadd, 1, [], 0), (22, .dup2, 1, [], 0), (23, .iaload, 1, [], 0), (24, .iload_n 3, 1, [], 0), (25, .aload_n 0, 1, [], 0), (26, .getfield 48, 3, [10, 14, 2], 0), (29, .bipush 30, 2, [], 0), (31, .iload_n 1, 1, [], 0), (32, .imul, 1, [], 0), (33, .iload 4, 2, [], 0), (35, .iadd, 1, [], 0), (36, .iaload, 1, [], 0), (37, .imul, 1, [], 0), (38, .iadd, 1, [], 0), (39, .iastore, 1, [], 0), (40, .iinc 4 1, 3, [], 0), (43, .goto (-40), 3, [], 0), (46, .return_, 1, [], 0)]
def zc191 : List (Nat × zE) := [(0, .iload_n 1, 1, [], 0), (1, .i2l, 1, [], 0), (2, .invokestatic 192, 3, [1, 154, 0, 1, 2, 0, 0], 0), (5, .ifCond .ne 5, 3, [], 0), (8, .iconst (-1), 1, [], 0), (9, .ireturn, 1, [0], 0), (10, .aload_n 0, 1, [], 0), (11, .invokevirtual 255, 3, [0, 177, 10, 1, 3, 0, 0], 0), (14, .ifCond .eq 6, 3, [], 0), (17, .bipush (-2), 2, [], 0), (19, .ireturn, 1, [0], 0), (20, .aload_n 0, 1, [], 0), (21, .invokevirtual 258, 3, [0, 174, 10, 1, 2, 0, 0], 0), (24, .aload_n 0, 1, [], 0), (25, .invokevirtual 246, 3, [0, 175, 10, 1, 2, 0, 0], 0), (28, .aload_n 0, 1, [], 0), (29, .iload_n 1, 1, [], 0), (30, .aload_n 0, 1, [], 0), (31, .getfield 51, 3, [10, 15, 2], 0), (34, .iload_n 1, 1, [], 0), (35, .iaload, 1, [], 0), (36, .iconst 1, 1, [], 0), (37, .invokevirtual 271, 3, [0, 190, 10, 4, 5, 0, 0], 0), (40, .aload_n 0, 1, [], 0), (41, .getfield 51, 3, [10, 15, 2], 0), (44, .iload_n 1, 1, [], 0), (45, .iaload, 1, [], 0), (46, .ireturn, 1, [0], 0)]
def zc192 : List (Nat × zE) := [(0, .iconst 0, 1, [], 0), (1, .istore 4, 2, [], 0), (3, .iconst 0, 1, [], 0), (4, .istore 5, 2, [], 0), (6, .iload 5, 2, [], 0), (8, .iload_n 2, 1, [], 0), (9, .if_icmp .ge 59, 3, [], 0), (12, .iload 4, 2, [], 0), (14, .aload_n 0, 1, [], 0), (15, .iload_n 1, 1, [], 0), (16, .iload 5, 2, [], 0), (18, .invokevirtual 199, 3, [0, 171, 10, 3, 3, 0, 0], 0), (21, .iload_n 3, 1, [], 0), (22, .if_icmp .eq 7, 3, [], 0), (25, .iconst 0, 1, [], 0), (26, .goto 33, 3, [], 0), (29, .aload_n 0, 1, [], 0), (30, .iload_n 1, 1, [], 0), (31, .iload 5, 2, [], 0), (33, .invokevirtual 196, 3, [0, 170, 10, 3, 3, 0, 0], 0), (36, .ifCond .ne 7, 3, [], 0), (39, .iconst 1, 1, [], 0), (40, .goto 19, 3, [], 0), (43, .aload_n 0, 1, [], 0), (44, .iload_n 1, 1, [], 0), (45, .iload 5, 2, [], 0), (47, .invokevirtual 196, 3, [0, 170, 10, 3, 3, 0, 0], 0), (50, .iconst 1, 1, [], 0), (51, .if_icmp .ne 7, 3, [], 0), (54, .iconst (-1), 1, [], 0), (55, .goto 4, 3, [], 0), (58, .iconst 0, 1, [], 0), (59, .iadd, 1, [], 0), (60, .istore 4, 2, [], 0), (62, .iinc 5 1, 3, [], 0), (65, .goto (-59), 3, [], 0), (68, .iload 4, 2, [], 0), (70, .ireturn, 1, [0], 0)]
def zc193 : List (Nat × zE) := [(0, .iconst 0, 1, [], 0), (1, .istore_n 3, 1, [], 0), (2, .iconst 0, 1, [], 0), (3, .istore 4, 2, [], 0), (5, .iload 4, 2, [], 0), (7, .bipush 6, 2, [], 0), (9, .if_icmp .ge 31, 3, [], 0), (12, .iload_n 3, 1, [], 0), (13, .aload_n 0, 1, [], 0), (14, .iload_n 1, 1, [], 0), (15, .iload_n 2, 1, [], 0), (16, .iload 4, 2, [], 0), (18, .invokevirtual 274, 3, [0, 192, 10, 4, 6, 0, 0], 0), (21, .ifCond .le 10, 3, [], 0), (24, .iconst 1, 1, [], 0), (25, .iload 4, 2, [], 0), (27, .ishl, 1, [], 0), (28, .goto 4, 3, [], 0), (31, .iconst 0, 1, [], 0), (32, .ior, 1, [], 0), (33, .istore_n 3, 1, [], 0), (34, .iinc 4 1, 3, [], 0), (37, .goto (-32), 3, [], 0), (40, .iload_n 3, 1, [], 0), (41, .ireturn, 1, [0], 0)]
def zc194 : List (Nat × zE) := [(0, .bipush (-4), 2, [], 0), (2, .istore_n 2, 1, [], 0), (3, .iconst 0, 1, [], 0), (4, .istore_n 3, 1, [], 0), (5, .iload_n 3, 1, [], 0), (6, .iconst 4, 1, [], 0), (7, .if_icmp .ge 30, 3, [], 0), (10, .aload_n 0, 1, [], 0), (11, .iload_n 3, 1, [], 0), (12, .aload_n 0, 1, [], 0), (13, .iload_n 3, 1, [], 0), (14, .iconst 1, 1, [], 0), (15, .invokevirtual 205, 3, [0, 156, 10, 3, 3, 0, 0], 0), (18, .iload_n 1, 1, [], 0), (19, .invokevirtual 274, 3, [0, 192, 10, 4, 6, 0, 0], 0), (22, .ifCond .le 7, 3, [], 0), (25, .iload_n 3, 1, [], 0), (26, .goto 4, 3, [], 0), (29, .iload_n 2, 1, [], 0), (30, .istore_n 2, 1, [], 0), (31, .iinc 3 1, 3, [], 0), (34, .goto (-29), 3, [], 0), (37, .iload_n 2, 1, [], 0), (38, .ireturn, 1, [0], 0)]
def zc195 : List (Nat × zE) := [(0, .aload_n 0, 1, [], 0), (1, .iload_n 1, 1, [], 0), (2, .iconst 0, 1, [], 0), (3, .invokevirtual 205, 3, [0, 156, 10, 3, 3, 0, 0], 0), (6, .iconst 2, 1, [], 0), (7, .if_icmp .ne 17, 3, [], 0), (10, .aload_n 0, 1, [], 0), (11, .iload_n 1, 1, [], 0), (12, .aload_n 0, 1, [], 0), (13, .iload_n 1, 1, [], 0), (14, .iconst 1, 1, [], 0), (15, .invokevirtual 205, 3, [0, 156, 10, 3, 3, 0, 0], 0), (18, .invokevirtual 199, 3, [0, 171, 10, 3, 3, 0, 0], 0), (21, .goto 5, 3, [], 0), (24, .bipush (-4), 2, [], 0), (26, .ireturn, 1, [0], 0)]
def zc196 : List (Nat × zE) := [(0, .aload_n 0, 1, [], 0), (1, .iload_n 1, 1, [], 0), (2, .invokevirtual 278, 3, [0, 195, 10, 2, 2, 0, 0], 0), (5, .ifCond .ge 8, 3, [], 0), (8, .bipush (-4), 2, [], 0), (10, .goto 12, 3, [], 0), (13, .aload_n 0, 1, [], 0), (14, .aload_n 0, 1, [], 0), (15, .iload_n 1, 1, [], 0), (16, .invokevirtual 278, 3, [0, 195, 10, 2, 2, 0, 0], 0), (19, .invokevirtual 281, 3, [0, 194, 10, 2, 4, 0, 0], 0), (22, .ireturn, 1, [0], 0)]
def zc197 : List (Nat × zE) := [(0, .iconst 0, 1, [], 0), (1, .istore_n 2, 1, [], 0), (2, .iload_n 1, 1, [], 0), (3, .istore_n 3, 1, [], 0), (4, .iconst 0, 1, [], 0), (5, .istore 4, 2, [], 0), (7, .iload 4, 2, [], 0), (9, .iconst 4, 1, [], 0), (10, .if_icmp .ge 32, 3, [], 0), (13, .iload_n 3, 1, [], 0), (14, .ifCond .lt 28, 3, [], 0), (17, .iload_n 2, 1, [], 0), (18, .iconst 1, 1, [], 0), (19, .iload_n 3, 1, [], 0), (20, .ishl, 1, [], 0), (21, .ior, 1, [], 0), (22, .istore_n 2, 1, [], 0), (23, .aload_n 0, 1, [], 0), (24, .iload_n 3, 1, [], 0), (25, .invokevirtual 284, 3, [0, 196, 10, 2, 2, 0, 0], 0), (28, .istore_n 3, 1, [], 0), (29, .iload_n 3, 1, [], 0), (30, .iload_n 1, 1, [], 0), (31, .if_icmp .ne 5, 3, [], 0), (34, .iload_n 2, 1, [], 0), (35, .ireturn, 1, [0], 0), (36, .iinc 4 1, 3, [], 0), (39, .goto (-32), 3, [], 0), (42, .iconst 0, 1, [], 0), (43, .ireturn, 1, [0], 0)]
def zc198 : List (Nat × zE) := [(0, .aload_n 0, 1, [], 0), (1, .getfield 7, 3, [10, 0, 2], 0), (4, .iconst 1, 1, [], 0), (5, .iaload, 1, [], 0), (6, .tableswitch 56 1 3 #[26, 34, 41], 26, [], 0), (32, .aload_n 0, 1, [], 0), (33, .iload_n 1, 1, [], 0), (34, .iconst 2, 1, [], 0), (35, .invokevirtual 205, 3, [0, 156, 10, 3, 3, 0, 0], 0), (38, .ineg, 1, [], 0), (39, .ireturn, 1, [0], 0), (40, .aload_n 0, 1, [], 0), (41, .iload_n 1, 1, [], 0), (42, .iconst 1, 1, [], 0), (43, .invokevirtual 205, 3, [0, 156, 10, 3, 3, 0, 0], 0), (46, .ireturn, 1, [0], 0), (47, .aload_n 0, 1, [], 0), (48, .iload_n 1, 1, [], 0), (49, .aload_n 0, 1, [], 0), (50, .iload_n 1, 1, [], 0), (51, .iconst 1, 1, [], 0), (52, .invokevirtual 205, 3, [0, 156, 10, 3, 3, 0, 0], 0), (55, .invokevirtual 287, 3, [0, 193, 10, 3, 5, 0, 0], 0), (58, .invokestatic 290, 3, [1, 153, 0, 1, 3, 0, 0], 0), (61, .ireturn, 1, [0], 0), (62, .iload_n 1, 1, [], 0), (63, .ineg, 1, [], 0), (64, .ireturn, 1, [0], 0)]
def zc199 : List (Nat × zE) := [(0, .bipush (-4), 2, [], 0), (2, .istore_n 2, 1, [], 0), (3, .iconst 0, 1, [], 0), (4, .istore_n 3, 1, [], 0), (5, .iload_n 3, 1, [], 0), (6, .iconst 4, 1, [], 0), (7, .if_icmp .ge 40, 3, [], 0), (10, .iload_n 1, 1, [], 0), (11, .iload_n 3, 1, [], 0), (12, .invokestatic 165, 3, [1, 152, 0, 2, 2, 0, 0], 0), (15, .ifCond .eq 26, 3, [], 0), (18, .iload_n 2, 1, [], 0), (19, .ifCond .lt 16, 3, [], 0), (22, .aload_n 0, 1, [], 0), (23, .iload_n 3, 1, [], 0), (24, .invokevirtual 293, 3, [0, 198, 10, 2, 2, 0, 0], 0), (27, .aload_n 0, 1, [], 0), (28, .iload_n 2, 1, [], 0), (29, .invokevirtual 293, 3, [0, 198, 10, 2, 2, 0, 0], 0), (32, .if_icmp .ge 7, 3, [], 0), (35, .iload_n 3, 1, [], 0), (36, .goto 4, 3, [], 0), (39, .iload_n 2, 1, [], 0), (40, .istore_n 2, 1, [], 0), (41, .iinc 3 1, 3, [], 0), (44, .goto (-39), 3, [], 0), (47, .iload_n 2, 1, [], 0), (48, .ireturn, 1, [0], 0)]
def zc200 : List (Nat × zE) := [(0, .aload_n 0, 1, [], 0), (1, .iload_n 1, 1, [], 0), (2, .aload_n 0, 1, [], 0), (3, .iload_n 1, 1, [], 0), (4, .iconst 1, 1, [], 0), (5, .invokevirtual 205, 3, [0, 156, 10, 3, 3, 0, 0], 0), (8, .iconst (-1), 1, [], 0), (9, .invokevirtual 271, 3, [0, 190, 10, 4, 5, 0, 0], 0), (12, .aload_n 0, 1, [], 0), (13, .iload_n 1, 1, [], 0), (14, .iconst 3, 1, [], 0), (15, .aload_n 0, 1, [], 0), (16, .iload_n 1, 1, [], 0), (17, .iconst 3, 1, [], 0), (18, .invokevirtual 205, 3, [0, 156, 10, 3, 3, 0, 0], 0), (21, .iconst 1, 1, [], 0), (22, .iadd, 1, [], 0), (23, .invokevirtual 111, 3, [0, 157, 10, 4, 4, 0, 0], 0), (26, .aload_n 0, 1, [], 0), (27, .iload_n 1, 1, [], 0), (28, .invokevirtual 261, 3, [0, 178, 10, 2, 2, 0, 0], 0), (31, .return_, 1, [], 0)]
def zc201 : List (Nat × zE) := [(0, .aload_n 0, 1, [], 0), (1, .iload_n 1, 1, [], 0), (2, .iconst 0, 1, [], 0), (3, .invokevirtual 205, 3, [0, 156, 10, 3, 3, 0, 0], 0), (6, .iconst 3, 1, [], 0), (7, .if_icmp .lt 7, 3, [], 0), (10, .iconst 1, 1, [], 0), (11, .goto 4, 3, [], 0), (14, .iconst 0, 1, [], 0), (15, .ireturn, 1, [1], 0)]
def zc202 : List (Nat × zE) := [(0, .aload_n 0, 1, [], 0), (1, .iload_n 1, 1, [], 0), (2, .iconst 0, 1, [], 0), (3, .invokevirtual 205, 3, [0, 156, 10, 3, 3, 0, 0], 0), (6, .ifCond .ne 25, 3, [], 0), (9, .aload_n 0, 1, [], 0), (10, .iload_n 1, 1, [], 0), (11, .iconst 2, 1, [], 0), (12, .aload_n 0, 1, [], 0), (13, .getfield 7, 3, [10, 0, 2], 0), (16, .iconst 2, 1, [], 0), (17, .iaload, 1, [], 0), (18, .invokevirtual 111, 3, [0, 157, 10, 4, 4, 0, 0], 0), (21, .aload_n 0, 1, [], 0), (22, .getfield 7, 3, [10, 0, 2], 0), (25, .iconst 2, 1, [], 0), (26, .dup2, 1, [], 0), (27, .iaload, 1, [], 0), (28, .iconst 1, 1, [], 0), (29, .iadd, 1, [], 0), (30, .iastore, 1, [], 0), (31, .aload_n 0, 1, [], 0), (32, .iload_n 1, 1, [], 0), (33, .iconst 1, 1, [], 0), (34, .invokevirtual 205, 3, [0, 156, 10, 3, 3, 0, 0], 0), (37, .istore_n 2, 1, [], 0), (38, .iload_n 2, 1, [], 0), (39, .aload_n 0, 1, [], 0), (40, .getfield 51, 3, [10, 15, 2], 0), (43, .iload_n 1, 1, [], 0), (44, .iaload, 1, [], 0), (45, .if_icmp .ge 86, 3, [], 0), (48, .aload_n 0, 1, [], 0), (49, .iload_n 1, 1, [], 0), (50, .iload_n 2, 1, [], 0), (51, .invokevirtual 196, 3, [0, 170, 10, 3, 3, 0, 0], 0), (54, .ifCond .ne 16, 3, [], 0), (57, .aload_n 0, 1, [], 0), (58, .aload_n 0, 1, [], 0), (59, .iload_n 1, 1, [], 0), (60, .iload_n 2, 1, [], 0), (61, .invokevirtual 199, 3, [0, 171, 10, 3, 3, 0, 0], 0), (64, .invokevirtual 281, 3, [0, 194, 10, 2, 4, 0, 0], 0), (67, .goto 5, 3, [], 0), (70, .bipush (-4), 2, [], 0), (72, .istore_n 3, 1, [], 0), (73, .iload_n 3, 1, [], 0), (74, .ifCond .lt 14, 3, [], 0), (77, .iload_n 3, 1, [], 0), (78, .iload_n 1, 1, [], 0), (79, .if_icmp .eq 9, 3, [], 0), (82, .aload_n 0, 1, [], 0), (83, .iload_n 1, 1, [], 0), (84, .invokevirtual 296, 3, [0, 203, 10, 2, 4, 0, 0], 0), (87, .ireturn, 1, [0], 0), (88, .aload_n 0, 1, [], 0), (89, .iload_n 1, 1, [], 0), (90, .iconst 0, 1, [], 0), (91, .iconst 1, 1, [], 0), (92, .invokevirtual 111, 3, [0, 157, 10, 4, 4, 0, 0], 0), (95, .aload_n 0, 1, [], 0), (96, .iload_n 1, 1, [], 0), (97, .iconst 1, 1, [], 0), (98, .iload_n 2, 1, [], 0), (99, .iconst 1, 1, [], 0), (100, .iadd, 1, [], 0), (101, .invokevirtual 111, 3, [0, 157, 10, 4, 4, 0, 0], 0), (104, .aload_n 0, 1, [], 0), (105, .getfield 7, 3, [10, 0, 2], 0), (108, .iconst 4, 1, [], 0), (109, .aload_n 0, 1, [], 0), (110, .iload_n 1, 1, [], 0), (111, .iload_n 2, 1, [], 0), (112, .invokevirtual 199, 3, [0, 171, 10, 3, 3, 0, 0], 0), (115, .iadd, 1, [], 0), (116, .dup2, 1, [], 0), (117, .iaload, 1, [], 0), (118, .aload_n 0, 1, [], 0), (119, .getfield 48, 3, [10, 14, 2], 0), (122, .bipush 30, 2, [], 0), (124, .iload_n 1, 1, [], 0), (125, .imul, 1, [], 0), (126, .iload_n 2, 1, [], 0), (127, .iadd, 1, [], 0), (128, .iaload, 1, [], 0), (129, .iadd, 1, [], 0), (130, .iastore, 1, [], 0), (131, .aload_n 0, 1, [], 0), (132, .iload_n 1, 1, [], 0), (133, .iconst 1, 1, [], 0), (134, .invokevirtual 205, 3, [0, 156, 10, 3, 3, 0, 0], 0), (137, .aload_n 0, 1, [], 0), (138, .getfield 51, 3, [10, 15, 2], 0), (141, .iload_n 1, 1, [], 0), (142, .iaload, 1, [], 0), (143, .if_icmp .ge 5, 3, [], 0), (146, .iconst 0, 1, [], 0), (147, .ireturn, 1, [0], 0), (148, .aload_n 0, 1, [], 0), (149, .iload_n 1, 1, [], 0), (150, .iconst 0, 1, [], 0), (151, .aload_n 0, 1, [], 0), (152, .getfield 54, 3, [10, 16, 2], 0), (155, .iload_n 1, 1, [], 0), (156, .iaload, 1, [], 0), (157, .ifCond .ne 7, 3, [], 0), (160, .iconst 3, 1, [], 0), (161, .goto 4, 3, [], 0), (164, .iconst 4, 1, [], 0), (165, .invokevirtual 111, 3, [0, 157, 10, 4, 4, 0, 0], 0), (168, .aload_n 0, 1, [], 0), (169, .getfield 54, 3, [10, 16, 2], 0), (172, .iload_n 1, 1, [], 0), (173, .iaload, 1, [], 0), (174, .ifCond .ne 7, 3, [], 0), (177, .iconst 2, 1, [], 0), (178, .goto 4, 3, [], 0), (181, .iconst 3, 1, [], 0), (182, .ireturn, 1, [0], 0)]
def zc203 : List (Nat × zE) := [(0, .aload_n 0, 1, [], 0), (1, .iload_n 1, 1, [], 0), (2, .iconst 0, 1, [], 0), (3, .iconst 2, 1, [], 0), (4, .invokevirtual 111, 3, [0, 157, 10, 4, 4, 0, 0], 0), (7, .aload_n 0, 1, [], 0), (8, .iload_n 1, 1, [], 0), (9, .invokevirtual 299, 3, [0, 197, 10, 2, 5, 0, 0], 0), (12, .istore_n 2, 1, [], 0), (13, .iload_n 2, 1, [], 0), (14, .ifCond .eq 12, 3, [], 0), (17, .aload_n 0, 1, [], 0), (18, .getfield 7, 3, [10, 0, 2], 0), (21, .iconst 1, 1, [], 0), (22, .iaload, 1, [], 0), (23, .ifCond .ne 13, 3, [], 0), (26, .iload_n 2, 1, [], 0), (27, .ifCond .ne 7, 3, [], 0), (30, .iconst 1, 1, [], 0), (31, .goto 4, 3, [], 0), (34, .iconst 4, 1, [], 0), (35, .ireturn, 1, [0], 0), (36, .aload_n 0, 1, [], 0), (37, .iload_n 2, 1, [], 0), (38, .invokevirtual 302, 3, [0, 199, 10, 2, 4, 0, 0], 0), (41, .istore_n 3, 1, [], 0), (42, .aload_n 0, 1, [], 0), (43, .iload_n 3, 1, [], 0), (44, .invokevirtual 305, 3, [0, 200, 10, 2, 2, 0, 0], 0), (47, .bipush 10, 2, [], 0), (49, .iload_n 3, 1, [], 0), (50, .iadd, 1, [], 0), (51, .ireturn, 1, [0], 0)]
def zc204 : List (Nat × zE) := [(0, .iload_n 1, 1, [], 0), (1, .i2l, 1, [], 0), (2, .invokestatic 192, 3, [1, 154, 0, 1, 2, 0, 0], 0), (5, .ifCond .ne 5, 3, [], 0), (8, .iconst (-1), 1, [], 0), (9, .ireturn, 1, [0], 0), (10, .aload_n 0, 1, [], 0), (11, .iload_n 1, 1, [], 0), (12, .invokevirtual 308, 3, [0, 201, 10, 2, 2, 0, 0], 0), (15, .ifCond .eq 6, 3, [], 0), (18, .bipush (-2), 2, [], 0), (20, .ireturn, 1, [0], 0), (21, .aload_n 0, 1, [], 0), (22, .invokevirtual 258, 3, [0, 174, 10, 1, 2, 0, 0], 0), (25, .aload_n 0, 1, [], 0), (26, .invokevirtual 246, 3, [0, 175, 10, 1, 2, 0, 0], 0), (29, .aload_n 0, 1, [], 0), (30, .iload_n 1, 1, [], 0), (31, .invokevirtual 311, 3, [0, 202, 10, 2, 4, 0, 0], 0), (34, .ireturn, 1, [0], 0)]
def zc205 : List (Nat × zE) := [(0, .aload_n 0, 1, [], 0), (1, .getfield 7, 3, [10, 0, 2], 0), (4, .iconst 3, 1, [], 0), (5, .aload_n 0, 1, [], 0), (6, .getfield 7, 3, [10, 0, 2], 0), (9, .iconst 3, 1, [], 0), (10, .iaload, 1, [], 0), (11, .i2l, 1, [], 0), (12, .ldc2_w 314, 3, [], 1103515245), (15, .lmul, 1, [], 0), (16, .ldc2_w 316, 3, [], 12345), (19, .ladd, 1, [], 0), (20, .ldc2_w 318, 3, [], 2147483647), (23, .land, 1, [], 0), (24, .l2i, 1, [], 0), (25, .iastore, 1, [], 0), (26, .aload_n 0, 1, [], 0), (27, .getfield 7, 3, [10, 0, 2], 0), (30, .iconst 3, 1, [], 0), (31, .iaload, 1, [], 0), (32, .ldc_w 320, 3, [], 65536), (35, .idiv, 1, [], 0), (36, .ireturn, 1, [0], 0)]
def zc206 : List (Nat × zE) := [(0, .iconst 0, 1, [], 0), (1, .istore_n 1, 1, [], 0), (2, .iconst 0, 1, [], 0), (3, .istore_n 2, 1, [], 0), (4, .iload_n 2, 1, [], 0), (5, .iconst 4, 1, [], 0), (6, .if_icmp .ge 27, 3, [], 0), (9, .iload_n 1, 1, [], 0), (10, .aload_n 0, 1, [], 0), (11, .iload_n 2, 1, [], 0), (12, .invokevirtual 308, 3, [0, 201, 10, 2, 2, 0, 0], 0), (15, .ifCond .eq 7, 3, [], 0), (18, .iconst 0, 1, [], 0), (19, .goto 6, 3, [], 0), (22, .iconst 1, 1, [], 0), (23, .iload_n 2, 1, [], 0), (24, .ishl, 1, [], 0), (25, .ior, 1, [], 0), (26, .istore_n 1, 1, [], 0), (27, .iinc 2 1, 3, [], 0), (30, .goto (-26), 3, [], 0), (33, .iload_n 1, 1, [], 0), (34, .ireturn, 1, [0], 0)]
def zc207 : List (Nat × zE) := [(0, .iload_n 1, 1, [], 0), (1, .istore_n 2, 1, [], 0), (2, .iconst 0, 1, [], 0), (3, .istore_n 3, 1, [], 0), (4, .iload_n 0, 1, [], 0), (5, .iload_n 3, 1, [], 0), (6, .invokestatic 165, 3, [1, 152, 0, 2, 2, 0, 0], 0), (9, .ifCond .eq 7, 3, [], 0), (12, .iload_n 2, 1, [], 0), (13, .ifCond .le 25, 3, [], 0), (16, .iload_n 2, 1, [], 0), (17, .iload_n 0, 1, [], 0), (18, .iload_n 3, 1, [], 0), (19, .invokestatic 165, 3, [1, 152, 0, 2, 2, 0, 0], 0), (22, .ifCond .eq 7, 3, [], 0), (25, .iconst 1, 1, [], 0), (26, .goto 4, 3, [], 0), (29, .iconst 0, 1, [], 0), (30, .isub, 1, [], 0), (31, .istore_n 2, 1, [], 0), (32, .iinc 3 1, 3, [], 0), (35, .goto (-31), 3, [], 0), (38, .iload_n 3, 1, [], 0), (39, .ireturn, 1, [0], 0)]
def zc208 : List (Nat × zE) := [(0, .iload_n 1, 1, [], 0), (1, .i2l, 1, [], 0), (2, .lconst 1, 1, [], 0), (3, .ldc2_w 321, 3, [], 40), (6, .invokestatic 121, 3, [1, 151, 0, 3, 6, 0, 0], 0), (9, .ifCond .ne 5, 3, [], 0), (12, .iconst (-1), 1, [], 0), (13, .ireturn, 1, [0], 0), (14, .aload_n 0, 1, [], 0), (15, .invokevirtual 258, 3, [0, 174, 10, 1, 2, 0, 0], 0), (18, .iconst 0, 1, [], 0), (19, .istore_n 2, 1, [], 0), (20, .iload_n 2, 1, [], 0), (21, .iload_n 1, 1, [], 0), (22, .if_icmp .ge 46, 3, [], 0), (25, .aload_n 0, 1, [], 0), (26, .invokevirtual 323, 3, [0, 206, 10, 1, 3, 0, 0], 0), (29, .ifCond .eq 39, 3, [], 0), (32, .aload_n 0, 1, [], 0), (33, .invokevirtual 323, 3, [0, 206, 10, 1, 3, 0, 0], 0), (36, .istore_n 3, 1, [], 0), (37, .aload_n 0, 1, [], 0), (38, .invokevirtual 326, 3, [0, 205, 10, 1, 1, 0, 0], 0), (41, .istore 4, 2, [], 0), (43, .aload_n 0, 1, [], 0), (44, .aload_n 0, 1, [], 0), (45, .iload_n 3, 1, [], 0), (46, .iload 4, 2, [], 0), (48, .iload_n 3, 1, [], 0), (49, .invokestatic 290, 3, [1, 153, 0, 1, 3, 0, 0], 0), (52, .irem, 1, [], 0), (53, .invokestatic 329, 3, [1, 207, 0, 2, 4, 0, 0], 0), (56, .invokevirtual 311, 3, [0, 202, 10, 2, 4, 0, 0], 0), (59, .putfield 332, 3, [10, 37, 0], 0), (62, .iinc 2 1, 3, [], 0), (65, .goto (-45), 3, [], 0), (68, .iload_n 2, 1, [], 0), (69, .ifCond .le 7, 3, [], 0), (72, .aload_n 0, 1, [], 0), (73, .invokevirtual 246, 3, [0, 175, 10, 1, 2, 0, 0], 0), (76, .iload_n 2, 1, [], 0), (77, .ireturn, 1, [0], 0)]
def zc209 : List (Nat × zE) := [(0, .iconst 0, 1, [], 0), (1, .istore_n 1, 1, [], 0), (2, .iconst 0, 1, [], 0), (3, .istore_n 2, 1, [], 0), (4, .iload_n 2, 1, [], 0), (5, .iconst 4, 1, [], 0), (6, .if_icmp .ge 26, 3, [], 0), (9, .iload_n 1, 1, [], 0), (10, .aload_n 0, 1, [], 0), (11, .iload_n 2, 1, [], 0), (12, .iconst 0, 1, [], 0), (13, .invokevirtual 205, 3, [0, 156, 10, 3, 3, 0, 0], 0), (16, .ifCond .eq 7, 3, [], 0), (19, .iconst 1, 1, [], 0), (20, .goto 4, 3, [], 0), (23, .iconst 0, 1, [], 0), (24, .iadd, 1, [], 0), (25, .istore_n 1, 1, [], 0), (26, .iinc 2 1, 3, [], 0), (29, .goto (-25), 3, [], 0), (32, .iload_n 1, 1, [], 0), (33, .ifCond .ne 15, 3, [], 0), (36, .aload_n 0, 1, [], 0), (37, .getfield 7, 3, [10, 0, 2], 0), (40, .iconst 2, 1, [], 0), (41, .iaload, 1, [], 0), (42, .ifCond .ne 6, 3, [], 0), (45, .bipush (-2), 2, [], 0), (47, .ireturn, 1, [0], 0), (48, .iconst 0, 1, [], 0), (49, .istore_n 2, 1, [], 0), (50, .iload_n 2, 1, [], 0), (51, .iconst 4, 1, [], 0), (52, .if_icmp .ge 41, 3, [], 0), (55, .aload_n 0, 1, [], 0), (56, .iload_n 2, 1, [], 0), (57, .invokevirtual 308, 3, [0, 201, 10, 2, 2, 0, 0], 0), (60, .ifCond .ne 15, 3, [], 0), (63, .aload_n 0, 1, [], 0), (64, .iload_n 2, 1, [], 0), (65, .aload_n 0, 1, [], 0), (66, .iload_n 2, 1, [], 0), (67, .iconst 1, 1, [], 0), (68, .invokevirtual 205, 3, [0, 156, 10, 3, 3, 0, 0], 0), (71, .iconst (-1), 1, [], 0), (72, .invokevirtual 271, 3, [0, 190, 10, 4, 5, 0, 0], 0), (75, .aload_n 0, 1, [], 0), (76, .iload_n 2, 1, [], 0), (77, .invokevirtual 261, 3, [0, 178, 10, 2, 2, 0, 0], 0), (80, .aload_n 0, 1, [], 0), (81, .iload_n 2, 1, [], 0), (82, .iconst 3, 1, [], 0), (83, .iconst 0, 1, [], 0), (84, .invokevirtual 111, 3, [0, 157, 10, 4, 4, 0, 0], 0), (87, .iinc 2 1, 3, [], 0), (90, .goto (-40), 3, [], 0), (93, .aload_n 0, 1, [], 0), (94, .getfield 7, 3, [10, 0, 2], 0), (97, .iconst 2, 1, [], 0), (98, .iconst 0, 1, [], 0), (99, .iastore, 1, [], 0), (100, .iload_n 1, 1, [], 0), (101, .ireturn, 1, [0], 0)]
def zc210 : List (Nat × zE) := [(0, .iload_n 1, 1, [], 0), (1, .i2l, 1, [], 0), (2, .lconst 0, 1, [], 0), (3, .ldc2_w 335, 3, [], 4), (6, .invokestatic 121, 3, [1, 151, 0, 3, 6, 0, 0], 0), (9, .ifCond .ne 5, 3, [], 0), (12, .iconst (-1), 1, [], 0), (13, .ireturn, 1, [0], 0), (14, .aload_n 0, 1, [], 0), (15, .getfield 7, 3, [10, 0, 2], 0), (18, .iconst 1, 1, [], 0), (19, .iaload, 1, [], 0), (20, .istore_n 2, 1, [], 0), (21, .aload_n 0, 1, [], 0), (22, .getfield 7, 3, [10, 0, 2], 0), (25, .iconst 1, 1, [], 0), (26, .iload_n 1, 1, [], 0), (27, .iastore, 1, [], 0), (28, .iload_n 2, 1, [], 0), (29, .iload_n 1, 1, [], 0), (30, .if_icmp .ne 8, 3, [], 0), (33, .bipush (-2), 2, [], 0), (35, .goto 4, 3, [], 0), (38, .iload_n 2, 1, [], 0), (39, .ireturn, 1, [0], 0)]
def zc211 : List (Nat × zE) := [(0, .aload_n 0, 1, [], 0), (1, .invokevirtual 258, 3, [0, 174, 10, 1, 2, 0, 0], 0), (4, .aload_n 0, 1, [], 0), (5, .invokevirtual 337, 3, [0, 209, 10, 1, 3, 0, 0], 0), (8, .istore_n 1, 1, [], 0), (9, .iload_n 1, 1, [], 0), (10, .ifCond .lt 7, 3, [], 0), (13, .aload_n 0, 1, [], 0), (14, .invokevirtual 246, 3, [0, 175, 10, 1, 2, 0, 0], 0), (17, .iload_n 1, 1, [], 0), (18, .ireturn, 1, [0], 0)]
def zc212 : List (Nat × zE) := [(0, .aload_n 0, 1, [], 0), (1, .invokevirtual 258, 3, [0, 174, 10, 1, 2, 0, 0], 0), (4, .aload_n 0, 1, [], 0), (5, .iload_n 1, 1, [], 0), (6, .invokevirtual 340, 3, [0, 210, 10, 2, 3, 0, 0], 0), (9, .istore_n 2, 1, [], 0), (10, .iload_n 2, 1, [], 0), (11, .ifCond .lt 7, 3, [], 0), (14, .aload_n 0, 1, [], 0), (15, .invokevirtual 246, 3, [0, 175, 10, 1, 2, 0, 0], 0), (18, .iload_n 2, 1, [], 0), (19, .ireturn, 1, [0], 0)]
def zc213 : List (Nat × zE) := [(0, .iconst 0, 1, [], 0), (1, .istore_n 2, 1, [], 0), (2, .iconst 0, 1, [], 0), (3, .istore_n 3, 1, [], 0), (4, .iload_n 3, 1, [], 0), (5, .iconst 4, 1, [], 0), (6, .if_icmp .ge 28, 3, [], 0), (9, .iload_n 2, 1, [], 0), (10, .aload_n 0, 1, [], 0), (11, .iload_n 3, 1, [], 0), (12, .invokevirtual 278, 3, [0, 195, 10, 2, 2, 0, 0], 0), (15, .iload_n 1, 1, [], 0), (16, .if_icmp .ne 9, 3, [], 0), (19, .iconst 1, 1, [], 0), (20, .iload_n 3, 1, [], 0), (21, .ishl, 1, [], 0), (22, .goto 4, 3, [], 0), (25, .iconst 0, 1, [], 0), (26, .ior, 1, [], 0), (27, .istore_n 2, 1, [], 0), (28, .iinc 3 1, 3, [], 0), (31, .goto (-27), 3, [], 0), (34, .iload_n 2, 1, [], 0), (35, .ireturn, 1, [0], 0)]
def zc214 : List (Nat × zE) := [(0, .iload_n 1, 1, [], 0), (1, .invokestatic 267, 3, [1, 155, 0, 1, 1, 0, 0], 0), (4, .ifCond .ne 5, 3, [], 0), (7, .iconst (-1), 1, [], 0), (8, .ireturn, 1, [0], 0), (9, .aload_n 0, 1, [], 0), (10, .iload_n 1, 1, [], 0), (11, .invokevirtual 281, 3, [0, 194, 10, 2, 4, 0, 0], 0), (14, .istore_n 3, 1, [], 0), (15, .iload_n 2, 1, [], 0), (16, .tableswitch 97 0 4 #[36, 49, 51, 72, 91], 36, [], 0), (52, .aload_n 0, 1, [], 0), (53, .getfield 7, 3, [10, 0, 2], 0), (56, .iconst 4, 1, [], 0), (57, .iload_n 1, 1, [], 0), (58, .iadd, 1, [], 0), (59, .iaload, 1, [], 0), (60, .ldc_w 343, 3, [], 1000000), (63, .iadd, 1, [], 0), (64, .ireturn, 1, [0], 0), (65, .iload_n 3, 1, [], 0), (66, .ireturn, 1, [0], 0), (67, .iload_n 3, 1, [], 0), (68, .ifCond .ge 7, 3, [], 0), (71, .iconst 0, 1, [], 0), (72, .goto 15, 3, [], 0), (75, .aload_n 0, 1, [], 0), (76, .iload_n 3, 1, [], 0), (77, .aload_n 0, 1, [], 0), (78, .iload_n 3, 1, [], 0), (79, .iconst 1, 1, [], 0), (80, .invokevirtual 205, 3, [0, 156, 10, 3, 3, 0, 0], 0), (83, .iload_n 1, 1, [], 0), (84, .invokevirtual 274, 3, [0, 192, 10, 4, 6, 0, 0], 0), (87, .ireturn, 1, [0], 0), (88, .aload_n 0, 1, [], 0), (89, .getfield 7, 3, [10, 0, 2], 0), (92, .iconst 0, 1, [], 0), (93, .iaload, 1, [], 0), (94, .iload_n 1, 1, [], 0), (95, .invokestatic 165, 3, [1, 152, 0, 2, 2, 0, 0], 0), (98, .ifCond .eq 7, 3, [], 0), (101, .iconst 1, 1, [], 0), (102, .goto 4, 3, [], 0), (105, .iconst 0, 1, [], 0), (106, .ireturn, 1, [0], 0), (107, .aload_n 0, 1, [], 0), (108, .iload_n 1, 1, [], 0), (109, .invokevirtual 344, 3, [0, 213, 10, 2, 4, 0, 0], 0), (112, .ireturn, 1, [0], 0), (113, .iconst (-1), 1, [], 0), (114, .ireturn, 1, [0], 0)]
def zc215 : List (Nat × zE) := [(0, .iload_n 1, 1, [], 0), (1, .i2l, 1, [], 0), (2, .invokestatic 192, 3, [1, 154, 0, 1, 2, 0, 0], 0), (5, .ifCond .ne 5, 3, [], 0), (8, .iconst (-1), 1, [], 0), (9, .ireturn, 1, [0], 0), (10, .iload_n 2, 1, [], 0), (11, .tableswitch 94 0 6 #[41, 41, 48, 60, 66, 73, 80], 41, [], 0), (52, .aload_n 0, 1, [], 0), (53, .iload_n 1, 1, [], 0), (54, .iload_n 2, 1, [], 0), (55, .invokevirtual 205, 3, [0, 156, 10, 3, 3, 0, 0], 0), (58, .ireturn, 1, [0], 0), (59, .aload_n 0, 1, [], 0), (60, .iload_n 1, 1, [], 0), (61, .aload_n 0, 1, [], 0), (62, .iload_n 1, 1, [], 0), (63, .iconst 1, 1, [], 0), (64, .invokevirtual 205, 3, [0, 156, 10, 3, 3, 0, 0], 0), (67, .invokevirtual 287, 3, [0, 193, 10, 3, 5, 0, 0], 0), (70, .ireturn, 1, [0], 0), (71, .aload_n 0, 1, [], 0), (72, .iload_n 1, 1, [], 0), (73, .invokevirtual 278, 3, [0, 195, 10, 2, 2, 0, 0], 0), (76, .ireturn, 1, [0], 0), (77, .aload_n 0, 1, [], 0), (78, .iload_n 1, 1, [], 0), (79, .iconst 2, 1, [], 0), (80, .invokevirtual 205, 3, [0, 156, 10, 3, 3, 0, 0], 0), (83, .ireturn, 1, [0], 0), (84, .aload_n 0, 1, [], 0), (85, .iload_n 1, 1, [], 0), (86, .iconst 3, 1, [], 0), (87, .invokevirtual 205, 3, [0, 156, 10, 3, 3, 0, 0], 0), (90, .ireturn, 1, [0], 0), (91, .aload_n 0, 1, [], 0), (92, .iload_n 1, 1, [], 0), (93, .invokevirtual 299, 3, [0, 197, 10, 2, 5, 0, 0], 0), (96, .ifCond .eq 7, 3, [], 0), (99, .iconst 1, 1, [], 0), (100, .goto 4, 3, [], 0), (103, .iconst 0, 1, [], 0), (104, .ireturn, 1, [0], 0), (105, .iconst (-1), 1, [], 0), (106, .ireturn, 1, [0], 0)]
def zc216 : List (Nat × zE) := [(0, .iconst 0, 1, [], 0), (1, .istore_n 2, 1, [], 0), (2, .iconst 0, 1, [], 0), (3, .istore_n 3, 1, [], 0), (4, .iload_n 3, 1, [], 0), (5, .iconst 4, 1, [], 0), (6, .if_icmp .ge 29, 3, [], 0), (9, .iload_n 2, 1, [], 0), (10, .aload_n 0, 1, [], 0), (11, .iload_n 3, 1, [], 0), (12, .iconst 0, 1, [], 0), (13, .invokevirtual 205, 3, [0, 156, 10, 3, 3, 0, 0], 0), (16, .iload_n 1, 1, [], 0), (17, .if_icmp .ne 9, 3, [], 0), (20, .iconst 1, 1, [], 0), (21, .iload_n 3, 1, [], 0), (22, .ishl, 1, [], 0), (23, .goto 4, 3, [], 0), (26, .iconst 0, 1, [], 0), (27, .ior, 1, [], 0), (28, .istore_n 2, 1, [], 0), (29, .iinc 3 1, 3, [], 0), (32, .goto (-28), 3, [], 0), (35, .iload_n 2, 1, [], 0), (36, .ireturn, 1, [0], 0)]
def zc217 : List (Nat × zE) := [(0, .iconst 0, 1, [], 0), (1, .istore_n 1, 1, [], 0), (2, .iconst 0, 1, [], 0), (3, .istore_n 2, 1, [], 0), (4, .iload_n 2, 1, [], 0), (5, .iconst 4, 1, [], 0), (6, .if_icmp .ge 27, 3, [], 0), (9, .iload_n 1, 1, [], 0), (10, .aload_n 0, 1, [], 0), (11, .iload_n 2, 1, [], 0), (12, .invokevirtual 299, 3, [0, 197, 10, 2, 5, 0, 0], 0), (15, .ifCond .eq 9, 3, [], 0), (18, .iconst 1, 1, [], 0), (19, .iload_n 2, 1, [], 0), (20, .ishl, 1, [], 0), (21, .goto 4, 3, [], 0), (24, .iconst 0, 1, [], 0), (25, .ior, 1, [], 0), (26, .istore_n 1, 1, [], 0), (27, .iinc 2 1, 3, [], 0), (30, .goto (-26), 3, [], 0), (33, .iload_n 1, 1, [], 0), (34, .ireturn, 1, [0], 0)]
def zc218 : List (Nat × zE) := [(0, .iload_n 1, 1, [], 0), (1, .tableswitch 88 0 8 #[51, 58, 58, 58, 58, 64, 69, 76, 83], 51, [], 0), (52, .aload_n 0, 1, [], 0), (53, .getfield 7, 3, [10, 0, 2], 0), (56, .iconst 1, 1, [], 0), (57, .iaload, 1, [], 0), (58, .ireturn, 1, [0], 0), (59, .aload_n 0, 1, [], 0), (60, .iload_n 1, 1, [], 0), (61, .invokevirtual 347, 3, [0, 216, 10, 2, 4, 0, 0], 0), (64, .ireturn, 1, [0], 0), (65, .aload_n 0, 1, [], 0), (66, .invokevirtual 350, 3, [0, 217, 10, 1, 3, 0, 0], 0), (69, .ireturn, 1, [0], 0), (70, .aload_n 0, 1, [], 0), (71, .getfield 7, 3, [10, 0, 2], 0), (74, .iconst 0, 1, [], 0), (75, .iaload, 1, [], 0), (76, .ireturn, 1, [0], 0), (77, .aload_n 0, 1, [], 0), (78, .getfield 7, 3, [10, 0, 2], 0), (81, .iconst 2, 1, [], 0), (82, .iaload, 1, [], 0), (83, .ireturn, 1, [0], 0), (84, .aload_n 0, 1, [], 0), (85, .getfield 202, 3, [10, 2, 0], 0), (88, .ireturn, 1, [0], 0), (89, .iconst (-1), 1, [], 0), (90, .ireturn, 1, [0], 0)]
def zc219 : List (Nat × zE) := [(0, .iconst 0, 1, [], 0), (1, .istore_n 3, 1, [], 0), (2, .iconst 0, 1, [], 0), (3, .istore 4, 2, [], 0), (5, .iload 4, 2, [], 0), (7, .iconst 4, 1, [], 0), (8, .if_icmp .ge 92, 3, [], 0), (11, .iload_n 1, 1, [], 0), (12, .iload_n 2, 1, [], 0), (13, .if_icmp .eq 87, 3, [], 0), (16, .iconst 0, 1, [], 0), (17, .istore 5, 2, [], 0), (19, .iload 5, 2, [], 0), (21, .aload_n 0, 1, [], 0), (22, .getfield 51, 3, [10, 15, 2], 0), (25, .iload 4, 2, [], 0), (27, .iaload, 1, [], 0), (28, .if_icmp .ge 66, 3, [], 0), (31, .iload_n 3, 1, [], 0), (32, .ifCond .ne 62, 3, [], 0), (35, .aload_n 0, 1, [], 0), (36, .iload 4, 2, [], 0), (38, .iload 5, 2, [], 0), (40, .invokevirtual 196, 3, [0, 170, 10, 3, 3, 0, 0], 0), (43, .ifCond .ne 43, 3, [], 0), (46, .aload_n 0, 1, [], 0), (47, .iload 4, 2, [], 0), (49, .iload 5, 2, [], 0), (51, .invokevirtual 199, 3, [0, 171, 10, 3, 3, 0, 0], 0), (54, .iload_n 2, 1, [], 0), (55, .if_icmp .ne 31, 3, [], 0), (58, .aload_n 0, 1, [], 0), (59, .iload 4, 2, [], 0), (61, .iload 5, 2, [], 0), (63, .iload_n 1, 1, [], 0), (64, .invokevirtual 274, 3, [0, 192, 10, 4, 6, 0, 0], 0), (67, .ifCond .le 19, 3, [], 0), (70, .aload_n 0, 1, [], 0), (71, .iload 4, 2, [], 0), (73, .iload 5, 2, [], 0), (75, .iload_n 2, 1, [], 0), (76, .invokevirtual 274, 3, [0, 192, 10, 4, 6, 0, 0], 0), (79, .ifCond .ne 7, 3, [], 0), (82, .iconst 1, 1, [], 0), (83, .goto 4, 3, [], 0), (86, .iconst 0, 1, [], 0), (87, .istore_n 3, 1, [], 0), (88, .iinc 5 1, 3, [], 0), (91, .goto (-72), 3, [], 0), (94, .iinc 4 1, 3, [], 0), (97, .goto (-92), 3, [], 0), (100, .iload_n 3, 1, [], 0), (101, .ireturn, 1, [1], 0)]
def zc220 : List (Nat × zE) := [(0, .iload_n 1, 1, [], 0), (1, .invokestatic 267, 3, [1, 155, 0, 1, 1, 0, 0], 0), (4, .ifCond .eq 15, 3, [], 0), (7, .iload_n 2, 1, [], 0), (8, .invokestatic 267, 3, [1, 155, 0, 1, 1, 0, 0], 0), (11, .ifCond .eq 8, 3, [], 0), (14, .iload_n 1, 1, [], 0), (15, .iload_n 2, 1, [], 0), (16, .if_icmp .ne 5, 3, [], 0), (19, .iconst (-1), 1, [], 0), (20, .ireturn, 1, [0], 0), (21, .aload_n 0, 1, [], 0), (22, .iload_n 1, 1, [], 0), (23, .iload_n 2, 1, [], 0), (24, .invokevirtual 353, 3, [0, 219, 10, 3, 6, 0, 0], 0), (27, .ifCond .eq 7, 3, [], 0), (30, .iconst 1, 1, [], 0), (31, .goto 4, 3, [], 0), (34, .iconst 0, 1, [], 0), (35, .ireturn, 1, [0], 0)]
def zc221 : List (Nat × zE) := [(0, .iconst 1, 1, [], 0), (1, .iload_n 1, 1, [], 0), (2, .ishl, 1, [], 0), (3, .istore_n 2, 1, [], 0), (4, .iconst 1, 1, [], 0), (5, .istore_n 3, 1, [], 0), (6, .iload_n 3, 1, [], 0), (7, .bipush 6, 2, [], 0), (9, .if_icmp .gt 66, 3, [], 0), (12, .iconst 0, 1, [], 0), (13, .istore 4, 2, [], 0), (15, .iconst 0, 1, [], 0), (16, .istore 5, 2, [], 0), (18, .iload 5, 2, [], 0), (20, .bipush 6, 2, [], 0), (22, .if_icmp .ge 34, 3, [], 0), (25, .iload 4, 2, [], 0), (27, .iload_n 2, 1, [], 0), (28, .iload 5, 2, [], 0), (30, .invokestatic 165, 3, [1, 152, 0, 2, 2, 0, 0], 0), (33, .ifCond .eq 13, 3, [], 0), (36, .aload_n 0, 1, [], 0), (37, .getfield 96, 3, [10, 38, 2], 0), (40, .iload 5, 2, [], 0), (42, .iaload, 1, [], 0), (43, .goto 4, 3, [], 0), (46, .iconst 0, 1, [], 0), (47, .ior, 1, [], 0), (48, .istore 4, 2, [], 0), (50, .iinc 5 1, 3, [], 0), (53, .goto (-35), 3, [], 0), (56, .iload 4, 2, [], 0), (58, .istore_n 2, 1, [], 0), (59, .iload_n 2, 1, [], 0), (60, .iload_n 1, 1, [], 0), (61, .invokestatic 165, 3, [1, 152, 0, 2, 2, 0, 0], 0), (64, .ifCond .eq 5, 3, [], 0), (67, .iload_n 3, 1, [], 0), (68, .ireturn, 1, [0], 0), (69, .iinc 3 1, 3, [], 0), (72, .goto (-66), 3, [], 0), (75, .iconst 0, 1, [], 0), (76, .ireturn, 1, [0], 0)]
def zc222 : List (Nat × zE) := [(0, .iload_n 1, 1, [], 0), (1, .i2l, 1, [], 0), (2, .lconst 0, 1, [], 0), (3, .ldc2_w 356, 3, [], 2), (6, .invokestatic 121, 3, [1, 151, 0, 3, 6, 0, 0], 0), (9, .ifCond .ne 5, 3, [], 0), (12, .iconst (-1), 1, [], 0), (13, .ireturn, 1, [0], 0), (14, .iconst 0, 1, [], 0), (15, .istore_n 2, 1, [], 0), (16, .iload_n 2, 1, [], 0), (17, .bipush 6, 2, [], 0), (19, .if_icmp .ge 55, 3, [], 0), (22, .aload_n 0, 1, [], 0), (23, .getfield 96, 3, [10, 38, 2], 0), (26, .iload_n 2, 1, [], 0), (27, .iconst 0, 1, [], 0), (28, .iastore, 1, [], 0), (29, .iconst 0, 1, [], 0), (30, .istore_n 3, 1, [], 0), (31, .iload_n 3, 1, [], 0), (32, .bipush 6, 2, [], 0), (34, .if_icmp .ge 34, 3, [], 0), (37, .aload_n 0, 1, [], 0), (38, .getfield 96, 3, [10, 38, 2], 0), (41, .iload_n 2, 1, [], 0), (42, .dup2, 1, [], 0), (43, .iaload, 1, [], 0), (44, .aload_n 0, 1, [], 0), (45, .iload_n 2, 1, [], 0), (46, .iload_n 3, 1, [], 0), (47, .invokevirtual 353, 3, [0, 219, 10, 3, 6, 0, 0], 0), (50, .ifCond .eq 9, 3, [], 0), (53, .iconst 1, 1, [], 0), (54, .iload_n 3, 1, [], 0), (55, .ishl, 1, [], 0), (56, .goto 4, 3, [], 0), (59, .iconst 0, 1, [], 0), (60, .ior, 1, [], 0), (61, .iastore, 1, [], 0), (62, .iinc 3 1, 3, [], 0), (65, .goto (-34), 3, [], 0), (68, .iinc 2 1, 3, [], 0), (71, .goto (-55), 3, [], 0), (74, .bipush (-4), 2, [], 0), (76, .istore_n 2, 1, [], 0), (77, .iconst 0, 1, [], 0), (78, .istore_n 3, 1, [], 0), (79, .iconst 0, 1, [], 0), (80, .istore 4, 2, [], 0), (82, .iload 4, 2, [], 0), (84, .bipush 6, 2, [], 0), (86, .if_icmp .ge 55, 3, [], 0), (89, .aload_n 0, 1, [], 0), (90, .iload 4, 2, [], 0), (92, .invokevirtual 358, 3, [0, 221, 10, 2, 6, 0, 0], 0), (95, .istore 5, 2, [], 0), (97, .iload_n 3, 1, [], 0), (98, .iload 5, 2, [], 0), (100, .ifCond .le 10, 3, [], 0), (103, .iconst 1, 1, [], 0), (104, .iload 4, 2, [], 0), (106, .ishl, 1, [], 0), (107, .goto 4, 3, [], 0), (110, .iconst 0, 1, [], 0), (111, .ior, 1, [], 0), (112, .istore_n 3, 1, [], 0), (113, .iload 5, 2, [], 0), (115, .ifCond .le 18, 3, [], 0), (118, .iload_n 2, 1, [], 0), (119, .ifCond .lt 9, 3, [], 0), (122, .iload 5, 2, [], 0), (124, .iload_n 2, 1, [], 0), (125, .if_icmp .ge 8, 3, [], 0), (128, .iload 5, 2, [], 0), (130, .goto 4, 3, [], 0), (133, .iload_n 2, 1, [], 0), (134, .istore_n 2, 1, [], 0), (135, .iinc 4 1, 3, [], 0), (138, .goto (-56), 3, [], 0), (141, .iload_n 1, 1, [], 0), (142, .ifCond .ne 15, 3, [], 0), (145, .iload_n 3, 1, [], 0), (146, .ifCond .eq 7, 3, [], 0), (149, .iconst 1, 1, [], 0), (150, .goto 17, 3, [], 0), (153, .iconst 0, 1, [], 0), (154, .goto 13, 3, [], 0), (157, .iload_n 1, 1, [], 0), (158, .iconst 1, 1, [], 0), (159, .if_icmp .ne 7, 3, [], 0), (162, .iload_n 2, 1, [], 0), (163, .goto 4, 3, [], 0), (166, .iload_n 3, 1, [], 0), (167, .ireturn, 1, [0], 0)]
def zc223 : List (Nat × zE) := [(0, .aload_n 0, 1, [], 0), (1, .iload_n 1, 1, [], 0), (2, .iload_n 2, 1, [], 0), (3, .invokevirtual 196, 3, [0, 170, 10, 3, 3, 0, 0], 0), (6, .ifCond .ne 20, 3, [], 0), (9, .iload_n 3, 1, [], 0), (10, .aload_n 0, 1, [], 0), (11, .iload_n 1, 1, [], 0), (12, .iload_n 2, 1, [], 0), (13, .invokevirtual 199, 3, [0, 171, 10, 3, 3, 0, 0], 0), (16, .invokestatic 165, 3, [1, 152, 0, 2, 2, 0, 0], 0), (19, .ifCond .eq 7, 3, [], 0), (22, .iconst 1, 1, [], 0), (23, .goto 4, 3, [], 0), (26, .iconst 0, 1, [], 0), (27, .ireturn, 1, [1], 0)]
def zc224 : List (Nat × zE) := [(0, .iload_n 3, 1, [], 0), (1, .aload_n 0, 1, [], 0), (2, .getfield 51, 3, [10, 15, 2], 0), (5, .iload_n 1, 1, [], 0), (6, .iaload, 1, [], 0), (7, .if_icmp .ge 23, 3, [], 0), (10, .aload_n 0, 1, [], 0), (11, .iload_n 1, 1, [], 0), (12, .iload_n 3, 1, [], 0), (13, .aload_n 0, 1, [], 0), (14, .getfield 108, 3, [10, 42, 2], 0), (17, .iload 4, 2, [], 0), (19, .iaload, 1, [], 0), (20, .invokevirtual 361, 3, [0, 223, 10, 4, 4, 0, 0], 0), (23, .ifCond .ne 7, 3, [], 0), (26, .iconst 1, 1, [], 0), (27, .goto 4, 3, [], 0), (30, .iconst 0, 1, [], 0), (31, .istore 5, 2, [], 0), (33, .iload 4, 2, [], 0), (35, .aload_n 0, 1, [], 0), (36, .getfield 51, 3, [10, 15, 2], 0), (39, .iload_n 2, 1, [], 0), (40, .iaload, 1, [], 0), (41, .if_icmp .ge 23, 3, [], 0), (44, .aload_n 0, 1, [], 0), (45, .iload_n 2, 1, [], 0), (46, .iload 4, 2, [], 0), (48, .aload_n 0, 1, [], 0), (49, .getfield 105, 3, [10, 41, 2], 0), (52, .iload_n 3, 1, [], 0), (53, .iaload, 1, [], 0), (54, .invokevirtual 361, 3, [0, 223, 10, 4, 4, 0, 0], 0), (57, .ifCond .ne 7, 3, [], 0), (60, .iconst 1, 1, [], 0), (61, .goto 4, 3, [], 0), (64, .iconst 0, 1, [], 0), (65, .istore 6, 2, [], 0), (67, .aload_n 0, 1, [], 0), (68, .getfield 99, 3, [10, 39, 2], 0), (71, .bipush 31, 2, [], 0), (73, .iload_n 3, 1, [], 0), (74, .imul, 1, [], 0), (75, .iload 4, 2, [], 0), (77, .iadd, 1, [], 0), (78, .laload, 1, [], 0), (79, .lstore 7, 2, [], 0), (81, .aload_n 0, 1, [], 0), (82, .getfield 102, 3, [10, 40, 2], 0), (85, .bipush 31, 2, [], 0), (87, .iload_n 3, 1, [], 0), (88, .imul, 1, [], 0), (89, .iload 4, 2, [], 0), (91, .iadd, 1, [], 0), (92, .laload, 1, [], 0), (93, .lstore 9, 2, [], 0), (95, .iload 5, 2, [], 0), (97, .ifCond .eq 57, 3, [], 0), (100, .aload_n 0, 1, [], 0), (101, .getfield 99, 3, [10, 39, 2], 0), (104, .bipush 31, 2, [], 0), (106, .iload_n 3, 1, [], 0), (107, .imul, 1, [], 0), (108, .bipush 31, 2, [], 0), (110, .iadd, 1, [], 0), (111, .iload 4, 2, [], 0), (113, .iadd, 1, [], 0), (114, .dup2, 1, [], 0), (115, .laload, 1, [], 0), (116, .lload 7, 2, [], 0), (118, .ladd, 1, [], 0), (119, .lastore, 1, [], 0), (120, .aload_n 0, 1, [], 0), (121, .getfield 102, 3, [10, 40, 2], 0), (124, .bipush 31, 2, [], 0), (126, .iload_n 3, 1, [], 0), (127, .imul, 1, [], 0), (128, .bipush 31, 2, [], 0), (130, .iadd, 1, [], 0), (131, .iload 4, 2, [], 0), (133, .iadd, 1, [], 0), (134, .dup2, 1, [], 0), (135, .laload, 1, [], 0), (136, .iload 6, 2, [], 0), (138, .ifCond .eq 12, 3, [], 0), (141, .lload 9, 2, [], 0), (143, .ldc2_w 356, 3, [], 2), (146, .ldiv, 1, [], 0), (147, .goto 5, 3, [], 0), (150, .lload 9, 2, [], 0), (152, .ladd, 1, [], 0), (153, .lastore, 1, [], 0), (154, .iload 6, 2, [], 0), (156, .ifCond .eq 55, 3, [], 0), (159, .aload_n 0, 1, [], 0), (160, .getfield 99, 3, [10, 39, 2], 0), (163, .bipush 31, 2, [], 0), (165, .iload_n 3, 1, [], 0), (166, .imul, 1, [], 0), (167, .iload 4, 2, [], 0), (169, .iadd, 1, [], 0), (170, .iconst 1, 1, [], 0), (171, .iadd, 1, [], 0), (172, .dup2, 1, [], 0), (173, .laload, 1, [], 0), (174, .lload 7, 2, [], 0), (176, .ladd, 1, [], 0), (177, .lastore, 1, [], 0), (178, .aload_n 0, 1, [], 0), (179, .getfield 102, 3, [10, 40, 2], 0), (182, .bipush 31, 2, [], 0), (184, .iload_n 3, 1, [], 0), (185, .imul, 1, [], 0), (186, .iload 4, 2, [], 0), (188, .iadd, 1, [], 0), (189, .iconst 1, 1, [], 0), (190, .iadd, 1, [], 0), (191, .dup2, 1, [], 0), (192, .laload, 1, [], 0), (193, .iload 5, 2, [], 0), (195, .ifCond .eq 12, 3, [], 0), (198, .lload 9, 2, [], 0), (200, .ldc2_w 356, 3, [], 2), (203, .ldiv, 1, [], 0), (204, .goto 5, 3, [], 0), (207, .lload 9, 2, [], 0), (209, .ladd, 1, [], 0), (210, .lastore, 1, [], 0), (211, .iload 5, 2, [], 0), (213, .ifCond .ne 43, 3, [], 0), (216, .iload 6, 2, [], 0), (218, .ifCond .ne 38, 3, [], 0), (221, .iload_n 3, 1, [], 0), (222, .aload_n 0, 1, [], 0), (223, .getfield 51, 3, [10, 15, 2], 0), (226, .iload_n 1, 1, [], 0), (227, .iaload, 1, [], 0), (228, .if_icmp .ne 28, 3, [], 0), (231, .iload 4, 2, [], 0), (233, .aload_n 0, 1, [], 0), (234, .getfield 51, 3, [10, 15, 2], 0), (237, .iload_n 2, 1, [], 0), (238, .iaload, 1, [], 0), (239, .if_icmp .ne 17, 3, [], 0), (242, .aload_n 0, 1, [], 0), (243, .dup, 1, [], 0), (244, .getfield 365, 3, [10, 43, 1], 0), (247, .lload 7, 2, [], 0), (249, .ladd, 1, [], 0), (250, .putfield 365, 3, [10, 43, 1], 0), (253, .goto 68, 3, [], 0), (256, .iload 5, 2, [], 0), (258, .ifCond .ne 63, 3, [], 0), (261, .iload 6, 2, [], 0), (263, .ifCond .ne 58, 3, [], 0), (266, .aload_n 0, 1, [], 0), (267, .dup, 1, [], 0), (268, .getfield 369, 3, [10, 44, 1], 0), (271, .lload 7, 2, [], 0), (273, .ladd, 1, [], 0), (274, .putfield 369, 3, [10, 44, 1], 0), (277, .aload_n 0, 1, [], 0), (278, .dup, 1, [], 0), (279, .getfield 372, 3, [10, 45, 1], 0), (282, .lload 9, 2, [], 0), (284, .ladd, 1, [], 0), (285, .putfield 372, 3, [10, 45, 1], 0), (288, .aload_n 0, 1, [], 0), (289, .aload_n 0, 1, [], 0), (290, .getfield 375, 3, [10, 46, 0], 0), (293, .ifCond .lt 14, 3, [], 0), (296, .iload_n 3, 1, [], 0), (297, .iload 4, 2, [], 0), (299, .iadd, 1, [], 0), (300, .aload_n 0, 1, [], 0), (301, .getfield 375, 3, [10, 46, 0], 0), (304, .if_icmp .ge 10, 3, [], 0), (307, .iload_n 3, 1, [], 0), (308, .iload 4, 2, [], 0), (310, .iadd, 1, [], 0), (311, .goto 7, 3, [], 0), (314, .aload_n 0, 1, [], 0), (315, .getfield 375, 3, [10, 46, 0], 0), (318, .putfield 375, 3, [10, 46, 0], 0), (321, .return_, 1, [], 0)]
def zc225 : List (Nat × zE) := [(0, .iconst 0, 1, [], 0), (1, .istore_n 3, 1, [], 0), (2, .iload_n 3, 1, [], 0), (3, .aload_n 0, 1, [], 0), (4, .getfield 51, 3, [10, 15, 2], 0), (7, .iload_n 1, 1, [], 0), (8, .iaload, 1, [], 0), (9, .if_icmp .gt 21, 3, [], 0), (12, .aload_n 0, 1, [], 0), (13, .getfield 105, 3, [10, 41, 2], 0), (16, .iload_n 3, 1, [], 0), (17, .aload_n 0, 1, [], 0), (18, .iload_n 1, 1, [], 0), (19, .iload_n 3, 1, [], 0), (20, .invokevirtual 287, 3, [0, 193, 10, 3, 5, 0, 0], 0), (23, .iastore, 1, [], 0), (24, .iinc 3 1, 3, [], 0), (27, .goto (-25), 3, [], 0), (30, .iconst 0, 1, [], 0), (31, .istore_n 3, 1, [], 0), (32, .iload_n 3, 1, [], 0), (33, .aload_n 0, 1, [], 0), (34, .getfield 51, 3, [10, 15, 2], 0), (37, .iload_n 2, 1, [], 0), (38, .iaload, 1, [], 0), (39, .if_icmp .gt 21, 3, [], 0), (42, .aload_n 0, 1, [], 0), (43, .getfield 108, 3, [10, 42, 2], 0), (46, .iload_n 3, 1, [], 0), (47, .aload_n 0, 1, [], 0), (48, .iload_n 2, 1, [], 0), (49, .iload_n 3, 1, [], 0), (50, .invokevirtual 287, 3, [0, 193, 10, 3, 5, 0, 0], 0), (53, .iastore, 1, [], 0), (54, .iinc 3 1, 3, [], 0), (57, .goto (-25), 3, [], 0), (60, .iconst 0, 1, [], 0), (61, .istore_n 3, 1, [], 0), (62, .iload_n 3, 1, [], 0), (63, .sipush 961, 3, [], 0), (66, .if_icmp .ge 23, 3, [], 0), (69, .aload_n 0, 1, [], 0), (70, .getfield 99, 3, [10, 39, 2], 0), (73, .iload_n 3, 1, [], 0), (74, .lconst 0, 1, [], 0), (75, .lastore, 1, [], 0), (76, .aload_n 0, 1, [], 0), (77, .getfield 102, 3, [10, 40, 2], 0), (80, .iload_n 3, 1, [], 0), (81, .lconst 0, 1, [], 0), (82, .lastore, 1, [], 0), (83, .iinc 3 1, 3, [], 0), (86, .goto (-24), 3, [], 0), (89, .aload_n 0, 1, [], 0), (90, .getfield 99, 3, [10, 39, 2], 0), (93, .iconst 0, 1, [], 0), (94, .lconst 1, 1, [], 0), (95, .lastore, 1, [], 0), (96, .aload_n 0, 1, [], 0), (97, .getfield 102, 3, [10, 40, 2], 0), (100, .iconst 0, 1, [], 0), (101, .ldc2_w 378, 3, [], 1152921504606846976), (104, .lastore, 1, [], 0), (105, .aload_n 0, 1, [], 0), (106, .lconst 0, 1, [], 0), (107, .putfield 365, 3, [10, 43, 1], 0), (110, .aload_n 0, 1, [], 0), (111, .lconst 0, 1, [], 0), (112, .putfield 369, 3, [10, 44, 1], 0), (115, .aload_n 0, 1, [], 0), (116, .lconst 0, 1, [], 0), (117, .putfield 372, 3, [10, 45, 1], 0), (120, .aload_n 0, 1, [], 0), (121, .bipush (-4), 2, [], 0), (123, .putfield 375, 3, [10, 46, 0], 0), (126, .iconst 0, 1, [], 0), (127, .istore_n 3, 1, [], 0), (128, .iload_n 3, 1, [], 0), (129, .aload_n 0, 1, [], 0), (130, .getfield 51, 3, [10, 15, 2], 0), (133, .iload_n 1, 1, [], 0), (134, .iaload, 1, [], 0), (135, .if_icmp .gt 55, 3, [], 0), (138, .iconst 0, 1, [], 0), (139, .istore 4, 2, [], 0), (141, .iload 4, 2, [], 0), (143, .aload_n 0, 1, [], 0), (144, .getfield 51, 3, [10, 15, 2], 0), (147, .iload_n 2, 1, [], 0), (148, .iaload, 1, [], 0), (149, .if_icmp .gt 35, 3, [], 0), (152, .aload_n 0, 1, [], 0), (153, .getfield 99, 3, [10, 39, 2], 0), (156, .bipush 31, 2, [], 0), (158, .iload_n 3, 1, [], 0), (159, .imul, 1, [], 0), (160, .iload 4, 2, [], 0), (162, .iadd, 1, [], 0), (163, .laload, 1, [], 0), (164, .lconst 0, 1, [], 0), (165, .lcmp, 1, [], 0), (166, .ifCond .le 12, 3, [], 0), (169, .aload_n 0, 1, [], 0), (170, .iload_n 1, 1, [], 0), (171, .iload_n 2, 1, [], 0), (172, .iload_n 3, 1, [], 0), (173, .iload 4, 2, [], 0), (175, .invokevirtual 380, 3, [0, 224, 10, 5, 11, 0, 0], 0), (178, .iinc 4 1, 3, [], 0), (181, .goto (-40), 3, [], 0), (184, .iinc 3 1, 3, [], 0), (187, .goto (-59), 3, [], 0), (190, .return_, 1, [], 0)]
def zc226 : List (Nat × zE) := [(0, .iload_n 0, 1, [], 0), (1, .i2l, 1, [], 0), (2, .invokestatic 192, 3, [1, 154, 0, 1, 2, 0, 0], 0), (5, .ifCond .eq 20, 3, [], 0), (8, .iload_n 1, 1, [], 0), (9, .i2l, 1, [], 0), (10, .invokestatic 192, 3, [1, 154, 0, 1, 2, 0, 0], 0), (13, .ifCond .eq 12, 3, [], 0), (16, .iload_n 0, 1, [], 0), (17, .iload_n 1, 1, [], 0), (18, .if_icmp .eq 7, 3, [], 0), (21, .iconst 1, 1, [], 0), (22, .goto 4, 3, [], 0), (25, .iconst 0, 1, [], 0), (26, .ireturn, 1, [1], 0)]
def zc227 : List (Nat × zE) := [(0, .iload_n 1, 1, [], 0), (1, .iload_n 2, 1, [], 0), (2, .invokestatic 383, 3, [1, 226, 0, 2, 2, 0, 0], 0), (5, .ifCond .eq 13, 3, [], 0), (8, .iload_n 3, 1, [], 0), (9, .i2l, 1, [], 0), (10, .lconst 0, 1, [], 0), (11, .lconst 1, 1, [], 0), (12, .invokestatic 121, 3, [1, 151, 0, 3, 6, 0, 0], 0), (15, .ifCond .ne 7, 3, [], 0), (18, .ldc2_w 386, 3, [], (-1)), (21, .lreturn, 1, [], 0), (22, .aload_n 0, 1, [], 0), (23, .iload_n 1, 1, [], 0), (24, .iload_n 2, 1, [], 0), (25, .invokevirtual 388, 3, [0, 225, 10, 3, 5, 0, 0], 0), (28, .iload_n 3, 1, [], 0), (29, .ifCond .ne 10, 3, [], 0), (32, .aload_n 0, 1, [], 0), (33, .getfield 365, 3, [10, 43, 1], 0), (36, .goto 7, 3, [], 0), (39, .aload_n 0, 1, [], 0), (40, .getfield 369, 3, [10, 44, 1], 0), (43, .lreturn, 1, [], 0)]
def zc228 : List (Nat × zE) := [(0, .iload_n 1, 1, [], 0), (1, .iload_n 2, 1, [], 0), (2, .invokestatic 383, 3, [1, 226, 0, 2, 2, 0, 0], 0), (5, .ifCond .eq 13, 3, [], 0), (8, .iload_n 3, 1, [], 0), (9, .i2l, 1, [], 0), (10, .lconst 0, 1, [], 0), (11, .lconst 1, 1, [], 0), (12, .invokestatic 121, 3, [1, 151, 0, 3, 6, 0, 0], 0), (15, .ifCond .ne 7, 3, [], 0), (18, .ldc2_w 386, 3, [], (-1)), (21, .lreturn, 1, [], 0), (22, .aload_n 0, 1, [], 0), (23, .iload_n 1, 1, [], 0), (24, .iload_n 2, 1, [], 0), (25, .invokevirtual 388, 3, [0, 225, 10, 3, 5, 0, 0], 0), (28, .aload_n 0, 1, [], 0), (29, .getfield 372, 3, [10, 45, 1], 0), (32, .lstore 4, 2, [], 0), (34, .ldc2_w 378, 3, [], 1152921504606846976), (37, .lstore 6, 2, [], 0), (39, .lload 6, 2, [], 0), (41, .lconst 1, 1, [], 0), (42, .lcmp, 1, [], 0), (43, .ifCond .le 33, 3, [], 0), (46, .lload 4, 2, [], 0), (48, .ldc2_w 356, 3, [], 2), (51, .lrem, 1, [], 0), (52, .lconst 0, 1, [], 0), (53, .lcmp, 1, [], 0), (54, .ifCond .ne 22, 3, [], 0), (57, .lload 4, 2, [], 0), (59, .ldc2_w 356, 3, [], 2), (62, .ldiv, 1, [], 0), (63, .lstore 4, 2, [], 0), (65, .lload 6, 2, [], 0), (67, .ldc2_w 356, 3, [], 2), (70, .ldiv, 1, [], 0), (71, .lstore 6, 2, [], 0), (73, .goto (-34), 3, [], 0), (76, .iload_n 3, 1, [], 0), (77, .ifCond .ne 8, 3, [], 0), (80, .lload 4, 2, [], 0), (82, .goto 5, 3, [], 0), (85, .lload 6, 2, [], 0), (87, .lreturn, 1, [], 0)]
def zc229 : List (Nat × zE) := [(0, .iload_n 1, 1, [], 0), (1, .iload_n 2, 1, [], 0), (2, .invokestatic 383, 3, [1, 226, 0, 2, 2, 0, 0], 0), (5, .ifCond .ne 5, 3, [], 0), (8, .iconst (-1), 1, [], 0), (9, .ireturn, 1, [0], 0), (10, .aload_n 0, 1, [], 0), (11, .iload_n 1, 1, [], 0), (12, .iload_n 2, 1, [], 0), (13, .invokevirtual 388, 3, [0, 225, 10, 3, 5, 0, 0], 0), (16, .aload_n 0, 1, [], 0), (17, .getfield 375, 3, [10, 46, 0], 0), (20, .ireturn, 1, [0], 0)]
def zc230 : List (Nat × zE) := [(0, .iload_n 1, 1, [], 0), (1, .i2l, 1, [], 0), (2, .lconst 1, 1, [], 0), (3, .ldc2_w 321, 3, [], 40), (6, .invokestatic 121, 3, [1, 151, 0, 3, 6, 0, 0], 0), (9, .ifCond .ne 5, 3, [], 0), (12, .iconst (-1), 1, [], 0), (13, .ireturn, 1, [0], 0), (14, .iconst 0, 1, [], 0), (15, .istore_n 2, 1, [], 0), (16, .iload_n 2, 1, [], 0), (17, .iload_n 1, 1, [], 0), (18, .if_icmp .ge 94, 3, [], 0), (21, .aload_n 0, 1, [], 0), (22, .invokevirtual 258, 3, [0, 174, 10, 1, 2, 0, 0], 0), (25, .aload_n 0, 1, [], 0), (26, .invokevirtual 246, 3, [0, 175, 10, 1, 2, 0, 0], 0), (29, .aload_n 0, 1, [], 0), (30, .invokevirtual 326, 3, [0, 205, 10, 1, 1, 0, 0], 0), (33, .istore_n 3, 1, [], 0), (34, .iload_n 3, 1, [], 0), (35, .bipush 8, 2, [], 0), (37, .irem, 1, [], 0), (38, .istore 4, 2, [], 0), (40, .iload_n 3, 1, [], 0), (41, .bipush 8, 2, [], 0), (43, .idiv, 1, [], 0), (44, .iconst 4, 1, [], 0), (45, .irem, 1, [], 0), (46, .istore 5, 2, [], 0), (48, .aload_n 0, 1, [], 0), (49, .iload 4, 2, [], 0), (51, .bipush 6, 2, [], 0), (53, .if_icmp .ne 10, 3, [], 0), (56, .aload_n 0, 1, [], 0), (57, .invokevirtual 337, 3, [0, 209, 10, 1, 3, 0, 0], 0), (60, .goto 43, 3, [], 0), (63, .iload 4, 2, [], 0), (65, .bipush 7, 2, [], 0), (67, .if_icmp .ne 16, 3, [], 0), (70, .aload_n 0, 1, [], 0), (71, .iload_n 3, 1, [], 0), (72, .bipush 8, 2, [], 0), (74, .idiv, 1, [], 0), (75, .iconst 5, 1, [], 0), (76, .irem, 1, [], 0), (77, .invokevirtual 340, 3, [0, 210, 10, 2, 3, 0, 0], 0), (80, .goto 23, 3, [], 0), (83, .aload_n 0, 1, [], 0), (84, .iload 5, 2, [], 0), (86, .invokevirtual 308, 3, [0, 201, 10, 2, 2, 0, 0], 0), (89, .ifCond .eq 8, 3, [], 0), (92, .bipush (-2), 2, [], 0), (94, .goto 9, 3, [], 0), (97, .aload_n 0, 1, [], 0), (98, .iload 5, 2, [], 0), (100, .invokevirtual 311, 3, [0, 202, 10, 2, 4, 0, 0], 0), (103, .putfield 332, 3, [10, 37, 0], 0), (106, .iinc 2 1, 3, [], 0), (109, .goto (-93), 3, [], 0), (112, .aload_n 0, 1, [], 0), (113, .iconst 0, 1, [], 0), (114, .invokevirtual 347, 3, [0, 216, 10, 2, 4, 0, 0], 0), (117, .ireturn, 1, [0], 0)]
def zc231 : List (Nat × zE) := [(0, .aload_n 0, 1, [], 0), (1, .getfield 202, 3, [10, 2, 0], 0), (4, .ifCond .ne 6, 3, [], 0), (7, .bipush (-4), 2, [], 0), (9, .ireturn, 1, [0], 0), (10, .aload_n 0, 1, [], 0), (11, .dup, 1, [], 0), (12, .getfield 202, 3, [10, 2, 0], 0), (15, .iconst 1, 1, [], 0), (16, .isub, 1, [], 0), (17, .putfield 202, 3, [10, 2, 0], 0), (20, .iconst 0, 1, [], 0), (21, .istore_n 1, 1, [], 0), (22, .iload_n 1, 1, [], 0), (23, .sipush 270, 3, [], 0), (26, .if_icmp .ge 30, 3, [], 0), (29, .aload_n 0, 1, [], 0), (30, .getfield 7, 3, [10, 0, 2], 0), (33, .iload_n 1, 1, [], 0), (34, .aload_n 0, 1, [], 0), (35, .getfield 13, 3, [10, 1, 2], 0), (38, .sipush 270, 3, [], 0), (41, .aload_n 0, 1, [], 0), (42, .getfield 202, 3, [10, 2, 0], 0), (45, .imul, 1, [], 0), (46, .iload_n 1, 1, [], 0), (47, .iadd, 1, [], 0), (48, .iaload, 1, [], 0), (49, .iastore, 1, [], 0), (50, .iinc 1 1, 3, [], 0), (53, .goto (-31), 3, [], 0), (56, .aload_n 0, 1, [], 0), (57, .invokevirtual 115, 3, [0, 169, 10, 1, 2, 0, 0], 0), (60, .ifCond .eq 10, 3, [], 0), (63, .aload_n 0, 1, [], 0), (64, .getfield 202, 3, [10, 2, 0], 0), (67, .goto 4, 3, [], 0), (70, .iconst (-1), 1, [], 0), (71, .ireturn, 1, [0], 0)]
def zc232 : List (Nat × zE) := [(0, .iload_n 1, 1, [], 0), (1, .ifCond .ge 5, 3, [], 0), (4, .iconst (-1), 1, [], 0), (5, .ireturn, 1, [0], 0), (6, .aload_n 0, 1, [], 0), (7, .getfield 7, 3, [10, 0, 2], 0), (10, .iconst 3, 1, [], 0), (11, .iaload, 1, [], 0), (12, .istore_n 2, 1, [], 0), (13, .aload_n 0, 1, [], 0), (14, .getfield 7, 3, [10, 0, 2], 0), (17, .iconst 3, 1, [], 0), (18, .iload_n 1, 1, [], 0), (19, .iastore, 1, [], 0), (20, .iload_n 2, 1, [], 0), (21, .ireturn, 1, [0], 0)]
def zc233 : List (Nat × zE) := [(0, .iconst 0, 1, [], 0), (1, .istore_n 1, 1, [], 0), (2, .iload_n 1, 1, [], 0), (3, .sipush 270, 3, [], 0), (6, .if_icmp .ge 21, 3, [], 0), (9, .aload_n 0, 1, [], 0), (10, .getfield 16, 3, [10, 3, 2], 0), (13, .iload_n 1, 1, [], 0), (14, .aload_n 0, 1, [], 0), (15, .getfield 7, 3, [10, 0, 2], 0), (18, .iload_n 1, 1, [], 0), (19, .iaload, 1, [], 0), (20, .iastore, 1, [], 0), (21, .iinc 1 1, 3, [], 0), (24, .goto (-22), 3, [], 0), (27, .iconst 0, 1, [], 0), (28, .istore_n 1, 1, [], 0), (29, .iload_n 1, 1, [], 0), (30, .sipush 1620, 3, [], 0), (33, .if_icmp .ge 21, 3, [], 0), (36, .aload_n 0, 1, [], 0), (37, .getfield 19, 3, [10, 4, 2], 0), (40, .iload_n 1, 1, [], 0), (41, .aload_n 0, 1, [], 0), (42, .getfield 13, 3, [10, 1, 2], 0), (45, .iload_n 1, 1, [], 0), (46, .iaload, 1, [], 0), (47, .iastore, 1, [], 0), (48, .iinc 1 1, 3, [], 0), (51, .goto (-22), 3, [], 0), (54, .aload_n 0, 1, [], 0), (55, .aload_n 0, 1, [], 0), (56, .getfield 202, 3, [10, 2, 0], 0), (59, .putfield 22, 3, [10, 5, 0], 0), (62, .iconst 1, 1, [], 0), (63, .ireturn, 1, [0], 0)]
def zc234 : List (Nat × zE) := [(0, .aload_n 0, 1, [], 0), (1, .getfield 22, 3, [10, 5, 0], 0), (4, .ifCond .ge 6, 3, [], 0), (7, .bipush (-4), 2, [], 0), (9, .ireturn, 1, [0], 0), (10, .iconst 0, 1, [], 0), (11, .istore_n 1, 1, [], 0), (12, .iload_n 1, 1, [], 0), (13, .sipush 270, 3, [], 0), (16, .if_icmp .ge 21, 3, [], 0), (19, .aload_n 0, 1, [], 0), (20, .getfield 7, 3, [10, 0, 2], 0), (23, .iload_n 1, 1, [], 0), (24, .aload_n 0, 1, [], 0), (25, .getfield 16, 3, [10, 3, 2], 0), (28, .iload_n 1, 1, [], 0), (29, .iaload, 1, [], 0), (30, .iastore, 1, [], 0), (31, .iinc 1 1, 3, [], 0), (34, .goto (-22), 3, [], 0), (37, .iconst 0, 1, [], 0), (38, .istore_n 1, 1, [], 0), (39, .iload_n 1, 1, [], 0), (40, .sipush 1620, 3, [], 0), (43, .if_icmp .ge 21, 3, [], 0), (46, .aload_n 0, 1, [], 0), (47, .getfield 13, 3, [10, 1, 2], 0), (50, .iload_n 1, 1, [], 0), (51, .aload_n 0, 1, [], 0), (52, .getfield 19, 3, [10, 4, 2], 0), (55, .iload_n 1, 1, [], 0), (56, .iaload, 1, [], 0), (57, .iastore, 1, [], 0), (58, .iinc 1 1, 3, [], 0), (61, .goto (-22), 3, [], 0), (64, .aload_n 0, 1, [], 0), (65, .aload_n 0, 1, [], 0), (66, .getfield 22, 3, [10, 5, 0], 0), (69, .putfield 202, 3, [10, 2, 0], 0), (72, .aload_n 0, 1, [], 0), (73, .invokevirtual 115, 3, [0, 169, 10, 1, 2, 0, 0], 0), (76, .ifCond .eq 7, 3, [], 0), (79, .iconst 1, 1, [], 0), (80, .goto 4, 3, [], 0), (83, .iconst (-1), 1, [], 0), (84, .ireturn, 1, [0], 0)]
def zc235 : List (Nat × zE) := [(0, .iload_n 0, 1, [], 0), (1, .i2l, 1, [], 0), (2, .lconst 0, 1, [], 0), (3, .ldc2_w 119, 3, [], 3), (6, .invokestatic 121, 3, [1, 151, 0, 3, 6, 0, 0], 0), (9, .ireturn, 1, [1], 0)]
def zc236 : List (Nat × zE) := [(0, .iload_n 0, 1, [], 0), (1, .ifCond .ne 10, 3, [], 0), (4, .lload_n 1, 1, [], 0), (5, .l2i, 1, [], 0), (6, .i2b, 1, [], 0), (7, .i2l, 1, [], 0), (8, .goto 27, 3, [], 0), (11, .iload_n 0, 1, [], 0), (12, .iconst 1, 1, [], 0), (13, .if_icmp .ne 10, 3, [], 0), (16, .lload_n 1, 1, [], 0), (17, .l2i, 1, [], 0), (18, .i2s, 1, [], 0), (19, .i2l, 1, [], 0), (20, .goto 15, 3, [], 0), (23, .iload_n 0, 1, [], 0), (24, .iconst 2, 1, [], 0), (25, .if_icmp .ne 9, 3, [], 0), (28, .lload_n 1, 1, [], 0), (29, .l2i, 1, [], 0), (30, .i2l, 1, [], 0), (31, .goto 4, 3, [], 0), (34, .lload_n 1, 1, [], 0), (35, .lreturn, 1, [], 0)]
def zc237 : List (Nat × zE) := [(0, .aload_n 0, 1, [], 0), (1, .getfield 29, 3, [10, 8, 2], 0), (4, .iload_n 1, 1, [], 0), (5, .iaload, 1, [], 0), (6, .ifCond .ge 6, 3, [], 0), (9, .bipush (-11), 2, [], 0), (11, .ireturn, 1, [0], 0), (12, .aload_n 0, 1, [], 0), (13, .getfield 29, 3, [10, 8, 2], 0), (16, .iload_n 1, 1, [], 0), (17, .iaload, 1, [], 0), (18, .iload_n 2, 1, [], 0), (19, .if_icmp .eq 6, 3, [], 0), (22, .bipush (-12), 2, [], 0), (24, .ireturn, 1, [0], 0), (25, .iload_n 3, 1, [], 0), (26, .ifCond .lt 16, 3, [], 0), (29, .iload 4, 2, [], 0), (31, .aload_n 0, 1, [], 0), (32, .getfield 32, 3, [10, 9, 2], 0), (35, .iload_n 1, 1, [], 0), (36, .iaload, 1, [], 0), (37, .iload_n 3, 1, [], 0), (38, .isub, 1, [], 0), (39, .if_icmp .le 8, 3, [], 0), (42, .bipush (-13), 2, [], 0), (44, .goto 4, 3, [], 0), (47, .iconst 0, 1, [], 0), (48, .ireturn, 1, [0], 0)]
def zc238 : List (Nat × zE) := [(0, .iload_n 1, 1, [], 0), (1, .invokestatic 391, 3, [1, 235, 0, 1, 1, 0, 0], 0), (4, .ifCond .eq 28, 3, [], 0), (7, .iload_n 2, 1, [], 0), (8, .i2l, 1, [], 0), (9, .lconst 0, 1, [], 0), (10, .ldc2_w 119, 3, [], 3), (13, .invokestatic 121, 3, [1, 151, 0, 3, 6, 0, 0], 0), (16, .ifCond .eq 16, 3, [], 0), (19, .iload 4, 2, [], 0), (21, .i2l, 1, [], 0), (22, .lconst 1, 1, [], 0), (23, .ldc2_w 394, 3, [], 24), (26, .invokestatic 121, 3, [1, 151, 0, 3, 6, 0, 0], 0), (29, .ifCond .ne 5, 3, [], 0), (32, .iconst (-1), 1, [], 0), (33, .ireturn, 1, [0], 0), (34, .aload_n 0, 1, [], 0), (35, .iload_n 1, 1, [], 0), (36, .iload_n 2, 1, [], 0), (37, .iload_n 3, 1, [], 0), (38, .iload 4, 2, [], 0), (40, .invokevirtual 396, 3, [0, 237, 10, 5, 5, 0, 0], 0), (43, .istore 5, 2, [], 0), (45, .iload 5, 2, [], 0), (47, .ifCond .ge 6, 3, [], 0), (50, .iload 5, 2, [], 0), (52, .ireturn, 1, [0], 0), (53, .iconst 0, 1, [], 0), (54, .istore 6, 2, [], 0), (56, .iload 6, 2, [], 0), (58, .iload 4, 2, [], 0), (60, .if_icmp .ge 32, 3, [], 0), (63, .aload_n 0, 1, [], 0), (64, .getfield 35, 3, [10, 10, 2], 0), (67, .bipush 24, 2, [], 0), (69, .iload_n 1, 1, [], 0), (70, .imul, 1, [], 0), (71, .iload_n 3, 1, [], 0), (72, .iadd, 1, [], 0), (73, .iload 6, 2, [], 0), (75, .iadd, 1, [], 0), (76, .laload, 1, [], 0), (77, .invokestatic 192, 3, [1, 154, 0, 1, 2, 0, 0], 0), (80, .ifCond .ne 6, 3, [], 0), (83, .bipush (-2), 2, [], 0), (85, .ireturn, 1, [0], 0), (86, .iinc 6 1, 3, [], 0), (89, .goto (-33), 3, [], 0), (92, .aload_n 0, 1, [], 0), (93, .invokevirtual 258, 3, [0, 174, 10, 1, 2, 0, 0], 0), (96, .iconst 0, 1, [], 0), (97, .istore 6, 2, [], 0), (99, .iconst 1, 1, [], 0), (100, .istore 7, 2, [], 0), (102, .iconst 0, 1, [], 0), (103, .istore 8, 2, [], 0), (105, .iload 8, 2, [], 0), (107, .iload 4, 2, [], 0), (109, .if_icmp .ge 95, 3, [], 0), (112, .iload 7, 2, [], 0), (114, .ifCond .eq 90, 3, [], 0), (117, .aload_n 0, 1, [], 0), (118, .getfield 35, 3, [10, 10, 2], 0), (121, .bipush 24, 2, [], 0), (123, .iload_n 1, 1, [], 0), (124, .imul, 1, [], 0), (125, .iload_n 3, 1, [], 0), (126, .iadd, 1, [], 0), (127, .iload 8, 2, [], 0), (129, .iadd, 1, [], 0), (130, .laload, 1, [], 0), (131, .l2i, 1, [], 0), (132, .istore 9, 2, [], 0), (134, .aload_n 0, 1, [], 0), (135, .iload 9, 2, [], 0), (137, .invokevirtual 308, 3, [0, 201, 10, 2, 2, 0, 0], 0), (140, .ifCond .ne 7, 3, [], 0), (143, .iconst 1, 1, [], 0), (144, .goto 4, 3, [], 0), (147, .iconst 0, 1, [], 0), (148, .istore 7, 2, [], 0), (150, .iload 7, 2, [], 0), (152, .ifCond .eq 31, 3, [], 0), (155, .aload_n 0, 1, [], 0), (156, .aload_n 0, 1, [], 0), (157, .iload 9, 2, [], 0), (159, .invokevirtual 311, 3, [0, 202, 10, 2, 4, 0, 0], 0), (162, .putfield 332, 3, [10, 37, 0], 0), (165, .aload_n 0, 1, [], 0), (166, .iload 9, 2, [], 0), (168, .iconst 0, 1, [], 0), (169, .invokevirtual 205, 3, [0, 156, 10, 3, 3, 0, 0], 0), (172, .iconst 2, 1, [], 0), (173, .if_icmp .eq 7, 3, [], 0), (176, .iconst 1, 1, [], 0), (177, .goto 4, 3, [], 0), (180, .iconst 0, 1, [], 0), (181, .istore 7, 2, [], 0), (183, .iload 6, 2, [], 0), (185, .iload 7, 2, [], 0), (187, .ifCond .eq 7, 3, [], 0), (190, .iconst 1, 1, [], 0), (191, .goto 4, 3, [], 0), (194, .iconst 0, 1, [], 0), (195, .iadd, 1, [], 0), (196, .istore 6, 2, [], 0), (198, .iinc 8 1, 3, [], 0), (201, .goto (-96), 3, [], 0), (204, .aload_n 0, 1, [], 0), (205, .invokevirtual 249, 3, [0, 176, 10, 1, 2, 0, 0], 0), (208, .iload 6, 2, [], 0), (210, .ireturn, 1, [0], 0)]
def zc239 : List (Nat × zE) := [(0, .iload_n 1, 1, [], 0), (1, .invokestatic 391, 3, [1, 235, 0, 1, 1, 0, 0], 0), (4, .ifCond .eq 15, 3, [], 0), (7, .iload_n 2, 1, [], 0), (8, .i2l, 1, [], 0), (9, .lconst 0, 1, [], 0), (10, .ldc2_w 119, 3, [], 3), (13, .invokestatic 121, 3, [1, 151, 0, 3, 6, 0, 0], 0), (16, .ifCond .ne 5, 3, [], 0), (19, .iconst (-1), 1, [], 0), (20, .ireturn, 1, [0], 0), (21, .aload_n 0, 1, [], 0), (22, .iload_n 1, 1, [], 0), (23, .iload_n 2, 1, [], 0), (24, .iload_n 3, 1, [], 0), (25, .iconst 4, 1, [], 0), (26, .invokevirtual 396, 3, [0, 237, 10, 5, 5, 0, 0], 0), (29, .istore 4, 2, [], 0), (31, .iload 4, 2, [], 0), (33, .ifCond .ge 6, 3, [], 0), (36, .iload 4, 2, [], 0), (38, .ireturn, 1, [0], 0), (39, .iconst 0, 1, [], 0), (40, .istore 5, 2, [], 0), (42, .iload 5, 2, [], 0), (44, .iconst 4, 1, [], 0), (45, .if_icmp .ge 35, 3, [], 0), (48, .aload_n 0, 1, [], 0), (49, .getfield 35, 3, [10, 10, 2], 0), (52, .bipush 24, 2, [], 0), (54, .iload_n 1, 1, [], 0), (55, .imul, 1, [], 0), (56, .iload_n 3, 1, [], 0), (57, .iadd, 1, [], 0), (58, .iload 5, 2, [], 0), (60, .iadd, 1, [], 0), (61, .iload_n 2, 1, [], 0), (62, .aload_n 0, 1, [], 0), (63, .iload 5, 2, [], 0), (65, .iconst 1, 1, [], 0), (66, .invokevirtual 205, 3, [0, 156, 10, 3, 3, 0, 0], 0), (69, .i2l, 1, [], 0), (70, .invokestatic 400, 3, [1, 236, 0, 2, 3, 0, 0], 0), (73, .lastore, 1, [], 0), (74, .iinc 5 1, 3, [], 0), (77, .goto (-35), 3, [], 0), (80, .iconst 4, 1, [], 0), (81, .ireturn, 1, [0], 0)]
def zc240 : List (Nat × zE) := [(0, .iload_n 1, 1, [], 0), (1, .invokestatic 391, 3, [1, 235, 0, 1, 1, 0, 0], 0), (4, .ifCond .eq 21, 3, [], 0), (7, .iload_n 2, 1, [], 0), (8, .i2l, 1, [], 0), (9, .lconst 0, 1, [], 0), (10, .ldc2_w 119, 3, [], 3), (13, .invokestatic 121, 3, [1, 151, 0, 3, 6, 0, 0], 0), (16, .ifCond .eq 9, 3, [], 0), (19, .iload_n 3, 1, [], 0), (20, .bipush 24, 2, [], 0), (22, .if_icmp .le 5, 3, [], 0), (25, .iconst (-1), 1, [], 0), (26, .ireturn, 1, [0], 0), (27, .iload_n 3, 1, [], 0), (28, .ifCond .ge 6, 3, [], 0), (31, .bipush (-14), 2, [], 0), (33, .ireturn, 1, [0], 0), (34, .aload_n 0, 1, [], 0), (35, .getfield 29, 3, [10, 8, 2], 0), (38, .iload_n 1, 1, [], 0), (39, .iload_n 2, 1, [], 0), (40, .iastore, 1, [], 0), (41, .aload_n 0, 1, [], 0), (42, .getfield 32, 3, [10, 9, 2], 0), (45, .iload_n 1, 1, [], 0), (46, .iload_n 3, 1, [], 0), (47, .iastore, 1, [], 0), (48, .iconst 0, 1, [], 0), (49, .istore 4, 2, [], 0), (51, .iload 4, 2, [], 0), (53, .bipush 24, 2, [], 0), (55, .if_icmp .ge 22, 3, [], 0), (58, .aload_n 0, 1, [], 0), (59, .getfield 35, 3, [10, 10, 2], 0), (62, .bipush 24, 2, [], 0), (64, .iload_n 1, 1, [], 0), (65, .imul, 1, [], 0), (66, .iload 4, 2, [], 0), (68, .iadd, 1, [], 0), (69, .lconst 0, 1, [], 0), (70, .lastore, 1, [], 0), (71, .iinc 4 1, 3, [], 0), (74, .goto (-23), 3, [], 0), (77, .iload_n 3, 1, [], 0), (78, .ireturn, 1, [0], 0)]
def zc241 : List (Nat × zE) := [(0, .iload_n 1, 1, [], 0), (1, .invokestatic 391, 3, [1, 235, 0, 1, 1, 0, 0], 0), (4, .ifCond .ne 5, 3, [], 0), (7, .iconst (-1), 1, [], 0), (8, .ireturn, 1, [0], 0), (9, .aload_n 0, 1, [], 0), (10, .getfield 29, 3, [10, 8, 2], 0), (13, .iload_n 1, 1, [], 0), (14, .iaload, 1, [], 0), (15, .ifCond .ge 6, 3, [], 0), (18, .bipush (-11), 2, [], 0), (20, .ireturn, 1, [0], 0), (21, .aload_n 0, 1, [], 0), (22, .getfield 29, 3, [10, 8, 2], 0), (25, .iload_n 1, 1, [], 0), (26, .iconst (-1), 1, [], 0), (27, .iastore, 1, [], 0), (28, .aload_n 0, 1, [], 0), (29, .getfield 32, 3, [10, 9, 2], 0), (32, .iload_n 1, 1, [], 0), (33, .iaload, 1, [], 0), (34, .ireturn, 1, [0], 0)]
def zc242 : List (Nat × zE) := [(0, .iload_n 1, 1, [], 0), (1, .invokestatic 391, 3, [1, 235, 0, 1, 1, 0, 0], 0), (4, .ifCond .eq 15, 3, [], 0), (7, .iload_n 2, 1, [], 0), (8, .i2l, 1, [], 0), (9, .lconst 0, 1, [], 0), (10, .ldc2_w 119, 3, [], 3), (13, .invokestatic 121, 3, [1, 151, 0, 3, 6, 0, 0], 0), (16, .ifCond .ne 5, 3, [], 0), (19, .iconst (-1), 1, [], 0), (20, .ireturn, 1, [0], 0), (21, .aload_n 0, 1, [], 0), (22, .iload_n 1, 1, [], 0), (23, .iload_n 2, 1, [], 0), (24, .iload_n 3, 1, [], 0), (25, .iconst 1, 1, [], 0), (26, .invokevirtual 396, 3, [0, 237, 10, 5, 5, 0, 0], 0), (29, .istore 6, 2, [], 0), (31, .iload 6, 2, [], 0), (33, .ifCond .ge 6, 3, [], 0), (36, .iload 6, 2, [], 0), (38, .ireturn, 1, [0], 0), (39, .aload_n 0, 1, [], 0), (40, .getfield 35, 3, [10, 10, 2], 0), (43, .bipush 24, 2, [], 0), (45, .iload_n 1, 1, [], 0), (46, .imul, 1, [], 0), (47, .iload_n 3, 1, [], 0), (48, .iadd, 1, [], 0), (49, .iload_n 2, 1, [], 0), (50, .lload 4, 2, [], 0), (52, .invokestatic 400, 3, [1, 236, 0, 2, 3, 0, 0], 0), (55, .lastore, 1, [], 0), (56, .iconst 1, 1, [], 0), (57, .ireturn, 1, [0], 0)]
def zc243 : List (Nat × zE) := [(0, .iload_n 1, 1, [], 0), (1, .invokestatic 391, 3, [1, 235, 0, 1, 1, 0, 0], 0), (4, .ifCond .eq 10, 3, [], 0), (7, .iload_n 3, 1, [], 0), (8, .invokestatic 391, 3, [1, 235, 0, 1, 1, 0, 0], 0), (11, .ifCond .ne 5, 3, [], 0), (14, .iconst (-1), 1, [], 0), (15, .ireturn, 1, [0], 0), (16, .aload_n 0, 1, [], 0), (17, .getfield 29, 3, [10, 8, 2], 0), (20, .iload_n 1, 1, [], 0), (21, .iaload, 1, [], 0), (22, .ifCond .lt 12, 3, [], 0), (25, .aload_n 0, 1, [], 0), (26, .getfield 29, 3, [10, 8, 2], 0), (29, .iload_n 3, 1, [], 0), (30, .iaload, 1, [], 0), (31, .ifCond .ge 6, 3, [], 0), (34, .bipush (-11), 2, [], 0), (36, .ireturn, 1, [0], 0), (37, .aload_n 0, 1, [], 0), (38, .getfield 29, 3, [10, 8, 2], 0), (41, .iload_n 1, 1, [], 0), (42, .iaload, 1, [], 0), (43, .aload_n 0, 1, [], 0), (44, .getfield 29, 3, [10, 8, 2], 0), (47, .iload_n 3, 1, [], 0), (48, .iaload, 1, [], 0), (49, .if_icmp .eq 6, 3, [], 0), (52, .bipush (-12), 2, [], 0), (54, .ireturn, 1, [0], 0), (55, .iload 5, 2, [], 0), (57, .ifCond .lt 39, 3, [], 0), (60, .iload_n 2, 1, [], 0), (61, .ifCond .lt 35, 3, [], 0), (64, .iload 4, 2, [], 0), (66, .ifCond .lt 30, 3, [], 0), (69, .iload 5, 2, [], 0), (71, .aload_n 0, 1, [], 0), (72, .getfield 32, 3, [10, 9, 2], 0), (75, .iload_n 1, 1, [], 0), (76, .iaload, 1, [], 0), (77, .iload_n 2, 1, [], 0), (78, .isub, 1, [], 0), (79, .if_icmp .gt 17, 3, [], 0), (82, .iload 5, 2, [], 0), (84, .aload_n 0, 1, [], 0), (85, .getfield 32, 3, [10, 9, 2], 0), (88, .iload_n 3, 1, [], 0), (89, .iaload, 1, [], 0), (90, .iload 4, 2, [], 0), (92, .isub, 1, [], 0), (93, .if_icmp .le 6, 3, [], 0), (96, .bipush (-13), 2, [], 0), (98, .ireturn, 1, [0], 0), (99, .iconst 0, 1, [], 0), (100, .istore 6, 2, [], 0), (102, .iload 6, 2, [], 0), (104, .iload 5, 2, [], 0), (106, .if_icmp .ge 30, 3, [], 0), (109, .aload_n 0, 1, [], 0), (110, .getfield 39, 3, [10, 11, 2], 0), (113, .iload 6, 2, [], 0), (115, .aload_n 0, 1, [], 0), (116, .getfield 35, 3, [10, 10, 2], 0), (119, .bipush 24, 2, [], 0), (121, .iload_n 1, 1, [], 0), (122, .imul, 1, [], 0), (123, .iload_n 2, 1, [], 0), (124, .iadd, 1, [], 0), (125, .iload 6, 2, [], 0), (127, .iadd, 1, [], 0), (128, .laload, 1, [], 0), (129, .lastore, 1, [], 0), (130, .iinc 6 1, 3, [], 0), (133, .goto (-31), 3, [], 0), (136, .iconst 0, 1, [], 0), (137, .istore 6, 2, [], 0), (139, .iload 6, 2, [], 0), (141, .iload 5, 2, [], 0), (143, .if_icmp .ge 31, 3, [], 0), (146, .aload_n 0, 1, [], 0), (147, .getfield 35, 3, [10, 10, 2], 0), (150, .bipush 24, 2, [], 0), (152, .iload_n 3, 1, [], 0), (153, .imul, 1, [], 0), (154, .iload 4, 2, [], 0), (156, .iadd, 1, [], 0), (157, .iload 6, 2, [], 0), (159, .iadd, 1, [], 0), (160, .aload_n 0, 1, [], 0), (161, .getfield 39, 3, [10, 11, 2], 0), (164, .iload 6, 2, [], 0), (166, .laload, 1, [], 0), (167, .lastore, 1, [], 0), (168, .iinc 6 1, 3, [], 0), (171, .goto (-32), 3, [], 0), (174, .iload 5, 2, [], 0), (176, .ireturn, 1, [0], 0)]
def zc244 : List (Nat × zE) := [(0, .iload_n 0, 1, [], 0), (1, .iload_n 0, 1, [], 0), (2, .iconst 1, 1, [], 0), (3, .iushr, 1, [], 0), (4, .ldc_w 265, 3, [], 1431655765), (7, .iand, 1, [], 0), (8, .isub, 1, [], 0), (9, .istore_n 0, 1, [], 0), (10, .iload_n 0, 1, [], 0), (11, .ldc_w 266, 3, [], 858993459), (14, .iand, 1, [], 0), (15, .iload_n 0, 1, [], 0), (16, .iconst 2, 1, [], 0), (17, .iushr, 1, [], 0), (18, .ldc_w 266, 3, [], 858993459), (21, .iand, 1, [], 0), (22, .iadd, 1, [], 0), (23, .istore_n 0, 1, [], 0), (24, .iload_n 0, 1, [], 0), (25, .iload_n 0, 1, [], 0), (26, .iconst 4, 1, [], 0), (27, .iushr, 1, [], 0), (28, .iadd, 1, [], 0), (29, .ldc_w 267, 3, [], 252645135), (32, .iand, 1, [], 0), (33, .istore_n 0, 1, [], 0), (34, .iload_n 0, 1, [], 0), (35, .iload_n 0, 1, [], 0), (36, .bipush 8, 2, [], 0), (38, .iushr, 1, [], 0), (39, .iadd, 1, [], 0), (40, .istore_n 0, 1, [], 0), (41, .iload_n 0, 1, [], 0), (42, .iload_n 0, 1, [], 0), (43, .bipush 16, 2, [], 0), (45, .iushr, 1, [], 0), (46, .iadd, 1, [], 0), (47, .istore_n 0, 1, [], 0), (48, .iload_n 0, 1, [], 0), (49, .bipush 63, 2, [], 0), (51, .iand, 1, [], 0), (52, .ireturn, 1, [0], 0)]
def zc245 : List (Nat × zE) := [(0, .iconst 0, 1, [], 0), (1, .istore_n 3, 1, [], 0), (2, .aload_n 0, 1, [], 0), (3, .arraylength, 1, [], 0), (4, .istore 4, 2, [], 0), (6, .iload_n 3, 1, [], 0), (7, .iload 4, 2, [], 0), (9, .if_icmp .ge 13, 3, [], 0), (12, .aload_n 0, 1, [], 0), (13, .iload_n 3, 1, [], 0), (14, .lload_n 1, 1, [], 0), (15, .lastore, 1, [], 0), (16, .iinc 3 1, 3, [], 0), (19, .goto (-13), 3, [], 0), (22, .return_, 1, [], 0)]
def zc246 : List (Nat × zE) := [(0, .iconst 0, 1, [], 0), (1, .istore_n 2, 1, [], 0), (2, .aload_n 0, 1, [], 0), (3, .arraylength, 1, [], 0), (4, .istore_n 3, 1, [], 0), (5, .iload_n 2, 1, [], 0), (6, .iload_n 3, 1, [], 0), (7, .if_icmp .ge 13, 3, [], 0), (10, .aload_n 0, 1, [], 0), (11, .iload_n 2, 1, [], 0), (12, .iload_n 1, 1, [], 0), (13, .iastore, 1, [], 0), (14, .iinc 2 1, 3, [], 0), (17, .goto (-12), 3, [], 0), (20, .return_, 1, [], 0)]
def zc247 : List (Nat × zE) := [(0, .iload_n 1, 1, [], 0), (1, .aload_n 0, 1, [], 0), (2, .arraylength, 1, [], 0), (3, .if_icmp .ne 11, 3, [], 0), (6, .aload_n 0, 1, [], 0), (7, .invokevirtual 316, 3, [6], 0), (10, .checkcast 317, 3, [20], 0), (13, .areturn, 1, [], 0), (14, .iload_n 1, 1, [], 0), (15, .newarray .int, 2, [], 0), (17, .astore_n 2, 1, [], 0), (18, .aload_n 0, 1, [], 0), (19, .iconst 0, 1, [], 0), (20, .aload_n 2, 1, [], 0), (21, .iconst 0, 1, [], 0), (22, .aload_n 0, 1, [], 0), (23, .arraylength, 1, [], 0), (24, .iload_n 1, 1, [], 0), (25, .invokestatic 304, 3, [10], 0), (28, .invokestatic 150, 3, [5], 0), (31, .aload_n 2, 1, [], 0), (32, .areturn, 1, [], 0)]
def zc248 : List (Nat × zE) := [(0, .iload_n 1, 1, [], 0), (1, .aload_n 0, 1, [], 0), (2, .arraylength, 1, [], 0), (3, .if_icmp .ne 11, 3, [], 0), (6, .aload_n 0, 1, [], 0), (7, .invokevirtual 322, 3, [7], 0), (10, .checkcast 323, 3, [22], 0), (13, .areturn, 1, [], 0), (14, .iload_n 1, 1, [], 0), (15, .newarray .char, 2, [], 0), (17, .astore_n 2, 1, [], 0), (18, .aload_n 0, 1, [], 0), (19, .iconst 0, 1, [], 0), (20, .aload_n 2, 1, [], 0), (21, .iconst 0, 1, [], 0), (22, .aload_n 0, 1, [], 0), (23, .arraylength, 1, [], 0), (24, .iload_n 1, 1, [], 0), (25, .invokestatic 304, 3, [10], 0), (28, .invokestatic 150, 3, [5], 0), (31, .aload_n 2, 1, [], 0), (32, .areturn, 1, [], 0)]
def zc249 : List (Nat × zE) := [(0, .new 7, 3, [9, 12], 0), (3, .dup, 1, [], 0), (4, .invokespecial 9, 3, [2, 111, 0, 1, 4, 210, 1600], 0), (7, .astore_n 1, 1, [], 0), (8, .new 10, 3, [10, 47], 0), (11, .dup, 1, [], 0), (12, .invokespecial 12, 3, [2, 150, 0, 1, 2, 50, 8000], 0), (15, .astore_n 2, 1, [], 0), (16, .iconst 0, 1, [], 0), (17, .istore_n 3, 1, [], 0), (18, .iload_n 3, 1, [], 0), (19, .aload_n 0, 1, [], 0), (20, .arraylength, 1, [], 0), (21, .bipush 6, 2, [], 0), (23, .isub, 1, [], 0), (24, .if_icmp .gt 1055, 3, [], 0), (27, .aload_n 0, 1, [], 0), (28, .iload_n 3, 1, [], 0), (29, .iaload, 1, [], 0), (30, .bipush 31, 2, [], 0), (32, .iand, 1, [], 0), (33, .tableswitch 1040 0 28 #[131, 154, 177, 200, 223, 256, 299, 322, 345, 368, 381, 414, 447, 470, 503, 526, 570, 614, 647, 670, 683, 706, 719, 732, 785, 828, 871, 894, 977], 131, [], 0), (164, .aload_n 1, 1, [], 0), (165, .aload_n 0, 1, [], 0), (166, .iload_n 3, 1, [], 0), (167, .iconst 1, 1, [], 0), (168, .iadd, 1, [], 0), (169, .iaload, 1, [], 0), (170, .invokevirtual 13, 3, [0, 112, 9, 2, 2, 0, 0], 0), (173, .aload_n 2, 1, [], 0), (174, .aload_n 0, 1, [], 0), (175, .iload_n 3, 1, [], 0), (176, .iconst 1, 1, [], 0), (177, .iadd, 1, [], 0), (178, .iaload, 1, [], 0), (179, .invokevirtual 17, 3, [0, 179, 10, 2, 2, 0, 0], 0), (182, .if_icmp .eq 891, 3, [], 0), (185, .iconst 0, 1, [], 0), (186, .ireturn, 1, [1], 0), (187, .aload_n 1, 1, [], 0), (188, .aload_n 0, 1, [], 0), (189, .iload_n 3, 1, [], 0), (190, .iconst 1, 1, [], 0), (191, .iadd, 1, [], 0), (192, .iaload, 1, [], 0), (193, .invokevirtual 18, 3, [0, 113, 9, 2, 3, 8, 252], 0), (196, .aload_n 2, 1, [], 0), (197, .aload_n 0, 1, [], 0), (198, .iload_n 3, 1, [], 0), (199, .iconst 1, 1, [], 0), (200, .iadd, 1, [], 0), (201, .iaload, 1, [], 0), (202, .invokevirtual 21, 3, [0, 188, 10, 2, 5, 0, 0], 0), (205, .if_icmp .eq 868, 3, [], 0), (208, .iconst 0, 1, [], 0), (209, .ireturn, 1, [1], 0), (210, .aload_n 1, 1, [], 0), (211, .aload_n 0, 1, [], 0), (212, .iload_n 3, 1, [], 0), (213, .iconst 1, 1, [], 0), (214, .iadd, 1, [], 0), (215, .iaload, 1, [], 0), (216, .invokevirtual 22, 3, [0, 114, 9, 2, 4, 20, 524], 0), (219, .aload_n 2, 1, [], 0), (220, .aload_n 0, 1, [], 0), (221, .iload_n 3, 1, [], 0), (222, .iconst 1, 1, [], 0), (223, .iadd, 1, [], 0), (224, .iaload, 1, [], 0), (225, .invokevirtual 25, 3, [0, 189, 10, 2, 3, 0, 0], 0), (228, .if_icmp .eq 845, 3, [], 0), (231, .iconst 0, 1, [], 0), (232, .ireturn, 1, [1], 0), (233, .aload_n 1, 1, [], 0), (234, .aload_n 0, 1, [], 0), (235, .iload_n 3, 1, [], 0), (236, .iconst 1, 1, [], 0), (237, .iadd, 1, [], 0), (238, .iaload, 1, [], 0), (239, .invokevirtual 26, 3, [0, 115, 9, 2, 2, 0, 0], 0), (242, .aload_n 2, 1, [], 0), (243, .aload_n 0, 1, [], 0), (244, .iload_n 3, 1, [], 0), (245, .iconst 1, 1, [], 0), (246, .iadd, 1, [], 0), (247, .iaload, 1, [], 0), (248, .invokevirtual 29, 3, [0, 191, 10, 2, 2, 0, 0], 0), (251, .if_icmp .eq 822, 3, [], 0), (254, .iconst 0, 1, [], 0), (255, .ireturn, 1, [1], 0), (256, .aload_n 1, 1, [], 0), (257, .aload_n 0, 1, [], 0), (258, .iload_n 3, 1, [], 0), (259, .iconst 1, 1, [], 0), (260, .iadd, 1, [], 0), (261, .iaload, 1, [], 0), (262, .aload_n 0, 1, [], 0), (263, .iload_n 3, 1, [], 0), (264, .iconst 2, 1, [], 0), (265, .iadd, 1, [], 0), (266, .iaload, 1, [], 0), (267, .invokevirtual 30, 3, [0, 116, 9, 3, 3, 0, 0], 0), (270, .aload_n 2, 1, [], 0), (271, .aload_n 0, 1, [], 0), (272, .iload_n 3, 1, [], 0), (273, .iconst 1, 1, [], 0), (274, .iadd, 1, [], 0), (275, .iaload, 1, [], 0), (276, .aload_n 0, 1, [], 0), (277, .iload_n 3, 1, [], 0), (278, .iconst 2, 1, [], 0), (279, .iadd, 1, [], 0), (280, .iaload, 1, [], 0), (281, .invokevirtual 34, 3, [0, 172, 10, 3, 3, 0, 0], 0), (284, .if_icmp .eq 789, 3, [], 0), (287, .iconst 0, 1, [], 0), (288, .ireturn, 1, [1], 0), (289, .aload_n 1, 1, [], 0), (290, .aload_n 0, 1, [], 0), (291, .iload_n 3, 1, [], 0), (292, .iconst 1, 1, [], 0), (293, .iadd, 1, [], 0), (294, .iaload, 1, [], 0), (295, .aload_n 0, 1, [], 0), (296, .iload_n 3, 1, [], 0), (297, .iconst 2, 1, [], 0), (298, .iadd, 1, [], 0), (299, .iaload, 1, [], 0), (300, .aload_n 0, 1, [], 0), (301, .iload_n 3, 1, [], 0), (302, .iconst 3, 1, [], 0), (303, .iadd, 1, [], 0), (304, .iaload, 1, [], 0), (305, .invokevirtual 35, 3, [0, 117, 9, 4, 4, 0, 0], 0), (308, .aload_n 2, 1, [], 0), (309, .aload_n 0, 1, [], 0), (310, .iload_n 3, 1, [], 0), (311, .iconst 1, 1, [], 0), (312, .iadd, 1, [], 0), (313, .iaload, 1, [], 0), (314, .aload_n 0, 1, [], 0), (315, .iload_n 3, 1, [], 0), (316, .iconst 2, 1, [], 0), (317, .iadd, 1, [], 0), (318, .iaload, 1, [], 0), (319, .aload_n 0, 1, [], 0), (320, .iload_n 3, 1, [], 0), (321, .iconst 3, 1, [], 0), (322, .iadd, 1, [], 0), (323, .iaload, 1, [], 0), (324, .invokevirtual 39, 3, [0, 173, 10, 4, 4, 0, 0], 0), (327, .if_icmp .eq 746, 3, [], 0), (330, .iconst 0, 1, [], 0), (331, .ireturn, 1, [1], 0), (332, .aload_n 1, 1, [], 0), (333, .aload_n 0, 1, [], 0), (334, .iload_n 3, 1, [], 0), (335, .iconst 1, 1, [], 0), (336, .iadd, 1, [], 0), (337, .iaload, 1, [], 0), (338, .invokevirtual 40, 3, [0, 118, 9, 2, 3, 0, 0], 0), (341, .aload_n 2, 1, [], 0), (342, .aload_n 0, 1, [], 0), (343, .iload_n 3, 1, [], 0), (344, .iconst 1, 1, [], 0), (345, .iadd, 1, [], 0), (346, .iaload, 1, [], 0), (347, .invokevirtual 43, 3, [0, 212, 10, 2, 3, 0, 0], 0), (350, .if_icmp .eq 723, 3, [], 0), (353, .iconst 0, 1, [], 0), (354, .ireturn, 1, [1], 0), (355, .aload_n 1, 1, [], 0), (356, .aload_n 0, 1, [], 0), (357, .iload_n 3, 1, [], 0), (358, .iconst 1, 1, [], 0), (359, .iadd, 1, [], 0), (360, .iaload, 1, [], 0), (361, .invokevirtual 44, 3, [0, 119, 9, 2, 2, 0, 0], 0), (364, .aload_n 2, 1, [], 0), (365, .aload_n 0, 1, [], 0), (366, .iload_n 3, 1, [], 0), (367, .iconst 1, 1, [], 0), (368, .iadd, 1, [], 0), (369, .iaload, 1, [], 0), (370, .invokevirtual 47, 3, [0, 204, 10, 2, 2, 0, 0], 0), (373, .if_icmp .eq 700, 3, [], 0), (376, .iconst 0, 1, [], 0), (377, .ireturn, 1, [1], 0), (378, .aload_n 1, 1, [], 0), (379, .aload_n 0, 1, [], 0), (380, .iload_n 3, 1, [], 0), (381, .iconst 1, 1, [], 0), (382, .iadd, 1, [], 0), (383, .iaload, 1, [], 0), (384, .invokevirtual 48, 3, [0, 120, 9, 2, 3, 0, 0], 0), (387, .aload_n 2, 1, [], 0), (388, .aload_n 0, 1, [], 0), (389, .iload_n 3, 1, [], 0), (390, .iconst 1, 1, [], 0), (391, .iadd, 1, [], 0), (392, .iaload, 1, [], 0), (393, .invokevirtual 51, 3, [0, 208, 10, 2, 5, 0, 0], 0), (396, .if_icmp .eq 677, 3, [], 0), (399, .iconst 0, 1, [], 0), (400, .ireturn, 1, [1], 0), (401, .aload_n 1, 1, [], 0), (402, .invokevirtual 52, 3, [0, 121, 9, 1, 1, 0, 0], 0), (405, .aload_n 2, 1, [], 0), (406, .invokevirtual 56, 3, [0, 211, 10, 1, 2, 0, 0], 0), (409, .if_icmp .eq 664, 3, [], 0), (412, .iconst 0, 1, [], 0), (413, .ireturn, 1, [1], 0), (414, .aload_n 1, 1, [], 0), (415, .aload_n 0, 1, [], 0), (416, .iload_n 3, 1, [], 0), (417, .iconst 1, 1, [], 0), (418, .iadd, 1, [], 0), (419, .iaload, 1, [], 0), (420, .aload_n 0, 1, [], 0), (421, .iload_n 3, 1, [], 0), (422, .iconst 2, 1, [], 0), (423, .iadd, 1, [], 0), (424, .iaload, 1, [], 0), (425, .invokevirtual 57, 3, [0, 122, 9, 3, 3, 0, 0], 0), (428, .aload_n 2, 1, [], 0), (429, .aload_n 0, 1, [], 0), (430, .iload_n 3, 1, [], 0), (431, .iconst 1, 1, [], 0), (432, .iadd, 1, [], 0), (433, .iaload, 1, [], 0), (434, .aload_n 0, 1, [], 0), (435, .iload_n 3, 1, [], 0), (436, .iconst 2, 1, [], 0), (437, .iadd, 1, [], 0), (438, .iaload, 1, [], 0), (439, .invokevirtual 60, 3, [0, 214, 10, 3, 4, 0, 0], 0), (442, .if_icmp .eq 631, 3, [], 0), (445, .iconst 0, 1, [], 0), (446, .ireturn, 1, [1], 0), (447, .aload_n 1, 1, [], 0), (448, .aload_n 0, 1, [], 0), (449, .iload_n 3, 1, [], 0), (450, .iconst 1, 1, [], 0), (451, .iadd, 1, [], 0), (452, .iaload, 1, [], 0), (453, .aload_n 0, 1, [], 0), (454, .iload_n 3, 1, [], 0), (455, .iconst 2, 1, [], 0), (456, .iadd, 1, [], 0), (457, .iaload, 1, [], 0), (458, .invokevirtual 61, 3, [0, 123, 9, 3, 3, 0, 0], 0), (461, .aload_n 2, 1, [], 0), (462, .aload_n 0, 1, [], 0), (463, .iload_n 3, 1, [], 0), (464, .iconst 1, 1, [], 0), (465, .iadd, 1, [], 0), (466, .iaload, 1, [], 0), (467, .aload_n 0, 1, [], 0), (468, .iload_n 3, 1, [], 0), (469, .iconst 2, 1, [], 0), (470, .iadd, 1, [], 0), (471, .iaload, 1, [], 0), (472, .invokevirtual 64, 3, [0, 215, 10, 3, 3, 0, 0], 0), (475, .if_icmp .eq 598, 3, [], 0), (478, .iconst 0, 1, [], 0), (479, .ireturn, 1, [1], 0), (480, .aload_n 1, 1, [], 0), (481, .aload_n 0, 1, [], 0), (482, .iload_n 3, 1, [], 0), (483, .iconst 1, 1, [], 0), (484, .iadd, 1, [], 0), (485, .iaload, 1, [], 0), (486, .invokevirtual 65, 3, [0, 124, 9, 2, 2, 0, 0], 0), (489, .aload_n 2, 1, [], 0), (490, .aload_n 0, 1, [], 0), (491, .iload_n 3, 1, [], 0), (492, .iconst 1, 1, [], 0), (493, .iadd, 1, [], 0), (494, .iaload, 1, [], 0), (495, .invokevirtual 68, 3, [0, 218, 10, 2, 2, 0, 0], 0), (498, .if_icmp .eq 575, 3, [], 0), (501, .iconst 0, 1, [], 0), (502, .ireturn, 1, [1], 0), (503, .aload_n 1, 1, [], 0), (504, .aload_n 0, 1, [], 0), (505, .iload_n 3, 1, [], 0), (506, .iconst 1, 1, [], 0), (507, .iadd, 1, [], 0), (508, .iaload, 1, [], 0), (509, .aload_n 0, 1, [], 0), (510, .iload_n 3, 1, [], 0), (511, .iconst 2, 1, [], 0), (512, .iadd, 1, [], 0), (513, .iaload, 1, [], 0), (514, .invokevirtual 69, 3, [0, 125, 9, 3, 3, 0, 0], 0), (517, .aload_n 2, 1, [], 0), (518, .aload_n 0, 1, [], 0), (519, .iload_n 3, 1, [], 0), (520, .iconst 1, 1, [], 0), (521, .iadd, 1, [], 0), (522, .iaload, 1, [], 0), (523, .aload_n 0, 1, [], 0), (524, .iload_n 3, 1, [], 0), (525, .iconst 2, 1, [], 0), (526, .iadd, 1, [], 0), (527, .iaload, 1, [], 0), (528, .invokevirtual 72, 3, [0, 220, 10, 3, 3, 0, 0], 0), (531, .if_icmp .eq 542, 3, [], 0), (534, .iconst 0, 1, [], 0), (535, .ireturn, 1, [1], 0), (536, .aload_n 1, 1, [], 0), (537, .aload_n 0, 1, [], 0), (538, .iload_n 3, 1, [], 0), (539, .iconst 1, 1, [], 0), (540, .iadd, 1, [], 0), (541, .iaload, 1, [], 0), (542, .invokevirtual 73, 3, [0, 126, 9, 2, 2, 0, 0], 0), (545, .aload_n 2, 1, [], 0), (546, .aload_n 0, 1, [], 0), (547, .iload_n 3, 1, [], 0), (548, .iconst 1, 1, [], 0), (549, .iadd, 1, [], 0), (550, .iaload, 1, [], 0), (551, .invokevirtual 76, 3, [0, 222, 10, 2, 6, 0, 0], 0), (554, .if_icmp .eq 519, 3, [], 0), (557, .iconst 0, 1, [], 0), (558, .ireturn, 1, [1], 0), (559, .aload_n 1, 1, [], 0), (560, .aload_n 0, 1, [], 0), (561, .iload_n 3, 1, [], 0), (562, .iconst 1, 1, [], 0), (563, .iadd, 1, [], 0), (564, .iaload, 1, [], 0), (565, .aload_n 0, 1, [], 0), (566, .iload_n 3, 1, [], 0), (567, .iconst 2, 1, [], 0), (568, .iadd, 1, [], 0), (569, .iaload, 1, [], 0), (570, .aload_n 0, 1, [], 0), (571, .iload_n 3, 1, [], 0), (572, .iconst 3, 1, [], 0), (573, .iadd, 1, [], 0), (574, .iaload, 1, [], 0), (575, .invokevirtual 77, 3, [0, 127, 9, 4, 4, 0, 0], 0), (578, .aload_n 2, 1, [], 0), (579, .aload_n 0, 1, [], 0), (580, .iload_n 3, 1, [], 0), (581, .iconst 1, 1, [], 0), (582, .iadd, 1, [], 0), (583, .iaload, 1, [], 0), (584, .aload_n 0, 1, [], 0), (585, .iload_n 3, 1, [], 0), (586, .iconst 2, 1, [], 0), (587, .iadd, 1, [], 0), (588, .iaload, 1, [], 0), (589, .aload_n 0, 1, [], 0), (590, .iload_n 3, 1, [], 0), (591, .iconst 3, 1, [], 0), (592, .iadd, 1, [], 0), (593, .iaload, 1, [], 0), (594, .invokevirtual 81, 3, [0, 227, 10, 4, 4, 0, 0], 0), (597, .lcmp, 1, [], 0), (598, .ifCond .eq 475, 3, [], 0), (601, .iconst 0, 1, [], 0), (602, .ireturn, 1, [1], 0), (603, .aload_n 1, 1, [], 0), (604, .aload_n 0, 1, [], 0), (605, .iload_n 3, 1, [], 0), (606, .iconst 1, 1, [], 0), (607, .iadd, 1, [], 0), (608, .iaload, 1, [], 0), (609, .aload_n 0, 1, [], 0), (610, .iload_n 3, 1, [], 0), (611, .iconst 2, 1, [], 0), (612, .iadd, 1, [], 0), (613, .iaload, 1, [], 0), (614, .aload_n 0, 1, [], 0), (615, .iload_n 3, 1, [], 0), (616, .iconst 3, 1, [], 0), (617, .iadd, 1, [], 0), (618, .iaload, 1, [], 0), (619, .invokevirtual 82, 3, [0, 128, 9, 4, 4, 0, 0], 0), (622, .aload_n 2, 1, [], 0), (623, .aload_n 0, 1, [], 0), (624, .iload_n 3, 1, [], 0), (625, .iconst 1, 1, [], 0), (626, .iadd, 1, [], 0), (627, .iaload, 1, [], 0), (628, .aload_n 0, 1, [], 0), (629, .iload_n 3, 1, [], 0), (630, .iconst 2, 1, [], 0), (631, .iadd, 1, [], 0), (632, .iaload, 1, [], 0), (633, .aload_n 0, 1, [], 0), (634, .iload_n 3, 1, [], 0), (635, .iconst 3, 1, [], 0), (636, .iadd, 1, [], 0), (637, .iaload, 1, [], 0), (638, .invokevirtual 85, 3, [0, 228, 10, 4, 8, 0, 0], 0), (641, .lcmp, 1, [], 0), (642, .ifCond .eq 431, 3, [], 0), (645, .iconst 0, 1, [], 0), (646, .ireturn, 1, [1], 0), (647, .aload_n 1, 1, [], 0), (648, .aload_n 0, 1, [], 0), (649, .iload_n 3, 1, [], 0), (650, .iconst 1, 1, [], 0), (651, .iadd, 1, [], 0), (652, .iaload, 1, [], 0), (653, .aload_n 0, 1, [], 0), (654, .iload_n 3, 1, [], 0), (655, .iconst 2, 1, [], 0), (656, .iadd, 1, [], 0), (657, .iaload, 1, [], 0), (658, .invokevirtual 86, 3, [0, 129, 9, 3, 3, 0, 0], 0), (661, .aload_n 2, 1, [], 0), (662, .aload_n 0, 1, [], 0), (663, .iload_n 3, 1, [], 0), (664, .iconst 1, 1, [], 0), (665, .iadd, 1, [], 0), (666, .iaload, 1, [], 0), (667, .aload_n 0, 1, [], 0), (668, .iload_n 3, 1, [], 0), (669, .iconst 2, 1, [], 0), (670, .iadd, 1, [], 0), (671, .iaload, 1, [], 0), (672, .invokevirtual 89, 3, [0, 229, 10, 3, 3, 0, 0], 0), (675, .if_icmp .eq 398, 3, [], 0), (678, .iconst 0, 1, [], 0), (679, .ireturn, 1, [1], 0), (680, .aload_n 1, 1, [], 0), (681, .aload_n 0, 1, [], 0), (682, .iload_n 3, 1, [], 0), (683, .iconst 1, 1, [], 0), (684, .iadd, 1, [], 0), (685, .iaload, 1, [], 0), (686, .invokevirtual 90, 3, [0, 130, 9, 2, 3, 0, 0], 0), (689, .aload_n 2, 1, [], 0), (690, .aload_n 0, 1, [], 0), (691, .iload_n 3, 1, [], 0), (692, .iconst 1, 1, [], 0), (693, .iadd, 1, [], 0), (694, .iaload, 1, [], 0), (695, .invokevirtual 93, 3, [0, 230, 10, 2, 6, 0, 0], 0), (698, .if_icmp .eq 375, 3, [], 0), (701, .iconst 0, 1, [], 0), (702, .ireturn, 1, [1], 0), (703, .aload_n 1, 1, [], 0), (704, .invokevirtual 94, 3, [0, 131, 9, 1, 1, 0, 0], 0), (707, .aload_n 2, 1, [], 0), (708, .invokevirtual 97, 3, [0, 231, 10, 1, 2, 0, 0], 0), (711, .if_icmp .eq 362, 3, [], 0), (714, .iconst 0, 1, [], 0), (715, .ireturn, 1, [1], 0), (716, .aload_n 1, 1, [], 0), (717, .aload_n 0, 1, [], 0), (718, .iload_n 3, 1, [], 0), (719, .iconst 1, 1, [], 0), (720, .iadd, 1, [], 0), (721, .iaload, 1, [], 0), (722, .invokevirtual 98, 3, [0, 132, 9, 2, 2, 0, 0], 0), (725, .aload_n 2, 1, [], 0), (726, .aload_n 0, 1, [], 0), (727, .iload_n 3, 1, [], 0), (728, .iconst 1, 1, [], 0), (729, .iadd, 1, [], 0), (730, .iaload, 1, [], 0), (731, .invokevirtual 101, 3, [0, 232, 10, 2, 3, 0, 0], 0), (734, .if_icmp .eq 339, 3, [], 0), (737, .iconst 0, 1, [], 0), (738, .ireturn, 1, [1], 0), (739, .aload_n 1, 1, [], 0), (740, .invokevirtual 102, 3, [0, 133, 9, 1, 1, 0, 0], 0), (743, .aload_n 2, 1, [], 0), (744, .invokevirtual 105, 3, [0, 233, 10, 1, 2, 0, 0], 0), (747, .if_icmp .eq 326, 3, [], 0), (750, .iconst 0, 1, [], 0), (751, .ireturn, 1, [1], 0), (752, .aload_n 1, 1, [], 0), (753, .invokevirtual 106, 3, [0, 134, 9, 1, 1, 0, 0], 0), (756, .aload_n 2, 1, [], 0), (757, .invokevirtual 109, 3, [0, 234, 10, 1, 2, 0, 0], 0), (760, .if_icmp .eq 313, 3, [], 0), (763, .iconst 0, 1, [], 0), (764, .ireturn, 1, [1], 0), (765, .aload_n 1, 1, [], 0), (766, .aload_n 0, 1, [], 0), (767, .iload_n 3, 1, [], 0), (768, .iconst 1, 1, [], 0), (769, .iadd, 1, [], 0), (770, .iaload, 1, [], 0), (771, .aload_n 0, 1, [], 0), (772, .iload_n 3, 1, [], 0), (773, .iconst 2, 1, [], 0), (774, .iadd, 1, [], 0), (775, .iaload, 1, [], 0), (776, .aload_n 0, 1, [], 0), (777, .iload_n 3, 1, [], 0), (778, .iconst 3, 1, [], 0), (779, .iadd, 1, [], 0), (780, .iaload, 1, [], 0), (781, .aload_n 0, 1, [], 0), (782, .iload_n 3, 1, [], 0), (783, .iconst 4, 1, [], 0), (784, .iadd, 1, [], 0), (785, .iaload, 1, [], 0), (786, .invokevirtual 110, 3, [0, 135, 9, 5, 6, 0, 0], 0), (789, .aload_n 2, 1, [], 0), (790, .aload_n 0, 1, [], 0), (791, .iload_n 3, 1, [], 0), (792, .iconst 1, 1, [], 0), (793, .iadd, 1, [], 0), (794, .iaload, 1, [], 0), (795, .aload_n 0, 1, [], 0), (796, .iload_n 3, 1, [], 0), (797, .iconst 2, 1, [], 0), (798, .iadd, 1, [], 0), (799, .iaload, 1, [], 0), (800, .aload_n 0, 1, [], 0), (801, .iload_n 3, 1, [], 0), (802, .iconst 3, 1, [], 0), (803, .iadd, 1, [], 0), (804, .iaload, 1, [], 0), (805, .aload_n 0, 1, [], 0), (806, .iload_n 3, 1, [], 0), (807, .iconst 4, 1, [], 0), (808, .iadd, 1, [], 0), (809, .iaload, 1, [], 0), (810, .invokevirtual 114, 3, [0, 238, 10, 5, 10, 0, 0], 0), (813, .if_icmp .eq 260, 3, [], 0), (816, .iconst 0, 1, [], 0), (817, .ireturn, 1, [1], 0), (818, .aload_n 1, 1, [], 0), (819, .aload_n 0, 1, [], 0), (820, .iload_n 3, 1, [], 0), (821, .iconst 1, 1, [], 0), (822, .iadd, 1, [], 0), (823, .iaload, 1, [], 0), (824, .aload_n 0, 1, [], 0), (825, .iload_n 3, 1, [], 0), (826, .iconst 2, 1, [], 0), (827, .iadd, 1, [], 0), (828, .iaload, 1, [], 0), (829, .aload_n 0, 1, [], 0), (830, .iload_n 3, 1, [], 0), (831, .iconst 3, 1, [], 0), (832, .iadd, 1, [], 0), (833, .iaload, 1, [], 0), (834, .invokevirtual 115, 3, [0, 136, 9, 4, 6, 0, 0], 0), (837, .aload_n 2, 1, [], 0), (838, .aload_n 0, 1, [], 0), (839, .iload_n 3, 1, [], 0), (840, .iconst 1, 1, [], 0), (841, .iadd, 1, [], 0), (842, .iaload, 1, [], 0), (843, .aload_n 0, 1, [], 0), (844, .iload_n 3, 1, [], 0), (845, .iconst 2, 1, [], 0), (846, .iadd, 1, [], 0), (847, .iaload, 1, [], 0), (848, .aload_n 0, 1, [], 0), (849, .iload_n 3, 1, [], 0), (850, .iconst 3, 1, [], 0), (851, .iadd, 1, [], 0), (852, .iaload, 1, [], 0), (853, .invokevirtual 118, 3, [0, 239, 10, 4, 6, 0, 0], 0), (856, .if_icmp .eq 217, 3, [], 0), (859, .iconst 0, 1, [], 0), (860, .ireturn, 1, [1], 0), (861, .aload_n 1, 1, [], 0), (862, .aload_n 0, 1, [], 0), (863, .iload_n 3, 1, [], 0), (864, .iconst 1, 1, [], 0), (865, .iadd, 1, [], 0), (866, .iaload, 1, [], 0), (867, .aload_n 0, 1, [], 0), (868, .iload_n 3, 1, [], 0), (869, .iconst 2, 1, [], 0), (870, .iadd, 1, [], 0), (871, .iaload, 1, [], 0), (872, .aload_n 0, 1, [], 0), (873, .iload_n 3, 1, [], 0), (874, .iconst 3, 1, [], 0), (875, .iadd, 1, [], 0), (876, .iaload, 1, [], 0), (877, .invokevirtual 119, 3, [0, 137, 9, 4, 4, 0, 0], 0), (880, .aload_n 2, 1, [], 0), (881, .aload_n 0, 1, [], 0), (882, .iload_n 3, 1, [], 0), (883, .iconst 1, 1, [], 0), (884, .iadd, 1, [], 0), (885, .iaload, 1, [], 0), (886, .aload_n 0, 1, [], 0), (887, .iload_n 3, 1, [], 0), (888, .iconst 2, 1, [], 0), (889, .iadd, 1, [], 0), (890, .iaload, 1, [], 0), (891, .aload_n 0, 1, [], 0), (892, .iload_n 3, 1, [], 0), (893, .iconst 3, 1, [], 0), (894, .iadd, 1, [], 0), (895, .iaload, 1, [], 0), (896, .invokevirtual 122, 3, [0, 240, 10, 4, 5, 0, 0], 0), (899, .if_icmp .eq 174, 3, [], 0), (902, .iconst 0, 1, [], 0), (903, .ireturn, 1, [1], 0), (904, .aload_n 1, 1, [], 0), (905, .aload_n 0, 1, [], 0), (906, .iload_n 3, 1, [], 0), (907, .iconst 1, 1, [], 0), (908, .iadd, 1, [], 0), (909, .iaload, 1, [], 0), (910, .invokevirtual 123, 3, [0, 138, 9, 2, 2, 0, 0], 0), (913, .aload_n 2, 1, [], 0), (914, .aload_n 0, 1, [], 0), (915, .iload_n 3, 1, [], 0), (916, .iconst 1, 1, [], 0), (917, .iadd, 1, [], 0), (918, .iaload, 1, [], 0), (919, .invokevirtual 126, 3, [0, 241, 10, 2, 2, 0, 0], 0), (922, .if_icmp .eq 151, 3, [], 0), (925, .iconst 0, 1, [], 0), (926, .ireturn, 1, [1], 0), (927, .aload_n 1, 1, [], 0), (928, .aload_n 0, 1, [], 0), (929, .iload_n 3, 1, [], 0), (930, .iconst 1, 1, [], 0), (931, .iadd, 1, [], 0), (932, .iaload, 1, [], 0), (933, .aload_n 0, 1, [], 0), (934, .iload_n 3, 1, [], 0), (935, .iconst 2, 1, [], 0), (936, .iadd, 1, [], 0), (937, .iaload, 1, [], 0), (938, .aload_n 0, 1, [], 0), (939, .iload_n 3, 1, [], 0), (940, .iconst 3, 1, [], 0), (941, .iadd, 1, [], 0), (942, .iaload, 1, [], 0), (943, .aload_n 0, 1, [], 0), (944, .iload_n 3, 1, [], 0), (945, .iconst 4, 1, [], 0), (946, .iadd, 1, [], 0), (947, .iaload, 1, [], 0), (948, .i2l, 1, [], 0), (949, .bipush 32, 2, [], 0), (951, .lshl, 1, [], 0), (952, .aload_n 0, 1, [], 0), (953, .iload_n 3, 1, [], 0), (954, .iconst 5, 1, [], 0), (955, .iadd, 1, [], 0), (956, .iaload, 1, [], 0), (957, .i2l, 1, [], 0), (958, .ldc2_w 127, 3, [], 4294967295), (961, .land, 1, [], 0), (962, .lor, 1, [], 0), (963, .invokevirtual 129, 3, [0, 139, 9, 5, 7, 0, 0], 0), (966, .aload_n 2, 1, [], 0), (967, .aload_n 0, 1, [], 0), (968, .iload_n 3, 1, [], 0), (969, .iconst 1, 1, [], 0), (970, .iadd, 1, [], 0), (971, .iaload, 1, [], 0), (972, .aload_n 0, 1, [], 0), (973, .iload_n 3, 1, [], 0), (974, .iconst 2, 1, [], 0), (975, .iadd, 1, [], 0), (976, .iaload, 1, [], 0), (977, .aload_n 0, 1, [], 0), (978, .iload_n 3, 1, [], 0), (979, .iconst 3, 1, [], 0), (980, .iadd, 1, [], 0), (981, .iaload, 1, [], 0), (982, .aload_n 0, 1, [], 0), (983, .iload_n 3, 1, [], 0), (984, .iconst 4, 1, [], 0), (985, .iadd, 1, [], 0), (986, .iaload, 1, [], 0), (987, .i2l, 1, [], 0), (988, .bipush 32, 2, [], 0), (990, .lshl, 1, [], 0), (991, .aload_n 0, 1, [], 0), (992, .iload_n 3, 1, [], 0), (993, .iconst 5, 1, [], 0), (994, .iadd, 1, [], 0), (995, .iaload, 1, [], 0), (996, .i2l, 1, [], 0), (997, .ldc2_w 127, 3, [], 4294967295), (1000, .land, 1, [], 0), (1001, .lor, 1, [], 0), (1002, .invokevirtual 133, 3, [0, 242, 10, 5, 7, 0, 0], 0), (1005, .if_icmp .eq 68, 3, [], 0), (1008, .iconst 0, 1, [], 0), (1009, .ireturn, 1, [1], 0), (1010, .aload_n 1, 1, [], 0), (1011, .aload_n 0, 1, [], 0), (1012, .iload_n 3, 1, [], 0), (1013, .iconst 1, 1, [], 0), (1014, .iadd, 1, [], 0), (1015, .iaload, 1, [], 0), (1016, .aload_n 0, 1, [], 0), (1017, .iload_n 3, 1, [], 0), (1018, .iconst 2, 1, [], 0), (1019, .iadd, 1, [], 0), (1020, .iaload, 1, [], 0), (1021, .aload_n 0, 1, [], 0), (1022, .iload_n 3, 1, [], 0), (1023, .iconst 3, 1, [], 0), (1024, .iadd, 1, [], 0), (1025, .iaload, 1, [], 0), (1026, .aload_n 0, 1, [], 0), (1027, .iload_n 3, 1, [], 0), (1028, .iconst 4, 1, [], 0), (1029, .iadd, 1, [], 0), (1030, .iaload, 1, [], 0), (1031, .aload_n 0, 1, [], 0), (1032, .iload_n 3, 1, [], 0), (1033, .iconst 5, 1, [], 0), (1034, .iadd, 1, [], 0), (1035, .iaload, 1, [], 0), (1036, .invokevirtual 134, 3, [0, 140, 9, 6, 8, 0, 0], 0), (1039, .aload_n 2, 1, [], 0), (1040, .aload_n 0, 1, [], 0), (1041, .iload_n 3, 1, [], 0), (1042, .iconst 1, 1, [], 0), (1043, .iadd, 1, [], 0), (1044, .iaload, 1, [], 0), (1045, .aload_n 0, 1, [], 0), (1046, .iload_n 3, 1, [], 0), (1047, .iconst 2, 1, [], 0), (1048, .iadd, 1, [], 0), (1049, .iaload, 1, [], 0), (1050, .aload_n 0, 1, [], 0), (1051, .iload_n 3, 1, [], 0), (1052, .iconst 3, 1, [], 0), (1053, .iadd, 1, [], 0), (1054, .iaload, 1, [], 0), (1055, .aload_n 0, 1, [], 0), (1056, .iload_n 3, 1, [], 0), (1057, .iconst 4, 1, [], 0), (1058, .iadd, 1, [], 0), (1059, .iaload, 1, [], 0), (1060, .aload_n 0, 1, [], 0), (1061, .iload_n 3, 1, [], 0), (1062, .iconst 5, 1, [], 0), (1063, .iadd, 1, [], 0), (1064, .iaload, 1, [], 0), (1065, .invokevirtual 138, 3, [0, 243, 10, 6, 7, 0, 0], 0), (1068, .if_icmp .eq 5, 3, [], 0), (1071, .iconst 0, 1, [], 0), (1072, .ireturn, 1, [1], 0), (1073, .iinc 3 6, 3, [], 0), (1076, .goto (-1058), 3, [], 0), (1079, .iconst 1, 1, [], 0), (1080, .ireturn, 1, [1], 0)]
def zC (mid : Nat) : List (Nat × zE) := cond (Nat.blt mid 250) (cond (Nat.blt mid 125) (cond (Nat.blt mid 62) (cond (Nat.blt mid 31) (cond (Nat.blt mid 15) (cond (Nat.blt mid 7) (cond (Nat.blt mid 3) (cond (Nat.blt mid 1) zc0 (cond (Nat.blt mid 2) zc1 zc2)) (cond (Nat.blt mid 5) (cond (Nat.blt mid 4) zc3 zc4) (cond (Nat.blt mid 6) zc5 zc6))) (cond (Nat.blt mid 11) (cond (Nat.blt mid 9) (cond (Nat.blt mid 8) zc7 zc8) (cond (Nat.blt mid 10) zc9 zc10)) (cond (Nat.blt mid 13) (cond (Nat.blt mid 12) zc11 zc12) (cond (Nat.blt mid 14) zc13 zc14)))) (cond (Nat.blt mid 23) (cond (Nat.blt mid 19) (cond (Nat.blt mid 17) (cond (Nat.blt mid 16) zc15 zc16) (cond (Nat.blt mid 18) zc17 zc18)) (cond (Nat.blt mid 21) (cond (Nat.blt mid 20) zc19 zc20) (cond (Nat.blt mid 22) zc21 zc22))) (cond (Nat.blt mid 27) (cond (Nat.blt mid 25) (cond (Nat.blt mid 24) zc23 zc24) (cond (Nat.blt mid 26) zc25 zc26)) (cond (Nat.blt mid 29) (cond (Nat.blt mid 28) zc27 zc28) (cond (Nat.blt mid 30) zc29 zc30))))) (cond (Nat.blt mid 46) (cond (Nat.blt mid 38) (cond (Nat.blt mid 34) (cond (Nat.blt mid 32) zc31 (cond (Nat.blt mid 33) zc32 zc33)) (cond (Nat.blt mid 36) (cond (Nat.blt mid 35) zc34 zc35) (cond (Nat.blt mid 37) zc36 zc37))) (cond (Nat.blt mid 42) (cond (Nat.blt mid 40) (cond (Nat.blt mid 39) zc38 zc39) (cond (Nat.blt mid 41) zc40 zc41)) (cond (Nat.blt mid 44) (cond (Nat.blt mid 43) zc42 zc43) (cond (Nat.blt mid 45) zc44 zc45)))) (cond (Nat.blt mid 54) (cond (Nat.blt mid 50) (cond (Nat.blt mid 48) (cond (Nat.blt mid 47) zc46 zc47) (cond (Nat.blt mid 49) zc48 zc49)) (cond (Nat.blt mid 52) (cond (Nat.blt mid 51) zc50 zc51) (cond (Nat.blt mid 53) zc52 zc53))) (cond (Nat.blt mid 58) (cond (Nat.blt mid 56) (cond (Nat.blt mid 55) zc54 zc55) (cond (Nat.blt mid 57) zc56 zc57)) (cond (Nat.blt mid 60) (cond (Nat.blt mid 59) zc58 zc59) (cond (Nat.blt mid 61) zc60 zc61)))))) (cond (Nat.blt mid 93) (cond (Nat.blt mid 77) (cond (Nat.blt mid 69) (cond (Nat.blt mid 65) (cond (Nat.blt mid 63) zc62 (cond (Nat.blt mid 64) zc63 zc64)) (cond (Nat.blt mid 67) (cond (Nat.blt mid 66) zc65 zc66) (cond (Nat.blt mid 68) zc67 zc68))) (cond (Nat.blt mid 73) (cond (Nat.blt mid 71) (cond (Nat.blt mid 70) zc69 zc70) (cond (Nat.blt mid 72) zc71 zc72)) (cond (Nat.blt mid 75) (cond (Nat.blt mid 74) zc73 zc74) (cond (Nat.blt mid 76) zc75 zc76)))) (cond (Nat.blt mid 85) (cond (Nat.blt mid 81) (cond (Nat.blt mid 79) (cond (Nat.blt mid 78) zc77 zc78) (cond (Nat.blt mid 80) zc79 zc80)) (cond (Nat.blt mid 83) (cond (Nat.blt mid 82) zc81 zc82) (cond (Nat.blt mid 84) zc83 zc84))) (cond (Nat.blt mid 89) (cond (Nat.blt mid 87) (cond (Nat.blt mid 86) zc85 zc86) (cond (Nat.blt mid 88) zc87 zc88)) (cond (Nat.blt mid 91) (cond (Nat.blt mid 90) zc89 zc90) (cond (Nat.blt mid 92) zc91 zc92))))) (cond (Nat.blt mid 109) (cond (Nat.blt mid 101) (cond (Nat.blt mid 97) (cond (Nat.blt mid 95) (cond (Nat.blt mid 94) zc93 zc94) (cond (Nat.blt mid 96) zc95 zc96)) (cond (Nat.blt mid 99) (cond (Nat.blt mid 98) zc97 zc98) (cond (Nat.blt mid 100) zc99 zc100))) (cond (Nat.blt mid 105) (cond (Nat.blt mid 103) (cond (Nat.blt mid 102) zc101 zc102) (cond (Nat.blt mid 104) zc103 zc104)) (cond (Nat.blt mid 107) (cond (Nat.blt mid 106) zc105 zc106) (cond (Nat.blt mid 108) zc107 zc108)))) (cond (Nat.blt mid 117) (cond (Nat.blt mid 113) (cond (Nat.blt mid 111) (cond (Nat.blt mid 110) zc109 zc110) (cond (Nat.blt mid 112) zc111 zc112)) (cond (Nat.blt mid 115) (cond (Nat.blt mid 114) zc113 zc114) (cond (Nat.blt mid 116) zc115 zc116))) (cond (Nat.blt mid 121) (cond (Nat.blt mid 119) (cond (Nat.blt mid 118) zc117 zc118) (cond (Nat.blt mid 120) zc119 zc120)) (cond (Nat.blt mid 123) (cond (Nat.blt mid 122) zc121 zc122) (cond (Nat.blt mid 124) zc123 zc124))))))) (cond (Nat.blt mid 187) (cond (Nat.blt mid 156) (cond (Nat.blt mid 140) (cond (Nat.blt mid 132) (cond (Nat.blt mid 128) (cond (Nat.blt mid 126) zc125 (cond (Nat.blt mid 127) zc126 zc127)) (cond (Nat.blt mid 130) (cond (Nat.blt mid 129) zc128 zc129) (cond (Nat.blt mid 131) zc130 zc131))) (cond (Nat.blt mid 136) (cond (Nat.blt mid 134) (cond (Nat.blt mid 133) zc132 zc133) (cond (Nat.blt mid 135) zc134 zc135)) (cond (Nat.blt mid 138) (cond (Nat.blt mid 137) zc136 zc137) (cond (Nat.blt mid 139) zc138 zc139)))) (cond (Nat.blt mid 148) (cond (Nat.blt mid 144) (cond (Nat.blt mid 142) (cond (Nat.blt mid 141) zc140 zc141) (cond (Nat.blt mid 143) zc142 zc143)) (cond (Nat.blt mid 146) (cond (Nat.blt mid 145) zc144 zc145) (cond (Nat.blt mid 147) zc146 zc147))) (cond (Nat.blt mid 152) (cond (Nat.blt mid 150) (cond (Nat.blt mid 149) zc148 zc149) (cond (Nat.blt mid 151) zc150 zc151)) (cond (Nat.blt mid 154) (cond (Nat.blt mid 153) zc152 zc153) (cond (Nat.blt mid 155) zc154 zc155))))) (cond (Nat.blt mid 171) (cond (Nat.blt mid 163) (cond (Nat.blt mid 159) (cond (Nat.blt mid 157) zc156 (cond (Nat.blt mid 158) zc157 zc158)) (cond (Nat.blt mid 161) (cond (Nat.blt mid 160) zc159 zc160) (cond (Nat.blt mid 162) zc161 zc162))) (cond (Nat.blt mid 167) (cond (Nat.blt mid 165) (cond (Nat.blt mid 164) zc163 zc164) (cond (Nat.blt mid 166) zc165 zc166)) (cond (Nat.blt mid 169) (cond (Nat.blt mid 168) zc167 zc168) (cond (Nat.blt mid 170) zc169 zc170)))) (cond (Nat.blt mid 179) (cond (Nat.blt mid 175) (cond (Nat.blt mid 173) (cond (Nat.blt mid 172) zc171 zc172) (cond (Nat.blt mid 174) zc173 zc174)) (cond (Nat.blt mid 177) (cond (Nat.blt mid 176) zc175 zc176) (cond (Nat.blt mid 178) zc177 zc178))) (cond (Nat.blt mid 183) (cond (Nat.blt mid 181) (cond (Nat.blt mid 180) zc179 zc180) (cond (Nat.blt mid 182) zc181 zc182)) (cond (Nat.blt mid 185) (cond (Nat.blt mid 184) zc183 zc184) (cond (Nat.blt mid 186) zc185 zc186)))))) (cond (Nat.blt mid 218) (cond (Nat.blt mid 202) (cond (Nat.blt mid 194) (cond (Nat.blt mid 190) (cond (Nat.blt mid 188) zc187 (cond (Nat.blt mid 189) zc188 zc189)) (cond (Nat.blt mid 192) (cond (Nat.blt mid 191) zc190 zc191) (cond (Nat.blt mid 193) zc192 zc193))) (cond (Nat.blt mid 198) (cond (Nat.blt mid 196) (cond (Nat.blt mid 195) zc194 zc195) (cond (Nat.blt mid 197) zc196 zc197)) (cond (Nat.blt mid 200) (cond (Nat.blt mid 199) zc198 zc199) (cond (Nat.blt mid 201) zc200 zc201)))) (cond (Nat.blt mid 210) (cond (Nat.blt mid 206) (cond (Nat.blt mid 204) (cond (Nat.blt mid 203) zc202 zc203) (cond (Nat.blt mid 205) zc204 zc205)) (cond (Nat.blt mid 208) (cond (Nat.blt mid 207) zc206 zc207) (cond (Nat.blt mid 209) zc208 zc209))) (cond (Nat.blt mid 214) (cond (Nat.blt mid 212) (cond (Nat.blt mid 211) zc210 zc211) (cond (Nat.blt mid 213) zc212 zc213)) (cond (Nat.blt mid 216) (cond (Nat.blt mid 215) zc214 zc215) (cond (Nat.blt mid 217) zc216 zc217))))) (cond (Nat.blt mid 234) (cond (Nat.blt mid 226) (cond (Nat.blt mid 222) (cond (Nat.blt mid 220) (cond (Nat.blt mid 219) zc218 zc219) (cond (Nat.blt mid 221) zc220 zc221)) (cond (Nat.blt mid 224) (cond (Nat.blt mid 223) zc222 zc223) (cond (Nat.blt mid 225) zc224 zc225))) (cond (Nat.blt mid 230) (cond (Nat.blt mid 228) (cond (Nat.blt mid 227) zc226 zc227) (cond (Nat.blt mid 229) zc228 zc229)) (cond (Nat.blt mid 232) (cond (Nat.blt mid 231) zc230 zc231) (cond (Nat.blt mid 233) zc232 zc233)))) (cond (Nat.blt mid 242) (cond (Nat.blt mid 238) (cond (Nat.blt mid 236) (cond (Nat.blt mid 235) zc234 zc235) (cond (Nat.blt mid 237) zc236 zc237)) (cond (Nat.blt mid 240) (cond (Nat.blt mid 239) zc238 zc239) (cond (Nat.blt mid 241) zc240 zc241))) (cond (Nat.blt mid 246) (cond (Nat.blt mid 244) (cond (Nat.blt mid 243) zc242 zc243) (cond (Nat.blt mid 245) zc244 zc245)) (cond (Nat.blt mid 248) (cond (Nat.blt mid 247) zc246 zc247) (cond (Nat.blt mid 249) zc248 zc249)))))))) []
def zF (mid pc : Nat) : Option zE := zfd (zC mid) pc
def zY (mid : Nat) : MethodName := (cond (Nat.blt mid 125) (cond (Nat.blt mid 62) (cond (Nat.blt mid 31) (cond (Nat.blt mid 15) (cond (Nat.blt mid 7) (cond (Nat.blt mid 3) (cond (Nat.blt mid 1) yX0_init (cond (Nat.blt mid 2) yX0_length yX0_keep)) (cond (Nat.blt mid 5) (cond (Nat.blt mid 4) yX0_giveBack yX0_become) (cond (Nat.blt mid 6) yX0_loseOldest yX1_init))) (cond (Nat.blt mid 11) (cond (Nat.blt mid 9) (cond (Nat.blt mid 8) yX1_read yX1_isAhead) (cond (Nat.blt mid 10) yX1_tellLoops yX1_readTrace)) (cond (Nat.blt mid 13) (cond (Nat.blt mid 12) yX1_loopThrough yX1_behindAll) (cond (Nat.blt mid 14) yX2_init yX2_waysDone)))) (cond (Nat.blt mid 23) (cond (Nat.blt mid 19) (cond (Nat.blt mid 17) (cond (Nat.blt mid 16) yX2_waysStuck yX2_nearestStuck) (cond (Nat.blt mid 18) yX2_oddsAbove yX2_oddsBelow)) (cond (Nat.blt mid 21) (cond (Nat.blt mid 20) yX2_goAllWays yX2_goOn) (cond (Nat.blt mid 22) yX2_endWays yX2_commonHalvings))) (cond (Nat.blt mid 27) (cond (Nat.blt mid 25) (cond (Nat.blt mid 24) yX3_init yX3_plays) (cond (Nat.blt mid 26) yX3_doBody yX3_doOne)) (cond (Nat.blt mid 29) (cond (Nat.blt mid 28) yX3_doStay yX3_doAdd) (cond (Nat.blt mid 30) yX3_doTry yX3_doOften))))) (cond (Nat.blt mid 46) (cond (Nat.blt mid 38) (cond (Nat.blt mid 34) (cond (Nat.blt mid 32) yX3_breakBy (cond (Nat.blt mid 33) yX3_enter yX3_leave)) (cond (Nat.blt mid 36) (cond (Nat.blt mid 35) yX3_takeBack yX3_put) (cond (Nat.blt mid 37) yX4_init yX4_letter))) (cond (Nat.blt mid 42) (cond (Nat.blt mid 40) (cond (Nat.blt mid 39) yX4_closesAt yX4_closerOf) (cond (Nat.blt mid 41) yX5_init yX5_isMissing)) (cond (Nat.blt mid 44) (cond (Nat.blt mid 43) yX5_isLike yX5_hasRoom) (cond (Nat.blt mid 45) yX5_find yX5_begin)))) (cond (Nat.blt mid 54) (cond (Nat.blt mid 50) (cond (Nat.blt mid 48) (cond (Nat.blt mid 47) yX5_end yX5_put) (cond (Nat.blt mid 49) yX5_give yX5_taskAt)) (cond (Nat.blt mid 52) (cond (Nat.blt mid 51) yX5_tellsTasks yX6_init) (cond (Nat.blt mid 53) yX6_become yX6_script))) (cond (Nat.blt mid 58) (cond (Nat.blt mid 56) (cond (Nat.blt mid 55) yX6_trace yX6_goneGates) (cond (Nat.blt mid 57) yX6_ruleNow yX6_stepsDone)) (cond (Nat.blt mid 60) (cond (Nat.blt mid 59) yX6_isOver yX6_isWaiting) (cond (Nat.blt mid 61) yX6_isBusy yX6_isUntouched)))))) (cond (Nat.blt mid 93) (cond (Nat.blt mid 77) (cond (Nat.blt mid 69) (cond (Nat.blt mid 65) (cond (Nat.blt mid 63) yX6_tasksThatAre (cond (Nat.blt mid 64) yX6_tasksLeft yX6_tellGate)) (cond (Nat.blt mid 67) (cond (Nat.blt mid 66) yX6_tellTask yX6_tellAll) (cond (Nat.blt mid 68) yX6_tasksThatAwait yX6_gatesOf))) (cond (Nat.blt mid 73) (cond (Nat.blt mid 71) (cond (Nat.blt mid 70) yX6_tasksInRings yX6_ringOf) (cond (Nat.blt mid 72) yX6_blockerOf yX6_changeProgram)) (cond (Nat.blt mid 75) (cond (Nat.blt mid 74) yX6_changeGates yX6_changeRule) (cond (Nat.blt mid 76) yX6_changeDraw yX6_addWholeTrace)))) (cond (Nat.blt mid 85) (cond (Nat.blt mid 81) (cond (Nat.blt mid 79) (cond (Nat.blt mid 78) yX6_layAnew yX6_takeDrawnTurn) (cond (Nat.blt mid 80) yX6_driftOnce yX6_takeTurn)) (cond (Nat.blt mid 83) (cond (Nat.blt mid 82) yX6_drawOnce yX6_awaitGate) (cond (Nat.blt mid 84) yX6_doNextStep yX6_chooseVictim))) (cond (Nat.blt mid 89) (cond (Nat.blt mid 87) (cond (Nat.blt mid 86) yX6_claim yX6_withdraw) (cond (Nat.blt mid 88) yX6_rest yX7_init)) (cond (Nat.blt mid 91) (cond (Nat.blt mid 90) yX7_length yX7_append) (cond (Nat.blt mid 92) yX7_clear yX7_findFault))))) (cond (Nat.blt mid 109) (cond (Nat.blt mid 101) (cond (Nat.blt mid 97) (cond (Nat.blt mid 95) (cond (Nat.blt mid 94) yX7_toScript yX7_accepts) (cond (Nat.blt mid 96) yX7_acceptsAtItem yX7_opens)) (cond (Nat.blt mid 99) (cond (Nat.blt mid 98) yX7_closes yX8_init) (cond (Nat.blt mid 100) yX8_length yX8_breaks))) (cond (Nat.blt mid 105) (cond (Nat.blt mid 103) (cond (Nat.blt mid 102) yX8_hasStep yX8_kindAt) (cond (Nat.blt mid 104) yX8_gateAt yX8_addAt)) (cond (Nat.blt mid 107) (cond (Nat.blt mid 106) yX8_addTo yX8_insideAt) (cond (Nat.blt mid 108) yX8_entersAt yX8_canGo)))) (cond (Nat.blt mid 117) (cond (Nat.blt mid 113) (cond (Nat.blt mid 111) (cond (Nat.blt mid 110) yX8_summary yX8_detail) (cond (Nat.blt mid 112) yX9_init yX9_type)) (cond (Nat.blt mid 115) (cond (Nat.blt mid 114) yX9_program yX9_gone) (cond (Nat.blt mid 116) yX9_run yX9_alone))) (cond (Nat.blt mid 121) (cond (Nat.blt mid 119) (cond (Nat.blt mid 118) yX9_step yX9_rule) (cond (Nat.blt mid 120) yX9_turn yX9_go)) (cond (Nat.blt mid 123) (cond (Nat.blt mid 122) yX9_lay yX9_gate) (cond (Nat.blt mid 124) yX9_task yX9_count))))))) (cond (Nat.blt mid 187) (cond (Nat.blt mid 156) (cond (Nat.blt mid 140) (cond (Nat.blt mid 132) (cond (Nat.blt mid 128) (cond (Nat.blt mid 126) yX9_ahead (cond (Nat.blt mid 127) yX9_loops yX9_ways)) (cond (Nat.blt mid 130) (cond (Nat.blt mid 129) yX9_odds yX9_near) (cond (Nat.blt mid 131) yX9_drift yX9_undo))) (cond (Nat.blt mid 136) (cond (Nat.blt mid 134) (cond (Nat.blt mid 133) yX9_seed yX9_image) (cond (Nat.blt mid 135) yX9_restore yX9_tried)) (cond (Nat.blt mid 138) (cond (Nat.blt mid 137) yX9_film yX9_sheet) (cond (Nat.blt mid 139) yX9_drop yX9_item)))) (cond (Nat.blt mid 148) (cond (Nat.blt mid 144) (cond (Nat.blt mid 142) (cond (Nat.blt mid 141) yX9_copy yX9_isNoTask) (cond (Nat.blt mid 143) yX9_isNoGate yX9_isNoPair)) (cond (Nat.blt mid 146) (cond (Nat.blt mid 145) yX9_isNoSheet yX9_isNoLane) (cond (Nat.blt mid 147) yX9_bit yX9_has))) (cond (Nat.blt mid 152) (cond (Nat.blt mid 150) (cond (Nat.blt mid 149) yX9_told yX9_tryRow) (cond (Nat.blt mid 151) yX10_init yX10_in)) (cond (Nat.blt mid 154) (cond (Nat.blt mid 153) yX10_has yX10_sizeOf) (cond (Nat.blt mid 155) yX10_isTask yX10_isGate))))) (cond (Nat.blt mid 171) (cond (Nat.blt mid 163) (cond (Nat.blt mid 159) (cond (Nat.blt mid 157) yX10_of (cond (Nat.blt mid 158) yX10_put yX10_writes)) (cond (Nat.blt mid 161) (cond (Nat.blt mid 160) yX10_opens yX10_enters) (cond (Nat.blt mid 162) yX10_leaves yX10_takesBack))) (cond (Nat.blt mid 167) (cond (Nat.blt mid 165) (cond (Nat.blt mid 164) yX10_letterAt yX10_shutOf) (cond (Nat.blt mid 166) yX10_breaks yX10_visits)) (cond (Nat.blt mid 169) (cond (Nat.blt mid 168) yX10_shuts yX10_laysTrace) (cond (Nat.blt mid 170) yX10_laysTraces yX10_kindAt)))) (cond (Nat.blt mid 179) (cond (Nat.blt mid 175) (cond (Nat.blt mid 173) (cond (Nat.blt mid 172) yX10_gateAt yX10_alone) (cond (Nat.blt mid 174) yX10_step yX10_holds)) (cond (Nat.blt mid 177) (cond (Nat.blt mid 176) yX10_notes yX10_returns) (cond (Nat.blt mid 178) yX10_isBusy yX10_idles))) (cond (Nat.blt mid 183) (cond (Nat.blt mid 181) (cond (Nat.blt mid 180) yX10_type yX10_here) (cond (Nat.blt mid 182) yX10_takes yX10_isTaken)) (cond (Nat.blt mid 185) (cond (Nat.blt mid 184) yX10_isOpened yX10_shutBy) (cond (Nat.blt mid 186) yX10_isVisit yX10_isBody)))))) (cond (Nat.blt mid 218) (cond (Nat.blt mid 202) (cond (Nat.blt mid 194) (cond (Nat.blt mid 190) (cond (Nat.blt mid 188) yX10_isKept (cond (Nat.blt mid 189) yX10_program yX10_gone)) (cond (Nat.blt mid 192) (cond (Nat.blt mid 191) yX10_comes yX10_run) (cond (Nat.blt mid 193) yX10_insides yX10_heldBy))) (cond (Nat.blt mid 198) (cond (Nat.blt mid 196) (cond (Nat.blt mid 195) yX10_holder yX10_waitsFor) (cond (Nat.blt mid 197) yX10_nextOf yX10_ring)) (cond (Nat.blt mid 200) (cond (Nat.blt mid 199) yX10_weight yX10_victim) (cond (Nat.blt mid 201) yX10_falls yX10_isOut)))) (cond (Nat.blt mid 210) (cond (Nat.blt mid 206) (cond (Nat.blt mid 204) (cond (Nat.blt mid 203) yX10_turns yX10_waits) (cond (Nat.blt mid 205) yX10_turn yX10_draws)) (cond (Nat.blt mid 208) (cond (Nat.blt mid 207) yX10_lefts yX10_nth) (cond (Nat.blt mid 209) yX10_go yX10_lays))) (cond (Nat.blt mid 214) (cond (Nat.blt mid 212) (cond (Nat.blt mid 211) yX10_rules yX10_lay) (cond (Nat.blt mid 213) yX10_rule yX10_waiters)) (cond (Nat.blt mid 216) (cond (Nat.blt mid 215) yX10_gate yX10_task) (cond (Nat.blt mid 217) yX10_those yX10_ringed))))) (cond (Nat.blt mid 234) (cond (Nat.blt mid 226) (cond (Nat.blt mid 222) (cond (Nat.blt mid 220) (cond (Nat.blt mid 219) yX10_count yX10_isAhead) (cond (Nat.blt mid 221) yX10_ahead yX10_loopOf)) (cond (Nat.blt mid 224) (cond (Nat.blt mid 223) yX10_loops yX10_isShut) (cond (Nat.blt mid 225) yX10_goesOn yX10_goesBoth))) (cond (Nat.blt mid 230) (cond (Nat.blt mid 228) (cond (Nat.blt mid 227) yX10_areTwo yX10_ways) (cond (Nat.blt mid 229) yX10_odds yX10_near)) (cond (Nat.blt mid 232) (cond (Nat.blt mid 231) yX10_drift yX10_undo) (cond (Nat.blt mid 233) yX10_seed yX10_image)))) (cond (Nat.blt mid 242) (cond (Nat.blt mid 238) (cond (Nat.blt mid 236) (cond (Nat.blt mid 235) yX10_restore yX10_isSheet) (cond (Nat.blt mid 237) yX10_cut yX10_found)) (cond (Nat.blt mid 240) (cond (Nat.blt mid 239) yX10_tried yX10_film) (cond (Nat.blt mid 241) yX10_sheet yX10_drop))) (cond (Nat.blt mid 246) (cond (Nat.blt mid 244) (cond (Nat.blt mid 243) yX10_item yX10_copy) (cond (Nat.blt mid 245) yJ6_bitCount_0f7a4 yJ7_fill_d0a16)) (cond (Nat.blt mid 248) (cond (Nat.blt mid 247) yJ7_fill_53178 yJ7_copyOf_59c91) (cond (Nat.blt mid 249) yJ7_copyOf_d664f yL_law))))))))
def zpl (mid : Nat) : Nat := (cond (Nat.blt mid 125) (cond (Nat.blt mid 62) (cond (Nat.blt mid 31) (cond (Nat.blt mid 15) (cond (Nat.blt mid 7) (cond (Nat.blt mid 3) (cond (Nat.blt mid 1) 334 (cond (Nat.blt mid 2) 815 590)) (cond (Nat.blt mid 5) (cond (Nat.blt mid 4) 952 969) (cond (Nat.blt mid 6) 594 350))) (cond (Nat.blt mid 11) (cond (Nat.blt mid 9) (cond (Nat.blt mid 8) 831 849) (cond (Nat.blt mid 10) 857 837)) (cond (Nat.blt mid 13) (cond (Nat.blt mid 12) 861 865) (cond (Nat.blt mid 14) 360 904)))) (cond (Nat.blt mid 23) (cond (Nat.blt mid 19) (cond (Nat.blt mid 17) (cond (Nat.blt mid 16) 908 932) (cond (Nat.blt mid 18) 916 924)) (cond (Nat.blt mid 21) (cond (Nat.blt mid 20) 878 887) (cond (Nat.blt mid 22) 899 920))) (cond (Nat.blt mid 27) (cond (Nat.blt mid 25) (cond (Nat.blt mid 24) 141 517) (cond (Nat.blt mid 26) 522 534)) (cond (Nat.blt mid 29) (cond (Nat.blt mid 28) 567 586) (cond (Nat.blt mid 30) 543 560))))) (cond (Nat.blt mid 46) (cond (Nat.blt mid 38) (cond (Nat.blt mid 34) (cond (Nat.blt mid 32) 539 (cond (Nat.blt mid 33) 574 582)) (cond (Nat.blt mid 36) (cond (Nat.blt mid 35) 547 551) (cond (Nat.blt mid 37) 147 530))) (cond (Nat.blt mid 42) (cond (Nat.blt mid 40) (cond (Nat.blt mid 39) 526 555) (cond (Nat.blt mid 41) 393 991)) (cond (Nat.blt mid 44) (cond (Nat.blt mid 43) 1055 995) (cond (Nat.blt mid 45) 987 1033)))) (cond (Nat.blt mid 54) (cond (Nat.blt mid 50) (cond (Nat.blt mid 48) (cond (Nat.blt mid 47) 1043 1025) (cond (Nat.blt mid 49) 1060 1003)) (cond (Nat.blt mid 52) (cond (Nat.blt mid 51) 999 279) (cond (Nat.blt mid 53) 598 628))) (cond (Nat.blt mid 58) (cond (Nat.blt mid 56) (cond (Nat.blt mid 55) 610 513) (cond (Nat.blt mid 57) 674 1021)) (cond (Nat.blt mid 60) (cond (Nat.blt mid 59) 686 1013) (cond (Nat.blt mid 61) 464 782)))))) (cond (Nat.blt mid 93) (cond (Nat.blt mid 77) (cond (Nat.blt mid 69) (cond (Nat.blt mid 65) (cond (Nat.blt mid 63) 468 (cond (Nat.blt mid 64) 760 794)) (cond (Nat.blt mid 67) (cond (Nat.blt mid 66) 807 819) (cond (Nat.blt mid 68) 799 724))) (cond (Nat.blt mid 73) (cond (Nat.blt mid 71) (cond (Nat.blt mid 70) 823 706) (cond (Nat.blt mid 72) 710 602)) (cond (Nat.blt mid 75) (cond (Nat.blt mid 74) 632 678) (cond (Nat.blt mid 76) 960 641)))) (cond (Nat.blt mid 85) (cond (Nat.blt mid 81) (cond (Nat.blt mid 79) (cond (Nat.blt mid 78) 786 764) (cond (Nat.blt mid 80) 940 690)) (cond (Nat.blt mid 83) (cond (Nat.blt mid 82) 768 702) (cond (Nat.blt mid 84) 738 715))) (cond (Nat.blt mid 89) (cond (Nat.blt mid 87) (cond (Nat.blt mid 86) 720 734) (cond (Nat.blt mid 88) 606 118)) (cond (Nat.blt mid 91) (cond (Nat.blt mid 90) 453 449) (cond (Nat.blt mid 92) 618 479))))) (cond (Nat.blt mid 109) (cond (Nat.blt mid 101) (cond (Nat.blt mid 97) (cond (Nat.blt mid 95) (cond (Nat.blt mid 94) 499 483) (cond (Nat.blt mid 96) 491 487)) (cond (Nat.blt mid 99) (cond (Nat.blt mid 98) 495 225) (cond (Nat.blt mid 100) 614 752))) (cond (Nat.blt mid 105) (cond (Nat.blt mid 103) (cond (Nat.blt mid 102) 666 698) (cond (Nat.blt mid 104) 743 748)) (cond (Nat.blt mid 107) (cond (Nat.blt mid 106) 646 843) (cond (Nat.blt mid 108) 694 892)))) (cond (Nat.blt mid 117) (cond (Nat.blt mid 113) (cond (Nat.blt mid 111) (cond (Nat.blt mid 110) 654 662) (cond (Nat.blt mid 112) 110 445)) (cond (Nat.blt mid 115) (cond (Nat.blt mid 114) 457 622) (cond (Nat.blt mid 116) 637 650))) (cond (Nat.blt mid 121) (cond (Nat.blt mid 119) (cond (Nat.blt mid 118) 658 670) (cond (Nat.blt mid 120) 682 756)) (cond (Nat.blt mid 123) (cond (Nat.blt mid 122) 778 790) (cond (Nat.blt mid 124) 803 811))))))) (cond (Nat.blt mid 187) (cond (Nat.blt mid 156) (cond (Nat.blt mid 140) (cond (Nat.blt mid 132) (cond (Nat.blt mid 128) (cond (Nat.blt mid 126) 827 (cond (Nat.blt mid 127) 853 870)) (cond (Nat.blt mid 130) (cond (Nat.blt mid 129) 912 928) (cond (Nat.blt mid 131) 936 948))) (cond (Nat.blt mid 136) (cond (Nat.blt mid 134) (cond (Nat.blt mid 133) 956 964) (cond (Nat.blt mid 135) 973 977)) (cond (Nat.blt mid 138) (cond (Nat.blt mid 137) 1017 1029) (cond (Nat.blt mid 139) 1038 1047)))) (cond (Nat.blt mid 148) (cond (Nat.blt mid 144) (cond (Nat.blt mid 142) (cond (Nat.blt mid 141) 1051 460) (cond (Nat.blt mid 143) 563 873)) (cond (Nat.blt mid 146) (cond (Nat.blt mid 145) 980 983) (cond (Nat.blt mid 147) 471 570))) (cond (Nat.blt mid 152) (cond (Nat.blt mid 150) (cond (Nat.blt mid 149) 475 1008) (cond (Nat.blt mid 151) 1066 1088)) (cond (Nat.blt mid 154) (cond (Nat.blt mid 153) 1095 1425) (cond (Nat.blt mid 155) 1278 1365))))) (cond (Nat.blt mid 171) (cond (Nat.blt mid 163) (cond (Nat.blt mid 159) (cond (Nat.blt mid 157) 1338 (cond (Nat.blt mid 158) 1071 1107)) (cond (Nat.blt mid 161) (cond (Nat.blt mid 160) 1123 1119) (cond (Nat.blt mid 162) 1111 1103))) (cond (Nat.blt mid 167) (cond (Nat.blt mid 165) (cond (Nat.blt mid 164) 1083 1115) (cond (Nat.blt mid 166) 1099 1092)) (cond (Nat.blt mid 169) (cond (Nat.blt mid 168) 1129 1079) (cond (Nat.blt mid 170) 1075 1287)))) (cond (Nat.blt mid 179) (cond (Nat.blt mid 175) (cond (Nat.blt mid 173) (cond (Nat.blt mid 172) 1291 1275) (cond (Nat.blt mid 174) 1283 1342)) (cond (Nat.blt mid 177) (cond (Nat.blt mid 176) 1354 1358) (cond (Nat.blt mid 178) 1334 1346))) (cond (Nat.blt mid 183) (cond (Nat.blt mid 181) (cond (Nat.blt mid 180) 1295 1309) (cond (Nat.blt mid 182) 1317 1325)) (cond (Nat.blt mid 185) (cond (Nat.blt mid 184) 1321 1330) (cond (Nat.blt mid 186) 1313 1305)))))) (cond (Nat.blt mid 218) (cond (Nat.blt mid 202) (cond (Nat.blt mid 194) (cond (Nat.blt mid 190) (cond (Nat.blt mid 188) 1350 (cond (Nat.blt mid 189) 1301 1362)) (cond (Nat.blt mid 192) (cond (Nat.blt mid 191) 1374 1370) (cond (Nat.blt mid 193) 1394 1422))) (cond (Nat.blt mid 198) (cond (Nat.blt mid 196) (cond (Nat.blt mid 195) 1390 1410) (cond (Nat.blt mid 197) 1406 1402)) (cond (Nat.blt mid 200) (cond (Nat.blt mid 199) 1418 1414) (cond (Nat.blt mid 201) 1429 1382)))) (cond (Nat.blt mid 210) (cond (Nat.blt mid 206) (cond (Nat.blt mid 204) (cond (Nat.blt mid 203) 1386 1398) (cond (Nat.blt mid 205) 1378 1442)) (cond (Nat.blt mid 208) (cond (Nat.blt mid 207) 1438 1449) (cond (Nat.blt mid 209) 1433 1457))) (cond (Nat.blt mid 214) (cond (Nat.blt mid 212) (cond (Nat.blt mid 211) 1465 1453) (cond (Nat.blt mid 213) 1461 1475)) (cond (Nat.blt mid 216) (cond (Nat.blt mid 215) 1470 1479) (cond (Nat.blt mid 217) 1487 1491))))) (cond (Nat.blt mid 234) (cond (Nat.blt mid 226) (cond (Nat.blt mid 222) (cond (Nat.blt mid 220) (cond (Nat.blt mid 219) 1483 1499) (cond (Nat.blt mid 221) 1495 1508)) (cond (Nat.blt mid 224) (cond (Nat.blt mid 223) 1503 1529) (cond (Nat.blt mid 225) 1525 1520))) (cond (Nat.blt mid 230) (cond (Nat.blt mid 228) (cond (Nat.blt mid 227) 1515 1512) (cond (Nat.blt mid 229) 1533 1537)) (cond (Nat.blt mid 232) (cond (Nat.blt mid 231) 1541 1545) (cond (Nat.blt mid 233) 1549 1553)))) (cond (Nat.blt mid 242) (cond (Nat.blt mid 238) (cond (Nat.blt mid 236) (cond (Nat.blt mid 235) 1557 1564) (cond (Nat.blt mid 237) 1576 1569)) (cond (Nat.blt mid 240) (cond (Nat.blt mid 239) 1561 1573) (cond (Nat.blt mid 241) 1580 1584))) (cond (Nat.blt mid 246) (cond (Nat.blt mid 244) (cond (Nat.blt mid 243) 1588 1592) (cond (Nat.blt mid 245) 727 881)) (cond (Nat.blt mid 248) (cond (Nat.blt mid 247) 286 229) (cond (Nat.blt mid 249) 503 99999))))))))
def zB (mid : Nat) : ByteArray := match lw_tbl[zpl mid]? with
  | some (.code _ b _ _) => b
  | _ => code
def zX (mid : Nat) : Nat := (cond (Nat.blt mid 125) (cond (Nat.blt mid 62) (cond (Nat.blt mid 31) (cond (Nat.blt mid 15) (cond (Nat.blt mid 7) (cond (Nat.blt mid 3) (cond (Nat.blt mid 1) 4 (cond (Nat.blt mid 2) 1 2)) (cond (Nat.blt mid 5) (cond (Nat.blt mid 4) 2 3) (cond (Nat.blt mid 6) 3 1))) (cond (Nat.blt mid 11) (cond (Nat.blt mid 9) (cond (Nat.blt mid 8) 3 3) (cond (Nat.blt mid 10) 6 6)) (cond (Nat.blt mid 13) (cond (Nat.blt mid 12) 4 4) (cond (Nat.blt mid 14) 2 1)))) (cond (Nat.blt mid 23) (cond (Nat.blt mid 19) (cond (Nat.blt mid 17) (cond (Nat.blt mid 16) 1 1) (cond (Nat.blt mid 18) 1 1)) (cond (Nat.blt mid 21) (cond (Nat.blt mid 20) 5 11) (cond (Nat.blt mid 22) 7 2))) (cond (Nat.blt mid 27) (cond (Nat.blt mid 25) (cond (Nat.blt mid 24) 1 3) (cond (Nat.blt mid 26) 5 4)) (cond (Nat.blt mid 29) (cond (Nat.blt mid 28) 6 5) (cond (Nat.blt mid 30) 5 8))))) (cond (Nat.blt mid 46) (cond (Nat.blt mid 38) (cond (Nat.blt mid 34) (cond (Nat.blt mid 32) 3 (cond (Nat.blt mid 33) 2 2)) (cond (Nat.blt mid 36) (cond (Nat.blt mid 35) 4 4) (cond (Nat.blt mid 37) 2 2))) (cond (Nat.blt mid 42) (cond (Nat.blt mid 40) (cond (Nat.blt mid 39) 3 4) (cond (Nat.blt mid 41) 1 1)) (cond (Nat.blt mid 44) (cond (Nat.blt mid 43) 2 3) (cond (Nat.blt mid 45) 4 3)))) (cond (Nat.blt mid 54) (cond (Nat.blt mid 50) (cond (Nat.blt mid 48) (cond (Nat.blt mid 47) 2 4) (cond (Nat.blt mid 49) 5 2)) (cond (Nat.blt mid 52) (cond (Nat.blt mid 51) 4 4) (cond (Nat.blt mid 53) 3 2))) (cond (Nat.blt mid 58) (cond (Nat.blt mid 56) (cond (Nat.blt mid 55) 2 1) (cond (Nat.blt mid 57) 1 2)) (cond (Nat.blt mid 60) (cond (Nat.blt mid 59) 2 2) (cond (Nat.blt mid 61) 1 1)))))) (cond (Nat.blt mid 93) (cond (Nat.blt mid 77) (cond (Nat.blt mid 69) (cond (Nat.blt mid 65) (cond (Nat.blt mid 63) 4 (cond (Nat.blt mid 64) 1 3)) (cond (Nat.blt mid 67) (cond (Nat.blt mid 66) 3 2) (cond (Nat.blt mid 68) 4 4))) (cond (Nat.blt mid 73) (cond (Nat.blt mid 71) (cond (Nat.blt mid 70) 3 5) (cond (Nat.blt mid 72) 3 4)) (cond (Nat.blt mid 75) (cond (Nat.blt mid 74) 4 2) (cond (Nat.blt mid 76) 3 2)))) (cond (Nat.blt mid 85) (cond (Nat.blt mid 81) (cond (Nat.blt mid 79) (cond (Nat.blt mid 78) 3 6) (cond (Nat.blt mid 80) 4 3)) (cond (Nat.blt mid 83) (cond (Nat.blt mid 82) 1 5) (cond (Nat.blt mid 84) 5 4))) (cond (Nat.blt mid 89) (cond (Nat.blt mid 87) (cond (Nat.blt mid 86) 2 3) (cond (Nat.blt mid 88) 2 1)) (cond (Nat.blt mid 91) (cond (Nat.blt mid 90) 1 2) (cond (Nat.blt mid 92) 1 2))))) (cond (Nat.blt mid 109) (cond (Nat.blt mid 101) (cond (Nat.blt mid 97) (cond (Nat.blt mid 95) (cond (Nat.blt mid 94) 4 2) (cond (Nat.blt mid 96) 2 2)) (cond (Nat.blt mid 99) (cond (Nat.blt mid 98) 2 2) (cond (Nat.blt mid 100) 1 1))) (cond (Nat.blt mid 105) (cond (Nat.blt mid 103) (cond (Nat.blt mid 102) 2 2) (cond (Nat.blt mid 104) 2 2)) (cond (Nat.blt mid 107) (cond (Nat.blt mid 106) 5 2) (cond (Nat.blt mid 108) 2 4)))) (cond (Nat.blt mid 117) (cond (Nat.blt mid 113) (cond (Nat.blt mid 111) (cond (Nat.blt mid 110) 2 3) (cond (Nat.blt mid 112) 4 2)) (cond (Nat.blt mid 115) (cond (Nat.blt mid 114) 3 4) (cond (Nat.blt mid 116) 2 3))) (cond (Nat.blt mid 121) (cond (Nat.blt mid 119) (cond (Nat.blt mid 118) 4 3) (cond (Nat.blt mid 120) 2 3)) (cond (Nat.blt mid 123) (cond (Nat.blt mid 122) 1 3) (cond (Nat.blt mid 124) 3 2))))))) (cond (Nat.blt mid 187) (cond (Nat.blt mid 156) (cond (Nat.blt mid 140) (cond (Nat.blt mid 132) (cond (Nat.blt mid 128) (cond (Nat.blt mid 126) 3 (cond (Nat.blt mid 127) 2 4)) (cond (Nat.blt mid 130) (cond (Nat.blt mid 129) 4 3) (cond (Nat.blt mid 131) 3 1))) (cond (Nat.blt mid 136) (cond (Nat.blt mid 134) (cond (Nat.blt mid 133) 2 1) (cond (Nat.blt mid 135) 1 6)) (cond (Nat.blt mid 138) (cond (Nat.blt mid 137) 6 4) (cond (Nat.blt mid 139) 2 7)))) (cond (Nat.blt mid 148) (cond (Nat.blt mid 144) (cond (Nat.blt mid 142) (cond (Nat.blt mid 141) 8 1) (cond (Nat.blt mid 143) 1 2)) (cond (Nat.blt mid 146) (cond (Nat.blt mid 145) 1 1) (cond (Nat.blt mid 147) 1 2))) (cond (Nat.blt mid 152) (cond (Nat.blt mid 150) (cond (Nat.blt mid 149) 4 6) (cond (Nat.blt mid 151) 2 6)) (cond (Nat.blt mid 154) (cond (Nat.blt mid 153) 2 3) (cond (Nat.blt mid 155) 2 1))))) (cond (Nat.blt mid 171) (cond (Nat.blt mid 163) (cond (Nat.blt mid 159) (cond (Nat.blt mid 157) 3 (cond (Nat.blt mid 158) 4 5)) (cond (Nat.blt mid 161) (cond (Nat.blt mid 160) 3 3) (cond (Nat.blt mid 162) 2 2))) (cond (Nat.blt mid 167) (cond (Nat.blt mid 165) (cond (Nat.blt mid 164) 3 6) (cond (Nat.blt mid 166) 5 5)) (cond (Nat.blt mid 169) (cond (Nat.blt mid 168) 4 3) (cond (Nat.blt mid 170) 2 3)))) (cond (Nat.blt mid 179) (cond (Nat.blt mid 175) (cond (Nat.blt mid 173) (cond (Nat.blt mid 172) 3 3) (cond (Nat.blt mid 174) 4 2)) (cond (Nat.blt mid 177) (cond (Nat.blt mid 176) 2 2) (cond (Nat.blt mid 178) 3 2))) (cond (Nat.blt mid 183) (cond (Nat.blt mid 181) (cond (Nat.blt mid 180) 2 1) (cond (Nat.blt mid 182) 1 2)) (cond (Nat.blt mid 185) (cond (Nat.blt mid 184) 1 1) (cond (Nat.blt mid 186) 1 3)))))) (cond (Nat.blt mid 218) (cond (Nat.blt mid 202) (cond (Nat.blt mid 194) (cond (Nat.blt mid 190) (cond (Nat.blt mid 188) 2 (cond (Nat.blt mid 189) 5 3)) (cond (Nat.blt mid 192) (cond (Nat.blt mid 191) 5 2) (cond (Nat.blt mid 193) 6 5))) (cond (Nat.blt mid 198) (cond (Nat.blt mid 196) (cond (Nat.blt mid 195) 4 2) (cond (Nat.blt mid 197) 2 5)) (cond (Nat.blt mid 200) (cond (Nat.blt mid 199) 2 4) (cond (Nat.blt mid 201) 2 2)))) (cond (Nat.blt mid 210) (cond (Nat.blt mid 206) (cond (Nat.blt mid 204) (cond (Nat.blt mid 203) 4 4) (cond (Nat.blt mid 205) 2 1)) (cond (Nat.blt mid 208) (cond (Nat.blt mid 207) 3 4) (cond (Nat.blt mid 209) 5 3))) (cond (Nat.blt mid 214) (cond (Nat.blt mid 212) (cond (Nat.blt mid 211) 3 2) (cond (Nat.blt mid 213) 3 4)) (cond (Nat.blt mid 216) (cond (Nat.blt mid 215) 4 3) (cond (Nat.blt mid 217) 4 3))))) (cond (Nat.blt mid 234) (cond (Nat.blt mid 226) (cond (Nat.blt mid 222) (cond (Nat.blt mid 220) (cond (Nat.blt mid 219) 2 6) (cond (Nat.blt mid 221) 3 6)) (cond (Nat.blt mid 224) (cond (Nat.blt mid 223) 6 4) (cond (Nat.blt mid 225) 11 5))) (cond (Nat.blt mid 230) (cond (Nat.blt mid 228) (cond (Nat.blt mid 227) 2 4) (cond (Nat.blt mid 229) 8 3)) (cond (Nat.blt mid 232) (cond (Nat.blt mid 231) 6 2) (cond (Nat.blt mid 233) 3 2)))) (cond (Nat.blt mid 242) (cond (Nat.blt mid 238) (cond (Nat.blt mid 236) (cond (Nat.blt mid 235) 2 1) (cond (Nat.blt mid 237) 3 5)) (cond (Nat.blt mid 240) (cond (Nat.blt mid 239) 10 6) (cond (Nat.blt mid 241) 5 2))) (cond (Nat.blt mid 246) (cond (Nat.blt mid 244) (cond (Nat.blt mid 243) 7 7) (cond (Nat.blt mid 245) 1 5)) (cond (Nat.blt mid 248) (cond (Nat.blt mid 247) 4 3) (cond (Nat.blt mid 249) 3 4))))))))
def zT (mid : Nat) : Option FieldType := (cond (Nat.blt mid 125) (cond (Nat.blt mid 62) (cond (Nat.blt mid 31) (cond (Nat.blt mid 15) (cond (Nat.blt mid 7) (cond (Nat.blt mid 3) (cond (Nat.blt mid 1) none (cond (Nat.blt mid 2) (some .int) none)) (cond (Nat.blt mid 5) (cond (Nat.blt mid 4) none none) (cond (Nat.blt mid 6) none none))) (cond (Nat.blt mid 11) (cond (Nat.blt mid 9) (cond (Nat.blt mid 8) none (some .boolean)) (cond (Nat.blt mid 10) (some .int) none)) (cond (Nat.blt mid 13) (cond (Nat.blt mid 12) (some .int) (some .int)) (cond (Nat.blt mid 14) none (some .long))))) (cond (Nat.blt mid 23) (cond (Nat.blt mid 19) (cond (Nat.blt mid 17) (cond (Nat.blt mid 16) (some .long) (some .int)) (cond (Nat.blt mid 18) (some .long) (some .long))) (cond (Nat.blt mid 21) (cond (Nat.blt mid 20) none none) (cond (Nat.blt mid 22) none (some .int)))) (cond (Nat.blt mid 27) (cond (Nat.blt mid 25) (cond (Nat.blt mid 24) none (some .boolean)) (cond (Nat.blt mid 26) (some .int) (some .int))) (cond (Nat.blt mid 29) (cond (Nat.blt mid 28) (some .int) (some .int)) (cond (Nat.blt mid 30) (some .int) (some .int)))))) (cond (Nat.blt mid 46) (cond (Nat.blt mid 38) (cond (Nat.blt mid 34) (cond (Nat.blt mid 32) (some .int) (cond (Nat.blt mid 33) none none)) (cond (Nat.blt mid 36) (cond (Nat.blt mid 35) none none) (cond (Nat.blt mid 37) none (some .char)))) (cond (Nat.blt mid 42) (cond (Nat.blt mid 40) (cond (Nat.blt mid 39) (some .boolean) (some .int)) (cond (Nat.blt mid 41) none (some .boolean))) (cond (Nat.blt mid 44) (cond (Nat.blt mid 43) (some .boolean) (some .boolean)) (cond (Nat.blt mid 45) (some .int) none)))) (cond (Nat.blt mid 54) (cond (Nat.blt mid 50) (cond (Nat.blt mid 48) (cond (Nat.blt mid 47) (some .int) none) (cond (Nat.blt mid 49) none (some .int))) (cond (Nat.blt mid 52) (cond (Nat.blt mid 51) (some .boolean) none) (cond (Nat.blt mid 53) none (some (.object "GateTable$Script"))))) (cond (Nat.blt mid 58) (cond (Nat.blt mid 56) (cond (Nat.blt mid 55) (some (.object "GateTable$Trace")) (some .int)) (cond (Nat.blt mid 57) (some .int) (some .int))) (cond (Nat.blt mid 60) (cond (Nat.blt mid 59) (some .boolean) (some .boolean)) (cond (Nat.blt mid 61) (some .boolean) (some .boolean))))))) (cond (Nat.blt mid 93) (cond (Nat.blt mid 77) (cond (Nat.blt mid 69) (cond (Nat.blt mid 65) (cond (Nat.blt mid 63) (some .int) (cond (Nat.blt mid 64) (some .int) (some .int))) (cond (Nat.blt mid 67) (cond (Nat.blt mid 66) (some .int) (some .int)) (cond (Nat.blt mid 68) (some .int) (some .int)))) (cond (Nat.blt mid 73) (cond (Nat.blt mid 71) (cond (Nat.blt mid 70) (some .int) (some .int)) (cond (Nat.blt mid 72) (some .int) none)) (cond (Nat.blt mid 75) (cond (Nat.blt mid 74) none none) (cond (Nat.blt mid 76) (some .int) none)))) (cond (Nat.blt mid 85) (cond (Nat.blt mid 81) (cond (Nat.blt mid 79) (cond (Nat.blt mid 78) (some .int) none) (cond (Nat.blt mid 80) none (some .int))) (cond (Nat.blt mid 83) (cond (Nat.blt mid 82) (some .int) (some .int)) (cond (Nat.blt mid 84) none (some .int)))) (cond (Nat.blt mid 89) (cond (Nat.blt mid 87) (cond (Nat.blt mid 86) (some .int) none) (cond (Nat.blt mid 88) none none)) (cond (Nat.blt mid 91) (cond (Nat.blt mid 90) (some .int) (some .boolean)) (cond (Nat.blt mid 92) none (some .int)))))) (cond (Nat.blt mid 109) (cond (Nat.blt mid 101) (cond (Nat.blt mid 97) (cond (Nat.blt mid 95) (cond (Nat.blt mid 94) (some (.object "GateTable$Script")) (some .boolean)) (cond (Nat.blt mid 96) (some .boolean) (some .boolean))) (cond (Nat.blt mid 99) (cond (Nat.blt mid 98) (some .boolean) none) (cond (Nat.blt mid 100) (some .int) (some .boolean)))) (cond (Nat.blt mid 105) (cond (Nat.blt mid 103) (cond (Nat.blt mid 102) (some .boolean) (some .int)) (cond (Nat.blt mid 104) (some .int) (some .int))) (cond (Nat.blt mid 107) (cond (Nat.blt mid 106) none (some .int)) (cond (Nat.blt mid 108) (some .int) (some .boolean))))) (cond (Nat.blt mid 117) (cond (Nat.blt mid 113) (cond (Nat.blt mid 111) (cond (Nat.blt mid 110) (some .int) (some .int)) (cond (Nat.blt mid 112) none (some .int))) (cond (Nat.blt mid 115) (cond (Nat.blt mid 114) (some .int) (some .int)) (cond (Nat.blt mid 116) (some .int) (some .int)))) (cond (Nat.blt mid 121) (cond (Nat.blt mid 119) (cond (Nat.blt mid 118) (some .int) (some .int)) (cond (Nat.blt mid 120) (some .int) (some .int))) (cond (Nat.blt mid 123) (cond (Nat.blt mid 122) (some .int) (some .int)) (cond (Nat.blt mid 124) (some .int) (some .int)))))))) (cond (Nat.blt mid 187) (cond (Nat.blt mid 156) (cond (Nat.blt mid 140) (cond (Nat.blt mid 132) (cond (Nat.blt mid 128) (cond (Nat.blt mid 126) (some .int) (cond (Nat.blt mid 127) (some .int) (some .long))) (cond (Nat.blt mid 130) (cond (Nat.blt mid 129) (some .long) (some .int)) (cond (Nat.blt mid 131) (some .int) (some .int)))) (cond (Nat.blt mid 136) (cond (Nat.blt mid 134) (cond (Nat.blt mid 133) (some .int) (some .int)) (cond (Nat.blt mid 135) (some .int) (some .int))) (cond (Nat.blt mid 138) (cond (Nat.blt mid 137) (some .int) (some .int)) (cond (Nat.blt mid 139) (some .int) (some .int))))) (cond (Nat.blt mid 148) (cond (Nat.blt mid 144) (cond (Nat.blt mid 142) (cond (Nat.blt mid 141) (some .int) (some .boolean)) (cond (Nat.blt mid 143) (some .boolean) (some .boolean))) (cond (Nat.blt mid 146) (cond (Nat.blt mid 145) (some .boolean) (some .boolean)) (cond (Nat.blt mid 147) (some .int) (some .boolean)))) (cond (Nat.blt mid 152) (cond (Nat.blt mid 150) (cond (Nat.blt mid 149) (some .int) (some .int)) (cond (Nat.blt mid 151) none (some .boolean))) (cond (Nat.blt mid 154) (cond (Nat.blt mid 153) (some .boolean) (some .int)) (cond (Nat.blt mid 155) (some .boolean) (some .boolean)))))) (cond (Nat.blt mid 171) (cond (Nat.blt mid 163) (cond (Nat.blt mid 159) (cond (Nat.blt mid 157) (some .int) (cond (Nat.blt mid 158) none none)) (cond (Nat.blt mid 161) (cond (Nat.blt mid 160) none none) (cond (Nat.blt mid 162) none none))) (cond (Nat.blt mid 167) (cond (Nat.blt mid 165) (cond (Nat.blt mid 164) (some .int) (some .int)) (cond (Nat.blt mid 166) none none)) (cond (Nat.blt mid 169) (cond (Nat.blt mid 168) none none) (cond (Nat.blt mid 170) (some .boolean) (some .int))))) (cond (Nat.blt mid 179) (cond (Nat.blt mid 175) (cond (Nat.blt mid 173) (cond (Nat.blt mid 172) (some .int) (some .int)) (cond (Nat.blt mid 174) (some .int) none)) (cond (Nat.blt mid 177) (cond (Nat.blt mid 176) none none) (cond (Nat.blt mid 178) (some .boolean) none))) (cond (Nat.blt mid 183) (cond (Nat.blt mid 181) (cond (Nat.blt mid 180) (some .int) (some .int)) (cond (Nat.blt mid 182) none (some .boolean))) (cond (Nat.blt mid 185) (cond (Nat.blt mid 184) (some .boolean) (some .int)) (cond (Nat.blt mid 186) (some .boolean) (some .boolean))))))) (cond (Nat.blt mid 218) (cond (Nat.blt mid 202) (cond (Nat.blt mid 194) (cond (Nat.blt mid 190) (cond (Nat.blt mid 188) (some .boolean) (cond (Nat.blt mid 189) (some .int) (some .int))) (cond (Nat.blt mid 192) (cond (Nat.blt mid 191) none (some .int)) (cond (Nat.blt mid 193) (some .int) (some .int)))) (cond (Nat.blt mid 198) (cond (Nat.blt mid 196) (cond (Nat.blt mid 195) (some .int) (some .int)) (cond (Nat.blt mid 197) (some .int) (some .int))) (cond (Nat.blt mid 200) (cond (Nat.blt mid 199) (some .int) (some .int)) (cond (Nat.blt mid 201) none (some .boolean))))) (cond (Nat.blt mid 210) (cond (Nat.blt mid 206) (cond (Nat.blt mid 204) (cond (Nat.blt mid 203) (some .int) (some .int)) (cond (Nat.blt mid 205) (some .int) (some .int))) (cond (Nat.blt mid 208) (cond (Nat.blt mid 207) (some .int) (some .int)) (cond (Nat.blt mid 209) (some .int) (some .int)))) (cond (Nat.blt mid 214) (cond (Nat.blt mid 212) (cond (Nat.blt mid 211) (some .int) (some .int)) (cond (Nat.blt mid 213) (some .int) (some .int))) (cond (Nat.blt mid 216) (cond (Nat.blt mid 215) (some .int) (some .int)) (cond (Nat.blt mid 217) (some .int) (some .int)))))) (cond (Nat.blt mid 234) (cond (Nat.blt mid 226) (cond (Nat.blt mid 222) (cond (Nat.blt mid 220) (cond (Nat.blt mid 219) (some .int) (some .boolean)) (cond (Nat.blt mid 221) (some .int) (some .int))) (cond (Nat.blt mid 224) (cond (Nat.blt mid 223) (some .int) (some .boolean)) (cond (Nat.blt mid 225) none none))) (cond (Nat.blt mid 230) (cond (Nat.blt mid 228) (cond (Nat.blt mid 227) (some .boolean) (some .long)) (cond (Nat.blt mid 229) (some .long) (some .int))) (cond (Nat.blt mid 232) (cond (Nat.blt mid 231) (some .int) (some .int)) (cond (Nat.blt mid 233) (some .int) (some .int))))) (cond (Nat.blt mid 242) (cond (Nat.blt mid 238) (cond (Nat.blt mid 236) (cond (Nat.blt mid 235) (some .int) (some .boolean)) (cond (Nat.blt mid 237) (some .long) (some .int))) (cond (Nat.blt mid 240) (cond (Nat.blt mid 239) (some .int) (some .int)) (cond (Nat.blt mid 241) (some .int) (some .int)))) (cond (Nat.blt mid 246) (cond (Nat.blt mid 244) (cond (Nat.blt mid 243) (some .int) (some .int)) (cond (Nat.blt mid 245) (some .int) none)) (cond (Nat.blt mid 248) (cond (Nat.blt mid 247) none (some (.array .int))) (cond (Nat.blt mid 249) (some (.array .char)) (some .boolean)))))))))
def zo (mid : Nat) : Nat := (cond (Nat.blt mid 125) (cond (Nat.blt mid 62) (cond (Nat.blt mid 31) (cond (Nat.blt mid 15) (cond (Nat.blt mid 7) (cond (Nat.blt mid 3) (cond (Nat.blt mid 1) 0 (cond (Nat.blt mid 2) 0 0)) (cond (Nat.blt mid 5) (cond (Nat.blt mid 4) 0 0) (cond (Nat.blt mid 6) 0 1))) (cond (Nat.blt mid 11) (cond (Nat.blt mid 9) (cond (Nat.blt mid 8) 1 1) (cond (Nat.blt mid 10) 1 1)) (cond (Nat.blt mid 13) (cond (Nat.blt mid 12) 1 1) (cond (Nat.blt mid 14) 2 2)))) (cond (Nat.blt mid 23) (cond (Nat.blt mid 19) (cond (Nat.blt mid 17) (cond (Nat.blt mid 16) 2 2) (cond (Nat.blt mid 18) 2 2)) (cond (Nat.blt mid 21) (cond (Nat.blt mid 20) 2 2) (cond (Nat.blt mid 22) 2 2))) (cond (Nat.blt mid 27) (cond (Nat.blt mid 25) (cond (Nat.blt mid 24) 3 3) (cond (Nat.blt mid 26) 3 3)) (cond (Nat.blt mid 29) (cond (Nat.blt mid 28) 3 3) (cond (Nat.blt mid 30) 3 3))))) (cond (Nat.blt mid 46) (cond (Nat.blt mid 38) (cond (Nat.blt mid 34) (cond (Nat.blt mid 32) 3 (cond (Nat.blt mid 33) 3 3)) (cond (Nat.blt mid 36) (cond (Nat.blt mid 35) 3 3) (cond (Nat.blt mid 37) 4 4))) (cond (Nat.blt mid 42) (cond (Nat.blt mid 40) (cond (Nat.blt mid 39) 4 4) (cond (Nat.blt mid 41) 5 5)) (cond (Nat.blt mid 44) (cond (Nat.blt mid 43) 5 5) (cond (Nat.blt mid 45) 5 5)))) (cond (Nat.blt mid 54) (cond (Nat.blt mid 50) (cond (Nat.blt mid 48) (cond (Nat.blt mid 47) 5 5) (cond (Nat.blt mid 49) 5 5)) (cond (Nat.blt mid 52) (cond (Nat.blt mid 51) 5 6) (cond (Nat.blt mid 53) 6 6))) (cond (Nat.blt mid 58) (cond (Nat.blt mid 56) (cond (Nat.blt mid 55) 6 6) (cond (Nat.blt mid 57) 6 6)) (cond (Nat.blt mid 60) (cond (Nat.blt mid 59) 6 6) (cond (Nat.blt mid 61) 6 6)))))) (cond (Nat.blt mid 93) (cond (Nat.blt mid 77) (cond (Nat.blt mid 69) (cond (Nat.blt mid 65) (cond (Nat.blt mid 63) 6 (cond (Nat.blt mid 64) 6 6)) (cond (Nat.blt mid 67) (cond (Nat.blt mid 66) 6 6) (cond (Nat.blt mid 68) 6 6))) (cond (Nat.blt mid 73) (cond (Nat.blt mid 71) (cond (Nat.blt mid 70) 6 6) (cond (Nat.blt mid 72) 6 6)) (cond (Nat.blt mid 75) (cond (Nat.blt mid 74) 6 6) (cond (Nat.blt mid 76) 6 6)))) (cond (Nat.blt mid 85) (cond (Nat.blt mid 81) (cond (Nat.blt mid 79) (cond (Nat.blt mid 78) 6 6) (cond (Nat.blt mid 80) 6 6)) (cond (Nat.blt mid 83) (cond (Nat.blt mid 82) 6 6) (cond (Nat.blt mid 84) 6 6))) (cond (Nat.blt mid 89) (cond (Nat.blt mid 87) (cond (Nat.blt mid 86) 6 6) (cond (Nat.blt mid 88) 6 7)) (cond (Nat.blt mid 91) (cond (Nat.blt mid 90) 7 7) (cond (Nat.blt mid 92) 7 7))))) (cond (Nat.blt mid 109) (cond (Nat.blt mid 101) (cond (Nat.blt mid 97) (cond (Nat.blt mid 95) (cond (Nat.blt mid 94) 7 7) (cond (Nat.blt mid 96) 7 7)) (cond (Nat.blt mid 99) (cond (Nat.blt mid 98) 7 8) (cond (Nat.blt mid 100) 8 8))) (cond (Nat.blt mid 105) (cond (Nat.blt mid 103) (cond (Nat.blt mid 102) 8 8) (cond (Nat.blt mid 104) 8 8)) (cond (Nat.blt mid 107) (cond (Nat.blt mid 106) 8 8) (cond (Nat.blt mid 108) 8 8)))) (cond (Nat.blt mid 117) (cond (Nat.blt mid 113) (cond (Nat.blt mid 111) (cond (Nat.blt mid 110) 8 8) (cond (Nat.blt mid 112) 9 9)) (cond (Nat.blt mid 115) (cond (Nat.blt mid 114) 9 9) (cond (Nat.blt mid 116) 9 9))) (cond (Nat.blt mid 121) (cond (Nat.blt mid 119) (cond (Nat.blt mid 118) 9 9) (cond (Nat.blt mid 120) 9 9)) (cond (Nat.blt mid 123) (cond (Nat.blt mid 122) 9 9) (cond (Nat.blt mid 124) 9 9))))))) (cond (Nat.blt mid 187) (cond (Nat.blt mid 156) (cond (Nat.blt mid 140) (cond (Nat.blt mid 132) (cond (Nat.blt mid 128) (cond (Nat.blt mid 126) 9 (cond (Nat.blt mid 127) 9 9)) (cond (Nat.blt mid 130) (cond (Nat.blt mid 129) 9 9) (cond (Nat.blt mid 131) 9 9))) (cond (Nat.blt mid 136) (cond (Nat.blt mid 134) (cond (Nat.blt mid 133) 9 9) (cond (Nat.blt mid 135) 9 9)) (cond (Nat.blt mid 138) (cond (Nat.blt mid 137) 9 9) (cond (Nat.blt mid 139) 9 9)))) (cond (Nat.blt mid 148) (cond (Nat.blt mid 144) (cond (Nat.blt mid 142) (cond (Nat.blt mid 141) 9 9) (cond (Nat.blt mid 143) 9 9)) (cond (Nat.blt mid 146) (cond (Nat.blt mid 145) 9 9) (cond (Nat.blt mid 147) 9 9))) (cond (Nat.blt mid 152) (cond (Nat.blt mid 150) (cond (Nat.blt mid 149) 9 9) (cond (Nat.blt mid 151) 10 10)) (cond (Nat.blt mid 154) (cond (Nat.blt mid 153) 10 10) (cond (Nat.blt mid 155) 10 10))))) (cond (Nat.blt mid 171) (cond (Nat.blt mid 163) (cond (Nat.blt mid 159) (cond (Nat.blt mid 157) 10 (cond (Nat.blt mid 158) 10 10)) (cond (Nat.blt mid 161) (cond (Nat.blt mid 160) 10 10) (cond (Nat.blt mid 162) 10 10))) (cond (Nat.blt mid 167) (cond (Nat.blt mid 165) (cond (Nat.blt mid 164) 10 10) (cond (Nat.blt mid 166) 10 10)) (cond (Nat.blt mid 169) (cond (Nat.blt mid 168) 10 10) (cond (Nat.blt mid 170) 10 10)))) (cond (Nat.blt mid 179) (cond (Nat.blt mid 175) (cond (Nat.blt mid 173) (cond (Nat.blt mid 172) 10 10) (cond (Nat.blt mid 174) 10 10)) (cond (Nat.blt mid 177) (cond (Nat.blt mid 176) 10 10) (cond (Nat.blt mid 178) 10 10))) (cond (Nat.blt mid 183) (cond (Nat.blt mid 181) (cond (Nat.blt mid 180) 10 10) (cond (Nat.blt mid 182) 10 10)) (cond (Nat.blt mid 185) (cond (Nat.blt mid 184) 10 10) (cond (Nat.blt mid 186) 10 10)))))) (cond (Nat.blt mid 218) (cond (Nat.blt mid 202) (cond (Nat.blt mid 194) (cond (Nat.blt mid 190) (cond (Nat.blt mid 188) 10 (cond (Nat.blt mid 189) 10 10)) (cond (Nat.blt mid 192) (cond (Nat.blt mid 191) 10 10) (cond (Nat.blt mid 193) 10 10))) (cond (Nat.blt mid 198) (cond (Nat.blt mid 196) (cond (Nat.blt mid 195) 10 10) (cond (Nat.blt mid 197) 10 10)) (cond (Nat.blt mid 200) (cond (Nat.blt mid 199) 10 10) (cond (Nat.blt mid 201) 10 10)))) (cond (Nat.blt mid 210) (cond (Nat.blt mid 206) (cond (Nat.blt mid 204) (cond (Nat.blt mid 203) 10 10) (cond (Nat.blt mid 205) 10 10)) (cond (Nat.blt mid 208) (cond (Nat.blt mid 207) 10 10) (cond (Nat.blt mid 209) 10 10))) (cond (Nat.blt mid 214) (cond (Nat.blt mid 212) (cond (Nat.blt mid 211) 10 10) (cond (Nat.blt mid 213) 10 10)) (cond (Nat.blt mid 216) (cond (Nat.blt mid 215) 10 10) (cond (Nat.blt mid 217) 10 10))))) (cond (Nat.blt mid 234) (cond (Nat.blt mid 226) (cond (Nat.blt mid 222) (cond (Nat.blt mid 220) (cond (Nat.blt mid 219) 10 10) (cond (Nat.blt mid 221) 10 10)) (cond (Nat.blt mid 224) (cond (Nat.blt mid 223) 10 10) (cond (Nat.blt mid 225) 10 10))) (cond (Nat.blt mid 230) (cond (Nat.blt mid 228) (cond (Nat.blt mid 227) 10 10) (cond (Nat.blt mid 229) 10 10)) (cond (Nat.blt mid 232) (cond (Nat.blt mid 231) 10 10) (cond (Nat.blt mid 233) 10 10)))) (cond (Nat.blt mid 242) (cond (Nat.blt mid 238) (cond (Nat.blt mid 236) (cond (Nat.blt mid 235) 10 10) (cond (Nat.blt mid 237) 10 10)) (cond (Nat.blt mid 240) (cond (Nat.blt mid 239) 10 10) (cond (Nat.blt mid 241) 10 10))) (cond (Nat.blt mid 246) (cond (Nat.blt mid 244) (cond (Nat.blt mid 243) 10 10) (cond (Nat.blt mid 245) 12 14)) (cond (Nat.blt mid 248) (cond (Nat.blt mid 247) 14 14) (cond (Nat.blt mid 249) 14 11))))))))
def zcn (o : Nat) : String := ["GateTable$History", "GateTable$Order", "GateTable$Pair", "GateTable$Player", "GateTable$Script", "GateTable$Sheet", "GateTable$Table", "GateTable$Tape", "GateTable$Trace", "GateTable", "GateTableModel", "GateTableLaw", "java/lang/Integer", "java/lang/Math", "java/util/Arrays"].getD o ""
def zfL : List (Nat × Nat × Nat × Nat × Nat) := [(0, 11, 0, 0, 339), (0, 17, 0, 1, 340), (1, 9, 1, 0, 352), (2, 9, 2, 0, 362), (2, 15, 2, 1, 363), (2, 18, 2, 2, 364), (2, 22, 2, 3, 365), (2, 25, 2, 4, 366), (2, 28, 2, 5, 367), (2, 32, 2, 6, 368), (2, 36, 2, 7, 369), (3, 14, 3, 0, 153), (3, 20, 3, 1, 154), (3, 24, 3, 2, 156), (3, 28, 3, 3, 158), (3, 31, 3, 4, 159), (3, 34, 3, 5, 161), (3, 37, 3, 6, 164), (3, 40, 3, 7, 165), (3, 44, 3, 8, 166), (3, 47, 3, 9, 167), (3, 50, 3, 10, 168), (3, 53, 3, 11, 169), (3, 56, 3, 12, 171), (3, 59, 3, 13, 172), (3, 62, 3, 14, 174), (3, 65, 3, 15, 176), (3, 68, 3, 16, 178), (3, 71, 3, 17, 180), (4, 7, 4, 0, 149), (5, 11, 5, 0, 395), (5, 15, 5, 1, 396), (5, 18, 5, 2, 397), (6, 11, 6, 0, 287), (6, 19, 6, 1, 288), (6, 23, 6, 2, 289), (6, 27, 6, 3, 290), (6, 30, 6, 4, 291), (6, 33, 6, 5, 292), (6, 36, 6, 6, 293), (6, 40, 6, 7, 294), (6, 43, 6, 8, 295), (6, 46, 6, 9, 296), (6, 49, 6, 10, 297), (6, 52, 6, 11, 298), (6, 55, 6, 12, 299), (6, 58, 6, 13, 300), (7, 9, 7, 0, 120), (7, 15, 7, 1, 121), (7, 19, 7, 2, 122), (7, 22, 7, 3, 123), (7, 25, 7, 4, 124), (8, 15, 8, 0, 243), (8, 28, 8, 1, 244), (8, 32, 8, 2, 245), (8, 36, 8, 3, 246), (8, 40, 8, 4, 247), (8, 44, 8, 5, 248), (8, 48, 8, 6, 249), (8, 52, 8, 7, 250), (8, 56, 8, 8, 251), (8, 60, 8, 9, 252), (9, 10, 9, 0, 405), (9, 19, 9, 1, 406), (9, 33, 9, 2, 407), (9, 42, 9, 3, 408), (9, 46, 9, 4, 409), (9, 52, 9, 5, 410), (9, 56, 9, 6, 411), (9, 59, 9, 7, 412), (9, 62, 9, 8, 413), (9, 69, 9, 9, 414), (9, 78, 9, 10, 415), (9, 84, 9, 11, 416), (10, 7, 10, 0, 1130), (10, 13, 10, 1, 1131), (10, 16, 10, 3, 1133), (10, 19, 10, 4, 1134), (10, 22, 10, 5, 1135), (10, 26, 10, 6, 1136), (10, 29, 10, 8, 1138), (10, 32, 10, 9, 1139), (10, 35, 10, 10, 1140), (10, 39, 10, 11, 1141), (10, 42, 10, 12, 1142), (10, 45, 10, 13, 1143), (10, 48, 10, 14, 1144), (10, 51, 10, 15, 1145), (10, 54, 10, 16, 1146), (10, 57, 10, 17, 1147), (10, 60, 10, 18, 1148), (10, 63, 10, 19, 1149), (10, 66, 10, 20, 1150), (10, 69, 10, 22, 1152), (10, 72, 10, 23, 1153), (10, 75, 10, 24, 1154), (10, 78, 10, 25, 1155), (10, 81, 10, 27, 1157), (10, 84, 10, 28, 1158), (10, 87, 10, 30, 1160), (10, 90, 10, 33, 1163), (10, 93, 10, 35, 1165), (10, 96, 10, 38, 1168), (10, 99, 10, 39, 1169), (10, 102, 10, 40, 1170), (10, 105, 10, 41, 1171), (10, 108, 10, 42, 1172), (10, 127, 10, 21, 1151), (10, 131, 10, 26, 1156), (10, 134, 10, 31, 1161), (10, 137, 10, 29, 1159), (10, 144, 10, 32, 1162), (10, 202, 10, 2, 1132), (10, 212, 10, 7, 1137), (10, 215, 10, 34, 1164), (10, 218, 10, 36, 1166), (10, 332, 10, 37, 1167), (10, 365, 10, 43, 1173), (10, 369, 10, 44, 1174), (10, 372, 10, 45, 1175), (10, 375, 10, 46, 1176)]
def zfN : List (Nat × Nat × Nat × Nat × Nat × String) := [(8, 9, 3, 6, 163, "GateTable"), (8, 18, 3, 2, 155, "GateTable"), (8, 29, 3, 3, 157, "GateTable"), (8, 33, 3, 4, 160, "GateTable"), (8, 37, 3, 5, 162, "GateTable"), (8, 41, 3, 14, 173, "GateTable"), (8, 45, 3, 15, 175, "GateTable"), (8, 49, 3, 16, 177, "GateTable"), (8, 53, 3, 17, 179, "GateTable"), (8, 57, 3, 11, 170, "GateTable")]
def zmL : List (Nat × Nat × Nat × Nat) := [(0, 21, 51, 338), (0, 24, 5, 591), (0, 27, 52, 595), (1, 15, 246, 832), (1, 21, 54, 833), (1, 27, 10, 834), (1, 35, 11, 858), (1, 48, 99, 838), (1, 54, 107, 839), (1, 57, 106, 840), (1, 60, 12, 862), (2, 39, 22, 917), (2, 45, 245, 879), (2, 51, 99, 883), (2, 56, 20, 884), (2, 60, 106, 888), (2, 64, 108, 889), (2, 70, 21, 896), (3, 11, 36, 145), (3, 74, 246, 518), (3, 80, 25, 519), (3, 84, 38, 523), (3, 88, 26, 531), (3, 91, 37, 535), (3, 95, 31, 536), (3, 98, 29, 540), (3, 101, 30, 557), (3, 108, 27, 564), (3, 111, 28, 583), (3, 118, 32, 571), (3, 122, 34, 544), (3, 125, 33, 579), (3, 128, 35, 548), (3, 132, 39, 552), (4, 13, 37, 527), (4, 17, 38, 556), (5, 22, 41, 988), (5, 26, 43, 992), (5, 30, 245, 1034), (5, 44, 49, 1000), (6, 61, 246, 284), (6, 67, 62, 465), (6, 79, 67, 796), (6, 82, 68, 721), (6, 85, 70, 703), (6, 88, 69, 820), (6, 92, 71, 707), (6, 99, 87, 603), (6, 103, 99, 642), (6, 106, 105, 643), (6, 110, 244, 725), (6, 115, 86, 731), (6, 118, 81, 765), (6, 121, 63, 773), (6, 124, 80, 774), (6, 127, 61, 941), (6, 131, 77, 942), (6, 134, 58, 943), (6, 137, 107, 691), (6, 140, 82, 699), (6, 144, 83, 735), (6, 147, 101, 739), (6, 150, 100, 749), (6, 160, 84, 712), (6, 163, 103, 740), (6, 166, 102, 744), (6, 169, 104, 745), (6, 172, 85, 717), (7, 28, 94, 480), (7, 34, 248, 501), (7, 40, 36, 509), (7, 43, 96, 484), (7, 46, 95, 488), (7, 49, 97, 492), (8, 22, 247, 227), (8, 61, 101, 663), (8, 65, 102, 695), (8, 69, 107, 893), (9, 25, 36, 220), (9, 30, 98, 223), (9, 39, 51, 277), (9, 51, 0, 332), (9, 75, 13, 358), (9, 89, 90, 446), (9, 93, 89, 450), (9, 97, 141, 458), (9, 101, 60, 461), (9, 105, 148, 472), (9, 109, 91, 615), (9, 112, 142, 623), (9, 115, 55, 510), (9, 118, 146, 624), (9, 121, 53, 625), (9, 125, 24, 514), (9, 129, 2, 587), (9, 133, 73, 629), (9, 137, 147, 633), (9, 141, 76, 638), (9, 145, 54, 607), (9, 149, 99, 611), (9, 150, 109, 651), (9, 153, 110, 659), (9, 157, 56, 671), (9, 160, 74, 675), (9, 163, 58, 683), (9, 166, 80, 687), (9, 169, 63, 757), (9, 172, 78, 761), (9, 175, 61, 779), (9, 178, 77, 783), (9, 181, 64, 791), (9, 184, 65, 804), (9, 187, 1, 812), (9, 188, 66, 816), (9, 191, 7, 828), (9, 194, 8, 846), (9, 197, 9, 854), (9, 200, 143, 871), (9, 205, 19, 875), (9, 209, 14, 901), (9, 213, 15, 905), (9, 216, 17, 913), (9, 219, 18, 921), (9, 222, 16, 929), (9, 225, 79, 937), (9, 228, 62, 944), (9, 231, 3, 949), (9, 234, 75, 957), (9, 237, 52, 965), (9, 240, 4, 966), (9, 243, 144, 978), (9, 246, 145, 981), (9, 249, 44, 984), (9, 253, 50, 996), (9, 256, 149, 1005), (9, 260, 57, 1018), (9, 263, 47, 1022), (9, 267, 45, 1030), (9, 271, 41, 1039), (9, 274, 46, 1040), (9, 277, 42, 1052), (9, 281, 43, 1056), (9, 284, 48, 1057), (9, 288, 92, 476), (9, 291, 93, 496), (9, 295, 72, 599), (9, 299, 49, 1009), (9, 302, 59, 1010), (10, 111, 157, 1068), (10, 115, 169, 1072), (10, 121, 151, 1086), (10, 140, 158, 1104), (10, 147, 159, 1120), (10, 151, 163, 1080), (10, 155, 162, 1100), (10, 159, 161, 1108), (10, 162, 164, 1112), (10, 165, 152, 1093), (10, 169, 165, 1096), (10, 172, 160, 1116), (10, 179, 166, 1089), (10, 186, 167, 1126), (10, 189, 168, 1076), (10, 192, 154, 1276), (10, 196, 170, 1284), (10, 199, 171, 1288), (10, 205, 156, 1335), (10, 221, 180, 1306), (10, 225, 181, 1314), (10, 228, 183, 1318), (10, 231, 182, 1322), (10, 239, 185, 1310), (10, 242, 184, 1328), (10, 246, 175, 1351), (10, 249, 176, 1355), (10, 252, 186, 1302), (10, 255, 177, 1331), (10, 258, 174, 1339), (10, 261, 178, 1343), (10, 264, 187, 1347), (10, 267, 155, 1363), (10, 271, 190, 1371), (10, 274, 192, 1391), (10, 278, 195, 1407), (10, 281, 194, 1387), (10, 284, 196, 1403), (10, 287, 193, 1419), (10, 290, 153, 1423), (10, 293, 198, 1415), (10, 296, 203, 1395), (10, 299, 197, 1399), (10, 302, 199, 1411), (10, 305, 200, 1426), (10, 308, 201, 1379), (10, 311, 202, 1383), (10, 323, 206, 1435), (10, 326, 205, 1439), (10, 329, 207, 1447), (10, 337, 209, 1454), (10, 340, 210, 1462), (10, 344, 213, 1472), (10, 347, 216, 1484), (10, 350, 217, 1488), (10, 353, 219, 1496), (10, 358, 221, 1505), (10, 361, 223, 1526), (10, 380, 224, 1522), (10, 383, 226, 1513), (10, 388, 225, 1517), (10, 391, 235, 1562), (10, 396, 237, 1566), (10, 400, 236, 1574), (11, 9, 111, 108), (11, 12, 150, 1064), (11, 13, 112, 442), (11, 17, 179, 1292), (11, 18, 113, 454), (11, 21, 188, 1298), (11, 22, 114, 619), (11, 25, 189, 1359), (11, 26, 115, 634), (11, 29, 191, 1367), (11, 30, 116, 647), (11, 34, 172, 1272), (11, 35, 117, 655), (11, 39, 173, 1280), (11, 40, 118, 667), (11, 43, 212, 1458), (11, 44, 119, 679), (11, 47, 204, 1375), (11, 48, 120, 753), (11, 51, 208, 1430), (11, 52, 121, 775), (11, 56, 211, 1450), (11, 57, 122, 787), (11, 60, 214, 1467), (11, 61, 123, 800), (11, 64, 215, 1476), (11, 65, 124, 808), (11, 68, 218, 1480), (11, 69, 125, 824), (11, 72, 220, 1492), (11, 73, 126, 850), (11, 76, 222, 1500), (11, 77, 127, 867), (11, 81, 227, 1509), (11, 82, 128, 909), (11, 85, 228, 1530), (11, 86, 129, 925), (11, 89, 229, 1534), (11, 90, 130, 933), (11, 93, 230, 1538), (11, 94, 131, 945), (11, 97, 231, 1542), (11, 98, 132, 953), (11, 101, 232, 1546), (11, 102, 133, 961), (11, 105, 233, 1550), (11, 106, 134, 970), (11, 109, 234, 1554), (11, 110, 135, 974), (11, 114, 238, 1558), (11, 115, 136, 1014), (11, 118, 239, 1570), (11, 119, 137, 1026), (11, 122, 240, 1577), (11, 123, 138, 1035), (11, 126, 241, 1581), (11, 129, 139, 1044), (11, 133, 242, 1585), (11, 134, 140, 1048), (11, 138, 243, 1589)]
def zmN : List (Nat × Nat × Nat × Nat × String) := [(1, 31, 147, 844, "GateTable"), (1, 39, 146, 845, "GateTable"), (3, 105, 142, 561, "GateTable"), (3, 114, 147, 568, "GateTable"), (3, 136, 146, 575, "GateTable"), (6, 71, 146, 469, "GateTable"), (6, 75, 147, 716, "GateTable"), (6, 95, 142, 711, "GateTable"), (8, 72, 147, 894, "GateTable"), (9, 9, 88, 116, "GateTable"), (9, 18, 23, 139, "GateTable"), (9, 68, 6, 348, "GateTable"), (9, 88, 40, 391, "GateTable")]
def zcC : List (Nat × Nat × Nat × Nat) := [(0, 9, 6, 336), (3, 9, 4, 143), (7, 32, 4, 500), (9, 7, 7, 114), (9, 16, 3, 137), (9, 23, 4, 219), (9, 28, 8, 221), (9, 37, 6, 275), (9, 49, 0, 330), (9, 66, 1, 346), (9, 73, 2, 356), (9, 82, 5, 388), (11, 7, 9, 106), (11, 10, 10, 1062)]
def zcR : List (Nat × Nat × Nat × Nat) := [(0, 9, 25, 336), (6, 9, 23, 281), (6, 17, 24, 283), (9, 28, 24, 221), (9, 82, 26, 388)]
def zcA : List (Nat × Nat × Nat × Nat) := [(14, 317, 20, 236), (14, 323, 22, 508)]
def zkI : List (Nat × Nat × Int × Nat) := [(6, 74, 1000000, 795), (6, 159, 65536, 772), (10, 320, 65536, 1446), (10, 343, 1000000, 1471), (12, 265, 1431655765, 728), (12, 266, 858993459, 729), (12, 267, 252645135, 730)]
def zkL : List (Nat × Nat × Int × Nat) := [(2, 43, 1152921504606846976, 882), (2, 68, 2, 895), (5, 42, 4, 1004), (6, 153, 1103515245, 769), (6, 155, 12345, 770), (6, 157, 2147483647, 771), (9, 203, (-1), 874), (10, 119, 3, 1279), (10, 125, 5, 1366), (10, 175, 97, 1084), (10, 177, 102, 1085), (10, 182, 50, 1124), (10, 184, 53, 1125), (10, 208, 32, 1296), (10, 210, 126, 1297), (10, 235, 49, 1326), (10, 237, 57, 1327), (10, 314, 1103515245, 1443), (10, 316, 12345, 1444), (10, 318, 2147483647, 1445), (10, 321, 40, 1434), (10, 335, 4, 1466), (10, 356, 2, 1504), (10, 378, 1152921504606846976, 1521), (10, 386, (-1), 1516), (10, 394, 24, 1565), (11, 127, 4294967295, 1593)]
def znt : List (Nat × Nat × Nat × Nat) := [(5, 5, 36, 1061), (5, 14, 150, 240), (6, 14, 316, 230), (7, 14, 322, 504), (8, 0, 3, 335), (8, 1, 3, 351), (8, 2, 3, 361), (8, 3, 3, 142), (8, 4, 1, 148), (8, 5, 3, 394), (8, 6, 3, 280), (8, 7, 3, 119), (8, 8, 3, 226), (8, 9, 1, 111), (8, 10, 1, 1067), (9, 3, 139, 576), (10, 1, 42, 866), (10, 2, 74, 900), (10, 14, 304, 237)]
def zms : List (Nat × Nat × Nat × Nat × Nat × Nat × Nat) := [(0, 0, 334, 100, 333, 99999, 2), (1, 0, 815, 100, 813, 814, 0), (2, 0, 590, 100, 588, 589, 1), (3, 0, 952, 100, 950, 951, 1), (4, 0, 969, 100, 967, 968, 1), (5, 0, 594, 100, 593, 16, 0), (6, 0, 350, 101, 349, 99999, 0), (7, 0, 831, 101, 829, 830, 1), (8, 0, 849, 101, 847, 848, 2), (9, 0, 857, 101, 855, 856, 1), (10, 0, 837, 101, 836, 29, 1), (11, 0, 861, 101, 860, 30, 1), (12, 0, 865, 101, 864, 31, 1), (13, 0, 360, 102, 359, 99999, 1), (14, 0, 904, 102, 902, 903, 0), (15, 0, 908, 102, 906, 907, 0), (16, 0, 932, 102, 930, 931, 0), (17, 0, 916, 102, 914, 915, 0), (18, 0, 924, 102, 922, 923, 0), (19, 0, 878, 102, 876, 877, 2), (20, 0, 887, 102, 886, 32, 2), (21, 0, 899, 102, 898, 33, 4), (22, 0, 920, 102, 919, 34, 0), (23, 0, 141, 93, 140, 99999, 0), (24, 0, 517, 93, 515, 516, 2), (25, 0, 522, 93, 521, 5, 2), (26, 0, 534, 93, 533, 6, 2), (27, 0, 567, 93, 566, 12, 3), (28, 0, 586, 93, 585, 15, 2), (29, 0, 543, 93, 542, 8, 2), (30, 0, 560, 93, 559, 11, 3), (31, 0, 539, 93, 538, 7, 2), (32, 0, 574, 93, 573, 13, 1), (33, 0, 582, 93, 581, 14, 1), (34, 0, 547, 93, 546, 9, 1), (35, 0, 551, 93, 550, 10, 3), (36, 0, 147, 94, 146, 99999, 1), (37, 0, 530, 94, 528, 529, 1), (38, 0, 526, 94, 524, 525, 1), (39, 0, 555, 94, 553, 554, 1), (40, 0, 393, 103, 392, 99999, 0), (41, 0, 991, 103, 989, 990, 0), (42, 0, 1055, 103, 1053, 1054, 1), (43, 0, 995, 103, 993, 994, 2), (44, 0, 987, 103, 985, 986, 3), (45, 0, 1033, 103, 1031, 1032, 2), (46, 0, 1043, 103, 1041, 1042, 0), (47, 0, 1025, 103, 1023, 1024, 2), (48, 0, 1060, 103, 1058, 1059, 4), (49, 0, 1003, 103, 1001, 1002, 1), (50, 0, 999, 103, 997, 998, 2), (51, 0, 279, 99, 278, 99999, 2), (52, 0, 598, 99, 596, 597, 1), (53, 0, 628, 99, 626, 627, 1), (54, 0, 610, 99, 608, 609, 1), (55, 0, 513, 99, 511, 512, 0), (56, 0, 674, 99, 672, 673, 0), (57, 0, 1021, 99, 1019, 1020, 1), (58, 0, 686, 99, 684, 685, 1), (59, 0, 1013, 99, 1011, 1012, 1), (60, 0, 464, 99, 462, 463, 0), (61, 0, 782, 99, 780, 781, 0), (62, 0, 468, 99, 466, 467, 1), (63, 0, 760, 99, 758, 759, 0), (64, 0, 794, 99, 792, 793, 2), (65, 0, 807, 99, 805, 806, 2), (66, 0, 819, 99, 817, 818, 1), (67, 0, 799, 99, 798, 27, 1), (68, 0, 724, 99, 723, 23, 1), (69, 0, 823, 99, 822, 28, 0), (70, 0, 706, 99, 705, 19, 1), (71, 0, 710, 99, 709, 20, 1), (72, 0, 602, 99, 600, 601, 3), (73, 0, 632, 99, 630, 631, 2), (74, 0, 678, 99, 676, 677, 1), (75, 0, 960, 99, 958, 959, 1), (76, 0, 641, 99, 639, 640, 1), (77, 0, 786, 99, 784, 785, 0), (78, 0, 764, 99, 762, 763, 0), (79, 0, 940, 99, 938, 939, 0), (80, 0, 690, 99, 688, 689, 1), (81, 0, 768, 99, 767, 26, 0), (82, 0, 702, 99, 701, 18, 2), (83, 0, 738, 99, 737, 25, 1), (84, 0, 715, 99, 714, 21, 1), (85, 0, 720, 99, 719, 22, 1), (86, 0, 734, 99, 733, 24, 1), (87, 0, 606, 99, 605, 17, 1), (88, 0, 118, 92, 117, 99999, 0), (89, 0, 453, 92, 451, 452, 0), (90, 0, 449, 92, 447, 448, 1), (91, 0, 618, 92, 616, 617, 0), (92, 0, 479, 92, 477, 478, 0), (93, 0, 499, 92, 497, 498, 0), (94, 0, 483, 92, 482, 1, 1), (95, 0, 491, 92, 490, 3, 1), (96, 0, 487, 92, 486, 2, 1), (97, 0, 495, 92, 494, 4, 1), (98, 0, 225, 95, 224, 99999, 1), (99, 0, 614, 95, 612, 613, 0), (100, 0, 752, 95, 750, 751, 0), (101, 0, 666, 95, 664, 665, 1), (102, 0, 698, 95, 696, 697, 1), (103, 0, 743, 95, 741, 742, 1), (104, 0, 748, 95, 746, 747, 1), (105, 0, 646, 95, 644, 645, 3), (106, 0, 843, 95, 841, 842, 1), (107, 0, 694, 95, 692, 693, 1), (108, 0, 892, 95, 890, 891, 2), (109, 0, 654, 95, 652, 653, 1), (110, 0, 662, 95, 660, 661, 2), (111, 0, 110, 91, 109, 99999, 0), (112, 0, 445, 91, 443, 444, 1), (113, 0, 457, 91, 455, 456, 1), (114, 0, 622, 91, 620, 621, 1), (115, 0, 637, 91, 635, 636, 1), (116, 0, 650, 91, 648, 649, 2), (117, 0, 658, 91, 656, 657, 3), (118, 0, 670, 91, 668, 669, 1), (119, 0, 682, 91, 680, 681, 1), (120, 0, 756, 91, 754, 755, 1), (121, 0, 778, 91, 776, 777, 0), (122, 0, 790, 91, 788, 789, 2), (123, 0, 803, 91, 801, 802, 2), (124, 0, 811, 91, 809, 810, 1), (125, 0, 827, 91, 825, 826, 2), (126, 0, 853, 91, 851, 852, 1), (127, 0, 870, 91, 868, 869, 3), (128, 0, 912, 91, 910, 911, 3), (129, 0, 928, 91, 926, 927, 2), (130, 0, 936, 91, 934, 935, 1), (131, 0, 948, 91, 946, 947, 0), (132, 0, 956, 91, 954, 955, 1), (133, 0, 964, 91, 962, 963, 0), (134, 0, 973, 91, 971, 972, 0), (135, 0, 977, 91, 975, 976, 4), (136, 0, 1017, 91, 1015, 1016, 3), (137, 0, 1029, 91, 1027, 1028, 3), (138, 0, 1038, 91, 1036, 1037, 1), (139, 0, 1047, 91, 1045, 1046, 4), (140, 0, 1051, 91, 1049, 1050, 5), (141, 1, 460, 91, 459, 99999, 1), (142, 1, 563, 91, 562, 99999, 1), (143, 1, 873, 91, 872, 99999, 2), (144, 1, 980, 91, 979, 99999, 1), (145, 1, 983, 91, 982, 99999, 1), (146, 1, 471, 91, 470, 99999, 1), (147, 1, 570, 91, 569, 99999, 2), (148, 0, 475, 91, 474, 0, 1), (149, 0, 1008, 91, 1007, 35, 3), (150, 0, 1066, 104, 1065, 99999, 0), (151, 1, 1088, 104, 1087, 99999, 3), (152, 1, 1095, 104, 1094, 99999, 2), (153, 1, 1425, 104, 1424, 99999, 1), (154, 1, 1278, 104, 1277, 99999, 1), (155, 1, 1365, 104, 1364, 99999, 1), (156, 0, 1338, 104, 1337, 58, 2), (157, 0, 1071, 104, 1070, 36, 3), (158, 0, 1107, 104, 1106, 43, 4), (159, 0, 1123, 104, 1122, 47, 2), (160, 0, 1119, 104, 1118, 46, 2), (161, 0, 1111, 104, 1110, 44, 1), (162, 0, 1103, 104, 1102, 42, 1), (163, 0, 1083, 104, 1082, 39, 2), (164, 0, 1115, 104, 1114, 45, 2), (165, 0, 1099, 104, 1098, 41, 3), (166, 0, 1092, 104, 1091, 40, 2), (167, 0, 1129, 104, 1128, 48, 2), (168, 0, 1079, 104, 1078, 38, 1), (169, 0, 1075, 104, 1074, 37, 0), (170, 0, 1287, 104, 1286, 49, 2), (171, 0, 1291, 104, 1290, 50, 2), (172, 0, 1275, 104, 1273, 1274, 2), (173, 0, 1283, 104, 1281, 1282, 3), (174, 0, 1342, 104, 1341, 59, 0), (175, 0, 1354, 104, 1353, 62, 0), (176, 0, 1358, 104, 1357, 63, 0), (177, 0, 1334, 104, 1333, 57, 0), (178, 0, 1346, 104, 1345, 60, 1), (179, 0, 1295, 104, 1293, 1294, 1), (180, 0, 1309, 104, 1308, 52, 0), (181, 0, 1317, 104, 1316, 54, 0), (182, 0, 1325, 104, 1324, 56, 1), (183, 0, 1321, 104, 1320, 55, 0), (184, 1, 1330, 104, 1329, 99999, 1), (185, 0, 1313, 104, 1312, 53, 0), (186, 0, 1305, 104, 1304, 51, 0), (187, 0, 1350, 104, 1349, 61, 0), (188, 0, 1301, 104, 1299, 1300, 1), (189, 0, 1362, 104, 1360, 1361, 1), (190, 0, 1374, 104, 1373, 64, 3), (191, 0, 1370, 104, 1368, 1369, 1), (192, 0, 1394, 104, 1393, 68, 3), (193, 0, 1422, 104, 1421, 75, 2), (194, 0, 1390, 104, 1389, 67, 1), (195, 0, 1410, 104, 1409, 72, 1), (196, 0, 1406, 104, 1405, 71, 1), (197, 0, 1402, 104, 1401, 70, 1), (198, 0, 1418, 104, 1417, 74, 1), (199, 0, 1414, 104, 1413, 73, 1), (200, 0, 1429, 104, 1428, 76, 1), (201, 0, 1382, 104, 1381, 65, 1), (202, 0, 1386, 104, 1385, 66, 1), (203, 0, 1398, 104, 1397, 69, 1), (204, 0, 1378, 104, 1376, 1377, 1), (205, 0, 1442, 104, 1441, 78, 0), (206, 0, 1438, 104, 1437, 77, 0), (207, 1, 1449, 104, 1448, 99999, 2), (208, 0, 1433, 104, 1431, 1432, 1), (209, 0, 1457, 104, 1456, 79, 0), (210, 0, 1465, 104, 1464, 80, 1), (211, 0, 1453, 104, 1451, 1452, 0), (212, 0, 1461, 104, 1459, 1460, 1), (213, 0, 1475, 104, 1474, 81, 1), (214, 0, 1470, 104, 1468, 1469, 2), (215, 0, 1479, 104, 1477, 1478, 2), (216, 0, 1487, 104, 1486, 82, 1), (217, 0, 1491, 104, 1490, 83, 0), (218, 0, 1483, 104, 1481, 1482, 1), (219, 0, 1499, 104, 1498, 84, 2), (220, 0, 1495, 104, 1493, 1494, 2), (221, 0, 1508, 104, 1507, 85, 1), (222, 0, 1503, 104, 1501, 1502, 1), (223, 0, 1529, 104, 1528, 88, 3), (224, 0, 1525, 104, 1524, 87, 4), (225, 0, 1520, 104, 1519, 86, 2), (226, 1, 1515, 104, 1514, 99999, 2), (227, 0, 1512, 104, 1510, 1511, 3), (228, 0, 1533, 104, 1531, 1532, 3), (229, 0, 1537, 104, 1535, 1536, 2), (230, 0, 1541, 104, 1539, 1540, 1), (231, 0, 1545, 104, 1543, 1544, 0), (232, 0, 1549, 104, 1547, 1548, 1), (233, 0, 1553, 104, 1551, 1552, 0), (234, 0, 1557, 104, 1555, 1556, 0), (235, 1, 1564, 104, 1563, 99999, 1), (236, 1, 1576, 104, 1575, 99999, 2), (237, 0, 1569, 104, 1568, 89, 4), (238, 0, 1561, 104, 1559, 1560, 4), (239, 0, 1573, 104, 1571, 1572, 3), (240, 0, 1580, 104, 1578, 1579, 3), (241, 0, 1584, 104, 1582, 1583, 1), (242, 0, 1588, 104, 1586, 1587, 4), (243, 0, 1592, 104, 1590, 1591, 5), (244, 1, 727, 105, 726, 99999, 1), (245, 1, 881, 96, 880, 99999, 2), (246, 1, 286, 96, 285, 99999, 2), (247, 1, 229, 96, 228, 99999, 2), (248, 1, 503, 96, 502, 99999, 2)]
end
section
/-! every instruction's links stand in the claim's tables -/
def zTs : List Jvm.Cond := lw_tbl.filter goodWord
def zNw : List Jvm.Cond := (zfN.map (fun y => Jvm.Cond.fieldLinkNest (zcn y.1) y.2.1 ((zcl y.2.2.1).2.1 y.2.2.2.1).1 ((zcl y.2.2.1).2.1 y.2.2.2.1).2.1 ((zcl y.2.2.1).2.1 y.2.2.2.1).2.2.1 y.2.2.2.2.2)) ++ (zmN.map (fun y => Jvm.Cond.methodLinkNest (zcn y.1) y.2.1 (zY y.2.2.1) y.2.2.2.2)) ++ [Jvm.Cond.castable "[I" "java/lang/Cloneable", Jvm.Cond.castable "[C" "java/lang/Cloneable"]
def zAO : List String := ["GateTable$Script", "GateTable$Trace", "GateTable$Table", "GateTable$Sheet"]
theorem zIn {w : Jvm.Cond} (p : Nat) (h : lw_tbl[p]? = some w) (g : goodWord w = true) : w ∈ zTs := List.mem_filter.mpr ⟨List.mem_of_getElem? h, g⟩
theorem zTs_good : ∀ w ∈ zTs, (w.onTables && w.keeps) = true ∨ ∃ ty, w = .arrayClass ty := fun w h => good_of_word (List.mem_filter.mp h).2
theorem zTs_in : ∀ w ∈ zTs, w ∈ lw_tbl := fun w h => (List.mem_filter.mp h).1
theorem zNw_ok : ∀ w ∈ zNw, znw w := by
  intro w h
  rcases List.mem_append.mp h with h | h
  · rcases List.mem_append.mp h with h | h
    · obtain ⟨y, -, rfl⟩ := List.mem_map.mp h
      exact Or.inl ⟨_, _, _, _, _, _, rfl⟩
    · obtain ⟨y, -, rfl⟩ := List.mem_map.mp h
      exact Or.inr (Or.inl ⟨_, _, _, _, rfl⟩)
  · rcases List.mem_cons.mp h with h | h
    · exact Or.inr (Or.inr ⟨_, _, h⟩)
    · exact Or.inr (Or.inr ⟨_, _, List.mem_singleton.mp h⟩)
set_option maxRecDepth 100000 in
theorem zfL_c : zfL.all (fun y => decide (lw_tbl[y.2.2.2.2]? = some (Jvm.Cond.fieldLink (zcn y.1) y.2.1 ((zcl y.2.2.1).2.1 y.2.2.2.1).1 ((zcl y.2.2.1).2.1 y.2.2.2.1).2.1 ((zcl y.2.2.1).2.1 y.2.2.2.1).2.2.1))) = true := by decide +kernel
set_option maxRecDepth 100000 in
theorem zfN_c : zfN.all (fun y => decide (lw_tbl[y.2.2.2.2.1]? = some (Jvm.Cond.fieldLinkNest (zcn y.1) y.2.1 ((zcl y.2.2.1).2.1 y.2.2.2.1).1 ((zcl y.2.2.1).2.1 y.2.2.2.1).2.1 ((zcl y.2.2.1).2.1 y.2.2.2.1).2.2.1 y.2.2.2.2.2))) = true := by decide +kernel
set_option maxRecDepth 100000 in
theorem zmL_c : zmL.all (fun y => decide (lw_tbl[y.2.2.2]? = some (Jvm.Cond.methodLink (zcn y.1) y.2.1 (zY y.2.2.1)))) = true := by decide +kernel
set_option maxRecDepth 100000 in
theorem zmN_c : zmN.all (fun y => decide (lw_tbl[y.2.2.2.1]? = some (Jvm.Cond.methodLinkNest (zcn y.1) y.2.1 (zY y.2.2.1) y.2.2.2.2))) = true := by decide +kernel
set_option maxRecDepth 100000 in
theorem zcC_c : zcC.all (fun y => decide (lw_tbl[y.2.2.2]? = some (Jvm.Cond.classLink (zcn y.1) y.2.1 (zcl y.2.2.1).1))) = true := by decide +kernel
def zaC (tag : Nat) : String := (zcl (zel tag - 1)).1
set_option maxRecDepth 100000 in
theorem zcR_c : zcR.all (fun y => decide (lw_tbl[y.2.2.2]? = some (Jvm.Cond.classLink (zcn y.1) y.2.1 (zaC y.2.2.1))) && decide (0 < zel y.2.2.1) && decide (zaC y.2.2.1 ∈ zAO)) = true := by decide +kernel
set_option maxRecDepth 100000 in
theorem zcA_c : zcA.all (fun y => decide (lw_tbl[y.2.2.2]? = some (Jvm.Cond.classLink (zcn y.1) y.2.1 ("[" ++ (zaf y.2.2.1).toString))) && decide (y.2.2.1 = 20 ∨ y.2.2.1 = 22)) = true := by decide +kernel
set_option maxRecDepth 100000 in
theorem zkI_c : zkI.all (fun y => decide (lw_tbl[y.2.2.2]? = some (Jvm.Cond.constant (zcn y.1) y.2.1 (Int32.ofInt y.2.2.1)))) = true := by decide +kernel
set_option maxRecDepth 100000 in
theorem zkL_c : zkL.all (fun y => decide (lw_tbl[y.2.2.2]? = some (Jvm.Cond.constantLong (zcn y.1) y.2.1 (Int64.ofInt y.2.2.1)))) = true := by decide +kernel
/-- method facts: the code, its class initialised, static or not, selected, its parameters -/
def zmf (y : Nat × Nat × Nat × Nat × Nat × Nat × Nat) : Bool := Nat.beq y.2.2.1 (zpl y.1) && (match lw_tbl[zpl y.1]? with | some (.code m _ n t) => decide (m = zY y.1) && decide (n = zX y.1) && decide (t = zT y.1) | _ => false) && decide (lw_tbl[y.2.2.2.1]? = some (Jvm.Cond.initialized (zY y.1).cls)) && decide (lw_tbl[y.2.2.2.2.1]? = some (if y.2.1 = 1 then Jvm.Cond.static (zY y.1) else Jvm.Cond.instanceMethod (zY y.1))) && (decide (y.2.2.2.2.2.1 = 99999) || decide (lw_tbl[y.2.2.2.2.2.1]? = some (Jvm.Cond.selects (zY y.1).cls (zY y.1) (zY y.1)))) && decide ((zY y.1).cls ≠ "java/lang/invoke/MethodHandle" ∧ (zY y.1).cls ≠ "java/lang/invoke/VarHandle") && decide ((parseMethodDescriptor (zY y.1).desc).map (fun d => d.parameters.length) = some y.2.2.2.2.2.2) && plainName (zY y.1).cls && decide (zX y.1 ≤ 40)
end
section
/-! the sites -/
set_option maxRecDepth 1000000 in
theorem zms_c1 : (zms.take 125).all zmf = true := by decide +kernel
set_option maxRecDepth 1000000 in
theorem zms_c2 : (zms.drop 125).all zmf = true := by decide +kernel
theorem zms_c : ∀ y ∈ zms, zmf y = true := by
  intro y hy
  rw [← List.take_append_drop 125 zms] at hy
  rcases List.mem_append.mp hy with h | h
  · exact List.all_eq_true.mp zms_c1 y h
  · exact List.all_eq_true.mp zms_c2 y h
theorem zmf_code {m : Nat} (h : (match lw_tbl[zpl m]? with | some (.code y _ n t) => decide (y = zY m) && decide (n = zX m) && decide (t = zT m) | _ => false) = true) : Jvm.Cond.code (zY m) (zB m) (zX m) (zT m) ∈ zTs := by
  split at h
  · rename_i y b n t hl
    simp only [Bool.and_eq_true, decide_eq_true_eq] at h
    obtain ⟨⟨rfl, rfl⟩, rfl⟩ := h
    refine zIn _ (hl.trans ?_) rfl
    unfold zB
    rw [hl]
  · cases h
theorem zmf_spec {y : Nat × Nat × Nat × Nat × Nat × Nat × Nat} (h : zmf y = true) : Jvm.Cond.code (zY y.1) (zB y.1) (zX y.1) (zT y.1) ∈ zTs ∧ Jvm.Cond.initialized (zY y.1).cls ∈ zTs ∧ (if y.2.1 = 1 then Jvm.Cond.static (zY y.1) else Jvm.Cond.instanceMethod (zY y.1)) ∈ zTs ∧ (y.2.2.2.2.2.1 = 99999 ∨ Jvm.Cond.selects (zY y.1).cls (zY y.1) (zY y.1) ∈ zTs) ∧ ((zY y.1).cls ≠ "java/lang/invoke/MethodHandle" ∧ (zY y.1).cls ≠ "java/lang/invoke/VarHandle") ∧ (∀ sig, parseMethodDescriptor (zY y.1).desc = some sig → y.2.2.2.2.2.2 = sig.parameters.length) ∧ plainName (zY y.1).cls = true ∧ zX y.1 ≤ 40 := by
  unfold zmf at h
  simp only [Bool.and_eq_true, Bool.or_eq_true, decide_eq_true_eq] at h
  obtain ⟨⟨⟨⟨⟨⟨⟨⟨-, h1⟩, h2⟩, h3⟩, h4⟩, h5⟩, h6⟩, h7⟩, h8⟩ := h
  refine ⟨zmf_code h1, zIn _ h2 rfl, zIn _ h3 (by split <;> rfl), ?_, h5, fun sig hs => ?_, h7, h8⟩
  · rcases h4 with h4 | h4
    · exact Or.inl h4
    · exact Or.inr (zIn _ h4 rfl)
  · rw [hs] at h6
    exact (Option.some.inj h6).symm
def zis (o idx : Nat) (y : Nat × Nat × Nat × Nat) (v : Nat) : Bool := Nat.beq y.1 o && Nat.beq y.2.1 idx && Nat.beq y.2.2.1 v
def zifL (o idx ci f : Nat) : Bool := zfL.any (fun y => Nat.beq y.1 o && Nat.beq y.2.1 idx && Nat.beq y.2.2.1 ci && Nat.beq y.2.2.2.1 f)
def zifN (o idx ci f : Nat) : Bool := zfN.any (fun y => Nat.beq y.1 o && Nat.beq y.2.1 idx && Nat.beq y.2.2.1 ci && Nat.beq y.2.2.2.1 f)
def zimN (o idx mid : Nat) : Bool := zmN.any (fun y => Nat.beq y.1 o && Nat.beq y.2.1 idx && Nat.beq y.2.2.1 mid)
def zmfact (mid st np : Nat) (sel : Bool) : Bool := zms.any (fun y => Nat.beq y.1 mid && Nat.beq y.2.1 st && Nat.beq y.2.2.2.2.2.2 np && (!sel || Nat.blt y.2.2.2.2.2.1 99999))
def zckf (mid idx ci f kd : Nat) : Bool := Nat.blt ci 11 && Nat.blt f (zcl ci).2.2 && Nat.beq (zkf (zty ci f)) kd && (zifL (zo mid) idx ci f || zifN (zo mid) idx ci f)
def zckq (mid idx ci f kd : Nat) : Bool := Nat.blt ci 11 && Nat.blt f (zcl ci).2.2 && Nat.beq (zkf (zty ci f)) kd && zifL (zo mid) idx ci f && (!((zcl ci).2.1 f).2.2.2 || (decide ((zY mid).name = "<init>") && decide (((zcl ci).2.1 f).1 = (zY mid).cls)))
def zckm (mid : Nat) (i : Instr) (a : List Nat) : Bool := match a with
  | [mode] => znt.any (fun y => Nat.beq y.1 mode && Nat.beq y.2.1 (zo mid) && (match i with | .invokestatic idx => Nat.beq y.2.2.1 idx && (Nat.beq mode 5 || Nat.beq mode 9 || Nat.beq mode 10) | .invokevirtual idx => Nat.beq y.2.2.1 idx && (Nat.beq mode 6 || Nat.beq mode 7) | .invokespecial idx => Nat.beq y.2.2.1 idx && Nat.beq mode 8 | _ => false))
  | [mode, mid', cl, na, nl, _, _] => Nat.beq nl (zX mid') && (match i with
    | .invokevirtual idx => Nat.beq mode 0 && Nat.blt cl 11 && decide ((zcl cl).1 = (zY mid').cls) && Nat.blt 0 na && zmfact mid' 0 (na - 1) true && zmL.any (fun y => zis (zo mid) idx y mid')
    | .invokestatic idx => zmfact mid' 1 na false && ((Nat.beq mode 1 && zmL.any (fun y => zis (zo mid) idx y mid')) || (Nat.beq mode 3 && zimN (zo mid) idx mid'))
    | .invokespecial idx => Nat.blt 0 na && decide ((zY mid').name = "<init>") && decide (zT mid' = none) && zmfact mid' 0 (na - 1) false && ((Nat.beq mode 2 && zmL.any (fun y => zis (zo mid) idx y mid')) || (Nat.beq mode 4 && zimN (zo mid) idx mid'))
    | _ => false)
  | _ => false
def zckp (mid pc : Nat) (i : Instr) (a : List Nat) (z : Int) : Bool := match i with
  | .ldc idx => zkI.any (fun y => Nat.beq y.1 (zo mid) && Nat.beq y.2.1 idx && decide (y.2.2.1 = z))
  | .ldc_w idx => zkI.any (fun y => Nat.beq y.1 (zo mid) && Nat.beq y.2.1 idx && decide (y.2.2.1 = z))
  | .ldc2_w idx => zkL.any (fun y => Nat.beq y.1 (zo mid) && Nat.beq y.2.1 idx && decide (y.2.2.1 = z))
  | .goto off => decide (0 ≤ (pc : Int) + off)
  | .ifCond _ off => decide (0 ≤ (pc : Int) + off)
  | .if_icmp _ off => decide (0 ≤ (pc : Int) + off)
  | .tableswitch dflt lo hi offs => decide (0 ≤ (pc : Int) + dflt) && decide ((offs.size : Int) = hi - lo + 1) && offs.toList.all (fun o => decide (0 ≤ (pc : Int) + o))
  | .getfield idx => match a with
    | [ci, f, kd] => zckf mid idx ci f kd
    | _ => false
  | .putfield idx => match a with
    | [ci, f, kd] => zckq mid idx ci f kd
    | _ => false
  | .checkcast idx => match a with
    | [tag] => zcA.any (fun y => zis (zo mid) idx y tag)
    | _ => false
  | .new idx => match a with
    | [ci, nf] => Nat.blt ci 11 && Nat.beq nf (zcl ci).2.2 && zcC.any (fun y => zis (zo mid) idx y ci)
    | _ => false
  | .newarray ty => decide (ty = .int) || decide (ty = .long) || decide (ty = .char)
  | .anewarray idx => match a with
    | [tag] => zcR.any (fun y => zis (zo mid) idx y tag)
    | _ => false
  | .invokevirtual _ => zckm mid i a
  | .invokestatic _ => zckm mid i a
  | .invokespecial _ => zckm mid i a
  | .ireturn => (decide (a = [0]) && decide (zT mid = some .int)) || (decide (a = [1]) && decide (zT mid = some .boolean)) || (decide (a = [2]) && decide (zT mid = some .char))
  | .lreturn => decide (zT mid = some .long)
  | .areturn => match zT mid with
    | some (.object _) => true
    | some (.array _) => true
    | _ => false
  | .return_ => decide (zT mid = none)
  | _ => true
def zckd (mid pc : Nat) (i : Instr) (len : Nat) : Bool := match decode (zB mid) pc with
  | .ok (i', n) => decide (i' = i) && Nat.beq n len
  | _ => false
def zckl (i : Instr) (len : Nat) : Bool := match i with
  | .tableswitch _ _ _ _ => true
  | i => Nat.beq len (zlen i)
def zck (mid : Nat) (x : Nat × zE) : Bool := zckd mid x.1 x.2.1 x.2.2.1 && zckl x.2.1 x.2.2.1 && zckp mid x.1 x.2.1 x.2.2.2.1 x.2.2.2.2
section
variable {mid pc len : Nat} {i : Instr} {a : List Nat} {z : Int}
theorem zckd_ok (h : zckd mid pc i len = true) : decode (zB mid) pc = .ok (i, len) := by
  unfold zckd at h
  split at h
  · rename_i i' n hd
    simp only [Bool.and_eq_true, decide_eq_true_eq, Nat.beq_eq] at h
    rw [hd, h.1, h.2]
  · cases h
theorem zckl_ok (h : zckl i len = true) : (∀ a b d f, i ≠ .tableswitch a b d f) → len = zlen i := by
  intro hn
  unfold zckl at h
  split at h
  · exact absurd rfl (hn _ _ _ _)
  · exact Nat.eq_of_beq_eq_true h
theorem zmL_in {o idx m : Nat} (h : zmL.any (fun y => zis o idx y m) = true) : Jvm.Cond.methodLink (zcn o) idx (zY m) ∈ zTs := by
  obtain ⟨y, hy, h1⟩ := List.any_eq_true.mp h
  simp only [zis, Bool.and_eq_true, Nat.beq_eq] at h1
  obtain ⟨⟨rfl, rfl⟩, rfl⟩ := h1
  exact zIn _ (of_decide_eq_true (List.all_eq_true.mp zmL_c y hy)) rfl
theorem zmN_in {o idx m : Nat} (h : zimN o idx m = true) : ∃ host, Jvm.Cond.methodLinkNest (zcn o) idx (zY m) host ∈ zNw := by
  obtain ⟨y, hy, h1⟩ := List.any_eq_true.mp h
  simp only [Bool.and_eq_true, Nat.beq_eq] at h1
  obtain ⟨⟨rfl, rfl⟩, rfl⟩ := h1
  exact ⟨y.2.2.2.2, List.mem_append_left _ (List.mem_append_right _ (List.mem_map.mpr ⟨y, hy, rfl⟩))⟩
theorem zfL_in {o idx ci f : Nat} (h : zifL o idx ci f = true) : Jvm.Cond.fieldLink (zcn o) idx ((zcl ci).2.1 f).1 ((zcl ci).2.1 f).2.1 ((zcl ci).2.1 f).2.2.1 ∈ zTs := by
  obtain ⟨y, hy, h1⟩ := List.any_eq_true.mp h
  simp only [Bool.and_eq_true, Nat.beq_eq] at h1
  obtain ⟨⟨⟨rfl, rfl⟩, rfl⟩, rfl⟩ := h1
  exact zIn _ (of_decide_eq_true (List.all_eq_true.mp zfL_c y hy)) rfl
theorem zfN_in {o idx ci f : Nat} (h : zifN o idx ci f = true) : ∃ host, Jvm.Cond.fieldLinkNest (zcn o) idx ((zcl ci).2.1 f).1 ((zcl ci).2.1 f).2.1 ((zcl ci).2.1 f).2.2.1 host ∈ zNw := by
  obtain ⟨y, hy, h1⟩ := List.any_eq_true.mp h
  simp only [Bool.and_eq_true, Nat.beq_eq] at h1
  obtain ⟨⟨⟨rfl, rfl⟩, rfl⟩, rfl⟩ := h1
  exact ⟨y.2.2.2.2.2, List.mem_append_left _ (List.mem_append_left _ (List.mem_map.mpr ⟨y, hy, rfl⟩))⟩
theorem zmfact_in {m st np : Nat} {sel : Bool} (h : zmfact m st np sel = true) : Jvm.Cond.code (zY m) (zB m) (zX m) (zT m) ∈ zTs ∧ Jvm.Cond.initialized (zY m).cls ∈ zTs ∧ (if st = 1 then Jvm.Cond.static (zY m) else Jvm.Cond.instanceMethod (zY m)) ∈ zTs ∧ (sel = true → Jvm.Cond.selects (zY m).cls (zY m) (zY m) ∈ zTs) ∧ ((zY m).cls ≠ "java/lang/invoke/MethodHandle" ∧ (zY m).cls ≠ "java/lang/invoke/VarHandle") ∧ (∀ sig, parseMethodDescriptor (zY m).desc = some sig → np = sig.parameters.length) ∧ plainName (zY m).cls = true ∧ zX m ≤ 40 := by
  obtain ⟨y, hy, h1⟩ := List.any_eq_true.mp h
  simp only [Bool.and_eq_true, Nat.beq_eq] at h1
  obtain ⟨⟨⟨rfl, rfl⟩, rfl⟩, h2⟩ := h1
  obtain ⟨g1, g2, g3, g4, g5, g6, g7, g8⟩ := zmf_spec (zms_c y hy)
  refine ⟨g1, g2, g3, fun hs => ?_, g5, g6, g7, g8⟩
  subst hs
  rcases g4 with g4 | g4
  · simp [g4] at h2
  · exact g4
theorem znt_c1 : znt.all (fun y => decide (y.1 = 8 → lw_tbl[y.2.2.2]? = some (Jvm.Cond.methodLink (zcn y.2.1) y.2.2.1 objectInit)) && decide (y.1 = 5 → lw_tbl[y.2.2.2]? = some (Jvm.Cond.methodLink (zcn y.2.1) y.2.2.1 arraycopyName)) && decide (y.1 = 6 → lw_tbl[y.2.2.2]? = some (Jvm.Cond.methodLink (zcn y.2.1) y.2.2.1 ⟨"[" ++ (zaf 20).toString, "clone", "()Ljava/lang/Object;"⟩)) && decide (y.1 = 7 → lw_tbl[y.2.2.2]? = some (Jvm.Cond.methodLink (zcn y.2.1) y.2.2.1 ⟨"[" ++ (zaf 22).toString, "clone", "()Ljava/lang/Object;"⟩)) && decide (y.1 = 9 → lw_tbl[y.2.2.2]? = some (Jvm.Cond.methodLink (zcn y.2.1) y.2.2.1 Lib.Math.max.name)) && decide (y.1 = 10 → lw_tbl[y.2.2.2]? = some (Jvm.Cond.methodLink (zcn y.2.1) y.2.2.1 Lib.Math.min.name))) = true := by decide +kernel
theorem zck_const (hcn : (zY mid).cls = zcn (zo mid)) (h : zckp mid pc i a z = true) : zconst (zY mid).cls i z zTs := by
  rw [hcn]
  cases i <;> first | exact trivial | skip
  case ldc idx =>
    obtain ⟨y, hy, h1⟩ := List.any_eq_true.mp h
    simp only [Bool.and_eq_true, Nat.beq_eq, decide_eq_true_eq] at h1
    obtain ⟨⟨h2, rfl⟩, rfl⟩ := h1
    rw [← h2]
    exact zIn _ (of_decide_eq_true (List.all_eq_true.mp zkI_c y hy)) rfl
  case ldc_w idx =>
    obtain ⟨y, hy, h1⟩ := List.any_eq_true.mp h
    simp only [Bool.and_eq_true, Nat.beq_eq, decide_eq_true_eq] at h1
    obtain ⟨⟨h2, rfl⟩, rfl⟩ := h1
    rw [← h2]
    exact zIn _ (of_decide_eq_true (List.all_eq_true.mp zkI_c y hy)) rfl
  case ldc2_w idx =>
    obtain ⟨y, hy, h1⟩ := List.any_eq_true.mp h
    simp only [Bool.and_eq_true, Nat.beq_eq, decide_eq_true_eq] at h1
    obtain ⟨⟨h2, rfl⟩, rfl⟩ := h1
    rw [← h2]
    exact zIn _ (of_decide_eq_true (List.all_eq_true.mp zkL_c y hy)) rfl
theorem zck_j (h : zckp mid pc i a z = true) : zjok i pc := by
  cases i <;> first | exact trivial | skip
  case goto off =>
    simp only [zckp, decide_eq_true_eq] at h
    exact h
  case ifCond _ off =>
    simp only [zckp, decide_eq_true_eq] at h
    exact h
  case if_icmp _ off =>
    simp only [zckp, decide_eq_true_eq] at h
    exact h
  case tableswitch dflt lo hi offs =>
    simp only [zckp, Bool.and_eq_true, decide_eq_true_eq, List.all_eq_true] at h
    exact ⟨h.1.1, h.1.2, h.2⟩
theorem zck_m (hcn : (zY mid).cls = zcn (zo mid)) (h : zckp mid pc i a z = true) : zmok zTs zNw (zY mid).cls (zY mid).name i a := by
  cases i <;> first | exact trivial | skip
  case getfield idx =>
    simp only [zckp] at h
    split at h
    · rename_i ci f kd
      simp only [zckf, Bool.and_eq_true, Bool.or_eq_true, Nat.beq_eq, Nat.blt_eq] at h
      obtain ⟨⟨⟨h1, h2⟩, h3⟩, h4⟩ := h
      refine ⟨ci, f, kd, rfl, h1, h2, h3, ?_⟩
      rw [hcn]
      rcases h4 with h4 | h4
      · exact Or.inl (zfL_in h4)
      · exact Or.inr (zfN_in h4)
    · cases h
  case putfield idx =>
    simp only [zckp] at h
    split at h
    · rename_i ci f kd
      simp only [zckq, Bool.and_eq_true, Bool.or_eq_true, Nat.beq_eq, Nat.blt_eq, decide_eq_true_eq, Bool.not_eq_true'] at h
      obtain ⟨⟨⟨⟨h1, h2⟩, h3⟩, h4⟩, h5⟩ := h
      refine ⟨ci, f, kd, rfl, h1, h2, h3, by rw [hcn]; exact zfL_in h4, ?_⟩
      rcases h5 with h5 | h5
      · exact Or.inl h5
      · by_cases h6 : ((zcl ci).2.1 f).2.2.2 = true
        · exact Or.inr ⟨h6, h5.1, h5.2⟩
        · exact Or.inl (by simpa using h6)
    · cases h
  case checkcast idx =>
    simp only [zckp] at h
    split at h
    · rename_i tag
      obtain ⟨y, hy, h1⟩ := List.any_eq_true.mp h
      simp only [zis, Bool.and_eq_true, Nat.beq_eq] at h1
      obtain ⟨⟨h2, rfl⟩, rfl⟩ := h1
      have := List.all_eq_true.mp zcA_c y hy
      simp only [Bool.and_eq_true, decide_eq_true_eq] at this
      exact ⟨_, rfl, this.2, by rw [hcn, ← h2]; exact zIn _ this.1 rfl⟩
    · cases h
theorem zck_k (hcn : (zY mid).cls = zcn (zo mid)) (h : zckp mid pc i a z = true) : zkok zTs zAO (zY mid).cls i a := by
  cases i <;> first | exact trivial | skip
  case new idx =>
    simp only [zckp] at h
    split at h
    · rename_i ci nf
      simp only [Bool.and_eq_true, Nat.beq_eq, Nat.blt_eq] at h
      obtain ⟨⟨h1, rfl⟩, h3⟩ := h
      obtain ⟨y, hy, h4⟩ := List.any_eq_true.mp h3
      simp only [zis, Bool.and_eq_true, Nat.beq_eq] at h4
      obtain ⟨⟨h2, rfl⟩, rfl⟩ := h4
      exact ⟨_, rfl, h1, by rw [hcn, ← h2]; exact zIn _ (of_decide_eq_true (List.all_eq_true.mp zcC_c y hy)) rfl⟩
    · cases h
  case newarray ty =>
    simp only [zckp, Bool.or_eq_true, decide_eq_true_eq] at h
    rcases h with (rfl | rfl) | rfl
    · exact ⟨by decide, zIn 218 (by decide +kernel) rfl⟩
    · exact ⟨by decide, zIn 387 (by decide +kernel) rfl⟩
    · exact ⟨by decide, zIn 136 (by decide +kernel) rfl⟩
  case anewarray idx =>
    simp only [zckp] at h
    split at h
    · rename_i tag
      obtain ⟨y, hy, h1⟩ := List.any_eq_true.mp h
      simp only [zis, Bool.and_eq_true, Nat.beq_eq] at h1
      obtain ⟨⟨h2, rfl⟩, rfl⟩ := h1
      have := List.all_eq_true.mp zcR_c y hy
      simp only [Bool.and_eq_true, decide_eq_true_eq] at this
      exact ⟨_, _, rfl, this.1.2, (zel_cl this.1.2).2, by rw [hcn, ← h2]; exact zIn _ this.1.1 rfl, this.2⟩
    · cases h
theorem zck_r (h : zckp mid pc i a z = true) : zrok zT mid i a := by
  cases i <;> first | exact trivial | skip
  case ireturn =>
    simp only [zckp, Bool.or_eq_true, Bool.and_eq_true, decide_eq_true_eq] at h
    rcases h with (h | h) | h
    · exact Or.inl h
    · exact Or.inr (Or.inl h)
    · exact Or.inr (Or.inr h)
  case lreturn =>
    simp only [zckp, decide_eq_true_eq] at h
    exact h
  case areturn =>
    simp only [zckp] at h
    split at h
    · rename_i n hT
      exact Or.inl ⟨_, hT⟩
    · rename_i n hT
      exact Or.inr ⟨_, hT⟩
    · cases h
  case return_ =>
    simp only [zckp, decide_eq_true_eq] at h
    exact h
theorem zck_n {mode idx : Nat} (hcn : (zY mid).cls = zcn (zo mid)) {y : Nat × Nat × Nat × Nat} (hy : y ∈ znt) (h1 : y.1 = mode) (h2 : y.2.1 = zo mid) (h3 : y.2.2.1 = idx) (hi : ((mode = 5 ∨ mode = 9 ∨ mode = 10) ∧ i = .invokestatic idx) ∨ ((mode = 6 ∨ mode = 7) ∧ i = .invokevirtual idx) ∨ (mode = 8 ∧ i = .invokespecial idx)) : znok zTs zNw (zY mid).cls i mode := by
  have hc := List.all_eq_true.mp znt_c1 y hy
  simp only [Bool.and_eq_true, decide_eq_true_eq] at hc
  obtain ⟨⟨⟨⟨⟨c8, c5⟩, c6⟩, c7⟩, c9⟩, c10⟩ := hc
  rw [h1, h2, h3, ← hcn] at c5 c6 c7 c8 c9 c10
  rcases hi with ⟨rfl | rfl | rfl, rfl⟩ | ⟨rfl | rfl, rfl⟩ | ⟨rfl, rfl⟩
  · exact ⟨idx, rfl, zIn _ (c5 rfl) rfl, zIn 242 (by decide +kernel) rfl, zIn 241 (by decide +kernel) rfl, zIn 98 (by decide +kernel) rfl⟩
  · exact ⟨idx, rfl, zIn _ (c9 rfl) rfl, zIn 577 (by decide +kernel) rfl, zIn 97 (by decide +kernel) rfl, zIn 578 (by decide +kernel) rfl⟩
  · exact ⟨idx, rfl, zIn _ (c10 rfl) rfl, zIn 238 (by decide +kernel) rfl, zIn 97 (by decide +kernel) rfl, zIn 239 (by decide +kernel) rfl⟩
  · exact ⟨idx, rfl, zIn _ (c6 rfl) rfl, zIn 231 (by decide +kernel) rfl, zIn 232 (by decide +kernel) rfl, zIn 233 (by decide +kernel) rfl, zIn 234 (by decide +kernel) rfl, List.mem_append_right _ List.mem_cons_self⟩
  · exact ⟨idx, rfl, zIn _ (c7 rfl) rfl, zIn 505 (by decide +kernel) rfl, zIn 232 (by decide +kernel) rfl, zIn 233 (by decide +kernel) rfl, zIn 506 (by decide +kernel) rfl, List.mem_append_right _ (List.mem_cons_of_mem _ List.mem_cons_self)⟩
  · exact ⟨idx, rfl, zIn _ (c8 rfl) rfl, zIn 112 (by decide +kernel) rfl, zIn 113 (by decide +kernel) rfl⟩
theorem zck_c (hcn : (zY mid).cls = zcn (zo mid)) (h : zckm mid i a = true) : zcok zY zB zX zT zTs zNw (zY mid).cls i a := by
  unfold zckm at h
  split at h
  · rename_i mode
    refine Or.inl ⟨mode, rfl, ?_⟩
    obtain ⟨y, hy, h1⟩ := List.any_eq_true.mp h
    simp only [Bool.and_eq_true, Nat.beq_eq] at h1
    obtain ⟨⟨h2, h3⟩, h4⟩ := h1
    split at h4
    · simp only [Bool.and_eq_true, Bool.or_eq_true, Nat.beq_eq] at h4
      exact zck_n hcn hy h2 h3 h4.1 (Or.inl ⟨or_assoc.mp h4.2, rfl⟩)
    · simp only [Bool.and_eq_true, Bool.or_eq_true, Nat.beq_eq] at h4
      exact zck_n hcn hy h2 h3 h4.1 (Or.inr (Or.inl ⟨h4.2, rfl⟩))
    · simp only [Bool.and_eq_true, Nat.beq_eq] at h4
      exact zck_n hcn hy h2 h3 h4.1 (Or.inr (Or.inr ⟨h4.2, rfl⟩))
    · cases h4
  · rename_i mode mid' cl na nl bc bs
    simp only [Bool.and_eq_true, Nat.beq_eq] at h
    obtain ⟨rfl, h⟩ := h
    refine Or.inr ?_
    rw [hcn]
    split at h
    · rename_i idx
      simp only [Bool.and_eq_true, Nat.beq_eq, Nat.blt_eq, decide_eq_true_eq] at h
      obtain ⟨⟨⟨⟨⟨rfl, h1⟩, h2⟩, h3⟩, h4⟩, h5⟩ := h
      obtain ⟨g1, g2, g3, g4, g5, g6, g7, g8⟩ := zmfact_in h4
      exact ⟨0, mid', cl, na, bc, bs, na - 1, rfl, g1, g2, g5, g6, g7, g8, Or.inl ⟨rfl, by omega, h1, idx, rfl, zmL_in h5, g3, by rw [h2]; exact g4 rfl⟩⟩
    · rename_i idx
      simp only [Bool.and_eq_true, Bool.or_eq_true, Nat.beq_eq] at h
      obtain ⟨h4, h5⟩ := h
      obtain ⟨g1, g2, g3, g4, g5, g6, g7, g8⟩ := zmfact_in h4
      rcases h5 with ⟨rfl, h5⟩ | ⟨rfl, h5⟩
      · exact ⟨1, mid', cl, na, bc, bs, na, rfl, g1, g2, g5, g6, g7, g8, Or.inr (Or.inl ⟨rfl, rfl, idx, rfl, zmL_in h5, g3⟩)⟩
      · obtain ⟨host, h6⟩ := zmN_in h5
        exact ⟨3, mid', cl, na, bc, bs, na, rfl, g1, g2, g5, g6, g7, g8, Or.inr (Or.inr (Or.inr (Or.inl ⟨rfl, rfl, idx, host, rfl, h6, g3⟩)))⟩
    · rename_i idx
      simp only [Bool.and_eq_true, Bool.or_eq_true, Nat.beq_eq, Nat.blt_eq, decide_eq_true_eq] at h
      obtain ⟨⟨⟨⟨h1, h2⟩, h3⟩, h4⟩, h5⟩ := h
      obtain ⟨g1, g2, g3, g4, g5, g6, g7, g8⟩ := zmfact_in h4
      rcases h5 with ⟨rfl, h5⟩ | ⟨rfl, h5⟩
      · exact ⟨2, mid', cl, na, bc, bs, na - 1, rfl, g1, g2, g5, g6, g7, g8, Or.inr (Or.inr (Or.inl ⟨rfl, by omega, h3, h2, idx, rfl, zmL_in h5, g3⟩))⟩
      · obtain ⟨host, h6⟩ := zmN_in h5
        exact ⟨4, mid', cl, na, bc, bs, na - 1, rfl, g1, g2, g5, g6, g7, g8, Or.inr (Or.inr (Or.inr (Or.inr ⟨rfl, by omega, h3, h2, idx, host, rfl, h6, g3⟩)))⟩
    · cases h
  · cases h
theorem zck_ok {x : Nat × zE} (hcn : (zY mid).cls = zcn (zo mid)) (h : zck mid x = true) : zsite zY zB zX zT zTs zNw zAO mid x.1 x.2 := by
  obtain ⟨pc, i, len, a, z⟩ := x
  unfold zck at h
  simp only [Bool.and_eq_true] at h
  obtain ⟨⟨h1, h2⟩, h3⟩ := h
  refine ⟨zckd_ok h1, zckl_ok h2, zck_const hcn h3, zck_j h3, zck_m hcn h3, zck_k hcn h3, fun hc => zck_c hcn ?_, zck_r h3⟩
  cases i <;> first | exact h3 | (simp [zcall] at hc)
end
theorem zfd_in {l : List (Nat × zE)} {pc : Nat} {x : zE} (h : zfd l pc = some x) : (pc, x) ∈ l := by
  induction l with
  | nil => cases h
  | cons a t ih =>
    obtain ⟨q, y⟩ := a
    unfold zfd at h
    cases hb : Nat.beq q pc with
    | true =>
      rw [hb] at h
      have e := Nat.eq_of_beq_eq_true hb
      subst e
      cases h
      exact List.mem_cons_self
    | false =>
      rw [hb] at h
      exact List.mem_cons_of_mem _ (ih h)
end
section
/-! every method is checked -/
def zkk (m : Nat) : Bool := decide ((zY m).cls = zcn (zo m)) && (zC m).all (zck m)
set_option maxRecDepth 1000000 in
theorem zkc0 : (List.range' 0 25).all zkk = true := by decide +kernel
set_option maxRecDepth 1000000 in
theorem zkc1 : (List.range' 25 24).all zkk = true := by decide +kernel
set_option maxRecDepth 1000000 in
theorem zkc2 : (List.range' 49 30).all zkk = true := by decide +kernel
set_option maxRecDepth 1000000 in
theorem zkc3 : (List.range' 79 19).all zkk = true := by decide +kernel
end
section
/-! every method is checked (2) -/
set_option maxRecDepth 1000000 in
theorem zkc4 : (List.range' 98 29).all zkk = true := by decide +kernel
set_option maxRecDepth 1000000 in
theorem zkc5 : (List.range' 127 24).all zkk = true := by decide +kernel
set_option maxRecDepth 1000000 in
theorem zkc6 : (List.range' 151 17).all zkk = true := by decide +kernel
set_option maxRecDepth 1000000 in
theorem zkc7 : (List.range' 168 20).all zkk = true := by decide +kernel
end
section
/-! every method is checked (3) -/
set_option maxRecDepth 1000000 in
theorem zkc8 : (List.range' 188 20).all zkk = true := by decide +kernel
set_option maxRecDepth 1000000 in
theorem zkc9 : (List.range' 208 16).all zkk = true := by decide +kernel
set_option maxRecDepth 1000000 in
theorem zkc10 : (List.range' 224 14).all zkk = true := by decide +kernel
set_option maxRecDepth 1000000 in
theorem zkc11 : (List.range' 238 11).all zkk = true := by decide +kernel
end
section
/-! the law is checked (1) -/
set_option maxRecDepth 1000000 in
theorem zkl0 : ((zc249.drop 0).take 64).all (zck 249) = true := by decide +kernel
set_option maxRecDepth 1000000 in
theorem zkl1 : ((zc249.drop 64).take 64).all (zck 249) = true := by decide +kernel
set_option maxRecDepth 1000000 in
theorem zkl2 : ((zc249.drop 128).take 64).all (zck 249) = true := by decide +kernel
set_option maxRecDepth 1000000 in
theorem zkl3 : ((zc249.drop 192).take 64).all (zck 249) = true := by decide +kernel
set_option maxRecDepth 1000000 in
theorem zkl4 : ((zc249.drop 256).take 64).all (zck 249) = true := by decide +kernel
set_option maxRecDepth 1000000 in
theorem zkl5 : ((zc249.drop 320).take 64).all (zck 249) = true := by decide +kernel
end
section
/-! the law is checked (2) -/
set_option maxRecDepth 1000000 in
theorem zkl6 : ((zc249.drop 384).take 64).all (zck 249) = true := by decide +kernel
set_option maxRecDepth 1000000 in
theorem zkl7 : ((zc249.drop 448).take 64).all (zck 249) = true := by decide +kernel
set_option maxRecDepth 1000000 in
theorem zkl8 : ((zc249.drop 512).take 64).all (zck 249) = true := by decide +kernel
set_option maxRecDepth 1000000 in
theorem zkl9 : ((zc249.drop 576).take 64).all (zck 249) = true := by decide +kernel
set_option maxRecDepth 1000000 in
theorem zkl10 : ((zc249.drop 640).take 64).all (zck 249) = true := by decide +kernel
set_option maxRecDepth 1000000 in
theorem zkl11 : ((zc249.drop 704).take 64).all (zck 249) = true := by decide +kernel
end
section
/-! all sites stand -/
theorem zcls_ok : zcls zTs := by
  intro ci hci
  have hin : ∀ (ps : List Nat) (ws : List Jvm.Cond), ws.map some = ps.map (fun i => lw_tbl[i]?) → ws.all goodWord = true → ∀ w ∈ ws, w ∈ zTs := by
    intro ps ws h1 h2 w hw
    refine List.mem_filter.mpr ⟨?_, List.all_eq_true.mp h2 w hw⟩
    have : some w ∈ ps.map (fun i => lw_tbl[i]?) := by rw [← h1]; exact List.mem_map.mpr ⟨w, hw, rfl⟩
    obtain ⟨i, -, hi⟩ := List.mem_map.mp this
    exact List.mem_of_getElem? hi
  match ci, hci with
  | 0, _ => exact ⟨hin [341, 343] _ (by decide +kernel) (by decide +kernel), tyX0_ok, nmX0, zIn 331 (by decide +kernel) rfl, zIn 100 (by decide +kernel) rfl, by decide +kernel⟩
  | 1, _ => exact ⟨hin [353] _ (by decide +kernel) (by decide +kernel), tyX1_ok, nmX1, zIn 347 (by decide +kernel) rfl, zIn 101 (by decide +kernel) rfl, by decide +kernel⟩
  | 2, _ => exact ⟨hin [370, 372, 374, 376, 378, 380, 382, 384] _ (by decide +kernel) (by decide +kernel), tyX2_ok, nmX2, zIn 357 (by decide +kernel) rfl, zIn 102 (by decide +kernel) rfl, by decide +kernel⟩
  | 3, _ => exact ⟨hin [181, 183, 185, 187, 189, 191, 193, 195, 197, 199, 201, 203, 205, 207, 209, 211, 213, 215] _ (by decide +kernel) (by decide +kernel), tyX3_ok, nmX3, zIn 138 (by decide +kernel) rfl, zIn 93 (by decide +kernel) rfl, by decide +kernel⟩
  | 4, _ => exact ⟨hin [150] _ (by decide +kernel) (by decide +kernel), tyX4_ok, nmX4, zIn 144 (by decide +kernel) rfl, zIn 94 (by decide +kernel) rfl, by decide +kernel⟩
  | 5, _ => exact ⟨hin [398, 400, 402] _ (by decide +kernel) (by decide +kernel), tyX5_ok, nmX5, zIn 390 (by decide +kernel) rfl, zIn 103 (by decide +kernel) rfl, by decide +kernel⟩
  | 6, _ => exact ⟨hin [301, 303, 305, 307, 309, 311, 313, 315, 317, 319, 321, 323, 325, 327] _ (by decide +kernel) (by decide +kernel), tyX6_ok, nmX6, zIn 276 (by decide +kernel) rfl, zIn 99 (by decide +kernel) rfl, by decide +kernel⟩
  | 7, _ => exact ⟨hin [125, 127, 129, 131, 133] _ (by decide +kernel) (by decide +kernel), tyX7_ok, nmX7, zIn 115 (by decide +kernel) rfl, zIn 92 (by decide +kernel) rfl, by decide +kernel⟩
  | 8, _ => exact ⟨hin [253, 255, 257, 259, 261, 263, 265, 267, 269, 271] _ (by decide +kernel) (by decide +kernel), tyX8_ok, nmX8, zIn 222 (by decide +kernel) rfl, zIn 95 (by decide +kernel) rfl, by decide +kernel⟩
  | 9, _ => exact ⟨hin [417, 419, 421, 423, 425, 427, 429, 431, 433, 435, 437, 439] _ (by decide +kernel) (by decide +kernel), tyX9_ok, nmX9, zIn 107 (by decide +kernel) rfl, zIn 91 (by decide +kernel) rfl, by decide +kernel⟩
  | 10, _ => exact ⟨hin [1177, 1179, 1181, 1183, 1185, 1187, 1189, 1191, 1193, 1195, 1197, 1199, 1201, 1203, 1205, 1207, 1209, 1211, 1213, 1215, 1217, 1219, 1221, 1223, 1225, 1227, 1229, 1231, 1233, 1235, 1237, 1239, 1241, 1243, 1245, 1247, 1249, 1251, 1253, 1255, 1257, 1259, 1261, 1263, 1265, 1267, 1269] _ (by decide +kernel) (by decide +kernel), tyX10_ok, nmX10, zIn 1063 (by decide +kernel) rfl, zIn 104 (by decide +kernel) rfl, by decide +kernel⟩
theorem zsplit {α : Type} (p : α → Bool) (n : Nat) : ∀ (m : Nat) (l : List α), (∀ q, q < m → ((l.drop (n * q)).take n).all p = true) → l.length ≤ n * m → l.all p = true := by
  intro m
  induction m with
  | zero =>
    intro l _ hl
    have : l = [] := List.eq_nil_of_length_eq_zero (by omega)
    rw [this]
    rfl
  | succ m ih =>
    intro l h hl
    have h0 := h 0 (by omega)
    rw [Nat.mul_zero, List.drop_zero] at h0
    rw [← List.take_append_drop n l, List.all_append, h0, Bool.true_and]
    refine ih (l.drop n) (fun q hq => ?_) (by rw [List.length_drop, Nat.mul_succ] at *; omega)
    have := h (q + 1) (by omega)
    rw [List.drop_drop]
    rwa [Nat.mul_succ, Nat.add_comm] at this
theorem zkl_all : zc249.all (zck 249) = true := by
  refine zsplit (zck 249) 64 12 zc249 (fun q hq => ?_) (by decide +kernel)
  match q, hq with
  | 0, _ => exact zkl0
  | 1, _ => exact zkl1
  | 2, _ => exact zkl2
  | 3, _ => exact zkl3
  | 4, _ => exact zkl4
  | 5, _ => exact zkl5
  | 6, _ => exact zkl6
  | 7, _ => exact zkl7
  | 8, _ => exact zkl8
  | 9, _ => exact zkl9
  | 10, _ => exact zkl10
  | 11, _ => exact zkl11
theorem zkk_all (m : Nat) (h : m < 250) : zkk m = true := by
  have key : ∀ a n, (List.range' a n).all zkk = true → a ≤ m → m < a + n → zkk m = true := fun a n hc h1 h2 => List.all_eq_true.mp hc m (List.mem_range'_1.mpr ⟨h1, h2⟩)
  by_cases h0 : m < 25
  · exact key 0 25 zkc0 (by omega) (by omega)
  by_cases h1 : m < 49
  · exact key 25 24 zkc1 (by omega) (by omega)
  by_cases h2 : m < 79
  · exact key 49 30 zkc2 (by omega) (by omega)
  by_cases h3 : m < 98
  · exact key 79 19 zkc3 (by omega) (by omega)
  by_cases h4 : m < 127
  · exact key 98 29 zkc4 (by omega) (by omega)
  by_cases h5 : m < 151
  · exact key 127 24 zkc5 (by omega) (by omega)
  by_cases h6 : m < 168
  · exact key 151 17 zkc6 (by omega) (by omega)
  by_cases h7 : m < 188
  · exact key 168 20 zkc7 (by omega) (by omega)
  by_cases h8 : m < 208
  · exact key 188 20 zkc8 (by omega) (by omega)
  by_cases h9 : m < 224
  · exact key 208 16 zkc9 (by omega) (by omega)
  by_cases h10 : m < 238
  · exact key 224 14 zkc10 (by omega) (by omega)
  by_cases h11 : m < 249
  · exact key 238 11 zkc11 (by omega) (by omega)
  · have e : m = 249 := by omega
    subst e
    unfold zkk
    rw [show zC 249 = zc249 from rfl, zkl_all, Bool.and_true]
    decide +kernel
theorem zC_none {m : Nat} (h : ¬ m < 250) : zC m = [] := by
  unfold zC
  rw [show Nat.blt m 250 = false by
    cases hb : Nat.blt m 250
    · rfl
    · exact absurd (Nat.blt_eq.mp hb) h]
  rfl
theorem zall_ok : zall zF zY zB zX zT zTs zNw zAO := by
  refine ⟨fun mid pc x hF => ?_, zcls_ok, zTs_good, zNw_ok⟩
  have hF' : zfd (zC mid) pc = some x := hF
  by_cases hm : mid < 250
  · have h := zkk_all mid hm
    unfold zkk at h
    rw [Bool.and_eq_true] at h
    exact zck_ok (x := (pc, x)) (of_decide_eq_true h.1) (List.all_eq_true.mp h.2 (pc, x) (zfd_in hF'))
  · rw [zC_none hm] at hF'
    cases hF'
end
section
/-! rows: one a kind of instruction, over the interpreter -/
section
variable (F : Nat → Nat → Option zE) (al : Nat → zR)
def Ew (d c s mid pc : Nat) (ls : List (Option zV)) (st : List zV) (M : zM) (Q : Option zV → zM → Prop) : Prop := ∃ n, ev F al n d c s mid pc ls st M Q
def evc (n d c s mid pc len : Nat) (ls : List (Option zV)) (st : List zV) (M : zM) (Q : Option zV → zM → Prop) (a : List Nat) : Prop := match d with
  | 0 => False
  | d + 1 => match a with
    | [mode] => znat al mode st M c s (fun c s st M => ev F al n (d + 1) c s mid (pc + len) ls st M Q)
    | [mode, mid', cl, na, nl, bc, bs] => bc ≤ c ∧ bs ≤ s ∧ na ≤ st.length ∧ zcats (st.drop na) ≤ 8 ∧ zrec mode cl (st.take na).reverse M ∧ (zent (st.take na).reverse).length ≤ nl ∧
        ev F al n d bc bs mid' 0 (zpad (zent (st.take na).reverse) nl) [] M (fun r M' => ev F al n (d + 1) (c - bc) (s - bs) mid (pc + len) ls (zpush r (st.drop na)) M' Q)
    | _ => False
end
section
variable {F : Nat → Nat → Option zE} {al : Nat → zR} {d c s mid pc pc' len : Nat} {ls ls' : List (Option zV)} {st st' : List zV} {M M' : zM} {Q Q' : Option zV → zM → Prop} {i : Instr} {a : List Nat} {z : Int} {I : zI} {L : zL} {P : zP} {S : zS} {top : Nat} {r j q : Nat}
theorem Ew.post (h : Ew F al d c s mid pc ls st M Q) (hQ : ∀ r M, Q r M → Q' r M) : Ew F al d c s mid pc ls st M Q' := by
  obtain ⟨n, h⟩ := h
  exact ⟨n, ev_q h hQ⟩
theorem Ew.op (hF : F mid pc = some (i, len, a, z)) (hop : zop i z st = some st') (hpc : pc + len = pc') (k : Ew F al d c s mid pc' ls st' M Q) : Ew F al d c s mid pc ls st M Q := by
  subst hpc
  obtain ⟨n, h⟩ := k
  refine ⟨n + 1, ?_⟩
  rw [ev, hF]
  simp only
  rw [hop]
  exact h
theorem zld_op {kk : Nat × Nat} (h : zld i = some kk) : zop i z st = none := by
  cases i <;> first | rfl | (simp [zld] at h)
theorem zsr_op {kk : Nat × Nat} (h : zsr i = some kk) : zop i z st = none ∧ zld i = none := by
  cases i <;> first | exact ⟨rfl, rfl⟩ | (simp [zsr] at h)
theorem Ew.ld {k kd : Nat} {v : zV} (hF : F mid pc = some (i, len, a, z)) (hop : zld i = some (k, kd)) (hk : ls[k]? = some (some v)) (hkd : zkd v = kd) (hpc : pc + len = pc') (kk : Ew F al d c s mid pc' ls (v :: st) M Q) : Ew F al d c s mid pc ls st M Q := by
  subst hpc
  obtain ⟨n, h⟩ := kk
  refine ⟨n + 1, ?_⟩
  rw [ev, hF]
  simp only
  rw [zld_op hop]
  simp only
  rw [hop]
  simp only
  rw [hk]
  exact ⟨hkd, h⟩
theorem Ew.sr {k kd : Nat} {v : zV} (hF : F mid pc = some (i, len, a, z)) (hop : zsr i = some (k, kd)) (hkd : zkd v = kd) (hk : k + zcat v ≤ ls.length) (hs : zsto ls k v = ls') (hpc : pc + len = pc') (kk : Ew F al d c s mid pc' ls' st M Q) : Ew F al d c s mid pc ls (v :: st) M Q := by
  subst hpc
  subst hs
  obtain ⟨n, h⟩ := kk
  refine ⟨n + 1, ?_⟩
  rw [ev, hF]
  simp only
  rw [(zsr_op (z := z) (st := v :: st) hop).1]
  simp only
  rw [(zsr_op (z := z) (st := st) hop).2]
  simp only
  rw [hop]
  exact ⟨hkd, hk, h⟩
theorem Ew.iinc {k : Nat} {y : Int} {x v : Int32} (hF : F mid pc = some (.iinc k y, len, a, z)) (hk : ls[k]? = some (some (zi x))) (hv : x + Int32.ofInt y = v) (hs : zsto ls k (zi v) = ls') (hpc : pc + len = pc') (kk : Ew F al d c s mid pc' ls' st M Q) : Ew F al d c s mid pc ls st M Q := by
  subst hpc
  subst hs
  subst hv
  obtain ⟨n, h⟩ := kk
  refine ⟨n + 1, ?_⟩
  rw [ev, hF]
  simp only [zop, zld, zsr]
  rw [hk]
  exact h
/-- instructions of the last kinds -/
def zlast (i : Instr) : Bool := match i with
  | .aaload => true
  | .aastore => true
  | .anewarray _ => true
  | .areturn => true
  | .arraylength => true
  | .caload => true
  | .castore => true
  | .checkcast _ => true
  | .getfield _ => true
  | .goto _ => true
  | .iaload => true
  | .iastore => true
  | .idiv => true
  | .if_icmp _ _ => true
  | .ifCond _ _ => true
  | .irem => true
  | .ireturn => true
  | .laload => true
  | .lastore => true
  | .ldiv => true
  | .lrem => true
  | .lreturn => true
  | .new _ => true
  | .newarray _ => true
  | .putfield _ => true
  | .return_ => true
  | .tableswitch _ _ _ _ => true
  | _ => false
theorem ev_last {n : Nat} (hF : F mid pc = some (i, len, a, z)) (hi : zlast i = true) (h : zmem i a st M (fun st M => ev F al n d c s mid (pc + len) ls st M Q) ∨ zmk al i a st M c s (fun c s st M => ev F al n d c s mid (pc + len) ls st M Q) ∨ zbr i pc len st (fun pc st => ev F al n d c s mid pc ls st M Q) ∨ zret i a st (fun r => Q r M)) : ev F al (n + 1) d c s mid pc ls st M Q := by
  rw [ev, hF]
  cases i <;> first | exact h | (simp [zlast] at hi)
theorem Ew.mem (hF : F mid pc = some (i, len, a, z)) (hi : zlast i = true) (hop : ∀ k : List zV → zM → Prop, k st' M' → zmem i a st M k) (hpc : pc + len = pc') (kk : Ew F al d c s mid pc' ls st' M' Q) : Ew F al d c s mid pc ls st M Q := by
  subst hpc
  obtain ⟨n, h⟩ := kk
  exact ⟨n + 1, ev_last hF hi (Or.inl (hop _ h))⟩
theorem Ew.mk {c' s' : Nat} (hF : F mid pc = some (i, len, a, z)) (hi : zlast i = true) (hop : ∀ k : Nat → Nat → List zV → zM → Prop, k c' s' st' M' → zmk al i a st M c s k) (hpc : pc + len = pc') (kk : Ew F al d c' s' mid pc' ls st' M' Q) : Ew F al d c s mid pc ls st M Q := by
  subst hpc
  obtain ⟨n, h⟩ := kk
  exact ⟨n + 1, ev_last hF hi (Or.inr (Or.inl (hop _ h)))⟩
theorem Ew.ret (hF : F mid pc = some (i, len, a, z)) (hi : zlast i = true) (hop : zret i a st (fun r => Q r M)) : Ew F al d c s mid pc ls st M Q := ⟨1, ev_last hF hi (Or.inr (Or.inr (Or.inr hop)))⟩
theorem Ew.goto {off : Int} (hF : F mid pc = some (.goto off, len, a, z)) (hpc : zj pc off = pc') (kk : Ew F al d c s mid pc' ls st M Q) : Ew F al d c s mid pc ls st M Q := by
  subst hpc
  obtain ⟨n, h⟩ := kk
  exact ⟨n + 1, ev_last hF rfl (Or.inr (Or.inr (Or.inl h)))⟩
theorem Ew.tsw {dflt lo hi : Int} {offs : Array Int} {x : Int32} (hF : F mid pc = some (.tableswitch dflt lo hi offs, len, a, z)) (hpc : ztw pc dflt lo hi offs x = pc') (kk : Ew F al d c s mid pc' ls st M Q) : Ew F al d c s mid pc ls (zi x :: st) M Q := by
  subst hpc
  obtain ⟨n, h⟩ := kk
  exact ⟨n + 1, ev_last hF rfl (Or.inr (Or.inr (Or.inl h)))⟩
theorem Ew.ifc {cd : ClassFile.Cond} {off : Int} {x : Int32} {t1 t2 : Nat} (hF : F mid pc = some (.ifCond cd off, len, a, z)) (h1 : zj pc off = t1) (h2 : pc + len = t2) (kt : zcz cd x → Ew F al d c s mid t1 ls st M Q) (kf : ¬ zcz cd x → Ew F al d c s mid t2 ls st M Q) : Ew F al d c s mid pc ls (zi x :: st) M Q := by
  subst h1
  subst h2
  by_cases hc : zcz cd x
  · obtain ⟨n, h⟩ := kt hc
    exact ⟨n + 1, ev_last hF rfl (Or.inr (Or.inr (Or.inl ⟨fun _ => h, fun g => absurd hc g⟩)))⟩
  · obtain ⟨n, h⟩ := kf hc
    exact ⟨n + 1, ev_last hF rfl (Or.inr (Or.inr (Or.inl ⟨fun g => absurd g hc, fun _ => h⟩)))⟩
theorem Ew.icmp {cd : ClassFile.Cond} {off : Int} {x y : Int32} {t1 t2 : Nat} (hF : F mid pc = some (.if_icmp cd off, len, a, z)) (h1 : zj pc off = t1) (h2 : pc + len = t2) (kt : zcc cd x y → Ew F al d c s mid t1 ls st M Q) (kf : ¬ zcc cd x y → Ew F al d c s mid t2 ls st M Q) : Ew F al d c s mid pc ls (zi y :: zi x :: st) M Q := by
  subst h1
  subst h2
  by_cases hc : zcc cd x y
  · obtain ⟨n, h⟩ := kt hc
    exact ⟨n + 1, ev_last hF rfl (Or.inr (Or.inr (Or.inl ⟨fun _ => h, fun g => absurd hc g⟩)))⟩
  · obtain ⟨n, h⟩ := kf hc
    exact ⟨n + 1, ev_last hF rfl (Or.inr (Or.inr (Or.inl ⟨fun g => absurd g hc, fun _ => h⟩)))⟩
theorem ev_call {n : Nat} (hF : F mid pc = some (i, len, a, z)) (hi : zcall i = true) (h : evc F al n d c s mid pc len ls st M Q a) : ev F al (n + 1) d c s mid pc ls st M Q := by
  unfold evc at h
  rw [ev, hF]
  cases i <;> first | exact h | (simp [zcall] at hi)
theorem Ew.nat {mode c' s' : Nat} (hF : F mid pc = some (i, len, [mode], z)) (hi : zcall i = true) (hop : ∀ k : Nat → Nat → List zV → zM → Prop, k c' s' st' M' → znat al mode st M c s k) (hpc : pc + len = pc') (kk : Ew F al (d + 1) c' s' mid pc' ls st' M' Q) : Ew F al (d + 1) c s mid pc ls st M Q := by
  subst hpc
  obtain ⟨n, h⟩ := kk
  exact ⟨n + 1, ev_call hF hi (show evc F al n (d + 1) c s mid pc len ls st M Q [mode] from hop (fun c s st M => ev F al n (d + 1) c s mid (pc + len) ls st M Q) h)⟩
/-- a call: its arguments, the frame that it begins, what comes behind it -/
theorem Ew.call {mode mid' cl na nl bc bs : Nat} {as rest : List zV} {ls0 : List (Option zV)} (hF : F mid pc = some (i, len, [mode, mid', cl, na, nl, bc, bs], z)) (hi : zcall i = true) (hb : bc ≤ c ∧ bs ≤ s) (hna : na ≤ st.length) (hrest : st.drop na = rest) (has : (st.take na).reverse = as) (hcat : zcats rest ≤ 8) (hrec : zrec mode cl as M) (hlen : (zent as).length ≤ nl) (hls : zpad (zent as) nl = ls0) (hpc : pc + len = pc')
    (kk : Ew F al d bc bs mid' 0 ls0 [] M (fun r M' => Ew F al (d + 1) (c - bc) (s - bs) mid pc' ls (zpush r rest) M' Q)) : Ew F al (d + 1) c s mid pc ls st M Q := by
  subst hpc
  subst hls
  subst hrest
  subst has
  obtain ⟨n, h⟩ := kk
  obtain ⟨r, M', ⟨m, h1⟩, h2⟩ := ev_pt h
  refine ⟨max n m + 1, ev_call hF hi ⟨hb.1, hb.2, hna, hcat, hrec, hlen, ?_⟩⟩
  exact ev_le (h2 _ (ev_le h1 (Nat.le_max_right n m))) (Nat.le_max_left n m)
/-- a deeper stack is no harm -/
theorem ev_d : ∀ {n d d' c s mid pc : Nat} {ls : List (Option zV)} {st : List zV} {M : zM} {Q : Option zV → zM → Prop}, ev F al n d c s mid pc ls st M Q → d ≤ d' → ev F al n d' c s mid pc ls st M Q := by
  intro n
  induction n with
  | zero => intro d d' c s mid pc ls st M Q h _; exact h.elim
  | succ n ih =>
    intro d d' c s mid pc ls st M Q h hd
    rw [ev] at h ⊢
    split at h
    · exact h.elim
    · rename_i i len a z hF
      split at h
      · exact ih h hd
      · split at h
        · split at h
          · exact ⟨h.1, ih h.2 hd⟩
          · exact h.elim
        · split at h
          · split at h
            · exact ⟨h.1, h.2.1, ih h.2.2 hd⟩
            · exact h.elim
          · split at h
            · split at h
              · exact ih h hd
              · exact h.elim
            · split at h
              · cases d with
                | zero => exact h.elim
                | succ d =>
                  cases d' with
                  | zero => omega
                  | succ d' =>
                    simp only at h ⊢
                    split at h
                    · obtain ⟨c', s', st', M', h1, h2⟩ := znat_pt h
                      exact h2 (fun c s st M => ev F al n (d' + 1) c s mid (pc + len) ls st M Q) (ih h1 hd)
                    · obtain ⟨g1, g2, g3, g4, g5, g7, g6⟩ := h
                      exact ⟨g1, g2, g3, g4, g5, g7, ev_q (ih g6 (by omega)) (fun r M' h => ih h hd)⟩
                    · exact h.elim
              · rcases h with h | h | h | h
                · obtain ⟨st', M', h1, h2⟩ := zmem_pt h
                  exact Or.inl (h2 (fun st M => ev F al n d' c s mid (pc + len) ls st M Q) (ih h1 hd))
                · obtain ⟨c', s', st', M', h1, h2⟩ := zmk_pt h
                  exact Or.inr (Or.inl (h2 (fun c s st M => ev F al n d' c s mid (pc + len) ls st M Q) (ih h1 hd)))
                · obtain ⟨pc', st', h1, h2⟩ := zbr_pt h
                  exact Or.inr (Or.inr (Or.inl (h2 (fun pc st => ev F al n d' c s mid pc ls st M Q) (ih h1 hd))))
                · exact Or.inr (Or.inr (Or.inr h))
theorem Ew.deep {d' : Nat} (h : Ew F al d c s mid pc ls st M Q) (hd : d ≤ d') : Ew F al d' c s mid pc ls st M Q := by
  obtain ⟨n, h⟩ := h
  exact ⟨n, ev_d h hd⟩
end
end
section
/-! where the cells lie: the class's, the tables', the reference's, those that come later -/
def zN : Nat := 237
def zsta : List zR := [(0, 0, 0), (0, 0, 1), (0, 0, 2), (0, 0, 3), (0, 0, 4), (3, 0, 0), (3, 1, 0), (0, 0, 5), (0, 0, 6), (0, 0, 7), (0, 0, 8), (0, 0, 9), (0, 0, 10), (3, 2, 0), (3, 3, 0), (3, 4, 0), (3, 5, 0), (3, 6, 0), (3, 7, 0), (3, 8, 0), (0, 0, 11), (2, 0, 0), (2, 0, 1), (2, 0, 2), (2, 0, 3), (2, 0, 4), (2, 0, 5), (2, 0, 6), (2, 0, 7), (2, 0, 8), (2, 0, 9), (2, 0, 10), (2, 1, 0), (2, 1, 1), (2, 1, 2), (2, 1, 3), (2, 1, 4), (2, 1, 5), (2, 1, 6), (2, 1, 7), (2, 1, 8), (2, 1, 9), (2, 1, 10), (4, 0, 0), (4, 0, 1), (2, 2, 0), (2, 2, 1), (2, 2, 2), (2, 2, 3), (2, 2, 4), (2, 2, 5), (2, 2, 6), (2, 2, 7), (2, 2, 8), (2, 2, 9), (2, 2, 10), (2, 3, 0), (2, 3, 1), (2, 3, 2), (2, 3, 3), (2, 3, 4), (2, 3, 5), (2, 3, 6), (2, 3, 7), (2, 3, 8), (2, 3, 9), (2, 3, 10), (2, 4, 0), (2, 4, 1), (2, 4, 2), (2, 4, 3), (2, 4, 4), (2, 4, 5), (2, 4, 6), (2, 4, 7), (2, 4, 8), (2, 4, 9), (2, 4, 10), (2, 5, 0), (2, 5, 1), (2, 5, 2), (2, 5, 3), (2, 5, 4), (2, 5, 5), (2, 5, 6), (2, 5, 7), (2, 5, 8), (2, 5, 9), (2, 5, 10), (2, 6, 0), (2, 6, 1), (2, 6, 2), (2, 6, 3), (2, 6, 4), (2, 6, 5), (2, 6, 6), (2, 6, 7), (2, 6, 8), (2, 6, 9), (2, 6, 10), (2, 7, 0), (2, 7, 1), (2, 7, 2), (2, 7, 3), (2, 7, 4), (2, 7, 5), (2, 7, 6), (2, 7, 7), (2, 7, 8), (2, 7, 9), (2, 7, 10), (2, 8, 0), (2, 8, 1), (2, 8, 2), (2, 8, 3), (2, 8, 4), (2, 8, 5), (2, 8, 6), (2, 8, 7), (2, 8, 8), (2, 8, 9), (2, 8, 10), (4, 1, 0), (4, 1, 1), (2, 9, 0), (2, 9, 1), (2, 9, 2), (2, 9, 3), (2, 9, 4), (2, 9, 5), (2, 9, 6), (2, 9, 7), (2, 9, 8), (2, 9, 9), (2, 9, 10), (2, 10, 0), (2, 10, 1), (2, 10, 2), (2, 10, 3), (2, 10, 4), (2, 10, 5), (2, 10, 6), (2, 10, 7), (2, 10, 8), (2, 10, 9), (2, 10, 10), (2, 11, 0), (2, 11, 1), (2, 11, 2), (2, 11, 3), (2, 11, 4), (2, 11, 5), (2, 11, 6), (2, 11, 7), (2, 11, 8), (2, 11, 9), (2, 11, 10), (2, 12, 0), (2, 12, 1), (2, 12, 2), (2, 12, 3), (2, 12, 4), (2, 12, 5), (2, 12, 6), (2, 12, 7), (2, 12, 8), (2, 12, 9), (2, 12, 10), (2, 13, 0), (2, 13, 1), (2, 13, 2), (2, 13, 3), (2, 13, 4), (2, 13, 5), (2, 13, 6), (2, 13, 7), (2, 13, 8), (2, 13, 9), (2, 13, 10), (2, 14, 0), (2, 14, 1), (2, 14, 2), (2, 14, 3), (2, 14, 4), (2, 14, 5), (2, 14, 6), (2, 14, 7), (2, 14, 8), (2, 14, 9), (2, 14, 10), (0, 0, 12), (0, 0, 13), (0, 0, 14), (0, 0, 15), (0, 0, 16), (0, 0, 17), (5, 0, 0), (5, 0, 1), (5, 1, 0), (5, 1, 1), (5, 2, 0), (5, 2, 1), (5, 3, 0), (5, 3, 1), (1, 0, 0), (1, 0, 1), (1, 0, 2), (1, 0, 3), (1, 0, 4), (1, 0, 5), (1, 0, 6), (1, 0, 7), (1, 0, 8), (1, 0, 9), (1, 0, 10), (1, 0, 11), (1, 0, 12), (1, 0, 13), (1, 0, 14), (1, 0, 15), (1, 0, 16), (1, 0, 17), (1, 0, 18), (1, 0, 19), (1, 0, 20), (1, 0, 21), (1, 0, 22), (1, 0, 23), (1, 0, 24), (1, 0, 25), (1, 0, 26), (1, 0, 27), (1, 0, 28), (1, 0, 29), (1, 0, 30), (1, 0, 31), (1, 0, 32)]
def zal (n : Nat) : zR := cond (Nat.blt n 237) (zsta.getD n (3, 0, 0)) (3, n - 237 + 9, 0)
def zix (r : zR) : Nat := if r.1 = 3 ∧ 9 ≤ r.2.1 ∧ r.2.2 = 0 then r.2.1 - 9 + 237 else zsta.idxOf r
theorem zix_al (n : Nat) : zix (zal n) = n := by
  by_cases h : n < 237
  · have h1 : ∀ m, m < 237 → zix (zal m) = m := by decide +kernel
    exact h1 n h
  · have e : zal n = (3, n - 237 + 9, 0) := by
      unfold zal
      rw [show Nat.blt n 237 = false by
        cases hb : Nat.blt n 237
        · rfl
        · exact absurd (Nat.blt_eq.mp hb) h]
      rfl
    rw [e]
    unfold zix
    rw [if_pos ⟨rfl, by show 9 ≤ n - 237 + 9; omega, rfl⟩]
    show n - 237 + 9 - 9 + 237 = n
    omega
theorem zal_9 (n : Nat) : (zal n).1 ≠ 9 := by
  by_cases h : n < 237
  · have h1 : ∀ m, m < 237 → (zal m).1 ≠ 9 := by decide +kernel
    exact h1 n h
  · have e : zal n = (3, n - 237 + 9, 0) := by
      unfold zal
      rw [show Nat.blt n 237 = false by
        cases hb : Nat.blt n 237
        · rfl
        · exact absurd (Nat.blt_eq.mp hb) h]
      rfl
    rw [e]
    exact (by decide : (3 : Nat) ≠ 9)
theorem zal_dyn (t : Nat) : zal (237 + t) = (3, t + 9, 0) := by
  unfold zal
  rw [show Nat.blt (237 + t) 237 = false by
    cases hb : Nat.blt (237 + t) 237
    · rfl
    · exact absurd (Nat.blt_eq.mp hb) (by omega)]
  show (3, 237 + t - 237 + 9, 0) = _
  rw [show 237 + t - 237 + 9 = t + 9 by omega]
abbrev Ev (d c s mid pc : Nat) (ls : List (Option zV)) (st : List zV) (M : zM) (Q : Option zV → zM → Prop) : Prop := Ew zF zal d c s mid pc ls st M Q
/-- pointers that never change, laid over a memory of pointers -/
def zpj (P : zP) : zP := fun r j q i => match r with
  | 0 => match q with
    | 0 => match i with | 0 => some (0, 0, 1) | 1 => some (0, 0, 4) | 2 => some (0, 0, 11) | 3 => some (2, 0, 0) | 4 => some (2, 1, 0) | 5 => some (4, 0, 0) | 6 => some (2, 8, 0) | 7 => some (4, 1, 0) | 9 => some (0, 0, 12) | 10 => some (0, 0, 14) | 11 => some (0, 0, 17) | _ => P 0 j 0 i
    | 1 => match i with | 0 => some (0, 0, 2) | 2 => some (0, 0, 3) | _ => P 0 j 1 i
    | 4 => match i with | 2 => some (0, 0, 5) | 3 => some (0, 0, 6) | 4 => some (0, 0, 7) | 5 => some (0, 0, 8) | 8 => some (0, 0, 9) | 12 => some (0, 0, 10) | _ => P 0 j 4 i
    | 12 => match i with | 0 => some (0, 0, 13) | _ => P 0 j 12 i
    | 14 => match i with | 0 => some (0, 0, 15) | 1 => some (0, 0, 16) | _ => P 0 j 14 i
    | 17 => match i with | 0 => some (5, 0, 0) | 1 => some (5, 1, 0) | 2 => some (5, 2, 0) | 3 => some (5, 3, 0) | _ => P 0 j 17 i
    | q => P 0 j q i
  | 1 => match q with
    | 0 => match i with | 0 => some (1, 0, 1) | 1 => some (1, 0, 2) | 3 => some (1, 0, 3) | 4 => some (1, 0, 4) | 6 => some (1, 0, 5) | 8 => some (1, 0, 6) | 9 => some (1, 0, 7) | 10 => some (1, 0, 8) | 11 => some (1, 0, 9) | 12 => some (1, 0, 10) | 13 => some (1, 0, 11) | 14 => some (1, 0, 12) | 15 => some (1, 0, 13) | 16 => some (1, 0, 14) | 17 => some (1, 0, 15) | 18 => some (1, 0, 16) | 19 => some (1, 0, 17) | 20 => some (1, 0, 18) | 22 => some (1, 0, 19) | 23 => some (1, 0, 20) | 24 => some (1, 0, 21) | 25 => some (1, 0, 22) | 27 => some (1, 0, 23) | 28 => some (1, 0, 24) | 30 => some (1, 0, 25) | 33 => some (1, 0, 26) | 35 => some (1, 0, 27) | 38 => some (1, 0, 28) | 39 => some (1, 0, 29) | 40 => some (1, 0, 30) | 41 => some (1, 0, 31) | 42 => some (1, 0, 32) | _ => P 1 j 0 i
    | q => P 1 j q i
  | 2 => match q with
    | 0 => match i with | 0 => some (2, j, 1) | 1 => some (2, j, 2) | 6 => some (2, j, 3) | 7 => some (2, j, 4) | 8 => some (2, j, 5) | 9 => some (2, j, 6) | 10 => some (2, j, 7) | 11 => some (2, j, 8) | 12 => some (2, j, 9) | 13 => some (2, j, 10) | _ => P 2 j 0 i
    | q => P 2 j q i
  | 4 => match q with
    | 0 => match i with | 0 => some (4, j, 1) | _ => P 4 j 0 i
    | q => P 4 j q i
  | 5 => match q with
    | 0 => match i with | 2 => some (5, j, 1) | _ => P 5 j 0 i
    | q => P 5 j q i
  | r => P r j q i
def zs0 (q : Nat) : Nat × Nat := match q with | 0 => (10, 0) | 1 => (8, 0) | 2 => (22, 60) | 3 => (22, 6) | 4 => (4, 0) | 5 => (20, 30) | 6 => (20, 30) | 7 => (20, 30) | 8 => (20, 31) | 9 => (20, 6) | 10 => (20, 30) | 11 => (24, 4) | 12 => (2, 0) | 13 => (20, 6) | 14 => (3, 0) | 15 => (21, 31) | 16 => (21, 31) | 17 => (26, 4) | _ => (0, 0)
def zs1 (q : Nat) : Nat × Nat := match q with | 0 => (11, 0) | 1 => (20, 270) | 2 => (20, 1620) | 3 => (20, 270) | 4 => (20, 1620) | 5 => (20, 60) | 6 => (20, 4) | 7 => (20, 4) | 8 => (21, 96) | 9 => (21, 24) | 10 => (20, 120) | 11 => (20, 120) | 12 => (20, 120) | 13 => (20, 4) | 14 => (20, 4) | 15 => (20, 4) | 16 => (20, 4) | 17 => (20, 4) | 18 => (20, 4) | 19 => (20, 6) | 20 => (20, 6) | 21 => (20, 6) | 22 => (20, 6) | 23 => (20, 31) | 24 => (20, 31) | 25 => (20, 6) | 26 => (20, 270) | 27 => (20, 60) | 28 => (20, 6) | 29 => (21, 961) | 30 => (21, 961) | 31 => (20, 31) | 32 => (20, 31) | _ => (0, 0)
def zs2 (q : Nat) : Nat × Nat := match q with | 0 => (7, 0) | 1 => (23, 4) | 2 => (24, 4) | 3 => (20, 6) | 4 => (20, 6) | 5 => (20, 6) | 6 => (20, 4) | 7 => (20, 4) | 8 => (20, 4) | 9 => (20, 4) | 10 => (20, 4) | _ => (0, 0)
def zs4 (q : Nat) : Nat × Nat := match q with | 0 => (1, 0) | 1 => (25, 6) | _ => (0, 0)
def zs5 (q : Nat) : Nat × Nat := match q with | 0 => (6, 0) | 1 => (21, 24) | _ => (0, 0)
/-- shapes that never change, laid over those of later cells -/
def zsj (S : zS) : zS := fun r j q => match r with
  | 0 => cond (Nat.beq j 0) (zs0 q) (0, 0)
  | 1 => cond (Nat.beq j 0) (zs1 q) (0, 0)
  | 2 => cond (Nat.blt j 15) (zs2 q) (0, 0)
  | 4 => cond (Nat.blt j 2) (zs4 q) (0, 0)
  | 5 => cond (Nat.blt j 4) (zs5 q) (0, 0)
  | r => S r j q
theorem zsj2 (S : zS) {j : Nat} (h : j < 15) (q : Nat) : zsj S 2 j q = zs2 q := by
  show cond (Nat.blt j 15) (zs2 q) (0, 0) = zs2 q
  rw [Nat.blt_eq.mpr h]
  rfl
theorem zsj4 (S : zS) {j : Nat} (h : j < 2) (q : Nat) : zsj S 4 j q = zs4 q := by
  show cond (Nat.blt j 2) (zs4 q) (0, 0) = zs4 q
  rw [Nat.blt_eq.mpr h]
  rfl
theorem zsj5 (S : zS) {j : Nat} (h : j < 4) (q : Nat) : zsj S 5 j q = zs5 q := by
  show cond (Nat.blt j 4) (zs5 q) (0, 0) = zs5 q
  rw [Nat.blt_eq.mpr h]
  rfl
end
