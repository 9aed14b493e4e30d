section
-- ===== PART A: goes FIRST, ahead of the names: the tables' words, and 'selects' of the private methods out of them =====
/-- a private method of a class that the tables say can be made, by its rows of tables_1 -/
def lw_okq (q : MethodName × Nat) : Prop := (q.1.cls ≠ "java/lang/invoke/MethodHandle" ∧ q.1.cls ≠ "java/lang/invoke/VarHandle") ∧ Cond.instantiable q.1.cls q.2 ∈ tables_1 ∧ Cond.privateMethod q.1 ∈ tables_1 ∧ Cond.instanceMethod q.1 ∈ tables_1
theorem lw_p0 : lw_okq (⟨"CircuitFiles$Form", "numberAnew", "(LCircuitFiles$Circuit;)V"⟩, 4) := ⟨⟨by decide +kernel, by decide +kernel⟩, List.mem_of_getElem? (i := 124) (by decide +kernel), List.mem_of_getElem? (i := 320) (by decide +kernel), List.mem_of_getElem? (i := 321) (by decide +kernel)⟩
theorem lw_p1 : lw_okq (⟨"CircuitFiles$Form", "putHeader", "(LCircuitFiles$Circuit;II)V"⟩, 4) := ⟨⟨by decide +kernel, by decide +kernel⟩, List.mem_of_getElem? (i := 124) (by decide +kernel), List.mem_of_getElem? (i := 324) (by decide +kernel), List.mem_of_getElem? (i := 325) (by decide +kernel)⟩
theorem lw_p2 : lw_okq (⟨"CircuitFiles$Form", "put", "(I)V"⟩, 4) := ⟨⟨by decide +kernel, by decide +kernel⟩, List.mem_of_getElem? (i := 124) (by decide +kernel), List.mem_of_getElem? (i := 328) (by decide +kernel), List.mem_of_getElem? (i := 329) (by decide +kernel)⟩
theorem lw_p3 : lw_okq (⟨"CircuitFiles$Form", "putNumber", "(II)V"⟩, 4) := ⟨⟨by decide +kernel, by decide +kernel⟩, List.mem_of_getElem? (i := 124) (by decide +kernel), List.mem_of_getElem? (i := 332) (by decide +kernel), List.mem_of_getElem? (i := 333) (by decide +kernel)⟩
theorem lw_p4 : lw_okq (⟨"CircuitFiles$Form", "newLiteral", "(I)I"⟩, 4) := ⟨⟨by decide +kernel, by decide +kernel⟩, List.mem_of_getElem? (i := 124) (by decide +kernel), List.mem_of_getElem? (i := 336) (by decide +kernel), List.mem_of_getElem? (i := 337) (by decide +kernel)⟩
theorem lw_p5 : lw_okq (⟨"CircuitFiles$Form", "putBinaryAnd", "(LCircuitFiles$Circuit;I)V"⟩, 4) := ⟨⟨by decide +kernel, by decide +kernel⟩, List.mem_of_getElem? (i := 124) (by decide +kernel), List.mem_of_getElem? (i := 340) (by decide +kernel), List.mem_of_getElem? (i := 341) (by decide +kernel)⟩
theorem lw_p6 : lw_okq (⟨"CircuitFiles$Form", "putDelta", "(I)V"⟩, 4) := ⟨⟨by decide +kernel, by decide +kernel⟩, List.mem_of_getElem? (i := 124) (by decide +kernel), List.mem_of_getElem? (i := 347) (by decide +kernel), List.mem_of_getElem? (i := 348) (by decide +kernel)⟩
theorem lw_p7 : lw_okq (⟨"CircuitFiles$Form", "putSymbols", "(LCircuitFiles$Circuit;)V"⟩, 4) := ⟨⟨by decide +kernel, by decide +kernel⟩, List.mem_of_getElem? (i := 124) (by decide +kernel), List.mem_of_getElem? (i := 354) (by decide +kernel), List.mem_of_getElem? (i := 355) (by decide +kernel)⟩
theorem lw_p8 : lw_okq (⟨"CircuitFiles$Form", "putName", "(LCircuitFiles$Circuit;I)V"⟩, 4) := ⟨⟨by decide +kernel, by decide +kernel⟩, List.mem_of_getElem? (i := 124) (by decide +kernel), List.mem_of_getElem? (i := 401) (by decide +kernel), List.mem_of_getElem? (i := 402) (by decide +kernel)⟩
theorem lw_p9 : lw_okq (⟨"CircuitFiles$Reader", "readHeader", "(LCircuitFiles$Circuit;)Z"⟩, 6) := ⟨⟨by decide +kernel, by decide +kernel⟩, List.mem_of_getElem? (i := 46) (by decide +kernel), List.mem_of_getElem? (i := 471) (by decide +kernel), List.mem_of_getElem? (i := 472) (by decide +kernel)⟩
theorem lw_p10 : lw_okq (⟨"CircuitFiles$Reader", "readCount", "()Z"⟩, 6) := ⟨⟨by decide +kernel, by decide +kernel⟩, List.mem_of_getElem? (i := 46) (by decide +kernel), List.mem_of_getElem? (i := 488) (by decide +kernel), List.mem_of_getElem? (i := 489) (by decide +kernel)⟩
theorem lw_p11 : lw_okq (⟨"CircuitFiles$Reader", "readInputs", "(LCircuitFiles$Circuit;)Z"⟩, 6) := ⟨⟨by decide +kernel, by decide +kernel⟩, List.mem_of_getElem? (i := 46) (by decide +kernel), List.mem_of_getElem? (i := 501) (by decide +kernel), List.mem_of_getElem? (i := 502) (by decide +kernel)⟩
theorem lw_p12 : lw_okq (⟨"CircuitFiles$Reader", "readDefinition", "(LCircuitFiles$Circuit;)Z"⟩, 6) := ⟨⟨by decide +kernel, by decide +kernel⟩, List.mem_of_getElem? (i := 46) (by decide +kernel), List.mem_of_getElem? (i := 505) (by decide +kernel), List.mem_of_getElem? (i := 506) (by decide +kernel)⟩
theorem lw_p13 : lw_okq (⟨"CircuitFiles$Reader", "readLiteral", "(LCircuitFiles$Circuit;)Z"⟩, 6) := ⟨⟨by decide +kernel, by decide +kernel⟩, List.mem_of_getElem? (i := 46) (by decide +kernel), List.mem_of_getElem? (i := 509) (by decide +kernel), List.mem_of_getElem? (i := 510) (by decide +kernel)⟩
theorem lw_p14 : lw_okq (⟨"CircuitFiles$Reader", "readLatches", "(LCircuitFiles$Circuit;)Z"⟩, 6) := ⟨⟨by decide +kernel, by decide +kernel⟩, List.mem_of_getElem? (i := 46) (by decide +kernel), List.mem_of_getElem? (i := 514) (by decide +kernel), List.mem_of_getElem? (i := 515) (by decide +kernel)⟩
theorem lw_p15 : lw_okq (⟨"CircuitFiles$Reader", "readUse", "(LCircuitFiles$Circuit;)Z"⟩, 6) := ⟨⟨by decide +kernel, by decide +kernel⟩, List.mem_of_getElem? (i := 46) (by decide +kernel), List.mem_of_getElem? (i := 518) (by decide +kernel), List.mem_of_getElem? (i := 519) (by decide +kernel)⟩
def lw_privs_1 : List (MethodName × Nat) := [(⟨"CircuitFiles$Form", "numberAnew", "(LCircuitFiles$Circuit;)V"⟩, 4), (⟨"CircuitFiles$Form", "putHeader", "(LCircuitFiles$Circuit;II)V"⟩, 4), (⟨"CircuitFiles$Form", "put", "(I)V"⟩, 4), (⟨"CircuitFiles$Form", "putNumber", "(II)V"⟩, 4), (⟨"CircuitFiles$Form", "newLiteral", "(I)I"⟩, 4), (⟨"CircuitFiles$Form", "putBinaryAnd", "(LCircuitFiles$Circuit;I)V"⟩, 4), (⟨"CircuitFiles$Form", "putDelta", "(I)V"⟩, 4), (⟨"CircuitFiles$Form", "putSymbols", "(LCircuitFiles$Circuit;)V"⟩, 4), (⟨"CircuitFiles$Form", "putName", "(LCircuitFiles$Circuit;I)V"⟩, 4), (⟨"CircuitFiles$Reader", "readHeader", "(LCircuitFiles$Circuit;)Z"⟩, 6), (⟨"CircuitFiles$Reader", "readCount", "()Z"⟩, 6), (⟨"CircuitFiles$Reader", "readInputs", "(LCircuitFiles$Circuit;)Z"⟩, 6), (⟨"CircuitFiles$Reader", "readDefinition", "(LCircuitFiles$Circuit;)Z"⟩, 6), (⟨"CircuitFiles$Reader", "readLiteral", "(LCircuitFiles$Circuit;)Z"⟩, 6), (⟨"CircuitFiles$Reader", "readLatches", "(LCircuitFiles$Circuit;)Z"⟩, 6), (⟨"CircuitFiles$Reader", "readUse", "(LCircuitFiles$Circuit;)Z"⟩, 6)]
theorem lw_r1 : ∀ q ∈ lw_privs_1, lw_okq q := List.forall_mem_cons.mpr ⟨lw_p0, List.forall_mem_cons.mpr ⟨lw_p1, List.forall_mem_cons.mpr ⟨lw_p2, List.forall_mem_cons.mpr ⟨lw_p3, List.forall_mem_cons.mpr ⟨lw_p4, List.forall_mem_cons.mpr ⟨lw_p5, List.forall_mem_cons.mpr ⟨lw_p6, List.forall_mem_cons.mpr ⟨lw_p7, List.forall_mem_cons.mpr ⟨lw_p8, List.forall_mem_cons.mpr ⟨lw_p9, List.forall_mem_cons.mpr ⟨lw_p10, List.forall_mem_cons.mpr ⟨lw_p11, List.forall_mem_cons.mpr ⟨lw_p12, List.forall_mem_cons.mpr ⟨lw_p13, List.forall_mem_cons.mpr ⟨lw_p14, List.forall_mem_cons.mpr ⟨lw_p15, fun _ h => absurd h List.not_mem_nil⟩⟩⟩⟩⟩⟩⟩⟩⟩⟩⟩⟩⟩⟩⟩⟩
theorem lw_p16 : lw_okq (⟨"CircuitFiles$Reader", "readOutputs", "(LCircuitFiles$Circuit;)Z"⟩, 6) := ⟨⟨by decide +kernel, by decide +kernel⟩, List.mem_of_getElem? (i := 46) (by decide +kernel), List.mem_of_getElem? (i := 522) (by decide +kernel), List.mem_of_getElem? (i := 523) (by decide +kernel)⟩
theorem lw_p17 : lw_okq (⟨"CircuitFiles$Reader", "readBinaryAnds", "(LCircuitFiles$Circuit;)Z"⟩, 6) := ⟨⟨by decide +kernel, by decide +kernel⟩, List.mem_of_getElem? (i := 46) (by decide +kernel), List.mem_of_getElem? (i := 526) (by decide +kernel), List.mem_of_getElem? (i := 527) (by decide +kernel)⟩
theorem lw_p18 : lw_okq (⟨"CircuitFiles$Reader", "readDelta", "(II)Z"⟩, 6) := ⟨⟨by decide +kernel, by decide +kernel⟩, List.mem_of_getElem? (i := 46) (by decide +kernel), List.mem_of_getElem? (i := 530) (by decide +kernel), List.mem_of_getElem? (i := 531) (by decide +kernel)⟩
theorem lw_p19 : lw_okq (⟨"CircuitFiles$Reader", "readTextAnds", "(LCircuitFiles$Circuit;)Z"⟩, 6) := ⟨⟨by decide +kernel, by decide +kernel⟩, List.mem_of_getElem? (i := 46) (by decide +kernel), List.mem_of_getElem? (i := 538) (by decide +kernel), List.mem_of_getElem? (i := 539) (by decide +kernel)⟩
theorem lw_p20 : lw_okq (⟨"CircuitFiles$Reader", "readSymbols", "(LCircuitFiles$Circuit;)Z"⟩, 6) := ⟨⟨by decide +kernel, by decide +kernel⟩, List.mem_of_getElem? (i := 46) (by decide +kernel), List.mem_of_getElem? (i := 542) (by decide +kernel), List.mem_of_getElem? (i := 543) (by decide +kernel)⟩
theorem lw_p21 : lw_okq (⟨"CircuitFiles$Reader", "readSymbol", "(LCircuitFiles$Circuit;I)Z"⟩, 6) := ⟨⟨by decide +kernel, by decide +kernel⟩, List.mem_of_getElem? (i := 46) (by decide +kernel), List.mem_of_getElem? (i := 551) (by decide +kernel), List.mem_of_getElem? (i := 552) (by decide +kernel)⟩
theorem lw_p22 : lw_okq (⟨"CircuitFiles$Reader", "readName", "(LCircuitFiles$Circuit;I)Z"⟩, 6) := ⟨⟨by decide +kernel, by decide +kernel⟩, List.mem_of_getElem? (i := 46) (by decide +kernel), List.mem_of_getElem? (i := 557) (by decide +kernel), List.mem_of_getElem? (i := 558) (by decide +kernel)⟩
theorem lw_p23 : lw_okq (⟨"CircuitFiles$Reader", "checkUses", "(LCircuitFiles$Circuit;)Z"⟩, 6) := ⟨⟨by decide +kernel, by decide +kernel⟩, List.mem_of_getElem? (i := 46) (by decide +kernel), List.mem_of_getElem? (i := 561) (by decide +kernel), List.mem_of_getElem? (i := 562) (by decide +kernel)⟩
theorem lw_p24 : lw_okq (⟨"CircuitFiles$Reader", "checkLoops", "(LCircuitFiles$Circuit;)Z"⟩, 6) := ⟨⟨by decide +kernel, by decide +kernel⟩, List.mem_of_getElem? (i := 46) (by decide +kernel), List.mem_of_getElem? (i := 566) (by decide +kernel), List.mem_of_getElem? (i := 567) (by decide +kernel)⟩
theorem lw_p25 : lw_okq (⟨"CircuitFiles$AndSorter", "awaitAnds", "(LCircuitFiles$Circuit;)V"⟩, 5) := ⟨⟨by decide +kernel, by decide +kernel⟩, List.mem_of_getElem? (i := 52) (by decide +kernel), List.mem_of_getElem? (i := 574) (by decide +kernel), List.mem_of_getElem? (i := 575) (by decide +kernel)⟩
theorem lw_p26 : lw_okq (⟨"CircuitFiles$AndSorter", "firstReady", "(LCircuitFiles$Circuit;I)I"⟩, 5) := ⟨⟨by decide +kernel, by decide +kernel⟩, List.mem_of_getElem? (i := 52) (by decide +kernel), List.mem_of_getElem? (i := 578) (by decide +kernel), List.mem_of_getElem? (i := 579) (by decide +kernel)⟩
theorem lw_p27 : lw_okq (⟨"CircuitFiles$AndSorter", "reachesItself", "(LCircuitFiles$Circuit;I)Z"⟩, 5) := ⟨⟨by decide +kernel, by decide +kernel⟩, List.mem_of_getElem? (i := 52) (by decide +kernel), List.mem_of_getElem? (i := 586) (by decide +kernel), List.mem_of_getElem? (i := 587) (by decide +kernel)⟩
theorem lw_p28 : lw_okq (⟨"CircuitFiles$AndSorter", "reach", "(I)V"⟩, 5) := ⟨⟨by decide +kernel, by decide +kernel⟩, List.mem_of_getElem? (i := 52) (by decide +kernel), List.mem_of_getElem? (i := 590) (by decide +kernel), List.mem_of_getElem? (i := 591) (by decide +kernel)⟩
theorem lw_p29 : lw_okq (⟨"java/lang/Throwable", "fillInStackTrace", "(I)Ljava/lang/Throwable;"⟩, 6) := ⟨⟨by decide +kernel, by decide +kernel⟩, List.mem_of_getElem? (i := 634) (by decide +kernel), List.mem_of_getElem? (i := 632) (by decide +kernel), List.mem_of_getElem? (i := 633) (by decide +kernel)⟩
theorem lw_p30 : lw_okq (⟨"CircuitFilesModel", "takeHead", "()Z"⟩, 34) := ⟨⟨by decide +kernel, by decide +kernel⟩, List.mem_of_getElem? (i := 667) (by decide +kernel), List.mem_of_getElem? (i := 792) (by decide +kernel), List.mem_of_getElem? (i := 793) (by decide +kernel)⟩
theorem lw_p31 : lw_okq (⟨"CircuitFilesModel", "take", "(I)V"⟩, 34) := ⟨⟨by decide +kernel, by decide +kernel⟩, List.mem_of_getElem? (i := 667) (by decide +kernel), List.mem_of_getElem? (i := 796) (by decide +kernel), List.mem_of_getElem? (i := 797) (by decide +kernel)⟩
def lw_privs_2 : List (MethodName × Nat) := [(⟨"CircuitFiles$Reader", "readOutputs", "(LCircuitFiles$Circuit;)Z"⟩, 6), (⟨"CircuitFiles$Reader", "readBinaryAnds", "(LCircuitFiles$Circuit;)Z"⟩, 6), (⟨"CircuitFiles$Reader", "readDelta", "(II)Z"⟩, 6), (⟨"CircuitFiles$Reader", "readTextAnds", "(LCircuitFiles$Circuit;)Z"⟩, 6), (⟨"CircuitFiles$Reader", "readSymbols", "(LCircuitFiles$Circuit;)Z"⟩, 6), (⟨"CircuitFiles$Reader", "readSymbol", "(LCircuitFiles$Circuit;I)Z"⟩, 6), (⟨"CircuitFiles$Reader", "readName", "(LCircuitFiles$Circuit;I)Z"⟩, 6), (⟨"CircuitFiles$Reader", "checkUses", "(LCircuitFiles$Circuit;)Z"⟩, 6), (⟨"CircuitFiles$Reader", "checkLoops", "(LCircuitFiles$Circuit;)Z"⟩, 6), (⟨"CircuitFiles$AndSorter", "awaitAnds", "(LCircuitFiles$Circuit;)V"⟩, 5), (⟨"CircuitFiles$AndSorter", "firstReady", "(LCircuitFiles$Circuit;I)I"⟩, 5), (⟨"CircuitFiles$AndSorter", "reachesItself", "(LCircuitFiles$Circuit;I)Z"⟩, 5), (⟨"CircuitFiles$AndSorter", "reach", "(I)V"⟩, 5), (⟨"java/lang/Throwable", "fillInStackTrace", "(I)Ljava/lang/Throwable;"⟩, 6), (⟨"CircuitFilesModel", "takeHead", "()Z"⟩, 34), (⟨"CircuitFilesModel", "take", "(I)V"⟩, 34)]
theorem lw_r2 : ∀ q ∈ lw_privs_2, lw_okq q := List.forall_mem_cons.mpr ⟨lw_p16, List.forall_mem_cons.mpr ⟨lw_p17, List.forall_mem_cons.mpr ⟨lw_p18, List.forall_mem_cons.mpr ⟨lw_p19, List.forall_mem_cons.mpr ⟨lw_p20, List.forall_mem_cons.mpr ⟨lw_p21, List.forall_mem_cons.mpr ⟨lw_p22, List.forall_mem_cons.mpr ⟨lw_p23, List.forall_mem_cons.mpr ⟨lw_p24, List.forall_mem_cons.mpr ⟨lw_p25, List.forall_mem_cons.mpr ⟨lw_p26, List.forall_mem_cons.mpr ⟨lw_p27, List.forall_mem_cons.mpr ⟨lw_p28, List.forall_mem_cons.mpr ⟨lw_p29, List.forall_mem_cons.mpr ⟨lw_p30, List.forall_mem_cons.mpr ⟨lw_p31, fun _ h => absurd h List.not_mem_nil⟩⟩⟩⟩⟩⟩⟩⟩⟩⟩⟩⟩⟩⟩⟩⟩
theorem lw_p32 : lw_okq (⟨"CircuitFilesModel", "here", "()I"⟩, 34) := ⟨⟨by decide +kernel, by decide +kernel⟩, List.mem_of_getElem? (i := 667) (by decide +kernel), List.mem_of_getElem? (i := 800) (by decide +kernel), List.mem_of_getElem? (i := 801) (by decide +kernel)⟩
theorem lw_p33 : lw_okq (⟨"CircuitFilesModel", "wrong", "(II)V"⟩, 34) := ⟨⟨by decide +kernel, by decide +kernel⟩, List.mem_of_getElem? (i := 667) (by decide +kernel), List.mem_of_getElem? (i := 804) (by decide +kernel), List.mem_of_getElem? (i := 805) (by decide +kernel)⟩
theorem lw_p34 : lw_okq (⟨"CircuitFilesModel", "takeNumber", "()V"⟩, 34) := ⟨⟨by decide +kernel, by decide +kernel⟩, List.mem_of_getElem? (i := 667) (by decide +kernel), List.mem_of_getElem? (i := 808) (by decide +kernel), List.mem_of_getElem? (i := 809) (by decide +kernel)⟩
theorem lw_p35 : lw_okq (⟨"CircuitFilesModel", "isDigit", "()Z"⟩, 34) := ⟨⟨by decide +kernel, by decide +kernel⟩, List.mem_of_getElem? (i := 667) (by decide +kernel), List.mem_of_getElem? (i := 812) (by decide +kernel), List.mem_of_getElem? (i := 813) (by decide +kernel)⟩
theorem lw_p36 : lw_okq (⟨"CircuitFilesModel", "takeBinary", "()V"⟩, 34) := ⟨⟨by decide +kernel, by decide +kernel⟩, List.mem_of_getElem? (i := 667) (by decide +kernel), List.mem_of_getElem? (i := 816) (by decide +kernel), List.mem_of_getElem? (i := 817) (by decide +kernel)⟩
theorem lw_p37 : lw_okq (⟨"CircuitFilesModel", "define", "(III)V"⟩, 34) := ⟨⟨by decide +kernel, by decide +kernel⟩, List.mem_of_getElem? (i := 667) (by decide +kernel), List.mem_of_getElem? (i := 820) (by decide +kernel), List.mem_of_getElem? (i := 821) (by decide +kernel)⟩
theorem lw_p38 : lw_okq (⟨"CircuitFilesModel", "takeNext", "(I)V"⟩, 34) := ⟨⟨by decide +kernel, by decide +kernel⟩, List.mem_of_getElem? (i := 667) (by decide +kernel), List.mem_of_getElem? (i := 824) (by decide +kernel), List.mem_of_getElem? (i := 825) (by decide +kernel)⟩
theorem lw_p39 : lw_okq (⟨"CircuitFilesModel", "literal", "()I"⟩, 34) := ⟨⟨by decide +kernel, by decide +kernel⟩, List.mem_of_getElem? (i := 667) (by decide +kernel), List.mem_of_getElem? (i := 828) (by decide +kernel), List.mem_of_getElem? (i := 829) (by decide +kernel)⟩
theorem lw_p40 : lw_okq (⟨"CircuitFilesModel", "takeOutputs", "()V"⟩, 34) := ⟨⟨by decide +kernel, by decide +kernel⟩, List.mem_of_getElem? (i := 667) (by decide +kernel), List.mem_of_getElem? (i := 832) (by decide +kernel), List.mem_of_getElem? (i := 833) (by decide +kernel)⟩
theorem lw_p41 : lw_okq (⟨"CircuitFilesModel", "delta", "(II)I"⟩, 34) := ⟨⟨by decide +kernel, by decide +kernel⟩, List.mem_of_getElem? (i := 667) (by decide +kernel), List.mem_of_getElem? (i := 836) (by decide +kernel), List.mem_of_getElem? (i := 837) (by decide +kernel)⟩
theorem lw_p42 : lw_okq (⟨"CircuitFilesModel", "takeText", "()V"⟩, 34) := ⟨⟨by decide +kernel, by decide +kernel⟩, List.mem_of_getElem? (i := 667) (by decide +kernel), List.mem_of_getElem? (i := 840) (by decide +kernel), List.mem_of_getElem? (i := 841) (by decide +kernel)⟩
theorem lw_p43 : lw_okq (⟨"CircuitFilesModel", "defines", "(II)I"⟩, 34) := ⟨⟨by decide +kernel, by decide +kernel⟩, List.mem_of_getElem? (i := 667) (by decide +kernel), List.mem_of_getElem? (i := 844) (by decide +kernel), List.mem_of_getElem? (i := 845) (by decide +kernel)⟩
theorem lw_p44 : lw_okq (⟨"CircuitFilesModel", "takeSymbols", "()V"⟩, 34) := ⟨⟨by decide +kernel, by decide +kernel⟩, List.mem_of_getElem? (i := 667) (by decide +kernel), List.mem_of_getElem? (i := 848) (by decide +kernel), List.mem_of_getElem? (i := 849) (by decide +kernel)⟩
theorem lw_p45 : lw_okq (⟨"CircuitFilesModel", "findNowhere", "()V"⟩, 34) := ⟨⟨by decide +kernel, by decide +kernel⟩, List.mem_of_getElem? (i := 667) (by decide +kernel), List.mem_of_getElem? (i := 852) (by decide +kernel), List.mem_of_getElem? (i := 853) (by decide +kernel)⟩
theorem lw_p46 : lw_okq (⟨"CircuitFilesModel", "isNowhere", "(I)Z"⟩, 34) := ⟨⟨by decide +kernel, by decide +kernel⟩, List.mem_of_getElem? (i := 667) (by decide +kernel), List.mem_of_getElem? (i := 856) (by decide +kernel), List.mem_of_getElem? (i := 857) (by decide +kernel)⟩
theorem lw_p47 : lw_okq (⟨"CircuitFilesModel", "findRing", "()V"⟩, 34) := ⟨⟨by decide +kernel, by decide +kernel⟩, List.mem_of_getElem? (i := 667) (by decide +kernel), List.mem_of_getElem? (i := 860) (by decide +kernel), List.mem_of_getElem? (i := 861) (by decide +kernel)⟩
def lw_privs_3 : List (MethodName × Nat) := [(⟨"CircuitFilesModel", "here", "()I"⟩, 34), (⟨"CircuitFilesModel", "wrong", "(II)V"⟩, 34), (⟨"CircuitFilesModel", "takeNumber", "()V"⟩, 34), (⟨"CircuitFilesModel", "isDigit", "()Z"⟩, 34), (⟨"CircuitFilesModel", "takeBinary", "()V"⟩, 34), (⟨"CircuitFilesModel", "define", "(III)V"⟩, 34), (⟨"CircuitFilesModel", "takeNext", "(I)V"⟩, 34), (⟨"CircuitFilesModel", "literal", "()I"⟩, 34), (⟨"CircuitFilesModel", "takeOutputs", "()V"⟩, 34), (⟨"CircuitFilesModel", "delta", "(II)I"⟩, 34), (⟨"CircuitFilesModel", "takeText", "()V"⟩, 34), (⟨"CircuitFilesModel", "defines", "(II)I"⟩, 34), (⟨"CircuitFilesModel", "takeSymbols", "()V"⟩, 34), (⟨"CircuitFilesModel", "findNowhere", "()V"⟩, 34), (⟨"CircuitFilesModel", "isNowhere", "(I)Z"⟩, 34), (⟨"CircuitFilesModel", "findRing", "()V"⟩, 34)]
theorem lw_r3 : ∀ q ∈ lw_privs_3, lw_okq q := List.forall_mem_cons.mpr ⟨lw_p32, List.forall_mem_cons.mpr ⟨lw_p33, List.forall_mem_cons.mpr ⟨lw_p34, List.forall_mem_cons.mpr ⟨lw_p35, List.forall_mem_cons.mpr ⟨lw_p36, List.forall_mem_cons.mpr ⟨lw_p37, List.forall_mem_cons.mpr ⟨lw_p38, List.forall_mem_cons.mpr ⟨lw_p39, List.forall_mem_cons.mpr ⟨lw_p40, List.forall_mem_cons.mpr ⟨lw_p41, List.forall_mem_cons.mpr ⟨lw_p42, List.forall_mem_cons.mpr ⟨lw_p43, List.forall_mem_cons.mpr ⟨lw_p44, List.forall_mem_cons.mpr ⟨lw_p45, List.forall_mem_cons.mpr ⟨lw_p46, List.forall_mem_cons.mpr ⟨lw_p47, fun _ h => absurd h List.not_mem_nil⟩⟩⟩⟩⟩⟩⟩⟩⟩⟩⟩⟩⟩⟩⟩⟩
theorem lw_p48 : lw_okq (⟨"CircuitFilesModel", "sort", "()V"⟩, 34) := ⟨⟨by decide +kernel, by decide +kernel⟩, List.mem_of_getElem? (i := 667) (by decide +kernel), List.mem_of_getElem? (i := 864) (by decide +kernel), List.mem_of_getElem? (i := 865) (by decide +kernel)⟩
theorem lw_p49 : lw_okq (⟨"CircuitFilesModel", "hasCome", "(I)Z"⟩, 34) := ⟨⟨by decide +kernel, by decide +kernel⟩, List.mem_of_getElem? (i := 667) (by decide +kernel), List.mem_of_getElem? (i := 868) (by decide +kernel), List.mem_of_getElem? (i := 869) (by decide +kernel)⟩
theorem lw_p50 : lw_okq (⟨"CircuitFilesModel", "hangs", "(I)Z"⟩, 34) := ⟨⟨by decide +kernel, by decide +kernel⟩, List.mem_of_getElem? (i := 667) (by decide +kernel), List.mem_of_getElem? (i := 872) (by decide +kernel), List.mem_of_getElem? (i := 873) (by decide +kernel)⟩
theorem lw_p51 : lw_okq (⟨"CircuitFilesModel", "keep", "()V"⟩, 34) := ⟨⟨by decide +kernel, by decide +kernel⟩, List.mem_of_getElem? (i := 667) (by decide +kernel), List.mem_of_getElem? (i := 876) (by decide +kernel), List.mem_of_getElem? (i := 877) (by decide +kernel)⟩
theorem lw_p52 : lw_okq (⟨"CircuitFilesModel", "sortAgain", "()V"⟩, 34) := ⟨⟨by decide +kernel, by decide +kernel⟩, List.mem_of_getElem? (i := 667) (by decide +kernel), List.mem_of_getElem? (i := 899) (by decide +kernel), List.mem_of_getElem? (i := 900) (by decide +kernel)⟩
theorem lw_p53 : lw_okq (⟨"CircuitFilesModel", "layHead", "(Z)V"⟩, 34) := ⟨⟨by decide +kernel, by decide +kernel⟩, List.mem_of_getElem? (i := 667) (by decide +kernel), List.mem_of_getElem? (i := 903) (by decide +kernel), List.mem_of_getElem? (i := 904) (by decide +kernel)⟩
theorem lw_p54 : lw_okq (⟨"CircuitFilesModel", "lay", "(I)V"⟩, 34) := ⟨⟨by decide +kernel, by decide +kernel⟩, List.mem_of_getElem? (i := 667) (by decide +kernel), List.mem_of_getElem? (i := 907) (by decide +kernel), List.mem_of_getElem? (i := 908) (by decide +kernel)⟩
theorem lw_p55 : lw_okq (⟨"CircuitFilesModel", "layNumber", "(II)V"⟩, 34) := ⟨⟨by decide +kernel, by decide +kernel⟩, List.mem_of_getElem? (i := 667) (by decide +kernel), List.mem_of_getElem? (i := 911) (by decide +kernel), List.mem_of_getElem? (i := 912) (by decide +kernel)⟩
theorem lw_p56 : lw_okq (⟨"CircuitFilesModel", "layBinary", "()V"⟩, 34) := ⟨⟨by decide +kernel, by decide +kernel⟩, List.mem_of_getElem? (i := 667) (by decide +kernel), List.mem_of_getElem? (i := 915) (by decide +kernel), List.mem_of_getElem? (i := 916) (by decide +kernel)⟩
theorem lw_p57 : lw_okq (⟨"CircuitFilesModel", "renamed", "(I)I"⟩, 34) := ⟨⟨by decide +kernel, by decide +kernel⟩, List.mem_of_getElem? (i := 667) (by decide +kernel), List.mem_of_getElem? (i := 919) (by decide +kernel), List.mem_of_getElem? (i := 920) (by decide +kernel)⟩
theorem lw_p58 : lw_okq (⟨"CircuitFilesModel", "layDelta", "(I)V"⟩, 34) := ⟨⟨by decide +kernel, by decide +kernel⟩, List.mem_of_getElem? (i := 667) (by decide +kernel), List.mem_of_getElem? (i := 923) (by decide +kernel), List.mem_of_getElem? (i := 924) (by decide +kernel)⟩
theorem lw_p59 : lw_okq (⟨"CircuitFilesModel", "layText", "()V"⟩, 34) := ⟨⟨by decide +kernel, by decide +kernel⟩, List.mem_of_getElem? (i := 667) (by decide +kernel), List.mem_of_getElem? (i := 927) (by decide +kernel), List.mem_of_getElem? (i := 928) (by decide +kernel)⟩
theorem lw_p60 : lw_okq (⟨"CircuitFilesModel", "laySymbols", "()V"⟩, 34) := ⟨⟨by decide +kernel, by decide +kernel⟩, List.mem_of_getElem? (i := 667) (by decide +kernel), List.mem_of_getElem? (i := 931) (by decide +kernel), List.mem_of_getElem? (i := 932) (by decide +kernel)⟩
theorem lw_p61 : lw_okq (⟨"CircuitFilesModel", "reckon", "(I)V"⟩, 34) := ⟨⟨by decide +kernel, by decide +kernel⟩, List.mem_of_getElem? (i := 667) (by decide +kernel), List.mem_of_getElem? (i := 947) (by decide +kernel), List.mem_of_getElem? (i := 948) (by decide +kernel)⟩
theorem lw_p62 : lw_okq (⟨"CircuitFilesModel", "of", "(I)I"⟩, 34) := ⟨⟨by decide +kernel, by decide +kernel⟩, List.mem_of_getElem? (i := 667) (by decide +kernel), List.mem_of_getElem? (i := 951) (by decide +kernel), List.mem_of_getElem? (i := 952) (by decide +kernel)⟩
def lw_privs_4 : List (MethodName × Nat) := [(⟨"CircuitFilesModel", "sort", "()V"⟩, 34), (⟨"CircuitFilesModel", "hasCome", "(I)Z"⟩, 34), (⟨"CircuitFilesModel", "hangs", "(I)Z"⟩, 34), (⟨"CircuitFilesModel", "keep", "()V"⟩, 34), (⟨"CircuitFilesModel", "sortAgain", "()V"⟩, 34), (⟨"CircuitFilesModel", "layHead", "(Z)V"⟩, 34), (⟨"CircuitFilesModel", "lay", "(I)V"⟩, 34), (⟨"CircuitFilesModel", "layNumber", "(II)V"⟩, 34), (⟨"CircuitFilesModel", "layBinary", "()V"⟩, 34), (⟨"CircuitFilesModel", "renamed", "(I)I"⟩, 34), (⟨"CircuitFilesModel", "layDelta", "(I)V"⟩, 34), (⟨"CircuitFilesModel", "layText", "()V"⟩, 34), (⟨"CircuitFilesModel", "laySymbols", "()V"⟩, 34), (⟨"CircuitFilesModel", "reckon", "(I)V"⟩, 34), (⟨"CircuitFilesModel", "of", "(I)I"⟩, 34)]
theorem lw_r4 : ∀ q ∈ lw_privs_4, lw_okq q := List.forall_mem_cons.mpr ⟨lw_p48, List.forall_mem_cons.mpr ⟨lw_p49, List.forall_mem_cons.mpr ⟨lw_p50, List.forall_mem_cons.mpr ⟨lw_p51, List.forall_mem_cons.mpr ⟨lw_p52, List.forall_mem_cons.mpr ⟨lw_p53, List.forall_mem_cons.mpr ⟨lw_p54, List.forall_mem_cons.mpr ⟨lw_p55, List.forall_mem_cons.mpr ⟨lw_p56, List.forall_mem_cons.mpr ⟨lw_p57, List.forall_mem_cons.mpr ⟨lw_p58, List.forall_mem_cons.mpr ⟨lw_p59, List.forall_mem_cons.mpr ⟨lw_p60, List.forall_mem_cons.mpr ⟨lw_p61, List.forall_mem_cons.mpr ⟨lw_p62, fun _ h => absurd h List.not_mem_nil⟩⟩⟩⟩⟩⟩⟩⟩⟩⟩⟩⟩⟩⟩⟩
def lw_privs : List (MethodName × Nat) := lw_privs_1 ++ (lw_privs_2 ++ (lw_privs_3 ++ (lw_privs_4)))
def lw_tbl : List Cond := k2_sels lw_privs ++ tables_1
theorem lw_privs_ok : ∀ q ∈ lw_privs, lw_okq q := by
  show ∀ q ∈ lw_privs_1 ++ (lw_privs_2 ++ (lw_privs_3 ++ (lw_privs_4))), lw_okq q
  exact List.forall_mem_append.mpr ⟨lw_r1, List.forall_mem_append.mpr ⟨lw_r2, List.forall_mem_append.mpr ⟨lw_r3, lw_r4⟩⟩⟩
end
section
def TB : List Cond := lw_tbl.filter goodWord
theorem tb_mem {w : Cond} {i : Nat} (h : lw_tbl[i]? = some w) (hg : goodWord w = true) : w ∈ TB := List.mem_filter.mpr ⟨List.mem_of_getElem? h, hg⟩
theorem tb_sub {ws : List Cond} (ps : List Nat) (hp : ws = ps.filterMap (fun i => lw_tbl[i]?)) (h : ws.all goodWord = true) : ∀ w ∈ ws, w ∈ TB := by
  intro w hw
  have h1 := List.all_eq_true.mp h w hw
  rw [hp] at hw
  obtain ⟨i, -, hi⟩ := List.mem_filterMap.mp hw
  exact tb_mem hi h1
theorem tb_good : GoodIn TB TB := fun w h => ⟨h, good_of_word (List.mem_filter.mp h).2⟩
theorem gC {cd : Cond} (h : cd ∈ TB) : GoodIn TB (cd :: TB) := fun w hw => (List.mem_cons.mp hw).elim (fun e => by rw [e]; exact tb_good cd h) (fun hw => tb_good w hw)
theorem gV {own C : String} {idx : Nat} {y : MethodName} {cd : Cond} (h1 : Cond.methodLink own idx y ∈ TB) (h2 : Cond.instanceMethod y ∈ TB) (h3 : Cond.selects C y y ∈ TB) (h4 : Cond.initialized C ∈ TB) (h5 : cd ∈ TB) : GoodIn TB (wsV own idx C y (cd :: TB)) := by
  intro w hw
  rcases List.mem_append.mp hw with h | h
  · simp only [List.mem_cons, List.not_mem_nil, or_false] at h
    rcases h with rfl | rfl | rfl | rfl
    · exact tb_good _ h1
    · exact tb_good _ h2
    · exact tb_good _ h3
    · exact tb_good _ h4
  · exact gC h5 w h
/-- words about private members of nest mates: carried by the state -/
def isNest : Cond → Bool
  | .fieldLinkNest .. => true
  | .methodLinkNest .. => true
  | _ => false
theorem nw_warm {w : Cond} (hn : isNest w = true) {s U : State} (hW : s.WarmedH U.vm) (h : va_Nw w s) : va_Nw w U := by
  cases w <;> first | (simp [isNest] at hn; done) | exact va_Nw.warmF hW h | exact va_Nw.warmM hW h
theorem nw_same {w : Cond} (hn : isNest w = true) {u U : State} (hW : u.vm = U.vm) (h : va_Nw w u) : va_Nw w U := by
  cases w <;> first | (simp [isNest] at hn; done) | exact va_Nw.same rfl hW h
theorem vq_fm {α β : Type} (f : α → Option β) : ∀ (is : List α) (w : List β), is.map f = w.map some → is.filterMap f = w := by
  intro is
  induction is with
  | nil => intro w h; cases w with
    | nil => rfl
    | cons b w => simp at h
  | cons a is ih => intro w h; cases w with
    | nil => simp at h
    | cons b w =>
      simp only [List.map_cons, List.cons.injEq] at h
      rw [List.filterMap_cons, h.1]
      simp only
      rw [ih w h.2]
/-- what a standing fact must bear: cells outside A kept, a smaller A, a warmer machine, another frame -/
def SPok (SP : (Nat → Prop) → State → Heap → Prop) : Prop := (∀ (A : Nat → Prop) (U : State) (H H1 : Heap), SP A U H → (∀ a : Nat, a < H.size → ¬ A a → H1[a]? = H[a]?) → SP A U H1) ∧ (∀ (A B : Nat → Prop) (U : State) (H : Heap), SP A U H → (∀ q, B q → A q) → SP B U H) ∧ (∀ (A : Nat → Prop) (s U : State) (H : Heap), s.WarmedH U.vm → SP A s H → SP A U H) ∧ (∀ (A : Nat → Prop) (u U : State) (H : Heap), u.vm = U.vm → SP A u H → SP A U H)
def preC (D : va_G) (cl : List vw_C) (tys : List (ClassId × FieldType)) (SP : (Nat → Prop) → State → Heap → Prop) (ws : va_W) (sz : Nat) (U : State) : Prop := U.heap.size = sz ∧ va_P D cl ws U.heap ∧ va_K D cl tys U ∧ va_D (fun _ => True) ws ∧ SPok SP ∧ SP (va_A ws sz) U U.heap
def atC (D : va_G) (cl : List vw_C) (tys : List (ClassId × FieldType)) (A : Nat → Prop) (ws : va_W) (t : State) : Prop := va_P D cl ws t.heap ∧ va_K D cl tys t ∧ va_D A ws
def MetI (l : Launch) (y : MethodName) (wy : List Cond) (rm : Room) (D : va_G) (cl : List vw_C) (tys : List (ClassId × FieldType)) (SP : (Nat → Prop) → State → Heap → Prop) (av : List Value) (ws : va_W) {S : Type} (post : Int32 → S → Prop) (wf : S → va_W) : Prop :=
  ∀ sz, Met l y wy rm (va_Pc av (preC D cl tys SP ws sz)) (va_Qi post (fun u t => atC D cl tys (va_A ws sz) (wf u) t) (va_A ws sz)) 0 0 (va_A ws sz)
def MetV (l : Launch) (y : MethodName) (wy : List Cond) (rm : Room) (D : va_G) (cl : List vw_C) (tys : List (ClassId × FieldType)) (SP : (Nat → Prop) → State → Heap → Prop) (av : List Value) (ws : va_W) {S : Type} (post : S → Prop) (wf : S → va_W) : Prop :=
  ∀ sz, Met l y wy rm (va_Pc av (preC D cl tys SP ws sz)) (va_Qv post (fun u t => atC D cl tys (va_A ws sz) (wf u) t) (va_A ws sz)) 0 0 (va_A ws sz)
def QI (below : List Frame) (args : Array Value) (s : State) (D : va_G) (cl : List vw_C) (tys : List (ClassId × FieldType)) (A : Nat → Prop) {S : Type} (post : Int32 → S → Prop) (wf : S → va_W) : State → Prop := MQ below (va_Qi post (fun u t => atC D cl tys A (wf u) t) A) args s 0 0 A
def QV (below : List Frame) (args : Array Value) (s : State) (D : va_G) (cl : List vw_C) (tys : List (ClassId × FieldType)) (A : Nat → Prop) {S : Type} (post : S → Prop) (wf : S → va_W) : State → Prop := MQ below (va_Qv post (fun u t => atC D cl tys A (wf u) t) A) args s 0 0 A
/-! THE V LAYER: the kit's rows, with heap, locals and frame bound together. 'VV ws pc L st': from any heap that holds the cells ws, with locals L and stack st at pc, the machine comes to Q. -/
def VV (p : Program) (l : Launch) (e : Env) (R : Room) (s : State) (m : MethodId) (args : Array Value) (below : List Frame) (meth : Method) (c : Code) (nL : Nat) (D : va_G) (cl : List vw_C) (A : Nat → Prop) (cells slots : Nat) (Q : State → Prop) (ws : va_W) (pc : Nat) (L : List (Nat × Value)) (st : List Value) : Prop :=
  ∀ (H : Heap) (locs : List Loc) (ls : Array Slot), va_P D cl ws H → va_D A ws → va_S A s.heap H locs → lv_has ls nL L → W p l e R s m args below meth c H locs cells slots Q (F0 m pc ls st)
def CX (p : Program) (s : State) (m : MethodId) (args : Array Value) (meth : Method) (c : Code) (cc : ByteArray) (own : String) (Ts : List Cond) (nL : Nat) (D : va_G) (cl : List vw_C) (tys : List (ClassId × FieldType)) (A : Nat → Prop) (SP : (Nat → Prop) → State → Heap → Prop) (ret : Option FieldType) : Prop :=
  p.tables.exec = Jvm.exec ∧ c.code = cc ∧ c.maxLocals = nL ∧ s.vm.findClass own = some m.cls ∧ (∀ w ∈ Ts, w.before args s = true) ∧ va_K D cl tys s ∧ (∀ q : Nat, s.heap.size ≤ q → A q) ∧ (SPok SP ∧ SP A s s.heap) ∧ meth.sig.returnType = ret ∧ meth.locks = false
section VLAYER
variable {p : Program} {l : Launch} {e : Env} {R : Room} {s : State} {m : MethodId} {args : Array Value} {below : List Frame} {meth : Method} {c : Code} {cells slots : Nat} {Q : State → Prop}
variable {cc : ByteArray} {own : String} {Ts : List Cond} {SP : (Nat → Prop) → State → Heap → Prop} {nL : Nat} {D : va_G} {cl : List vw_C} {tys : List (ClassId × FieldType)} {A : Nat → Prop} {ret : Option FieldType}
variable {ws ws2 : va_W} {pc : Nat} {L L2 : List (Nat × Value)} {rest : List Value}
theorem vv_iconst (hC : CX p s m args meth c cc own Ts nL D cl tys A SP ret) {n : Int} {v : Int32} (hdg : decode cc pc = .ok (.iconst n, 1)) (hv : Int32.ofInt n = v) (k : VV p l e R s m args below meth c nL D cl A cells slots Q ws (pc + 1) L (.int v :: rest)) : VV p l e R s m args below meth c nL D cl A cells slots Q ws pc L rest := fun H locs ls hP hD hS h => lv_iconst hC.1 hC.2.1 hdg hv (k H locs ls hP hD hS h)
theorem vv_bipush (hC : CX p s m args meth c cc own Ts nL D cl tys A SP ret) {n : Int} {v : Int32} (hdg : decode cc pc = .ok (.bipush n, 2)) (hv : (Int8.ofInt n).toInt32 = v) (k : VV p l e R s m args below meth c nL D cl A cells slots Q ws (pc + 2) L (.int v :: rest)) : VV p l e R s m args below meth c nL D cl A cells slots Q ws pc L rest := fun H locs ls hP hD hS h => lv_bipush hC.1 hC.2.1 hdg hv (k H locs ls hP hD hS h)
theorem vv_sipush (hC : CX p s m args meth c cc own Ts nL D cl tys A SP ret) {n : Int} {v : Int32} (hdg : decode cc pc = .ok (.sipush n, 3)) (hv : (Int16.ofInt n).toInt32 = v) (k : VV p l e R s m args below meth c nL D cl A cells slots Q ws (pc + 3) L (.int v :: rest)) : VV p l e R s m args below meth c nL D cl A cells slots Q ws pc L rest := fun H locs ls hP hD hS h => lv_sipush hC.1 hC.2.1 hdg hv (k H locs ls hP hD hS h)
theorem vv_iload_n (hC : CX p s m args meth c cc own Ts nL D cl tys A SP ret) {k0 : Fin 4} {i : Nat} {x : Int32} (hdg : decode cc pc = .ok (.iload_n k0, 1)) (q : Nat) (hi : (k0 : Nat) = i) (hq : L[q]? = some (i, .int x)) (k : VV p l e R s m args below meth c nL D cl A cells slots Q ws (pc + 1) L (.int x :: rest)) : VV p l e R s m args below meth c nL D cl A cells slots Q ws pc L rest := fun H locs ls hP hD hS h => lv_iload_n hC.1 hC.2.1 hdg hi (lv_at h q hq) (k H locs ls hP hD hS h)
theorem vv_iload (hC : CX p s m args meth c cc own Ts nL D cl tys A SP ret) {i : Nat} {x : Int32} (hdg : decode cc pc = .ok (.iload i, 2)) (q : Nat) (hq : L[q]? = some (i, .int x)) (k : VV p l e R s m args below meth c nL D cl A cells slots Q ws (pc + 2) L (.int x :: rest)) : VV p l e R s m args below meth c nL D cl A cells slots Q ws pc L rest := fun H locs ls hP hD hS h => lv_iload hC.1 hC.2.1 hdg (lv_at h q hq) (k H locs ls hP hD hS h)
theorem vv_aload_n (hC : CX p s m args meth c cc own Ts nL D cl tys A SP ret) {k0 : Fin 4} {i x : Nat} (hdg : decode cc pc = .ok (.aload_n k0, 1)) (q : Nat) (hi : (k0 : Nat) = i) (hq : L[q]? = some (i, .ref x)) (k : VV p l e R s m args below meth c nL D cl A cells slots Q ws (pc + 1) L (.ref x :: rest)) : VV p l e R s m args below meth c nL D cl A cells slots Q ws pc L rest := fun H locs ls hP hD hS h => lv_aload_n hC.1 hC.2.1 hdg hi (lv_at h q hq) (k H locs ls hP hD hS h)
theorem vv_aload (hC : CX p s m args meth c cc own Ts nL D cl tys A SP ret) {i x : Nat} (hdg : decode cc pc = .ok (.aload i, 2)) (q : Nat) (hq : L[q]? = some (i, .ref x)) (k : VV p l e R s m args below meth c nL D cl A cells slots Q ws (pc + 2) L (.ref x :: rest)) : VV p l e R s m args below meth c nL D cl A cells slots Q ws pc L rest := fun H locs ls hP hD hS h => lv_aload hC.1 hC.2.1 hdg (lv_at h q hq) (k H locs ls hP hD hS h)
theorem vv_istore_n (hC : CX p s m args meth c cc own Ts nL D cl tys A SP ret) {k0 : Fin 4} {i : Nat} {x : Int32} (hdg : decode cc pc = .ok (.istore_n k0, 1)) (hi : (k0 : Nat) = i) (hn : i < nL) (ks : List Nat) (hl : lv_pick ((i, Value.int x) :: L.filter (fun q => !(q.1 == i) && !(q.1 + 1 == i && q.2.category == 2))) ks = L2) (k : VV p l e R s m args below meth c nL D cl A cells slots Q ws (pc + 1) L2 rest) : VV p l e R s m args below meth c nL D cl A cells slots Q ws pc L (Value.int x :: rest) := fun H locs ls hP hD hS h => lv_istore_n hC.1 hC.2.1 hdg hi h hn rfl (fun ls2 h2 => k H locs ls2 hP hD hS (lv_sub h2 ks hl))
theorem vv_istore (hC : CX p s m args meth c cc own Ts nL D cl tys A SP ret) {i : Nat} {x : Int32} (hdg : decode cc pc = .ok (.istore i, 2)) (hn : i < nL) (ks : List Nat) (hl : lv_pick ((i, Value.int x) :: L.filter (fun q => !(q.1 == i) && !(q.1 + 1 == i && q.2.category == 2))) ks = L2) (k : VV p l e R s m args below meth c nL D cl A cells slots Q ws (pc + 2) L2 rest) : VV p l e R s m args below meth c nL D cl A cells slots Q ws pc L (Value.int x :: rest) := fun H locs ls hP hD hS h => lv_istore hC.1 hC.2.1 hdg h hn rfl (fun ls2 h2 => k H locs ls2 hP hD hS (lv_sub h2 ks hl))
theorem vv_astore_n (hC : CX p s m args meth c cc own Ts nL D cl tys A SP ret) {k0 : Fin 4} {i : Nat} {x : Nat} (hdg : decode cc pc = .ok (.astore_n k0, 1)) (hi : (k0 : Nat) = i) (hn : i < nL) (ks : List Nat) (hl : lv_pick ((i, Value.ref x) :: L.filter (fun q => !(q.1 == i) && !(q.1 + 1 == i && q.2.category == 2))) ks = L2) (k : VV p l e R s m args below meth c nL D cl A cells slots Q ws (pc + 1) L2 rest) : VV p l e R s m args below meth c nL D cl A cells slots Q ws pc L (Value.ref x :: rest) := fun H locs ls hP hD hS h => lv_astore_n hC.1 hC.2.1 hdg hi h hn rfl (fun ls2 h2 => k H locs ls2 hP hD hS (lv_sub h2 ks hl))
theorem vv_astore (hC : CX p s m args meth c cc own Ts nL D cl tys A SP ret) {i : Nat} {x : Nat} (hdg : decode cc pc = .ok (.astore i, 2)) (hn : i < nL) (ks : List Nat) (hl : lv_pick ((i, Value.ref x) :: L.filter (fun q => !(q.1 == i) && !(q.1 + 1 == i && q.2.category == 2))) ks = L2) (k : VV p l e R s m args below meth c nL D cl A cells slots Q ws (pc + 2) L2 rest) : VV p l e R s m args below meth c nL D cl A cells slots Q ws pc L (Value.ref x :: rest) := fun H locs ls hP hD hS h => lv_astore hC.1 hC.2.1 hdg h hn rfl (fun ls2 h2 => k H locs ls2 hP hD hS (lv_sub h2 ks hl))
theorem vv_iinc (hC : CX p s m args meth c cc own Ts nL D cl tys A SP ret) {i : Nat} {n : Int} {x v : Int32} (hdg : decode cc pc = .ok (.iinc i n, 3)) (q : Nat) (hq : L[q]? = some (i, .int x)) (hv : x + Int32.ofInt n = v) (hn : i < nL) (ks : List Nat) (hl : lv_pick ((i, Value.int v) :: L.filter (fun q => !(q.1 == i) && !(q.1 + 1 == i && q.2.category == 2))) ks = L2) (k : VV p l e R s m args below meth c nL D cl A cells slots Q ws (pc + 3) L2 rest) : VV p l e R s m args below meth c nL D cl A cells slots Q ws pc L rest := fun H locs ls hP hD hS h => lv_iinc hC.1 hC.2.1 hdg h hq hv hn rfl (fun ls2 h2 => k H locs ls2 hP hD hS (lv_sub h2 ks hl))
theorem vv_iadd (hC : CX p s m args meth c cc own Ts nL D cl tys A SP ret) {x y : Int32} (hdg : decode cc pc = .ok (.iadd, 1))  (k : VV p l e R s m args below meth c nL D cl A cells slots Q ws (pc + 1) L (.int (x + y) :: rest)) : VV p l e R s m args below meth c nL D cl A cells slots Q ws pc L (.int y :: .int x :: rest) := fun H locs ls hP hD hS h => lv_iadd hC.1 hC.2.1 hdg  (k H locs ls hP hD hS h)
theorem vv_isub (hC : CX p s m args meth c cc own Ts nL D cl tys A SP ret) {x y : Int32} (hdg : decode cc pc = .ok (.isub, 1))  (k : VV p l e R s m args below meth c nL D cl A cells slots Q ws (pc + 1) L (.int (x - y) :: rest)) : VV p l e R s m args below meth c nL D cl A cells slots Q ws pc L (.int y :: .int x :: rest) := fun H locs ls hP hD hS h => lv_isub hC.1 hC.2.1 hdg  (k H locs ls hP hD hS h)
theorem vv_imul (hC : CX p s m args meth c cc own Ts nL D cl tys A SP ret) {x y : Int32} (hdg : decode cc pc = .ok (.imul, 1))  (k : VV p l e R s m args below meth c nL D cl A cells slots Q ws (pc + 1) L (.int (x * y) :: rest)) : VV p l e R s m args below meth c nL D cl A cells slots Q ws pc L (.int y :: .int x :: rest) := fun H locs ls hP hD hS h => lv_imul hC.1 hC.2.1 hdg  (k H locs ls hP hD hS h)
theorem vv_iand (hC : CX p s m args meth c cc own Ts nL D cl tys A SP ret) {x y : Int32} (hdg : decode cc pc = .ok (.iand, 1))  (k : VV p l e R s m args below meth c nL D cl A cells slots Q ws (pc + 1) L (.int (x &&& y) :: rest)) : VV p l e R s m args below meth c nL D cl A cells slots Q ws pc L (.int y :: .int x :: rest) := fun H locs ls hP hD hS h => lv_iand hC.1 hC.2.1 hdg  (k H locs ls hP hD hS h)
theorem vv_ior (hC : CX p s m args meth c cc own Ts nL D cl tys A SP ret) {x y : Int32} (hdg : decode cc pc = .ok (.ior, 1))  (k : VV p l e R s m args below meth c nL D cl A cells slots Q ws (pc + 1) L (.int (x ||| y) :: rest)) : VV p l e R s m args below meth c nL D cl A cells slots Q ws pc L (.int y :: .int x :: rest) := fun H locs ls hP hD hS h => lv_ior hC.1 hC.2.1 hdg  (k H locs ls hP hD hS h)
theorem vv_ixor (hC : CX p s m args meth c cc own Ts nL D cl tys A SP ret) {x y : Int32} (hdg : decode cc pc = .ok (.ixor, 1))  (k : VV p l e R s m args below meth c nL D cl A cells slots Q ws (pc + 1) L (.int (x ^^^ y) :: rest)) : VV p l e R s m args below meth c nL D cl A cells slots Q ws pc L (.int y :: .int x :: rest) := fun H locs ls hP hD hS h => lv_ixor hC.1 hC.2.1 hdg  (k H locs ls hP hD hS h)
theorem vv_ishl (hC : CX p s m args meth c cc own Ts nL D cl tys A SP ret) {x y : Int32} (hdg : decode cc pc = .ok (.ishl, 1))  (k : VV p l e R s m args below meth c nL D cl A cells slots Q ws (pc + 1) L (.int (x <<< (y &&& 31)) :: rest)) : VV p l e R s m args below meth c nL D cl A cells slots Q ws pc L (.int y :: .int x :: rest) := fun H locs ls hP hD hS h => lv_ishl hC.1 hC.2.1 hdg  (k H locs ls hP hD hS h)
theorem vv_ishr (hC : CX p s m args meth c cc own Ts nL D cl tys A SP ret) {x y : Int32} (hdg : decode cc pc = .ok (.ishr, 1))  (k : VV p l e R s m args below meth c nL D cl A cells slots Q ws (pc + 1) L (.int (x >>> (y &&& 31)) :: rest)) : VV p l e R s m args below meth c nL D cl A cells slots Q ws pc L (.int y :: .int x :: rest) := fun H locs ls hP hD hS h => lv_ishr hC.1 hC.2.1 hdg  (k H locs ls hP hD hS h)
theorem vv_idiv (hC : CX p s m args meth c cc own Ts nL D cl tys A SP ret) {x y : Int32} (hdg : decode cc pc = .ok (.idiv, 1)) (hne : ¬ y = 0) (k : VV p l e R s m args below meth c nL D cl A cells slots Q ws (pc + 1) L (.int (x / y) :: rest)) : VV p l e R s m args below meth c nL D cl A cells slots Q ws pc L (.int y :: .int x :: rest) := fun H locs ls hP hD hS h => lv_idiv hC.1 hC.2.1 hdg hne (k H locs ls hP hD hS h)
theorem vv_irem (hC : CX p s m args meth c cc own Ts nL D cl tys A SP ret) {x y : Int32} (hdg : decode cc pc = .ok (.irem, 1)) (hne : ¬ y = 0) (k : VV p l e R s m args below meth c nL D cl A cells slots Q ws (pc + 1) L (.int (x - x / y * y) :: rest)) : VV p l e R s m args below meth c nL D cl A cells slots Q ws pc L (.int y :: .int x :: rest) := fun H locs ls hP hD hS h => lv_irem hC.1 hC.2.1 hdg hne (k H locs ls hP hD hS h)
theorem vv_iushr (hC : CX p s m args meth c cc own Ts nL D cl tys A SP ret) {x y : Int32} (hdg : decode cc pc = .ok (.iushr, 1))  (k : VV p l e R s m args below meth c nL D cl A cells slots Q ws (pc + 1) L (.int ((x.toUInt32 >>> (y.toUInt32 &&& Int32.toUInt32 31)).toInt32) :: rest)) : VV p l e R s m args below meth c nL D cl A cells slots Q ws pc L (.int y :: .int x :: rest) := fun H locs ls hP hD hS h => lv_iushr hC.1 hC.2.1 hdg rfl (k H locs ls hP hD hS h)
theorem vv_i2b (hC : CX p s m args meth c cc own Ts nL D cl tys A SP ret) {x : Int32} (hdg : decode cc pc = .ok (.i2b, 1))  (k : VV p l e R s m args below meth c nL D cl A cells slots Q ws (pc + 1) L (.int x.toInt8.toInt32 :: rest)) : VV p l e R s m args below meth c nL D cl A cells slots Q ws pc L (.int x :: rest) := fun H locs ls hP hD hS h => lv_i2b hC.1 hC.2.1 hdg rfl (k H locs ls hP hD hS h)
theorem vv_i2l (hC : CX p s m args meth c cc own Ts nL D cl tys A SP ret) {x : Int32} (hdg : decode cc pc = .ok (.i2l, 1))  (k : VV p l e R s m args below meth c nL D cl A cells slots Q ws (pc + 1) L (.long x.toInt64 :: rest)) : VV p l e R s m args below meth c nL D cl A cells slots Q ws pc L (.int x :: rest) := fun H locs ls hP hD hS h => lv_i2l hC.1 hC.2.1 hdg rfl (k H locs ls hP hD hS h)
theorem vv_dup (hC : CX p s m args meth c cc own Ts nL D cl tys A SP ret) {v : Value} (hdg : decode cc pc = .ok (.dup, 1)) (hv : v.category = 1) (k : VV p l e R s m args below meth c nL D cl A cells slots Q ws (pc + 1) L (v :: v :: rest)) : VV p l e R s m args below meth c nL D cl A cells slots Q ws pc L (v :: rest) := fun H locs ls hP hD hS h => lv_dup hC.1 hC.2.1 hdg hv (k H locs ls hP hD hS h)
theorem vv_pop (hC : CX p s m args meth c cc own Ts nL D cl tys A SP ret) {v : Value} (hdg : decode cc pc = .ok (.pop, 1)) (hv : v.category = 1) (k : VV p l e R s m args below meth c nL D cl A cells slots Q ws (pc + 1) L rest) : VV p l e R s m args below meth c nL D cl A cells slots Q ws pc L (v :: rest) := fun H locs ls hP hD hS h => lv_pop hC.1 hC.2.1 hdg hv (k H locs ls hP hD hS h)
theorem vv_dup2 (hC : CX p s m args meth c cc own Ts nL D cl tys A SP ret) {v w : Value} (hdg : decode cc pc = .ok (.dup2, 1)) (hv : v.category = 1) (hw : w.category = 1) (k : VV p l e R s m args below meth c nL D cl A cells slots Q ws (pc + 1) L (v :: w :: v :: w :: rest)) : VV p l e R s m args below meth c nL D cl A cells slots Q ws pc L (v :: w :: rest) := fun H locs ls hP hD hS h => lv_dup2_11 hC.1 hC.2.1 hdg hv hw (k H locs ls hP hD hS h)
theorem vv_lcmp (hC : CX p s m args meth c cc own Ts nL D cl tys A SP ret) {x y : Int64} (hdg : decode cc pc = .ok (.lcmp, 1)) (k : VV p l e R s m args below meth c nL D cl A cells slots Q ws (pc + 1) L (.int (lg_cmp x y) :: rest)) : VV p l e R s m args below meth c nL D cl A cells slots Q ws pc L (.long y :: .long x :: rest) := fun H locs ls hP hD hS h => W.lcmp hC.1 hC.2.1 hdg (k H locs ls hP hD hS h)
theorem vv_if_eq (hC : CX p s m args meth c cc own Ts nL D cl tys A SP ret) {x : Int32} {off : Int} (tgt : Nat) (hdg : decode cc pc = .ok (.ifCond .eq off, 3)) (ht : (pc : Int) + off = (tgt : Int)) (kt : x = 0 → VV p l e R s m args below meth c nL D cl A cells slots Q ws tgt L rest) (kf : ¬ x = 0 → VV p l e R s m args below meth c nL D cl A cells slots Q ws (pc + 3) L rest) : VV p l e R s m args below meth c nL D cl A cells slots Q ws pc L (.int x :: rest) := fun H locs ls hP hD hS h => lv_if_eq hC.1 hC.2.1 hdg ht (fun q => kt q H locs ls hP hD hS h) (fun q => kf q H locs ls hP hD hS h)
theorem vv_if_ne (hC : CX p s m args meth c cc own Ts nL D cl tys A SP ret) {x : Int32} {off : Int} (tgt : Nat) (hdg : decode cc pc = .ok (.ifCond .ne off, 3)) (ht : (pc : Int) + off = (tgt : Int)) (kt : ¬ x = 0 → VV p l e R s m args below meth c nL D cl A cells slots Q ws tgt L rest) (kf : x = 0 → VV p l e R s m args below meth c nL D cl A cells slots Q ws (pc + 3) L rest) : VV p l e R s m args below meth c nL D cl A cells slots Q ws pc L (.int x :: rest) := fun H locs ls hP hD hS h => lv_if_ne hC.1 hC.2.1 hdg ht (fun q => kt q H locs ls hP hD hS h) (fun q => kf q H locs ls hP hD hS h)
theorem vv_if_lt (hC : CX p s m args meth c cc own Ts nL D cl tys A SP ret) {x : Int32} {off : Int} (tgt : Nat) (hdg : decode cc pc = .ok (.ifCond .lt off, 3)) (ht : (pc : Int) + off = (tgt : Int)) (kt : x < 0 → VV p l e R s m args below meth c nL D cl A cells slots Q ws tgt L rest) (kf : ¬ x < 0 → VV p l e R s m args below meth c nL D cl A cells slots Q ws (pc + 3) L rest) : VV p l e R s m args below meth c nL D cl A cells slots Q ws pc L (.int x :: rest) := fun H locs ls hP hD hS h => lv_if_lt hC.1 hC.2.1 hdg ht (fun q => kt q H locs ls hP hD hS h) (fun q => kf q H locs ls hP hD hS h)
theorem vv_if_ge (hC : CX p s m args meth c cc own Ts nL D cl tys A SP ret) {x : Int32} {off : Int} (tgt : Nat) (hdg : decode cc pc = .ok (.ifCond .ge off, 3)) (ht : (pc : Int) + off = (tgt : Int)) (kt : 0 ≤ x → VV p l e R s m args below meth c nL D cl A cells slots Q ws tgt L rest) (kf : ¬ 0 ≤ x → VV p l e R s m args below meth c nL D cl A cells slots Q ws (pc + 3) L rest) : VV p l e R s m args below meth c nL D cl A cells slots Q ws pc L (.int x :: rest) := fun H locs ls hP hD hS h => lv_if_ge hC.1 hC.2.1 hdg ht (fun q => kt q H locs ls hP hD hS h) (fun q => kf q H locs ls hP hD hS h)
theorem vv_if_gt (hC : CX p s m args meth c cc own Ts nL D cl tys A SP ret) {x : Int32} {off : Int} (tgt : Nat) (hdg : decode cc pc = .ok (.ifCond .gt off, 3)) (ht : (pc : Int) + off = (tgt : Int)) (kt : 0 < x → VV p l e R s m args below meth c nL D cl A cells slots Q ws tgt L rest) (kf : ¬ 0 < x → VV p l e R s m args below meth c nL D cl A cells slots Q ws (pc + 3) L rest) : VV p l e R s m args below meth c nL D cl A cells slots Q ws pc L (.int x :: rest) := fun H locs ls hP hD hS h => lv_if_gt hC.1 hC.2.1 hdg ht (fun q => kt q H locs ls hP hD hS h) (fun q => kf q H locs ls hP hD hS h)
theorem vv_if_le (hC : CX p s m args meth c cc own Ts nL D cl tys A SP ret) {x : Int32} {off : Int} (tgt : Nat) (hdg : decode cc pc = .ok (.ifCond .le off, 3)) (ht : (pc : Int) + off = (tgt : Int)) (kt : x ≤ 0 → VV p l e R s m args below meth c nL D cl A cells slots Q ws tgt L rest) (kf : ¬ x ≤ 0 → VV p l e R s m args below meth c nL D cl A cells slots Q ws (pc + 3) L rest) : VV p l e R s m args below meth c nL D cl A cells slots Q ws pc L (.int x :: rest) := fun H locs ls hP hD hS h => lv_if_le hC.1 hC.2.1 hdg ht (fun q => kt q H locs ls hP hD hS h) (fun q => kf q H locs ls hP hD hS h)
theorem vv_icmp_eq (hC : CX p s m args meth c cc own Ts nL D cl tys A SP ret) {x y : Int32} {off : Int} (tgt : Nat) (hdg : decode cc pc = .ok (.if_icmp .eq off, 3)) (ht : (pc : Int) + off = (tgt : Int)) (kt : x = y → VV p l e R s m args below meth c nL D cl A cells slots Q ws tgt L rest) (kf : ¬ x = y → VV p l e R s m args below meth c nL D cl A cells slots Q ws (pc + 3) L rest) : VV p l e R s m args below meth c nL D cl A cells slots Q ws pc L (.int y :: .int x :: rest) := fun H locs ls hP hD hS h => lv_icmp_eq hC.1 hC.2.1 hdg ht (fun q => kt q H locs ls hP hD hS h) (fun q => kf q H locs ls hP hD hS h)
theorem vv_icmp_ne (hC : CX p s m args meth c cc own Ts nL D cl tys A SP ret) {x y : Int32} {off : Int} (tgt : Nat) (hdg : decode cc pc = .ok (.if_icmp .ne off, 3)) (ht : (pc : Int) + off = (tgt : Int)) (kt : ¬ x = y → VV p l e R s m args below meth c nL D cl A cells slots Q ws tgt L rest) (kf : x = y → VV p l e R s m args below meth c nL D cl A cells slots Q ws (pc + 3) L rest) : VV p l e R s m args below meth c nL D cl A cells slots Q ws pc L (.int y :: .int x :: rest) := fun H locs ls hP hD hS h => lv_icmp_ne hC.1 hC.2.1 hdg ht (fun q => kt q H locs ls hP hD hS h) (fun q => kf q H locs ls hP hD hS h)
theorem vv_icmp_lt (hC : CX p s m args meth c cc own Ts nL D cl tys A SP ret) {x y : Int32} {off : Int} (tgt : Nat) (hdg : decode cc pc = .ok (.if_icmp .lt off, 3)) (ht : (pc : Int) + off = (tgt : Int)) (kt : x < y → VV p l e R s m args below meth c nL D cl A cells slots Q ws tgt L rest) (kf : ¬ x < y → VV p l e R s m args below meth c nL D cl A cells slots Q ws (pc + 3) L rest) : VV p l e R s m args below meth c nL D cl A cells slots Q ws pc L (.int y :: .int x :: rest) := fun H locs ls hP hD hS h => lv_icmp_lt hC.1 hC.2.1 hdg ht (fun q => kt q H locs ls hP hD hS h) (fun q => kf q H locs ls hP hD hS h)
theorem vv_icmp_ge (hC : CX p s m args meth c cc own Ts nL D cl tys A SP ret) {x y : Int32} {off : Int} (tgt : Nat) (hdg : decode cc pc = .ok (.if_icmp .ge off, 3)) (ht : (pc : Int) + off = (tgt : Int)) (kt : y ≤ x → VV p l e R s m args below meth c nL D cl A cells slots Q ws tgt L rest) (kf : ¬ y ≤ x → VV p l e R s m args below meth c nL D cl A cells slots Q ws (pc + 3) L rest) : VV p l e R s m args below meth c nL D cl A cells slots Q ws pc L (.int y :: .int x :: rest) := fun H locs ls hP hD hS h => lv_icmp_ge hC.1 hC.2.1 hdg ht (fun q => kt q H locs ls hP hD hS h) (fun q => kf q H locs ls hP hD hS h)
theorem vv_icmp_gt (hC : CX p s m args meth c cc own Ts nL D cl tys A SP ret) {x y : Int32} {off : Int} (tgt : Nat) (hdg : decode cc pc = .ok (.if_icmp .gt off, 3)) (ht : (pc : Int) + off = (tgt : Int)) (kt : y < x → VV p l e R s m args below meth c nL D cl A cells slots Q ws tgt L rest) (kf : ¬ y < x → VV p l e R s m args below meth c nL D cl A cells slots Q ws (pc + 3) L rest) : VV p l e R s m args below meth c nL D cl A cells slots Q ws pc L (.int y :: .int x :: rest) := fun H locs ls hP hD hS h => lv_icmp_gt hC.1 hC.2.1 hdg ht (fun q => kt q H locs ls hP hD hS h) (fun q => kf q H locs ls hP hD hS h)
theorem vv_icmp_le (hC : CX p s m args meth c cc own Ts nL D cl tys A SP ret) {x y : Int32} {off : Int} (tgt : Nat) (hdg : decode cc pc = .ok (.if_icmp .le off, 3)) (ht : (pc : Int) + off = (tgt : Int)) (kt : x ≤ y → VV p l e R s m args below meth c nL D cl A cells slots Q ws tgt L rest) (kf : ¬ x ≤ y → VV p l e R s m args below meth c nL D cl A cells slots Q ws (pc + 3) L rest) : VV p l e R s m args below meth c nL D cl A cells slots Q ws pc L (.int y :: .int x :: rest) := fun H locs ls hP hD hS h => lv_icmp_le hC.1 hC.2.1 hdg ht (fun q => kt q H locs ls hP hD hS h) (fun q => kf q H locs ls hP hD hS h)
theorem vv_goto (hC : CX p s m args meth c cc own Ts nL D cl tys A SP ret) {off : Int} (tgt : Nat) (hdg : decode cc pc = .ok (.goto off, 3)) (ht : (pc : Int) + off = (tgt : Int)) (k : VV p l e R s m args below meth c nL D cl A cells slots Q ws tgt L rest) : VV p l e R s m args below meth c nL D cl A cells slots Q ws pc L rest := fun H locs ls hP hD hS h => lv_goto hC.1 hC.2.1 hdg ht (k H locs ls hP hD hS h)
theorem vv_sub (ks : List Nat) (hl : lv_pick L ks = L2) (k : VV p l e R s m args below meth c nL D cl A cells slots Q ws pc L2 rest) : VV p l e R s m args below meth c nL D cl A cells slots Q ws pc L rest := fun H locs ls hP hD hS h => k H locs ls hP hD hS (lv_sub h ks hl)
theorem vv_perm (is : List Nat) (hn : va_nd is = true) (hs : is.filterMap (fun i => ws[i]?) = ws2) (hs2 : is.map (fun i => ws[i]?) = ws2.map some) (k : VV p l e R s m args below meth c nL D cl A cells slots Q ws2 pc L rest) : VV p l e R s m args below meth c nL D cl A cells slots Q ws pc L rest := fun H locs ls hP hD hS h => k H locs ls (hP.sub is hs) (hD.sub is hn hs2) hS h
theorem vv_get (hC : CX p s m args meth c cc own Ts nL D cl tys A SP ret) {ref C : String} {T : u_T} {N ci index a : Nat} {fs : List Value} {v : Value} (hin : ∀ w ∈ u_ws C T N, w ∈ Ts) (q0 : Nat) (k : Nat) (hlk : Cond.fieldLink own index ref (T k).2.1 (T k).2.2.1 ∈ Ts) (hdg : decode cc pc = .ok (.getfield index, 3)) (he : ws[q0]? = some (a, .inr (ci, fs))) (hc : cl[ci]? = some (C, T, N)) (hk : k < N) (hrf : (T k).1 = ref) (hv : fs[k]? = some v) (kk : VV p l e R s m args below meth c nL D cl A cells slots Q ws (pc + 3) L (v :: rest)) : VV p l e R s m args below meth c nL D cl A cells slots Q ws pc L (.ref a :: rest) := fun H locs ls hP hD hS h => va_get hC.1 hC.2.1 hC.2.2.2.2.1 hin hC.2.2.2.1 hC.2.2.2.2.2.1 hP q0 he hc k hk (hC.2.2.2.2.1 _ hlk) (fun x h9 => by rw [← hrf]; exact h9) hv hdg (kk H locs ls hP hD hS h)
theorem vv_getN (hC : CX p s m args meth c cc own Ts nL D cl tys A SP ret) {ref C : String} {T : u_T} {N ci index a : Nat} {fs : List Value} {host : String} {v : Value} (hin : ∀ w ∈ u_ws C T N, w ∈ Ts) (q0 : Nat) (k : Nat) (hlk : ∀ {A : Nat → Prop} {U : State} {H : Heap}, SP A U H → va_Nw (Cond.fieldLinkNest own index ref (T k).2.1 (T k).2.2.1 host) U) (hdg : decode cc pc = .ok (.getfield index, 3)) (he : ws[q0]? = some (a, .inr (ci, fs))) (hc : cl[ci]? = some (C, T, N)) (hk : k < N) (hrf : (T k).1 = ref) (hv : fs[k]? = some v) (kk : VV p l e R s m args below meth c nL D cl A cells slots Q ws (pc + 3) L (v :: rest)) : VV p l e R s m args below meth c nL D cl A cells slots Q ws pc L (.ref a :: rest) := fun H locs ls hP hD hS h => va_getN hC.1 hC.2.1 hC.2.2.2.2.1 hin hC.2.2.2.1 hC.2.2.2.2.2.1 hP q0 he hc k hk (va_Nw.use rfl (hlk hC.2.2.2.2.2.2.2.1.2)) (fun x h9 => by rw [← hrf]; exact h9) hv hdg (kk H locs ls hP hD hS h)
theorem vv_put (hC : CX p s m args meth c cc own Ts nL D cl tys A SP ret) {ref C : String} {T : u_T} {N ci index a : Nat} {fs : List Value}  {v : Value} {ty : FieldType} (hin : ∀ w ∈ u_ws C T N, w ∈ Ts) (ty0 : Nat → FieldType) (hty : ∀ k, k < N → parseFieldDescriptor (T k).2.2.1 = some (ty0 k)) (hnm : ∀ a, a < N → ∀ b, b < N → a ≠ b → (T a).2.1 ≠ (T b).2.1) (q0 : Nat) (k : Nat) (hlk : Cond.fieldLink own index ref (T k).2.1 (T k).2.2.1 ∈ Ts) (hdg : decode cc pc = .ok (.putfield index, 3)) (he : ws[q0]? = some (a, .inr (ci, fs))) (hc : cl[ci]? = some (C, T, N)) (hk : k < N) (hrf : (T k).1 = ref) (hfin : (T k).2.2.2 = false) (hd : ty0 k = ty) (hn : narrow ty v = v) (hfit : fits ty v = true) (hl : k < fs.length) (hs : ws.set q0 (a, .inr (ci, fs.set k v)) = ws2) (kk : VV p l e R s m args below meth c nL D cl A cells slots Q ws2 (pc + 3) L rest) : VV p l e R s m args below meth c nL D cl A cells slots Q ws pc L (v :: .ref a :: rest) := fun H locs ls hP hD hS h => va_put hC.1 hC.2.1 hC.2.2.2.2.1 hin ty0 hty hnm hC.2.2.2.1 hC.2.2.2.2.2.1 hP hD hS q0 he hc k hk (hC.2.2.2.2.1 _ hlk) (fun x h9 => by rw [← hrf]; exact h9) hfin (by rw [hty k hk, hd]) hn hfit hl hdg (fun H1 locs1 hP hD hS => kk H1 locs1 ls (hs ▸ hP) (hs ▸ hD) hS h)
theorem vv_putN (hC : CX p s m args meth c cc own Ts nL D cl tys A SP ret) {ref C : String} {T : u_T} {N ci index a : Nat} {fs : List Value} {host : String} {v : Value} {ty : FieldType} (hin : ∀ w ∈ u_ws C T N, w ∈ Ts) (ty0 : Nat → FieldType) (hty : ∀ k, k < N → parseFieldDescriptor (T k).2.2.1 = some (ty0 k)) (hnm : ∀ a, a < N → ∀ b, b < N → a ≠ b → (T a).2.1 ≠ (T b).2.1) (q0 : Nat) (k : Nat) (hlk : ∀ {A : Nat → Prop} {U : State} {H : Heap}, SP A U H → va_Nw (Cond.fieldLinkNest own index ref (T k).2.1 (T k).2.2.1 host) U) (hdg : decode cc pc = .ok (.putfield index, 3)) (he : ws[q0]? = some (a, .inr (ci, fs))) (hc : cl[ci]? = some (C, T, N)) (hk : k < N) (hrf : (T k).1 = ref) (hfin : (T k).2.2.2 = false) (hd : ty0 k = ty) (hn : narrow ty v = v) (hfit : fits ty v = true) (hl : k < fs.length) (hs : ws.set q0 (a, .inr (ci, fs.set k v)) = ws2) (kk : VV p l e R s m args below meth c nL D cl A cells slots Q ws2 (pc + 3) L rest) : VV p l e R s m args below meth c nL D cl A cells slots Q ws pc L (v :: .ref a :: rest) := fun H locs ls hP hD hS h => va_putN hC.1 hC.2.1 hC.2.2.2.2.1 hin ty0 hty hnm hC.2.2.2.1 hC.2.2.2.2.2.1 hP hD hS q0 he hc k hk (va_Nw.use rfl (hlk hC.2.2.2.2.2.2.2.1.2)) (fun x h9 => by rw [← hrf]; exact h9) hfin (by rw [hty k hk, hd]) hn hfit hl hdg (fun H1 locs1 hP hD hS => kk H1 locs1 ls (hs ▸ hP) (hs ▸ hD) hS h)
theorem vv_iald (hC : CX p s m args meth c cc own Ts nL D cl tys A SP ret) {cA : ClassId} {a n : Nat} {f : Nat → Int32} {i : Int32} (q0 t0 : Nat) (hdg : decode cc pc = .ok (.iaload, 1)) (ha : ws[q0]? = some (a, .inl (cA, n, .inl f))) (ht : tys[t0]? = some (cA, .int)) (hi : vp_in i n) (kk : VV p l e R s m args below meth c nL D cl A cells slots Q ws (pc + 1) L (.int (f i.toNatClampNeg) :: rest)) : VV p l e R s m args below meth c nL D cl A cells slots Q ws pc L (.int i :: .ref a :: rest) := fun H locs ls hP hD hS h => va_iald hC.1 hC.2.1 hC.2.2.2.2.2.1 hP q0 t0 ha ht hi hdg (kk H locs ls hP hD hS h)
theorem vv_bald (hC : CX p s m args meth c cc own Ts nL D cl tys A SP ret) {cA : ClassId} {a n : Nat} {f : Nat → Int32} {i : Int32} (q0 t0 : Nat) (hdg : decode cc pc = .ok (.baload, 1)) (ha : ws[q0]? = some (a, .inl (cA, n, .inl f))) (ht : tys[t0]? = some (cA, .byte)) (hi : vp_in i n) (kk : VV p l e R s m args below meth c nL D cl A cells slots Q ws (pc + 1) L (.int (f i.toNatClampNeg) :: rest)) : VV p l e R s m args below meth c nL D cl A cells slots Q ws pc L (.int i :: .ref a :: rest) := fun H locs ls hP hD hS h => va_bald hC.1 hC.2.1 hC.2.2.2.2.2.1 hP q0 t0 ha ht hi hdg (kk H locs ls hP hD hS h)
theorem vv_zald (hC : CX p s m args meth c cc own Ts nL D cl tys A SP ret) {cA : ClassId} {a n : Nat} {f : Nat → Int32} {i : Int32} (q0 t0 : Nat) (hdg : decode cc pc = .ok (.baload, 1)) (ha : ws[q0]? = some (a, .inl (cA, n, .inl f))) (ht : tys[t0]? = some (cA, .boolean)) (hi : vp_in i n) (kk : VV p l e R s m args below meth c nL D cl A cells slots Q ws (pc + 1) L (.int (f i.toNatClampNeg) :: rest)) : VV p l e R s m args below meth c nL D cl A cells slots Q ws pc L (.int i :: .ref a :: rest) := fun H locs ls hP hD hS h => va_zald hC.1 hC.2.1 hC.2.2.2.2.2.1 hP q0 t0 ha ht hi hdg (kk H locs ls hP hD hS h)
theorem vv_iast (hC : CX p s m args meth c cc own Ts nL D cl tys A SP ret) {cA : ClassId} {a n : Nat} {f : Nat → Int32} {i : Int32} {x : Int32} (q0 t0 : Nat) (hdg : decode cc pc = .ok (.iastore, 1)) (ha : ws[q0]? = some (a, .inl (cA, n, .inl f))) (ht : tys[t0]? = some (cA, .int)) (hi : vp_in i n) (hs : ws.set q0 (a, .inl (cA, n, .inl (upd f i.toNatClampNeg x))) = ws2) (kk : VV p l e R s m args below meth c nL D cl A cells slots Q ws2 (pc + 1) L rest) : VV p l e R s m args below meth c nL D cl A cells slots Q ws pc L (.int x :: .int i :: .ref a :: rest) := fun H locs ls hP hD hS h => va_iast hC.1 hC.2.1 hC.2.2.2.2.2.1 hP hD hS q0 t0 ha ht hi hdg (fun H1 locs1 hP hD hS => kk H1 locs1 ls (hs ▸ hP) (hs ▸ hD) hS h)
theorem vv_bast (hC : CX p s m args meth c cc own Ts nL D cl tys A SP ret) {cA : ClassId} {a n : Nat} {f : Nat → Int32} {i : Int32} {x : Int32} (q0 t0 : Nat) (hdg : decode cc pc = .ok (.bastore, 1)) (ha : ws[q0]? = some (a, .inl (cA, n, .inl f))) (ht : tys[t0]? = some (cA, .byte)) (hi : vp_in i n) (hs : ws.set q0 (a, .inl (cA, n, .inl (upd f i.toNatClampNeg (vp_nar .byte x)))) = ws2) (kk : VV p l e R s m args below meth c nL D cl A cells slots Q ws2 (pc + 1) L rest) : VV p l e R s m args below meth c nL D cl A cells slots Q ws pc L (.int x :: .int i :: .ref a :: rest) := fun H locs ls hP hD hS h => va_bast hC.1 hC.2.1 hC.2.2.2.2.2.1 hP hD hS q0 t0 ha ht hi hdg (fun H1 locs1 hP hD hS => kk H1 locs1 ls (hs ▸ hP) (hs ▸ hD) hS h)
theorem vv_zast (hC : CX p s m args meth c cc own Ts nL D cl tys A SP ret) {cA : ClassId} {a n : Nat} {f : Nat → Int32} {i : Int32} {x : Int32} (q0 t0 : Nat) (hdg : decode cc pc = .ok (.bastore, 1)) (ha : ws[q0]? = some (a, .inl (cA, n, .inl f))) (ht : tys[t0]? = some (cA, .boolean)) (hi : vp_in i n) (hs : ws.set q0 (a, .inl (cA, n, .inl (upd f i.toNatClampNeg (vp_nar .boolean x)))) = ws2) (kk : VV p l e R s m args below meth c nL D cl A cells slots Q ws2 (pc + 1) L rest) : VV p l e R s m args below meth c nL D cl A cells slots Q ws pc L (.int x :: .int i :: .ref a :: rest) := fun H locs ls hP hD hS h => va_zast hC.1 hC.2.1 hC.2.2.2.2.2.1 hP hD hS q0 t0 ha ht hi hdg (fun H1 locs1 hP hD hS => kk H1 locs1 ls (hs ▸ hP) (hs ▸ hD) hS h)
theorem vv_alen (hC : CX p s m args meth c cc own Ts nL D cl tys A SP ret) {cA : ClassId} {a n : Nat} {f : Nat → Int32} {ty : FieldType} {v : Int32} (q0 t0 : Nat) (hdg : decode cc pc = .ok (.arraylength, 1)) (ha : ws[q0]? = some (a, .inl (cA, n, .inl f))) (ht : tys[t0]? = some (cA, ty)) (hv : Int32.ofNat n = v) (kk : VV p l e R s m args below meth c nL D cl A cells slots Q ws (pc + 1) L (.int v :: rest)) : VV p l e R s m args below meth c nL D cl A cells slots Q ws pc L (.ref a :: rest) := fun H locs ls hP hD hS h => va_alen hC.1 hC.2.1 hC.2.2.2.2.2.1 hP q0 t0 ha ht hv hdg (kk H locs ls hP hD hS h)
theorem vin_c {i : Int32} {n : Nat} (h : ¬ (i < 0 ∨ n ≤ i.toNatClampNeg)) : vp_in i n := h
theorem sw_cases {x k : Int32} {P : Prop} (ht : x = k → P) (hf : ¬ x = k → P) : P := by
  by_cases h : x = k
  · exact ht h
  · exact hf h
theorem sw_out {x : Int32} (n : Nat) (hn : n < 2 ^ 31) (h : ∀ k, k ≤ n → ¬ x = nI k) : x.toInt < 0 ∨ (n : Int) < x.toInt := by
  by_cases h1 : x.toInt < 0
  · exact Or.inl h1
  · refine Or.inr (Int.not_le.mp fun h2 => ?_)
    refine h x.toInt.toNat (by omega) ?_
    rw [← Int32.toInt_inj, nI_toInt (by omega)]
    omega
theorem vv_tabIn (hC : CX p s m args meth c cc own Ts nL D cl tys A SP ret) {x : Int32} {dflt lo hi : Int} {offs : Array Int} {len : Nat} (k : Int32) (off : Int) (tgt : Nat) (hdg : decode cc pc = .ok (.tableswitch dflt lo hi offs, len)) (cd : x = k) (h1 : ¬ k.toInt < lo) (h2 : ¬ hi < k.toInt) (ho : offs[(k.toInt - lo).toNat]? = some off) (ht : (pc : Int) + off = (tgt : Int)) (kk : VV p l e R s m args below meth c nL D cl A cells slots Q ws tgt L rest) : VV p l e R s m args below meth c nL D cl A cells slots Q ws pc L (.int x :: rest) := fun H locs ls hP hD hS h => lv_tableIn hC.1 hC.2.1 hdg (by rw [cd]; exact h1) (by rw [cd]; exact h2) (by rw [cd]; exact ho) ht (kk H locs ls hP hD hS h)
theorem vv_tabOut (hC : CX p s m args meth c cc own Ts nL D cl tys A SP ret) {x : Int32} {dflt lo hi : Int} {offs : Array Int} {len : Nat} (tgt : Nat) (hdg : decode cc pc = .ok (.tableswitch dflt lo hi offs, len)) (h0 : x.toInt < lo ∨ hi < x.toInt) (ht : (pc : Int) + dflt = (tgt : Int)) (kk : VV p l e R s m args below meth c nL D cl A cells slots Q ws tgt L rest) : VV p l e R s m args below meth c nL D cl A cells slots Q ws pc L (.int x :: rest) := fun H locs ls hP hD hS h => lv_tableOut hC.1 hC.2.1 hdg h0 ht (kk H locs ls hP hD hS h)
theorem vv_lookup (hC : CX p s m args meth c cc own Ts nL D cl tys A SP ret) {x : Int32} {dflt : Int} {ps : Array (Int × Int)} {pl : List (Int × Int)} {len : Nat} (off : Int) (tgt : Nat) (hdg : decode cc pc = .ok (.lookupswitch dflt ps, len)) (hpl : ps.toList = pl) (hp : (pl.zip (pl.drop 1)).all (fun (a, next) => a.1 < next.1) = true) (ho : Op.lookupswitch.offset pl dflt x.toInt = off) (ht : (pc : Int) + off = (tgt : Int)) (kk : VV p l e R s m args below meth c nL D cl A cells slots Q ws tgt L rest) : VV p l e R s m args below meth c nL D cl A cells slots Q ws pc L (.int x :: rest) := fun H locs ls hP hD hS h => lv_lookup hC.1 hC.2.1 hdg (by rw [hpl]; exact hp) (by rw [hpl]; exact ho) ht (kk H locs ls hP hD hS h)
theorem vv_entryI {y : MethodName} {wy TB : List Cond} {rm : Room} {av : List Value} {S : Type} {post : Int32 → S → Prop} {wf : S → va_W} {maxL : Nat} (hy : plainName y.cls = true) (hw : wy = Cond.code y cc maxL ret :: TB) (ho : y.cls = own) (hal : (lg_sl av).length ≤ maxL) (hL : lv_args 0 av = L) (body : ∀ (p : Program) (e : Env) (s : State) (m : MethodId) (args : Array Value) (below : List Frame) (meth : Method) (c : Code) (A : Nat → Prop), CX p s m args meth c cc own TB maxL D cl tys A SP ret → VV p l e rm s m args below meth c maxL D cl A 0 0 (QI below args s D cl tys A post wf) ws 0 L []) : MetI l y wy rm D cl tys SP av ws post wf := by
  intro sz
  refine Met.ofW (cc := cc) (maxL := maxL) (ret := ret) hy hw ?_
  intro p e s m args below meth c s₁ B hml hv
  obtain ⟨rfl, hsz, hP, hK, hD0, hNa, hNW⟩ := hv
  have hts := atoms_spec (ws := wy) B.pre
  have hown : s.vm.findClass own = some m.cls := by rw [← ho]; exact findClass_of_methodNamed B.named
  subst hsz
  have hD := hD0.self (sz := s.heap.size)
  have h0 := lv_entry av (n := maxL) hal
  rw [lg_entry_eq]
  rw [hL] at h0
  exact body p e s m _ below meth c (va_A ws s.heap.size) ⟨B.exec, B.bytes, hml, hown, fun w hw2 => hts w (by rw [hw]; exact List.mem_cons_of_mem _ hw2), hK, fun q h => Or.inr h, ⟨hNa, hNW⟩, B.returns, B.notSynchronized⟩ s.heap [] _ hP hD va_S.rf h0
theorem vv_entryV {y : MethodName} {wy TB : List Cond} {rm : Room} {av : List Value} {S : Type} {post : S → Prop} {wf : S → va_W} {maxL : Nat} (hy : plainName y.cls = true) (hw : wy = Cond.code y cc maxL ret :: TB) (ho : y.cls = own) (hal : (lg_sl av).length ≤ maxL) (hL : lv_args 0 av = L) (body : ∀ (p : Program) (e : Env) (s : State) (m : MethodId) (args : Array Value) (below : List Frame) (meth : Method) (c : Code) (A : Nat → Prop), CX p s m args meth c cc own TB maxL D cl tys A SP ret → VV p l e rm s m args below meth c maxL D cl A 0 0 (QV below args s D cl tys A post wf) ws 0 L []) : MetV l y wy rm D cl tys SP av ws post wf := by
  intro sz
  refine Met.ofW (cc := cc) (maxL := maxL) (ret := ret) hy hw ?_
  intro p e s m args below meth c s₁ B hml hv
  obtain ⟨rfl, hsz, hP, hK, hD0, hNa, hNW⟩ := hv
  have hts := atoms_spec (ws := wy) B.pre
  have hown : s.vm.findClass own = some m.cls := by rw [← ho]; exact findClass_of_methodNamed B.named
  subst hsz
  have hD := hD0.self (sz := s.heap.size)
  have h0 := lv_entry av (n := maxL) hal
  rw [lg_entry_eq]
  rw [hL] at h0
  exact body p e s m _ below meth c (va_A ws s.heap.size) ⟨B.exec, B.bytes, hml, hown, fun w hw2 => hts w (by rw [hw]; exact List.mem_cons_of_mem _ hw2), hK, fun q h => Or.inr h, ⟨hNa, hNW⟩, B.returns, B.notSynchronized⟩ s.heap [] _ hP hD va_S.rf h0
theorem vv_iret {S : Type} {post : Int32 → S → Prop} {wf : S → va_W} {v : Int32} (hC : CX p s m args meth c cc own Ts nL D cl tys A SP (some .int)) (hdg : decode cc pc = .ok (.ireturn, 1)) (u : S) (hp : post v u) (hw : ws = wf u) : VV p l e R s m args below meth c nL D cl A 0 0 (QI below args s D cl tys A post wf) ws pc L [.int v] := fun H locs ls hP hD hS h => W.iret hC.1 hC.2.1 hC.2.2.2.2.2.2.2.2.1 (fun t ht hW => ⟨⟨v, u, rfl, hp, by rw [ht]; exact hw ▸ hP, va_K.moved hW.alike hC.2.2.2.2.2.1, hw ▸ hD⟩, hS.F ht⟩) hS.2.2 hdg hC.2.2.2.2.2.2.2.2.2
theorem vv_zret {S : Type} {post : Int32 → S → Prop} {wf : S → va_W} {v : Int32} (hC : CX p s m args meth c cc own Ts nL D cl tys A SP (some .boolean)) (hdg : decode cc pc = .ok (.ireturn, 1)) (hn : narrow .boolean (.int v) = .int v) (u : S) (hp : post v u) (hw : ws = wf u) : VV p l e R s m args below meth c nL D cl A 0 0 (QI below args s D cl tys A post wf) ws pc L [.int v] := fun H locs ls hP hD hS h => W.zret hC.1 hC.2.1 hC.2.2.2.2.2.2.2.2.1 hn (fun t ht hW => ⟨⟨v, u, rfl, hp, by rw [ht]; exact hw ▸ hP, va_K.moved hW.alike hC.2.2.2.2.2.1, hw ▸ hD⟩, hS.F ht⟩) hS.2.2 hdg hC.2.2.2.2.2.2.2.2.2
theorem vv_vret {S : Type} {post : S → Prop} {wf : S → va_W} (hC : CX p s m args meth c cc own Ts nL D cl tys A SP none) (hdg : decode cc pc = .ok (.return_, 1)) (u : S) (hp : post u) (hw : ws = wf u) : VV p l e R s m args below meth c nL D cl A 0 0 (QV below args s D cl tys A post wf) ws pc L [] := fun H locs ls hP hD hS h => W.vret hC.1 hC.2.1 hC.2.2.2.2.2.2.2.2.1 (fun t ht hW => ⟨⟨u, rfl, hp, by rw [ht]; exact hw ▸ hP, va_K.moved hW.alike hC.2.2.2.2.2.1, hw ▸ hD⟩, hS.F ht⟩) hS.2.2 hdg hC.2.2.2.2.2.2.2.2.2
theorem vv_callVI (hC : CX p s m args meth c cc own Ts nL D cl tys A SP ret) {y : MethodName} {wy : List Cond} {rm : Room} {bytes : ByteArray} {maxL n index : Nat} {rt : Option FieldType} {C : String} {T : u_T} {N ci b : Nat} {fs : List Value} {As st0 : List Value} {S : Type} {post : Int32 → S → Prop} {wf : S → va_W} {wc wr : va_W} (hM : MetI l y wy rm D cl tys SP (.ref b :: As) wc post wf) (cw : CallW R s args own C index y bytes maxL rt wy rm 0 0 n) (hdg : decode cc pc = .ok (.invokevirtual index, 3)) (rest : List Value) (isC isR isB : List Nat) (wg : S → va_W) (hc : cells ≤ R.cells ∧ slots ≤ R.slots) (hCs : isC.map (fun i => ws[i]?) = wc.map some) (hRs : isR.map (fun i => ws[i]?) = wr.map some) (hBs : ∀ u, isB.map (fun i => (wr ++ wf u)[i]?) = (wg u).map some) (hnC : va_nd isC = true) (hnR : va_nd isR = true) (hnB : va_nd isB = true) (hdis : isR.all (fun i => !isC.contains i) = true) (he : wc[0]? = some (b, .inr (ci, fs))) (hcl : cl[ci]? = some (C, T, N)) (hlen : As.length = n) (hst : st0 = As.reverse ++ .ref b :: rest) (hrm : (rest.map fun v => v.category).sum ≤ 8) (kk : ∀ (r : Int32) (u : S), post r u → VV p l e R s m args below meth c nL D cl A cells slots Q (wg u) (pc + 3) L (.int r :: rest)) : VV p l e R s m args below meth c nL D cl A cells slots Q ws pc L st0 := by
  obtain ⟨hx, hb, hml, hown, hts, hK, hA, ⟨hNa, hNW⟩, hr, hlk⟩ := hC
  intro H locs ls hP hD hS h
  have hPc := hP.sub (ws' := wc) isC (vq_fm _ _ _ hCs)
  have hDc := hD.sub (ws' := wc) isC hnC hCs
  have hFc := va_free (wc := wc) hD hS hA isC hCs
  refine va_calli (va_runV (As := As) (rest := rest) (Ts := Ts) ⟨hx, hb, hml, hown, hts⟩ (hM H.size) cw ⟨fun a U g mk q => by obtain ⟨q0, q1, qP, qK, qD, qa, qN⟩ := q; exact ⟨q0, q1, qP, va_K.moved (u := U) (U := U.calling g mk a) (Vm.Alike.refl U.vm) qK, qD, qa, qa.2.2.2 _ U (U.calling g mk a) _ rfl qN⟩, va_recv hK hPc (ci := ci) (q0 := 0) hcl he, fun U hU hW => ⟨rfl, by rw [hU], by rw [hU]; exact hPc, va_K.moved hW.alike hK, hDc.weaken (fun _ _ _ _ => trivial), hNa, by rw [hU]; exact hNa.2.2.1 _ s U _ hW (hNa.2.1 _ _ _ _ (hNa.1 _ _ _ _ hNW (fun a h1 h2 => hS.2.1 a h1 h2)) hFc)⟩⟩ rfl hlen h.1 hst (lv_room hrm) hdg hc) hS (fun q _ h => hFc q h) hFc (fun r u t H1 locs1 ht hvm hw hB hz1 hk1 hS1 => ?_)
  obtain ⟨hP1, hK1, hD1⟩ := hB
  rw [ht] at hP1
  obtain ⟨hP2, hD2⟩ := va_join (wr := wr) (w1 := wf u) hP hD isC isR hCs hRs hnR (fun i hi hj => by have := List.all_eq_true.mp hdis i hi; simp at this; exact this hj) hk1 hFc hP1 hD1
  exact kk r u hw H1 locs1 ls (hP2.sub isB (vq_fm _ _ _ (hBs u))) (hD2.sub isB hnB (hBs u)) hS1 h
theorem vv_callVV (hC : CX p s m args meth c cc own Ts nL D cl tys A SP ret) {y : MethodName} {wy : List Cond} {rm : Room} {bytes : ByteArray} {maxL n index : Nat} {rt : Option FieldType} {C : String} {T : u_T} {N ci b : Nat} {fs : List Value} {As st0 : List Value} {S : Type} {post : S → Prop} {wf : S → va_W} {wc wr : va_W} (hM : MetV l y wy rm D cl tys SP (.ref b :: As) wc post wf) (cw : CallW R s args own C index y bytes maxL rt wy rm 0 0 n) (hdg : decode cc pc = .ok (.invokevirtual index, 3)) (rest : List Value) (isC isR isB : List Nat) (wg : S → va_W) (hc : cells ≤ R.cells ∧ slots ≤ R.slots) (hCs : isC.map (fun i => ws[i]?) = wc.map some) (hRs : isR.map (fun i => ws[i]?) = wr.map some) (hBs : ∀ u, isB.map (fun i => (wr ++ wf u)[i]?) = (wg u).map some) (hnC : va_nd isC = true) (hnR : va_nd isR = true) (hnB : va_nd isB = true) (hdis : isR.all (fun i => !isC.contains i) = true) (he : wc[0]? = some (b, .inr (ci, fs))) (hcl : cl[ci]? = some (C, T, N)) (hlen : As.length = n) (hst : st0 = As.reverse ++ .ref b :: rest) (hrm : (rest.map fun v => v.category).sum ≤ 8) (kk : ∀ (u : S), post u → VV p l e R s m args below meth c nL D cl A cells slots Q (wg u) (pc + 3) L rest) : VV p l e R s m args below meth c nL D cl A cells slots Q ws pc L st0 := by
  obtain ⟨hx, hb, hml, hown, hts, hK, hA, ⟨hNa, hNW⟩, hr, hlk⟩ := hC
  intro H locs ls hP hD hS h
  have hPc := hP.sub (ws' := wc) isC (vq_fm _ _ _ hCs)
  have hDc := hD.sub (ws' := wc) isC hnC hCs
  have hFc := va_free (wc := wc) hD hS hA isC hCs
  refine va_callv (va_runV (As := As) (rest := rest) (Ts := Ts) ⟨hx, hb, hml, hown, hts⟩ (hM H.size) cw ⟨fun a U g mk q => by obtain ⟨q0, q1, qP, qK, qD, qa, qN⟩ := q; exact ⟨q0, q1, qP, va_K.moved (u := U) (U := U.calling g mk a) (Vm.Alike.refl U.vm) qK, qD, qa, qa.2.2.2 _ U (U.calling g mk a) _ rfl qN⟩, va_recv hK hPc (ci := ci) (q0 := 0) hcl he, fun U hU hW => ⟨rfl, by rw [hU], by rw [hU]; exact hPc, va_K.moved hW.alike hK, hDc.weaken (fun _ _ _ _ => trivial), hNa, by rw [hU]; exact hNa.2.2.1 _ s U _ hW (hNa.2.1 _ _ _ _ (hNa.1 _ _ _ _ hNW (fun a h1 h2 => hS.2.1 a h1 h2)) hFc)⟩⟩ rfl hlen h.1 hst (lv_room hrm) hdg hc) hS (fun q _ h => hFc q h) hFc (fun u t H1 locs1 ht hvm hw hB hz1 hk1 hS1 => ?_)
  obtain ⟨hP1, hK1, hD1⟩ := hB
  rw [ht] at hP1
  obtain ⟨hP2, hD2⟩ := va_join (wr := wr) (w1 := wf u) hP hD isC isR hCs hRs hnR (fun i hi hj => by have := List.all_eq_true.mp hdis i hi; simp at this; exact this hj) hk1 hFc hP1 hD1
  exact kk u hw H1 locs1 ls (hP2.sub isB (vq_fm _ _ _ (hBs u))) (hD2.sub isB hnB (hBs u)) hS1 h
theorem vv_callVNI (hC : CX p s m args meth c cc own Ts nL D cl tys A SP ret) {y : MethodName} {wy : List Cond} {rm : Room} {bytes : ByteArray} {maxL n index : Nat} {rt : Option FieldType} {host : String} {C : String} {T : u_T} {N ci b : Nat} {fs : List Value} {As st0 : List Value} {S : Type} {post : Int32 → S → Prop} {wf : S → va_W} {wc wr : va_W} (hM : MetI l y wy rm D cl tys SP (.ref b :: As) wc post wf) (cw : (va_CN R s args own index y host bytes maxL rt wy rm 0 0 n ∧ (Cond.instanceMethod y).before args s = true ∧ (Cond.selects C y y).before args s = true)) (hdg : decode cc pc = .ok (.invokevirtual index, 3)) (rest : List Value) (isC isR isB : List Nat) (wg : S → va_W) (hc : cells ≤ R.cells ∧ slots ≤ R.slots) (hCs : isC.map (fun i => ws[i]?) = wc.map some) (hRs : isR.map (fun i => ws[i]?) = wr.map some) (hBs : ∀ u, isB.map (fun i => (wr ++ wf u)[i]?) = (wg u).map some) (hnC : va_nd isC = true) (hnR : va_nd isR = true) (hnB : va_nd isB = true) (hdis : isR.all (fun i => !isC.contains i) = true) (he : wc[0]? = some (b, .inr (ci, fs))) (hcl : cl[ci]? = some (C, T, N)) (hlen : As.length = n) (hst : st0 = As.reverse ++ .ref b :: rest) (hrm : (rest.map fun v => v.category).sum ≤ 8) (kk : ∀ (r : Int32) (u : S), post r u → VV p l e R s m args below meth c nL D cl A cells slots Q (wg u) (pc + 3) L (.int r :: rest)) : VV p l e R s m args below meth c nL D cl A cells slots Q ws pc L st0 := by
  obtain ⟨hx, hb, hml, hown, hts, hK, hA, ⟨hNa, hNW⟩, hr, hlk⟩ := hC
  intro H locs ls hP hD hS h
  have hPc := hP.sub (ws' := wc) isC (vq_fm _ _ _ hCs)
  have hDc := hD.sub (ws' := wc) isC hnC hCs
  have hFc := va_free (wc := wc) hD hS hA isC hCs
  refine va_calli (va_runVN (As := As) (rest := rest) (Ts := Ts) ⟨hx, hb, hml, hown, hts⟩ (hM H.size) cw ⟨fun a U g mk q => by obtain ⟨q0, q1, qP, qK, qD, qa, qN⟩ := q; exact ⟨q0, q1, qP, va_K.moved (u := U) (U := U.calling g mk a) (Vm.Alike.refl U.vm) qK, qD, qa, qa.2.2.2 _ U (U.calling g mk a) _ rfl qN⟩, va_recv hK hPc (ci := ci) (q0 := 0) hcl he, fun U hU hW => ⟨rfl, by rw [hU], by rw [hU]; exact hPc, va_K.moved hW.alike hK, hDc.weaken (fun _ _ _ _ => trivial), hNa, by rw [hU]; exact hNa.2.2.1 _ s U _ hW (hNa.2.1 _ _ _ _ (hNa.1 _ _ _ _ hNW (fun a h1 h2 => hS.2.1 a h1 h2)) hFc)⟩⟩ rfl hlen h.1 hst (lv_room hrm) hdg hc) hS (fun q _ h => hFc q h) hFc (fun r u t H1 locs1 ht hvm hw hB hz1 hk1 hS1 => ?_)
  obtain ⟨hP1, hK1, hD1⟩ := hB
  rw [ht] at hP1
  obtain ⟨hP2, hD2⟩ := va_join (wr := wr) (w1 := wf u) hP hD isC isR hCs hRs hnR (fun i hi hj => by have := List.all_eq_true.mp hdis i hi; simp at this; exact this hj) hk1 hFc hP1 hD1
  exact kk r u hw H1 locs1 ls (hP2.sub isB (vq_fm _ _ _ (hBs u))) (hD2.sub isB hnB (hBs u)) hS1 h
theorem vv_callVNV (hC : CX p s m args meth c cc own Ts nL D cl tys A SP ret) {y : MethodName} {wy : List Cond} {rm : Room} {bytes : ByteArray} {maxL n index : Nat} {rt : Option FieldType} {host : String} {C : String} {T : u_T} {N ci b : Nat} {fs : List Value} {As st0 : List Value} {S : Type} {post : S → Prop} {wf : S → va_W} {wc wr : va_W} (hM : MetV l y wy rm D cl tys SP (.ref b :: As) wc post wf) (cw : (va_CN R s args own index y host bytes maxL rt wy rm 0 0 n ∧ (Cond.instanceMethod y).before args s = true ∧ (Cond.selects C y y).before args s = true)) (hdg : decode cc pc = .ok (.invokevirtual index, 3)) (rest : List Value) (isC isR isB : List Nat) (wg : S → va_W) (hc : cells ≤ R.cells ∧ slots ≤ R.slots) (hCs : isC.map (fun i => ws[i]?) = wc.map some) (hRs : isR.map (fun i => ws[i]?) = wr.map some) (hBs : ∀ u, isB.map (fun i => (wr ++ wf u)[i]?) = (wg u).map some) (hnC : va_nd isC = true) (hnR : va_nd isR = true) (hnB : va_nd isB = true) (hdis : isR.all (fun i => !isC.contains i) = true) (he : wc[0]? = some (b, .inr (ci, fs))) (hcl : cl[ci]? = some (C, T, N)) (hlen : As.length = n) (hst : st0 = As.reverse ++ .ref b :: rest) (hrm : (rest.map fun v => v.category).sum ≤ 8) (kk : ∀ (u : S), post u → VV p l e R s m args below meth c nL D cl A cells slots Q (wg u) (pc + 3) L rest) : VV p l e R s m args below meth c nL D cl A cells slots Q ws pc L st0 := by
  obtain ⟨hx, hb, hml, hown, hts, hK, hA, ⟨hNa, hNW⟩, hr, hlk⟩ := hC
  intro H locs ls hP hD hS h
  have hPc := hP.sub (ws' := wc) isC (vq_fm _ _ _ hCs)
  have hDc := hD.sub (ws' := wc) isC hnC hCs
  have hFc := va_free (wc := wc) hD hS hA isC hCs
  refine va_callv (va_runVN (As := As) (rest := rest) (Ts := Ts) ⟨hx, hb, hml, hown, hts⟩ (hM H.size) cw ⟨fun a U g mk q => by obtain ⟨q0, q1, qP, qK, qD, qa, qN⟩ := q; exact ⟨q0, q1, qP, va_K.moved (u := U) (U := U.calling g mk a) (Vm.Alike.refl U.vm) qK, qD, qa, qa.2.2.2 _ U (U.calling g mk a) _ rfl qN⟩, va_recv hK hPc (ci := ci) (q0 := 0) hcl he, fun U hU hW => ⟨rfl, by rw [hU], by rw [hU]; exact hPc, va_K.moved hW.alike hK, hDc.weaken (fun _ _ _ _ => trivial), hNa, by rw [hU]; exact hNa.2.2.1 _ s U _ hW (hNa.2.1 _ _ _ _ (hNa.1 _ _ _ _ hNW (fun a h1 h2 => hS.2.1 a h1 h2)) hFc)⟩⟩ rfl hlen h.1 hst (lv_room hrm) hdg hc) hS (fun q _ h => hFc q h) hFc (fun u t H1 locs1 ht hvm hw hB hz1 hk1 hS1 => ?_)
  obtain ⟨hP1, hK1, hD1⟩ := hB
  rw [ht] at hP1
  obtain ⟨hP2, hD2⟩ := va_join (wr := wr) (w1 := wf u) hP hD isC isR hCs hRs hnR (fun i hi hj => by have := List.all_eq_true.mp hdis i hi; simp at this; exact this hj) hk1 hFc hP1 hD1
  exact kk u hw H1 locs1 ls (hP2.sub isB (vq_fm _ _ _ (hBs u))) (hD2.sub isB hnB (hBs u)) hS1 h
theorem vv_callSI (hC : CX p s m args meth c cc own Ts nL D cl tys A SP ret) {y : MethodName} {wy : List Cond} {rm : Room} {bytes : ByteArray} {maxL n index : Nat} {rt : Option FieldType} {As st0 : List Value} {S : Type} {post : Int32 → S → Prop} {wf : S → va_W} {wc wr : va_W} (hM : MetI l y wy rm D cl tys SP As wc post wf) (cw : (CallB R s args own index y bytes maxL rt wy rm 0 0 n ∧ (Cond.static y).before args s = true)) (hdg : decode cc pc = .ok (.invokestatic index, 3)) (rest : List Value) (isC isR isB : List Nat) (wg : S → va_W) (hc : cells ≤ R.cells ∧ slots ≤ R.slots) (hCs : isC.map (fun i => ws[i]?) = wc.map some) (hRs : isR.map (fun i => ws[i]?) = wr.map some) (hBs : ∀ u, isB.map (fun i => (wr ++ wf u)[i]?) = (wg u).map some) (hnC : va_nd isC = true) (hnR : va_nd isR = true) (hnB : va_nd isB = true) (hdis : isR.all (fun i => !isC.contains i) = true) (hlen : As.length = n) (hst : st0 = As.reverse ++ rest) (hrm : (rest.map fun v => v.category).sum ≤ 8) (kk : ∀ (r : Int32) (u : S), post r u → VV p l e R s m args below meth c nL D cl A cells slots Q (wg u) (pc + 3) L (.int r :: rest)) : VV p l e R s m args below meth c nL D cl A cells slots Q ws pc L st0 := by
  obtain ⟨hx, hb, hml, hown, hts, hK, hA, ⟨hNa, hNW⟩, hr, hlk⟩ := hC
  intro H locs ls hP hD hS h
  have hPc := hP.sub (ws' := wc) isC (vq_fm _ _ _ hCs)
  have hDc := hD.sub (ws' := wc) isC hnC hCs
  have hFc := va_free (wc := wc) hD hS hA isC hCs
  refine va_calli (va_runS (As := As) (rest := rest) (Ts := Ts) ⟨hx, hb, hml, hown, hts⟩ (hM H.size) cw ⟨fun a U g mk q => by obtain ⟨q0, q1, qP, qK, qD, qa, qN⟩ := q; exact ⟨q0, q1, qP, va_K.moved (u := U) (U := U.calling g mk a) (Vm.Alike.refl U.vm) qK, qD, qa, qa.2.2.2 _ U (U.calling g mk a) _ rfl qN⟩, fun U hU hW => ⟨rfl, by rw [hU], by rw [hU]; exact hPc, va_K.moved hW.alike hK, hDc.weaken (fun _ _ _ _ => trivial), hNa, by rw [hU]; exact hNa.2.2.1 _ s U _ hW (hNa.2.1 _ _ _ _ (hNa.1 _ _ _ _ hNW (fun a h1 h2 => hS.2.1 a h1 h2)) hFc)⟩⟩ rfl hlen h.1 hst (lv_room hrm) hdg hc) hS (fun q _ h => hFc q h) hFc (fun r u t H1 locs1 ht hvm hw hB hz1 hk1 hS1 => ?_)
  obtain ⟨hP1, hK1, hD1⟩ := hB
  rw [ht] at hP1
  obtain ⟨hP2, hD2⟩ := va_join (wr := wr) (w1 := wf u) hP hD isC isR hCs hRs hnR (fun i hi hj => by have := List.all_eq_true.mp hdis i hi; simp at this; exact this hj) hk1 hFc hP1 hD1
  exact kk r u hw H1 locs1 ls (hP2.sub isB (vq_fm _ _ _ (hBs u))) (hD2.sub isB hnB (hBs u)) hS1 h
theorem vv_callSV (hC : CX p s m args meth c cc own Ts nL D cl tys A SP ret) {y : MethodName} {wy : List Cond} {rm : Room} {bytes : ByteArray} {maxL n index : Nat} {rt : Option FieldType} {As st0 : List Value} {S : Type} {post : S → Prop} {wf : S → va_W} {wc wr : va_W} (hM : MetV l y wy rm D cl tys SP As wc post wf) (cw : (CallB R s args own index y bytes maxL rt wy rm 0 0 n ∧ (Cond.static y).before args s = true)) (hdg : decode cc pc = .ok (.invokestatic index, 3)) (rest : List Value) (isC isR isB : List Nat) (wg : S → va_W) (hc : cells ≤ R.cells ∧ slots ≤ R.slots) (hCs : isC.map (fun i => ws[i]?) = wc.map some) (hRs : isR.map (fun i => ws[i]?) = wr.map some) (hBs : ∀ u, isB.map (fun i => (wr ++ wf u)[i]?) = (wg u).map some) (hnC : va_nd isC = true) (hnR : va_nd isR = true) (hnB : va_nd isB = true) (hdis : isR.all (fun i => !isC.contains i) = true) (hlen : As.length = n) (hst : st0 = As.reverse ++ rest) (hrm : (rest.map fun v => v.category).sum ≤ 8) (kk : ∀ (u : S), post u → VV p l e R s m args below meth c nL D cl A cells slots Q (wg u) (pc + 3) L rest) : VV p l e R s m args below meth c nL D cl A cells slots Q ws pc L st0 := by
  obtain ⟨hx, hb, hml, hown, hts, hK, hA, ⟨hNa, hNW⟩, hr, hlk⟩ := hC
  intro H locs ls hP hD hS h
  have hPc := hP.sub (ws' := wc) isC (vq_fm _ _ _ hCs)
  have hDc := hD.sub (ws' := wc) isC hnC hCs
  have hFc := va_free (wc := wc) hD hS hA isC hCs
  refine va_callv (va_runS (As := As) (rest := rest) (Ts := Ts) ⟨hx, hb, hml, hown, hts⟩ (hM H.size) cw ⟨fun a U g mk q => by obtain ⟨q0, q1, qP, qK, qD, qa, qN⟩ := q; exact ⟨q0, q1, qP, va_K.moved (u := U) (U := U.calling g mk a) (Vm.Alike.refl U.vm) qK, qD, qa, qa.2.2.2 _ U (U.calling g mk a) _ rfl qN⟩, fun U hU hW => ⟨rfl, by rw [hU], by rw [hU]; exact hPc, va_K.moved hW.alike hK, hDc.weaken (fun _ _ _ _ => trivial), hNa, by rw [hU]; exact hNa.2.2.1 _ s U _ hW (hNa.2.1 _ _ _ _ (hNa.1 _ _ _ _ hNW (fun a h1 h2 => hS.2.1 a h1 h2)) hFc)⟩⟩ rfl hlen h.1 hst (lv_room hrm) hdg hc) hS (fun q _ h => hFc q h) hFc (fun u t H1 locs1 ht hvm hw hB hz1 hk1 hS1 => ?_)
  obtain ⟨hP1, hK1, hD1⟩ := hB
  rw [ht] at hP1
  obtain ⟨hP2, hD2⟩ := va_join (wr := wr) (w1 := wf u) hP hD isC isR hCs hRs hnR (fun i hi hj => by have := List.all_eq_true.mp hdis i hi; simp at this; exact this hj) hk1 hFc hP1 hD1
  exact kk u hw H1 locs1 ls (hP2.sub isB (vq_fm _ _ _ (hBs u))) (hD2.sub isB hnB (hBs u)) hS1 h
theorem vv_callSNI (hC : CX p s m args meth c cc own Ts nL D cl tys A SP ret) {y : MethodName} {wy : List Cond} {rm : Room} {bytes : ByteArray} {maxL n index : Nat} {rt : Option FieldType} {host : String} {As st0 : List Value} {S : Type} {post : Int32 → S → Prop} {wf : S → va_W} {wc wr : va_W} (hM : MetI l y wy rm D cl tys SP As wc post wf) (cw : (va_CN R s args own index y host bytes maxL rt wy rm 0 0 n ∧ (Cond.static y).before args s = true ∧ True)) (hdg : decode cc pc = .ok (.invokestatic index, 3)) (rest : List Value) (isC isR isB : List Nat) (wg : S → va_W) (hc : cells ≤ R.cells ∧ slots ≤ R.slots) (hCs : isC.map (fun i => ws[i]?) = wc.map some) (hRs : isR.map (fun i => ws[i]?) = wr.map some) (hBs : ∀ u, isB.map (fun i => (wr ++ wf u)[i]?) = (wg u).map some) (hnC : va_nd isC = true) (hnR : va_nd isR = true) (hnB : va_nd isB = true) (hdis : isR.all (fun i => !isC.contains i) = true) (hlen : As.length = n) (hst : st0 = As.reverse ++ rest) (hrm : (rest.map fun v => v.category).sum ≤ 8) (kk : ∀ (r : Int32) (u : S), post r u → VV p l e R s m args below meth c nL D cl A cells slots Q (wg u) (pc + 3) L (.int r :: rest)) : VV p l e R s m args below meth c nL D cl A cells slots Q ws pc L st0 := by
  obtain ⟨hx, hb, hml, hown, hts, hK, hA, ⟨hNa, hNW⟩, hr, hlk⟩ := hC
  intro H locs ls hP hD hS h
  have hPc := hP.sub (ws' := wc) isC (vq_fm _ _ _ hCs)
  have hDc := hD.sub (ws' := wc) isC hnC hCs
  have hFc := va_free (wc := wc) hD hS hA isC hCs
  refine va_calli (va_runSN (As := As) (rest := rest) (Ts := Ts) ⟨hx, hb, hml, hown, hts⟩ (hM H.size) cw ⟨fun a U g mk q => by obtain ⟨q0, q1, qP, qK, qD, qa, qN⟩ := q; exact ⟨q0, q1, qP, va_K.moved (u := U) (U := U.calling g mk a) (Vm.Alike.refl U.vm) qK, qD, qa, qa.2.2.2 _ U (U.calling g mk a) _ rfl qN⟩, fun U hU hW => ⟨rfl, by rw [hU], by rw [hU]; exact hPc, va_K.moved hW.alike hK, hDc.weaken (fun _ _ _ _ => trivial), hNa, by rw [hU]; exact hNa.2.2.1 _ s U _ hW (hNa.2.1 _ _ _ _ (hNa.1 _ _ _ _ hNW (fun a h1 h2 => hS.2.1 a h1 h2)) hFc)⟩⟩ rfl hlen h.1 hst (lv_room hrm) hdg hc) hS (fun q _ h => hFc q h) hFc (fun r u t H1 locs1 ht hvm hw hB hz1 hk1 hS1 => ?_)
  obtain ⟨hP1, hK1, hD1⟩ := hB
  rw [ht] at hP1
  obtain ⟨hP2, hD2⟩ := va_join (wr := wr) (w1 := wf u) hP hD isC isR hCs hRs hnR (fun i hi hj => by have := List.all_eq_true.mp hdis i hi; simp at this; exact this hj) hk1 hFc hP1 hD1
  exact kk r u hw H1 locs1 ls (hP2.sub isB (vq_fm _ _ _ (hBs u))) (hD2.sub isB hnB (hBs u)) hS1 h
theorem vv_callSNV (hC : CX p s m args meth c cc own Ts nL D cl tys A SP ret) {y : MethodName} {wy : List Cond} {rm : Room} {bytes : ByteArray} {maxL n index : Nat} {rt : Option FieldType} {host : String} {As st0 : List Value} {S : Type} {post : S → Prop} {wf : S → va_W} {wc wr : va_W} (hM : MetV l y wy rm D cl tys SP As wc post wf) (cw : (va_CN R s args own index y host bytes maxL rt wy rm 0 0 n ∧ (Cond.static y).before args s = true ∧ True)) (hdg : decode cc pc = .ok (.invokestatic index, 3)) (rest : List Value) (isC isR isB : List Nat) (wg : S → va_W) (hc : cells ≤ R.cells ∧ slots ≤ R.slots) (hCs : isC.map (fun i => ws[i]?) = wc.map some) (hRs : isR.map (fun i => ws[i]?) = wr.map some) (hBs : ∀ u, isB.map (fun i => (wr ++ wf u)[i]?) = (wg u).map some) (hnC : va_nd isC = true) (hnR : va_nd isR = true) (hnB : va_nd isB = true) (hdis : isR.all (fun i => !isC.contains i) = true) (hlen : As.length = n) (hst : st0 = As.reverse ++ rest) (hrm : (rest.map fun v => v.category).sum ≤ 8) (kk : ∀ (u : S), post u → VV p l e R s m args below meth c nL D cl A cells slots Q (wg u) (pc + 3) L rest) : VV p l e R s m args below meth c nL D cl A cells slots Q ws pc L st0 := by
  obtain ⟨hx, hb, hml, hown, hts, hK, hA, ⟨hNa, hNW⟩, hr, hlk⟩ := hC
  intro H locs ls hP hD hS h
  have hPc := hP.sub (ws' := wc) isC (vq_fm _ _ _ hCs)
  have hDc := hD.sub (ws' := wc) isC hnC hCs
  have hFc := va_free (wc := wc) hD hS hA isC hCs
  refine va_callv (va_runSN (As := As) (rest := rest) (Ts := Ts) ⟨hx, hb, hml, hown, hts⟩ (hM H.size) cw ⟨fun a U g mk q => by obtain ⟨q0, q1, qP, qK, qD, qa, qN⟩ := q; exact ⟨q0, q1, qP, va_K.moved (u := U) (U := U.calling g mk a) (Vm.Alike.refl U.vm) qK, qD, qa, qa.2.2.2 _ U (U.calling g mk a) _ rfl qN⟩, fun U hU hW => ⟨rfl, by rw [hU], by rw [hU]; exact hPc, va_K.moved hW.alike hK, hDc.weaken (fun _ _ _ _ => trivial), hNa, by rw [hU]; exact hNa.2.2.1 _ s U _ hW (hNa.2.1 _ _ _ _ (hNa.1 _ _ _ _ hNW (fun a h1 h2 => hS.2.1 a h1 h2)) hFc)⟩⟩ rfl hlen h.1 hst (lv_room hrm) hdg hc) hS (fun q _ h => hFc q h) hFc (fun u t H1 locs1 ht hvm hw hB hz1 hk1 hS1 => ?_)
  obtain ⟨hP1, hK1, hD1⟩ := hB
  rw [ht] at hP1
  obtain ⟨hP2, hD2⟩ := va_join (wr := wr) (w1 := wf u) hP hD isC isR hCs hRs hnR (fun i hi hj => by have := List.all_eq_true.mp hdis i hi; simp at this; exact this hj) hk1 hFc hP1 hD1
  exact kk u hw H1 locs1 ls (hP2.sub isB (vq_fm _ _ _ (hBs u))) (hD2.sub isB hnB (hBs u)) hS1 h
end VLAYER
end
section
def R_T : String := "CircuitFiles$Tape"
def T_T : u_T := fun k => match k with
  | 0 => ("CircuitFiles$Tape", "ready", "[I", true)
  | 1 => ("CircuitFiles$Tape", "bytes", "[I", true)
  | _ => ("CircuitFiles$Tape", "length", "I", false)
def ty_T : Nat → FieldType := fun k => match k with
  | 0 => .array .int
  | 1 => .array .int
  | _ => .int
def R_U : String := "CircuitFiles$Cursor"
def T_U : u_T := fun k => match k with
  | 0 => ("CircuitFiles$Cursor", "tape", "LCircuitFiles$Tape;", true)
  | 1 => ("CircuitFiles$Cursor", "at", "I", false)
  | 2 => ("CircuitFiles$Cursor", "start", "I", false)
  | 3 => ("CircuitFiles$Cursor", "number", "I", false)
  | 4 => ("CircuitFiles$Cursor", "faultKind", "I", false)
  | _ => ("CircuitFiles$Cursor", "faultPlace", "I", false)
def ty_U : Nat → FieldType := fun k => match k with
  | 0 => .object "CircuitFiles$Tape"
  | 1 => .int
  | 2 => .int
  | 3 => .int
  | 4 => .int
  | _ => .int
def R_R : String := "CircuitFiles$Reader"
def T_R : u_T := fun k => match k with
  | 0 => ("CircuitFiles$Reader", "cursor", "LCircuitFiles$Cursor;", true)
  | 1 => ("CircuitFiles$Reader", "sorter", "LCircuitFiles$AndSorter;", true)
  | 2 => ("CircuitFiles$Reader", "useLiteral", "[I", true)
  | 3 => ("CircuitFiles$Reader", "usePlace", "[I", true)
  | 4 => ("CircuitFiles$Reader", "uses", "I", false)
  | _ => ("CircuitFiles$Reader", "binary", "Z", false)
def ty_R : Nat → FieldType := fun k => match k with
  | 0 => .object "CircuitFiles$Cursor"
  | 1 => .object "CircuitFiles$AndSorter"
  | 2 => .array .int
  | 3 => .array .int
  | 4 => .int
  | _ => .boolean
def R_S : String := "CircuitFiles$AndSorter"
def T_S : u_T := fun k => match k with
  | 0 => ("CircuitFiles$AndSorter", "come", "[Z", true)
  | 1 => ("CircuitFiles$AndSorter", "reached", "[Z", true)
  | 2 => ("CircuitFiles$AndSorter", "andOf", "[I", true)
  | 3 => ("CircuitFiles$AndSorter", "stack", "[I", true)
  | _ => ("CircuitFiles$AndSorter", "height", "I", false)
def ty_S : Nat → FieldType := fun k => match k with
  | 0 => .array .boolean
  | 1 => .array .boolean
  | 2 => .array .int
  | 3 => .array .int
  | _ => .int
def R_X : String := "CircuitFiles$Form"
def T_X : u_T := fun k => match k with
  | 0 => ("CircuitFiles$Form", "bytes", "[I", true)
  | 1 => ("CircuitFiles$Form", "newVariable", "[I", true)
  | 2 => ("CircuitFiles$Form", "length", "I", false)
  | _ => ("CircuitFiles$Form", "written", "Z", false)
def ty_X : Nat → FieldType := fun k => match k with
  | 0 => .array .int
  | 1 => .array .int
  | 2 => .int
  | _ => .boolean
def R_C : String := "CircuitFiles$Circuit"
def T_C : u_T := fun k => match k with
  | 0 => ("CircuitFiles$Circuit", "top", "I", false)
  | 1 => ("CircuitFiles$Circuit", "inputs", "I", false)
  | 2 => ("CircuitFiles$Circuit", "latches", "I", false)
  | 3 => ("CircuitFiles$Circuit", "outputs", "I", false)
  | 4 => ("CircuitFiles$Circuit", "ands", "I", false)
  | 5 => ("CircuitFiles$Circuit", "latchBits", "I", false)
  | 6 => ("CircuitFiles$Circuit", "inputVariable", "[I", true)
  | 7 => ("CircuitFiles$Circuit", "latchVariable", "[I", true)
  | 8 => ("CircuitFiles$Circuit", "latchNext", "[I", true)
  | 9 => ("CircuitFiles$Circuit", "outputLiteral", "[I", true)
  | 10 => ("CircuitFiles$Circuit", "andVariable", "[I", true)
  | 11 => ("CircuitFiles$Circuit", "andFirst", "[I", true)
  | 12 => ("CircuitFiles$Circuit", "andSecond", "[I", true)
  | 13 => ("CircuitFiles$Circuit", "order", "[I", true)
  | 14 => ("CircuitFiles$Circuit", "defined", "[Z", true)
  | 15 => ("CircuitFiles$Circuit", "nameLength", "[I", true)
  | 16 => ("CircuitFiles$Circuit", "nameBytes", "[I", true)
  | _ => ("CircuitFiles$Circuit", "bit", "[I", true)
def ty_C : Nat → FieldType := fun k => match k with
  | 0 => .int
  | 1 => .int
  | 2 => .int
  | 3 => .int
  | 4 => .int
  | 5 => .int
  | 6 => .array .int
  | 7 => .array .int
  | 8 => .array .int
  | 9 => .array .int
  | 10 => .array .int
  | 11 => .array .int
  | 12 => .array .int
  | 13 => .array .int
  | 14 => .array .boolean
  | 15 => .array .int
  | 16 => .array .int
  | _ => .array .int
def R_F : String := "CircuitFiles"
def T_F : u_T := fun k => match k with
  | 0 => ("CircuitFiles", "tape", "LCircuitFiles$Tape;", true)
  | 1 => ("CircuitFiles", "reader", "LCircuitFiles$Reader;", true)
  | 2 => ("CircuitFiles", "textForm", "LCircuitFiles$Form;", true)
  | 3 => ("CircuitFiles", "binaryForm", "LCircuitFiles$Form;", true)
  | 4 => ("CircuitFiles", "circuit", "LCircuitFiles$Circuit;", false)
  | _ => ("CircuitFiles", "draft", "LCircuitFiles$Circuit;", false)
def ty_F : Nat → FieldType := fun k => match k with
  | 0 => .object "CircuitFiles$Tape"
  | 1 => .object "CircuitFiles$Reader"
  | 2 => .object "CircuitFiles$Form"
  | 3 => .object "CircuitFiles$Form"
  | 4 => .object "CircuitFiles$Circuit"
  | _ => .object "CircuitFiles$Circuit"
def R_M : String := "CircuitFilesModel"
def T_M : u_T := fun k => match k with
  | 0 => ("CircuitFilesModel", "thrown", "I", false)
  | 1 => ("CircuitFilesModel", "tape", "[B", true)
  | 2 => ("CircuitFilesModel", "ready", "[B", true)
  | 3 => ("CircuitFilesModel", "taped", "I", false)
  | 4 => ("CircuitFilesModel", "fault", "I", false)
  | 5 => ("CircuitFilesModel", "faultPlace", "I", false)
  | 6 => ("CircuitFilesModel", "at", "I", false)
  | 7 => ("CircuitFilesModel", "bad", "I", false)
  | 8 => ("CircuitFilesModel", "badPlace", "I", false)
  | 9 => ("CircuitFilesModel", "number", "I", false)
  | 10 => ("CircuitFilesModel", "head", "[I", true)
  | 11 => ("CircuitFilesModel", "inputs", "[I", true)
  | 12 => ("CircuitFilesModel", "latches", "[I", true)
  | 13 => ("CircuitFilesModel", "nexts", "[I", true)
  | 14 => ("CircuitFilesModel", "outputs", "[I", true)
  | 15 => ("CircuitFilesModel", "ands", "[I", true)
  | 16 => ("CircuitFilesModel", "left", "[I", true)
  | 17 => ("CircuitFilesModel", "right", "[I", true)
  | 18 => ("CircuitFilesModel", "kinds", "[I", true)
  | 19 => ("CircuitFilesModel", "places", "[I", true)
  | 20 => ("CircuitFilesModel", "nextAt", "[I", true)
  | 21 => ("CircuitFilesModel", "outputAt", "[I", true)
  | 22 => ("CircuitFilesModel", "leftAt", "[I", true)
  | 23 => ("CircuitFilesModel", "rightAt", "[I", true)
  | 24 => ("CircuitFilesModel", "names", "[B", true)
  | 25 => ("CircuitFilesModel", "lengths", "[I", true)
  | 26 => ("CircuitFilesModel", "order", "[I", true)
  | 27 => ("CircuitFilesModel", "anew", "[I", true)
  | 28 => ("CircuitFilesModel", "come", "[Z", true)
  | 29 => ("CircuitFilesModel", "ordered", "I", false)
  | 30 => ("CircuitFilesModel", "state", "I", false)
  | 31 => ("CircuitFilesModel", "values", "[I", true)
  | 32 => ("CircuitFilesModel", "made", "[B", true)
  | _ => ("CircuitFilesModel", "size", "I", false)
def ty_M : Nat → FieldType := fun k => match k with
  | 0 => .int
  | 1 => .array .byte
  | 2 => .array .byte
  | 3 => .int
  | 4 => .int
  | 5 => .int
  | 6 => .int
  | 7 => .int
  | 8 => .int
  | 9 => .int
  | 10 => .array .int
  | 11 => .array .int
  | 12 => .array .int
  | 13 => .array .int
  | 14 => .array .int
  | 15 => .array .int
  | 16 => .array .int
  | 17 => .array .int
  | 18 => .array .int
  | 19 => .array .int
  | 20 => .array .int
  | 21 => .array .int
  | 22 => .array .int
  | 23 => .array .int
  | 24 => .array .byte
  | 25 => .array .int
  | 26 => .array .int
  | 27 => .array .int
  | 28 => .array .boolean
  | 29 => .int
  | 30 => .int
  | 31 => .array .int
  | 32 => .array .byte
  | _ => .int
def R_L : String := "CircuitFilesLaw"
def R_A : String := "java/lang/Math"
abbrev vwCl : List vw_C := [(R_T, T_T, 3), (R_U, T_U, 6), (R_R, T_R, 6), (R_S, T_S, 5), (R_X, T_X, 4), (R_C, T_C, 18), (R_F, T_F, 6), (R_M, T_M, 34)]
abbrev b_F_init : ByteArray := prog_1_method_1_code
def y_F_init : MethodName := ⟨R_F, "<init>", "()V"⟩
abbrev b_T_init : ByteArray := prog_7_method_1_code
def y_T_init : MethodName := ⟨R_T, "<init>", "()V"⟩
abbrev b_R_init : ByteArray := prog_6_method_1_code
def y_R_init : MethodName := ⟨R_R, "<init>", "(LCircuitFiles$Tape;)V"⟩
abbrev b_S_init : ByteArray := prog_2_method_1_code
def y_S_init : MethodName := ⟨R_S, "<init>", "()V"⟩
abbrev b_U_init : ByteArray := prog_4_method_1_code
def y_U_init : MethodName := ⟨R_U, "<init>", "(LCircuitFiles$Tape;)V"⟩
abbrev b_X_init : ByteArray := prog_5_method_1_code
def y_X_init : MethodName := ⟨R_X, "<init>", "()V"⟩
abbrev b_C_init : ByteArray := prog_3_method_1_code
def y_C_init : MethodName := ⟨R_C, "<init>", "()V"⟩
abbrev b_F_feed : ByteArray := prog_1_method_2_code
def y_F_feed : MethodName := ⟨R_F, "feed", "(IIIII)V"⟩
abbrev b_T_makeReady : ByteArray := prog_7_method_2_code
def y_T_makeReady : MethodName := ⟨R_T, "makeReady", "(II)V"⟩
abbrev b_F_end : ByteArray := prog_1_method_3_code
def y_F_end : MethodName := ⟨R_F, "end", "(I)I"⟩
abbrev b_T_take : ByteArray := prog_7_method_3_code
def y_T_take : MethodName := ⟨R_T, "take", "(I)I"⟩
abbrev b_F_fault : ByteArray := prog_1_method_5_code
def y_F_fault : MethodName := ⟨R_F, "fault", "(I)I"⟩
abbrev b_R_faultKind : ByteArray := prog_6_method_2_code
def y_R_faultKind : MethodName := ⟨R_R, "faultKind", "()I"⟩
abbrev b_R_faultPlace : ByteArray := prog_6_method_3_code
def y_R_faultPlace : MethodName := ⟨R_R, "faultPlace", "()I"⟩
abbrev b_F_many : ByteArray := prog_1_method_6_code
def y_F_many : MethodName := ⟨R_F, "many", "(I)I"⟩
abbrev b_F_symbol : ByteArray := prog_1_method_7_code
def y_F_symbol : MethodName := ⟨R_F, "symbol", "(III)I"⟩
abbrev b_C_countOf : ByteArray := prog_3_method_5_code
def y_C_countOf : MethodName := ⟨R_C, "countOf", "(I)I"⟩
abbrev b_F_slotOf : ByteArray := prog_1_method_13_code
def y_F_slotOf : MethodName := ⟨R_F, "slotOf", "(II)I"⟩
abbrev b_F_form : ByteArray := prog_1_method_8_code
def y_F_form : MethodName := ⟨R_F, "form", "(ZI)I"⟩
abbrev b_X_writeBinary : ByteArray := prog_5_method_5_code
def y_X_writeBinary : MethodName := ⟨R_X, "writeBinary", "(LCircuitFiles$Circuit;)V"⟩
abbrev b_X_numberAnew : ByteArray := prog_5_method_6_code
def y_X_numberAnew : MethodName := ⟨R_X, "numberAnew", "(LCircuitFiles$Circuit;)V"⟩
abbrev b_X_putHeader : ByteArray := prog_5_method_8_code
def y_X_putHeader : MethodName := ⟨R_X, "putHeader", "(LCircuitFiles$Circuit;II)V"⟩
abbrev b_X_put : ByteArray := prog_5_method_14_code
def y_X_put : MethodName := ⟨R_X, "put", "(I)V"⟩
abbrev b_X_putNumber : ByteArray := prog_5_method_12_code
def y_X_putNumber : MethodName := ⟨R_X, "putNumber", "(II)V"⟩
abbrev b_X_newLiteral : ByteArray := prog_5_method_7_code
def y_X_newLiteral : MethodName := ⟨R_X, "newLiteral", "(I)I"⟩
abbrev b_X_putBinaryAnd : ByteArray := prog_5_method_9_code
def y_X_putBinaryAnd : MethodName := ⟨R_X, "putBinaryAnd", "(LCircuitFiles$Circuit;I)V"⟩
abbrev b_A_max : ByteArray := prog_12_method_65_code
def y_A_max : MethodName := ⟨R_A, "max", "(II)I"⟩
abbrev b_X_putDelta : ByteArray := prog_5_method_13_code
def y_X_putDelta : MethodName := ⟨R_X, "putDelta", "(I)V"⟩
abbrev b_A_min : ByteArray := prog_12_method_69_code
def y_A_min : MethodName := ⟨R_A, "min", "(II)I"⟩
abbrev b_X_putSymbols : ByteArray := prog_5_method_10_code
def y_X_putSymbols : MethodName := ⟨R_X, "putSymbols", "(LCircuitFiles$Circuit;)V"⟩
abbrev b_X_putName : ByteArray := prog_5_method_11_code
def y_X_putName : MethodName := ⟨R_X, "putName", "(LCircuitFiles$Circuit;I)V"⟩
abbrev b_X_byteOf : ByteArray := prog_5_method_3_code
def y_X_byteOf : MethodName := ⟨R_X, "byteOf", "(I)I"⟩
abbrev b_X_writeText : ByteArray := prog_5_method_4_code
def y_X_writeText : MethodName := ⟨R_X, "writeText", "(LCircuitFiles$Circuit;)V"⟩
abbrev b_F_reset : ByteArray := prog_1_method_9_code
def y_F_reset : MethodName := ⟨R_F, "reset", "()V"⟩
abbrev b_F_state : ByteArray := prog_1_method_10_code
def y_F_state : MethodName := ⟨R_F, "state", "()I"⟩
abbrev b_F_value : ByteArray := prog_1_method_11_code
def y_F_value : MethodName := ⟨R_F, "value", "(II)I"⟩
abbrev b_C_highestLiteral : ByteArray := prog_3_method_4_code
def y_C_highestLiteral : MethodName := ⟨R_C, "highestLiteral", "()I"⟩
abbrev b_C_isKnown : ByteArray := prog_3_method_6_code
def y_C_isKnown : MethodName := ⟨R_C, "isKnown", "(I)Z"⟩
abbrev b_C_settle : ByteArray := prog_3_method_7_code
def y_C_settle : MethodName := ⟨R_C, "settle", "(I)V"⟩
abbrev b_C_bitOf : ByteArray := prog_3_method_8_code
def y_C_bitOf : MethodName := ⟨R_C, "bitOf", "(I)I"⟩
abbrev b_F_step : ByteArray := prog_1_method_12_code
def y_F_step : MethodName := ⟨R_F, "step", "(I)I"⟩
abbrev b_C_bitsOf : ByteArray := prog_3_method_9_code
def y_C_bitsOf : MethodName := ⟨R_C, "bitsOf", "([II)I"⟩
abbrev b_L_load : ByteArray := method_3_code
def y_L_load : MethodName := ⟨R_L, "load", "(LCircuitFiles;[J)I"⟩
abbrev b_F_load : ByteArray := prog_1_method_4_code
def y_F_load : MethodName := ⟨R_F, "load", "()I"⟩
abbrev b_R_readFile : ByteArray := prog_6_method_4_code
def y_R_readFile : MethodName := ⟨R_R, "readFile", "(LCircuitFiles$Circuit;)Z"⟩
abbrev b_U_restart : ByteArray := prog_4_method_2_code
def y_U_restart : MethodName := ⟨R_U, "restart", "()V"⟩
abbrev b_C_forget : ByteArray := prog_3_method_2_code
def y_C_forget : MethodName := ⟨R_C, "forget", "()V"⟩
abbrev b_R_readHeader : ByteArray := prog_6_method_5_code
def y_R_readHeader : MethodName := ⟨R_R, "readHeader", "(LCircuitFiles$Circuit;)Z"⟩
abbrev b_U_expect : ByteArray := prog_4_method_5_code
def y_U_expect : MethodName := ⟨R_U, "expect", "(I)Z"⟩
abbrev b_U_peek : ByteArray := prog_4_method_4_code
def y_U_peek : MethodName := ⟨R_U, "peek", "()I"⟩
abbrev b_U_fail : ByteArray := prog_4_method_3_code
def y_U_fail : MethodName := ⟨R_U, "fail", "(II)Z"⟩
abbrev b_R_readCount : ByteArray := prog_6_method_6_code
def y_R_readCount : MethodName := ⟨R_R, "readCount", "()Z"⟩
abbrev b_U_readNumber : ByteArray := prog_4_method_6_code
def y_U_readNumber : MethodName := ⟨R_U, "readNumber", "()Z"⟩
abbrev b_C_isWithinBounds : ByteArray := prog_3_method_3_code
def y_C_isWithinBounds : MethodName := ⟨R_C, "isWithinBounds", "(Z)Z"⟩
abbrev b_R_readInputs : ByteArray := prog_6_method_7_code
def y_R_readInputs : MethodName := ⟨R_R, "readInputs", "(LCircuitFiles$Circuit;)Z"⟩
abbrev b_R_readDefinition : ByteArray := prog_6_method_14_code
def y_R_readDefinition : MethodName := ⟨R_R, "readDefinition", "(LCircuitFiles$Circuit;)Z"⟩
abbrev b_R_readLiteral : ByteArray := prog_6_method_13_code
def y_R_readLiteral : MethodName := ⟨R_R, "readLiteral", "(LCircuitFiles$Circuit;)Z"⟩
abbrev b_R_readLatches : ByteArray := prog_6_method_8_code
def y_R_readLatches : MethodName := ⟨R_R, "readLatches", "(LCircuitFiles$Circuit;)Z"⟩
abbrev b_R_readUse : ByteArray := prog_6_method_15_code
def y_R_readUse : MethodName := ⟨R_R, "readUse", "(LCircuitFiles$Circuit;)Z"⟩
abbrev b_R_readOutputs : ByteArray := prog_6_method_9_code
def y_R_readOutputs : MethodName := ⟨R_R, "readOutputs", "(LCircuitFiles$Circuit;)Z"⟩
abbrev b_R_readBinaryAnds : ByteArray := prog_6_method_11_code
def y_R_readBinaryAnds : MethodName := ⟨R_R, "readBinaryAnds", "(LCircuitFiles$Circuit;)Z"⟩
abbrev b_R_readDelta : ByteArray := prog_6_method_12_code
def y_R_readDelta : MethodName := ⟨R_R, "readDelta", "(II)Z"⟩
abbrev b_U_readSevens : ByteArray := prog_4_method_7_code
def y_U_readSevens : MethodName := ⟨R_U, "readSevens", "()Z"⟩
abbrev b_R_readTextAnds : ByteArray := prog_6_method_10_code
def y_R_readTextAnds : MethodName := ⟨R_R, "readTextAnds", "(LCircuitFiles$Circuit;)Z"⟩
abbrev b_R_readSymbols : ByteArray := prog_6_method_16_code
def y_R_readSymbols : MethodName := ⟨R_R, "readSymbols", "(LCircuitFiles$Circuit;)Z"⟩
abbrev b_R_kindOf : ByteArray := prog_6_method_17_code
def y_R_kindOf : MethodName := ⟨R_R, "kindOf", "(I)I"⟩
abbrev b_R_readSymbol : ByteArray := prog_6_method_18_code
def y_R_readSymbol : MethodName := ⟨R_R, "readSymbol", "(LCircuitFiles$Circuit;I)Z"⟩
abbrev b_R_readName : ByteArray := prog_6_method_19_code
def y_R_readName : MethodName := ⟨R_R, "readName", "(LCircuitFiles$Circuit;I)Z"⟩
abbrev b_R_checkUses : ByteArray := prog_6_method_20_code
def y_R_checkUses : MethodName := ⟨R_R, "checkUses", "(LCircuitFiles$Circuit;)Z"⟩
abbrev b_R_checkLoops : ByteArray := prog_6_method_21_code
def y_R_checkLoops : MethodName := ⟨R_R, "checkLoops", "(LCircuitFiles$Circuit;)Z"⟩
abbrev b_S_putInOrder : ByteArray := prog_2_method_2_code
def y_S_putInOrder : MethodName := ⟨R_S, "putInOrder", "(LCircuitFiles$Circuit;)Z"⟩
abbrev b_S_awaitAnds : ByteArray := prog_2_method_3_code
def y_S_awaitAnds : MethodName := ⟨R_S, "awaitAnds", "(LCircuitFiles$Circuit;)V"⟩
abbrev b_S_firstReady : ByteArray := prog_2_method_4_code
def y_S_firstReady : MethodName := ⟨R_S, "firstReady", "(LCircuitFiles$Circuit;I)I"⟩
abbrev b_S_lowestOnLoop : ByteArray := prog_2_method_5_code
def y_S_lowestOnLoop : MethodName := ⟨R_S, "lowestOnLoop", "(LCircuitFiles$Circuit;)I"⟩
abbrev b_S_reachesItself : ByteArray := prog_2_method_6_code
def y_S_reachesItself : MethodName := ⟨R_S, "reachesItself", "(LCircuitFiles$Circuit;I)Z"⟩
abbrev b_S_reach : ByteArray := prog_2_method_7_code
def y_S_reach : MethodName := ⟨R_S, "reach", "(I)V"⟩
abbrev b_T_makeEmpty : ByteArray := prog_7_method_4_code
def y_T_makeEmpty : MethodName := ⟨R_T, "makeEmpty", "()V"⟩
abbrev b_X_forget : ByteArray := prog_5_method_2_code
def y_X_forget : MethodName := ⟨R_X, "forget", "()V"⟩
abbrev b_M_init : ByteArray := prog_9_method_1_code
def y_M_init : MethodName := ⟨R_M, "<init>", "()V"⟩
abbrev b_M_thrown : ByteArray := prog_9_method_2_code
def y_M_thrown : MethodName := ⟨R_M, "thrown", "()I"⟩
abbrev b_M_feed : ByteArray := prog_9_method_3_code
def y_M_feed : MethodName := ⟨R_M, "feed", "(IIIII)V"⟩
abbrev b_M_end : ByteArray := prog_9_method_4_code
def y_M_end : MethodName := ⟨R_M, "end", "(I)I"⟩
abbrev b_M_load : ByteArray := prog_9_method_27_code
def y_M_load : MethodName := ⟨R_M, "load", "()I"⟩
abbrev b_M_takeHead : ByteArray := prog_9_method_13_code
def y_M_takeHead : MethodName := ⟨R_M, "takeHead", "()Z"⟩
abbrev b_M_take : ByteArray := prog_9_method_7_code
def y_M_take : MethodName := ⟨R_M, "take", "(I)V"⟩
abbrev b_M_here : ByteArray := prog_9_method_5_code
def y_M_here : MethodName := ⟨R_M, "here", "()I"⟩
abbrev b_M_wrong : ByteArray := prog_9_method_6_code
def y_M_wrong : MethodName := ⟨R_M, "wrong", "(II)V"⟩
abbrev b_M_takeNumber : ByteArray := prog_9_method_9_code
def y_M_takeNumber : MethodName := ⟨R_M, "takeNumber", "()V"⟩
abbrev b_M_isDigit : ByteArray := prog_9_method_8_code
def y_M_isDigit : MethodName := ⟨R_M, "isDigit", "()Z"⟩
abbrev b_M_takeBinary : ByteArray := prog_9_method_18_code
def y_M_takeBinary : MethodName := ⟨R_M, "takeBinary", "()V"⟩
abbrev b_M_define : ByteArray := prog_9_method_12_code
def y_M_define : MethodName := ⟨R_M, "define", "(III)V"⟩
abbrev b_M_takeNext : ByteArray := prog_9_method_15_code
def y_M_takeNext : MethodName := ⟨R_M, "takeNext", "(I)V"⟩
abbrev b_M_literal : ByteArray := prog_9_method_10_code
def y_M_literal : MethodName := ⟨R_M, "literal", "()I"⟩
abbrev b_M_takeOutputs : ByteArray := prog_9_method_16_code
def y_M_takeOutputs : MethodName := ⟨R_M, "takeOutputs", "()V"⟩
abbrev b_M_delta : ByteArray := prog_9_method_17_code
def y_M_delta : MethodName := ⟨R_M, "delta", "(II)I"⟩
abbrev b_M_takeText : ByteArray := prog_9_method_14_code
def y_M_takeText : MethodName := ⟨R_M, "takeText", "()V"⟩
abbrev b_M_defines : ByteArray := prog_9_method_11_code
def y_M_defines : MethodName := ⟨R_M, "defines", "(II)I"⟩
abbrev b_M_takeSymbols : ByteArray := prog_9_method_19_code
def y_M_takeSymbols : MethodName := ⟨R_M, "takeSymbols", "()V"⟩
abbrev b_M_findNowhere : ByteArray := prog_9_method_21_code
def y_M_findNowhere : MethodName := ⟨R_M, "findNowhere", "()V"⟩
abbrev b_M_isNowhere : ByteArray := prog_9_method_20_code
def y_M_isNowhere : MethodName := ⟨R_M, "isNowhere", "(I)Z"⟩
abbrev b_M_findRing : ByteArray := prog_9_method_25_code
def y_M_findRing : MethodName := ⟨R_M, "findRing", "()V"⟩
abbrev b_M_sort : ByteArray := prog_9_method_23_code
def y_M_sort : MethodName := ⟨R_M, "sort", "()V"⟩
abbrev b_M_hasCome : ByteArray := prog_9_method_22_code
def y_M_hasCome : MethodName := ⟨R_M, "hasCome", "(I)Z"⟩
abbrev b_M_hangs : ByteArray := prog_9_method_24_code
def y_M_hangs : MethodName := ⟨R_M, "hangs", "(I)Z"⟩
abbrev b_M_keep : ByteArray := prog_9_method_26_code
def y_M_keep : MethodName := ⟨R_M, "keep", "()V"⟩
abbrev b_M_fault : ByteArray := prog_9_method_28_code
def y_M_fault : MethodName := ⟨R_M, "fault", "(I)I"⟩
abbrev b_M_many : ByteArray := prog_9_method_29_code
def y_M_many : MethodName := ⟨R_M, "many", "(I)I"⟩
abbrev b_M_symbol : ByteArray := prog_9_method_31_code
def y_M_symbol : MethodName := ⟨R_M, "symbol", "(III)I"⟩
abbrev b_M_row : ByteArray := prog_9_method_30_code
def y_M_row : MethodName := ⟨R_M, "row", "(II)I"⟩
abbrev b_M_form : ByteArray := prog_9_method_41_code
def y_M_form : MethodName := ⟨R_M, "form", "(ZI)I"⟩
abbrev b_M_sortAgain : ByteArray := prog_9_method_40_code
def y_M_sortAgain : MethodName := ⟨R_M, "sortAgain", "()V"⟩
abbrev b_M_layHead : ByteArray := prog_9_method_36_code
def y_M_layHead : MethodName := ⟨R_M, "layHead", "(Z)V"⟩
abbrev b_M_lay : ByteArray := prog_9_method_32_code
def y_M_lay : MethodName := ⟨R_M, "lay", "(I)V"⟩
abbrev b_M_layNumber : ByteArray := prog_9_method_33_code
def y_M_layNumber : MethodName := ⟨R_M, "layNumber", "(II)V"⟩
abbrev b_M_layBinary : ByteArray := prog_9_method_38_code
def y_M_layBinary : MethodName := ⟨R_M, "layBinary", "()V"⟩
abbrev b_M_renamed : ByteArray := prog_9_method_35_code
def y_M_renamed : MethodName := ⟨R_M, "renamed", "(I)I"⟩
abbrev b_M_layDelta : ByteArray := prog_9_method_34_code
def y_M_layDelta : MethodName := ⟨R_M, "layDelta", "(I)V"⟩
abbrev b_M_layText : ByteArray := prog_9_method_37_code
def y_M_layText : MethodName := ⟨R_M, "layText", "()V"⟩
abbrev b_M_laySymbols : ByteArray := prog_9_method_39_code
def y_M_laySymbols : MethodName := ⟨R_M, "laySymbols", "()V"⟩
abbrev b_M_reset : ByteArray := prog_9_method_42_code
def y_M_reset : MethodName := ⟨R_M, "reset", "()V"⟩
abbrev b_M_state : ByteArray := prog_9_method_43_code
def y_M_state : MethodName := ⟨R_M, "state", "()I"⟩
abbrev b_M_value : ByteArray := prog_9_method_46_code
def y_M_value : MethodName := ⟨R_M, "value", "(II)I"⟩
abbrev b_M_reckon : ByteArray := prog_9_method_45_code
def y_M_reckon : MethodName := ⟨R_M, "reckon", "(I)V"⟩
abbrev b_M_of : ByteArray := prog_9_method_44_code
def y_M_of : MethodName := ⟨R_M, "of", "(I)I"⟩
abbrev b_M_step : ByteArray := prog_9_method_47_code
def y_M_step : MethodName := ⟨R_M, "step", "(I)I"⟩
theorem nmok_T : ∀ a, a < 3 → ∀ b, b < 3 → a ≠ b → (T_T a).2.1 ≠ (T_T b).2.1 := by decide +kernel
theorem tyok_T : ∀ k, k < 3 → parseFieldDescriptor (T_T k).2.2.1 = some (ty_T k) := by decide +kernel
theorem hin_T : ∀ w ∈ u_ws R_T T_T 3, w ∈ TB := fun w h => tb_sub [100, 102, 104] (by decide +kernel) (by decide +kernel) w h
theorem nmok_U : ∀ a, a < 6 → ∀ b, b < 6 → a ≠ b → (T_U a).2.1 ≠ (T_U b).2.1 := by decide +kernel
theorem tyok_U : ∀ k, k < 6 → parseFieldDescriptor (T_U k).2.2.1 = some (ty_U k) := by decide +kernel
theorem hin_U : ∀ w ∈ u_ws R_U T_U 6, w ∈ TB := fun w h => tb_sub [154, 156, 158, 160, 162, 164] (by decide +kernel) (by decide +kernel) w h
theorem nmok_R : ∀ a, a < 6 → ∀ b, b < 6 → a ≠ b → (T_R a).2.1 ≠ (T_R b).2.1 := by decide +kernel
theorem tyok_R : ∀ k, k < 6 → parseFieldDescriptor (T_R k).2.2.1 = some (ty_R k) := by decide +kernel
theorem hin_R : ∀ w ∈ u_ws R_R T_R 6, w ∈ TB := fun w h => tb_sub [173, 175, 177, 179, 181, 183] (by decide +kernel) (by decide +kernel) w h
theorem nmok_S : ∀ a, a < 5 → ∀ b, b < 5 → a ≠ b → (T_S a).2.1 ≠ (T_S b).2.1 := by decide +kernel
theorem tyok_S : ∀ k, k < 5 → parseFieldDescriptor (T_S k).2.2.1 = some (ty_S k) := by decide +kernel
theorem hin_S : ∀ w ∈ u_ws R_S T_S 5, w ∈ TB := fun w h => tb_sub [125, 127, 129, 131, 133] (by decide +kernel) (by decide +kernel) w h
theorem nmok_X : ∀ a, a < 4 → ∀ b, b < 4 → a ≠ b → (T_X a).2.1 ≠ (T_X b).2.1 := by decide +kernel
theorem tyok_X : ∀ k, k < 4 → parseFieldDescriptor (T_X k).2.2.1 = some (ty_X k) := by decide +kernel
theorem hin_X : ∀ w ∈ u_ws R_X T_X 4, w ∈ TB := fun w h => tb_sub [196, 198, 200, 202] (by decide +kernel) (by decide +kernel) w h
theorem nmok_C : ∀ a, a < 18 → ∀ b, b < 18 → a ≠ b → (T_C a).2.1 ≠ (T_C b).2.1 := by decide +kernel
theorem tyok_C : ∀ k, k < 18 → parseFieldDescriptor (T_C k).2.2.1 = some (ty_C k) := by decide +kernel
theorem hin_C : ∀ w ∈ u_ws R_C T_C 18, w ∈ TB := fun w h => tb_sub [275, 277, 279, 281, 283, 285, 287, 289, 291, 293, 295, 297, 299, 301, 303, 305, 307, 309] (by decide +kernel) (by decide +kernel) w h
theorem nmok_F : ∀ a, a < 6 → ∀ b, b < 6 → a ≠ b → (T_F a).2.1 ≠ (T_F b).2.1 := by decide +kernel
theorem tyok_F : ∀ k, k < 6 → parseFieldDescriptor (T_F k).2.2.1 = some (ty_F k) := by decide +kernel
theorem hin_F : ∀ w ∈ u_ws R_F T_F 6, w ∈ TB := fun w h => tb_sub [318, 320, 322, 324, 326, 328] (by decide +kernel) (by decide +kernel) w h
theorem nmok_M : ∀ a, a < 34 → ∀ b, b < 34 → a ≠ b → (T_M a).2.1 ≠ (T_M b).2.1 := by decide +kernel
theorem tyok_M : ∀ k, k < 34 → parseFieldDescriptor (T_M k).2.2.1 = some (ty_M k) := by decide +kernel
theorem hin_M : ∀ w ∈ u_ws R_M T_M 34, w ∈ TB := fun w h => tb_sub [769, 771, 773, 775, 777, 779, 781, 783, 785, 787, 789, 791, 793, 795, 797, 799, 801, 803, 805, 807, 809, 811, 813, 815, 817, 819, 821, 823, 825, 827, 829, 831, 833, 835] (by decide +kernel) (by decide +kernel) w h
def kc_T (cA : Nat → ClassId) (a : Nat → Nat) (I : Nat → Int32) (A : Nat → Nat → Int32) : va_W := [(a 0, .inr (0, [.ref (a 1), .ref (a 2), .int (I 0)])), (a 1, .inl (cA 0, 20, .inl (A 0))), (a 2, .inl (cA 0, 6000, .inl (A 1)))]
def kc_U (cA : Nat → ClassId) (a : Nat → Nat) (a_tape : Nat → Nat) (I : Nat → Int32) : va_W := [(a 0, .inr (1, [.ref (a_tape 0), .int (I 0), .int (I 1), .int (I 2), .int (I 3), .int (I 4)]))]
def kc_R (cA : Nat → ClassId) (a : Nat → Nat) (a_cursor a_sorter : Nat → Nat) (I : Nat → Int32) (A : Nat → Nat → Int32) : va_W := [(a 0, .inr (2, [.ref (a_cursor 0), .ref (a_sorter 0), .ref (a 1), .ref (a 2), .int (I 0), .int (I 1)])), (a 1, .inl (cA 0, 615, .inl (A 0))), (a 2, .inl (cA 0, 615, .inl (A 1)))]
def kc_S (cA : Nat → ClassId) (a : Nat → Nat) (I : Nat → Int32) (A : Nat → Nat → Int32) : va_W := [(a 0, .inr (3, [.ref (a 1), .ref (a 2), .ref (a 3), .ref (a 4), .int (I 0)])), (a 1, .inl (cA 1, 401, .inl (A 0))), (a 2, .inl (cA 1, 401, .inl (A 1))), (a 3, .inl (cA 0, 401, .inl (A 2))), (a 4, .inl (cA 0, 301, .inl (A 3)))]
def kc_X (cA : Nat → ClassId) (a : Nat → Nat) (I : Nat → Int32) (A : Nat → Nat → Int32) : va_W := [(a 0, .inr (4, [.ref (a 1), .ref (a 2), .int (I 0), .int (I 1)])), (a 1, .inl (cA 0, 4654, .inl (A 0))), (a 2, .inl (cA 0, 401, .inl (A 1)))]
def kc_C (cA : Nat → ClassId) (a : Nat → Nat) (I : Nat → Int32) (A : Nat → Nat → Int32) : va_W := [(a 0, .inr (5, [.int (I 0), .int (I 1), .int (I 2), .int (I 3), .int (I 4), .int (I 5), .ref (a 1), .ref (a 2), .ref (a 3), .ref (a 4), .ref (a 5), .ref (a 6), .ref (a 7), .ref (a 8), .ref (a 9), .ref (a 10), .ref (a 11), .ref (a 12)])), (a 1, .inl (cA 0, 6, .inl (A 0))), (a 2, .inl (cA 0, 7, .inl (A 1))), (a 3, .inl (cA 0, 7, .inl (A 2))), (a 4, .inl (cA 0, 8, .inl (A 3))), (a 5, .inl (cA 0, 300, .inl (A 4))), (a 6, .inl (cA 0, 300, .inl (A 5))), (a 7, .inl (cA 0, 300, .inl (A 6))), (a 8, .inl (cA 0, 300, .inl (A 7))), (a 9, .inl (cA 1, 401, .inl (A 8))), (a 10, .inl (cA 0, 24, .inl (A 9))), (a 11, .inl (cA 0, 960, .inl (A 10))), (a 12, .inl (cA 0, 401, .inl (A 11)))]
def kc_F (cA : Nat → ClassId) (a : Nat → Nat) (a_tape a_reader a_textForm a_binaryForm a_circuit a_draft : Nat → Nat) : va_W := [(a 0, .inr (6, [.ref (a_tape 0), .ref (a_reader 0), .ref (a_textForm 0), .ref (a_binaryForm 0), .ref (a_circuit 0), .ref (a_draft 0)]))]
def kc_M (cA : Nat → ClassId) (a : Nat → Nat) (I : Nat → Int32) (A : Nat → Nat → Int32) : va_W := [(a 0, .inr (7, [.int (I 0), .ref (a 1), .ref (a 2), .int (I 1), .int (I 2), .int (I 3), .int (I 4), .int (I 5), .int (I 6), .int (I 7), .ref (a 3), .ref (a 4), .ref (a 5), .ref (a 6), .ref (a 7), .ref (a 8), .ref (a 9), .ref (a 10), .ref (a 11), .ref (a 12), .ref (a 13), .ref (a 14), .ref (a 15), .ref (a 16), .ref (a 17), .ref (a 18), .ref (a 19), .ref (a 20), .ref (a 21), .int (I 8), .int (I 9), .ref (a 22), .ref (a 23), .int (I 10)])), (a 1, .inl (cA 2, 6000, .inl (A 0))), (a 2, .inl (cA 2, 20, .inl (A 1))), (a 3, .inl (cA 0, 10, .inl (A 2))), (a 4, .inl (cA 0, 12, .inl (A 3))), (a 5, .inl (cA 0, 16, .inl (A 4))), (a 6, .inl (cA 0, 16, .inl (A 5))), (a 7, .inl (cA 0, 16, .inl (A 6))), (a 8, .inl (cA 0, 600, .inl (A 7))), (a 9, .inl (cA 0, 600, .inl (A 8))), (a 10, .inl (cA 0, 600, .inl (A 9))), (a 11, .inl (cA 0, 802, .inl (A 10))), (a 12, .inl (cA 0, 802, .inl (A 11))), (a 13, .inl (cA 0, 8, .inl (A 12))), (a 14, .inl (cA 0, 8, .inl (A 13))), (a 15, .inl (cA 0, 300, .inl (A 14))), (a 16, .inl (cA 0, 300, .inl (A 15))), (a 17, .inl (cA 2, 1760, .inl (A 16))), (a 18, .inl (cA 0, 44, .inl (A 17))), (a 19, .inl (cA 0, 300, .inl (A 18))), (a 20, .inl (cA 0, 401, .inl (A 19))), (a 21, .inl (cA 1, 401, .inl (A 20))), (a 22, .inl (cA 0, 401, .inl (A 21))), (a 23, .inl (cA 2, 12000, .inl (A 22)))]
def tyl (cA : Nat → ClassId) : List (ClassId × FieldType) := [(cA 0, .int), (cA 1, .boolean), (cA 2, .byte), (cA 3, .long)]
def NWl : List Cond := [Cond.methodLinkNest R_F 11 y_T_init "CircuitFiles", Cond.fieldLinkNest R_U 36 "CircuitFiles$Tape" "bytes" "[I" "CircuitFiles", Cond.fieldLinkNest R_U 31 "CircuitFiles$Tape" "length" "I" "CircuitFiles", Cond.methodLinkNest R_R 11 y_S_init "CircuitFiles", Cond.methodLinkNest R_F 27 y_X_init "CircuitFiles", Cond.methodLinkNest R_F 37 y_C_init "CircuitFiles", Cond.methodLinkNest R_X 112 y_F_slotOf "CircuitFiles", Cond.methodLinkNest R_R 196 y_F_slotOf "CircuitFiles"]
theorem NWl_nest : NWl.all isNest = true := by decide +kernel
/-! STANDING FACTS: what holds from the law's first instruction on, and of cells that no method of ours writes -/
/-- a static of a reference type: its place, and that it holds a reference or null -/
def zs (C n d : String) (A : Nat → Prop) (U : State) (H : Heap) : Prop := ∃ (c : ClassId) (k : Class) (i : Nat) (f : Field) (a : Nat) (cell : Cell) (v : Value), U.vm.findClass C = some c ∧ U.fieldFound? C n d = some (c, k, i, f) ∧ f.isStatic = true ∧ k.statics = some a ∧ H[a]? = some cell ∧ cell.vm.isStatics = true ∧ cell.cls = c ∧ f.slot < cell.slots.size ∧ k.staticTypes[f.slot]? = some f.type ∧ cell.slots[f.slot]? = some v ∧ v.isRef = true ∧ ¬ A a
theorem zs.moved {C n d : String} {A : Nat → Prop} {u U : State} {H : Heap} (hvm : u.vm.Alike U.vm) (h : zs C n d A u H) : zs C n d A U H := by
  obtain ⟨c, k, i, f, a, cell, v, h1, h2, h3, h4, h5, h6, h7, h8, h9, h10⟩ := h
  obtain ⟨k', hi', he⟩ := State.fieldFound?_setVm hvm h2
  exact ⟨c, k', i, f, a, cell, v, by rw [hvm.findClass]; exact h1, hi', h3, by rw [he]; exact h4, h5, h6, h7, h8, by rw [he]; exact h9, h10⟩
theorem zs.kept {C n d : String} {A : Nat → Prop} {U : State} {H H1 : Heap} (h : zs C n d A U H) (hq : ∀ a : Nat, a < H.size → ¬ A a → H1[a]? = H[a]?) : zs C n d A U H1 := by
  obtain ⟨c, k, i, f, a, cell, v, h1, h2, h3, h4, h5, h6, h7, h8, h9, h10, h11, h12⟩ := h
  exact ⟨c, k, i, f, a, cell, v, h1, h2, h3, h4, by rw [hq a (Array.getElem?_eq_some_iff.mp h5).1 h12]; exact h5, h6, h7, h8, h9, h10, h11, h12⟩
theorem zs.narrow {C n d : String} {A B : Nat → Prop} {U : State} {H : Heap} (h : zs C n d A U H) (hAB : ∀ q, B q → A q) : zs C n d B U H := by
  obtain ⟨c, k, i, f, a, cell, v, h1, h2, h3, h4, h5, h6, h7, h8, h9, h10, h11, h12⟩ := h
  exact ⟨c, k, i, f, a, cell, v, h1, h2, h3, h4, h5, h6, h7, h8, h9, h10, h11, fun z => h12 (hAB a z)⟩
def CWl : List (String × String) := [("java/lang/IllegalArgumentException", "java/lang/IllegalArgumentException")]
def DWl : List MethodName := [⟨"java/lang/RuntimeException", "<init>", "(Ljava/lang/String;)V"⟩, ⟨"java/lang/Exception", "<init>", "(Ljava/lang/String;)V"⟩, ⟨"java/lang/Throwable", "<init>", "(Ljava/lang/String;)V"⟩]
def SPl (sx : Nat → Nat) (A : Nat → Prop) (U : State) (H : Heap) : Prop :=
  (∀ w ∈ NWl, va_Nw w U) ∧ (vk_R R_X 115 "ilo" (sx 0) U ∧ vk_R R_R 182 "ilo" (sx 0) U ∧ vk_R R_F 62 "the file has a fault" (sx 2) U) ∧
  vk_S 1 [3] [[105, 108, 111]] (fun _ => sx 0) (fun _ => sx 1) A U H ∧ va_Z "java/lang/String" "COMPACT_STRINGS" "Z" (.int 1) A U H ∧
  (zs Bundle.tN "UNASSIGNED_STACK" Bundle.steD A U H ∧ zs Bundle.tN "SUPPRESSED_SENTINEL" Bundle.listD A U H) ∧ (∀ q ∈ CWl, va_Nw (.castable q.1 q.2) U) ∧ va_Zq "jdk/internal/util/Preconditions" "SIOOBE_FORMATTER" "Ljava/util/function/BiFunction;" A U H ∧ (∀ x ∈ DWl, va_Nw (.declares x) U)
theorem SPl_form {sx : Nat → Nat} {A : Nat → Prop} {U : State} {H : Heap} (h : SPl sx A U H) : va_Zq "jdk/internal/util/Preconditions" "SIOOBE_FORMATTER" "Ljava/util/function/BiFunction;" A U H := h.2.2.2.2.2.2.1
theorem SPl_ok (sx : Nat → Nat) : SPok (SPl sx) := by
  have al : ∀ {u U : State}, u.vm = U.vm → u.vm.Alike U.vm := fun h => by rw [h]; exact Vm.Alike.refl _
  refine ⟨fun A U H H1 h hq => ?_, fun A B U H h hAB => ?_, fun A s U H hW h => ?_, fun A u U H hv h => ?_⟩
  · exact ⟨h.1, h.2.1, h.2.2.1.kept hq, h.2.2.2.1.kept hq, ⟨h.2.2.2.2.1.1.kept hq, h.2.2.2.2.1.2.kept hq⟩, h.2.2.2.2.2.1, h.2.2.2.2.2.2.1.kept hq, h.2.2.2.2.2.2.2⟩
  · exact ⟨h.1, h.2.1, h.2.2.1.narrow hAB, h.2.2.2.1.narrow hAB, ⟨h.2.2.2.2.1.1.narrow hAB, h.2.2.2.2.1.2.narrow hAB⟩, h.2.2.2.2.2.1, h.2.2.2.2.2.2.1.narrow hAB, h.2.2.2.2.2.2.2⟩
  · exact ⟨fun w hw => nw_warm (List.all_eq_true.mp NWl_nest w hw) hW (h.1 w hw), ⟨h.2.1.1.warm hW, h.2.1.2.1.warm hW, h.2.1.2.2.warm hW⟩, vk_S.moved hW.alike h.2.2.1, va_Z.moved hW.alike h.2.2.2.1, ⟨zs.moved hW.alike h.2.2.2.2.1.1, zs.moved hW.alike h.2.2.2.2.1.2⟩, fun q hq => va_Nw.warmC hW (h.2.2.2.2.2.1 q hq), va_Zq.moved hW.alike h.2.2.2.2.2.2.1, fun x hx => va_Nw.warmD hW (h.2.2.2.2.2.2.2 x hx)⟩
  · exact ⟨fun w hw => nw_same (List.all_eq_true.mp NWl_nest w hw) hv (h.1 w hw), ⟨vk_R.same hv.symm h.2.1.1, vk_R.same hv.symm h.2.1.2.1, vk_R.same hv.symm h.2.1.2.2⟩, vk_S.moved (al hv) h.2.2.1, va_Z.moved (al hv) h.2.2.2.1, ⟨zs.moved (al hv) h.2.2.2.2.1.1, zs.moved (al hv) h.2.2.2.2.1.2⟩, fun q hq => va_Nw.same rfl hv (h.2.2.2.2.2.1 q hq), va_Zq.moved (al hv) h.2.2.2.2.2.2.1, fun x hx => va_Nw.same rfl hv (h.2.2.2.2.2.2.2 x hx)⟩
theorem nw_28 {sx : Nat → Nat} : ∀ {A : Nat → Prop} {U : State} {H : Heap}, SPl sx A U H → va_Nw (Cond.methodLinkNest R_F 11 y_T_init "CircuitFiles") U := fun h => h.1 _ (List.mem_of_getElem? (i := 0) (by decide +kernel))
theorem nw_34 {sx : Nat → Nat} : ∀ {A : Nat → Prop} {U : State} {H : Heap}, SPl sx A U H → va_Nw (Cond.fieldLinkNest R_U 36 "CircuitFiles$Tape" "bytes" "[I" "CircuitFiles") U := fun h => h.1 _ (List.mem_of_getElem? (i := 1) (by decide +kernel))
theorem nw_36 {sx : Nat → Nat} : ∀ {A : Nat → Prop} {U : State} {H : Heap}, SPl sx A U H → va_Nw (Cond.fieldLinkNest R_U 31 "CircuitFiles$Tape" "length" "I" "CircuitFiles") U := fun h => h.1 _ (List.mem_of_getElem? (i := 2) (by decide +kernel))
theorem nw_53 {sx : Nat → Nat} : ∀ {A : Nat → Prop} {U : State} {H : Heap}, SPl sx A U H → va_Nw (Cond.methodLinkNest R_R 11 y_S_init "CircuitFiles") U := fun h => h.1 _ (List.mem_of_getElem? (i := 3) (by decide +kernel))
theorem nw_125 {sx : Nat → Nat} : ∀ {A : Nat → Prop} {U : State} {H : Heap}, SPl sx A U H → va_Nw (Cond.methodLinkNest R_F 27 y_X_init "CircuitFiles") U := fun h => h.1 _ (List.mem_of_getElem? (i := 4) (by decide +kernel))
theorem nw_144 {sx : Nat → Nat} : ∀ {A : Nat → Prop} {U : State} {H : Heap}, SPl sx A U H → va_Nw (Cond.methodLinkNest R_F 37 y_C_init "CircuitFiles") U := fun h => h.1 _ (List.mem_of_getElem? (i := 5) (by decide +kernel))
theorem nw_358 {sx : Nat → Nat} : ∀ {A : Nat → Prop} {U : State} {H : Heap}, SPl sx A U H → va_Nw (Cond.methodLinkNest R_X 112 y_F_slotOf "CircuitFiles") U := fun h => h.1 _ (List.mem_of_getElem? (i := 6) (by decide +kernel))
theorem nw_555 {sx : Nat → Nat} : ∀ {A : Nat → Prop} {U : State} {H : Heap}, SPl sx A U H → va_Nw (Cond.methodLinkNest R_R 196 y_F_slotOf "CircuitFiles") U := fun h => h.1 _ (List.mem_of_getElem? (i := 7) (by decide +kernel))
end
section
theorem d_T_makeReady_0 : decode b_T_makeReady 0 = .ok (.iconst 0, 1) := by decide +kernel
theorem d_T_makeReady_1 : decode b_T_makeReady 1 = .ok (.istore_n 3, 1) := by decide +kernel
theorem d_T_makeReady_2 : decode b_T_makeReady 2 = .ok (.iload_n 3, 1) := by decide +kernel
theorem d_T_makeReady_3 : decode b_T_makeReady 3 = .ok (.iconst 4, 1) := by decide +kernel
theorem d_T_makeReady_4 : decode b_T_makeReady 4 = .ok (.if_icmp .ge 31, 3) := by decide +kernel
theorem d_T_makeReady_7 : decode b_T_makeReady 7 = .ok (.aload_n 0, 1) := by decide +kernel
theorem d_T_makeReady_8 : decode b_T_makeReady 8 = .ok (.getfield 9, 3) := by decide +kernel
theorem d_T_makeReady_11 : decode b_T_makeReady 11 = .ok (.iload_n 1, 1) := by decide +kernel
theorem d_T_makeReady_12 : decode b_T_makeReady 12 = .ok (.iconst 4, 1) := by decide +kernel
theorem d_T_makeReady_13 : decode b_T_makeReady 13 = .ok (.imul, 1) := by decide +kernel
theorem d_T_makeReady_14 : decode b_T_makeReady 14 = .ok (.iload_n 3, 1) := by decide +kernel
theorem d_T_makeReady_15 : decode b_T_makeReady 15 = .ok (.iadd, 1) := by decide +kernel
theorem d_T_makeReady_16 : decode b_T_makeReady 16 = .ok (.iload_n 2, 1) := by decide +kernel
theorem d_T_makeReady_17 : decode b_T_makeReady 17 = .ok (.bipush 8, 2) := by decide +kernel
theorem d_T_makeReady_19 : decode b_T_makeReady 19 = .ok (.iconst 3, 1) := by decide +kernel
theorem d_T_makeReady_20 : decode b_T_makeReady 20 = .ok (.iload_n 3, 1) := by decide +kernel
theorem d_T_makeReady_21 : decode b_T_makeReady 21 = .ok (.isub, 1) := by decide +kernel
theorem d_T_makeReady_22 : decode b_T_makeReady 22 = .ok (.imul, 1) := by decide +kernel
theorem d_T_makeReady_23 : decode b_T_makeReady 23 = .ok (.iushr, 1) := by decide +kernel
theorem d_T_makeReady_24 : decode b_T_makeReady 24 = .ok (.sipush 255, 3) := by decide +kernel
theorem d_T_makeReady_27 : decode b_T_makeReady 27 = .ok (.iand, 1) := by decide +kernel
theorem d_T_makeReady_28 : decode b_T_makeReady 28 = .ok (.iastore, 1) := by decide +kernel
theorem d_T_makeReady_29 : decode b_T_makeReady 29 = .ok (.iinc 3 1, 3) := by decide +kernel
theorem d_T_makeReady_32 : decode b_T_makeReady 32 = .ok (.goto (-30), 3) := by decide +kernel
theorem d_T_makeReady_35 : decode b_T_makeReady 35 = .ok (.return_, 1) := by decide +kernel
theorem d_T_take_0 : decode b_T_take 0 = .ok (.iload_n 1, 1) := by decide +kernel
theorem d_T_take_1 : decode b_T_take 1 = .ok (.ifCond .lt 21, 3) := by decide +kernel
theorem d_T_take_4 : decode b_T_take 4 = .ok (.iload_n 1, 1) := by decide +kernel
theorem d_T_take_5 : decode b_T_take 5 = .ok (.bipush 20, 2) := by decide +kernel
theorem d_T_take_7 : decode b_T_take 7 = .ok (.if_icmp .gt 15, 3) := by decide +kernel
theorem d_T_take_10 : decode b_T_take 10 = .ok (.aload_n 0, 1) := by decide +kernel
theorem d_T_take_11 : decode b_T_take 11 = .ok (.getfield 18, 3) := by decide +kernel
theorem d_T_take_14 : decode b_T_take 14 = .ok (.iload_n 1, 1) := by decide +kernel
theorem d_T_take_15 : decode b_T_take 15 = .ok (.iadd, 1) := by decide +kernel
theorem d_T_take_16 : decode b_T_take 16 = .ok (.sipush 6000, 3) := by decide +kernel
theorem d_T_take_19 : decode b_T_take 19 = .ok (.if_icmp .le 5, 3) := by decide +kernel
theorem d_T_take_22 : decode b_T_take 22 = .ok (.iconst (-1), 1) := by decide +kernel
theorem d_T_take_23 : decode b_T_take 23 = .ok (.ireturn, 1) := by decide +kernel
theorem d_T_take_24 : decode b_T_take 24 = .ok (.iconst 0, 1) := by decide +kernel
theorem d_T_take_25 : decode b_T_take 25 = .ok (.istore_n 2, 1) := by decide +kernel
theorem d_T_take_26 : decode b_T_take 26 = .ok (.iload_n 2, 1) := by decide +kernel
theorem d_T_take_27 : decode b_T_take 27 = .ok (.iload_n 1, 1) := by decide +kernel
theorem d_T_take_28 : decode b_T_take 28 = .ok (.if_icmp .ge 26, 3) := by decide +kernel
theorem d_T_take_31 : decode b_T_take 31 = .ok (.aload_n 0, 1) := by decide +kernel
theorem d_T_take_32 : decode b_T_take 32 = .ok (.getfield 15, 3) := by decide +kernel
theorem d_T_take_35 : decode b_T_take 35 = .ok (.aload_n 0, 1) := by decide +kernel
theorem d_T_take_36 : decode b_T_take 36 = .ok (.getfield 18, 3) := by decide +kernel
theorem d_T_take_39 : decode b_T_take 39 = .ok (.iload_n 2, 1) := by decide +kernel
theorem d_T_take_40 : decode b_T_take 40 = .ok (.iadd, 1) := by decide +kernel
theorem d_T_take_41 : decode b_T_take 41 = .ok (.aload_n 0, 1) := by decide +kernel
theorem d_T_take_42 : decode b_T_take 42 = .ok (.getfield 9, 3) := by decide +kernel
theorem d_T_take_45 : decode b_T_take 45 = .ok (.iload_n 2, 1) := by decide +kernel
theorem d_T_take_46 : decode b_T_take 46 = .ok (.iaload, 1) := by decide +kernel
theorem d_T_take_47 : decode b_T_take 47 = .ok (.iastore, 1) := by decide +kernel
theorem d_T_take_48 : decode b_T_take 48 = .ok (.iinc 2 1, 3) := by decide +kernel
theorem d_T_take_51 : decode b_T_take 51 = .ok (.goto (-25), 3) := by decide +kernel
theorem d_T_take_54 : decode b_T_take 54 = .ok (.iconst 0, 1) := by decide +kernel
theorem d_T_take_55 : decode b_T_take 55 = .ok (.istore_n 2, 1) := by decide +kernel
theorem d_T_take_56 : decode b_T_take 56 = .ok (.iload_n 2, 1) := by decide +kernel
theorem d_T_take_57 : decode b_T_take 57 = .ok (.bipush 20, 2) := by decide +kernel
theorem d_T_take_59 : decode b_T_take 59 = .ok (.if_icmp .ge 16, 3) := by decide +kernel
theorem d_T_take_62 : decode b_T_take 62 = .ok (.aload_n 0, 1) := by decide +kernel
theorem d_T_take_63 : decode b_T_take 63 = .ok (.getfield 9, 3) := by decide +kernel
theorem d_T_take_66 : decode b_T_take 66 = .ok (.iload_n 2, 1) := by decide +kernel
theorem d_T_take_67 : decode b_T_take 67 = .ok (.iconst 0, 1) := by decide +kernel
theorem d_T_take_68 : decode b_T_take 68 = .ok (.iastore, 1) := by decide +kernel
theorem d_T_take_69 : decode b_T_take 69 = .ok (.iinc 2 1, 3) := by decide +kernel
theorem d_T_take_72 : decode b_T_take 72 = .ok (.goto (-16), 3) := by decide +kernel
theorem d_T_take_75 : decode b_T_take 75 = .ok (.aload_n 0, 1) := by decide +kernel
theorem d_T_take_76 : decode b_T_take 76 = .ok (.dup, 1) := by decide +kernel
theorem d_T_take_77 : decode b_T_take 77 = .ok (.getfield 18, 3) := by decide +kernel
theorem d_T_take_80 : decode b_T_take 80 = .ok (.iload_n 1, 1) := by decide +kernel
theorem d_T_take_81 : decode b_T_take 81 = .ok (.iadd, 1) := by decide +kernel
theorem d_T_take_82 : decode b_T_take 82 = .ok (.putfield 18, 3) := by decide +kernel
theorem d_T_take_85 : decode b_T_take 85 = .ok (.aload_n 0, 1) := by decide +kernel
theorem d_T_take_86 : decode b_T_take 86 = .ok (.getfield 18, 3) := by decide +kernel
theorem d_T_take_89 : decode b_T_take 89 = .ok (.ireturn, 1) := by decide +kernel
theorem d_T_makeEmpty_0 : decode b_T_makeEmpty 0 = .ok (.aload_n 0, 1) := by decide +kernel
theorem d_T_makeEmpty_1 : decode b_T_makeEmpty 1 = .ok (.iconst 0, 1) := by decide +kernel
theorem d_T_makeEmpty_2 : decode b_T_makeEmpty 2 = .ok (.putfield 18, 3) := by decide +kernel
theorem d_T_makeEmpty_5 : decode b_T_makeEmpty 5 = .ok (.return_, 1) := by decide +kernel
end
section
theorem tb_32 : Cond.fieldLink R_T 9 "CircuitFiles$Tape" "ready" "[I" ∈ TB := tb_mem (i := 95) (by decide +kernel) (by decide +kernel)
theorem tb_33 : Cond.fieldLink R_T 15 "CircuitFiles$Tape" "bytes" "[I" ∈ TB := tb_mem (i := 96) (by decide +kernel) (by decide +kernel)
theorem tb_35 : Cond.fieldLink R_T 18 "CircuitFiles$Tape" "length" "I" ∈ TB := tb_mem (i := 98) (by decide +kernel) (by decide +kernel)
theorem st_T_TA0 {cA : Nat → ClassId} {a_T : Nat → Nat} {I_T : Nat → Int32} {A_T : Nat → Nat → Int32} {f : Nat → Int32} : (kc_T cA a_T I_T A_T).set 1 (a_T 1, .inl (cA 0, 20, .inl f)) = kc_T cA a_T I_T (va_up A_T 0 f) := rfl
theorem st_T_TA1 {cA : Nat → ClassId} {a_T : Nat → Nat} {I_T : Nat → Int32} {A_T : Nat → Nat → Int32} {f : Nat → Int32} : (kc_T cA a_T I_T A_T).set 2 (a_T 2, .inl (cA 0, 6000, .inl f)) = kc_T cA a_T I_T (va_up A_T 1 f) := rfl
theorem st_T_TI0 {cA : Nat → ClassId} {a_T : Nat → Nat} {I_T : Nat → Int32} {A_T : Nat → Nat → Int32} {v : Int32} : (kc_T cA a_T I_T A_T).set 0 (a_T 0, .inr (0, ([.ref (a_T 1), .ref (a_T 2), .int (I_T 0)] : List Value).set 2 (.int v))) = kc_T cA a_T (va_up I_T 0 v) A_T := rfl
end
section
def wp_T_makeReady_L2 (Q : (Nat → Nat → Int32) → Prop) (X2 : (Nat → Nat → Int32) → Prop) : Nat → (Nat → Nat → Int32) → Int32 → Int32 → Int32 → Prop
  | 0 => fun _ _ _ _ => False
  | n2 + 1 => fun A_T v1 v2 v3 => (((4 : Int32) ≤ v3) → X2 A_T) ∧ ((¬ (4 : Int32) ≤ v3) → vp_in ((v1 * (4 : Int32)) + v3) 20 ∧ ((wp_T_makeReady_L2 Q X2 n2) (va_up A_T 0 (upd (A_T 0) (((v1 * (4 : Int32)) + v3)).toNatClampNeg (((v2).toUInt32 >>> ((((8 : Int32) * ((3 : Int32) - v3))).toUInt32 &&& Int32.toUInt32 31)).toInt32 &&& (255 : Int32)))) v1 v2 (v3 + (1 : Int32))))
def wp_T_makeReady (A_T : (Nat → Nat → Int32)) (x1 : Int32) (x2 : Int32) (Q : (Nat → Nat → Int32) → Prop) : Prop := ∃ m2, wp_T_makeReady_L2 Q (fun A_T_2 => Q A_T_2) m2 A_T x1 x2 (0 : Int32)
def wp_T_take_L26 (Q : Int32 → (Nat → Int32) → (Nat → Nat → Int32) → Prop) (X26 : (Nat → Int32) → (Nat → Nat → Int32) → Int32 → Prop) : Nat → (Nat → Int32) → (Nat → Nat → Int32) → Int32 → Int32 → Prop
  | 0 => fun _ _ _ _ => False
  | n26 + 1 => fun I_T A_T v1 v2 => ((v1 ≤ v2) → X26 I_T A_T v1) ∧ ((¬ v1 ≤ v2) → vp_in v2 20 ∧ (vp_in ((I_T 0) + v2) 6000 ∧ ((wp_T_take_L26 Q X26 n26) I_T (va_up A_T 1 (upd (A_T 1) (((I_T 0) + v2)).toNatClampNeg ((A_T 0) (v2).toNatClampNeg))) v1 (v2 + (1 : Int32)))))
def wp_T_take_L56 (Q : Int32 → (Nat → Int32) → (Nat → Nat → Int32) → Prop) (X56 : (Nat → Int32) → (Nat → Nat → Int32) → Int32 → Prop) : Nat → (Nat → Int32) → (Nat → Nat → Int32) → Int32 → Int32 → Prop
  | 0 => fun _ _ _ _ => False
  | n56 + 1 => fun I_T A_T v1 v2 => (((20 : Int32) ≤ v2) → X56 I_T A_T v1) ∧ ((¬ (20 : Int32) ≤ v2) → vp_in v2 20 ∧ ((wp_T_take_L56 Q X56 n56) I_T (va_up A_T 0 (upd (A_T 0) (v2).toNatClampNeg (0 : Int32))) v1 (v2 + (1 : Int32))))
def wp_T_take (I_T : (Nat → Int32)) (A_T : (Nat → Nat → Int32)) (x1 : Int32) (Q : Int32 → (Nat → Int32) → (Nat → Nat → Int32) → Prop) : Prop := ((x1 < 0) → Q (-1 : Int32) I_T A_T) ∧ ((¬ x1 < 0) → (((20 : Int32) < x1) → Q (-1 : Int32) I_T A_T) ∧ ((¬ (20 : Int32) < x1) → ((((I_T 0) + x1) ≤ (6000 : Int32)) → ∃ m26, wp_T_take_L26 Q (fun I_T_3 A_T_4 v1_5 => ∃ m56, wp_T_take_L56 Q (fun I_T_7 A_T_8 v1_9 => Q ((I_T_7 0) + v1_9) (va_up I_T_7 0 ((I_T_7 0) + v1_9)) A_T_8) m56 I_T_3 A_T_4 v1_5 (0 : Int32)) m26 I_T A_T x1 (0 : Int32)) ∧ ((¬ ((I_T 0) + x1) ≤ (6000 : Int32)) → Q (-1 : Int32) I_T A_T)))
def wp_T_makeEmpty (I_T : (Nat → Int32)) (Q : (Nat → Int32) → Prop) : Prop := Q (va_up I_T 0 (0 : Int32))
end
section
set_option maxHeartbeats 4000000 in
set_option maxRecDepth 100000 in
theorem l_T_makeReady_L2 {p : Program} {l : Launch} {e : Env} {s : State} {m : MethodId} {args : Array Value} {below : List Frame} {meth : Method} {c : Code} {D : va_G} {cA : Nat → ClassId} {sx : Nat → Nat} {A : Nat → Prop} (a_T : Nat → Nat) (I_T : (Nat → Int32)) (Q : (Nat → Nat → Int32) → Prop) (X2 : (Nat → Nat → Int32) → Prop) (hC : CX p s m args meth c b_T_makeReady R_T TB 4 D vwCl (tyl cA) A (SPl sx) none) (hX2 : ∀ (A_T : (Nat → Nat → Int32)), X2 A_T → VV p l e ({ frames := 0, cells := 0, slots := 0, locals := 0 } : Room) s m args below meth c 4 D vwCl A 0 0 (QV below args s D vwCl (tyl cA) A (fun (u : (Nat → Nat → Int32)) => Q u) (fun u : (Nat → Nat → Int32) => kc_T cA a_T I_T u)) (kc_T cA a_T I_T A_T) 35 [] []) : ∀ (n2 : Nat) (A_T : (Nat → Nat → Int32)) (v1 : Int32) (v2 : Int32) (v3 : Int32), wp_T_makeReady_L2 Q X2 n2 A_T v1 v2 v3 → VV p l e ({ frames := 0, cells := 0, slots := 0, locals := 0 } : Room) s m args below meth c 4 D vwCl A 0 0 (QV below args s D vwCl (tyl cA) A (fun (u : (Nat → Nat → Int32)) => Q u) (fun u : (Nat → Nat → Int32) => kc_T cA a_T I_T u)) (kc_T cA a_T I_T A_T) 2 [(0, .ref (a_T 0)), (1, .int v1), (2, .int v2), (3, .int v3)] [] := by
  intro n2
  induction n2 with
  | zero =>
    intro A_T v1 v2 v3 hw
    exact absurd hw (fun z => z)
  | succ n2 ih =>
    intro A_T v1 v2 v3 hw
    unfold wp_T_makeReady_L2 at hw
    refine vv_iload_n hC d_T_makeReady_2 3 rfl rfl ?_
    refine vv_iconst hC d_T_makeReady_3 (v := (4 : Int32)) (by decide) ?_
    refine vv_icmp_ge hC 35 d_T_makeReady_4 (by decide) (fun cd => ?_) (fun cd => ?_)
    · have hw := hw.1 cd
      exact vv_sub [] (by rfl) (hX2 A_T hw)
    · have hw := hw.2 cd
      refine vv_aload_n hC d_T_makeReady_7 0 rfl rfl ?_
      refine vv_get hC (v := .ref (a_T 1)) hin_T 0 0 tb_32 d_T_makeReady_8 rfl rfl (by decide) rfl rfl ?_
      refine vv_iload_n hC d_T_makeReady_11 1 rfl rfl ?_
      refine vv_iconst hC d_T_makeReady_12 (v := (4 : Int32)) (by decide) ?_
      refine vv_imul hC d_T_makeReady_13 ?_
      refine vv_iload_n hC d_T_makeReady_14 3 rfl rfl ?_
      refine vv_iadd hC d_T_makeReady_15 ?_
      refine vv_iload_n hC d_T_makeReady_16 2 rfl rfl ?_
      refine vv_bipush hC d_T_makeReady_17 (v := (8 : Int32)) (by decide) ?_
      refine vv_iconst hC d_T_makeReady_19 (v := (3 : Int32)) (by decide) ?_
      refine vv_iload_n hC d_T_makeReady_20 3 rfl rfl ?_
      refine vv_isub hC d_T_makeReady_21 ?_
      refine vv_imul hC d_T_makeReady_22 ?_
      refine vv_iushr hC d_T_makeReady_23 ?_
      refine vv_sipush hC d_T_makeReady_24 (v := (255 : Int32)) (by decide) ?_
      refine vv_iand hC d_T_makeReady_27 ?_
      obtain ⟨hin_1, hw⟩ := hw
      refine vv_iast hC 1 0 d_T_makeReady_28 rfl rfl hin_1 (ws2 := kc_T cA a_T I_T (va_up A_T 0 (upd (A_T 0) (((v1 * (4 : Int32)) + v3)).toNatClampNeg (((v2).toUInt32 >>> ((((8 : Int32) * ((3 : Int32) - v3))).toUInt32 &&& Int32.toUInt32 31)).toInt32 &&& (255 : Int32))))) (st_T_TA0 ..) ?_
      refine vv_iinc hC d_T_makeReady_29 3 rfl (v := (v3 + (1 : Int32))) rfl (by decide) [1, 2, 3, 0] (L2 := [(0, .ref (a_T 0)), (1, .int v1), (2, .int v2), (3, .int (v3 + (1 : Int32)))]) rfl ?_
      refine vv_goto hC 2 d_T_makeReady_32 (by decide) ?_
      exact vv_sub [0, 1, 2, 3] (by rfl) (ih (va_up A_T 0 (upd (A_T 0) (((v1 * (4 : Int32)) + v3)).toNatClampNeg (((v2).toUInt32 >>> ((((8 : Int32) * ((3 : Int32) - v3))).toUInt32 &&& Int32.toUInt32 31)).toInt32 &&& (255 : Int32)))) v1 v2 (v3 + (1 : Int32)) hw)
set_option maxHeartbeats 4000000 in
set_option maxRecDepth 100000 in
theorem c_T_makeReady (l : Launch) (D : va_G) (cA : Nat → ClassId) (sx : Nat → Nat) (a_T : Nat → Nat) (I_T : (Nat → Int32)) (A_T : (Nat → Nat → Int32)) (x1 x2 : Int32) (Q : (Nat → Nat → Int32) → Prop) (hw : wp_T_makeReady A_T x1 x2 Q) : MetV l y_T_makeReady (Cond.code y_T_makeReady b_T_makeReady 4 none :: TB) ({ frames := 0, cells := 0, slots := 0, locals := 0 } : Room) D vwCl (tyl cA) (SPl sx) [.ref (a_T 0), .int x1, .int x2] (kc_T cA a_T I_T A_T) (fun (u : (Nat → Nat → Int32)) => Q u) (fun u : (Nat → Nat → Int32) => kc_T cA a_T I_T u) := by
  refine vv_entryV (cc := b_T_makeReady) (own := R_T) (L := [(0, .ref (a_T 0)), (1, .int x1), (2, .int x2)]) (by decide) rfl rfl (Nat.le_of_ble_eq_true rfl) rfl (fun p e s m args below meth c A hC => ?_)
  unfold wp_T_makeReady at hw
  refine vv_iconst hC d_T_makeReady_0 (v := (0 : Int32)) (by decide) ?_
  refine vv_istore_n hC d_T_makeReady_1 rfl (by decide) [1, 2, 3, 0] (L2 := [(0, .ref (a_T 0)), (1, .int x1), (2, .int x2), (3, .int (0 : Int32))]) rfl ?_
  obtain ⟨m2, hw⟩ := hw
  refine vv_sub [0, 1, 2, 3] (by rfl) (l_T_makeReady_L2 a_T I_T Q _ hC (fun A_T_2 hw => ?_) m2 A_T x1 x2 (0 : Int32) hw)
  exact vv_vret hC d_T_makeReady_35 A_T_2 hw rfl
set_option maxHeartbeats 4000000 in
set_option maxRecDepth 100000 in
theorem l_T_take_L26 {p : Program} {l : Launch} {e : Env} {s : State} {m : MethodId} {args : Array Value} {below : List Frame} {meth : Method} {c : Code} {D : va_G} {cA : Nat → ClassId} {sx : Nat → Nat} {A : Nat → Prop} (a_T : Nat → Nat) (Q : Int32 → (Nat → Int32) → (Nat → Nat → Int32) → Prop) (X26 : (Nat → Int32) → (Nat → Nat → Int32) → Int32 → Prop) (hC : CX p s m args meth c b_T_take R_T TB 3 D vwCl (tyl cA) A (SPl sx) (some .int)) (hX26 : ∀ (I_T : (Nat → Int32)) (A_T : (Nat → Nat → Int32)) (v1 : Int32), X26 I_T A_T v1 → VV p l e ({ frames := 0, cells := 0, slots := 0, locals := 0 } : Room) s m args below meth c 3 D vwCl A 0 0 (QI below args s D vwCl (tyl cA) A (fun (r : Int32) (u : (Nat → Int32) × (Nat → Nat → Int32)) => Q r u.1 u.2) (fun u : (Nat → Int32) × (Nat → Nat → Int32) => kc_T cA a_T u.1 u.2)) (kc_T cA a_T I_T A_T) 54 [(0, .ref (a_T 0)), (1, .int v1)] []) : ∀ (n26 : Nat) (I_T : (Nat → Int32)) (A_T : (Nat → Nat → Int32)) (v1 : Int32) (v2 : Int32), wp_T_take_L26 Q X26 n26 I_T A_T v1 v2 → VV p l e ({ frames := 0, cells := 0, slots := 0, locals := 0 } : Room) s m args below meth c 3 D vwCl A 0 0 (QI below args s D vwCl (tyl cA) A (fun (r : Int32) (u : (Nat → Int32) × (Nat → Nat → Int32)) => Q r u.1 u.2) (fun u : (Nat → Int32) × (Nat → Nat → Int32) => kc_T cA a_T u.1 u.2)) (kc_T cA a_T I_T A_T) 26 [(0, .ref (a_T 0)), (1, .int v1), (2, .int v2)] [] := by
  intro n26
  induction n26 with
  | zero =>
    intro I_T A_T v1 v2 hw
    exact absurd hw (fun z => z)
  | succ n26 ih =>
    intro I_T A_T v1 v2 hw
    unfold wp_T_take_L26 at hw
    refine vv_iload_n hC d_T_take_26 2 rfl rfl ?_
    refine vv_iload_n hC d_T_take_27 1 rfl rfl ?_
    refine vv_icmp_ge hC 54 d_T_take_28 (by decide) (fun cd => ?_) (fun cd => ?_)
    · have hw := hw.1 cd
      exact vv_sub [0, 1] (by rfl) (hX26 I_T A_T v1 hw)
    · have hw := hw.2 cd
      refine vv_aload_n hC d_T_take_31 0 rfl rfl ?_
      refine vv_get hC (v := .ref (a_T 2)) hin_T 0 1 tb_33 d_T_take_32 rfl rfl (by decide) rfl rfl ?_
      refine vv_aload_n hC d_T_take_35 0 rfl rfl ?_
      refine vv_get hC (v := .int (I_T 0)) hin_T 0 2 tb_35 d_T_take_36 rfl rfl (by decide) rfl rfl ?_
      refine vv_iload_n hC d_T_take_39 2 rfl rfl ?_
      refine vv_iadd hC d_T_take_40 ?_
      refine vv_aload_n hC d_T_take_41 0 rfl rfl ?_
      refine vv_get hC (v := .ref (a_T 1)) hin_T 0 0 tb_32 d_T_take_42 rfl rfl (by decide) rfl rfl ?_
      refine vv_iload_n hC d_T_take_45 2 rfl rfl ?_
      obtain ⟨hin_1, hw⟩ := hw
      refine vv_iald hC 1 0 d_T_take_46 rfl rfl hin_1 ?_
      obtain ⟨hin_2, hw⟩ := hw
      refine vv_iast hC 2 0 d_T_take_47 rfl rfl hin_2 (ws2 := kc_T cA a_T I_T (va_up A_T 1 (upd (A_T 1) (((I_T 0) + v2)).toNatClampNeg ((A_T 0) (v2).toNatClampNeg)))) (st_T_TA1 ..) ?_
      refine vv_iinc hC d_T_take_48 2 rfl (v := (v2 + (1 : Int32))) rfl (by decide) [1, 2, 0] (L2 := [(0, .ref (a_T 0)), (1, .int v1), (2, .int (v2 + (1 : Int32)))]) rfl ?_
      refine vv_goto hC 26 d_T_take_51 (by decide) ?_
      exact vv_sub [0, 1, 2] (by rfl) (ih I_T (va_up A_T 1 (upd (A_T 1) (((I_T 0) + v2)).toNatClampNeg ((A_T 0) (v2).toNatClampNeg))) v1 (v2 + (1 : Int32)) hw)
set_option maxHeartbeats 4000000 in
set_option maxRecDepth 100000 in
theorem l_T_take_L56 {p : Program} {l : Launch} {e : Env} {s : State} {m : MethodId} {args : Array Value} {below : List Frame} {meth : Method} {c : Code} {D : va_G} {cA : Nat → ClassId} {sx : Nat → Nat} {A : Nat → Prop} (a_T : Nat → Nat) (Q : Int32 → (Nat → Int32) → (Nat → Nat → Int32) → Prop) (X56 : (Nat → Int32) → (Nat → Nat → Int32) → Int32 → Prop) (hC : CX p s m args meth c b_T_take R_T TB 3 D vwCl (tyl cA) A (SPl sx) (some .int)) (hX56 : ∀ (I_T : (Nat → Int32)) (A_T : (Nat → Nat → Int32)) (v1 : Int32), X56 I_T A_T v1 → VV p l e ({ frames := 0, cells := 0, slots := 0, locals := 0 } : Room) s m args below meth c 3 D vwCl A 0 0 (QI below args s D vwCl (tyl cA) A (fun (r : Int32) (u : (Nat → Int32) × (Nat → Nat → Int32)) => Q r u.1 u.2) (fun u : (Nat → Int32) × (Nat → Nat → Int32) => kc_T cA a_T u.1 u.2)) (kc_T cA a_T I_T A_T) 75 [(0, .ref (a_T 0)), (1, .int v1)] []) : ∀ (n56 : Nat) (I_T : (Nat → Int32)) (A_T : (Nat → Nat → Int32)) (v1 : Int32) (v2 : Int32), wp_T_take_L56 Q X56 n56 I_T A_T v1 v2 → VV p l e ({ frames := 0, cells := 0, slots := 0, locals := 0 } : Room) s m args below meth c 3 D vwCl A 0 0 (QI below args s D vwCl (tyl cA) A (fun (r : Int32) (u : (Nat → Int32) × (Nat → Nat → Int32)) => Q r u.1 u.2) (fun u : (Nat → Int32) × (Nat → Nat → Int32) => kc_T cA a_T u.1 u.2)) (kc_T cA a_T I_T A_T) 56 [(0, .ref (a_T 0)), (1, .int v1), (2, .int v2)] [] := by
  intro n56
  induction n56 with
  | zero =>
    intro I_T A_T v1 v2 hw
    exact absurd hw (fun z => z)
  | succ n56 ih =>
    intro I_T A_T v1 v2 hw
    unfold wp_T_take_L56 at hw
    refine vv_iload_n hC d_T_take_56 2 rfl rfl ?_
    refine vv_bipush hC d_T_take_57 (v := (20 : Int32)) (by decide) ?_
    refine vv_icmp_ge hC 75 d_T_take_59 (by decide) (fun cd => ?_) (fun cd => ?_)
    · have hw := hw.1 cd
      exact vv_sub [0, 1] (by rfl) (hX56 I_T A_T v1 hw)
    · have hw := hw.2 cd
      refine vv_aload_n hC d_T_take_62 0 rfl rfl ?_
      refine vv_get hC (v := .ref (a_T 1)) hin_T 0 0 tb_32 d_T_take_63 rfl rfl (by decide) rfl rfl ?_
      refine vv_iload_n hC d_T_take_66 2 rfl rfl ?_
      refine vv_iconst hC d_T_take_67 (v := (0 : Int32)) (by decide) ?_
      obtain ⟨hin_6, hw⟩ := hw
      refine vv_iast hC 1 0 d_T_take_68 rfl rfl hin_6 (ws2 := kc_T cA a_T I_T (va_up A_T 0 (upd (A_T 0) (v2).toNatClampNeg (0 : Int32)))) (st_T_TA0 ..) ?_
      refine vv_iinc hC d_T_take_69 2 rfl (v := (v2 + (1 : Int32))) rfl (by decide) [1, 2, 0] (L2 := [(0, .ref (a_T 0)), (1, .int v1), (2, .int (v2 + (1 : Int32)))]) rfl ?_
      refine vv_goto hC 56 d_T_take_72 (by decide) ?_
      exact vv_sub [0, 1, 2] (by rfl) (ih I_T (va_up A_T 0 (upd (A_T 0) (v2).toNatClampNeg (0 : Int32))) v1 (v2 + (1 : Int32)) hw)
set_option maxHeartbeats 4000000 in
set_option maxRecDepth 100000 in
theorem c_T_take (l : Launch) (D : va_G) (cA : Nat → ClassId) (sx : Nat → Nat) (a_T : Nat → Nat) (I_T : (Nat → Int32)) (A_T : (Nat → Nat → Int32)) (x1 : Int32) (Q : Int32 → (Nat → Int32) → (Nat → Nat → Int32) → Prop) (hw : wp_T_take I_T A_T x1 Q) : MetI l y_T_take (Cond.code y_T_take b_T_take 3 (some .int) :: TB) ({ frames := 0, cells := 0, slots := 0, locals := 0 } : Room) D vwCl (tyl cA) (SPl sx) [.ref (a_T 0), .int x1] (kc_T cA a_T I_T A_T) (fun (r : Int32) (u : (Nat → Int32) × (Nat → Nat → Int32)) => Q r u.1 u.2) (fun u : (Nat → Int32) × (Nat → Nat → Int32) => kc_T cA a_T u.1 u.2) := by
  refine vv_entryI (cc := b_T_take) (own := R_T) (L := [(0, .ref (a_T 0)), (1, .int x1)]) (by decide) rfl rfl (Nat.le_of_ble_eq_true rfl) rfl (fun p e s m args below meth c A hC => ?_)
  unfold wp_T_take at hw
  refine vv_iload_n hC d_T_take_0 1 rfl rfl ?_
  refine vv_if_lt hC 22 d_T_take_1 (by decide) (fun cd => ?_) (fun cd => ?_)
  · have hw := hw.1 cd
    refine vv_iconst hC d_T_take_22 (v := (-1 : Int32)) (by decide) ?_
    exact vv_iret hC d_T_take_23 (I_T, A_T) hw rfl
  · have hw := hw.2 cd
    refine vv_iload_n hC d_T_take_4 1 rfl rfl ?_
    refine vv_bipush hC d_T_take_5 (v := (20 : Int32)) (by decide) ?_
    refine vv_icmp_gt hC 22 d_T_take_7 (by decide) (fun cd => ?_) (fun cd => ?_)
    · have hw := hw.1 cd
      refine vv_iconst hC d_T_take_22 (v := (-1 : Int32)) (by decide) ?_
      exact vv_iret hC d_T_take_23 (I_T, A_T) hw rfl
    · have hw := hw.2 cd
      refine vv_aload_n hC d_T_take_10 0 rfl rfl ?_
      refine vv_get hC (v := .int (I_T 0)) hin_T 0 2 tb_35 d_T_take_11 rfl rfl (by decide) rfl rfl ?_
      refine vv_iload_n hC d_T_take_14 1 rfl rfl ?_
      refine vv_iadd hC d_T_take_15 ?_
      refine vv_sipush hC d_T_take_16 (v := (6000 : Int32)) (by decide) ?_
      refine vv_icmp_le hC 24 d_T_take_19 (by decide) (fun cd => ?_) (fun cd => ?_)
      · have hw := hw.1 cd
        refine vv_iconst hC d_T_take_24 (v := (0 : Int32)) (by decide) ?_
        refine vv_istore_n hC d_T_take_25 rfl (by decide) [1, 2, 0] (L2 := [(0, .ref (a_T 0)), (1, .int x1), (2, .int (0 : Int32))]) rfl ?_
        obtain ⟨m26, hw⟩ := hw
        refine vv_sub [0, 1, 2] (by rfl) (l_T_take_L26 a_T Q _ hC (fun I_T_3 A_T_4 v1_5 hw => ?_) m26 I_T A_T x1 (0 : Int32) hw)
        refine vv_iconst hC d_T_take_54 (v := (0 : Int32)) (by decide) ?_
        refine vv_istore_n hC d_T_take_55 rfl (by decide) [1, 2, 0] (L2 := [(0, .ref (a_T 0)), (1, .int v1_5), (2, .int (0 : Int32))]) rfl ?_
        obtain ⟨m56, hw⟩ := hw
        refine vv_sub [0, 1, 2] (by rfl) (l_T_take_L56 a_T Q _ hC (fun I_T_7 A_T_8 v1_9 hw => ?_) m56 I_T_3 A_T_4 v1_5 (0 : Int32) hw)
        refine vv_aload_n hC d_T_take_75 0 rfl rfl ?_
        refine vv_dup hC d_T_take_76 rfl ?_
        refine vv_get hC (v := .int (I_T_7 0)) hin_T 0 2 tb_35 d_T_take_77 rfl rfl (by decide) rfl rfl ?_
        refine vv_iload_n hC d_T_take_80 1 rfl rfl ?_
        refine vv_iadd hC d_T_take_81 ?_
        refine vv_put hC hin_T ty_T tyok_T nmok_T 0 2 tb_35 d_T_take_82 rfl rfl (by decide) rfl rfl rfl rfl rfl (Nat.le_of_ble_eq_true rfl) (ws2 := kc_T cA a_T (va_up I_T_7 0 ((I_T_7 0) + v1_9)) A_T_8) (st_T_TI0 ..) ?_
        refine vv_aload_n hC d_T_take_85 0 rfl rfl ?_
        refine vv_get hC (v := .int ((I_T_7 0) + v1_9)) hin_T 0 2 tb_35 d_T_take_86 rfl rfl (by decide) rfl rfl ?_
        exact vv_iret hC d_T_take_89 ((va_up I_T_7 0 ((I_T_7 0) + v1_9)), A_T_8) hw rfl
      · have hw := hw.2 cd
        refine vv_iconst hC d_T_take_22 (v := (-1 : Int32)) (by decide) ?_
        exact vv_iret hC d_T_take_23 (I_T, A_T) hw rfl
set_option maxHeartbeats 4000000 in
set_option maxRecDepth 100000 in
theorem c_T_makeEmpty (l : Launch) (D : va_G) (cA : Nat → ClassId) (sx : Nat → Nat) (a_T : Nat → Nat) (I_T : (Nat → Int32)) (A_T : (Nat → Nat → Int32)) (Q : (Nat → Int32) → Prop) (hw : wp_T_makeEmpty I_T Q) : MetV l y_T_makeEmpty (Cond.code y_T_makeEmpty b_T_makeEmpty 1 none :: TB) ({ frames := 0, cells := 0, slots := 0, locals := 0 } : Room) D vwCl (tyl cA) (SPl sx) [.ref (a_T 0)] (kc_T cA a_T I_T A_T) (fun (u : (Nat → Int32)) => Q u) (fun u : (Nat → Int32) => kc_T cA a_T u A_T) := by
  refine vv_entryV (cc := b_T_makeEmpty) (own := R_T) (L := [(0, .ref (a_T 0))]) (by decide) rfl rfl (Nat.le_of_ble_eq_true rfl) rfl (fun p e s m args below meth c A hC => ?_)
  unfold wp_T_makeEmpty at hw
  refine vv_aload_n hC d_T_makeEmpty_0 0 rfl rfl ?_
  refine vv_iconst hC d_T_makeEmpty_1 (v := (0 : Int32)) (by decide) ?_
  refine vv_put hC hin_T ty_T tyok_T nmok_T 0 2 tb_35 d_T_makeEmpty_2 rfl rfl (by decide) rfl rfl rfl rfl rfl (Nat.le_of_ble_eq_true rfl) (ws2 := kc_T cA a_T (va_up I_T 0 (0 : Int32)) A_T) (st_T_TI0 ..) ?_
  exact vv_vret hC d_T_makeEmpty_5 (va_up I_T 0 (0 : Int32)) hw rfl
end
