section
-- ===== PART A: goes FIRST, ahead of the names: the tables' words, and 'selects' of the private methods out of them =====
/-- a private method of a class that the tables say can be made, by its rows of tables_1 -/
def lw_okq (q : MethodName × Nat) : Prop := (q.1.cls ≠ "java/lang/invoke/MethodHandle" ∧ q.1.cls ≠ "java/lang/invoke/VarHandle") ∧ Cond.instantiable q.1.cls q.2 ∈ tables_1 ∧ Cond.privateMethod q.1 ∈ tables_1 ∧ Cond.instanceMethod q.1 ∈ tables_1
theorem lw_p0 : lw_okq (⟨"CircuitFiles$Form", "numberAnew", "(LCircuitFiles$Circuit;)V"⟩, 4) := ⟨⟨by decide +kernel, by decide +kernel⟩, List.mem_of_getElem? (i := 124) (by decide +kernel), List.mem_of_getElem? (i := 320) (by decide +kernel), List.mem_of_getElem? (i := 321) (by decide +kernel)⟩
theorem lw_p1 : lw_okq (⟨"CircuitFiles$Form", "putHeader", "(LCircuitFiles$Circuit;II)V"⟩, 4) := ⟨⟨by decide +kernel, by decide +kernel⟩, List.mem_of_getElem? (i := 124) (by decide +kernel), List.mem_of_getElem? (i := 324) (by decide +kernel), List.mem_of_getElem? (i := 325) (by decide +kernel)⟩
theorem lw_p2 : lw_okq (⟨"CircuitFiles$Form", "put", "(I)V"⟩, 4) := ⟨⟨by decide +kernel, by decide +kernel⟩, List.mem_of_getElem? (i := 124) (by decide +kernel), List.mem_of_getElem? (i := 328) (by decide +kernel), List.mem_of_getElem? (i := 329) (by decide +kernel)⟩
theorem lw_p3 : lw_okq (⟨"CircuitFiles$Form", "putNumber", "(II)V"⟩, 4) := ⟨⟨by decide +kernel, by decide +kernel⟩, List.mem_of_getElem? (i := 124) (by decide +kernel), List.mem_of_getElem? (i := 332) (by decide +kernel), List.mem_of_getElem? (i := 333) (by decide +kernel)⟩
theorem lw_p4 : lw_okq (⟨"CircuitFiles$Form", "newLiteral", "(I)I"⟩, 4) := ⟨⟨by decide +kernel, by decide +kernel⟩, List.mem_of_getElem? (i := 124) (by decide +kernel), List.mem_of_getElem? (i := 336) (by decide +kernel), List.mem_of_getElem? (i := 337) (by decide +kernel)⟩
theorem lw_p5 : lw_okq (⟨"CircuitFiles$Form", "putBinaryAnd", "(LCircuitFiles$Circuit;I)V"⟩, 4) := ⟨⟨by decide +kernel, by decide +kernel⟩, List.mem_of_getElem? (i := 124) (by decide +kernel), List.mem_of_getElem? (i := 340) (by decide +kernel), List.mem_of_getElem? (i := 341) (by decide +kernel)⟩
theorem lw_p6 : lw_okq (⟨"CircuitFiles$Form", "putDelta", "(I)V"⟩, 4) := ⟨⟨by decide +kernel, by decide +kernel⟩, List.mem_of_getElem? (i := 124) (by decide +kernel), List.mem_of_getElem? (i := 347) (by decide +kernel), List.mem_of_getElem? (i := 348) (by decide +kernel)⟩
theorem lw_p7 : lw_okq (⟨"CircuitFiles$Form", "putSymbols", "(LCircuitFiles$Circuit;)V"⟩, 4) := ⟨⟨by decide +kernel, by decide +kernel⟩, List.mem_of_getElem? (i := 124) (by decide +kernel), List.mem_of_getElem? (i := 354) (by decide +kernel), List.mem_of_getElem? (i := 355) (by decide +kernel)⟩
theorem lw_p8 : lw_okq (⟨"CircuitFiles$Form", "putName", "(LCircuitFiles$Circuit;I)V"⟩, 4) := ⟨⟨by decide +kernel, by decide +kernel⟩, List.mem_of_getElem? (i := 124) (by decide +kernel), List.mem_of_getElem? (i := 401) (by decide +kernel), List.mem_of_getElem? (i := 402) (by decide +kernel)⟩
theorem lw_p9 : lw_okq (⟨"CircuitFiles$Reader", "readHeader", "(LCircuitFiles$Circuit;)Z"⟩, 6) := ⟨⟨by decide +kernel, by decide +kernel⟩, List.mem_of_getElem? (i := 46) (by decide +kernel), List.mem_of_getElem? (i := 471) (by decide +kernel), List.mem_of_getElem? (i := 472) (by decide +kernel)⟩
theorem lw_p10 : lw_okq (⟨"CircuitFiles$Reader", "readCount", "()Z"⟩, 6) := ⟨⟨by decide +kernel, by decide +kernel⟩, List.mem_of_getElem? (i := 46) (by decide +kernel), List.mem_of_getElem? (i := 488) (by decide +kernel), List.mem_of_getElem? (i := 489) (by decide +kernel)⟩
theorem lw_p11 : lw_okq (⟨"CircuitFiles$Reader", "readInputs", "(LCircuitFiles$Circuit;)Z"⟩, 6) := ⟨⟨by decide +kernel, by decide +kernel⟩, List.mem_of_getElem? (i := 46) (by decide +kernel), List.mem_of_getElem? (i := 501) (by decide +kernel), List.mem_of_getElem? (i := 502) (by decide +kernel)⟩
theorem lw_p12 : lw_okq (⟨"CircuitFiles$Reader", "readDefinition", "(LCircuitFiles$Circuit;)Z"⟩, 6) := ⟨⟨by decide +kernel, by decide +kernel⟩, List.mem_of_getElem? (i := 46) (by decide +kernel), List.mem_of_getElem? (i := 505) (by decide +kernel), List.mem_of_getElem? (i := 506) (by decide +kernel)⟩
theorem lw_p13 : lw_okq (⟨"CircuitFiles$Reader", "readLiteral", "(LCircuitFiles$Circuit;)Z"⟩, 6) := ⟨⟨by decide +kernel, by decide +kernel⟩, List.mem_of_getElem? (i := 46) (by decide +kernel), List.mem_of_getElem? (i := 509) (by decide +kernel), List.mem_of_getElem? (i := 510) (by decide +kernel)⟩
theorem lw_p14 : lw_okq (⟨"CircuitFiles$Reader", "readLatches", "(LCircuitFiles$Circuit;)Z"⟩, 6) := ⟨⟨by decide +kernel, by decide +kernel⟩, List.mem_of_getElem? (i := 46) (by decide +kernel), List.mem_of_getElem? (i := 514) (by decide +kernel), List.mem_of_getElem? (i := 515) (by decide +kernel)⟩
theorem lw_p15 : lw_okq (⟨"CircuitFiles$Reader", "readUse", "(LCircuitFiles$Circuit;)Z"⟩, 6) := ⟨⟨by decide +kernel, by decide +kernel⟩, List.mem_of_getElem? (i := 46) (by decide +kernel), List.mem_of_getElem? (i := 518) (by decide +kernel), List.mem_of_getElem? (i := 519) (by decide +kernel)⟩
def lw_privs_1 : List (MethodName × Nat) := [(⟨"CircuitFiles$Form", "numberAnew", "(LCircuitFiles$Circuit;)V"⟩, 4), (⟨"CircuitFiles$Form", "putHeader", "(LCircuitFiles$Circuit;II)V"⟩, 4), (⟨"CircuitFiles$Form", "put", "(I)V"⟩, 4), (⟨"CircuitFiles$Form", "putNumber", "(II)V"⟩, 4), (⟨"CircuitFiles$Form", "newLiteral", "(I)I"⟩, 4), (⟨"CircuitFiles$Form", "putBinaryAnd", "(LCircuitFiles$Circuit;I)V"⟩, 4), (⟨"CircuitFiles$Form", "putDelta", "(I)V"⟩, 4), (⟨"CircuitFiles$Form", "putSymbols", "(LCircuitFiles$Circuit;)V"⟩, 4), (⟨"CircuitFiles$Form", "putName", "(LCircuitFiles$Circuit;I)V"⟩, 4), (⟨"CircuitFiles$Reader", "readHeader", "(LCircuitFiles$Circuit;)Z"⟩, 6), (⟨"CircuitFiles$Reader", "readCount", "()Z"⟩, 6), (⟨"CircuitFiles$Reader", "readInputs", "(LCircuitFiles$Circuit;)Z"⟩, 6), (⟨"CircuitFiles$Reader", "readDefinition", "(LCircuitFiles$Circuit;)Z"⟩, 6), (⟨"CircuitFiles$Reader", "readLiteral", "(LCircuitFiles$Circuit;)Z"⟩, 6), (⟨"CircuitFiles$Reader", "readLatches", "(LCircuitFiles$Circuit;)Z"⟩, 6), (⟨"CircuitFiles$Reader", "readUse", "(LCircuitFiles$Circuit;)Z"⟩, 6)]
theorem lw_r1 : ∀ q ∈ lw_privs_1, lw_okq q := List.forall_mem_cons.mpr ⟨lw_p0, List.forall_mem_cons.mpr ⟨lw_p1, List.forall_mem_cons.mpr ⟨lw_p2, List.forall_mem_cons.mpr ⟨lw_p3, List.forall_mem_cons.mpr ⟨lw_p4, List.forall_mem_cons.mpr ⟨lw_p5, List.forall_mem_cons.mpr ⟨lw_p6, List.forall_mem_cons.mpr ⟨lw_p7, List.forall_mem_cons.mpr ⟨lw_p8, List.forall_mem_cons.mpr ⟨lw_p9, List.forall_mem_cons.mpr ⟨lw_p10, List.forall_mem_cons.mpr ⟨lw_p11, List.forall_mem_cons.mpr ⟨lw_p12, List.forall_mem_cons.mpr ⟨lw_p13, List.forall_mem_cons.mpr ⟨lw_p14, List.forall_mem_cons.mpr ⟨lw_p15, fun _ h => absurd h List.not_mem_nil⟩⟩⟩⟩⟩⟩⟩⟩⟩⟩⟩⟩⟩⟩⟩⟩
theorem lw_p16 : lw_okq (⟨"CircuitFiles$Reader", "readOutputs", "(LCircuitFiles$Circuit;)Z"⟩, 6) := ⟨⟨by decide +kernel, by decide +kernel⟩, List.mem_of_getElem? (i := 46) (by decide +kernel), List.mem_of_getElem? (i := 522) (by decide +kernel), List.mem_of_getElem? (i := 523) (by decide +kernel)⟩
theorem lw_p17 : lw_okq (⟨"CircuitFiles$Reader", "readBinaryAnds", "(LCircuitFiles$Circuit;)Z"⟩, 6) := ⟨⟨by decide +kernel, by decide +kernel⟩, List.mem_of_getElem? (i := 46) (by decide +kernel), List.mem_of_getElem? (i := 526) (by decide +kernel), List.mem_of_getElem? (i := 527) (by decide +kernel)⟩
theorem lw_p18 : lw_okq (⟨"CircuitFiles$Reader", "readDelta", "(II)Z"⟩, 6) := ⟨⟨by decide +kernel, by decide +kernel⟩, List.mem_of_getElem? (i := 46) (by decide +kernel), List.mem_of_getElem? (i := 530) (by decide +kernel), List.mem_of_getElem? (i := 531) (by decide +kernel)⟩
theorem lw_p19 : lw_okq (⟨"CircuitFiles$Reader", "readTextAnds", "(LCircuitFiles$Circuit;)Z"⟩, 6) := ⟨⟨by decide +kernel, by decide +kernel⟩, List.mem_of_getElem? (i := 46) (by decide +kernel), List.mem_of_getElem? (i := 538) (by decide +kernel), List.mem_of_getElem? (i := 539) (by decide +kernel)⟩
theorem lw_p20 : lw_okq (⟨"CircuitFiles$Reader", "readSymbols", "(LCircuitFiles$Circuit;)Z"⟩, 6) := ⟨⟨by decide +kernel, by decide +kernel⟩, List.mem_of_getElem? (i := 46) (by decide +kernel), List.mem_of_getElem? (i := 542) (by decide +kernel), List.mem_of_getElem? (i := 543) (by decide +kernel)⟩
theorem lw_p21 : lw_okq (⟨"CircuitFiles$Reader", "readSymbol", "(LCircuitFiles$Circuit;I)Z"⟩, 6) := ⟨⟨by decide +kernel, by decide +kernel⟩, List.mem_of_getElem? (i := 46) (by decide +kernel), List.mem_of_getElem? (i := 551) (by decide +kernel), List.mem_of_getElem? (i := 552) (by decide +kernel)⟩
theorem lw_p22 : lw_okq (⟨"CircuitFiles$Reader", "readName", "(LCircuitFiles$Circuit;I)Z"⟩, 6) := ⟨⟨by decide +kernel, by decide +kernel⟩, List.mem_of_getElem? (i := 46) (by decide +kernel), List.mem_of_getElem? (i := 557) (by decide +kernel), List.mem_of_getElem? (i := 558) (by decide +kernel)⟩
theorem lw_p23 : lw_okq (⟨"CircuitFiles$Reader", "checkUses", "(LCircuitFiles$Circuit;)Z"⟩, 6) := ⟨⟨by decide +kernel, by decide +kernel⟩, List.mem_of_getElem? (i := 46) (by decide +kernel), List.mem_of_getElem? (i := 561) (by decide +kernel), List.mem_of_getElem? (i := 562) (by decide +kernel)⟩
theorem lw_p24 : lw_okq (⟨"CircuitFiles$Reader", "checkLoops", "(LCircuitFiles$Circuit;)Z"⟩, 6) := ⟨⟨by decide +kernel, by decide +kernel⟩, List.mem_of_getElem? (i := 46) (by decide +kernel), List.mem_of_getElem? (i := 566) (by decide +kernel), List.mem_of_getElem? (i := 567) (by decide +kernel)⟩
theorem lw_p25 : lw_okq (⟨"CircuitFiles$AndSorter", "awaitAnds", "(LCircuitFiles$Circuit;)V"⟩, 5) := ⟨⟨by decide +kernel, by decide +kernel⟩, List.mem_of_getElem? (i := 52) (by decide +kernel), List.mem_of_getElem? (i := 574) (by decide +kernel), List.mem_of_getElem? (i := 575) (by decide +kernel)⟩
theorem lw_p26 : lw_okq (⟨"CircuitFiles$AndSorter", "firstReady", "(LCircuitFiles$Circuit;I)I"⟩, 5) := ⟨⟨by decide +kernel, by decide +kernel⟩, List.mem_of_getElem? (i := 52) (by decide +kernel), List.mem_of_getElem? (i := 578) (by decide +kernel), List.mem_of_getElem? (i := 579) (by decide +kernel)⟩
theorem lw_p27 : lw_okq (⟨"CircuitFiles$AndSorter", "reachesItself", "(LCircuitFiles$Circuit;I)Z"⟩, 5) := ⟨⟨by decide +kernel, by decide +kernel⟩, List.mem_of_getElem? (i := 52) (by decide +kernel), List.mem_of_getElem? (i := 586) (by decide +kernel), List.mem_of_getElem? (i := 587) (by decide +kernel)⟩
theorem lw_p28 : lw_okq (⟨"CircuitFiles$AndSorter", "reach", "(I)V"⟩, 5) := ⟨⟨by decide +kernel, by decide +kernel⟩, List.mem_of_getElem? (i := 52) (by decide +kernel), List.mem_of_getElem? (i := 590) (by decide +kernel), List.mem_of_getElem? (i := 591) (by decide +kernel)⟩
theorem lw_p29 : lw_okq (⟨"java/lang/Throwable", "fillInStackTrace", "(I)Ljava/lang/Throwable;"⟩, 6) := ⟨⟨by decide +kernel, by decide +kernel⟩, List.mem_of_getElem? (i := 634) (by decide +kernel), List.mem_of_getElem? (i := 632) (by decide +kernel), List.mem_of_getElem? (i := 633) (by decide +kernel)⟩
theorem lw_p30 : lw_okq (⟨"CircuitFilesModel", "takeHead", "()Z"⟩, 34) := ⟨⟨by decide +kernel, by decide +kernel⟩, List.mem_of_getElem? (i := 667) (by decide +kernel), List.mem_of_getElem? (i := 792) (by decide +kernel), List.mem_of_getElem? (i := 793) (by decide +kernel)⟩
theorem lw_p31 : lw_okq (⟨"CircuitFilesModel", "take", "(I)V"⟩, 34) := ⟨⟨by decide +kernel, by decide +kernel⟩, List.mem_of_getElem? (i := 667) (by decide +kernel), List.mem_of_getElem? (i := 796) (by decide +kernel), List.mem_of_getElem? (i := 797) (by decide +kernel)⟩
def lw_privs_2 : List (MethodName × Nat) := [(⟨"CircuitFiles$Reader", "readOutputs", "(LCircuitFiles$Circuit;)Z"⟩, 6), (⟨"CircuitFiles$Reader", "readBinaryAnds", "(LCircuitFiles$Circuit;)Z"⟩, 6), (⟨"CircuitFiles$Reader", "readDelta", "(II)Z"⟩, 6), (⟨"CircuitFiles$Reader", "readTextAnds", "(LCircuitFiles$Circuit;)Z"⟩, 6), (⟨"CircuitFiles$Reader", "readSymbols", "(LCircuitFiles$Circuit;)Z"⟩, 6), (⟨"CircuitFiles$Reader", "readSymbol", "(LCircuitFiles$Circuit;I)Z"⟩, 6), (⟨"CircuitFiles$Reader", "readName", "(LCircuitFiles$Circuit;I)Z"⟩, 6), (⟨"CircuitFiles$Reader", "checkUses", "(LCircuitFiles$Circuit;)Z"⟩, 6), (⟨"CircuitFiles$Reader", "checkLoops", "(LCircuitFiles$Circuit;)Z"⟩, 6), (⟨"CircuitFiles$AndSorter", "awaitAnds", "(LCircuitFiles$Circuit;)V"⟩, 5), (⟨"CircuitFiles$AndSorter", "firstReady", "(LCircuitFiles$Circuit;I)I"⟩, 5), (⟨"CircuitFiles$AndSorter", "reachesItself", "(LCircuitFiles$Circuit;I)Z"⟩, 5), (⟨"CircuitFiles$AndSorter", "reach", "(I)V"⟩, 5), (⟨"java/lang/Throwable", "fillInStackTrace", "(I)Ljava/lang/Throwable;"⟩, 6), (⟨"CircuitFilesModel", "takeHead", "()Z"⟩, 34), (⟨"CircuitFilesModel", "take", "(I)V"⟩, 34)]
theorem lw_r2 : ∀ q ∈ lw_privs_2, lw_okq q := List.forall_mem_cons.mpr ⟨lw_p16, List.forall_mem_cons.mpr ⟨lw_p17, List.forall_mem_cons.mpr ⟨lw_p18, List.forall_mem_cons.mpr ⟨lw_p19, List.forall_mem_cons.mpr ⟨lw_p20, List.forall_mem_cons.mpr ⟨lw_p21, List.forall_mem_cons.mpr ⟨lw_p22, List.forall_mem_cons.mpr ⟨lw_p23, List.forall_mem_cons.mpr ⟨lw_p24, List.forall_mem_cons.mpr ⟨lw_p25, List.forall_mem_cons.mpr ⟨lw_p26, List.forall_mem_cons.mpr ⟨lw_p27, List.forall_mem_cons.mpr ⟨lw_p28, List.forall_mem_cons.mpr ⟨lw_p29, List.forall_mem_cons.mpr ⟨lw_p30, List.forall_mem_cons.mpr ⟨lw_p31, fun _ h => absurd h List.not_mem_nil⟩⟩⟩⟩⟩⟩⟩⟩⟩⟩⟩⟩⟩⟩⟩⟩
theorem lw_p32 : lw_okq (⟨"CircuitFilesModel", "here", "()I"⟩, 34) := ⟨⟨by decide +kernel, by decide +kernel⟩, List.mem_of_getElem? (i := 667) (by decide +kernel), List.mem_of_getElem? (i := 800) (by decide +kernel), List.mem_of_getElem? (i := 801) (by decide +kernel)⟩
theorem lw_p33 : lw_okq (⟨"CircuitFilesModel", "wrong", "(II)V"⟩, 34) := ⟨⟨by decide +kernel, by decide +kernel⟩, List.mem_of_getElem? (i := 667) (by decide +kernel), List.mem_of_getElem? (i := 804) (by decide +kernel), List.mem_of_getElem? (i := 805) (by decide +kernel)⟩
theorem lw_p34 : lw_okq (⟨"CircuitFilesModel", "takeNumber", "()V"⟩, 34) := ⟨⟨by decide +kernel, by decide +kernel⟩, List.mem_of_getElem? (i := 667) (by decide +kernel), List.mem_of_getElem? (i := 808) (by decide +kernel), List.mem_of_getElem? (i := 809) (by decide +kernel)⟩
theorem lw_p35 : lw_okq (⟨"CircuitFilesModel", "isDigit", "()Z"⟩, 34) := ⟨⟨by decide +kernel, by decide +kernel⟩, List.mem_of_getElem? (i := 667) (by decide +kernel), List.mem_of_getElem? (i := 812) (by decide +kernel), List.mem_of_getElem? (i := 813) (by decide +kernel)⟩
theorem lw_p36 : lw_okq (⟨"CircuitFilesModel", "takeBinary", "()V"⟩, 34) := ⟨⟨by decide +kernel, by decide +kernel⟩, List.mem_of_getElem? (i := 667) (by decide +kernel), List.mem_of_getElem? (i := 816) (by decide +kernel), List.mem_of_getElem? (i := 817) (by decide +kernel)⟩
theorem lw_p37 : lw_okq (⟨"CircuitFilesModel", "define", "(III)V"⟩, 34) := ⟨⟨by decide +kernel, by decide +kernel⟩, List.mem_of_getElem? (i := 667) (by decide +kernel), List.mem_of_getElem? (i := 820) (by decide +kernel), List.mem_of_getElem? (i := 821) (by decide +kernel)⟩
theorem lw_p38 : lw_okq (⟨"CircuitFilesModel", "takeNext", "(I)V"⟩, 34) := ⟨⟨by decide +kernel, by decide +kernel⟩, List.mem_of_getElem? (i := 667) (by decide +kernel), List.mem_of_getElem? (i := 824) (by decide +kernel), List.mem_of_getElem? (i := 825) (by decide +kernel)⟩
theorem lw_p39 : lw_okq (⟨"CircuitFilesModel", "literal", "()I"⟩, 34) := ⟨⟨by decide +kernel, by decide +kernel⟩, List.mem_of_getElem? (i := 667) (by decide +kernel), List.mem_of_getElem? (i := 828) (by decide +kernel), List.mem_of_getElem? (i := 829) (by decide +kernel)⟩
theorem lw_p40 : lw_okq (⟨"CircuitFilesModel", "takeOutputs", "()V"⟩, 34) := ⟨⟨by decide +kernel, by decide +kernel⟩, List.mem_of_getElem? (i := 667) (by decide +kernel), List.mem_of_getElem? (i := 832) (by decide +kernel), List.mem_of_getElem? (i := 833) (by decide +kernel)⟩
theorem lw_p41 : lw_okq (⟨"CircuitFilesModel", "delta", "(II)I"⟩, 34) := ⟨⟨by decide +kernel, by decide +kernel⟩, List.mem_of_getElem? (i := 667) (by decide +kernel), List.mem_of_getElem? (i := 836) (by decide +kernel), List.mem_of_getElem? (i := 837) (by decide +kernel)⟩
theorem lw_p42 : lw_okq (⟨"CircuitFilesModel", "takeText", "()V"⟩, 34) := ⟨⟨by decide +kernel, by decide +kernel⟩, List.mem_of_getElem? (i := 667) (by decide +kernel), List.mem_of_getElem? (i := 840) (by decide +kernel), List.mem_of_getElem? (i := 841) (by decide +kernel)⟩
theorem lw_p43 : lw_okq (⟨"CircuitFilesModel", "defines", "(II)I"⟩, 34) := ⟨⟨by decide +kernel, by decide +kernel⟩, List.mem_of_getElem? (i := 667) (by decide +kernel), List.mem_of_getElem? (i := 844) (by decide +kernel), List.mem_of_getElem? (i := 845) (by decide +kernel)⟩
theorem lw_p44 : lw_okq (⟨"CircuitFilesModel", "takeSymbols", "()V"⟩, 34) := ⟨⟨by decide +kernel, by decide +kernel⟩, List.mem_of_getElem? (i := 667) (by decide +kernel), List.mem_of_getElem? (i := 848) (by decide +kernel), List.mem_of_getElem? (i := 849) (by decide +kernel)⟩
theorem lw_p45 : lw_okq (⟨"CircuitFilesModel", "findNowhere", "()V"⟩, 34) := ⟨⟨by decide +kernel, by decide +kernel⟩, List.mem_of_getElem? (i := 667) (by decide +kernel), List.mem_of_getElem? (i := 852) (by decide +kernel), List.mem_of_getElem? (i := 853) (by decide +kernel)⟩
theorem lw_p46 : lw_okq (⟨"CircuitFilesModel", "isNowhere", "(I)Z"⟩, 34) := ⟨⟨by decide +kernel, by decide +kernel⟩, List.mem_of_getElem? (i := 667) (by decide +kernel), List.mem_of_getElem? (i := 856) (by decide +kernel), List.mem_of_getElem? (i := 857) (by decide +kernel)⟩
theorem lw_p47 : lw_okq (⟨"CircuitFilesModel", "findRing", "()V"⟩, 34) := ⟨⟨by decide +kernel, by decide +kernel⟩, List.mem_of_getElem? (i := 667) (by decide +kernel), List.mem_of_getElem? (i := 860) (by decide +kernel), List.mem_of_getElem? (i := 861) (by decide +kernel)⟩
def lw_privs_3 : List (MethodName × Nat) := [(⟨"CircuitFilesModel", "here", "()I"⟩, 34), (⟨"CircuitFilesModel", "wrong", "(II)V"⟩, 34), (⟨"CircuitFilesModel", "takeNumber", "()V"⟩, 34), (⟨"CircuitFilesModel", "isDigit", "()Z"⟩, 34), (⟨"CircuitFilesModel", "takeBinary", "()V"⟩, 34), (⟨"CircuitFilesModel", "define", "(III)V"⟩, 34), (⟨"CircuitFilesModel", "takeNext", "(I)V"⟩, 34), (⟨"CircuitFilesModel", "literal", "()I"⟩, 34), (⟨"CircuitFilesModel", "takeOutputs", "()V"⟩, 34), (⟨"CircuitFilesModel", "delta", "(II)I"⟩, 34), (⟨"CircuitFilesModel", "takeText", "()V"⟩, 34), (⟨"CircuitFilesModel", "defines", "(II)I"⟩, 34), (⟨"CircuitFilesModel", "takeSymbols", "()V"⟩, 34), (⟨"CircuitFilesModel", "findNowhere", "()V"⟩, 34), (⟨"CircuitFilesModel", "isNowhere", "(I)Z"⟩, 34), (⟨"CircuitFilesModel", "findRing", "()V"⟩, 34)]
theorem lw_r3 : ∀ q ∈ lw_privs_3, lw_okq q := List.forall_mem_cons.mpr ⟨lw_p32, List.forall_mem_cons.mpr ⟨lw_p33, List.forall_mem_cons.mpr ⟨lw_p34, List.forall_mem_cons.mpr ⟨lw_p35, List.forall_mem_cons.mpr ⟨lw_p36, List.forall_mem_cons.mpr ⟨lw_p37, List.forall_mem_cons.mpr ⟨lw_p38, List.forall_mem_cons.mpr ⟨lw_p39, List.forall_mem_cons.mpr ⟨lw_p40, List.forall_mem_cons.mpr ⟨lw_p41, List.forall_mem_cons.mpr ⟨lw_p42, List.forall_mem_cons.mpr ⟨lw_p43, List.forall_mem_cons.mpr ⟨lw_p44, List.forall_mem_cons.mpr ⟨lw_p45, List.forall_mem_cons.mpr ⟨lw_p46, List.forall_mem_cons.mpr ⟨lw_p47, fun _ h => absurd h List.not_mem_nil⟩⟩⟩⟩⟩⟩⟩⟩⟩⟩⟩⟩⟩⟩⟩⟩
theorem lw_p48 : lw_okq (⟨"CircuitFilesModel", "sort", "()V"⟩, 34) := ⟨⟨by decide +kernel, by decide +kernel⟩, List.mem_of_getElem? (i := 667) (by decide +kernel), List.mem_of_getElem? (i := 864) (by decide +kernel), List.mem_of_getElem? (i := 865) (by decide +kernel)⟩
theorem lw_p49 : lw_okq (⟨"CircuitFilesModel", "hasCome", "(I)Z"⟩, 34) := ⟨⟨by decide +kernel, by decide +kernel⟩, List.mem_of_getElem? (i := 667) (by decide +kernel), List.mem_of_getElem? (i := 868) (by decide +kernel), List.mem_of_getElem? (i := 869) (by decide +kernel)⟩
theorem lw_p50 : lw_okq (⟨"CircuitFilesModel", "hangs", "(I)Z"⟩, 34) := ⟨⟨by decide +kernel, by decide +kernel⟩, List.mem_of_getElem? (i := 667) (by decide +kernel), List.mem_of_getElem? (i := 872) (by decide +kernel), List.mem_of_getElem? (i := 873) (by decide +kernel)⟩
theorem lw_p51 : lw_okq (⟨"CircuitFilesModel", "keep", "()V"⟩, 34) := ⟨⟨by decide +kernel, by decide +kernel⟩, List.mem_of_getElem? (i := 667) (by decide +kernel), List.mem_of_getElem? (i := 876) (by decide +kernel), List.mem_of_getElem? (i := 877) (by decide +kernel)⟩
theorem lw_p52 : lw_okq (⟨"CircuitFilesModel", "sortAgain", "()V"⟩, 34) := ⟨⟨by decide +kernel, by decide +kernel⟩, List.mem_of_getElem? (i := 667) (by decide +kernel), List.mem_of_getElem? (i := 899) (by decide +kernel), List.mem_of_getElem? (i := 900) (by decide +kernel)⟩
theorem lw_p53 : lw_okq (⟨"CircuitFilesModel", "layHead", "(Z)V"⟩, 34) := ⟨⟨by decide +kernel, by decide +kernel⟩, List.mem_of_getElem? (i := 667) (by decide +kernel), List.mem_of_getElem? (i := 903) (by decide +kernel), List.mem_of_getElem? (i := 904) (by decide +kernel)⟩
theorem lw_p54 : lw_okq (⟨"CircuitFilesModel", "lay", "(I)V"⟩, 34) := ⟨⟨by decide +kernel, by decide +kernel⟩, List.mem_of_getElem? (i := 667) (by decide +kernel), List.mem_of_getElem? (i := 907) (by decide +kernel), List.mem_of_getElem? (i := 908) (by decide +kernel)⟩
theorem lw_p55 : lw_okq (⟨"CircuitFilesModel", "layNumber", "(II)V"⟩, 34) := ⟨⟨by decide +kernel, by decide +kernel⟩, List.mem_of_getElem? (i := 667) (by decide +kernel), List.mem_of_getElem? (i := 911) (by decide +kernel), List.mem_of_getElem? (i := 912) (by decide +kernel)⟩
theorem lw_p56 : lw_okq (⟨"CircuitFilesModel", "layBinary", "()V"⟩, 34) := ⟨⟨by decide +kernel, by decide +kernel⟩, List.mem_of_getElem? (i := 667) (by decide +kernel), List.mem_of_getElem? (i := 915) (by decide +kernel), List.mem_of_getElem? (i := 916) (by decide +kernel)⟩
theorem lw_p57 : lw_okq (⟨"CircuitFilesModel", "renamed", "(I)I"⟩, 34) := ⟨⟨by decide +kernel, by decide +kernel⟩, List.mem_of_getElem? (i := 667) (by decide +kernel), List.mem_of_getElem? (i := 919) (by decide +kernel), List.mem_of_getElem? (i := 920) (by decide +kernel)⟩
theorem lw_p58 : lw_okq (⟨"CircuitFilesModel", "layDelta", "(I)V"⟩, 34) := ⟨⟨by decide +kernel, by decide +kernel⟩, List.mem_of_getElem? (i := 667) (by decide +kernel), List.mem_of_getElem? (i := 923) (by decide +kernel), List.mem_of_getElem? (i := 924) (by decide +kernel)⟩
theorem lw_p59 : lw_okq (⟨"CircuitFilesModel", "layText", "()V"⟩, 34) := ⟨⟨by decide +kernel, by decide +kernel⟩, List.mem_of_getElem? (i := 667) (by decide +kernel), List.mem_of_getElem? (i := 927) (by decide +kernel), List.mem_of_getElem? (i := 928) (by decide +kernel)⟩
theorem lw_p60 : lw_okq (⟨"CircuitFilesModel", "laySymbols", "()V"⟩, 34) := ⟨⟨by decide +kernel, by decide +kernel⟩, List.mem_of_getElem? (i := 667) (by decide +kernel), List.mem_of_getElem? (i := 931) (by decide +kernel), List.mem_of_getElem? (i := 932) (by decide +kernel)⟩
theorem lw_p61 : lw_okq (⟨"CircuitFilesModel", "reckon", "(I)V"⟩, 34) := ⟨⟨by decide +kernel, by decide +kernel⟩, List.mem_of_getElem? (i := 667) (by decide +kernel), List.mem_of_getElem? (i := 947) (by decide +kernel), List.mem_of_getElem? (i := 948) (by decide +kernel)⟩
theorem lw_p62 : lw_okq (⟨"CircuitFilesModel", "of", "(I)I"⟩, 34) := ⟨⟨by decide +kernel, by decide +kernel⟩, List.mem_of_getElem? (i := 667) (by decide +kernel), List.mem_of_getElem? (i := 951) (by decide +kernel), List.mem_of_getElem? (i := 952) (by decide +kernel)⟩
def lw_privs_4 : List (MethodName × Nat) := [(⟨"CircuitFilesModel", "sort", "()V"⟩, 34), (⟨"CircuitFilesModel", "hasCome", "(I)Z"⟩, 34), (⟨"CircuitFilesModel", "hangs", "(I)Z"⟩, 34), (⟨"CircuitFilesModel", "keep", "()V"⟩, 34), (⟨"CircuitFilesModel", "sortAgain", "()V"⟩, 34), (⟨"CircuitFilesModel", "layHead", "(Z)V"⟩, 34), (⟨"CircuitFilesModel", "lay", "(I)V"⟩, 34), (⟨"CircuitFilesModel", "layNumber", "(II)V"⟩, 34), (⟨"CircuitFilesModel", "layBinary", "()V"⟩, 34), (⟨"CircuitFilesModel", "renamed", "(I)I"⟩, 34), (⟨"CircuitFilesModel", "layDelta", "(I)V"⟩, 34), (⟨"CircuitFilesModel", "layText", "()V"⟩, 34), (⟨"CircuitFilesModel", "laySymbols", "()V"⟩, 34), (⟨"CircuitFilesModel", "reckon", "(I)V"⟩, 34), (⟨"CircuitFilesModel", "of", "(I)I"⟩, 34)]
theorem lw_r4 : ∀ q ∈ lw_privs_4, lw_okq q := List.forall_mem_cons.mpr ⟨lw_p48, List.forall_mem_cons.mpr ⟨lw_p49, List.forall_mem_cons.mpr ⟨lw_p50, List.forall_mem_cons.mpr ⟨lw_p51, List.forall_mem_cons.mpr ⟨lw_p52, List.forall_mem_cons.mpr ⟨lw_p53, List.forall_mem_cons.mpr ⟨lw_p54, List.forall_mem_cons.mpr ⟨lw_p55, List.forall_mem_cons.mpr ⟨lw_p56, List.forall_mem_cons.mpr ⟨lw_p57, List.forall_mem_cons.mpr ⟨lw_p58, List.forall_mem_cons.mpr ⟨lw_p59, List.forall_mem_cons.mpr ⟨lw_p60, List.forall_mem_cons.mpr ⟨lw_p61, List.forall_mem_cons.mpr ⟨lw_p62, fun _ h => absurd h List.not_mem_nil⟩⟩⟩⟩⟩⟩⟩⟩⟩⟩⟩⟩⟩⟩⟩
def lw_privs : List (MethodName × Nat) := lw_privs_1 ++ (lw_privs_2 ++ (lw_privs_3 ++ (lw_privs_4)))
def lw_tbl : List Cond := k2_sels lw_privs ++ tables_1
theorem lw_privs_ok : ∀ q ∈ lw_privs, lw_okq q := by
  show ∀ q ∈ lw_privs_1 ++ (lw_privs_2 ++ (lw_privs_3 ++ (lw_privs_4))), lw_okq q
  exact List.forall_mem_append.mpr ⟨lw_r1, List.forall_mem_append.mpr ⟨lw_r2, List.forall_mem_append.mpr ⟨lw_r3, lw_r4⟩⟩⟩
end
section
def TB : List Cond := lw_tbl.filter goodWord
theorem tb_mem {w : Cond} {i : Nat} (h : lw_tbl[i]? = some w) (hg : goodWord w = true) : w ∈ TB := List.mem_filter.mpr ⟨List.mem_of_getElem? h, hg⟩
theorem tb_sub {ws : List Cond} (ps : List Nat) (hp : ws = ps.filterMap (fun i => lw_tbl[i]?)) (h : ws.all goodWord = true) : ∀ w ∈ ws, w ∈ TB := by
  intro w hw
  have h1 := List.all_eq_true.mp h w hw
  rw [hp] at hw
  obtain ⟨i, -, hi⟩ := List.mem_filterMap.mp hw
  exact tb_mem hi h1
theorem tb_good : GoodIn TB TB := fun w h => ⟨h, good_of_word (List.mem_filter.mp h).2⟩
theorem gC {cd : Cond} (h : cd ∈ TB) : GoodIn TB (cd :: TB) := fun w hw => (List.mem_cons.mp hw).elim (fun e => by rw [e]; exact tb_good cd h) (fun hw => tb_good w hw)
theorem gV {own C : String} {idx : Nat} {y : MethodName} {cd : Cond} (h1 : Cond.methodLink own idx y ∈ TB) (h2 : Cond.instanceMethod y ∈ TB) (h3 : Cond.selects C y y ∈ TB) (h4 : Cond.initialized C ∈ TB) (h5 : cd ∈ TB) : GoodIn TB (wsV own idx C y (cd :: TB)) := by
  intro w hw
  rcases List.mem_append.mp hw with h | h
  · simp only [List.mem_cons, List.not_mem_nil, or_false] at h
    rcases h with rfl | rfl | rfl | rfl
    · exact tb_good _ h1
    · exact tb_good _ h2
    · exact tb_good _ h3
    · exact tb_good _ h4
  · exact gC h5 w h
/-- words about private members of nest mates: carried by the state -/
def isNest : Cond → Bool
  | .fieldLinkNest .. => true
  | .methodLinkNest .. => true
  | _ => false
theorem nw_warm {w : Cond} (hn : isNest w = true) {s U : State} (hW : s.WarmedH U.vm) (h : va_Nw w s) : va_Nw w U := by
  cases w <;> first | (simp [isNest] at hn; done) | exact va_Nw.warmF hW h | exact va_Nw.warmM hW h
theorem nw_same {w : Cond} (hn : isNest w = true) {u U : State} (hW : u.vm = U.vm) (h : va_Nw w u) : va_Nw w U := by
  cases w <;> first | (simp [isNest] at hn; done) | exact va_Nw.same rfl hW h
theorem vq_fm {α β : Type} (f : α → Option β) : ∀ (is : List α) (w : List β), is.map f = w.map some → is.filterMap f = w := by
  intro is
  induction is with
  | nil => intro w h; cases w with
    | nil => rfl
    | cons b w => simp at h
  | cons a is ih => intro w h; cases w with
    | nil => simp at h
    | cons b w =>
      simp only [List.map_cons, List.cons.injEq] at h
      rw [List.filterMap_cons, h.1]
      simp only
      rw [ih w h.2]
/-- what a standing fact must bear: cells outside A kept, a smaller A, a warmer machine, another frame -/
def SPok (SP : (Nat → Prop) → State → Heap → Prop) : Prop := (∀ (A : Nat → Prop) (U : State) (H H1 : Heap), SP A U H → (∀ a : Nat, a < H.size → ¬ A a → H1[a]? = H[a]?) → SP A U H1) ∧ (∀ (A B : Nat → Prop) (U : State) (H : Heap), SP A U H → (∀ q, B q → A q) → SP B U H) ∧ (∀ (A : Nat → Prop) (s U : State) (H : Heap), s.WarmedH U.vm → SP A s H → SP A U H) ∧ (∀ (A : Nat → Prop) (u U : State) (H : Heap), u.vm = U.vm → SP A u H → SP A U H)
def preC (D : va_G) (cl : List vw_C) (tys : List (ClassId × FieldType)) (SP : (Nat → Prop) → State → Heap → Prop) (ws : va_W) (sz : Nat) (U : State) : Prop := U.heap.size = sz ∧ va_P D cl ws U.heap ∧ va_K D cl tys U ∧ va_D (fun _ => True) ws ∧ SPok SP ∧ SP (va_A ws sz) U U.heap
def atC (D : va_G) (cl : List vw_C) (tys : List (ClassId × FieldType)) (A : Nat → Prop) (ws : va_W) (t : State) : Prop := va_P D cl ws t.heap ∧ va_K D cl tys t ∧ va_D A ws
def MetI (l : Launch) (y : MethodName) (wy : List Cond) (rm : Room) (D : va_G) (cl : List vw_C) (tys : List (ClassId × FieldType)) (SP : (Nat → Prop) → State → Heap → Prop) (av : List Value) (ws : va_W) {S : Type} (post : Int32 → S → Prop) (wf : S → va_W) : Prop :=
  ∀ sz, Met l y wy rm (va_Pc av (preC D cl tys SP ws sz)) (va_Qi post (fun u t => atC D cl tys (va_A ws sz) (wf u) t) (va_A ws sz)) 0 0 (va_A ws sz)
def MetV (l : Launch) (y : MethodName) (wy : List Cond) (rm : Room) (D : va_G) (cl : List vw_C) (tys : List (ClassId × FieldType)) (SP : (Nat → Prop) → State → Heap → Prop) (av : List Value) (ws : va_W) {S : Type} (post : S → Prop) (wf : S → va_W) : Prop :=
  ∀ sz, Met l y wy rm (va_Pc av (preC D cl tys SP ws sz)) (va_Qv post (fun u t => atC D cl tys (va_A ws sz) (wf u) t) (va_A ws sz)) 0 0 (va_A ws sz)
def QI (below : List Frame) (args : Array Value) (s : State) (D : va_G) (cl : List vw_C) (tys : List (ClassId × FieldType)) (A : Nat → Prop) {S : Type} (post : Int32 → S → Prop) (wf : S → va_W) : State → Prop := MQ below (va_Qi post (fun u t => atC D cl tys A (wf u) t) A) args s 0 0 A
def QV (below : List Frame) (args : Array Value) (s : State) (D : va_G) (cl : List vw_C) (tys : List (ClassId × FieldType)) (A : Nat → Prop) {S : Type} (post : S → Prop) (wf : S → va_W) : State → Prop := MQ below (va_Qv post (fun u t => atC D cl tys A (wf u) t) A) args s 0 0 A
/-! THE V LAYER: the kit's rows, with heap, locals and frame bound together. 'VV ws pc L st': from any heap that holds the cells ws, with locals L and stack st at pc, the machine comes to Q. -/
def VV (p : Program) (l : Launch) (e : Env) (R : Room) (s : State) (m : MethodId) (args : Array Value) (below : List Frame) (meth : Method) (c : Code) (nL : Nat) (D : va_G) (cl : List vw_C) (A : Nat → Prop) (cells slots : Nat) (Q : State → Prop) (ws : va_W) (pc : Nat) (L : List (Nat × Value)) (st : List Value) : Prop :=
  ∀ (H : Heap) (locs : List Loc) (ls : Array Slot), va_P D cl ws H → va_D A ws → va_S A s.heap H locs → lv_has ls nL L → W p l e R s m args below meth c H locs cells slots Q (F0 m pc ls st)
def CX (p : Program) (s : State) (m : MethodId) (args : Array Value) (meth : Method) (c : Code) (cc : ByteArray) (own : String) (Ts : List Cond) (nL : Nat) (D : va_G) (cl : List vw_C) (tys : List (ClassId × FieldType)) (A : Nat → Prop) (SP : (Nat → Prop) → State → Heap → Prop) (ret : Option FieldType) : Prop :=
  p.tables.exec = Jvm.exec ∧ c.code = cc ∧ c.maxLocals = nL ∧ s.vm.findClass own = some m.cls ∧ (∀ w ∈ Ts, w.before args s = true) ∧ va_K D cl tys s ∧ (∀ q : Nat, s.heap.size ≤ q → A q) ∧ (SPok SP ∧ SP A s s.heap) ∧ meth.sig.returnType = ret ∧ meth.locks = false
section VLAYER
variable {p : Program} {l : Launch} {e : Env} {R : Room} {s : State} {m : MethodId} {args : Array Value} {below : List Frame} {meth : Method} {c : Code} {cells slots : Nat} {Q : State → Prop}
variable {cc : ByteArray} {own : String} {Ts : List Cond} {SP : (Nat → Prop) → State → Heap → Prop} {nL : Nat} {D : va_G} {cl : List vw_C} {tys : List (ClassId × FieldType)} {A : Nat → Prop} {ret : Option FieldType}
variable {ws ws2 : va_W} {pc : Nat} {L L2 : List (Nat × Value)} {rest : List Value}
theorem vv_iconst (hC : CX p s m args meth c cc own Ts nL D cl tys A SP ret) {n : Int} {v : Int32} (hdg : decode cc pc = .ok (.iconst n, 1)) (hv : Int32.ofInt n = v) (k : VV p l e R s m args below meth c nL D cl A cells slots Q ws (pc + 1) L (.int v :: rest)) : VV p l e R s m args below meth c nL D cl A cells slots Q ws pc L rest := fun H locs ls hP hD hS h => lv_iconst hC.1 hC.2.1 hdg hv (k H locs ls hP hD hS h)
theorem vv_bipush (hC : CX p s m args meth c cc own Ts nL D cl tys A SP ret) {n : Int} {v : Int32} (hdg : decode cc pc = .ok (.bipush n, 2)) (hv : (Int8.ofInt n).toInt32 = v) (k : VV p l e R s m args below meth c nL D cl A cells slots Q ws (pc + 2) L (.int v :: rest)) : VV p l e R s m args below meth c nL D cl A cells slots Q ws pc L rest := fun H locs ls hP hD hS h => lv_bipush hC.1 hC.2.1 hdg hv (k H locs ls hP hD hS h)
theorem vv_sipush (hC : CX p s m args meth c cc own Ts nL D cl tys A SP ret) {n : Int} {v : Int32} (hdg : decode cc pc = .ok (.sipush n, 3)) (hv : (Int16.ofInt n).toInt32 = v) (k : VV p l e R s m args below meth c nL D cl A cells slots Q ws (pc + 3) L (.int v :: rest)) : VV p l e R s m args below meth c nL D cl A cells slots Q ws pc L rest := fun H locs ls hP hD hS h => lv_sipush hC.1 hC.2.1 hdg hv (k H locs ls hP hD hS h)
theorem vv_iload_n (hC : CX p s m args meth c cc own Ts nL D cl tys A SP ret) {k0 : Fin 4} {i : Nat} {x : Int32} (hdg : decode cc pc = .ok (.iload_n k0, 1)) (q : Nat) (hi : (k0 : Nat) = i) (hq : L[q]? = some (i, .int x)) (k : VV p l e R s m args below meth c nL D cl A cells slots Q ws (pc + 1) L (.int x :: rest)) : VV p l e R s m args below meth c nL D cl A cells slots Q ws pc L rest := fun H locs ls hP hD hS h => lv_iload_n hC.1 hC.2.1 hdg hi (lv_at h q hq) (k H locs ls hP hD hS h)
theorem vv_iload (hC : CX p s m args meth c cc own Ts nL D cl tys A SP ret) {i : Nat} {x : Int32} (hdg : decode cc pc = .ok (.iload i, 2)) (q : Nat) (hq : L[q]? = some (i, .int x)) (k : VV p l e R s m args below meth c nL D cl A cells slots Q ws (pc + 2) L (.int x :: rest)) : VV p l e R s m args below meth c nL D cl A cells slots Q ws pc L rest := fun H locs ls hP hD hS h => lv_iload hC.1 hC.2.1 hdg (lv_at h q hq) (k H locs ls hP hD hS h)
theorem vv_aload_n (hC : CX p s m args meth c cc own Ts nL D cl tys A SP ret) {k0 : Fin 4} {i x : Nat} (hdg : decode cc pc = .ok (.aload_n k0, 1)) (q : Nat) (hi : (k0 : Nat) = i) (hq : L[q]? = some (i, .ref x)) (k : VV p l e R s m args below meth c nL D cl A cells slots Q ws (pc + 1) L (.ref x :: rest)) : VV p l e R s m args below meth c nL D cl A cells slots Q ws pc L rest := fun H locs ls hP hD hS h => lv_aload_n hC.1 hC.2.1 hdg hi (lv_at h q hq) (k H locs ls hP hD hS h)
theorem vv_aload (hC : CX p s m args meth c cc own Ts nL D cl tys A SP ret) {i x : Nat} (hdg : decode cc pc = .ok (.aload i, 2)) (q : Nat) (hq : L[q]? = some (i, .ref x)) (k : VV p l e R s m args below meth c nL D cl A cells slots Q ws (pc + 2) L (.ref x :: rest)) : VV p l e R s m args below meth c nL D cl A cells slots Q ws pc L rest := fun H locs ls hP hD hS h => lv_aload hC.1 hC.2.1 hdg (lv_at h q hq) (k H locs ls hP hD hS h)
theorem vv_istore_n (hC : CX p s m args meth c cc own Ts nL D cl tys A SP ret) {k0 : Fin 4} {i : Nat} {x : Int32} (hdg : decode cc pc = .ok (.istore_n k0, 1)) (hi : (k0 : Nat) = i) (hn : i < nL) (ks : List Nat) (hl : lv_pick ((i, Value.int x) :: L.filter (fun q => !(q.1 == i) && !(q.1 + 1 == i && q.2.category == 2))) ks = L2) (k : VV p l e R s m args below meth c nL D cl A cells slots Q ws (pc + 1) L2 rest) : VV p l e R s m args below meth c nL D cl A cells slots Q ws pc L (Value.int x :: rest) := fun H locs ls hP hD hS h => lv_istore_n hC.1 hC.2.1 hdg hi h hn rfl (fun ls2 h2 => k H locs ls2 hP hD hS (lv_sub h2 ks hl))
theorem vv_istore (hC : CX p s m args meth c cc own Ts nL D cl tys A SP ret) {i : Nat} {x : Int32} (hdg : decode cc pc = .ok (.istore i, 2)) (hn : i < nL) (ks : List Nat) (hl : lv_pick ((i, Value.int x) :: L.filter (fun q => !(q.1 == i) && !(q.1 + 1 == i && q.2.category == 2))) ks = L2) (k : VV p l e R s m args below meth c nL D cl A cells slots Q ws (pc + 2) L2 rest) : VV p l e R s m args below meth c nL D cl A cells slots Q ws pc L (Value.int x :: rest) := fun H locs ls hP hD hS h => lv_istore hC.1 hC.2.1 hdg h hn rfl (fun ls2 h2 => k H locs ls2 hP hD hS (lv_sub h2 ks hl))
theorem vv_astore_n (hC : CX p s m args meth c cc own Ts nL D cl tys A SP ret) {k0 : Fin 4} {i : Nat} {x : Nat} (hdg : decode cc pc = .ok (.astore_n k0, 1)) (hi : (k0 : Nat) = i) (hn : i < nL) (ks : List Nat) (hl : lv_pick ((i, Value.ref x) :: L.filter (fun q => !(q.1 == i) && !(q.1 + 1 == i && q.2.category == 2))) ks = L2) (k : VV p l e R s m args below meth c nL D cl A cells slots Q ws (pc + 1) L2 rest) : VV p l e R s m args below meth c nL D cl A cells slots Q ws pc L (Value.ref x :: rest) := fun H locs ls hP hD hS h => lv_astore_n hC.1 hC.2.1 hdg hi h hn rfl (fun ls2 h2 => k H locs ls2 hP hD hS (lv_sub h2 ks hl))
theorem vv_astore (hC : CX p s m args meth c cc own Ts nL D cl tys A SP ret) {i : Nat} {x : Nat} (hdg : decode cc pc = .ok (.astore i, 2)) (hn : i < nL) (ks : List Nat) (hl : lv_pick ((i, Value.ref x) :: L.filter (fun q => !(q.1 == i) && !(q.1 + 1 == i && q.2.category == 2))) ks = L2) (k : VV p l e R s m args below meth c nL D cl A cells slots Q ws (pc + 2) L2 rest) : VV p l e R s m args below meth c nL D cl A cells slots Q ws pc L (Value.ref x :: rest) := fun H locs ls hP hD hS h => lv_astore hC.1 hC.2.1 hdg h hn rfl (fun ls2 h2 => k H locs ls2 hP hD hS (lv_sub h2 ks hl))
theorem vv_iinc (hC : CX p s m args meth c cc own Ts nL D cl tys A SP ret) {i : Nat} {n : Int} {x v : Int32} (hdg : decode cc pc = .ok (.iinc i n, 3)) (q : Nat) (hq : L[q]? = some (i, .int x)) (hv : x + Int32.ofInt n = v) (hn : i < nL) (ks : List Nat) (hl : lv_pick ((i, Value.int v) :: L.filter (fun q => !(q.1 == i) && !(q.1 + 1 == i && q.2.category == 2))) ks = L2) (k : VV p l e R s m args below meth c nL D cl A cells slots Q ws (pc + 3) L2 rest) : VV p l e R s m args below meth c nL D cl A cells slots Q ws pc L rest := fun H locs ls hP hD hS h => lv_iinc hC.1 hC.2.1 hdg h hq hv hn rfl (fun ls2 h2 => k H locs ls2 hP hD hS (lv_sub h2 ks hl))
theorem vv_iadd (hC : CX p s m args meth c cc own Ts nL D cl tys A SP ret) {x y : Int32} (hdg : decode cc pc = .ok (.iadd, 1))  (k : VV p l e R s m args below meth c nL D cl A cells slots Q ws (pc + 1) L (.int (x + y) :: rest)) : VV p l e R s m args below meth c nL D cl A cells slots Q ws pc L (.int y :: .int x :: rest) := fun H locs ls hP hD hS h => lv_iadd hC.1 hC.2.1 hdg  (k H locs ls hP hD hS h)
theorem vv_isub (hC : CX p s m args meth c cc own Ts nL D cl tys A SP ret) {x y : Int32} (hdg : decode cc pc = .ok (.isub, 1))  (k : VV p l e R s m args below meth c nL D cl A cells slots Q ws (pc + 1) L (.int (x - y) :: rest)) : VV p l e R s m args below meth c nL D cl A cells slots Q ws pc L (.int y :: .int x :: rest) := fun H locs ls hP hD hS h => lv_isub hC.1 hC.2.1 hdg  (k H locs ls hP hD hS h)
theorem vv_imul (hC : CX p s m args meth c cc own Ts nL D cl tys A SP ret) {x y : Int32} (hdg : decode cc pc = .ok (.imul, 1))  (k : VV p l e R s m args below meth c nL D cl A cells slots Q ws (pc + 1) L (.int (x * y) :: rest)) : VV p l e R s m args below meth c nL D cl A cells slots Q ws pc L (.int y :: .int x :: rest) := fun H locs ls hP hD hS h => lv_imul hC.1 hC.2.1 hdg  (k H locs ls hP hD hS h)
theorem vv_iand (hC : CX p s m args meth c cc own Ts nL D cl tys A SP ret) {x y : Int32} (hdg : decode cc pc = .ok (.iand, 1))  (k : VV p l e R s m args below meth c nL D cl A cells slots Q ws (pc + 1) L (.int (x &&& y) :: rest)) : VV p l e R s m args below meth c nL D cl A cells slots Q ws pc L (.int y :: .int x :: rest) := fun H locs ls hP hD hS h => lv_iand hC.1 hC.2.1 hdg  (k H locs ls hP hD hS h)
theorem vv_ior (hC : CX p s m args meth c cc own Ts nL D cl tys A SP ret) {x y : Int32} (hdg : decode cc pc = .ok (.ior, 1))  (k : VV p l e R s m args below meth c nL D cl A cells slots Q ws (pc + 1) L (.int (x ||| y) :: rest)) : VV p l e R s m args below meth c nL D cl A cells slots Q ws pc L (.int y :: .int x :: rest) := fun H locs ls hP hD hS h => lv_ior hC.1 hC.2.1 hdg  (k H locs ls hP hD hS h)
theorem vv_ixor (hC : CX p s m args meth c cc own Ts nL D cl tys A SP ret) {x y : Int32} (hdg : decode cc pc = .ok (.ixor, 1))  (k : VV p l e R s m args below meth c nL D cl A cells slots Q ws (pc + 1) L (.int (x ^^^ y) :: rest)) : VV p l e R s m args below meth c nL D cl A cells slots Q ws pc L (.int y :: .int x :: rest) := fun H locs ls hP hD hS h => lv_ixor hC.1 hC.2.1 hdg  (k H locs ls hP hD hS h)
theorem vv_ishl (hC : CX p s m args meth c cc own Ts nL D cl tys A SP ret) {x y : Int32} (hdg : decode cc pc = .ok (.ishl, 1))  (k : VV p l e R s m args below meth c nL D cl A cells slots Q ws (pc + 1) L (.int (x <<< (y &&& 31)) :: rest)) : VV p l e R s m args below meth c nL D cl A cells slots Q ws pc L (.int y :: .int x :: rest) := fun H locs ls hP hD hS h => lv_ishl hC.1 hC.2.1 hdg  (k H locs ls hP hD hS h)
theorem vv_ishr (hC : CX p s m args meth c cc own Ts nL D cl tys A SP ret) {x y : Int32} (hdg : decode cc pc = .ok (.ishr, 1))  (k : VV p l e R s m args below meth c nL D cl A cells slots Q ws (pc + 1) L (.int (x >>> (y &&& 31)) :: rest)) : VV p l e R s m args below meth c nL D cl A cells slots Q ws pc L (.int y :: .int x :: rest) := fun H locs ls hP hD hS h => lv_ishr hC.1 hC.2.1 hdg  (k H locs ls hP hD hS h)
theorem vv_idiv (hC : CX p s m args meth c cc own Ts nL D cl tys A SP ret) {x y : Int32} (hdg : decode cc pc = .ok (.idiv, 1)) (hne : ¬ y = 0) (k : VV p l e R s m args below meth c nL D cl A cells slots Q ws (pc + 1) L (.int (x / y) :: rest)) : VV p l e R s m args below meth c nL D cl A cells slots Q ws pc L (.int y :: .int x :: rest) := fun H locs ls hP hD hS h => lv_idiv hC.1 hC.2.1 hdg hne (k H locs ls hP hD hS h)
theorem vv_irem (hC : CX p s m args meth c cc own Ts nL D cl tys A SP ret) {x y : Int32} (hdg : decode cc pc = .ok (.irem, 1)) (hne : ¬ y = 0) (k : VV p l e R s m args below meth c nL D cl A cells slots Q ws (pc + 1) L (.int (x - x / y * y) :: rest)) : VV p l e R s m args below meth c nL D cl A cells slots Q ws pc L (.int y :: .int x :: rest) := fun H locs ls hP hD hS h => lv_irem hC.1 hC.2.1 hdg hne (k H locs ls hP hD hS h)
theorem vv_iushr (hC : CX p s m args meth c cc own Ts nL D cl tys A SP ret) {x y : Int32} (hdg : decode cc pc = .ok (.iushr, 1))  (k : VV p l e R s m args below meth c nL D cl A cells slots Q ws (pc + 1) L (.int ((x.toUInt32 >>> (y.toUInt32 &&& Int32.toUInt32 31)).toInt32) :: rest)) : VV p l e R s m args below meth c nL D cl A cells slots Q ws pc L (.int y :: .int x :: rest) := fun H locs ls hP hD hS h => lv_iushr hC.1 hC.2.1 hdg rfl (k H locs ls hP hD hS h)
theorem vv_i2b (hC : CX p s m args meth c cc own Ts nL D cl tys A SP ret) {x : Int32} (hdg : decode cc pc = .ok (.i2b, 1))  (k : VV p l e R s m args below meth c nL D cl A cells slots Q ws (pc + 1) L (.int x.toInt8.toInt32 :: rest)) : VV p l e R s m args below meth c nL D cl A cells slots Q ws pc L (.int x :: rest) := fun H locs ls hP hD hS h => lv_i2b hC.1 hC.2.1 hdg rfl (k H locs ls hP hD hS h)
theorem vv_i2l (hC : CX p s m args meth c cc own Ts nL D cl tys A SP ret) {x : Int32} (hdg : decode cc pc = .ok (.i2l, 1))  (k : VV p l e R s m args below meth c nL D cl A cells slots Q ws (pc + 1) L (.long x.toInt64 :: rest)) : VV p l e R s m args below meth c nL D cl A cells slots Q ws pc L (.int x :: rest) := fun H locs ls hP hD hS h => lv_i2l hC.1 hC.2.1 hdg rfl (k H locs ls hP hD hS h)
theorem vv_dup (hC : CX p s m args meth c cc own Ts nL D cl tys A SP ret) {v : Value} (hdg : decode cc pc = .ok (.dup, 1)) (hv : v.category = 1) (k : VV p l e R s m args below meth c nL D cl A cells slots Q ws (pc + 1) L (v :: v :: rest)) : VV p l e R s m args below meth c nL D cl A cells slots Q ws pc L (v :: rest) := fun H locs ls hP hD hS h => lv_dup hC.1 hC.2.1 hdg hv (k H locs ls hP hD hS h)
theorem vv_pop (hC : CX p s m args meth c cc own Ts nL D cl tys A SP ret) {v : Value} (hdg : decode cc pc = .ok (.pop, 1)) (hv : v.category = 1) (k : VV p l e R s m args below meth c nL D cl A cells slots Q ws (pc + 1) L rest) : VV p l e R s m args below meth c nL D cl A cells slots Q ws pc L (v :: rest) := fun H locs ls hP hD hS h => lv_pop hC.1 hC.2.1 hdg hv (k H locs ls hP hD hS h)
theorem vv_dup2 (hC : CX p s m args meth c cc own Ts nL D cl tys A SP ret) {v w : Value} (hdg : decode cc pc = .ok (.dup2, 1)) (hv : v.category = 1) (hw : w.category = 1) (k : VV p l e R s m args below meth c nL D cl A cells slots Q ws (pc + 1) L (v :: w :: v :: w :: rest)) : VV p l e R s m args below meth c nL D cl A cells slots Q ws pc L (v :: w :: rest) := fun H locs ls hP hD hS h => lv_dup2_11 hC.1 hC.2.1 hdg hv hw (k H locs ls hP hD hS h)
theorem vv_lcmp (hC : CX p s m args meth c cc own Ts nL D cl tys A SP ret) {x y : Int64} (hdg : decode cc pc = .ok (.lcmp, 1)) (k : VV p l e R s m args below meth c nL D cl A cells slots Q ws (pc + 1) L (.int (lg_cmp x y) :: rest)) : VV p l e R s m args below meth c nL D cl A cells slots Q ws pc L (.long y :: .long x :: rest) := fun H locs ls hP hD hS h => W.lcmp hC.1 hC.2.1 hdg (k H locs ls hP hD hS h)
theorem vv_if_eq (hC : CX p s m args meth c cc own Ts nL D cl tys A SP ret) {x : Int32} {off : Int} (tgt : Nat) (hdg : decode cc pc = .ok (.ifCond .eq off, 3)) (ht : (pc : Int) + off = (tgt : Int)) (kt : x = 0 → VV p l e R s m args below meth c nL D cl A cells slots Q ws tgt L rest) (kf : ¬ x = 0 → VV p l e R s m args below meth c nL D cl A cells slots Q ws (pc + 3) L rest) : VV p l e R s m args below meth c nL D cl A cells slots Q ws pc L (.int x :: rest) := fun H locs ls hP hD hS h => lv_if_eq hC.1 hC.2.1 hdg ht (fun q => kt q H locs ls hP hD hS h) (fun q => kf q H locs ls hP hD hS h)
theorem vv_if_ne (hC : CX p s m args meth c cc own Ts nL D cl tys A SP ret) {x : Int32} {off : Int} (tgt : Nat) (hdg : decode cc pc = .ok (.ifCond .ne off, 3)) (ht : (pc : Int) + off = (tgt : Int)) (kt : ¬ x = 0 → VV p l e R s m args below meth c nL D cl A cells slots Q ws tgt L rest) (kf : x = 0 → VV p l e R s m args below meth c nL D cl A cells slots Q ws (pc + 3) L rest) : VV p l e R s m args below meth c nL D cl A cells slots Q ws pc L (.int x :: rest) := fun H locs ls hP hD hS h => lv_if_ne hC.1 hC.2.1 hdg ht (fun q => kt q H locs ls hP hD hS h) (fun q => kf q H locs ls hP hD hS h)
theorem vv_if_lt (hC : CX p s m args meth c cc own Ts nL D cl tys A SP ret) {x : Int32} {off : Int} (tgt : Nat) (hdg : decode cc pc = .ok (.ifCond .lt off, 3)) (ht : (pc : Int) + off = (tgt : Int)) (kt : x < 0 → VV p l e R s m args below meth c nL D cl A cells slots Q ws tgt L rest) (kf : ¬ x < 0 → VV p l e R s m args below meth c nL D cl A cells slots Q ws (pc + 3) L rest) : VV p l e R s m args below meth c nL D cl A cells slots Q ws pc L (.int x :: rest) := fun H locs ls hP hD hS h => lv_if_lt hC.1 hC.2.1 hdg ht (fun q => kt q H locs ls hP hD hS h) (fun q => kf q H locs ls hP hD hS h)
theorem vv_if_ge (hC : CX p s m args meth c cc own Ts nL D cl tys A SP ret) {x : Int32} {off : Int} (tgt : Nat) (hdg : decode cc pc = .ok (.ifCond .ge off, 3)) (ht : (pc : Int) + off = (tgt : Int)) (kt : 0 ≤ x → VV p l e R s m args below meth c nL D cl A cells slots Q ws tgt L rest) (kf : ¬ 0 ≤ x → VV p l e R s m args below meth c nL D cl A cells slots Q ws (pc + 3) L rest) : VV p l e R s m args below meth c nL D cl A cells slots Q ws pc L (.int x :: rest) := fun H locs ls hP hD hS h => lv_if_ge hC.1 hC.2.1 hdg ht (fun q => kt q H locs ls hP hD hS h) (fun q => kf q H locs ls hP hD hS h)
theorem vv_if_gt (hC : CX p s m args meth c cc own Ts nL D cl tys A SP ret) {x : Int32} {off : Int} (tgt : Nat) (hdg : decode cc pc = .ok (.ifCond .gt off, 3)) (ht : (pc : Int) + off = (tgt : Int)) (kt : 0 < x → VV p l e R s m args below meth c nL D cl A cells slots Q ws tgt L rest) (kf : ¬ 0 < x → VV p l e R s m args below meth c nL D cl A cells slots Q ws (pc + 3) L rest) : VV p l e R s m args below meth c nL D cl A cells slots Q ws pc L (.int x :: rest) := fun H locs ls hP hD hS h => lv_if_gt hC.1 hC.2.1 hdg ht (fun q => kt q H locs ls hP hD hS h) (fun q => kf q H locs ls hP hD hS h)
theorem vv_if_le (hC : CX p s m args meth c cc own Ts nL D cl tys A SP ret) {x : Int32} {off : Int} (tgt : Nat) (hdg : decode cc pc = .ok (.ifCond .le off, 3)) (ht : (pc : Int) + off = (tgt : Int)) (kt : x ≤ 0 → VV p l e R s m args below meth c nL D cl A cells slots Q ws tgt L rest) (kf : ¬ x ≤ 0 → VV p l e R s m args below meth c nL D cl A cells slots Q ws (pc + 3) L rest) : VV p l e R s m args below meth c nL D cl A cells slots Q ws pc L (.int x :: rest) := fun H locs ls hP hD hS h => lv_if_le hC.1 hC.2.1 hdg ht (fun q => kt q H locs ls hP hD hS h) (fun q => kf q H locs ls hP hD hS h)
theorem vv_icmp_eq (hC : CX p s m args meth c cc own Ts nL D cl tys A SP ret) {x y : Int32} {off : Int} (tgt : Nat) (hdg : decode cc pc = .ok (.if_icmp .eq off, 3)) (ht : (pc : Int) + off = (tgt : Int)) (kt : x = y → VV p l e R s m args below meth c nL D cl A cells slots Q ws tgt L rest) (kf : ¬ x = y → VV p l e R s m args below meth c nL D cl A cells slots Q ws (pc + 3) L rest) : VV p l e R s m args below meth c nL D cl A cells slots Q ws pc L (.int y :: .int x :: rest) := fun H locs ls hP hD hS h => lv_icmp_eq hC.1 hC.2.1 hdg ht (fun q => kt q H locs ls hP hD hS h) (fun q => kf q H locs ls hP hD hS h)
theorem vv_icmp_ne (hC : CX p s m args meth c cc own Ts nL D cl tys A SP ret) {x y : Int32} {off : Int} (tgt : Nat) (hdg : decode cc pc = .ok (.if_icmp .ne off, 3)) (ht : (pc : Int) + off = (tgt : Int)) (kt : ¬ x = y → VV p l e R s m args below meth c nL D cl A cells slots Q ws tgt L rest) (kf : x = y → VV p l e R s m args below meth c nL D cl A cells slots Q ws (pc + 3) L rest) : VV p l e R s m args below meth c nL D cl A cells slots Q ws pc L (.int y :: .int x :: rest) := fun H locs ls hP hD hS h => lv_icmp_ne hC.1 hC.2.1 hdg ht (fun q => kt q H locs ls hP hD hS h) (fun q => kf q H locs ls hP hD hS h)
theorem vv_icmp_lt (hC : CX p s m args meth c cc own Ts nL D cl tys A SP ret) {x y : Int32} {off : Int} (tgt : Nat) (hdg : decode cc pc = .ok (.if_icmp .lt off, 3)) (ht : (pc : Int) + off = (tgt : Int)) (kt : x < y → VV p l e R s m args below meth c nL D cl A cells slots Q ws tgt L rest) (kf : ¬ x < y → VV p l e R s m args below meth c nL D cl A cells slots Q ws (pc + 3) L rest) : VV p l e R s m args below meth c nL D cl A cells slots Q ws pc L (.int y :: .int x :: rest) := fun H locs ls hP hD hS h => lv_icmp_lt hC.1 hC.2.1 hdg ht (fun q => kt q H locs ls hP hD hS h) (fun q => kf q H locs ls hP hD hS h)
theorem vv_icmp_ge (hC : CX p s m args meth c cc own Ts nL D cl tys A SP ret) {x y : Int32} {off : Int} (tgt : Nat) (hdg : decode cc pc = .ok (.if_icmp .ge off, 3)) (ht : (pc : Int) + off = (tgt : Int)) (kt : y ≤ x → VV p l e R s m args below meth c nL D cl A cells slots Q ws tgt L rest) (kf : ¬ y ≤ x → VV p l e R s m args below meth c nL D cl A cells slots Q ws (pc + 3) L rest) : VV p l e R s m args below meth c nL D cl A cells slots Q ws pc L (.int y :: .int x :: rest) := fun H locs ls hP hD hS h => lv_icmp_ge hC.1 hC.2.1 hdg ht (fun q => kt q H locs ls hP hD hS h) (fun q => kf q H locs ls hP hD hS h)
theorem vv_icmp_gt (hC : CX p s m args meth c cc own Ts nL D cl tys A SP ret) {x y : Int32} {off : Int} (tgt : Nat) (hdg : decode cc pc = .ok (.if_icmp .gt off, 3)) (ht : (pc : Int) + off = (tgt : Int)) (kt : y < x → VV p l e R s m args below meth c nL D cl A cells slots Q ws tgt L rest) (kf : ¬ y < x → VV p l e R s m args below meth c nL D cl A cells slots Q ws (pc + 3) L rest) : VV p l e R s m args below meth c nL D cl A cells slots Q ws pc L (.int y :: .int x :: rest) := fun H locs ls hP hD hS h => lv_icmp_gt hC.1 hC.2.1 hdg ht (fun q => kt q H locs ls hP hD hS h) (fun q => kf q H locs ls hP hD hS h)
theorem vv_icmp_le (hC : CX p s m args meth c cc own Ts nL D cl tys A SP ret) {x y : Int32} {off : Int} (tgt : Nat) (hdg : decode cc pc = .ok (.if_icmp .le off, 3)) (ht : (pc : Int) + off = (tgt : Int)) (kt : x ≤ y → VV p l e R s m args below meth c nL D cl A cells slots Q ws tgt L rest) (kf : ¬ x ≤ y → VV p l e R s m args below meth c nL D cl A cells slots Q ws (pc + 3) L rest) : VV p l e R s m args below meth c nL D cl A cells slots Q ws pc L (.int y :: .int x :: rest) := fun H locs ls hP hD hS h => lv_icmp_le hC.1 hC.2.1 hdg ht (fun q => kt q H locs ls hP hD hS h) (fun q => kf q H locs ls hP hD hS h)
theorem vv_goto (hC : CX p s m args meth c cc own Ts nL D cl tys A SP ret) {off : Int} (tgt : Nat) (hdg : decode cc pc = .ok (.goto off, 3)) (ht : (pc : Int) + off = (tgt : Int)) (k : VV p l e R s m args below meth c nL D cl A cells slots Q ws tgt L rest) : VV p l e R s m args below meth c nL D cl A cells slots Q ws pc L rest := fun H locs ls hP hD hS h => lv_goto hC.1 hC.2.1 hdg ht (k H locs ls hP hD hS h)
theorem vv_sub (ks : List Nat) (hl : lv_pick L ks = L2) (k : VV p l e R s m args below meth c nL D cl A cells slots Q ws pc L2 rest) : VV p l e R s m args below meth c nL D cl A cells slots Q ws pc L rest := fun H locs ls hP hD hS h => k H locs ls hP hD hS (lv_sub h ks hl)
theorem vv_perm (is : List Nat) (hn : va_nd is = true) (hs : is.filterMap (fun i => ws[i]?) = ws2) (hs2 : is.map (fun i => ws[i]?) = ws2.map some) (k : VV p l e R s m args below meth c nL D cl A cells slots Q ws2 pc L rest) : VV p l e R s m args below meth c nL D cl A cells slots Q ws pc L rest := fun H locs ls hP hD hS h => k H locs ls (hP.sub is hs) (hD.sub is hn hs2) hS h
theorem vv_get (hC : CX p s m args meth c cc own Ts nL D cl tys A SP ret) {ref C : String} {T : u_T} {N ci index a : Nat} {fs : List Value} {v : Value} (hin : ∀ w ∈ u_ws C T N, w ∈ Ts) (q0 : Nat) (k : Nat) (hlk : Cond.fieldLink own index ref (T k).2.1 (T k).2.2.1 ∈ Ts) (hdg : decode cc pc = .ok (.getfield index, 3)) (he : ws[q0]? = some (a, .inr (ci, fs))) (hc : cl[ci]? = some (C, T, N)) (hk : k < N) (hrf : (T k).1 = ref) (hv : fs[k]? = some v) (kk : VV p l e R s m args below meth c nL D cl A cells slots Q ws (pc + 3) L (v :: rest)) : VV p l e R s m args below meth c nL D cl A cells slots Q ws pc L (.ref a :: rest) := fun H locs ls hP hD hS h => va_get hC.1 hC.2.1 hC.2.2.2.2.1 hin hC.2.2.2.1 hC.2.2.2.2.2.1 hP q0 he hc k hk (hC.2.2.2.2.1 _ hlk) (fun x h9 => by rw [← hrf]; exact h9) hv hdg (kk H locs ls hP hD hS h)
theorem vv_getN (hC : CX p s m args meth c cc own Ts nL D cl tys A SP ret) {ref C : String} {T : u_T} {N ci index a : Nat} {fs : List Value} {host : String} {v : Value} (hin : ∀ w ∈ u_ws C T N, w ∈ Ts) (q0 : Nat) (k : Nat) (hlk : ∀ {A : Nat → Prop} {U : State} {H : Heap}, SP A U H → va_Nw (Cond.fieldLinkNest own index ref (T k).2.1 (T k).2.2.1 host) U) (hdg : decode cc pc = .ok (.getfield index, 3)) (he : ws[q0]? = some (a, .inr (ci, fs))) (hc : cl[ci]? = some (C, T, N)) (hk : k < N) (hrf : (T k).1 = ref) (hv : fs[k]? = some v) (kk : VV p l e R s m args below meth c nL D cl A cells slots Q ws (pc + 3) L (v :: rest)) : VV p l e R s m args below meth c nL D cl A cells slots Q ws pc L (.ref a :: rest) := fun H locs ls hP hD hS h => va_getN hC.1 hC.2.1 hC.2.2.2.2.1 hin hC.2.2.2.1 hC.2.2.2.2.2.1 hP q0 he hc k hk (va_Nw.use rfl (hlk hC.2.2.2.2.2.2.2.1.2)) (fun x h9 => by rw [← hrf]; exact h9) hv hdg (kk H locs ls hP hD hS h)
theorem vv_put (hC : CX p s m args meth c cc own Ts nL D cl tys A SP ret) {ref C : String} {T : u_T} {N ci index a : Nat} {fs : List Value}  {v : Value} {ty : FieldType} (hin : ∀ w ∈ u_ws C T N, w ∈ Ts) (ty0 : Nat → FieldType) (hty : ∀ k, k < N → parseFieldDescriptor (T k).2.2.1 = some (ty0 k)) (hnm : ∀ a, a < N → ∀ b, b < N → a ≠ b → (T a).2.1 ≠ (T b).2.1) (q0 : Nat) (k : Nat) (hlk : Cond.fieldLink own index ref (T k).2.1 (T k).2.2.1 ∈ Ts) (hdg : decode cc pc = .ok (.putfield index, 3)) (he : ws[q0]? = some (a, .inr (ci, fs))) (hc : cl[ci]? = some (C, T, N)) (hk : k < N) (hrf : (T k).1 = ref) (hfin : (T k).2.2.2 = false) (hd : ty0 k = ty) (hn : narrow ty v = v) (hfit : fits ty v = true) (hl : k < fs.length) (hs : ws.set q0 (a, .inr (ci, fs.set k v)) = ws2) (kk : VV p l e R s m args below meth c nL D cl A cells slots Q ws2 (pc + 3) L rest) : VV p l e R s m args below meth c nL D cl A cells slots Q ws pc L (v :: .ref a :: rest) := fun H locs ls hP hD hS h => va_put hC.1 hC.2.1 hC.2.2.2.2.1 hin ty0 hty hnm hC.2.2.2.1 hC.2.2.2.2.2.1 hP hD hS q0 he hc k hk (hC.2.2.2.2.1 _ hlk) (fun x h9 => by rw [← hrf]; exact h9) hfin (by rw [hty k hk, hd]) hn hfit hl hdg (fun H1 locs1 hP hD hS => kk H1 locs1 ls (hs ▸ hP) (hs ▸ hD) hS h)
theorem vv_putN (hC : CX p s m args meth c cc own Ts nL D cl tys A SP ret) {ref C : String} {T : u_T} {N ci index a : Nat} {fs : List Value} {host : String} {v : Value} {ty : FieldType} (hin : ∀ w ∈ u_ws C T N, w ∈ Ts) (ty0 : Nat → FieldType) (hty : ∀ k, k < N → parseFieldDescriptor (T k).2.2.1 = some (ty0 k)) (hnm : ∀ a, a < N → ∀ b, b < N → a ≠ b → (T a).2.1 ≠ (T b).2.1) (q0 : Nat) (k : Nat) (hlk : ∀ {A : Nat → Prop} {U : State} {H : Heap}, SP A U H → va_Nw (Cond.fieldLinkNest own index ref (T k).2.1 (T k).2.2.1 host) U) (hdg : decode cc pc = .ok (.putfield index, 3)) (he : ws[q0]? = some (a, .inr (ci, fs))) (hc : cl[ci]? = some (C, T, N)) (hk : k < N) (hrf : (T k).1 = ref) (hfin : (T k).2.2.2 = false) (hd : ty0 k = ty) (hn : narrow ty v = v) (hfit : fits ty v = true) (hl : k < fs.length) (hs : ws.set q0 (a, .inr (ci, fs.set k v)) = ws2) (kk : VV p l e R s m args below meth c nL D cl A cells slots Q ws2 (pc + 3) L rest) : VV p l e R s m args below meth c nL D cl A cells slots Q ws pc L (v :: .ref a :: rest) := fun H locs ls hP hD hS h => va_putN hC.1 hC.2.1 hC.2.2.2.2.1 hin ty0 hty hnm hC.2.2.2.1 hC.2.2.2.2.2.1 hP hD hS q0 he hc k hk (va_Nw.use rfl (hlk hC.2.2.2.2.2.2.2.1.2)) (fun x h9 => by rw [← hrf]; exact h9) hfin (by rw [hty k hk, hd]) hn hfit hl hdg (fun H1 locs1 hP hD hS => kk H1 locs1 ls (hs ▸ hP) (hs ▸ hD) hS h)
theorem vv_iald (hC : CX p s m args meth c cc own Ts nL D cl tys A SP ret) {cA : ClassId} {a n : Nat} {f : Nat → Int32} {i : Int32} (q0 t0 : Nat) (hdg : decode cc pc = .ok (.iaload, 1)) (ha : ws[q0]? = some (a, .inl (cA, n, .inl f))) (ht : tys[t0]? = some (cA, .int)) (hi : vp_in i n) (kk : VV p l e R s m args below meth c nL D cl A cells slots Q ws (pc + 1) L (.int (f i.toNatClampNeg) :: rest)) : VV p l e R s m args below meth c nL D cl A cells slots Q ws pc L (.int i :: .ref a :: rest) := fun H locs ls hP hD hS h => va_iald hC.1 hC.2.1 hC.2.2.2.2.2.1 hP q0 t0 ha ht hi hdg (kk H locs ls hP hD hS h)
theorem vv_bald (hC : CX p s m args meth c cc own Ts nL D cl tys A SP ret) {cA : ClassId} {a n : Nat} {f : Nat → Int32} {i : Int32} (q0 t0 : Nat) (hdg : decode cc pc = .ok (.baload, 1)) (ha : ws[q0]? = some (a, .inl (cA, n, .inl f))) (ht : tys[t0]? = some (cA, .byte)) (hi : vp_in i n) (kk : VV p l e R s m args below meth c nL D cl A cells slots Q ws (pc + 1) L (.int (f i.toNatClampNeg) :: rest)) : VV p l e R s m args below meth c nL D cl A cells slots Q ws pc L (.int i :: .ref a :: rest) := fun H locs ls hP hD hS h => va_bald hC.1 hC.2.1 hC.2.2.2.2.2.1 hP q0 t0 ha ht hi hdg (kk H locs ls hP hD hS h)
theorem vv_zald (hC : CX p s m args meth c cc own Ts nL D cl tys A SP ret) {cA : ClassId} {a n : Nat} {f : Nat → Int32} {i : Int32} (q0 t0 : Nat) (hdg : decode cc pc = .ok (.baload, 1)) (ha : ws[q0]? = some (a, .inl (cA, n, .inl f))) (ht : tys[t0]? = some (cA, .boolean)) (hi : vp_in i n) (kk : VV p l e R s m args below meth c nL D cl A cells slots Q ws (pc + 1) L (.int (f i.toNatClampNeg) :: rest)) : VV p l e R s m args below meth c nL D cl A cells slots Q ws pc L (.int i :: .ref a :: rest) := fun H locs ls hP hD hS h => va_zald hC.1 hC.2.1 hC.2.2.2.2.2.1 hP q0 t0 ha ht hi hdg (kk H locs ls hP hD hS h)
theorem vv_iast (hC : CX p s m args meth c cc own Ts nL D cl tys A SP ret) {cA : ClassId} {a n : Nat} {f : Nat → Int32} {i : Int32} {x : Int32} (q0 t0 : Nat) (hdg : decode cc pc = .ok (.iastore, 1)) (ha : ws[q0]? = some (a, .inl (cA, n, .inl f))) (ht : tys[t0]? = some (cA, .int)) (hi : vp_in i n) (hs : ws.set q0 (a, .inl (cA, n, .inl (upd f i.toNatClampNeg x))) = ws2) (kk : VV p l e R s m args below meth c nL D cl A cells slots Q ws2 (pc + 1) L rest) : VV p l e R s m args below meth c nL D cl A cells slots Q ws pc L (.int x :: .int i :: .ref a :: rest) := fun H locs ls hP hD hS h => va_iast hC.1 hC.2.1 hC.2.2.2.2.2.1 hP hD hS q0 t0 ha ht hi hdg (fun H1 locs1 hP hD hS => kk H1 locs1 ls (hs ▸ hP) (hs ▸ hD) hS h)
theorem vv_bast (hC : CX p s m args meth c cc own Ts nL D cl tys A SP ret) {cA : ClassId} {a n : Nat} {f : Nat → Int32} {i : Int32} {x : Int32} (q0 t0 : Nat) (hdg : decode cc pc = .ok (.bastore, 1)) (ha : ws[q0]? = some (a, .inl (cA, n, .inl f))) (ht : tys[t0]? = some (cA, .byte)) (hi : vp_in i n) (hs : ws.set q0 (a, .inl (cA, n, .inl (upd f i.toNatClampNeg (vp_nar .byte x)))) = ws2) (kk : VV p l e R s m args below meth c nL D cl A cells slots Q ws2 (pc + 1) L rest) : VV p l e R s m args below meth c nL D cl A cells slots Q ws pc L (.int x :: .int i :: .ref a :: rest) := fun H locs ls hP hD hS h => va_bast hC.1 hC.2.1 hC.2.2.2.2.2.1 hP hD hS q0 t0 ha ht hi hdg (fun H1 locs1 hP hD hS => kk H1 locs1 ls (hs ▸ hP) (hs ▸ hD) hS h)
theorem vv_zast (hC : CX p s m args meth c cc own Ts nL D cl tys A SP ret) {cA : ClassId} {a n : Nat} {f : Nat → Int32} {i : Int32} {x : Int32} (q0 t0 : Nat) (hdg : decode cc pc = .ok (.bastore, 1)) (ha : ws[q0]? = some (a, .inl (cA, n, .inl f))) (ht : tys[t0]? = some (cA, .boolean)) (hi : vp_in i n) (hs : ws.set q0 (a, .inl (cA, n, .inl (upd f i.toNatClampNeg (vp_nar .boolean x)))) = ws2) (kk : VV p l e R s m args below meth c nL D cl A cells slots Q ws2 (pc + 1) L rest) : VV p l e R s m args below meth c nL D cl A cells slots Q ws pc L (.int x :: .int i :: .ref a :: rest) := fun H locs ls hP hD hS h => va_zast hC.1 hC.2.1 hC.2.2.2.2.2.1 hP hD hS q0 t0 ha ht hi hdg (fun H1 locs1 hP hD hS => kk H1 locs1 ls (hs ▸ hP) (hs ▸ hD) hS h)
theorem vv_alen (hC : CX p s m args meth c cc own Ts nL D cl tys A SP ret) {cA : ClassId} {a n : Nat} {f : Nat → Int32} {ty : FieldType} {v : Int32} (q0 t0 : Nat) (hdg : decode cc pc = .ok (.arraylength, 1)) (ha : ws[q0]? = some (a, .inl (cA, n, .inl f))) (ht : tys[t0]? = some (cA, ty)) (hv : Int32.ofNat n = v) (kk : VV p l e R s m args below meth c nL D cl A cells slots Q ws (pc + 1) L (.int v :: rest)) : VV p l e R s m args below meth c nL D cl A cells slots Q ws pc L (.ref a :: rest) := fun H locs ls hP hD hS h => va_alen hC.1 hC.2.1 hC.2.2.2.2.2.1 hP q0 t0 ha ht hv hdg (kk H locs ls hP hD hS h)
theorem vin_c {i : Int32} {n : Nat} (h : ¬ (i < 0 ∨ n ≤ i.toNatClampNeg)) : vp_in i n := h
theorem sw_cases {x k : Int32} {P : Prop} (ht : x = k → P) (hf : ¬ x = k → P) : P := by
  by_cases h : x = k
  · exact ht h
  · exact hf h
theorem sw_out {x : Int32} (n : Nat) (hn : n < 2 ^ 31) (h : ∀ k, k ≤ n → ¬ x = nI k) : x.toInt < 0 ∨ (n : Int) < x.toInt := by
  by_cases h1 : x.toInt < 0
  · exact Or.inl h1
  · refine Or.inr (Int.not_le.mp fun h2 => ?_)
    refine h x.toInt.toNat (by omega) ?_
    rw [← Int32.toInt_inj, nI_toInt (by omega)]
    omega
theorem vv_tabIn (hC : CX p s m args meth c cc own Ts nL D cl tys A SP ret) {x : Int32} {dflt lo hi : Int} {offs : Array Int} {len : Nat} (k : Int32) (off : Int) (tgt : Nat) (hdg : decode cc pc = .ok (.tableswitch dflt lo hi offs, len)) (cd : x = k) (h1 : ¬ k.toInt < lo) (h2 : ¬ hi < k.toInt) (ho : offs[(k.toInt - lo).toNat]? = some off) (ht : (pc : Int) + off = (tgt : Int)) (kk : VV p l e R s m args below meth c nL D cl A cells slots Q ws tgt L rest) : VV p l e R s m args below meth c nL D cl A cells slots Q ws pc L (.int x :: rest) := fun H locs ls hP hD hS h => lv_tableIn hC.1 hC.2.1 hdg (by rw [cd]; exact h1) (by rw [cd]; exact h2) (by rw [cd]; exact ho) ht (kk H locs ls hP hD hS h)
theorem vv_tabOut (hC : CX p s m args meth c cc own Ts nL D cl tys A SP ret) {x : Int32} {dflt lo hi : Int} {offs : Array Int} {len : Nat} (tgt : Nat) (hdg : decode cc pc = .ok (.tableswitch dflt lo hi offs, len)) (h0 : x.toInt < lo ∨ hi < x.toInt) (ht : (pc : Int) + dflt = (tgt : Int)) (kk : VV p l e R s m args below meth c nL D cl A cells slots Q ws tgt L rest) : VV p l e R s m args below meth c nL D cl A cells slots Q ws pc L (.int x :: rest) := fun H locs ls hP hD hS h => lv_tableOut hC.1 hC.2.1 hdg h0 ht (kk H locs ls hP hD hS h)
theorem vv_lookup (hC : CX p s m args meth c cc own Ts nL D cl tys A SP ret) {x : Int32} {dflt : Int} {ps : Array (Int × Int)} {pl : List (Int × Int)} {len : Nat} (off : Int) (tgt : Nat) (hdg : decode cc pc = .ok (.lookupswitch dflt ps, len)) (hpl : ps.toList = pl) (hp : (pl.zip (pl.drop 1)).all (fun (a, next) => a.1 < next.1) = true) (ho : Op.lookupswitch.offset pl dflt x.toInt = off) (ht : (pc : Int) + off = (tgt : Int)) (kk : VV p l e R s m args below meth c nL D cl A cells slots Q ws tgt L rest) : VV p l e R s m args below meth c nL D cl A cells slots Q ws pc L (.int x :: rest) := fun H locs ls hP hD hS h => lv_lookup hC.1 hC.2.1 hdg (by rw [hpl]; exact hp) (by rw [hpl]; exact ho) ht (kk H locs ls hP hD hS h)
theorem vv_entryI {y : MethodName} {wy TB : List Cond} {rm : Room} {av : List Value} {S : Type} {post : Int32 → S → Prop} {wf : S → va_W} {maxL : Nat} (hy : plainName y.cls = true) (hw : wy = Cond.code y cc maxL ret :: TB) (ho : y.cls = own) (hal : (lg_sl av).length ≤ maxL) (hL : lv_args 0 av = L) (body : ∀ (p : Program) (e : Env) (s : State) (m : MethodId) (args : Array Value) (below : List Frame) (meth : Method) (c : Code) (A : Nat → Prop), CX p s m args meth c cc own TB maxL D cl tys A SP ret → VV p l e rm s m args below meth c maxL D cl A 0 0 (QI below args s D cl tys A post wf) ws 0 L []) : MetI l y wy rm D cl tys SP av ws post wf := by
  intro sz
  refine Met.ofW (cc := cc) (maxL := maxL) (ret := ret) hy hw ?_
  intro p e s m args below meth c s₁ B hml hv
  obtain ⟨rfl, hsz, hP, hK, hD0, hNa, hNW⟩ := hv
  have hts := atoms_spec (ws := wy) B.pre
  have hown : s.vm.findClass own = some m.cls := by rw [← ho]; exact findClass_of_methodNamed B.named
  subst hsz
  have hD := hD0.self (sz := s.heap.size)
  have h0 := lv_entry av (n := maxL) hal
  rw [lg_entry_eq]
  rw [hL] at h0
  exact body p e s m _ below meth c (va_A ws s.heap.size) ⟨B.exec, B.bytes, hml, hown, fun w hw2 => hts w (by rw [hw]; exact List.mem_cons_of_mem _ hw2), hK, fun q h => Or.inr h, ⟨hNa, hNW⟩, B.returns, B.notSynchronized⟩ s.heap [] _ hP hD va_S.rf h0
theorem vv_entryV {y : MethodName} {wy TB : List Cond} {rm : Room} {av : List Value} {S : Type} {post : S → Prop} {wf : S → va_W} {maxL : Nat} (hy : plainName y.cls = true) (hw : wy = Cond.code y cc maxL ret :: TB) (ho : y.cls = own) (hal : (lg_sl av).length ≤ maxL) (hL : lv_args 0 av = L) (body : ∀ (p : Program) (e : Env) (s : State) (m : MethodId) (args : Array Value) (below : List Frame) (meth : Method) (c : Code) (A : Nat → Prop), CX p s m args meth c cc own TB maxL D cl tys A SP ret → VV p l e rm s m args below meth c maxL D cl A 0 0 (QV below args s D cl tys A post wf) ws 0 L []) : MetV l y wy rm D cl tys SP av ws post wf := by
  intro sz
  refine Met.ofW (cc := cc) (maxL := maxL) (ret := ret) hy hw ?_
  intro p e s m args below meth c s₁ B hml hv
  obtain ⟨rfl, hsz, hP, hK, hD0, hNa, hNW⟩ := hv
  have hts := atoms_spec (ws := wy) B.pre
  have hown : s.vm.findClass own = some m.cls := by rw [← ho]; exact findClass_of_methodNamed B.named
  subst hsz
  have hD := hD0.self (sz := s.heap.size)
  have h0 := lv_entry av (n := maxL) hal
  rw [lg_entry_eq]
  rw [hL] at h0
  exact body p e s m _ below meth c (va_A ws s.heap.size) ⟨B.exec, B.bytes, hml, hown, fun w hw2 => hts w (by rw [hw]; exact List.mem_cons_of_mem _ hw2), hK, fun q h => Or.inr h, ⟨hNa, hNW⟩, B.returns, B.notSynchronized⟩ s.heap [] _ hP hD va_S.rf h0
theorem vv_iret {S : Type} {post : Int32 → S → Prop} {wf : S → va_W} {v : Int32} (hC : CX p s m args meth c cc own Ts nL D cl tys A SP (some .int)) (hdg : decode cc pc = .ok (.ireturn, 1)) (u : S) (hp : post v u) (hw : ws = wf u) : VV p l e R s m args below meth c nL D cl A 0 0 (QI below args s D cl tys A post wf) ws pc L [.int v] := fun H locs ls hP hD hS h => W.iret hC.1 hC.2.1 hC.2.2.2.2.2.2.2.2.1 (fun t ht hW => ⟨⟨v, u, rfl, hp, by rw [ht]; exact hw ▸ hP, va_K.moved hW.alike hC.2.2.2.2.2.1, hw ▸ hD⟩, hS.F ht⟩) hS.2.2 hdg hC.2.2.2.2.2.2.2.2.2
theorem vv_zret {S : Type} {post : Int32 → S → Prop} {wf : S → va_W} {v : Int32} (hC : CX p s m args meth c cc own Ts nL D cl tys A SP (some .boolean)) (hdg : decode cc pc = .ok (.ireturn, 1)) (hn : narrow .boolean (.int v) = .int v) (u : S) (hp : post v u) (hw : ws = wf u) : VV p l e R s m args below meth c nL D cl A 0 0 (QI below args s D cl tys A post wf) ws pc L [.int v] := fun H locs ls hP hD hS h => W.zret hC.1 hC.2.1 hC.2.2.2.2.2.2.2.2.1 hn (fun t ht hW => ⟨⟨v, u, rfl, hp, by rw [ht]; exact hw ▸ hP, va_K.moved hW.alike hC.2.2.2.2.2.1, hw ▸ hD⟩, hS.F ht⟩) hS.2.2 hdg hC.2.2.2.2.2.2.2.2.2
theorem vv_vret {S : Type} {post : S → Prop} {wf : S → va_W} (hC : CX p s m args meth c cc own Ts nL D cl tys A SP none) (hdg : decode cc pc = .ok (.return_, 1)) (u : S) (hp : post u) (hw : ws = wf u) : VV p l e R s m args below meth c nL D cl A 0 0 (QV below args s D cl tys A post wf) ws pc L [] := fun H locs ls hP hD hS h => W.vret hC.1 hC.2.1 hC.2.2.2.2.2.2.2.2.1 (fun t ht hW => ⟨⟨u, rfl, hp, by rw [ht]; exact hw ▸ hP, va_K.moved hW.alike hC.2.2.2.2.2.1, hw ▸ hD⟩, hS.F ht⟩) hS.2.2 hdg hC.2.2.2.2.2.2.2.2.2
theorem vv_callVI (hC : CX p s m args meth c cc own Ts nL D cl tys A SP ret) {y : MethodName} {wy : List Cond} {rm : Room} {bytes : ByteArray} {maxL n index : Nat} {rt : Option FieldType} {C : String} {T : u_T} {N ci b : Nat} {fs : List Value} {As st0 : List Value} {S : Type} {post : Int32 → S → Prop} {wf : S → va_W} {wc wr : va_W} (hM : MetI l y wy rm D cl tys SP (.ref b :: As) wc post wf) (cw : CallW R s args own C index y bytes maxL rt wy rm 0 0 n) (hdg : decode cc pc = .ok (.invokevirtual index, 3)) (rest : List Value) (isC isR isB : List Nat) (wg : S → va_W) (hc : cells ≤ R.cells ∧ slots ≤ R.slots) (hCs : isC.map (fun i => ws[i]?) = wc.map some) (hRs : isR.map (fun i => ws[i]?) = wr.map some) (hBs : ∀ u, isB.map (fun i => (wr ++ wf u)[i]?) = (wg u).map some) (hnC : va_nd isC = true) (hnR : va_nd isR = true) (hnB : va_nd isB = true) (hdis : isR.all (fun i => !isC.contains i) = true) (he : wc[0]? = some (b, .inr (ci, fs))) (hcl : cl[ci]? = some (C, T, N)) (hlen : As.length = n) (hst : st0 = As.reverse ++ .ref b :: rest) (hrm : (rest.map fun v => v.category).sum ≤ 8) (kk : ∀ (r : Int32) (u : S), post r u → VV p l e R s m args below meth c nL D cl A cells slots Q (wg u) (pc + 3) L (.int r :: rest)) : VV p l e R s m args below meth c nL D cl A cells slots Q ws pc L st0 := by
  obtain ⟨hx, hb, hml, hown, hts, hK, hA, ⟨hNa, hNW⟩, hr, hlk⟩ := hC
  intro H locs ls hP hD hS h
  have hPc := hP.sub (ws' := wc) isC (vq_fm _ _ _ hCs)
  have hDc := hD.sub (ws' := wc) isC hnC hCs
  have hFc := va_free (wc := wc) hD hS hA isC hCs
  refine va_calli (va_runV (As := As) (rest := rest) (Ts := Ts) ⟨hx, hb, hml, hown, hts⟩ (hM H.size) cw ⟨fun a U g mk q => by obtain ⟨q0, q1, qP, qK, qD, qa, qN⟩ := q; exact ⟨q0, q1, qP, va_K.moved (u := U) (U := U.calling g mk a) (Vm.Alike.refl U.vm) qK, qD, qa, qa.2.2.2 _ U (U.calling g mk a) _ rfl qN⟩, va_recv hK hPc (ci := ci) (q0 := 0) hcl he, fun U hU hW => ⟨rfl, by rw [hU], by rw [hU]; exact hPc, va_K.moved hW.alike hK, hDc.weaken (fun _ _ _ _ => trivial), hNa, by rw [hU]; exact hNa.2.2.1 _ s U _ hW (hNa.2.1 _ _ _ _ (hNa.1 _ _ _ _ hNW (fun a h1 h2 => hS.2.1 a h1 h2)) hFc)⟩⟩ rfl hlen h.1 hst (lv_room hrm) hdg hc) hS (fun q _ h => hFc q h) hFc (fun r u t H1 locs1 ht hvm hw hB hz1 hk1 hS1 => ?_)
  obtain ⟨hP1, hK1, hD1⟩ := hB
  rw [ht] at hP1
  obtain ⟨hP2, hD2⟩ := va_join (wr := wr) (w1 := wf u) hP hD isC isR hCs hRs hnR (fun i hi hj => by have := List.all_eq_true.mp hdis i hi; simp at this; exact this hj) hk1 hFc hP1 hD1
  exact kk r u hw H1 locs1 ls (hP2.sub isB (vq_fm _ _ _ (hBs u))) (hD2.sub isB hnB (hBs u)) hS1 h
theorem vv_callVV (hC : CX p s m args meth c cc own Ts nL D cl tys A SP ret) {y : MethodName} {wy : List Cond} {rm : Room} {bytes : ByteArray} {maxL n index : Nat} {rt : Option FieldType} {C : String} {T : u_T} {N ci b : Nat} {fs : List Value} {As st0 : List Value} {S : Type} {post : S → Prop} {wf : S → va_W} {wc wr : va_W} (hM : MetV l y wy rm D cl tys SP (.ref b :: As) wc post wf) (cw : CallW R s args own C index y bytes maxL rt wy rm 0 0 n) (hdg : decode cc pc = .ok (.invokevirtual index, 3)) (rest : List Value) (isC isR isB : List Nat) (wg : S → va_W) (hc : cells ≤ R.cells ∧ slots ≤ R.slots) (hCs : isC.map (fun i => ws[i]?) = wc.map some) (hRs : isR.map (fun i => ws[i]?) = wr.map some) (hBs : ∀ u, isB.map (fun i => (wr ++ wf u)[i]?) = (wg u).map some) (hnC : va_nd isC = true) (hnR : va_nd isR = true) (hnB : va_nd isB = true) (hdis : isR.all (fun i => !isC.contains i) = true) (he : wc[0]? = some (b, .inr (ci, fs))) (hcl : cl[ci]? = some (C, T, N)) (hlen : As.length = n) (hst : st0 = As.reverse ++ .ref b :: rest) (hrm : (rest.map fun v => v.category).sum ≤ 8) (kk : ∀ (u : S), post u → VV p l e R s m args below meth c nL D cl A cells slots Q (wg u) (pc + 3) L rest) : VV p l e R s m args below meth c nL D cl A cells slots Q ws pc L st0 := by
  obtain ⟨hx, hb, hml, hown, hts, hK, hA, ⟨hNa, hNW⟩, hr, hlk⟩ := hC
  intro H locs ls hP hD hS h
  have hPc := hP.sub (ws' := wc) isC (vq_fm _ _ _ hCs)
  have hDc := hD.sub (ws' := wc) isC hnC hCs
  have hFc := va_free (wc := wc) hD hS hA isC hCs
  refine va_callv (va_runV (As := As) (rest := rest) (Ts := Ts) ⟨hx, hb, hml, hown, hts⟩ (hM H.size) cw ⟨fun a U g mk q => by obtain ⟨q0, q1, qP, qK, qD, qa, qN⟩ := q; exact ⟨q0, q1, qP, va_K.moved (u := U) (U := U.calling g mk a) (Vm.Alike.refl U.vm) qK, qD, qa, qa.2.2.2 _ U (U.calling g mk a) _ rfl qN⟩, va_recv hK hPc (ci := ci) (q0 := 0) hcl he, fun U hU hW => ⟨rfl, by rw [hU], by rw [hU]; exact hPc, va_K.moved hW.alike hK, hDc.weaken (fun _ _ _ _ => trivial), hNa, by rw [hU]; exact hNa.2.2.1 _ s U _ hW (hNa.2.1 _ _ _ _ (hNa.1 _ _ _ _ hNW (fun a h1 h2 => hS.2.1 a h1 h2)) hFc)⟩⟩ rfl hlen h.1 hst (lv_room hrm) hdg hc) hS (fun q _ h => hFc q h) hFc (fun u t H1 locs1 ht hvm hw hB hz1 hk1 hS1 => ?_)
  obtain ⟨hP1, hK1, hD1⟩ := hB
  rw [ht] at hP1
  obtain ⟨hP2, hD2⟩ := va_join (wr := wr) (w1 := wf u) hP hD isC isR hCs hRs hnR (fun i hi hj => by have := List.all_eq_true.mp hdis i hi; simp at this; exact this hj) hk1 hFc hP1 hD1
  exact kk u hw H1 locs1 ls (hP2.sub isB (vq_fm _ _ _ (hBs u))) (hD2.sub isB hnB (hBs u)) hS1 h
theorem vv_callVNI (hC : CX p s m args meth c cc own Ts nL D cl tys A SP ret) {y : MethodName} {wy : List Cond} {rm : Room} {bytes : ByteArray} {maxL n index : Nat} {rt : Option FieldType} {host : String} {C : String} {T : u_T} {N ci b : Nat} {fs : List Value} {As st0 : List Value} {S : Type} {post : Int32 → S → Prop} {wf : S → va_W} {wc wr : va_W} (hM : MetI l y wy rm D cl tys SP (.ref b :: As) wc post wf) (cw : (va_CN R s args own index y host bytes maxL rt wy rm 0 0 n ∧ (Cond.instanceMethod y).before args s = true ∧ (Cond.selects C y y).before args s = true)) (hdg : decode cc pc = .ok (.invokevirtual index, 3)) (rest : List Value) (isC isR isB : List Nat) (wg : S → va_W) (hc : cells ≤ R.cells ∧ slots ≤ R.slots) (hCs : isC.map (fun i => ws[i]?) = wc.map some) (hRs : isR.map (fun i => ws[i]?) = wr.map some) (hBs : ∀ u, isB.map (fun i => (wr ++ wf u)[i]?) = (wg u).map some) (hnC : va_nd isC = true) (hnR : va_nd isR = true) (hnB : va_nd isB = true) (hdis : isR.all (fun i => !isC.contains i) = true) (he : wc[0]? = some (b, .inr (ci, fs))) (hcl : cl[ci]? = some (C, T, N)) (hlen : As.length = n) (hst : st0 = As.reverse ++ .ref b :: rest) (hrm : (rest.map fun v => v.category).sum ≤ 8) (kk : ∀ (r : Int32) (u : S), post r u → VV p l e R s m args below meth c nL D cl A cells slots Q (wg u) (pc + 3) L (.int r :: rest)) : VV p l e R s m args below meth c nL D cl A cells slots Q ws pc L st0 := by
  obtain ⟨hx, hb, hml, hown, hts, hK, hA, ⟨hNa, hNW⟩, hr, hlk⟩ := hC
  intro H locs ls hP hD hS h
  have hPc := hP.sub (ws' := wc) isC (vq_fm _ _ _ hCs)
  have hDc := hD.sub (ws' := wc) isC hnC hCs
  have hFc := va_free (wc := wc) hD hS hA isC hCs
  refine va_calli (va_runVN (As := As) (rest := rest) (Ts := Ts) ⟨hx, hb, hml, hown, hts⟩ (hM H.size) cw ⟨fun a U g mk q => by obtain ⟨q0, q1, qP, qK, qD, qa, qN⟩ := q; exact ⟨q0, q1, qP, va_K.moved (u := U) (U := U.calling g mk a) (Vm.Alike.refl U.vm) qK, qD, qa, qa.2.2.2 _ U (U.calling g mk a) _ rfl qN⟩, va_recv hK hPc (ci := ci) (q0 := 0) hcl he, fun U hU hW => ⟨rfl, by rw [hU], by rw [hU]; exact hPc, va_K.moved hW.alike hK, hDc.weaken (fun _ _ _ _ => trivial), hNa, by rw [hU]; exact hNa.2.2.1 _ s U _ hW (hNa.2.1 _ _ _ _ (hNa.1 _ _ _ _ hNW (fun a h1 h2 => hS.2.1 a h1 h2)) hFc)⟩⟩ rfl hlen h.1 hst (lv_room hrm) hdg hc) hS (fun q _ h => hFc q h) hFc (fun r u t H1 locs1 ht hvm hw hB hz1 hk1 hS1 => ?_)
  obtain ⟨hP1, hK1, hD1⟩ := hB
  rw [ht] at hP1
  obtain ⟨hP2, hD2⟩ := va_join (wr := wr) (w1 := wf u) hP hD isC isR hCs hRs hnR (fun i hi hj => by have := List.all_eq_true.mp hdis i hi; simp at this; exact this hj) hk1 hFc hP1 hD1
  exact kk r u hw H1 locs1 ls (hP2.sub isB (vq_fm _ _ _ (hBs u))) (hD2.sub isB hnB (hBs u)) hS1 h
theorem vv_callVNV (hC : CX p s m args meth c cc own Ts nL D cl tys A SP ret) {y : MethodName} {wy : List Cond} {rm : Room} {bytes : ByteArray} {maxL n index : Nat} {rt : Option FieldType} {host : String} {C : String} {T : u_T} {N ci b : Nat} {fs : List Value} {As st0 : List Value} {S : Type} {post : S → Prop} {wf : S → va_W} {wc wr : va_W} (hM : MetV l y wy rm D cl tys SP (.ref b :: As) wc post wf) (cw : (va_CN R s args own index y host bytes maxL rt wy rm 0 0 n ∧ (Cond.instanceMethod y).before args s = true ∧ (Cond.selects C y y).before args s = true)) (hdg : decode cc pc = .ok (.invokevirtual index, 3)) (rest : List Value) (isC isR isB : List Nat) (wg : S → va_W) (hc : cells ≤ R.cells ∧ slots ≤ R.slots) (hCs : isC.map (fun i => ws[i]?) = wc.map some) (hRs : isR.map (fun i => ws[i]?) = wr.map some) (hBs : ∀ u, isB.map (fun i => (wr ++ wf u)[i]?) = (wg u).map some) (hnC : va_nd isC = true) (hnR : va_nd isR = true) (hnB : va_nd isB = true) (hdis : isR.all (fun i => !isC.contains i) = true) (he : wc[0]? = some (b, .inr (ci, fs))) (hcl : cl[ci]? = some (C, T, N)) (hlen : As.length = n) (hst : st0 = As.reverse ++ .ref b :: rest) (hrm : (rest.map fun v => v.category).sum ≤ 8) (kk : ∀ (u : S), post u → VV p l e R s m args below meth c nL D cl A cells slots Q (wg u) (pc + 3) L rest) : VV p l e R s m args below meth c nL D cl A cells slots Q ws pc L st0 := by
  obtain ⟨hx, hb, hml, hown, hts, hK, hA, ⟨hNa, hNW⟩, hr, hlk⟩ := hC
  intro H locs ls hP hD hS h
  have hPc := hP.sub (ws' := wc) isC (vq_fm _ _ _ hCs)
  have hDc := hD.sub (ws' := wc) isC hnC hCs
  have hFc := va_free (wc := wc) hD hS hA isC hCs
  refine va_callv (va_runVN (As := As) (rest := rest) (Ts := Ts) ⟨hx, hb, hml, hown, hts⟩ (hM H.size) cw ⟨fun a U g mk q => by obtain ⟨q0, q1, qP, qK, qD, qa, qN⟩ := q; exact ⟨q0, q1, qP, va_K.moved (u := U) (U := U.calling g mk a) (Vm.Alike.refl U.vm) qK, qD, qa, qa.2.2.2 _ U (U.calling g mk a) _ rfl qN⟩, va_recv hK hPc (ci := ci) (q0 := 0) hcl he, fun U hU hW => ⟨rfl, by rw [hU], by rw [hU]; exact hPc, va_K.moved hW.alike hK, hDc.weaken (fun _ _ _ _ => trivial), hNa, by rw [hU]; exact hNa.2.2.1 _ s U _ hW (hNa.2.1 _ _ _ _ (hNa.1 _ _ _ _ hNW (fun a h1 h2 => hS.2.1 a h1 h2)) hFc)⟩⟩ rfl hlen h.1 hst (lv_room hrm) hdg hc) hS (fun q _ h => hFc q h) hFc (fun u t H1 locs1 ht hvm hw hB hz1 hk1 hS1 => ?_)
  obtain ⟨hP1, hK1, hD1⟩ := hB
  rw [ht] at hP1
  obtain ⟨hP2, hD2⟩ := va_join (wr := wr) (w1 := wf u) hP hD isC isR hCs hRs hnR (fun i hi hj => by have := List.all_eq_true.mp hdis i hi; simp at this; exact this hj) hk1 hFc hP1 hD1
  exact kk u hw H1 locs1 ls (hP2.sub isB (vq_fm _ _ _ (hBs u))) (hD2.sub isB hnB (hBs u)) hS1 h
theorem vv_callSI (hC : CX p s m args meth c cc own Ts nL D cl tys A SP ret) {y : MethodName} {wy : List Cond} {rm : Room} {bytes : ByteArray} {maxL n index : Nat} {rt : Option FieldType} {As st0 : List Value} {S : Type} {post : Int32 → S → Prop} {wf : S → va_W} {wc wr : va_W} (hM : MetI l y wy rm D cl tys SP As wc post wf) (cw : (CallB R s args own index y bytes maxL rt wy rm 0 0 n ∧ (Cond.static y).before args s = true)) (hdg : decode cc pc = .ok (.invokestatic index, 3)) (rest : List Value) (isC isR isB : List Nat) (wg : S → va_W) (hc : cells ≤ R.cells ∧ slots ≤ R.slots) (hCs : isC.map (fun i => ws[i]?) = wc.map some) (hRs : isR.map (fun i => ws[i]?) = wr.map some) (hBs : ∀ u, isB.map (fun i => (wr ++ wf u)[i]?) = (wg u).map some) (hnC : va_nd isC = true) (hnR : va_nd isR = true) (hnB : va_nd isB = true) (hdis : isR.all (fun i => !isC.contains i) = true) (hlen : As.length = n) (hst : st0 = As.reverse ++ rest) (hrm : (rest.map fun v => v.category).sum ≤ 8) (kk : ∀ (r : Int32) (u : S), post r u → VV p l e R s m args below meth c nL D cl A cells slots Q (wg u) (pc + 3) L (.int r :: rest)) : VV p l e R s m args below meth c nL D cl A cells slots Q ws pc L st0 := by
  obtain ⟨hx, hb, hml, hown, hts, hK, hA, ⟨hNa, hNW⟩, hr, hlk⟩ := hC
  intro H locs ls hP hD hS h
  have hPc := hP.sub (ws' := wc) isC (vq_fm _ _ _ hCs)
  have hDc := hD.sub (ws' := wc) isC hnC hCs
  have hFc := va_free (wc := wc) hD hS hA isC hCs
  refine va_calli (va_runS (As := As) (rest := rest) (Ts := Ts) ⟨hx, hb, hml, hown, hts⟩ (hM H.size) cw ⟨fun a U g mk q => by obtain ⟨q0, q1, qP, qK, qD, qa, qN⟩ := q; exact ⟨q0, q1, qP, va_K.moved (u := U) (U := U.calling g mk a) (Vm.Alike.refl U.vm) qK, qD, qa, qa.2.2.2 _ U (U.calling g mk a) _ rfl qN⟩, fun U hU hW => ⟨rfl, by rw [hU], by rw [hU]; exact hPc, va_K.moved hW.alike hK, hDc.weaken (fun _ _ _ _ => trivial), hNa, by rw [hU]; exact hNa.2.2.1 _ s U _ hW (hNa.2.1 _ _ _ _ (hNa.1 _ _ _ _ hNW (fun a h1 h2 => hS.2.1 a h1 h2)) hFc)⟩⟩ rfl hlen h.1 hst (lv_room hrm) hdg hc) hS (fun q _ h => hFc q h) hFc (fun r u t H1 locs1 ht hvm hw hB hz1 hk1 hS1 => ?_)
  obtain ⟨hP1, hK1, hD1⟩ := hB
  rw [ht] at hP1
  obtain ⟨hP2, hD2⟩ := va_join (wr := wr) (w1 := wf u) hP hD isC isR hCs hRs hnR (fun i hi hj => by have := List.all_eq_true.mp hdis i hi; simp at this; exact this hj) hk1 hFc hP1 hD1
  exact kk r u hw H1 locs1 ls (hP2.sub isB (vq_fm _ _ _ (hBs u))) (hD2.sub isB hnB (hBs u)) hS1 h
theorem vv_callSV (hC : CX p s m args meth c cc own Ts nL D cl tys A SP ret) {y : MethodName} {wy : List Cond} {rm : Room} {bytes : ByteArray} {maxL n index : Nat} {rt : Option FieldType} {As st0 : List Value} {S : Type} {post : S → Prop} {wf : S → va_W} {wc wr : va_W} (hM : MetV l y wy rm D cl tys SP As wc post wf) (cw : (CallB R s args own index y bytes maxL rt wy rm 0 0 n ∧ (Cond.static y).before args s = true)) (hdg : decode cc pc = .ok (.invokestatic index, 3)) (rest : List Value) (isC isR isB : List Nat) (wg : S → va_W) (hc : cells ≤ R.cells ∧ slots ≤ R.slots) (hCs : isC.map (fun i => ws[i]?) = wc.map some) (hRs : isR.map (fun i => ws[i]?) = wr.map some) (hBs : ∀ u, isB.map (fun i => (wr ++ wf u)[i]?) = (wg u).map some) (hnC : va_nd isC = true) (hnR : va_nd isR = true) (hnB : va_nd isB = true) (hdis : isR.all (fun i => !isC.contains i) = true) (hlen : As.length = n) (hst : st0 = As.reverse ++ rest) (hrm : (rest.map fun v => v.category).sum ≤ 8) (kk : ∀ (u : S), post u → VV p l e R s m args below meth c nL D cl A cells slots Q (wg u) (pc + 3) L rest) : VV p l e R s m args below meth c nL D cl A cells slots Q ws pc L st0 := by
  obtain ⟨hx, hb, hml, hown, hts, hK, hA, ⟨hNa, hNW⟩, hr, hlk⟩ := hC
  intro H locs ls hP hD hS h
  have hPc := hP.sub (ws' := wc) isC (vq_fm _ _ _ hCs)
  have hDc := hD.sub (ws' := wc) isC hnC hCs
  have hFc := va_free (wc := wc) hD hS hA isC hCs
  refine va_callv (va_runS (As := As) (rest := rest) (Ts := Ts) ⟨hx, hb, hml, hown, hts⟩ (hM H.size) cw ⟨fun a U g mk q => by obtain ⟨q0, q1, qP, qK, qD, qa, qN⟩ := q; exact ⟨q0, q1, qP, va_K.moved (u := U) (U := U.calling g mk a) (Vm.Alike.refl U.vm) qK, qD, qa, qa.2.2.2 _ U (U.calling g mk a) _ rfl qN⟩, fun U hU hW => ⟨rfl, by rw [hU], by rw [hU]; exact hPc, va_K.moved hW.alike hK, hDc.weaken (fun _ _ _ _ => trivial), hNa, by rw [hU]; exact hNa.2.2.1 _ s U _ hW (hNa.2.1 _ _ _ _ (hNa.1 _ _ _ _ hNW (fun a h1 h2 => hS.2.1 a h1 h2)) hFc)⟩⟩ rfl hlen h.1 hst (lv_room hrm) hdg hc) hS (fun q _ h => hFc q h) hFc (fun u t H1 locs1 ht hvm hw hB hz1 hk1 hS1 => ?_)
  obtain ⟨hP1, hK1, hD1⟩ := hB
  rw [ht] at hP1
  obtain ⟨hP2, hD2⟩ := va_join (wr := wr) (w1 := wf u) hP hD isC isR hCs hRs hnR (fun i hi hj => by have := List.all_eq_true.mp hdis i hi; simp at this; exact this hj) hk1 hFc hP1 hD1
  exact kk u hw H1 locs1 ls (hP2.sub isB (vq_fm _ _ _ (hBs u))) (hD2.sub isB hnB (hBs u)) hS1 h
theorem vv_callSNI (hC : CX p s m args meth c cc own Ts nL D cl tys A SP ret) {y : MethodName} {wy : List Cond} {rm : Room} {bytes : ByteArray} {maxL n index : Nat} {rt : Option FieldType} {host : String} {As st0 : List Value} {S : Type} {post : Int32 → S → Prop} {wf : S → va_W} {wc wr : va_W} (hM : MetI l y wy rm D cl tys SP As wc post wf) (cw : (va_CN R s args own index y host bytes maxL rt wy rm 0 0 n ∧ (Cond.static y).before args s = true ∧ True)) (hdg : decode cc pc = .ok (.invokestatic index, 3)) (rest : List Value) (isC isR isB : List Nat) (wg : S → va_W) (hc : cells ≤ R.cells ∧ slots ≤ R.slots) (hCs : isC.map (fun i => ws[i]?) = wc.map some) (hRs : isR.map (fun i => ws[i]?) = wr.map some) (hBs : ∀ u, isB.map (fun i => (wr ++ wf u)[i]?) = (wg u).map some) (hnC : va_nd isC = true) (hnR : va_nd isR = true) (hnB : va_nd isB = true) (hdis : isR.all (fun i => !isC.contains i) = true) (hlen : As.length = n) (hst : st0 = As.reverse ++ rest) (hrm : (rest.map fun v => v.category).sum ≤ 8) (kk : ∀ (r : Int32) (u : S), post r u → VV p l e R s m args below meth c nL D cl A cells slots Q (wg u) (pc + 3) L (.int r :: rest)) : VV p l e R s m args below meth c nL D cl A cells slots Q ws pc L st0 := by
  obtain ⟨hx, hb, hml, hown, hts, hK, hA, ⟨hNa, hNW⟩, hr, hlk⟩ := hC
  intro H locs ls hP hD hS h
  have hPc := hP.sub (ws' := wc) isC (vq_fm _ _ _ hCs)
  have hDc := hD.sub (ws' := wc) isC hnC hCs
  have hFc := va_free (wc := wc) hD hS hA isC hCs
  refine va_calli (va_runSN (As := As) (rest := rest) (Ts := Ts) ⟨hx, hb, hml, hown, hts⟩ (hM H.size) cw ⟨fun a U g mk q => by obtain ⟨q0, q1, qP, qK, qD, qa, qN⟩ := q; exact ⟨q0, q1, qP, va_K.moved (u := U) (U := U.calling g mk a) (Vm.Alike.refl U.vm) qK, qD, qa, qa.2.2.2 _ U (U.calling g mk a) _ rfl qN⟩, fun U hU hW => ⟨rfl, by rw [hU], by rw [hU]; exact hPc, va_K.moved hW.alike hK, hDc.weaken (fun _ _ _ _ => trivial), hNa, by rw [hU]; exact hNa.2.2.1 _ s U _ hW (hNa.2.1 _ _ _ _ (hNa.1 _ _ _ _ hNW (fun a h1 h2 => hS.2.1 a h1 h2)) hFc)⟩⟩ rfl hlen h.1 hst (lv_room hrm) hdg hc) hS (fun q _ h => hFc q h) hFc (fun r u t H1 locs1 ht hvm hw hB hz1 hk1 hS1 => ?_)
  obtain ⟨hP1, hK1, hD1⟩ := hB
  rw [ht] at hP1
  obtain ⟨hP2, hD2⟩ := va_join (wr := wr) (w1 := wf u) hP hD isC isR hCs hRs hnR (fun i hi hj => by have := List.all_eq_true.mp hdis i hi; simp at this; exact this hj) hk1 hFc hP1 hD1
  exact kk r u hw H1 locs1 ls (hP2.sub isB (vq_fm _ _ _ (hBs u))) (hD2.sub isB hnB (hBs u)) hS1 h
theorem vv_callSNV (hC : CX p s m args meth c cc own Ts nL D cl tys A SP ret) {y : MethodName} {wy : List Cond} {rm : Room} {bytes : ByteArray} {maxL n index : Nat} {rt : Option FieldType} {host : String} {As st0 : List Value} {S : Type} {post : S → Prop} {wf : S → va_W} {wc wr : va_W} (hM : MetV l y wy rm D cl tys SP As wc post wf) (cw : (va_CN R s args own index y host bytes maxL rt wy rm 0 0 n ∧ (Cond.static y).before args s = true ∧ True)) (hdg : decode cc pc = .ok (.invokestatic index, 3)) (rest : List Value) (isC isR isB : List Nat) (wg : S → va_W) (hc : cells ≤ R.cells ∧ slots ≤ R.slots) (hCs : isC.map (fun i => ws[i]?) = wc.map some) (hRs : isR.map (fun i => ws[i]?) = wr.map some) (hBs : ∀ u, isB.map (fun i => (wr ++ wf u)[i]?) = (wg u).map some) (hnC : va_nd isC = true) (hnR : va_nd isR = true) (hnB : va_nd isB = true) (hdis : isR.all (fun i => !isC.contains i) = true) (hlen : As.length = n) (hst : st0 = As.reverse ++ rest) (hrm : (rest.map fun v => v.category).sum ≤ 8) (kk : ∀ (u : S), post u → VV p l e R s m args below meth c nL D cl A cells slots Q (wg u) (pc + 3) L rest) : VV p l e R s m args below meth c nL D cl A cells slots Q ws pc L st0 := by
  obtain ⟨hx, hb, hml, hown, hts, hK, hA, ⟨hNa, hNW⟩, hr, hlk⟩ := hC
  intro H locs ls hP hD hS h
  have hPc := hP.sub (ws' := wc) isC (vq_fm _ _ _ hCs)
  have hDc := hD.sub (ws' := wc) isC hnC hCs
  have hFc := va_free (wc := wc) hD hS hA isC hCs
  refine va_callv (va_runSN (As := As) (rest := rest) (Ts := Ts) ⟨hx, hb, hml, hown, hts⟩ (hM H.size) cw ⟨fun a U g mk q => by obtain ⟨q0, q1, qP, qK, qD, qa, qN⟩ := q; exact ⟨q0, q1, qP, va_K.moved (u := U) (U := U.calling g mk a) (Vm.Alike.refl U.vm) qK, qD, qa, qa.2.2.2 _ U (U.calling g mk a) _ rfl qN⟩, fun U hU hW => ⟨rfl, by rw [hU], by rw [hU]; exact hPc, va_K.moved hW.alike hK, hDc.weaken (fun _ _ _ _ => trivial), hNa, by rw [hU]; exact hNa.2.2.1 _ s U _ hW (hNa.2.1 _ _ _ _ (hNa.1 _ _ _ _ hNW (fun a h1 h2 => hS.2.1 a h1 h2)) hFc)⟩⟩ rfl hlen h.1 hst (lv_room hrm) hdg hc) hS (fun q _ h => hFc q h) hFc (fun u t H1 locs1 ht hvm hw hB hz1 hk1 hS1 => ?_)
  obtain ⟨hP1, hK1, hD1⟩ := hB
  rw [ht] at hP1
  obtain ⟨hP2, hD2⟩ := va_join (wr := wr) (w1 := wf u) hP hD isC isR hCs hRs hnR (fun i hi hj => by have := List.all_eq_true.mp hdis i hi; simp at this; exact this hj) hk1 hFc hP1 hD1
  exact kk u hw H1 locs1 ls (hP2.sub isB (vq_fm _ _ _ (hBs u))) (hD2.sub isB hnB (hBs u)) hS1 h
end VLAYER
end
section
def R_T : String := "CircuitFiles$Tape"
def T_T : u_T := fun k => match k with
  | 0 => ("CircuitFiles$Tape", "ready", "[I", true)
  | 1 => ("CircuitFiles$Tape", "bytes", "[I", true)
  | _ => ("CircuitFiles$Tape", "length", "I", false)
def ty_T : Nat → FieldType := fun k => match k with
  | 0 => .array .int
  | 1 => .array .int
  | _ => .int
def R_U : String := "CircuitFiles$Cursor"
def T_U : u_T := fun k => match k with
  | 0 => ("CircuitFiles$Cursor", "tape", "LCircuitFiles$Tape;", true)
  | 1 => ("CircuitFiles$Cursor", "at", "I", false)
  | 2 => ("CircuitFiles$Cursor", "start", "I", false)
  | 3 => ("CircuitFiles$Cursor", "number", "I", false)
  | 4 => ("CircuitFiles$Cursor", "faultKind", "I", false)
  | _ => ("CircuitFiles$Cursor", "faultPlace", "I", false)
def ty_U : Nat → FieldType := fun k => match k with
  | 0 => .object "CircuitFiles$Tape"
  | 1 => .int
  | 2 => .int
  | 3 => .int
  | 4 => .int
  | _ => .int
def R_R : String := "CircuitFiles$Reader"
def T_R : u_T := fun k => match k with
  | 0 => ("CircuitFiles$Reader", "cursor", "LCircuitFiles$Cursor;", true)
  | 1 => ("CircuitFiles$Reader", "sorter", "LCircuitFiles$AndSorter;", true)
  | 2 => ("CircuitFiles$Reader", "useLiteral", "[I", true)
  | 3 => ("CircuitFiles$Reader", "usePlace", "[I", true)
  | 4 => ("CircuitFiles$Reader", "uses", "I", false)
  | _ => ("CircuitFiles$Reader", "binary", "Z", false)
def ty_R : Nat → FieldType := fun k => match k with
  | 0 => .object "CircuitFiles$Cursor"
  | 1 => .object "CircuitFiles$AndSorter"
  | 2 => .array .int
  | 3 => .array .int
  | 4 => .int
  | _ => .boolean
def R_S : String := "CircuitFiles$AndSorter"
def T_S : u_T := fun k => match k with
  | 0 => ("CircuitFiles$AndSorter", "come", "[Z", true)
  | 1 => ("CircuitFiles$AndSorter", "reached", "[Z", true)
  | 2 => ("CircuitFiles$AndSorter", "andOf", "[I", true)
  | 3 => ("CircuitFiles$AndSorter", "stack", "[I", true)
  | _ => ("CircuitFiles$AndSorter", "height", "I", false)
def ty_S : Nat → FieldType := fun k => match k with
  | 0 => .array .boolean
  | 1 => .array .boolean
  | 2 => .array .int
  | 3 => .array .int
  | _ => .int
def R_X : String := "CircuitFiles$Form"
def T_X : u_T := fun k => match k with
  | 0 => ("CircuitFiles$Form", "bytes", "[I", true)
  | 1 => ("CircuitFiles$Form", "newVariable", "[I", true)
  | 2 => ("CircuitFiles$Form", "length", "I", false)
  | _ => ("CircuitFiles$Form", "written", "Z", false)
def ty_X : Nat → FieldType := fun k => match k with
  | 0 => .array .int
  | 1 => .array .int
  | 2 => .int
  | _ => .boolean
def R_C : String := "CircuitFiles$Circuit"
def T_C : u_T := fun k => match k with
  | 0 => ("CircuitFiles$Circuit", "top", "I", false)
  | 1 => ("CircuitFiles$Circuit", "inputs", "I", false)
  | 2 => ("CircuitFiles$Circuit", "latches", "I", false)
  | 3 => ("CircuitFiles$Circuit", "outputs", "I", false)
  | 4 => ("CircuitFiles$Circuit", "ands", "I", false)
  | 5 => ("CircuitFiles$Circuit", "latchBits", "I", false)
  | 6 => ("CircuitFiles$Circuit", "inputVariable", "[I", true)
  | 7 => ("CircuitFiles$Circuit", "latchVariable", "[I", true)
  | 8 => ("CircuitFiles$Circuit", "latchNext", "[I", true)
  | 9 => ("CircuitFiles$Circuit", "outputLiteral", "[I", true)
  | 10 => ("CircuitFiles$Circuit", "andVariable", "[I", true)
  | 11 => ("CircuitFiles$Circuit", "andFirst", "[I", true)
  | 12 => ("CircuitFiles$Circuit", "andSecond", "[I", true)
  | 13 => ("CircuitFiles$Circuit", "order", "[I", true)
  | 14 => ("CircuitFiles$Circuit", "defined", "[Z", true)
  | 15 => ("CircuitFiles$Circuit", "nameLength", "[I", true)
  | 16 => ("CircuitFiles$Circuit", "nameBytes", "[I", true)
  | _ => ("CircuitFiles$Circuit", "bit", "[I", true)
def ty_C : Nat → FieldType := fun k => match k with
  | 0 => .int
  | 1 => .int
  | 2 => .int
  | 3 => .int
  | 4 => .int
  | 5 => .int
  | 6 => .array .int
  | 7 => .array .int
  | 8 => .array .int
  | 9 => .array .int
  | 10 => .array .int
  | 11 => .array .int
  | 12 => .array .int
  | 13 => .array .int
  | 14 => .array .boolean
  | 15 => .array .int
  | 16 => .array .int
  | _ => .array .int
def R_F : String := "CircuitFiles"
def T_F : u_T := fun k => match k with
  | 0 => ("CircuitFiles", "tape", "LCircuitFiles$Tape;", true)
  | 1 => ("CircuitFiles", "reader", "LCircuitFiles$Reader;", true)
  | 2 => ("CircuitFiles", "textForm", "LCircuitFiles$Form;", true)
  | 3 => ("CircuitFiles", "binaryForm", "LCircuitFiles$Form;", true)
  | 4 => ("CircuitFiles", "circuit", "LCircuitFiles$Circuit;", false)
  | _ => ("CircuitFiles", "draft", "LCircuitFiles$Circuit;", false)
def ty_F : Nat → FieldType := fun k => match k with
  | 0 => .object "CircuitFiles$Tape"
  | 1 => .object "CircuitFiles$Reader"
  | 2 => .object "CircuitFiles$Form"
  | 3 => .object "CircuitFiles$Form"
  | 4 => .object "CircuitFiles$Circuit"
  | _ => .object "CircuitFiles$Circuit"
def R_M : String := "CircuitFilesModel"
def T_M : u_T := fun k => match k with
  | 0 => ("CircuitFilesModel", "thrown", "I", false)
  | 1 => ("CircuitFilesModel", "tape", "[B", true)
  | 2 => ("CircuitFilesModel", "ready", "[B", true)
  | 3 => ("CircuitFilesModel", "taped", "I", false)
  | 4 => ("CircuitFilesModel", "fault", "I", false)
  | 5 => ("CircuitFilesModel", "faultPlace", "I", false)
  | 6 => ("CircuitFilesModel", "at", "I", false)
  | 7 => ("CircuitFilesModel", "bad", "I", false)
  | 8 => ("CircuitFilesModel", "badPlace", "I", false)
  | 9 => ("CircuitFilesModel", "number", "I", false)
  | 10 => ("CircuitFilesModel", "head", "[I", true)
  | 11 => ("CircuitFilesModel", "inputs", "[I", true)
  | 12 => ("CircuitFilesModel", "latches", "[I", true)
  | 13 => ("CircuitFilesModel", "nexts", "[I", true)
  | 14 => ("CircuitFilesModel", "outputs", "[I", true)
  | 15 => ("CircuitFilesModel", "ands", "[I", true)
  | 16 => ("CircuitFilesModel", "left", "[I", true)
  | 17 => ("CircuitFilesModel", "right", "[I", true)
  | 18 => ("CircuitFilesModel", "kinds", "[I", true)
  | 19 => ("CircuitFilesModel", "places", "[I", true)
  | 20 => ("CircuitFilesModel", "nextAt", "[I", true)
  | 21 => ("CircuitFilesModel", "outputAt", "[I", true)
  | 22 => ("CircuitFilesModel", "leftAt", "[I", true)
  | 23 => ("CircuitFilesModel", "rightAt", "[I", true)
  | 24 => ("CircuitFilesModel", "names", "[B", true)
  | 25 => ("CircuitFilesModel", "lengths", "[I", true)
  | 26 => ("CircuitFilesModel", "order", "[I", true)
  | 27 => ("CircuitFilesModel", "anew", "[I", true)
  | 28 => ("CircuitFilesModel", "come", "[Z", true)
  | 29 => ("CircuitFilesModel", "ordered", "I", false)
  | 30 => ("CircuitFilesModel", "state", "I", false)
  | 31 => ("CircuitFilesModel", "values", "[I", true)
  | 32 => ("CircuitFilesModel", "made", "[B", true)
  | _ => ("CircuitFilesModel", "size", "I", false)
def ty_M : Nat → FieldType := fun k => match k with
  | 0 => .int
  | 1 => .array .byte
  | 2 => .array .byte
  | 3 => .int
  | 4 => .int
  | 5 => .int
  | 6 => .int
  | 7 => .int
  | 8 => .int
  | 9 => .int
  | 10 => .array .int
  | 11 => .array .int
  | 12 => .array .int
  | 13 => .array .int
  | 14 => .array .int
  | 15 => .array .int
  | 16 => .array .int
  | 17 => .array .int
  | 18 => .array .int
  | 19 => .array .int
  | 20 => .array .int
  | 21 => .array .int
  | 22 => .array .int
  | 23 => .array .int
  | 24 => .array .byte
  | 25 => .array .int
  | 26 => .array .int
  | 27 => .array .int
  | 28 => .array .boolean
  | 29 => .int
  | 30 => .int
  | 31 => .array .int
  | 32 => .array .byte
  | _ => .int
def R_L : String := "CircuitFilesLaw"
def R_A : String := "java/lang/Math"
abbrev vwCl : List vw_C := [(R_T, T_T, 3), (R_U, T_U, 6), (R_R, T_R, 6), (R_S, T_S, 5), (R_X, T_X, 4), (R_C, T_C, 18), (R_F, T_F, 6), (R_M, T_M, 34)]
abbrev b_F_init : ByteArray := prog_1_method_1_code
def y_F_init : MethodName := ⟨R_F, "<init>", "()V"⟩
abbrev b_T_init : ByteArray := prog_7_method_1_code
def y_T_init : MethodName := ⟨R_T, "<init>", "()V"⟩
abbrev b_R_init : ByteArray := prog_6_method_1_code
def y_R_init : MethodName := ⟨R_R, "<init>", "(LCircuitFiles$Tape;)V"⟩
abbrev b_S_init : ByteArray := prog_2_method_1_code
def y_S_init : MethodName := ⟨R_S, "<init>", "()V"⟩
abbrev b_U_init : ByteArray := prog_4_method_1_code
def y_U_init : MethodName := ⟨R_U, "<init>", "(LCircuitFiles$Tape;)V"⟩
abbrev b_X_init : ByteArray := prog_5_method_1_code
def y_X_init : MethodName := ⟨R_X, "<init>", "()V"⟩
abbrev b_C_init : ByteArray := prog_3_method_1_code
def y_C_init : MethodName := ⟨R_C, "<init>", "()V"⟩
abbrev b_F_feed : ByteArray := prog_1_method_2_code
def y_F_feed : MethodName := ⟨R_F, "feed", "(IIIII)V"⟩
abbrev b_T_makeReady : ByteArray := prog_7_method_2_code
def y_T_makeReady : MethodName := ⟨R_T, "makeReady", "(II)V"⟩
abbrev b_F_end : ByteArray := prog_1_method_3_code
def y_F_end : MethodName := ⟨R_F, "end", "(I)I"⟩
abbrev b_T_take : ByteArray := prog_7_method_3_code
def y_T_take : MethodName := ⟨R_T, "take", "(I)I"⟩
abbrev b_F_fault : ByteArray := prog_1_method_5_code
def y_F_fault : MethodName := ⟨R_F, "fault", "(I)I"⟩
abbrev b_R_faultKind : ByteArray := prog_6_method_2_code
def y_R_faultKind : MethodName := ⟨R_R, "faultKind", "()I"⟩
abbrev b_R_faultPlace : ByteArray := prog_6_method_3_code
def y_R_faultPlace : MethodName := ⟨R_R, "faultPlace", "()I"⟩
abbrev b_F_many : ByteArray := prog_1_method_6_code
def y_F_many : MethodName := ⟨R_F, "many", "(I)I"⟩
abbrev b_F_symbol : ByteArray := prog_1_method_7_code
def y_F_symbol : MethodName := ⟨R_F, "symbol", "(III)I"⟩
abbrev b_C_countOf : ByteArray := prog_3_method_5_code
def y_C_countOf : MethodName := ⟨R_C, "countOf", "(I)I"⟩
abbrev b_F_slotOf : ByteArray := prog_1_method_13_code
def y_F_slotOf : MethodName := ⟨R_F, "slotOf", "(II)I"⟩
abbrev b_F_form : ByteArray := prog_1_method_8_code
def y_F_form : MethodName := ⟨R_F, "form", "(ZI)I"⟩
abbrev b_X_writeBinary : ByteArray := prog_5_method_5_code
def y_X_writeBinary : MethodName := ⟨R_X, "writeBinary", "(LCircuitFiles$Circuit;)V"⟩
abbrev b_X_numberAnew : ByteArray := prog_5_method_6_code
def y_X_numberAnew : MethodName := ⟨R_X, "numberAnew", "(LCircuitFiles$Circuit;)V"⟩
abbrev b_X_putHeader : ByteArray := prog_5_method_8_code
def y_X_putHeader : MethodName := ⟨R_X, "putHeader", "(LCircuitFiles$Circuit;II)V"⟩
abbrev b_X_put : ByteArray := prog_5_method_14_code
def y_X_put : MethodName := ⟨R_X, "put", "(I)V"⟩
abbrev b_X_putNumber : ByteArray := prog_5_method_12_code
def y_X_putNumber : MethodName := ⟨R_X, "putNumber", "(II)V"⟩
abbrev b_X_newLiteral : ByteArray := prog_5_method_7_code
def y_X_newLiteral : MethodName := ⟨R_X, "newLiteral", "(I)I"⟩
abbrev b_X_putBinaryAnd : ByteArray := prog_5_method_9_code
def y_X_putBinaryAnd : MethodName := ⟨R_X, "putBinaryAnd", "(LCircuitFiles$Circuit;I)V"⟩
abbrev b_A_max : ByteArray := prog_12_method_65_code
def y_A_max : MethodName := ⟨R_A, "max", "(II)I"⟩
abbrev b_X_putDelta : ByteArray := prog_5_method_13_code
def y_X_putDelta : MethodName := ⟨R_X, "putDelta", "(I)V"⟩
abbrev b_A_min : ByteArray := prog_12_method_69_code
def y_A_min : MethodName := ⟨R_A, "min", "(II)I"⟩
abbrev b_X_putSymbols : ByteArray := prog_5_method_10_code
def y_X_putSymbols : MethodName := ⟨R_X, "putSymbols", "(LCircuitFiles$Circuit;)V"⟩
abbrev b_X_putName : ByteArray := prog_5_method_11_code
def y_X_putName : MethodName := ⟨R_X, "putName", "(LCircuitFiles$Circuit;I)V"⟩
abbrev b_X_byteOf : ByteArray := prog_5_method_3_code
def y_X_byteOf : MethodName := ⟨R_X, "byteOf", "(I)I"⟩
abbrev b_X_writeText : ByteArray := prog_5_method_4_code
def y_X_writeText : MethodName := ⟨R_X, "writeText", "(LCircuitFiles$Circuit;)V"⟩
abbrev b_F_reset : ByteArray := prog_1_method_9_code
def y_F_reset : MethodName := ⟨R_F, "reset", "()V"⟩
abbrev b_F_state : ByteArray := prog_1_method_10_code
def y_F_state : MethodName := ⟨R_F, "state", "()I"⟩
abbrev b_F_value : ByteArray := prog_1_method_11_code
def y_F_value : MethodName := ⟨R_F, "value", "(II)I"⟩
abbrev b_C_highestLiteral : ByteArray := prog_3_method_4_code
def y_C_highestLiteral : MethodName := ⟨R_C, "highestLiteral", "()I"⟩
abbrev b_C_isKnown : ByteArray := prog_3_method_6_code
def y_C_isKnown : MethodName := ⟨R_C, "isKnown", "(I)Z"⟩
abbrev b_C_settle : ByteArray := prog_3_method_7_code
def y_C_settle : MethodName := ⟨R_C, "settle", "(I)V"⟩
abbrev b_C_bitOf : ByteArray := prog_3_method_8_code
def y_C_bitOf : MethodName := ⟨R_C, "bitOf", "(I)I"⟩
abbrev b_F_step : ByteArray := prog_1_method_12_code
def y_F_step : MethodName := ⟨R_F, "step", "(I)I"⟩
abbrev b_C_bitsOf : ByteArray := prog_3_method_9_code
def y_C_bitsOf : MethodName := ⟨R_C, "bitsOf", "([II)I"⟩
abbrev b_L_load : ByteArray := method_3_code
def y_L_load : MethodName := ⟨R_L, "load", "(LCircuitFiles;[J)I"⟩
abbrev b_F_load : ByteArray := prog_1_method_4_code
def y_F_load : MethodName := ⟨R_F, "load", "()I"⟩
abbrev b_R_readFile : ByteArray := prog_6_method_4_code
def y_R_readFile : MethodName := ⟨R_R, "readFile", "(LCircuitFiles$Circuit;)Z"⟩
abbrev b_U_restart : ByteArray := prog_4_method_2_code
def y_U_restart : MethodName := ⟨R_U, "restart", "()V"⟩
abbrev b_C_forget : ByteArray := prog_3_method_2_code
def y_C_forget : MethodName := ⟨R_C, "forget", "()V"⟩
abbrev b_R_readHeader : ByteArray := prog_6_method_5_code
def y_R_readHeader : MethodName := ⟨R_R, "readHeader", "(LCircuitFiles$Circuit;)Z"⟩
abbrev b_U_expect : ByteArray := prog_4_method_5_code
def y_U_expect : MethodName := ⟨R_U, "expect", "(I)Z"⟩
abbrev b_U_peek : ByteArray := prog_4_method_4_code
def y_U_peek : MethodName := ⟨R_U, "peek", "()I"⟩
abbrev b_U_fail : ByteArray := prog_4_method_3_code
def y_U_fail : MethodName := ⟨R_U, "fail", "(II)Z"⟩
abbrev b_R_readCount : ByteArray := prog_6_method_6_code
def y_R_readCount : MethodName := ⟨R_R, "readCount", "()Z"⟩
abbrev b_U_readNumber : ByteArray := prog_4_method_6_code
def y_U_readNumber : MethodName := ⟨R_U, "readNumber", "()Z"⟩
abbrev b_C_isWithinBounds : ByteArray := prog_3_method_3_code
def y_C_isWithinBounds : MethodName := ⟨R_C, "isWithinBounds", "(Z)Z"⟩
abbrev b_R_readInputs : ByteArray := prog_6_method_7_code
def y_R_readInputs : MethodName := ⟨R_R, "readInputs", "(LCircuitFiles$Circuit;)Z"⟩
abbrev b_R_readDefinition : ByteArray := prog_6_method_14_code
def y_R_readDefinition : MethodName := ⟨R_R, "readDefinition", "(LCircuitFiles$Circuit;)Z"⟩
abbrev b_R_readLiteral : ByteArray := prog_6_method_13_code
def y_R_readLiteral : MethodName := ⟨R_R, "readLiteral", "(LCircuitFiles$Circuit;)Z"⟩
abbrev b_R_readLatches : ByteArray := prog_6_method_8_code
def y_R_readLatches : MethodName := ⟨R_R, "readLatches", "(LCircuitFiles$Circuit;)Z"⟩
abbrev b_R_readUse : ByteArray := prog_6_method_15_code
def y_R_readUse : MethodName := ⟨R_R, "readUse", "(LCircuitFiles$Circuit;)Z"⟩
abbrev b_R_readOutputs : ByteArray := prog_6_method_9_code
def y_R_readOutputs : MethodName := ⟨R_R, "readOutputs", "(LCircuitFiles$Circuit;)Z"⟩
abbrev b_R_readBinaryAnds : ByteArray := prog_6_method_11_code
def y_R_readBinaryAnds : MethodName := ⟨R_R, "readBinaryAnds", "(LCircuitFiles$Circuit;)Z"⟩
abbrev b_R_readDelta : ByteArray := prog_6_method_12_code
def y_R_readDelta : MethodName := ⟨R_R, "readDelta", "(II)Z"⟩
abbrev b_U_readSevens : ByteArray := prog_4_method_7_code
def y_U_readSevens : MethodName := ⟨R_U, "readSevens", "()Z"⟩
abbrev b_R_readTextAnds : ByteArray := prog_6_method_10_code
def y_R_readTextAnds : MethodName := ⟨R_R, "readTextAnds", "(LCircuitFiles$Circuit;)Z"⟩
abbrev b_R_readSymbols : ByteArray := prog_6_method_16_code
def y_R_readSymbols : MethodName := ⟨R_R, "readSymbols", "(LCircuitFiles$Circuit;)Z"⟩
abbrev b_R_kindOf : ByteArray := prog_6_method_17_code
def y_R_kindOf : MethodName := ⟨R_R, "kindOf", "(I)I"⟩
abbrev b_R_readSymbol : ByteArray := prog_6_method_18_code
def y_R_readSymbol : MethodName := ⟨R_R, "readSymbol", "(LCircuitFiles$Circuit;I)Z"⟩
abbrev b_R_readName : ByteArray := prog_6_method_19_code
def y_R_readName : MethodName := ⟨R_R, "readName", "(LCircuitFiles$Circuit;I)Z"⟩
abbrev b_R_checkUses : ByteArray := prog_6_method_20_code
def y_R_checkUses : MethodName := ⟨R_R, "checkUses", "(LCircuitFiles$Circuit;)Z"⟩
abbrev b_R_checkLoops : ByteArray := prog_6_method_21_code
def y_R_checkLoops : MethodName := ⟨R_R, "checkLoops", "(LCircuitFiles$Circuit;)Z"⟩
abbrev b_S_putInOrder : ByteArray := prog_2_method_2_code
def y_S_putInOrder : MethodName := ⟨R_S, "putInOrder", "(LCircuitFiles$Circuit;)Z"⟩
abbrev b_S_awaitAnds : ByteArray := prog_2_method_3_code
def y_S_awaitAnds : MethodName := ⟨R_S, "awaitAnds", "(LCircuitFiles$Circuit;)V"⟩
abbrev b_S_firstReady : ByteArray := prog_2_method_4_code
def y_S_firstReady : MethodName := ⟨R_S, "firstReady", "(LCircuitFiles$Circuit;I)I"⟩
abbrev b_S_lowestOnLoop : ByteArray := prog_2_method_5_code
def y_S_lowestOnLoop : MethodName := ⟨R_S, "lowestOnLoop", "(LCircuitFiles$Circuit;)I"⟩
abbrev b_S_reachesItself : ByteArray := prog_2_method_6_code
def y_S_reachesItself : MethodName := ⟨R_S, "reachesItself", "(LCircuitFiles$Circuit;I)Z"⟩
abbrev b_S_reach : ByteArray := prog_2_method_7_code
def y_S_reach : MethodName := ⟨R_S, "reach", "(I)V"⟩
abbrev b_T_makeEmpty : ByteArray := prog_7_method_4_code
def y_T_makeEmpty : MethodName := ⟨R_T, "makeEmpty", "()V"⟩
abbrev b_X_forget : ByteArray := prog_5_method_2_code
def y_X_forget : MethodName := ⟨R_X, "forget", "()V"⟩
abbrev b_M_init : ByteArray := prog_9_method_1_code
def y_M_init : MethodName := ⟨R_M, "<init>", "()V"⟩
abbrev b_M_thrown : ByteArray := prog_9_method_2_code
def y_M_thrown : MethodName := ⟨R_M, "thrown", "()I"⟩
abbrev b_M_feed : ByteArray := prog_9_method_3_code
def y_M_feed : MethodName := ⟨R_M, "feed", "(IIIII)V"⟩
abbrev b_M_end : ByteArray := prog_9_method_4_code
def y_M_end : MethodName := ⟨R_M, "end", "(I)I"⟩
abbrev b_M_load : ByteArray := prog_9_method_27_code
def y_M_load : MethodName := ⟨R_M, "load", "()I"⟩
abbrev b_M_takeHead : ByteArray := prog_9_method_13_code
def y_M_takeHead : MethodName := ⟨R_M, "takeHead", "()Z"⟩
abbrev b_M_take : ByteArray := prog_9_method_7_code
def y_M_take : MethodName := ⟨R_M, "take", "(I)V"⟩
abbrev b_M_here : ByteArray := prog_9_method_5_code
def y_M_here : MethodName := ⟨R_M, "here", "()I"⟩
abbrev b_M_wrong : ByteArray := prog_9_method_6_code
def y_M_wrong : MethodName := ⟨R_M, "wrong", "(II)V"⟩
abbrev b_M_takeNumber : ByteArray := prog_9_method_9_code
def y_M_takeNumber : MethodName := ⟨R_M, "takeNumber", "()V"⟩
abbrev b_M_isDigit : ByteArray := prog_9_method_8_code
def y_M_isDigit : MethodName := ⟨R_M, "isDigit", "()Z"⟩
abbrev b_M_takeBinary : ByteArray := prog_9_method_18_code
def y_M_takeBinary : MethodName := ⟨R_M, "takeBinary", "()V"⟩
abbrev b_M_define : ByteArray := prog_9_method_12_code
def y_M_define : MethodName := ⟨R_M, "define", "(III)V"⟩
abbrev b_M_takeNext : ByteArray := prog_9_method_15_code
def y_M_takeNext : MethodName := ⟨R_M, "takeNext", "(I)V"⟩
abbrev b_M_literal : ByteArray := prog_9_method_10_code
def y_M_literal : MethodName := ⟨R_M, "literal", "()I"⟩
abbrev b_M_takeOutputs : ByteArray := prog_9_method_16_code
def y_M_takeOutputs : MethodName := ⟨R_M, "takeOutputs", "()V"⟩
abbrev b_M_delta : ByteArray := prog_9_method_17_code
def y_M_delta : MethodName := ⟨R_M, "delta", "(II)I"⟩
abbrev b_M_takeText : ByteArray := prog_9_method_14_code
def y_M_takeText : MethodName := ⟨R_M, "takeText", "()V"⟩
abbrev b_M_defines : ByteArray := prog_9_method_11_code
def y_M_defines : MethodName := ⟨R_M, "defines", "(II)I"⟩
abbrev b_M_takeSymbols : ByteArray := prog_9_method_19_code
def y_M_takeSymbols : MethodName := ⟨R_M, "takeSymbols", "()V"⟩
abbrev b_M_findNowhere : ByteArray := prog_9_method_21_code
def y_M_findNowhere : MethodName := ⟨R_M, "findNowhere", "()V"⟩
abbrev b_M_isNowhere : ByteArray := prog_9_method_20_code
def y_M_isNowhere : MethodName := ⟨R_M, "isNowhere", "(I)Z"⟩
abbrev b_M_findRing : ByteArray := prog_9_method_25_code
def y_M_findRing : MethodName := ⟨R_M, "findRing", "()V"⟩
abbrev b_M_sort : ByteArray := prog_9_method_23_code
def y_M_sort : MethodName := ⟨R_M, "sort", "()V"⟩
abbrev b_M_hasCome : ByteArray := prog_9_method_22_code
def y_M_hasCome : MethodName := ⟨R_M, "hasCome", "(I)Z"⟩
abbrev b_M_hangs : ByteArray := prog_9_method_24_code
def y_M_hangs : MethodName := ⟨R_M, "hangs", "(I)Z"⟩
abbrev b_M_keep : ByteArray := prog_9_method_26_code
def y_M_keep : MethodName := ⟨R_M, "keep", "()V"⟩
abbrev b_M_fault : ByteArray := prog_9_method_28_code
def y_M_fault : MethodName := ⟨R_M, "fault", "(I)I"⟩
abbrev b_M_many : ByteArray := prog_9_method_29_code
def y_M_many : MethodName := ⟨R_M, "many", "(I)I"⟩
abbrev b_M_symbol : ByteArray := prog_9_method_31_code
def y_M_symbol : MethodName := ⟨R_M, "symbol", "(III)I"⟩
abbrev b_M_row : ByteArray := prog_9_method_30_code
def y_M_row : MethodName := ⟨R_M, "row", "(II)I"⟩
abbrev b_M_form : ByteArray := prog_9_method_41_code
def y_M_form : MethodName := ⟨R_M, "form", "(ZI)I"⟩
abbrev b_M_sortAgain : ByteArray := prog_9_method_40_code
def y_M_sortAgain : MethodName := ⟨R_M, "sortAgain", "()V"⟩
abbrev b_M_layHead : ByteArray := prog_9_method_36_code
def y_M_layHead : MethodName := ⟨R_M, "layHead", "(Z)V"⟩
abbrev b_M_lay : ByteArray := prog_9_method_32_code
def y_M_lay : MethodName := ⟨R_M, "lay", "(I)V"⟩
abbrev b_M_layNumber : ByteArray := prog_9_method_33_code
def y_M_layNumber : MethodName := ⟨R_M, "layNumber", "(II)V"⟩
abbrev b_M_layBinary : ByteArray := prog_9_method_38_code
def y_M_layBinary : MethodName := ⟨R_M, "layBinary", "()V"⟩
abbrev b_M_renamed : ByteArray := prog_9_method_35_code
def y_M_renamed : MethodName := ⟨R_M, "renamed", "(I)I"⟩
abbrev b_M_layDelta : ByteArray := prog_9_method_34_code
def y_M_layDelta : MethodName := ⟨R_M, "layDelta", "(I)V"⟩
abbrev b_M_layText : ByteArray := prog_9_method_37_code
def y_M_layText : MethodName := ⟨R_M, "layText", "()V"⟩
abbrev b_M_laySymbols : ByteArray := prog_9_method_39_code
def y_M_laySymbols : MethodName := ⟨R_M, "laySymbols", "()V"⟩
abbrev b_M_reset : ByteArray := prog_9_method_42_code
def y_M_reset : MethodName := ⟨R_M, "reset", "()V"⟩
abbrev b_M_state : ByteArray := prog_9_method_43_code
def y_M_state : MethodName := ⟨R_M, "state", "()I"⟩
abbrev b_M_value : ByteArray := prog_9_method_46_code
def y_M_value : MethodName := ⟨R_M, "value", "(II)I"⟩
abbrev b_M_reckon : ByteArray := prog_9_method_45_code
def y_M_reckon : MethodName := ⟨R_M, "reckon", "(I)V"⟩
abbrev b_M_of : ByteArray := prog_9_method_44_code
def y_M_of : MethodName := ⟨R_M, "of", "(I)I"⟩
abbrev b_M_step : ByteArray := prog_9_method_47_code
def y_M_step : MethodName := ⟨R_M, "step", "(I)I"⟩
theorem nmok_T : ∀ a, a < 3 → ∀ b, b < 3 → a ≠ b → (T_T a).2.1 ≠ (T_T b).2.1 := by decide +kernel
theorem tyok_T : ∀ k, k < 3 → parseFieldDescriptor (T_T k).2.2.1 = some (ty_T k) := by decide +kernel
theorem hin_T : ∀ w ∈ u_ws R_T T_T 3, w ∈ TB := fun w h => tb_sub [100, 102, 104] (by decide +kernel) (by decide +kernel) w h
theorem nmok_U : ∀ a, a < 6 → ∀ b, b < 6 → a ≠ b → (T_U a).2.1 ≠ (T_U b).2.1 := by decide +kernel
theorem tyok_U : ∀ k, k < 6 → parseFieldDescriptor (T_U k).2.2.1 = some (ty_U k) := by decide +kernel
theorem hin_U : ∀ w ∈ u_ws R_U T_U 6, w ∈ TB := fun w h => tb_sub [154, 156, 158, 160, 162, 164] (by decide +kernel) (by decide +kernel) w h
theorem nmok_R : ∀ a, a < 6 → ∀ b, b < 6 → a ≠ b → (T_R a).2.1 ≠ (T_R b).2.1 := by decide +kernel
theorem tyok_R : ∀ k, k < 6 → parseFieldDescriptor (T_R k).2.2.1 = some (ty_R k) := by decide +kernel
theorem hin_R : ∀ w ∈ u_ws R_R T_R 6, w ∈ TB := fun w h => tb_sub [173, 175, 177, 179, 181, 183] (by decide +kernel) (by decide +kernel) w h
theorem nmok_S : ∀ a, a < 5 → ∀ b, b < 5 → a ≠ b → (T_S a).2.1 ≠ (T_S b).2.1 := by decide +kernel
theorem tyok_S : ∀ k, k < 5 → parseFieldDescriptor (T_S k).2.2.1 = some (ty_S k) := by decide +kernel
theorem hin_S : ∀ w ∈ u_ws R_S T_S 5, w ∈ TB := fun w h => tb_sub [125, 127, 129, 131, 133] (by decide +kernel) (by decide +kernel) w h
theorem nmok_X : ∀ a, a < 4 → ∀ b, b < 4 → a ≠ b → (T_X a).2.1 ≠ (T_X b).2.1 := by decide +kernel
theorem tyok_X : ∀ k, k < 4 → parseFieldDescriptor (T_X k).2.2.1 = some (ty_X k) := by decide +kernel
theorem hin_X : ∀ w ∈ u_ws R_X T_X 4, w ∈ TB := fun w h => tb_sub [196, 198, 200, 202] (by decide +kernel) (by decide +kernel) w h
theorem nmok_C : ∀ a, a < 18 → ∀ b, b < 18 → a ≠ b → (T_C a).2.1 ≠ (T_C b).2.1 := by decide +kernel
theorem tyok_C : ∀ k, k < 18 → parseFieldDescriptor (T_C k).2.2.1 = some (ty_C k) := by decide +kernel
theorem hin_C : ∀ w ∈ u_ws R_C T_C 18, w ∈ TB := fun w h => tb_sub [275, 277, 279, 281, 283, 285, 287, 289, 291, 293, 295, 297, 299, 301, 303, 305, 307, 309] (by decide +kernel) (by decide +kernel) w h
theorem nmok_F : ∀ a, a < 6 → ∀ b, b < 6 → a ≠ b → (T_F a).2.1 ≠ (T_F b).2.1 := by decide +kernel
theorem tyok_F : ∀ k, k < 6 → parseFieldDescriptor (T_F k).2.2.1 = some (ty_F k) := by decide +kernel
theorem hin_F : ∀ w ∈ u_ws R_F T_F 6, w ∈ TB := fun w h => tb_sub [318, 320, 322, 324, 326, 328] (by decide +kernel) (by decide +kernel) w h
theorem nmok_M : ∀ a, a < 34 → ∀ b, b < 34 → a ≠ b → (T_M a).2.1 ≠ (T_M b).2.1 := by decide +kernel
theorem tyok_M : ∀ k, k < 34 → parseFieldDescriptor (T_M k).2.2.1 = some (ty_M k) := by decide +kernel
theorem hin_M : ∀ w ∈ u_ws R_M T_M 34, w ∈ TB := fun w h => tb_sub [769, 771, 773, 775, 777, 779, 781, 783, 785, 787, 789, 791, 793, 795, 797, 799, 801, 803, 805, 807, 809, 811, 813, 815, 817, 819, 821, 823, 825, 827, 829, 831, 833, 835] (by decide +kernel) (by decide +kernel) w h
def kc_T (cA : Nat → ClassId) (a : Nat → Nat) (I : Nat → Int32) (A : Nat → Nat → Int32) : va_W := [(a 0, .inr (0, [.ref (a 1), .ref (a 2), .int (I 0)])), (a 1, .inl (cA 0, 20, .inl (A 0))), (a 2, .inl (cA 0, 6000, .inl (A 1)))]
def kc_U (cA : Nat → ClassId) (a : Nat → Nat) (a_tape : Nat → Nat) (I : Nat → Int32) : va_W := [(a 0, .inr (1, [.ref (a_tape 0), .int (I 0), .int (I 1), .int (I 2), .int (I 3), .int (I 4)]))]
def kc_R (cA : Nat → ClassId) (a : Nat → Nat) (a_cursor a_sorter : Nat → Nat) (I : Nat → Int32) (A : Nat → Nat → Int32) : va_W := [(a 0, .inr (2, [.ref (a_cursor 0), .ref (a_sorter 0), .ref (a 1), .ref (a 2), .int (I 0), .int (I 1)])), (a 1, .inl (cA 0, 615, .inl (A 0))), (a 2, .inl (cA 0, 615, .inl (A 1)))]
def kc_S (cA : Nat → ClassId) (a : Nat → Nat) (I : Nat → Int32) (A : Nat → Nat → Int32) : va_W := [(a 0, .inr (3, [.ref (a 1), .ref (a 2), .ref (a 3), .ref (a 4), .int (I 0)])), (a 1, .inl (cA 1, 401, .inl (A 0))), (a 2, .inl (cA 1, 401, .inl (A 1))), (a 3, .inl (cA 0, 401, .inl (A 2))), (a 4, .inl (cA 0, 301, .inl (A 3)))]
def kc_X (cA : Nat → ClassId) (a : Nat → Nat) (I : Nat → Int32) (A : Nat → Nat → Int32) : va_W := [(a 0, .inr (4, [.ref (a 1), .ref (a 2), .int (I 0), .int (I 1)])), (a 1, .inl (cA 0, 4654, .inl (A 0))), (a 2, .inl (cA 0, 401, .inl (A 1)))]
def kc_C (cA : Nat → ClassId) (a : Nat → Nat) (I : Nat → Int32) (A : Nat → Nat → Int32) : va_W := [(a 0, .inr (5, [.int (I 0), .int (I 1), .int (I 2), .int (I 3), .int (I 4), .int (I 5), .ref (a 1), .ref (a 2), .ref (a 3), .ref (a 4), .ref (a 5), .ref (a 6), .ref (a 7), .ref (a 8), .ref (a 9), .ref (a 10), .ref (a 11), .ref (a 12)])), (a 1, .inl (cA 0, 6, .inl (A 0))), (a 2, .inl (cA 0, 7, .inl (A 1))), (a 3, .inl (cA 0, 7, .inl (A 2))), (a 4, .inl (cA 0, 8, .inl (A 3))), (a 5, .inl (cA 0, 300, .inl (A 4))), (a 6, .inl (cA 0, 300, .inl (A 5))), (a 7, .inl (cA 0, 300, .inl (A 6))), (a 8, .inl (cA 0, 300, .inl (A 7))), (a 9, .inl (cA 1, 401, .inl (A 8))), (a 10, .inl (cA 0, 24, .inl (A 9))), (a 11, .inl (cA 0, 960, .inl (A 10))), (a 12, .inl (cA 0, 401, .inl (A 11)))]
def kc_F (cA : Nat → ClassId) (a : Nat → Nat) (a_tape a_reader a_textForm a_binaryForm a_circuit a_draft : Nat → Nat) : va_W := [(a 0, .inr (6, [.ref (a_tape 0), .ref (a_reader 0), .ref (a_textForm 0), .ref (a_binaryForm 0), .ref (a_circuit 0), .ref (a_draft 0)]))]
def kc_M (cA : Nat → ClassId) (a : Nat → Nat) (I : Nat → Int32) (A : Nat → Nat → Int32) : va_W := [(a 0, .inr (7, [.int (I 0), .ref (a 1), .ref (a 2), .int (I 1), .int (I 2), .int (I 3), .int (I 4), .int (I 5), .int (I 6), .int (I 7), .ref (a 3), .ref (a 4), .ref (a 5), .ref (a 6), .ref (a 7), .ref (a 8), .ref (a 9), .ref (a 10), .ref (a 11), .ref (a 12), .ref (a 13), .ref (a 14), .ref (a 15), .ref (a 16), .ref (a 17), .ref (a 18), .ref (a 19), .ref (a 20), .ref (a 21), .int (I 8), .int (I 9), .ref (a 22), .ref (a 23), .int (I 10)])), (a 1, .inl (cA 2, 6000, .inl (A 0))), (a 2, .inl (cA 2, 20, .inl (A 1))), (a 3, .inl (cA 0, 10, .inl (A 2))), (a 4, .inl (cA 0, 12, .inl (A 3))), (a 5, .inl (cA 0, 16, .inl (A 4))), (a 6, .inl (cA 0, 16, .inl (A 5))), (a 7, .inl (cA 0, 16, .inl (A 6))), (a 8, .inl (cA 0, 600, .inl (A 7))), (a 9, .inl (cA 0, 600, .inl (A 8))), (a 10, .inl (cA 0, 600, .inl (A 9))), (a 11, .inl (cA 0, 802, .inl (A 10))), (a 12, .inl (cA 0, 802, .inl (A 11))), (a 13, .inl (cA 0, 8, .inl (A 12))), (a 14, .inl (cA 0, 8, .inl (A 13))), (a 15, .inl (cA 0, 300, .inl (A 14))), (a 16, .inl (cA 0, 300, .inl (A 15))), (a 17, .inl (cA 2, 1760, .inl (A 16))), (a 18, .inl (cA 0, 44, .inl (A 17))), (a 19, .inl (cA 0, 300, .inl (A 18))), (a 20, .inl (cA 0, 401, .inl (A 19))), (a 21, .inl (cA 1, 401, .inl (A 20))), (a 22, .inl (cA 0, 401, .inl (A 21))), (a 23, .inl (cA 2, 12000, .inl (A 22)))]
def tyl (cA : Nat → ClassId) : List (ClassId × FieldType) := [(cA 0, .int), (cA 1, .boolean), (cA 2, .byte), (cA 3, .long)]
def NWl : List Cond := [Cond.methodLinkNest R_F 11 y_T_init "CircuitFiles", Cond.fieldLinkNest R_U 36 "CircuitFiles$Tape" "bytes" "[I" "CircuitFiles", Cond.fieldLinkNest R_U 31 "CircuitFiles$Tape" "length" "I" "CircuitFiles", Cond.methodLinkNest R_R 11 y_S_init "CircuitFiles", Cond.methodLinkNest R_F 27 y_X_init "CircuitFiles", Cond.methodLinkNest R_F 37 y_C_init "CircuitFiles", Cond.methodLinkNest R_X 112 y_F_slotOf "CircuitFiles", Cond.methodLinkNest R_R 196 y_F_slotOf "CircuitFiles"]
theorem NWl_nest : NWl.all isNest = true := by decide +kernel
/-! STANDING FACTS: what holds from the law's first instruction on, and of cells that no method of ours writes -/
/-- a static of a reference type: its place, and that it holds a reference or null -/
def zs (C n d : String) (A : Nat → Prop) (U : State) (H : Heap) : Prop := ∃ (c : ClassId) (k : Class) (i : Nat) (f : Field) (a : Nat) (cell : Cell) (v : Value), U.vm.findClass C = some c ∧ U.fieldFound? C n d = some (c, k, i, f) ∧ f.isStatic = true ∧ k.statics = some a ∧ H[a]? = some cell ∧ cell.vm.isStatics = true ∧ cell.cls = c ∧ f.slot < cell.slots.size ∧ k.staticTypes[f.slot]? = some f.type ∧ cell.slots[f.slot]? = some v ∧ v.isRef = true ∧ ¬ A a
theorem zs.moved {C n d : String} {A : Nat → Prop} {u U : State} {H : Heap} (hvm : u.vm.Alike U.vm) (h : zs C n d A u H) : zs C n d A U H := by
  obtain ⟨c, k, i, f, a, cell, v, h1, h2, h3, h4, h5, h6, h7, h8, h9, h10⟩ := h
  obtain ⟨k', hi', he⟩ := State.fieldFound?_setVm hvm h2
  exact ⟨c, k', i, f, a, cell, v, by rw [hvm.findClass]; exact h1, hi', h3, by rw [he]; exact h4, h5, h6, h7, h8, by rw [he]; exact h9, h10⟩
theorem zs.kept {C n d : String} {A : Nat → Prop} {U : State} {H H1 : Heap} (h : zs C n d A U H) (hq : ∀ a : Nat, a < H.size → ¬ A a → H1[a]? = H[a]?) : zs C n d A U H1 := by
  obtain ⟨c, k, i, f, a, cell, v, h1, h2, h3, h4, h5, h6, h7, h8, h9, h10, h11, h12⟩ := h
  exact ⟨c, k, i, f, a, cell, v, h1, h2, h3, h4, by rw [hq a (Array.getElem?_eq_some_iff.mp h5).1 h12]; exact h5, h6, h7, h8, h9, h10, h11, h12⟩
theorem zs.narrow {C n d : String} {A B : Nat → Prop} {U : State} {H : Heap} (h : zs C n d A U H) (hAB : ∀ q, B q → A q) : zs C n d B U H := by
  obtain ⟨c, k, i, f, a, cell, v, h1, h2, h3, h4, h5, h6, h7, h8, h9, h10, h11, h12⟩ := h
  exact ⟨c, k, i, f, a, cell, v, h1, h2, h3, h4, h5, h6, h7, h8, h9, h10, h11, fun z => h12 (hAB a z)⟩
def CWl : List (String × String) := [("java/lang/IllegalArgumentException", "java/lang/IllegalArgumentException")]
def SPl (sx : Nat → Nat) (A : Nat → Prop) (U : State) (H : Heap) : Prop :=
  (∀ w ∈ NWl, va_Nw w U) ∧ (vk_R R_X 115 "ilo" (sx 0) U ∧ vk_R R_R 182 "ilo" (sx 0) U ∧ vk_R R_F 62 "the file has a fault" (sx 2) U) ∧
  vk_S 1 [3] [[105, 108, 111]] (fun _ => sx 0) (fun _ => sx 1) A U H ∧ va_Z "java/lang/String" "COMPACT_STRINGS" "Z" (.int 1) A U H ∧
  (zs Bundle.tN "UNASSIGNED_STACK" Bundle.steD A U H ∧ zs Bundle.tN "SUPPRESSED_SENTINEL" Bundle.listD A U H) ∧ (∀ q ∈ CWl, va_Nw (.castable q.1 q.2) U) ∧ va_Zq "jdk/internal/util/Preconditions" "SIOOBE_FORMATTER" "Ljava/util/function/BiFunction;" A U H
theorem SPl_form {sx : Nat → Nat} {A : Nat → Prop} {U : State} {H : Heap} (h : SPl sx A U H) : va_Zq "jdk/internal/util/Preconditions" "SIOOBE_FORMATTER" "Ljava/util/function/BiFunction;" A U H := h.2.2.2.2.2.2
theorem SPl_ok (sx : Nat → Nat) : SPok (SPl sx) := by
  have al : ∀ {u U : State}, u.vm = U.vm → u.vm.Alike U.vm := fun h => by rw [h]; exact Vm.Alike.refl _
  refine ⟨fun A U H H1 h hq => ?_, fun A B U H h hAB => ?_, fun A s U H hW h => ?_, fun A u U H hv h => ?_⟩
  · exact ⟨h.1, h.2.1, h.2.2.1.kept hq, h.2.2.2.1.kept hq, ⟨h.2.2.2.2.1.1.kept hq, h.2.2.2.2.1.2.kept hq⟩, h.2.2.2.2.2.1, h.2.2.2.2.2.2.kept hq⟩
  · exact ⟨h.1, h.2.1, h.2.2.1.narrow hAB, h.2.2.2.1.narrow hAB, ⟨h.2.2.2.2.1.1.narrow hAB, h.2.2.2.2.1.2.narrow hAB⟩, h.2.2.2.2.2.1, h.2.2.2.2.2.2.narrow hAB⟩
  · exact ⟨fun w hw => nw_warm (List.all_eq_true.mp NWl_nest w hw) hW (h.1 w hw), ⟨h.2.1.1.warm hW, h.2.1.2.1.warm hW, h.2.1.2.2.warm hW⟩, vk_S.moved hW.alike h.2.2.1, va_Z.moved hW.alike h.2.2.2.1, ⟨zs.moved hW.alike h.2.2.2.2.1.1, zs.moved hW.alike h.2.2.2.2.1.2⟩, fun q hq => va_Nw.warmC hW (h.2.2.2.2.2.1 q hq), va_Zq.moved hW.alike h.2.2.2.2.2.2⟩
  · exact ⟨fun w hw => nw_same (List.all_eq_true.mp NWl_nest w hw) hv (h.1 w hw), ⟨vk_R.same hv.symm h.2.1.1, vk_R.same hv.symm h.2.1.2.1, vk_R.same hv.symm h.2.1.2.2⟩, vk_S.moved (al hv) h.2.2.1, va_Z.moved (al hv) h.2.2.2.1, ⟨zs.moved (al hv) h.2.2.2.2.1.1, zs.moved (al hv) h.2.2.2.2.1.2⟩, fun q hq => va_Nw.same rfl hv (h.2.2.2.2.2.1 q hq), va_Zq.moved (al hv) h.2.2.2.2.2.2⟩
theorem nw_28 {sx : Nat → Nat} : ∀ {A : Nat → Prop} {U : State} {H : Heap}, SPl sx A U H → va_Nw (Cond.methodLinkNest R_F 11 y_T_init "CircuitFiles") U := fun h => h.1 _ (List.mem_of_getElem? (i := 0) (by decide +kernel))
theorem nw_34 {sx : Nat → Nat} : ∀ {A : Nat → Prop} {U : State} {H : Heap}, SPl sx A U H → va_Nw (Cond.fieldLinkNest R_U 36 "CircuitFiles$Tape" "bytes" "[I" "CircuitFiles") U := fun h => h.1 _ (List.mem_of_getElem? (i := 1) (by decide +kernel))
theorem nw_36 {sx : Nat → Nat} : ∀ {A : Nat → Prop} {U : State} {H : Heap}, SPl sx A U H → va_Nw (Cond.fieldLinkNest R_U 31 "CircuitFiles$Tape" "length" "I" "CircuitFiles") U := fun h => h.1 _ (List.mem_of_getElem? (i := 2) (by decide +kernel))
theorem nw_53 {sx : Nat → Nat} : ∀ {A : Nat → Prop} {U : State} {H : Heap}, SPl sx A U H → va_Nw (Cond.methodLinkNest R_R 11 y_S_init "CircuitFiles") U := fun h => h.1 _ (List.mem_of_getElem? (i := 3) (by decide +kernel))
theorem nw_125 {sx : Nat → Nat} : ∀ {A : Nat → Prop} {U : State} {H : Heap}, SPl sx A U H → va_Nw (Cond.methodLinkNest R_F 27 y_X_init "CircuitFiles") U := fun h => h.1 _ (List.mem_of_getElem? (i := 4) (by decide +kernel))
theorem nw_144 {sx : Nat → Nat} : ∀ {A : Nat → Prop} {U : State} {H : Heap}, SPl sx A U H → va_Nw (Cond.methodLinkNest R_F 37 y_C_init "CircuitFiles") U := fun h => h.1 _ (List.mem_of_getElem? (i := 5) (by decide +kernel))
theorem nw_358 {sx : Nat → Nat} : ∀ {A : Nat → Prop} {U : State} {H : Heap}, SPl sx A U H → va_Nw (Cond.methodLinkNest R_X 112 y_F_slotOf "CircuitFiles") U := fun h => h.1 _ (List.mem_of_getElem? (i := 6) (by decide +kernel))
theorem nw_555 {sx : Nat → Nat} : ∀ {A : Nat → Prop} {U : State} {H : Heap}, SPl sx A U H → va_Nw (Cond.methodLinkNest R_R 196 y_F_slotOf "CircuitFiles") U := fun h => h.1 _ (List.mem_of_getElem? (i := 7) (by decide +kernel))
end
section
theorem d_T_makeReady_0 : decode b_T_makeReady 0 = .ok (.iconst 0, 1) := by decide +kernel
theorem d_T_makeReady_1 : decode b_T_makeReady 1 = .ok (.istore_n 3, 1) := by decide +kernel
theorem d_T_makeReady_2 : decode b_T_makeReady 2 = .ok (.iload_n 3, 1) := by decide +kernel
theorem d_T_makeReady_3 : decode b_T_makeReady 3 = .ok (.iconst 4, 1) := by decide +kernel
theorem d_T_makeReady_4 : decode b_T_makeReady 4 = .ok (.if_icmp .ge 31, 3) := by decide +kernel
theorem d_T_makeReady_7 : decode b_T_makeReady 7 = .ok (.aload_n 0, 1) := by decide +kernel
theorem d_T_makeReady_8 : decode b_T_makeReady 8 = .ok (.getfield 9, 3) := by decide +kernel
theorem d_T_makeReady_11 : decode b_T_makeReady 11 = .ok (.iload_n 1, 1) := by decide +kernel
theorem d_T_makeReady_12 : decode b_T_makeReady 12 = .ok (.iconst 4, 1) := by decide +kernel
theorem d_T_makeReady_13 : decode b_T_makeReady 13 = .ok (.imul, 1) := by decide +kernel
theorem d_T_makeReady_14 : decode b_T_makeReady 14 = .ok (.iload_n 3, 1) := by decide +kernel
theorem d_T_makeReady_15 : decode b_T_makeReady 15 = .ok (.iadd, 1) := by decide +kernel
theorem d_T_makeReady_16 : decode b_T_makeReady 16 = .ok (.iload_n 2, 1) := by decide +kernel
theorem d_T_makeReady_17 : decode b_T_makeReady 17 = .ok (.bipush 8, 2) := by decide +kernel
theorem d_T_makeReady_19 : decode b_T_makeReady 19 = .ok (.iconst 3, 1) := by decide +kernel
theorem d_T_makeReady_20 : decode b_T_makeReady 20 = .ok (.iload_n 3, 1) := by decide +kernel
theorem d_T_makeReady_21 : decode b_T_makeReady 21 = .ok (.isub, 1) := by decide +kernel
theorem d_T_makeReady_22 : decode b_T_makeReady 22 = .ok (.imul, 1) := by decide +kernel
theorem d_T_makeReady_23 : decode b_T_makeReady 23 = .ok (.iushr, 1) := by decide +kernel
theorem d_T_makeReady_24 : decode b_T_makeReady 24 = .ok (.sipush 255, 3) := by decide +kernel
theorem d_T_makeReady_27 : decode b_T_makeReady 27 = .ok (.iand, 1) := by decide +kernel
theorem d_T_makeReady_28 : decode b_T_makeReady 28 = .ok (.iastore, 1) := by decide +kernel
theorem d_T_makeReady_29 : decode b_T_makeReady 29 = .ok (.iinc 3 1, 3) := by decide +kernel
theorem d_T_makeReady_32 : decode b_T_makeReady 32 = .ok (.goto (-30), 3) := by decide +kernel
theorem d_T_makeReady_35 : decode b_T_makeReady 35 = .ok (.return_, 1) := by decide +kernel
theorem d_T_take_0 : decode b_T_take 0 = .ok (.iload_n 1, 1) := by decide +kernel
theorem d_T_take_1 : decode b_T_take 1 = .ok (.ifCond .lt 21, 3) := by decide +kernel
theorem d_T_take_4 : decode b_T_take 4 = .ok (.iload_n 1, 1) := by decide +kernel
theorem d_T_take_5 : decode b_T_take 5 = .ok (.bipush 20, 2) := by decide +kernel
theorem d_T_take_7 : decode b_T_take 7 = .ok (.if_icmp .gt 15, 3) := by decide +kernel
theorem d_T_take_10 : decode b_T_take 10 = .ok (.aload_n 0, 1) := by decide +kernel
theorem d_T_take_11 : decode b_T_take 11 = .ok (.getfield 18, 3) := by decide +kernel
theorem d_T_take_14 : decode b_T_take 14 = .ok (.iload_n 1, 1) := by decide +kernel
theorem d_T_take_15 : decode b_T_take 15 = .ok (.iadd, 1) := by decide +kernel
theorem d_T_take_16 : decode b_T_take 16 = .ok (.sipush 6000, 3) := by decide +kernel
theorem d_T_take_19 : decode b_T_take 19 = .ok (.if_icmp .le 5, 3) := by decide +kernel
theorem d_T_take_22 : decode b_T_take 22 = .ok (.iconst (-1), 1) := by decide +kernel
theorem d_T_take_23 : decode b_T_take 23 = .ok (.ireturn, 1) := by decide +kernel
theorem d_T_take_24 : decode b_T_take 24 = .ok (.iconst 0, 1) := by decide +kernel
theorem d_T_take_25 : decode b_T_take 25 = .ok (.istore_n 2, 1) := by decide +kernel
theorem d_T_take_26 : decode b_T_take 26 = .ok (.iload_n 2, 1) := by decide +kernel
theorem d_T_take_27 : decode b_T_take 27 = .ok (.iload_n 1, 1) := by decide +kernel
theorem d_T_take_28 : decode b_T_take 28 = .ok (.if_icmp .ge 26, 3) := by decide +kernel
theorem d_T_take_31 : decode b_T_take 31 = .ok (.aload_n 0, 1) := by decide +kernel
theorem d_T_take_32 : decode b_T_take 32 = .ok (.getfield 15, 3) := by decide +kernel
theorem d_T_take_35 : decode b_T_take 35 = .ok (.aload_n 0, 1) := by decide +kernel
theorem d_T_take_36 : decode b_T_take 36 = .ok (.getfield 18, 3) := by decide +kernel
theorem d_T_take_39 : decode b_T_take 39 = .ok (.iload_n 2, 1) := by decide +kernel
theorem d_T_take_40 : decode b_T_take 40 = .ok (.iadd, 1) := by decide +kernel
theorem d_T_take_41 : decode b_T_take 41 = .ok (.aload_n 0, 1) := by decide +kernel
theorem d_T_take_42 : decode b_T_take 42 = .ok (.getfield 9, 3) := by decide +kernel
theorem d_T_take_45 : decode b_T_take 45 = .ok (.iload_n 2, 1) := by decide +kernel
theorem d_T_take_46 : decode b_T_take 46 = .ok (.iaload, 1) := by decide +kernel
theorem d_T_take_47 : decode b_T_take 47 = .ok (.iastore, 1) := by decide +kernel
theorem d_T_take_48 : decode b_T_take 48 = .ok (.iinc 2 1, 3) := by decide +kernel
theorem d_T_take_51 : decode b_T_take 51 = .ok (.goto (-25), 3) := by decide +kernel
theorem d_T_take_54 : decode b_T_take 54 = .ok (.iconst 0, 1) := by decide +kernel
theorem d_T_take_55 : decode b_T_take 55 = .ok (.istore_n 2, 1) := by decide +kernel
theorem d_T_take_56 : decode b_T_take 56 = .ok (.iload_n 2, 1) := by decide +kernel
theorem d_T_take_57 : decode b_T_take 57 = .ok (.bipush 20, 2) := by decide +kernel
theorem d_T_take_59 : decode b_T_take 59 = .ok (.if_icmp .ge 16, 3) := by decide +kernel
theorem d_T_take_62 : decode b_T_take 62 = .ok (.aload_n 0, 1) := by decide +kernel
theorem d_T_take_63 : decode b_T_take 63 = .ok (.getfield 9, 3) := by decide +kernel
theorem d_T_take_66 : decode b_T_take 66 = .ok (.iload_n 2, 1) := by decide +kernel
theorem d_T_take_67 : decode b_T_take 67 = .ok (.iconst 0, 1) := by decide +kernel
theorem d_T_take_68 : decode b_T_take 68 = .ok (.iastore, 1) := by decide +kernel
theorem d_T_take_69 : decode b_T_take 69 = .ok (.iinc 2 1, 3) := by decide +kernel
theorem d_T_take_72 : decode b_T_take 72 = .ok (.goto (-16), 3) := by decide +kernel
theorem d_T_take_75 : decode b_T_take 75 = .ok (.aload_n 0, 1) := by decide +kernel
theorem d_T_take_76 : decode b_T_take 76 = .ok (.dup, 1) := by decide +kernel
theorem d_T_take_77 : decode b_T_take 77 = .ok (.getfield 18, 3) := by decide +kernel
theorem d_T_take_80 : decode b_T_take 80 = .ok (.iload_n 1, 1) := by decide +kernel
theorem d_T_take_81 : decode b_T_take 81 = .ok (.iadd, 1) := by decide +kernel
theorem d_T_take_82 : decode b_T_take 82 = .ok (.putfield 18, 3) := by decide +kernel
theorem d_T_take_85 : decode b_T_take 85 = .ok (.aload_n 0, 1) := by decide +kernel
theorem d_T_take_86 : decode b_T_take 86 = .ok (.getfield 18, 3) := by decide +kernel
theorem d_T_take_89 : decode b_T_take 89 = .ok (.ireturn, 1) := by decide +kernel
theorem d_T_makeEmpty_0 : decode b_T_makeEmpty 0 = .ok (.aload_n 0, 1) := by decide +kernel
theorem d_T_makeEmpty_1 : decode b_T_makeEmpty 1 = .ok (.iconst 0, 1) := by decide +kernel
theorem d_T_makeEmpty_2 : decode b_T_makeEmpty 2 = .ok (.putfield 18, 3) := by decide +kernel
theorem d_T_makeEmpty_5 : decode b_T_makeEmpty 5 = .ok (.return_, 1) := by decide +kernel
end
section
theorem tb_32 : Cond.fieldLink R_T 9 "CircuitFiles$Tape" "ready" "[I" ∈ TB := tb_mem (i := 95) (by decide +kernel) (by decide +kernel)
theorem tb_33 : Cond.fieldLink R_T 15 "CircuitFiles$Tape" "bytes" "[I" ∈ TB := tb_mem (i := 96) (by decide +kernel) (by decide +kernel)
theorem tb_35 : Cond.fieldLink R_T 18 "CircuitFiles$Tape" "length" "I" ∈ TB := tb_mem (i := 98) (by decide +kernel) (by decide +kernel)
theorem st_T_TA0 {cA : Nat → ClassId} {a_T : Nat → Nat} {I_T : Nat → Int32} {A_T : Nat → Nat → Int32} {f : Nat → Int32} : (kc_T cA a_T I_T A_T).set 1 (a_T 1, .inl (cA 0, 20, .inl f)) = kc_T cA a_T I_T (va_up A_T 0 f) := rfl
theorem st_T_TA1 {cA : Nat → ClassId} {a_T : Nat → Nat} {I_T : Nat → Int32} {A_T : Nat → Nat → Int32} {f : Nat → Int32} : (kc_T cA a_T I_T A_T).set 2 (a_T 2, .inl (cA 0, 6000, .inl f)) = kc_T cA a_T I_T (va_up A_T 1 f) := rfl
theorem st_T_TI0 {cA : Nat → ClassId} {a_T : Nat → Nat} {I_T : Nat → Int32} {A_T : Nat → Nat → Int32} {v : Int32} : (kc_T cA a_T I_T A_T).set 0 (a_T 0, .inr (0, ([.ref (a_T 1), .ref (a_T 2), .int (I_T 0)] : List Value).set 2 (.int v))) = kc_T cA a_T (va_up I_T 0 v) A_T := rfl
end
section
def wp_T_makeReady_L2 (Q : (Nat → Nat → Int32) → Prop) (X2 : (Nat → Nat → Int32) → Prop) : Nat → (Nat → Nat → Int32) → Int32 → Int32 → Int32 → Prop
  | 0 => fun _ _ _ _ => False
  | n2 + 1 => fun A_T v1 v2 v3 => (((4 : Int32) ≤ v3) → X2 A_T) ∧ ((¬ (4 : Int32) ≤ v3) → vp_in ((v1 * (4 : Int32)) + v3) 20 ∧ ((wp_T_makeReady_L2 Q X2 n2) (va_up A_T 0 (upd (A_T 0) (((v1 * (4 : Int32)) + v3)).toNatClampNeg (((v2).toUInt32 >>> ((((8 : Int32) * ((3 : Int32) - v3))).toUInt32 &&& Int32.toUInt32 31)).toInt32 &&& (255 : Int32)))) v1 v2 (v3 + (1 : Int32))))
def wp_T_makeReady (A_T : (Nat → Nat → Int32)) (x1 : Int32) (x2 : Int32) (Q : (Nat → Nat → Int32) → Prop) : Prop := ∃ m2, wp_T_makeReady_L2 Q (fun A_T_2 => Q A_T_2) m2 A_T x1 x2 (0 : Int32)
def wp_T_take_L26 (Q : Int32 → (Nat → Int32) → (Nat → Nat → Int32) → Prop) (X26 : (Nat → Int32) → (Nat → Nat → Int32) → Int32 → Prop) : Nat → (Nat → Int32) → (Nat → Nat → Int32) → Int32 → Int32 → Prop
  | 0 => fun _ _ _ _ => False
  | n26 + 1 => fun I_T A_T v1 v2 => ((v1 ≤ v2) → X26 I_T A_T v1) ∧ ((¬ v1 ≤ v2) → vp_in v2 20 ∧ (vp_in ((I_T 0) + v2) 6000 ∧ ((wp_T_take_L26 Q X26 n26) I_T (va_up A_T 1 (upd (A_T 1) (((I_T 0) + v2)).toNatClampNeg ((A_T 0) (v2).toNatClampNeg))) v1 (v2 + (1 : Int32)))))
def wp_T_take_L56 (Q : Int32 → (Nat → Int32) → (Nat → Nat → Int32) → Prop) (X56 : (Nat → Int32) → (Nat → Nat → Int32) → Int32 → Prop) : Nat → (Nat → Int32) → (Nat → Nat → Int32) → Int32 → Int32 → Prop
  | 0 => fun _ _ _ _ => False
  | n56 + 1 => fun I_T A_T v1 v2 => (((20 : Int32) ≤ v2) → X56 I_T A_T v1) ∧ ((¬ (20 : Int32) ≤ v2) → vp_in v2 20 ∧ ((wp_T_take_L56 Q X56 n56) I_T (va_up A_T 0 (upd (A_T 0) (v2).toNatClampNeg (0 : Int32))) v1 (v2 + (1 : Int32))))
def wp_T_take (I_T : (Nat → Int32)) (A_T : (Nat → Nat → Int32)) (x1 : Int32) (Q : Int32 → (Nat → Int32) → (Nat → Nat → Int32) → Prop) : Prop := ((x1 < 0) → Q (-1 : Int32) I_T A_T) ∧ ((¬ x1 < 0) → (((20 : Int32) < x1) → Q (-1 : Int32) I_T A_T) ∧ ((¬ (20 : Int32) < x1) → ((((I_T 0) + x1) ≤ (6000 : Int32)) → ∃ m26, wp_T_take_L26 Q (fun I_T_3 A_T_4 v1_5 => ∃ m56, wp_T_take_L56 Q (fun I_T_7 A_T_8 v1_9 => Q ((I_T_7 0) + v1_9) (va_up I_T_7 0 ((I_T_7 0) + v1_9)) A_T_8) m56 I_T_3 A_T_4 v1_5 (0 : Int32)) m26 I_T A_T x1 (0 : Int32)) ∧ ((¬ ((I_T 0) + x1) ≤ (6000 : Int32)) → Q (-1 : Int32) I_T A_T)))
def wp_T_makeEmpty (I_T : (Nat → Int32)) (Q : (Nat → Int32) → Prop) : Prop := Q (va_up I_T 0 (0 : Int32))
end
section
set_option maxHeartbeats 4000000 in
set_option maxRecDepth 100000 in
theorem l_T_makeReady_L2 {p : Program} {l : Launch} {e : Env} {s : State} {m : MethodId} {args : Array Value} {below : List Frame} {meth : Method} {c : Code} {D : va_G} {cA : Nat → ClassId} {sx : Nat → Nat} {A : Nat → Prop} (a_T : Nat → Nat) (I_T : (Nat → Int32)) (Q : (Nat → Nat → Int32) → Prop) (X2 : (Nat → Nat → Int32) → Prop) (hC : CX p s m args meth c b_T_makeReady R_T TB 4 D vwCl (tyl cA) A (SPl sx) none) (hX2 : ∀ (A_T : (Nat → Nat → Int32)), X2 A_T → VV p l e ({ frames := 0, cells := 0, slots := 0, locals := 0 } : Room) s m args below meth c 4 D vwCl A 0 0 (QV below args s D vwCl (tyl cA) A (fun (u : (Nat → Nat → Int32)) => Q u) (fun u : (Nat → Nat → Int32) => kc_T cA a_T I_T u)) (kc_T cA a_T I_T A_T) 35 [] []) : ∀ (n2 : Nat) (A_T : (Nat → Nat → Int32)) (v1 : Int32) (v2 : Int32) (v3 : Int32), wp_T_makeReady_L2 Q X2 n2 A_T v1 v2 v3 → VV p l e ({ frames := 0, cells := 0, slots := 0, locals := 0 } : Room) s m args below meth c 4 D vwCl A 0 0 (QV below args s D vwCl (tyl cA) A (fun (u : (Nat → Nat → Int32)) => Q u) (fun u : (Nat → Nat → Int32) => kc_T cA a_T I_T u)) (kc_T cA a_T I_T A_T) 2 [(0, .ref (a_T 0)), (1, .int v1), (2, .int v2), (3, .int v3)] [] := by
  intro n2
  induction n2 with
  | zero =>
    intro A_T v1 v2 v3 hw
    exact absurd hw (fun z => z)
  | succ n2 ih =>
    intro A_T v1 v2 v3 hw
    unfold wp_T_makeReady_L2 at hw
    refine vv_iload_n hC d_T_makeReady_2 3 rfl rfl ?_
    refine vv_iconst hC d_T_makeReady_3 (v := (4 : Int32)) (by decide) ?_
    refine vv_icmp_ge hC 35 d_T_makeReady_4 (by decide) (fun cd => ?_) (fun cd => ?_)
    · have hw := hw.1 cd
      exact vv_sub [] (by rfl) (hX2 A_T hw)
    · have hw := hw.2 cd
      refine vv_aload_n hC d_T_makeReady_7 0 rfl rfl ?_
      refine vv_get hC (v := .ref (a_T 1)) hin_T 0 0 tb_32 d_T_makeReady_8 rfl rfl (by decide) rfl rfl ?_
      refine vv_iload_n hC d_T_makeReady_11 1 rfl rfl ?_
      refine vv_iconst hC d_T_makeReady_12 (v := (4 : Int32)) (by decide) ?_
      refine vv_imul hC d_T_makeReady_13 ?_
      refine vv_iload_n hC d_T_makeReady_14 3 rfl rfl ?_
      refine vv_iadd hC d_T_makeReady_15 ?_
      refine vv_iload_n hC d_T_makeReady_16 2 rfl rfl ?_
      refine vv_bipush hC d_T_makeReady_17 (v := (8 : Int32)) (by decide) ?_
      refine vv_iconst hC d_T_makeReady_19 (v := (3 : Int32)) (by decide) ?_
      refine vv_iload_n hC d_T_makeReady_20 3 rfl rfl ?_
      refine vv_isub hC d_T_makeReady_21 ?_
      refine vv_imul hC d_T_makeReady_22 ?_
      refine vv_iushr hC d_T_makeReady_23 ?_
      refine vv_sipush hC d_T_makeReady_24 (v := (255 : Int32)) (by decide) ?_
      refine vv_iand hC d_T_makeReady_27 ?_
      obtain ⟨hin_1, hw⟩ := hw
      refine vv_iast hC 1 0 d_T_makeReady_28 rfl rfl hin_1 (ws2 := kc_T cA a_T I_T (va_up A_T 0 (upd (A_T 0) (((v1 * (4 : Int32)) + v3)).toNatClampNeg (((v2).toUInt32 >>> ((((8 : Int32) * ((3 : Int32) - v3))).toUInt32 &&& Int32.toUInt32 31)).toInt32 &&& (255 : Int32))))) (st_T_TA0 ..) ?_
      refine vv_iinc hC d_T_makeReady_29 3 rfl (v := (v3 + (1 : Int32))) rfl (by decide) [1, 2, 3, 0] (L2 := [(0, .ref (a_T 0)), (1, .int v1), (2, .int v2), (3, .int (v3 + (1 : Int32)))]) rfl ?_
      refine vv_goto hC 2 d_T_makeReady_32 (by decide) ?_
      exact vv_sub [0, 1, 2, 3] (by rfl) (ih (va_up A_T 0 (upd (A_T 0) (((v1 * (4 : Int32)) + v3)).toNatClampNeg (((v2).toUInt32 >>> ((((8 : Int32) * ((3 : Int32) - v3))).toUInt32 &&& Int32.toUInt32 31)).toInt32 &&& (255 : Int32)))) v1 v2 (v3 + (1 : Int32)) hw)
set_option maxHeartbeats 4000000 in
set_option maxRecDepth 100000 in
theorem c_T_makeReady (l : Launch) (D : va_G) (cA : Nat → ClassId) (sx : Nat → Nat) (a_T : Nat → Nat) (I_T : (Nat → Int32)) (A_T : (Nat → Nat → Int32)) (x1 x2 : Int32) (Q : (Nat → Nat → Int32) → Prop) (hw : wp_T_makeReady A_T x1 x2 Q) : MetV l y_T_makeReady (Cond.code y_T_makeReady b_T_makeReady 4 none :: TB) ({ frames := 0, cells := 0, slots := 0, locals := 0 } : Room) D vwCl (tyl cA) (SPl sx) [.ref (a_T 0), .int x1, .int x2] (kc_T cA a_T I_T A_T) (fun (u : (Nat → Nat → Int32)) => Q u) (fun u : (Nat → Nat → Int32) => kc_T cA a_T I_T u) := by
  refine vv_entryV (cc := b_T_makeReady) (own := R_T) (L := [(0, .ref (a_T 0)), (1, .int x1), (2, .int x2)]) (by decide) rfl rfl (Nat.le_of_ble_eq_true rfl) rfl (fun p e s m args below meth c A hC => ?_)
  unfold wp_T_makeReady at hw
  refine vv_iconst hC d_T_makeReady_0 (v := (0 : Int32)) (by decide) ?_
  refine vv_istore_n hC d_T_makeReady_1 rfl (by decide) [1, 2, 3, 0] (L2 := [(0, .ref (a_T 0)), (1, .int x1), (2, .int x2), (3, .int (0 : Int32))]) rfl ?_
  obtain ⟨m2, hw⟩ := hw
  refine vv_sub [0, 1, 2, 3] (by rfl) (l_T_makeReady_L2 a_T I_T Q _ hC (fun A_T_2 hw => ?_) m2 A_T x1 x2 (0 : Int32) hw)
  exact vv_vret hC d_T_makeReady_35 A_T_2 hw rfl
set_option maxHeartbeats 4000000 in
set_option maxRecDepth 100000 in
theorem l_T_take_L26 {p : Program} {l : Launch} {e : Env} {s : State} {m : MethodId} {args : Array Value} {below : List Frame} {meth : Method} {c : Code} {D : va_G} {cA : Nat → ClassId} {sx : Nat → Nat} {A : Nat → Prop} (a_T : Nat → Nat) (Q : Int32 → (Nat → Int32) → (Nat → Nat → Int32) → Prop) (X26 : (Nat → Int32) → (Nat → Nat → Int32) → Int32 → Prop) (hC : CX p s m args meth c b_T_take R_T TB 3 D vwCl (tyl cA) A (SPl sx) (some .int)) (hX26 : ∀ (I_T : (Nat → Int32)) (A_T : (Nat → Nat → Int32)) (v1 : Int32), X26 I_T A_T v1 → VV p l e ({ frames := 0, cells := 0, slots := 0, locals := 0 } : Room) s m args below meth c 3 D vwCl A 0 0 (QI below args s D vwCl (tyl cA) A (fun (r : Int32) (u : (Nat → Int32) × (Nat → Nat → Int32)) => Q r u.1 u.2) (fun u : (Nat → Int32) × (Nat → Nat → Int32) => kc_T cA a_T u.1 u.2)) (kc_T cA a_T I_T A_T) 54 [(0, .ref (a_T 0)), (1, .int v1)] []) : ∀ (n26 : Nat) (I_T : (Nat → Int32)) (A_T : (Nat → Nat → Int32)) (v1 : Int32) (v2 : Int32), wp_T_take_L26 Q X26 n26 I_T A_T v1 v2 → VV p l e ({ frames := 0, cells := 0, slots := 0, locals := 0 } : Room) s m args below meth c 3 D vwCl A 0 0 (QI below args s D vwCl (tyl cA) A (fun (r : Int32) (u : (Nat → Int32) × (Nat → Nat → Int32)) => Q r u.1 u.2) (fun u : (Nat → Int32) × (Nat → Nat → Int32) => kc_T cA a_T u.1 u.2)) (kc_T cA a_T I_T A_T) 26 [(0, .ref (a_T 0)), (1, .int v1), (2, .int v2)] [] := by
  intro n26
  induction n26 with
  | zero =>
    intro I_T A_T v1 v2 hw
    exact absurd hw (fun z => z)
  | succ n26 ih =>
    intro I_T A_T v1 v2 hw
    unfold wp_T_take_L26 at hw
    refine vv_iload_n hC d_T_take_26 2 rfl rfl ?_
    refine vv_iload_n hC d_T_take_27 1 rfl rfl ?_
    refine vv_icmp_ge hC 54 d_T_take_28 (by decide) (fun cd => ?_) (fun cd => ?_)
    · have hw := hw.1 cd
      exact vv_sub [0, 1] (by rfl) (hX26 I_T A_T v1 hw)
    · have hw := hw.2 cd
      refine vv_aload_n hC d_T_take_31 0 rfl rfl ?_
      refine vv_get hC (v := .ref (a_T 2)) hin_T 0 1 tb_33 d_T_take_32 rfl rfl (by decide) rfl rfl ?_
      refine vv_aload_n hC d_T_take_35 0 rfl rfl ?_
      refine vv_get hC (v := .int (I_T 0)) hin_T 0 2 tb_35 d_T_take_36 rfl rfl (by decide) rfl rfl ?_
      refine vv_iload_n hC d_T_take_39 2 rfl rfl ?_
      refine vv_iadd hC d_T_take_40 ?_
      refine vv_aload_n hC d_T_take_41 0 rfl rfl ?_
      refine vv_get hC (v := .ref (a_T 1)) hin_T 0 0 tb_32 d_T_take_42 rfl rfl (by decide) rfl rfl ?_
      refine vv_iload_n hC d_T_take_45 2 rfl rfl ?_
      obtain ⟨hin_1, hw⟩ := hw
      refine vv_iald hC 1 0 d_T_take_46 rfl rfl hin_1 ?_
      obtain ⟨hin_2, hw⟩ := hw
      refine vv_iast hC 2 0 d_T_take_47 rfl rfl hin_2 (ws2 := kc_T cA a_T I_T (va_up A_T 1 (upd (A_T 1) (((I_T 0) + v2)).toNatClampNeg ((A_T 0) (v2).toNatClampNeg)))) (st_T_TA1 ..) ?_
      refine vv_iinc hC d_T_take_48 2 rfl (v := (v2 + (1 : Int32))) rfl (by decide) [1, 2, 0] (L2 := [(0, .ref (a_T 0)), (1, .int v1), (2, .int (v2 + (1 : Int32)))]) rfl ?_
      refine vv_goto hC 26 d_T_take_51 (by decide) ?_
      exact vv_sub [0, 1, 2] (by rfl) (ih I_T (va_up A_T 1 (upd (A_T 1) (((I_T 0) + v2)).toNatClampNeg ((A_T 0) (v2).toNatClampNeg))) v1 (v2 + (1 : Int32)) hw)
set_option maxHeartbeats 4000000 in
set_option maxRecDepth 100000 in
theorem l_T_take_L56 {p : Program} {l : Launch} {e : Env} {s : State} {m : MethodId} {args : Array Value} {below : List Frame} {meth : Method} {c : Code} {D : va_G} {cA : Nat → ClassId} {sx : Nat → Nat} {A : Nat → Prop} (a_T : Nat → Nat) (Q : Int32 → (Nat → Int32) → (Nat → Nat → Int32) → Prop) (X56 : (Nat → Int32) → (Nat → Nat → Int32) → Int32 → Prop) (hC : CX p s m args meth c b_T_take R_T TB 3 D vwCl (tyl cA) A (SPl sx) (some .int)) (hX56 : ∀ (I_T : (Nat → Int32)) (A_T : (Nat → Nat → Int32)) (v1 : Int32), X56 I_T A_T v1 → VV p l e ({ frames := 0, cells := 0, slots := 0, locals := 0 } : Room) s m args below meth c 3 D vwCl A 0 0 (QI below args s D vwCl (tyl cA) A (fun (r : Int32) (u : (Nat → Int32) × (Nat → Nat → Int32)) => Q r u.1 u.2) (fun u : (Nat → Int32) × (Nat → Nat → Int32) => kc_T cA a_T u.1 u.2)) (kc_T cA a_T I_T A_T) 75 [(0, .ref (a_T 0)), (1, .int v1)] []) : ∀ (n56 : Nat) (I_T : (Nat → Int32)) (A_T : (Nat → Nat → Int32)) (v1 : Int32) (v2 : Int32), wp_T_take_L56 Q X56 n56 I_T A_T v1 v2 → VV p l e ({ frames := 0, cells := 0, slots := 0, locals := 0 } : Room) s m args below meth c 3 D vwCl A 0 0 (QI below args s D vwCl (tyl cA) A (fun (r : Int32) (u : (Nat → Int32) × (Nat → Nat → Int32)) => Q r u.1 u.2) (fun u : (Nat → Int32) × (Nat → Nat → Int32) => kc_T cA a_T u.1 u.2)) (kc_T cA a_T I_T A_T) 56 [(0, .ref (a_T 0)), (1, .int v1), (2, .int v2)] [] := by
  intro n56
  induction n56 with
  | zero =>
    intro I_T A_T v1 v2 hw
    exact absurd hw (fun z => z)
  | succ n56 ih =>
    intro I_T A_T v1 v2 hw
    unfold wp_T_take_L56 at hw
    refine vv_iload_n hC d_T_take_56 2 rfl rfl ?_
    refine vv_bipush hC d_T_take_57 (v := (20 : Int32)) (by decide) ?_
    refine vv_icmp_ge hC 75 d_T_take_59 (by decide) (fun cd => ?_) (fun cd => ?_)
    · have hw := hw.1 cd
      exact vv_sub [0, 1] (by rfl) (hX56 I_T A_T v1 hw)
    · have hw := hw.2 cd
      refine vv_aload_n hC d_T_take_62 0 rfl rfl ?_
      refine vv_get hC (v := .ref (a_T 1)) hin_T 0 0 tb_32 d_T_take_63 rfl rfl (by decide) rfl rfl ?_
      refine vv_iload_n hC d_T_take_66 2 rfl rfl ?_
      refine vv_iconst hC d_T_take_67 (v := (0 : Int32)) (by decide) ?_
      obtain ⟨hin_6, hw⟩ := hw
      refine vv_iast hC 1 0 d_T_take_68 rfl rfl hin_6 (ws2 := kc_T cA a_T I_T (va_up A_T 0 (upd (A_T 0) (v2).toNatClampNeg (0 : Int32)))) (st_T_TA0 ..) ?_
      refine vv_iinc hC d_T_take_69 2 rfl (v := (v2 + (1 : Int32))) rfl (by decide) [1, 2, 0] (L2 := [(0, .ref (a_T 0)), (1, .int v1), (2, .int (v2 + (1 : Int32)))]) rfl ?_
      refine vv_goto hC 56 d_T_take_72 (by decide) ?_
      exact vv_sub [0, 1, 2] (by rfl) (ih I_T (va_up A_T 0 (upd (A_T 0) (v2).toNatClampNeg (0 : Int32))) v1 (v2 + (1 : Int32)) hw)
set_option maxHeartbeats 4000000 in
set_option maxRecDepth 100000 in
theorem c_T_take (l : Launch) (D : va_G) (cA : Nat → ClassId) (sx : Nat → Nat) (a_T : Nat → Nat) (I_T : (Nat → Int32)) (A_T : (Nat → Nat → Int32)) (x1 : Int32) (Q : Int32 → (Nat → Int32) → (Nat → Nat → Int32) → Prop) (hw : wp_T_take I_T A_T x1 Q) : MetI l y_T_take (Cond.code y_T_take b_T_take 3 (some .int) :: TB) ({ frames := 0, cells := 0, slots := 0, locals := 0 } : Room) D vwCl (tyl cA) (SPl sx) [.ref (a_T 0), .int x1] (kc_T cA a_T I_T A_T) (fun (r : Int32) (u : (Nat → Int32) × (Nat → Nat → Int32)) => Q r u.1 u.2) (fun u : (Nat → Int32) × (Nat → Nat → Int32) => kc_T cA a_T u.1 u.2) := by
  refine vv_entryI (cc := b_T_take) (own := R_T) (L := [(0, .ref (a_T 0)), (1, .int x1)]) (by decide) rfl rfl (Nat.le_of_ble_eq_true rfl) rfl (fun p e s m args below meth c A hC => ?_)
  unfold wp_T_take at hw
  refine vv_iload_n hC d_T_take_0 1 rfl rfl ?_
  refine vv_if_lt hC 22 d_T_take_1 (by decide) (fun cd => ?_) (fun cd => ?_)
  · have hw := hw.1 cd
    refine vv_iconst hC d_T_take_22 (v := (-1 : Int32)) (by decide) ?_
    exact vv_iret hC d_T_take_23 (I_T, A_T) hw rfl
  · have hw := hw.2 cd
    refine vv_iload_n hC d_T_take_4 1 rfl rfl ?_
    refine vv_bipush hC d_T_take_5 (v := (20 : Int32)) (by decide) ?_
    refine vv_icmp_gt hC 22 d_T_take_7 (by decide) (fun cd => ?_) (fun cd => ?_)
    · have hw := hw.1 cd
      refine vv_iconst hC d_T_take_22 (v := (-1 : Int32)) (by decide) ?_
      exact vv_iret hC d_T_take_23 (I_T, A_T) hw rfl
    · have hw := hw.2 cd
      refine vv_aload_n hC d_T_take_10 0 rfl rfl ?_
      refine vv_get hC (v := .int (I_T 0)) hin_T 0 2 tb_35 d_T_take_11 rfl rfl (by decide) rfl rfl ?_
      refine vv_iload_n hC d_T_take_14 1 rfl rfl ?_
      refine vv_iadd hC d_T_take_15 ?_
      refine vv_sipush hC d_T_take_16 (v := (6000 : Int32)) (by decide) ?_
      refine vv_icmp_le hC 24 d_T_take_19 (by decide) (fun cd => ?_) (fun cd => ?_)
      · have hw := hw.1 cd
        refine vv_iconst hC d_T_take_24 (v := (0 : Int32)) (by decide) ?_
        refine vv_istore_n hC d_T_take_25 rfl (by decide) [1, 2, 0] (L2 := [(0, .ref (a_T 0)), (1, .int x1), (2, .int (0 : Int32))]) rfl ?_
        obtain ⟨m26, hw⟩ := hw
        refine vv_sub [0, 1, 2] (by rfl) (l_T_take_L26 a_T Q _ hC (fun I_T_3 A_T_4 v1_5 hw => ?_) m26 I_T A_T x1 (0 : Int32) hw)
        refine vv_iconst hC d_T_take_54 (v := (0 : Int32)) (by decide) ?_
        refine vv_istore_n hC d_T_take_55 rfl (by decide) [1, 2, 0] (L2 := [(0, .ref (a_T 0)), (1, .int v1_5), (2, .int (0 : Int32))]) rfl ?_
        obtain ⟨m56, hw⟩ := hw
        refine vv_sub [0, 1, 2] (by rfl) (l_T_take_L56 a_T Q _ hC (fun I_T_7 A_T_8 v1_9 hw => ?_) m56 I_T_3 A_T_4 v1_5 (0 : Int32) hw)
        refine vv_aload_n hC d_T_take_75 0 rfl rfl ?_
        refine vv_dup hC d_T_take_76 rfl ?_
        refine vv_get hC (v := .int (I_T_7 0)) hin_T 0 2 tb_35 d_T_take_77 rfl rfl (by decide) rfl rfl ?_
        refine vv_iload_n hC d_T_take_80 1 rfl rfl ?_
        refine vv_iadd hC d_T_take_81 ?_
        refine vv_put hC hin_T ty_T tyok_T nmok_T 0 2 tb_35 d_T_take_82 rfl rfl (by decide) rfl rfl rfl rfl rfl (Nat.le_of_ble_eq_true rfl) (ws2 := kc_T cA a_T (va_up I_T_7 0 ((I_T_7 0) + v1_9)) A_T_8) (st_T_TI0 ..) ?_
        refine vv_aload_n hC d_T_take_85 0 rfl rfl ?_
        refine vv_get hC (v := .int ((I_T_7 0) + v1_9)) hin_T 0 2 tb_35 d_T_take_86 rfl rfl (by decide) rfl rfl ?_
        exact vv_iret hC d_T_take_89 ((va_up I_T_7 0 ((I_T_7 0) + v1_9)), A_T_8) hw rfl
      · have hw := hw.2 cd
        refine vv_iconst hC d_T_take_22 (v := (-1 : Int32)) (by decide) ?_
        exact vv_iret hC d_T_take_23 (I_T, A_T) hw rfl
set_option maxHeartbeats 4000000 in
set_option maxRecDepth 100000 in
theorem c_T_makeEmpty (l : Launch) (D : va_G) (cA : Nat → ClassId) (sx : Nat → Nat) (a_T : Nat → Nat) (I_T : (Nat → Int32)) (A_T : (Nat → Nat → Int32)) (Q : (Nat → Int32) → Prop) (hw : wp_T_makeEmpty I_T Q) : MetV l y_T_makeEmpty (Cond.code y_T_makeEmpty b_T_makeEmpty 1 none :: TB) ({ frames := 0, cells := 0, slots := 0, locals := 0 } : Room) D vwCl (tyl cA) (SPl sx) [.ref (a_T 0)] (kc_T cA a_T I_T A_T) (fun (u : (Nat → Int32)) => Q u) (fun u : (Nat → Int32) => kc_T cA a_T u A_T) := by
  refine vv_entryV (cc := b_T_makeEmpty) (own := R_T) (L := [(0, .ref (a_T 0))]) (by decide) rfl rfl (Nat.le_of_ble_eq_true rfl) rfl (fun p e s m args below meth c A hC => ?_)
  unfold wp_T_makeEmpty at hw
  refine vv_aload_n hC d_T_makeEmpty_0 0 rfl rfl ?_
  refine vv_iconst hC d_T_makeEmpty_1 (v := (0 : Int32)) (by decide) ?_
  refine vv_put hC hin_T ty_T tyok_T nmok_T 0 2 tb_35 d_T_makeEmpty_2 rfl rfl (by decide) rfl rfl rfl rfl rfl (Nat.le_of_ble_eq_true rfl) (ws2 := kc_T cA a_T (va_up I_T 0 (0 : Int32)) A_T) (st_T_TI0 ..) ?_
  exact vv_vret hC d_T_makeEmpty_5 (va_up I_T 0 (0 : Int32)) hw rfl
end
section
theorem d_U_restart_0 : decode b_U_restart 0 = .ok (.aload_n 0, 1) := by decide +kernel
theorem d_U_restart_1 : decode b_U_restart 1 = .ok (.iconst 0, 1) := by decide +kernel
theorem d_U_restart_2 : decode b_U_restart 2 = .ok (.putfield 9, 3) := by decide +kernel
theorem d_U_restart_5 : decode b_U_restart 5 = .ok (.aload_n 0, 1) := by decide +kernel
theorem d_U_restart_6 : decode b_U_restart 6 = .ok (.iconst 0, 1) := by decide +kernel
theorem d_U_restart_7 : decode b_U_restart 7 = .ok (.putfield 21, 3) := by decide +kernel
theorem d_U_restart_10 : decode b_U_restart 10 = .ok (.aload_n 0, 1) := by decide +kernel
theorem d_U_restart_11 : decode b_U_restart 11 = .ok (.iconst (-1), 1) := by decide +kernel
theorem d_U_restart_12 : decode b_U_restart 12 = .ok (.putfield 24, 3) := by decide +kernel
theorem d_U_restart_15 : decode b_U_restart 15 = .ok (.return_, 1) := by decide +kernel
theorem d_U_fail_0 : decode b_U_fail 0 = .ok (.aload_n 0, 1) := by decide +kernel
theorem d_U_fail_1 : decode b_U_fail 1 = .ok (.iload_n 1, 1) := by decide +kernel
theorem d_U_fail_2 : decode b_U_fail 2 = .ok (.putfield 21, 3) := by decide +kernel
theorem d_U_fail_5 : decode b_U_fail 5 = .ok (.aload_n 0, 1) := by decide +kernel
theorem d_U_fail_6 : decode b_U_fail 6 = .ok (.iload_n 2, 1) := by decide +kernel
theorem d_U_fail_7 : decode b_U_fail 7 = .ok (.putfield 24, 3) := by decide +kernel
theorem d_U_fail_10 : decode b_U_fail 10 = .ok (.iconst 0, 1) := by decide +kernel
theorem d_U_fail_11 : decode b_U_fail 11 = .ok (.ireturn, 1) := by decide +kernel
theorem d_U_peek_0 : decode b_U_peek 0 = .ok (.aload_n 0, 1) := by decide +kernel
theorem d_U_peek_1 : decode b_U_peek 1 = .ok (.getfield 9, 3) := by decide +kernel
theorem d_U_peek_4 : decode b_U_peek 4 = .ok (.ifCond .lt 17, 3) := by decide +kernel
theorem d_U_peek_7 : decode b_U_peek 7 = .ok (.aload_n 0, 1) := by decide +kernel
theorem d_U_peek_8 : decode b_U_peek 8 = .ok (.getfield 9, 3) := by decide +kernel
theorem d_U_peek_11 : decode b_U_peek 11 = .ok (.aload_n 0, 1) := by decide +kernel
theorem d_U_peek_12 : decode b_U_peek 12 = .ok (.getfield 27, 3) := by decide +kernel
theorem d_U_peek_15 : decode b_U_peek 15 = .ok (.getfield 31, 3) := by decide +kernel
theorem d_U_peek_18 : decode b_U_peek 18 = .ok (.if_icmp .lt 7, 3) := by decide +kernel
theorem d_U_peek_21 : decode b_U_peek 21 = .ok (.iconst (-1), 1) := by decide +kernel
theorem d_U_peek_22 : decode b_U_peek 22 = .ok (.goto 15, 3) := by decide +kernel
theorem d_U_peek_25 : decode b_U_peek 25 = .ok (.aload_n 0, 1) := by decide +kernel
theorem d_U_peek_26 : decode b_U_peek 26 = .ok (.getfield 27, 3) := by decide +kernel
theorem d_U_peek_29 : decode b_U_peek 29 = .ok (.getfield 36, 3) := by decide +kernel
theorem d_U_peek_32 : decode b_U_peek 32 = .ok (.aload_n 0, 1) := by decide +kernel
theorem d_U_peek_33 : decode b_U_peek 33 = .ok (.getfield 9, 3) := by decide +kernel
theorem d_U_peek_36 : decode b_U_peek 36 = .ok (.iaload, 1) := by decide +kernel
theorem d_U_peek_37 : decode b_U_peek 37 = .ok (.ireturn, 1) := by decide +kernel
theorem d_U_expect_0 : decode b_U_expect 0 = .ok (.aload_n 0, 1) := by decide +kernel
theorem d_U_expect_1 : decode b_U_expect 1 = .ok (.invokevirtual 40, 3) := by decide +kernel
theorem d_U_expect_4 : decode b_U_expect 4 = .ok (.iload_n 1, 1) := by decide +kernel
theorem d_U_expect_5 : decode b_U_expect 5 = .ok (.if_icmp .eq 13, 3) := by decide +kernel
theorem d_U_expect_8 : decode b_U_expect 8 = .ok (.aload_n 0, 1) := by decide +kernel
theorem d_U_expect_9 : decode b_U_expect 9 = .ok (.iconst 1, 1) := by decide +kernel
theorem d_U_expect_10 : decode b_U_expect 10 = .ok (.aload_n 0, 1) := by decide +kernel
theorem d_U_expect_11 : decode b_U_expect 11 = .ok (.getfield 9, 3) := by decide +kernel
theorem d_U_expect_14 : decode b_U_expect 14 = .ok (.invokevirtual 44, 3) := by decide +kernel
theorem d_U_expect_17 : decode b_U_expect 17 = .ok (.ireturn, 1) := by decide +kernel
theorem d_U_expect_18 : decode b_U_expect 18 = .ok (.aload_n 0, 1) := by decide +kernel
theorem d_U_expect_19 : decode b_U_expect 19 = .ok (.dup, 1) := by decide +kernel
theorem d_U_expect_20 : decode b_U_expect 20 = .ok (.getfield 9, 3) := by decide +kernel
theorem d_U_expect_23 : decode b_U_expect 23 = .ok (.iconst 1, 1) := by decide +kernel
theorem d_U_expect_24 : decode b_U_expect 24 = .ok (.iadd, 1) := by decide +kernel
theorem d_U_expect_25 : decode b_U_expect 25 = .ok (.putfield 9, 3) := by decide +kernel
theorem d_U_expect_28 : decode b_U_expect 28 = .ok (.iconst 1, 1) := by decide +kernel
theorem d_U_expect_29 : decode b_U_expect 29 = .ok (.ireturn, 1) := by decide +kernel
theorem d_U_readNumber_0 : decode b_U_readNumber 0 = .ok (.aload_n 0, 1) := by decide +kernel
theorem d_U_readNumber_1 : decode b_U_readNumber 1 = .ok (.aload_n 0, 1) := by decide +kernel
theorem d_U_readNumber_2 : decode b_U_readNumber 2 = .ok (.getfield 9, 3) := by decide +kernel
theorem d_U_readNumber_5 : decode b_U_readNumber 5 = .ok (.putfield 15, 3) := by decide +kernel
theorem d_U_readNumber_8 : decode b_U_readNumber 8 = .ok (.aload_n 0, 1) := by decide +kernel
theorem d_U_readNumber_9 : decode b_U_readNumber 9 = .ok (.iconst 0, 1) := by decide +kernel
theorem d_U_readNumber_10 : decode b_U_readNumber 10 = .ok (.putfield 18, 3) := by decide +kernel
theorem d_U_readNumber_13 : decode b_U_readNumber 13 = .ok (.iconst 0, 1) := by decide +kernel
theorem d_U_readNumber_14 : decode b_U_readNumber 14 = .ok (.istore_n 1, 1) := by decide +kernel
theorem d_U_readNumber_15 : decode b_U_readNumber 15 = .ok (.iload_n 1, 1) := by decide +kernel
theorem d_U_readNumber_16 : decode b_U_readNumber 16 = .ok (.iconst 4, 1) := by decide +kernel
theorem d_U_readNumber_17 : decode b_U_readNumber 17 = .ok (.if_icmp .gt 110, 3) := by decide +kernel
theorem d_U_readNumber_20 : decode b_U_readNumber 20 = .ok (.aload_n 0, 1) := by decide +kernel
theorem d_U_readNumber_21 : decode b_U_readNumber 21 = .ok (.invokevirtual 40, 3) := by decide +kernel
theorem d_U_readNumber_24 : decode b_U_readNumber 24 = .ok (.istore_n 2, 1) := by decide +kernel
theorem d_U_readNumber_25 : decode b_U_readNumber 25 = .ok (.iload_n 2, 1) := by decide +kernel
theorem d_U_readNumber_26 : decode b_U_readNumber 26 = .ok (.bipush 48, 2) := by decide +kernel
theorem d_U_readNumber_28 : decode b_U_readNumber 28 = .ok (.if_icmp .lt 9, 3) := by decide +kernel
theorem d_U_readNumber_31 : decode b_U_readNumber 31 = .ok (.iload_n 2, 1) := by decide +kernel
theorem d_U_readNumber_32 : decode b_U_readNumber 32 = .ok (.bipush 57, 2) := by decide +kernel
theorem d_U_readNumber_34 : decode b_U_readNumber 34 = .ok (.if_icmp .le 25, 3) := by decide +kernel
theorem d_U_readNumber_37 : decode b_U_readNumber 37 = .ok (.iload_n 1, 1) := by decide +kernel
theorem d_U_readNumber_38 : decode b_U_readNumber 38 = .ok (.ifCond .gt 15, 3) := by decide +kernel
theorem d_U_readNumber_41 : decode b_U_readNumber 41 = .ok (.aload_n 0, 1) := by decide +kernel
theorem d_U_readNumber_42 : decode b_U_readNumber 42 = .ok (.iconst 1, 1) := by decide +kernel
theorem d_U_readNumber_43 : decode b_U_readNumber 43 = .ok (.aload_n 0, 1) := by decide +kernel
theorem d_U_readNumber_44 : decode b_U_readNumber 44 = .ok (.getfield 9, 3) := by decide +kernel
theorem d_U_readNumber_47 : decode b_U_readNumber 47 = .ok (.invokevirtual 44, 3) := by decide +kernel
theorem d_U_readNumber_50 : decode b_U_readNumber 50 = .ok (.ifCond .eq 7, 3) := by decide +kernel
theorem d_U_readNumber_53 : decode b_U_readNumber 53 = .ok (.iconst 1, 1) := by decide +kernel
theorem d_U_readNumber_54 : decode b_U_readNumber 54 = .ok (.goto 4, 3) := by decide +kernel
theorem d_U_readNumber_57 : decode b_U_readNumber 57 = .ok (.iconst 0, 1) := by decide +kernel
theorem d_U_readNumber_58 : decode b_U_readNumber 58 = .ok (.ireturn, 1) := by decide +kernel
theorem d_U_readNumber_59 : decode b_U_readNumber 59 = .ok (.iload_n 1, 1) := by decide +kernel
theorem d_U_readNumber_60 : decode b_U_readNumber 60 = .ok (.ifCond .le 14, 3) := by decide +kernel
theorem d_U_readNumber_63 : decode b_U_readNumber 63 = .ok (.aload_n 0, 1) := by decide +kernel
theorem d_U_readNumber_64 : decode b_U_readNumber 64 = .ok (.getfield 18, 3) := by decide +kernel
theorem d_U_readNumber_67 : decode b_U_readNumber 67 = .ok (.ifCond .ne 7, 3) := by decide +kernel
theorem d_U_readNumber_70 : decode b_U_readNumber 70 = .ok (.iconst 1, 1) := by decide +kernel
theorem d_U_readNumber_71 : decode b_U_readNumber 71 = .ok (.goto 4, 3) := by decide +kernel
theorem d_U_readNumber_74 : decode b_U_readNumber 74 = .ok (.iconst 0, 1) := by decide +kernel
theorem d_U_readNumber_75 : decode b_U_readNumber 75 = .ok (.istore_n 3, 1) := by decide +kernel
theorem d_U_readNumber_76 : decode b_U_readNumber 76 = .ok (.iload_n 3, 1) := by decide +kernel
theorem d_U_readNumber_77 : decode b_U_readNumber 77 = .ok (.ifCond .ne 8, 3) := by decide +kernel
theorem d_U_readNumber_80 : decode b_U_readNumber 80 = .ok (.iload_n 1, 1) := by decide +kernel
theorem d_U_readNumber_81 : decode b_U_readNumber 81 = .ok (.iconst 4, 1) := by decide +kernel
theorem d_U_readNumber_82 : decode b_U_readNumber 82 = .ok (.if_icmp .ne 13, 3) := by decide +kernel
theorem d_U_readNumber_85 : decode b_U_readNumber 85 = .ok (.aload_n 0, 1) := by decide +kernel
theorem d_U_readNumber_86 : decode b_U_readNumber 86 = .ok (.iconst 1, 1) := by decide +kernel
theorem d_U_readNumber_87 : decode b_U_readNumber 87 = .ok (.aload_n 0, 1) := by decide +kernel
theorem d_U_readNumber_88 : decode b_U_readNumber 88 = .ok (.getfield 9, 3) := by decide +kernel
theorem d_U_readNumber_91 : decode b_U_readNumber 91 = .ok (.invokevirtual 44, 3) := by decide +kernel
theorem d_U_readNumber_94 : decode b_U_readNumber 94 = .ok (.ireturn, 1) := by decide +kernel
theorem d_U_readNumber_95 : decode b_U_readNumber 95 = .ok (.aload_n 0, 1) := by decide +kernel
theorem d_U_readNumber_96 : decode b_U_readNumber 96 = .ok (.bipush 10, 2) := by decide +kernel
theorem d_U_readNumber_98 : decode b_U_readNumber 98 = .ok (.aload_n 0, 1) := by decide +kernel
theorem d_U_readNumber_99 : decode b_U_readNumber 99 = .ok (.getfield 18, 3) := by decide +kernel
theorem d_U_readNumber_102 : decode b_U_readNumber 102 = .ok (.imul, 1) := by decide +kernel
theorem d_U_readNumber_103 : decode b_U_readNumber 103 = .ok (.iload_n 2, 1) := by decide +kernel
theorem d_U_readNumber_104 : decode b_U_readNumber 104 = .ok (.iadd, 1) := by decide +kernel
theorem d_U_readNumber_105 : decode b_U_readNumber 105 = .ok (.bipush 48, 2) := by decide +kernel
theorem d_U_readNumber_107 : decode b_U_readNumber 107 = .ok (.isub, 1) := by decide +kernel
theorem d_U_readNumber_108 : decode b_U_readNumber 108 = .ok (.putfield 18, 3) := by decide +kernel
theorem d_U_readNumber_111 : decode b_U_readNumber 111 = .ok (.aload_n 0, 1) := by decide +kernel
theorem d_U_readNumber_112 : decode b_U_readNumber 112 = .ok (.dup, 1) := by decide +kernel
theorem d_U_readNumber_113 : decode b_U_readNumber 113 = .ok (.getfield 9, 3) := by decide +kernel
theorem d_U_readNumber_116 : decode b_U_readNumber 116 = .ok (.iconst 1, 1) := by decide +kernel
theorem d_U_readNumber_117 : decode b_U_readNumber 117 = .ok (.iadd, 1) := by decide +kernel
theorem d_U_readNumber_118 : decode b_U_readNumber 118 = .ok (.putfield 9, 3) := by decide +kernel
theorem d_U_readNumber_121 : decode b_U_readNumber 121 = .ok (.iinc 1 1, 3) := by decide +kernel
theorem d_U_readNumber_124 : decode b_U_readNumber 124 = .ok (.goto (-109), 3) := by decide +kernel
theorem d_U_readNumber_127 : decode b_U_readNumber 127 = .ok (.iconst 1, 1) := by decide +kernel
theorem d_U_readNumber_128 : decode b_U_readNumber 128 = .ok (.ireturn, 1) := by decide +kernel
theorem d_U_readSevens_0 : decode b_U_readSevens 0 = .ok (.aload_n 0, 1) := by decide +kernel
theorem d_U_readSevens_1 : decode b_U_readSevens 1 = .ok (.aload_n 0, 1) := by decide +kernel
theorem d_U_readSevens_2 : decode b_U_readSevens 2 = .ok (.getfield 9, 3) := by decide +kernel
theorem d_U_readSevens_5 : decode b_U_readSevens 5 = .ok (.putfield 15, 3) := by decide +kernel
theorem d_U_readSevens_8 : decode b_U_readSevens 8 = .ok (.aload_n 0, 1) := by decide +kernel
theorem d_U_readSevens_9 : decode b_U_readSevens 9 = .ok (.iconst 0, 1) := by decide +kernel
theorem d_U_readSevens_10 : decode b_U_readSevens 10 = .ok (.putfield 18, 3) := by decide +kernel
theorem d_U_readSevens_13 : decode b_U_readSevens 13 = .ok (.iconst 0, 1) := by decide +kernel
theorem d_U_readSevens_14 : decode b_U_readSevens 14 = .ok (.istore_n 1, 1) := by decide +kernel
theorem d_U_readSevens_15 : decode b_U_readSevens 15 = .ok (.iload_n 1, 1) := by decide +kernel
theorem d_U_readSevens_16 : decode b_U_readSevens 16 = .ok (.iconst 3, 1) := by decide +kernel
theorem d_U_readSevens_17 : decode b_U_readSevens 17 = .ok (.if_icmp .ge 66, 3) := by decide +kernel
theorem d_U_readSevens_20 : decode b_U_readSevens 20 = .ok (.aload_n 0, 1) := by decide +kernel
theorem d_U_readSevens_21 : decode b_U_readSevens 21 = .ok (.invokevirtual 40, 3) := by decide +kernel
theorem d_U_readSevens_24 : decode b_U_readSevens 24 = .ok (.istore_n 2, 1) := by decide +kernel
theorem d_U_readSevens_25 : decode b_U_readSevens 25 = .ok (.iload_n 2, 1) := by decide +kernel
theorem d_U_readSevens_26 : decode b_U_readSevens 26 = .ok (.iconst (-1), 1) := by decide +kernel
theorem d_U_readSevens_27 : decode b_U_readSevens 27 = .ok (.if_icmp .ne 13, 3) := by decide +kernel
theorem d_U_readSevens_30 : decode b_U_readSevens 30 = .ok (.aload_n 0, 1) := by decide +kernel
theorem d_U_readSevens_31 : decode b_U_readSevens 31 = .ok (.iconst 1, 1) := by decide +kernel
theorem d_U_readSevens_32 : decode b_U_readSevens 32 = .ok (.aload_n 0, 1) := by decide +kernel
theorem d_U_readSevens_33 : decode b_U_readSevens 33 = .ok (.getfield 9, 3) := by decide +kernel
theorem d_U_readSevens_36 : decode b_U_readSevens 36 = .ok (.invokevirtual 44, 3) := by decide +kernel
theorem d_U_readSevens_39 : decode b_U_readSevens 39 = .ok (.ireturn, 1) := by decide +kernel
theorem d_U_readSevens_40 : decode b_U_readSevens 40 = .ok (.aload_n 0, 1) := by decide +kernel
theorem d_U_readSevens_41 : decode b_U_readSevens 41 = .ok (.dup, 1) := by decide +kernel
theorem d_U_readSevens_42 : decode b_U_readSevens 42 = .ok (.getfield 9, 3) := by decide +kernel
theorem d_U_readSevens_45 : decode b_U_readSevens 45 = .ok (.iconst 1, 1) := by decide +kernel
theorem d_U_readSevens_46 : decode b_U_readSevens 46 = .ok (.iadd, 1) := by decide +kernel
theorem d_U_readSevens_47 : decode b_U_readSevens 47 = .ok (.putfield 9, 3) := by decide +kernel
theorem d_U_readSevens_50 : decode b_U_readSevens 50 = .ok (.aload_n 0, 1) := by decide +kernel
theorem d_U_readSevens_51 : decode b_U_readSevens 51 = .ok (.dup, 1) := by decide +kernel
theorem d_U_readSevens_52 : decode b_U_readSevens 52 = .ok (.getfield 18, 3) := by decide +kernel
theorem d_U_readSevens_55 : decode b_U_readSevens 55 = .ok (.iload_n 2, 1) := by decide +kernel
theorem d_U_readSevens_56 : decode b_U_readSevens 56 = .ok (.bipush 127, 2) := by decide +kernel
theorem d_U_readSevens_58 : decode b_U_readSevens 58 = .ok (.iand, 1) := by decide +kernel
theorem d_U_readSevens_59 : decode b_U_readSevens 59 = .ok (.bipush 7, 2) := by decide +kernel
theorem d_U_readSevens_61 : decode b_U_readSevens 61 = .ok (.iload_n 1, 1) := by decide +kernel
theorem d_U_readSevens_62 : decode b_U_readSevens 62 = .ok (.imul, 1) := by decide +kernel
theorem d_U_readSevens_63 : decode b_U_readSevens 63 = .ok (.ishl, 1) := by decide +kernel
theorem d_U_readSevens_64 : decode b_U_readSevens 64 = .ok (.ior, 1) := by decide +kernel
theorem d_U_readSevens_65 : decode b_U_readSevens 65 = .ok (.putfield 18, 3) := by decide +kernel
theorem d_U_readSevens_68 : decode b_U_readSevens 68 = .ok (.iload_n 2, 1) := by decide +kernel
theorem d_U_readSevens_69 : decode b_U_readSevens 69 = .ok (.sipush 128, 3) := by decide +kernel
theorem d_U_readSevens_72 : decode b_U_readSevens 72 = .ok (.if_icmp .ge 5, 3) := by decide +kernel
theorem d_U_readSevens_75 : decode b_U_readSevens 75 = .ok (.iconst 1, 1) := by decide +kernel
theorem d_U_readSevens_76 : decode b_U_readSevens 76 = .ok (.ireturn, 1) := by decide +kernel
theorem d_U_readSevens_77 : decode b_U_readSevens 77 = .ok (.iinc 1 1, 3) := by decide +kernel
theorem d_U_readSevens_80 : decode b_U_readSevens 80 = .ok (.goto (-65), 3) := by decide +kernel
theorem d_U_readSevens_83 : decode b_U_readSevens 83 = .ok (.aload_n 0, 1) := by decide +kernel
theorem d_U_readSevens_84 : decode b_U_readSevens 84 = .ok (.iconst 1, 1) := by decide +kernel
theorem d_U_readSevens_85 : decode b_U_readSevens 85 = .ok (.aload_n 0, 1) := by decide +kernel
theorem d_U_readSevens_86 : decode b_U_readSevens 86 = .ok (.getfield 9, 3) := by decide +kernel
theorem d_U_readSevens_89 : decode b_U_readSevens 89 = .ok (.invokevirtual 44, 3) := by decide +kernel
theorem d_U_readSevens_92 : decode b_U_readSevens 92 = .ok (.ireturn, 1) := by decide +kernel
end
section
theorem tb_5 : Cond.initialized R_U ∈ TB := tb_mem (i := 68) (by decide +kernel) (by decide +kernel)
theorem tb_80 : Cond.fieldLink R_U 27 "CircuitFiles$Cursor" "tape" "LCircuitFiles$Tape;" ∈ TB := tb_mem (i := 143) (by decide +kernel) (by decide +kernel)
theorem tb_81 : Cond.fieldLink R_U 9 "CircuitFiles$Cursor" "at" "I" ∈ TB := tb_mem (i := 144) (by decide +kernel) (by decide +kernel)
theorem tb_83 : Cond.fieldLink R_U 15 "CircuitFiles$Cursor" "start" "I" ∈ TB := tb_mem (i := 146) (by decide +kernel) (by decide +kernel)
theorem tb_85 : Cond.fieldLink R_U 18 "CircuitFiles$Cursor" "number" "I" ∈ TB := tb_mem (i := 148) (by decide +kernel) (by decide +kernel)
theorem tb_87 : Cond.fieldLink R_U 21 "CircuitFiles$Cursor" "faultKind" "I" ∈ TB := tb_mem (i := 150) (by decide +kernel) (by decide +kernel)
theorem tb_89 : Cond.fieldLink R_U 24 "CircuitFiles$Cursor" "faultPlace" "I" ∈ TB := tb_mem (i := 152) (by decide +kernel) (by decide +kernel)
theorem tb_478 : Cond.methodLink R_U 40 y_U_peek ∈ TB := tb_mem (i := 541) (by decide +kernel) (by decide +kernel)
theorem tb_479 : Cond.instanceMethod y_U_peek ∈ TB := tb_mem (i := 542) (by decide +kernel) (by decide +kernel)
theorem tb_480 : Cond.selects R_U y_U_peek y_U_peek ∈ TB := tb_mem (i := 543) (by decide +kernel) (by decide +kernel)
theorem tb_481 : Cond.code y_U_peek b_U_peek 1 (some .int) ∈ TB := tb_mem (i := 544) (by decide +kernel) (by decide +kernel)
theorem tb_482 : Cond.methodLink R_U 44 y_U_fail ∈ TB := tb_mem (i := 545) (by decide +kernel) (by decide +kernel)
theorem tb_483 : Cond.instanceMethod y_U_fail ∈ TB := tb_mem (i := 546) (by decide +kernel) (by decide +kernel)
theorem tb_484 : Cond.selects R_U y_U_fail y_U_fail ∈ TB := tb_mem (i := 547) (by decide +kernel) (by decide +kernel)
theorem tb_485 : Cond.code y_U_fail b_U_fail 3 (some .boolean) ∈ TB := tb_mem (i := 548) (by decide +kernel) (by decide +kernel)
theorem cw_U_40 {p : Program} {R : Room} {s : State} {m : MethodId} {args : Array Value} {meth : Method} {c : Code} {cc : ByteArray} {nL : Nat} {D : va_G} {sx : Nat → Nat} {tys : List (ClassId × FieldType)} {A : Nat → Prop} {ret : Option FieldType} (hC : CX p s m args meth c cc R_U TB nL D vwCl tys A (SPl sx) ret) (hR : ({ frames := 0, cells := 0, slots := 0, locals := 0 } : Room).frames + 1 ≤ R.frames ∧ 8 + (1 + 11) + ({ frames := 0, cells := 0, slots := 0, locals := 0 } : Room).locals ≤ R.locals := by exact ⟨Nat.le_of_ble_eq_true rfl, Nat.le_of_ble_eq_true rfl⟩) : CallW R s args R_U R_U 40 y_U_peek b_U_peek 1 (some .int) (Cond.code y_U_peek b_U_peek 1 (some .int) :: TB) ({ frames := 0, cells := 0, slots := 0, locals := 0 } : Room) 0 0 0 := cwV 0 hC.2.2.2.2.1 (gV tb_478 tb_479 tb_480 tb_5 tb_481) rfl rfl rfl (by decide +kernel) hR
theorem cw_U_44 {p : Program} {R : Room} {s : State} {m : MethodId} {args : Array Value} {meth : Method} {c : Code} {cc : ByteArray} {nL : Nat} {D : va_G} {sx : Nat → Nat} {tys : List (ClassId × FieldType)} {A : Nat → Prop} {ret : Option FieldType} (hC : CX p s m args meth c cc R_U TB nL D vwCl tys A (SPl sx) ret) (hR : ({ frames := 0, cells := 0, slots := 0, locals := 0 } : Room).frames + 1 ≤ R.frames ∧ 8 + (3 + 11) + ({ frames := 0, cells := 0, slots := 0, locals := 0 } : Room).locals ≤ R.locals := by exact ⟨Nat.le_of_ble_eq_true rfl, Nat.le_of_ble_eq_true rfl⟩) : CallW R s args R_U R_U 44 y_U_fail b_U_fail 3 (some .boolean) (Cond.code y_U_fail b_U_fail 3 (some .boolean) :: TB) ({ frames := 0, cells := 0, slots := 0, locals := 0 } : Room) 0 0 2 := cwV 2 hC.2.2.2.2.1 (gV tb_482 tb_483 tb_484 tb_5 tb_485) rfl rfl rfl (by decide +kernel) hR
theorem st_UT_UI0 {cA : Nat → ClassId} {a_U a_T : Nat → Nat} {I_U : Nat → Int32} {I_T : Nat → Int32} {A_T : Nat → Nat → Int32} {v : Int32} : (kc_U cA a_U a_T I_U ++ kc_T cA a_T I_T A_T).set 0 (a_U 0, .inr (1, ([.ref (a_T 0), .int (I_U 0), .int (I_U 1), .int (I_U 2), .int (I_U 3), .int (I_U 4)] : List Value).set 1 (.int v))) = kc_U cA a_U a_T (va_up I_U 0 v) ++ kc_T cA a_T I_T A_T := rfl
theorem st_UT_UI1 {cA : Nat → ClassId} {a_U a_T : Nat → Nat} {I_U : Nat → Int32} {I_T : Nat → Int32} {A_T : Nat → Nat → Int32} {v : Int32} : (kc_U cA a_U a_T I_U ++ kc_T cA a_T I_T A_T).set 0 (a_U 0, .inr (1, ([.ref (a_T 0), .int (I_U 0), .int (I_U 1), .int (I_U 2), .int (I_U 3), .int (I_U 4)] : List Value).set 2 (.int v))) = kc_U cA a_U a_T (va_up I_U 1 v) ++ kc_T cA a_T I_T A_T := rfl
theorem st_UT_UI2 {cA : Nat → ClassId} {a_U a_T : Nat → Nat} {I_U : Nat → Int32} {I_T : Nat → Int32} {A_T : Nat → Nat → Int32} {v : Int32} : (kc_U cA a_U a_T I_U ++ kc_T cA a_T I_T A_T).set 0 (a_U 0, .inr (1, ([.ref (a_T 0), .int (I_U 0), .int (I_U 1), .int (I_U 2), .int (I_U 3), .int (I_U 4)] : List Value).set 3 (.int v))) = kc_U cA a_U a_T (va_up I_U 2 v) ++ kc_T cA a_T I_T A_T := rfl
theorem st_UT_UI3 {cA : Nat → ClassId} {a_U a_T : Nat → Nat} {I_U : Nat → Int32} {I_T : Nat → Int32} {A_T : Nat → Nat → Int32} {v : Int32} : (kc_U cA a_U a_T I_U ++ kc_T cA a_T I_T A_T).set 0 (a_U 0, .inr (1, ([.ref (a_T 0), .int (I_U 0), .int (I_U 1), .int (I_U 2), .int (I_U 3), .int (I_U 4)] : List Value).set 4 (.int v))) = kc_U cA a_U a_T (va_up I_U 3 v) ++ kc_T cA a_T I_T A_T := rfl
theorem st_UT_UI4 {cA : Nat → ClassId} {a_U a_T : Nat → Nat} {I_U : Nat → Int32} {I_T : Nat → Int32} {A_T : Nat → Nat → Int32} {v : Int32} : (kc_U cA a_U a_T I_U ++ kc_T cA a_T I_T A_T).set 0 (a_U 0, .inr (1, ([.ref (a_T 0), .int (I_U 0), .int (I_U 1), .int (I_U 2), .int (I_U 3), .int (I_U 4)] : List Value).set 5 (.int v))) = kc_U cA a_U a_T (va_up I_U 4 v) ++ kc_T cA a_T I_T A_T := rfl
end
section
def wp_U_restart (I_U : (Nat → Int32)) (Q : (Nat → Int32) → Prop) : Prop := Q (va_up (va_up (va_up I_U 0 (0 : Int32)) 3 (0 : Int32)) 4 (-1 : Int32))
def wp_U_fail (I_U : (Nat → Int32)) (x1 : Int32) (x2 : Int32) (Q : Int32 → (Nat → Int32) → Prop) : Prop := Q (0 : Int32) (va_up (va_up I_U 3 x1) 4 x2)
def wp_U_peek (I_U : (Nat → Int32)) (I_T : (Nat → Int32)) (A_T : (Nat → Nat → Int32)) (Q : Int32 → Prop) : Prop := (((I_U 0) < 0) → Q (-1 : Int32)) ∧ ((¬ (I_U 0) < 0) → (((I_U 0) < (I_T 0)) → vp_in (I_U 0) 6000 ∧ (Q ((A_T 1) ((I_U 0)).toNatClampNeg))) ∧ ((¬ (I_U 0) < (I_T 0)) → Q (-1 : Int32)))
def wp_U_expect (I_U : (Nat → Int32)) (I_T : (Nat → Int32)) (A_T : (Nat → Nat → Int32)) (x1 : Int32) (Q : Int32 → (Nat → Int32) → Prop) : Prop := wp_U_peek I_U I_T A_T (fun r_1 => ((r_1 = x1) → Q (1 : Int32) (va_up I_U 0 ((I_U 0) + (1 : Int32)))) ∧ ((¬ r_1 = x1) → wp_U_fail I_U (1 : Int32) (I_U 0) (fun r_3 I_U_5 => (narrow .boolean (.int r_3) = .int r_3) ∧ (Q r_3 I_U_5))))
def wp_U_readNumber_b37 (I_T : (Nat → Int32)) (A_T : (Nat → Nat → Int32)) (Q : Int32 → (Nat → Int32) → Prop) (I_U : (Nat → Int32)) (v1 : Int32) : Prop := ((0 < v1) → Q (1 : Int32) I_U) ∧ ((¬ 0 < v1) → wp_U_fail I_U (1 : Int32) (I_U 0) (fun r_3 I_U_5 => ((r_3 = 0) → Q (0 : Int32) I_U_5) ∧ ((¬ r_3 = 0) → Q (1 : Int32) I_U_5)))
def wp_U_readNumber_b76 (I_T : (Nat → Int32)) (A_T : (Nat → Nat → Int32)) (Q : Int32 → (Nat → Int32) → Prop) (K15 : (Nat → Int32) → Int32 → Prop) (X15 : (Nat → Int32) → Prop) (I_U : (Nat → Int32)) (v1 : Int32) (v2 : Int32) (v3 : Int32) : Prop := ((v3 = 0) → ((v1 = (4 : Int32)) → wp_U_fail I_U (1 : Int32) (I_U 0) (fun r_10 I_U_12 => (narrow .boolean (.int r_10) = .int r_10) ∧ (Q r_10 I_U_12))) ∧ ((¬ v1 = (4 : Int32)) → K15 (va_up (va_up I_U 2 ((((10 : Int32) * (I_U 2)) + v2) - (48 : Int32))) 0 ((I_U 0) + (1 : Int32))) (v1 + (1 : Int32)))) ∧ ((¬ v3 = 0) → wp_U_fail I_U (1 : Int32) (I_U 0) (fun r_6 I_U_8 => (narrow .boolean (.int r_6) = .int r_6) ∧ (Q r_6 I_U_8)))
def wp_U_readNumber_b74 (I_T : (Nat → Int32)) (A_T : (Nat → Nat → Int32)) (Q : Int32 → (Nat → Int32) → Prop) (K15 : (Nat → Int32) → Int32 → Prop) (X15 : (Nat → Int32) → Prop) (I_U : (Nat → Int32)) (v1 : Int32) (v2 : Int32) : Prop := wp_U_readNumber_b76 I_T A_T Q K15 X15 I_U v1 v2 (0 : Int32)
def wp_U_readNumber_L15 (I_T : (Nat → Int32)) (A_T : (Nat → Nat → Int32)) (Q : Int32 → (Nat → Int32) → Prop) (X15 : (Nat → Int32) → Prop) : Nat → (Nat → Int32) → Int32 → Prop
  | 0 => fun _ _ => False
  | n15 + 1 => fun I_U v1 => (((4 : Int32) < v1) → X15 I_U) ∧ ((¬ (4 : Int32) < v1) → wp_U_peek I_U I_T A_T (fun r_1 => ((r_1 < (48 : Int32)) → wp_U_readNumber_b37 I_T A_T Q I_U v1) ∧ ((¬ r_1 < (48 : Int32)) → ((r_1 ≤ (57 : Int32)) → ((v1 ≤ 0) → wp_U_readNumber_b74 I_T A_T Q (wp_U_readNumber_L15 I_T A_T Q X15 n15) X15 I_U v1 r_1) ∧ ((¬ v1 ≤ 0) → (((I_U 2) = 0) → wp_U_readNumber_b76 I_T A_T Q (wp_U_readNumber_L15 I_T A_T Q X15 n15) X15 I_U v1 r_1 (1 : Int32)) ∧ ((¬ (I_U 2) = 0) → wp_U_readNumber_b74 I_T A_T Q (wp_U_readNumber_L15 I_T A_T Q X15 n15) X15 I_U v1 r_1))) ∧ ((¬ r_1 ≤ (57 : Int32)) → wp_U_readNumber_b37 I_T A_T Q I_U v1))))
def wp_U_readNumber (I_U : (Nat → Int32)) (I_T : (Nat → Int32)) (A_T : (Nat → Nat → Int32)) (Q : Int32 → (Nat → Int32) → Prop) : Prop := ∃ m15, wp_U_readNumber_L15 I_T A_T Q (fun I_U_14 => Q (1 : Int32) I_U_14) m15 (va_up (va_up I_U 1 (I_U 0)) 2 (0 : Int32)) (0 : Int32)
def wp_U_readSevens_L15 (I_T : (Nat → Int32)) (A_T : (Nat → Nat → Int32)) (Q : Int32 → (Nat → Int32) → Prop) (X15 : (Nat → Int32) → Prop) : Nat → (Nat → Int32) → Int32 → Prop
  | 0 => fun _ _ => False
  | n15 + 1 => fun I_U v1 => (((3 : Int32) ≤ v1) → X15 I_U) ∧ ((¬ (3 : Int32) ≤ v1) → wp_U_peek I_U I_T A_T (fun r_1 => ((r_1 = (-1 : Int32)) → wp_U_fail I_U (1 : Int32) (I_U 0) (fun r_3 I_U_5 => (narrow .boolean (.int r_3) = .int r_3) ∧ (Q r_3 I_U_5))) ∧ ((¬ r_1 = (-1 : Int32)) → (((128 : Int32) ≤ r_1) → (wp_U_readSevens_L15 I_T A_T Q X15 n15) (va_up (va_up I_U 0 ((I_U 0) + (1 : Int32))) 2 ((I_U 2) ||| ((r_1 &&& (127 : Int32)) <<< (((7 : Int32) * v1) &&& 31)))) (v1 + (1 : Int32))) ∧ ((¬ (128 : Int32) ≤ r_1) → Q (1 : Int32) (va_up (va_up I_U 0 ((I_U 0) + (1 : Int32))) 2 ((I_U 2) ||| ((r_1 &&& (127 : Int32)) <<< (((7 : Int32) * v1) &&& 31))))))))
def wp_U_readSevens (I_U : (Nat → Int32)) (I_T : (Nat → Int32)) (A_T : (Nat → Nat → Int32)) (Q : Int32 → (Nat → Int32) → Prop) : Prop := ∃ m15, wp_U_readSevens_L15 I_T A_T Q (fun I_U_7 => wp_U_fail I_U_7 (1 : Int32) (I_U_7 0) (fun r_8 I_U_10 => (narrow .boolean (.int r_8) = .int r_8) ∧ (Q r_8 I_U_10))) m15 (va_up (va_up I_U 1 (I_U 0)) 2 (0 : Int32)) (0 : Int32)
end
section
set_option maxHeartbeats 4000000 in
set_option maxRecDepth 100000 in
theorem c_U_restart (l : Launch) (D : va_G) (cA : Nat → ClassId) (sx : Nat → Nat) (a_U a_T : Nat → Nat) (I_U : (Nat → Int32)) (I_T : (Nat → Int32)) (A_T : (Nat → Nat → Int32)) (Q : (Nat → Int32) → Prop) (hw : wp_U_restart I_U Q) : MetV l y_U_restart (Cond.code y_U_restart b_U_restart 1 none :: TB) ({ frames := 0, cells := 0, slots := 0, locals := 0 } : Room) D vwCl (tyl cA) (SPl sx) [.ref (a_U 0)] (kc_U cA a_U a_T I_U ++ kc_T cA a_T I_T A_T) (fun (u : (Nat → Int32)) => Q u) (fun u : (Nat → Int32) => kc_U cA a_U a_T u ++ kc_T cA a_T I_T A_T) := by
  refine vv_entryV (cc := b_U_restart) (own := R_U) (L := [(0, .ref (a_U 0))]) (by decide) rfl rfl (Nat.le_of_ble_eq_true rfl) rfl (fun p e s m args below meth c A hC => ?_)
  unfold wp_U_restart at hw
  refine vv_aload_n hC d_U_restart_0 0 rfl rfl ?_
  refine vv_iconst hC d_U_restart_1 (v := (0 : Int32)) (by decide) ?_
  refine vv_put hC hin_U ty_U tyok_U nmok_U 0 1 tb_81 d_U_restart_2 rfl rfl (by decide) rfl rfl rfl rfl rfl (Nat.le_of_ble_eq_true rfl) (ws2 := kc_U cA a_U a_T (va_up I_U 0 (0 : Int32)) ++ kc_T cA a_T I_T A_T) (st_UT_UI0 ..) ?_
  refine vv_aload_n hC d_U_restart_5 0 rfl rfl ?_
  refine vv_iconst hC d_U_restart_6 (v := (0 : Int32)) (by decide) ?_
  refine vv_put hC hin_U ty_U tyok_U nmok_U 0 4 tb_87 d_U_restart_7 rfl rfl (by decide) rfl rfl rfl rfl rfl (Nat.le_of_ble_eq_true rfl) (ws2 := kc_U cA a_U a_T (va_up (va_up I_U 0 (0 : Int32)) 3 (0 : Int32)) ++ kc_T cA a_T I_T A_T) (st_UT_UI3 ..) ?_
  refine vv_aload_n hC d_U_restart_10 0 rfl rfl ?_
  refine vv_iconst hC d_U_restart_11 (v := (-1 : Int32)) (by decide) ?_
  refine vv_put hC hin_U ty_U tyok_U nmok_U 0 5 tb_89 d_U_restart_12 rfl rfl (by decide) rfl rfl rfl rfl rfl (Nat.le_of_ble_eq_true rfl) (ws2 := kc_U cA a_U a_T (va_up (va_up (va_up I_U 0 (0 : Int32)) 3 (0 : Int32)) 4 (-1 : Int32)) ++ kc_T cA a_T I_T A_T) (st_UT_UI4 ..) ?_
  exact vv_vret hC d_U_restart_15 (va_up (va_up (va_up I_U 0 (0 : Int32)) 3 (0 : Int32)) 4 (-1 : Int32)) hw rfl
set_option maxHeartbeats 4000000 in
set_option maxRecDepth 100000 in
theorem c_U_fail (l : Launch) (D : va_G) (cA : Nat → ClassId) (sx : Nat → Nat) (a_U a_T : Nat → Nat) (I_U : (Nat → Int32)) (I_T : (Nat → Int32)) (A_T : (Nat → Nat → Int32)) (x1 x2 : Int32) (Q : Int32 → (Nat → Int32) → Prop) (hw : wp_U_fail I_U x1 x2 Q) : MetI l y_U_fail (Cond.code y_U_fail b_U_fail 3 (some .boolean) :: TB) ({ frames := 0, cells := 0, slots := 0, locals := 0 } : Room) D vwCl (tyl cA) (SPl sx) [.ref (a_U 0), .int x1, .int x2] (kc_U cA a_U a_T I_U ++ kc_T cA a_T I_T A_T) (fun (r : Int32) (u : (Nat → Int32)) => Q r u) (fun u : (Nat → Int32) => kc_U cA a_U a_T u ++ kc_T cA a_T I_T A_T) := by
  refine vv_entryI (cc := b_U_fail) (own := R_U) (L := [(0, .ref (a_U 0)), (1, .int x1), (2, .int x2)]) (by decide) rfl rfl (Nat.le_of_ble_eq_true rfl) rfl (fun p e s m args below meth c A hC => ?_)
  unfold wp_U_fail at hw
  refine vv_aload_n hC d_U_fail_0 0 rfl rfl ?_
  refine vv_iload_n hC d_U_fail_1 1 rfl rfl ?_
  refine vv_put hC hin_U ty_U tyok_U nmok_U 0 4 tb_87 d_U_fail_2 rfl rfl (by decide) rfl rfl rfl rfl rfl (Nat.le_of_ble_eq_true rfl) (ws2 := kc_U cA a_U a_T (va_up I_U 3 x1) ++ kc_T cA a_T I_T A_T) (st_UT_UI3 ..) ?_
  refine vv_aload_n hC d_U_fail_5 0 rfl rfl ?_
  refine vv_iload_n hC d_U_fail_6 2 rfl rfl ?_
  refine vv_put hC hin_U ty_U tyok_U nmok_U 0 5 tb_89 d_U_fail_7 rfl rfl (by decide) rfl rfl rfl rfl rfl (Nat.le_of_ble_eq_true rfl) (ws2 := kc_U cA a_U a_T (va_up (va_up I_U 3 x1) 4 x2) ++ kc_T cA a_T I_T A_T) (st_UT_UI4 ..) ?_
  refine vv_iconst hC d_U_fail_10 (v := (0 : Int32)) (by decide) ?_
  exact vv_zret hC d_U_fail_11 rfl (va_up (va_up I_U 3 x1) 4 x2) hw rfl
set_option maxHeartbeats 4000000 in
set_option maxRecDepth 100000 in
theorem c_U_peek (l : Launch) (D : va_G) (cA : Nat → ClassId) (sx : Nat → Nat) (a_U a_T : Nat → Nat) (I_U : (Nat → Int32)) (I_T : (Nat → Int32)) (A_T : (Nat → Nat → Int32)) (Q : Int32 → Prop) (hw : wp_U_peek I_U I_T A_T Q) : MetI l y_U_peek (Cond.code y_U_peek b_U_peek 1 (some .int) :: TB) ({ frames := 0, cells := 0, slots := 0, locals := 0 } : Room) D vwCl (tyl cA) (SPl sx) [.ref (a_U 0)] (kc_U cA a_U a_T I_U ++ kc_T cA a_T I_T A_T) (fun (r : Int32) (u : Unit) => Q r) (fun u : Unit => kc_U cA a_U a_T I_U ++ kc_T cA a_T I_T A_T) := by
  refine vv_entryI (cc := b_U_peek) (own := R_U) (L := [(0, .ref (a_U 0))]) (by decide) rfl rfl (Nat.le_of_ble_eq_true rfl) rfl (fun p e s m args below meth c A hC => ?_)
  unfold wp_U_peek at hw
  refine vv_aload_n hC d_U_peek_0 0 rfl rfl ?_
  refine vv_get hC (v := .int (I_U 0)) hin_U 0 1 tb_81 d_U_peek_1 rfl rfl (by decide) rfl rfl ?_
  refine vv_if_lt hC 21 d_U_peek_4 (by decide) (fun cd => ?_) (fun cd => ?_)
  · have hw := hw.1 cd
    refine vv_iconst hC d_U_peek_21 (v := (-1 : Int32)) (by decide) ?_
    refine vv_goto hC 37 d_U_peek_22 (by decide) ?_
    exact vv_iret hC d_U_peek_37 () hw rfl
  · have hw := hw.2 cd
    refine vv_aload_n hC d_U_peek_7 0 rfl rfl ?_
    refine vv_get hC (v := .int (I_U 0)) hin_U 0 1 tb_81 d_U_peek_8 rfl rfl (by decide) rfl rfl ?_
    refine vv_aload_n hC d_U_peek_11 0 rfl rfl ?_
    refine vv_get hC (v := .ref (a_T 0)) hin_U 0 0 tb_80 d_U_peek_12 rfl rfl (by decide) rfl rfl ?_
    refine vv_getN hC (v := .int (I_T 0)) hin_T 1 2 nw_36 d_U_peek_15 rfl rfl (by decide) rfl rfl ?_
    refine vv_icmp_lt hC 25 d_U_peek_18 (by decide) (fun cd => ?_) (fun cd => ?_)
    · have hw := hw.1 cd
      refine vv_aload_n hC d_U_peek_25 0 rfl rfl ?_
      refine vv_get hC (v := .ref (a_T 0)) hin_U 0 0 tb_80 d_U_peek_26 rfl rfl (by decide) rfl rfl ?_
      refine vv_getN hC (v := .ref (a_T 2)) hin_T 1 1 nw_34 d_U_peek_29 rfl rfl (by decide) rfl rfl ?_
      refine vv_aload_n hC d_U_peek_32 0 rfl rfl ?_
      refine vv_get hC (v := .int (I_U 0)) hin_U 0 1 tb_81 d_U_peek_33 rfl rfl (by decide) rfl rfl ?_
      obtain ⟨hin_1, hw⟩ := hw
      refine vv_iald hC 3 0 d_U_peek_36 rfl rfl hin_1 ?_
      exact vv_iret hC d_U_peek_37 () hw rfl
    · have hw := hw.2 cd
      refine vv_iconst hC d_U_peek_21 (v := (-1 : Int32)) (by decide) ?_
      refine vv_goto hC 37 d_U_peek_22 (by decide) ?_
      exact vv_iret hC d_U_peek_37 () hw rfl
set_option maxHeartbeats 4000000 in
set_option maxRecDepth 100000 in
theorem c_U_expect (l : Launch) (D : va_G) (cA : Nat → ClassId) (sx : Nat → Nat) (a_U a_T : Nat → Nat) (I_U : (Nat → Int32)) (I_T : (Nat → Int32)) (A_T : (Nat → Nat → Int32)) (x1 : Int32) (Q : Int32 → (Nat → Int32) → Prop) (hw : wp_U_expect I_U I_T A_T x1 Q) : MetI l y_U_expect (Cond.code y_U_expect b_U_expect 2 (some .boolean) :: TB) ({ frames := 1, cells := 0, slots := 0, locals := 22 } : Room) D vwCl (tyl cA) (SPl sx) [.ref (a_U 0), .int x1] (kc_U cA a_U a_T I_U ++ kc_T cA a_T I_T A_T) (fun (r : Int32) (u : (Nat → Int32)) => Q r u) (fun u : (Nat → Int32) => kc_U cA a_U a_T u ++ kc_T cA a_T I_T A_T) := by
  refine vv_entryI (cc := b_U_expect) (own := R_U) (L := [(0, .ref (a_U 0)), (1, .int x1)]) (by decide) rfl rfl (Nat.le_of_ble_eq_true rfl) rfl (fun p e s m args below meth c A hC => ?_)
  unfold wp_U_expect at hw
  refine vv_aload_n hC d_U_expect_0 0 rfl rfl ?_
  refine vv_callVI (wr := []) hC (c_U_peek l D cA sx a_U a_T I_U I_T A_T _ hw) (cw_U_40 hC) d_U_expect_1 [] [0, 1, 2, 3] [] [0, 1, 2, 3] (fun u_2 : Unit => kc_U cA a_U a_T I_U ++ kc_T cA a_T I_T A_T) ⟨Nat.zero_le _, Nat.zero_le _⟩ rfl rfl (fun _ => rfl) rfl rfl rfl rfl rfl rfl rfl rfl (Nat.le_of_ble_eq_true rfl) (fun r_1 u_2 hw => ?_)
  refine vv_iload_n hC d_U_expect_4 1 rfl rfl ?_
  refine vv_icmp_eq hC 18 d_U_expect_5 (by decide) (fun cd => ?_) (fun cd => ?_)
  · have hw := hw.1 cd
    refine vv_aload_n hC d_U_expect_18 0 rfl rfl ?_
    refine vv_dup hC d_U_expect_19 rfl ?_
    refine vv_get hC (v := .int (I_U 0)) hin_U 0 1 tb_81 d_U_expect_20 rfl rfl (by decide) rfl rfl ?_
    refine vv_iconst hC d_U_expect_23 (v := (1 : Int32)) (by decide) ?_
    refine vv_iadd hC d_U_expect_24 ?_
    refine vv_put hC hin_U ty_U tyok_U nmok_U 0 1 tb_81 d_U_expect_25 rfl rfl (by decide) rfl rfl rfl rfl rfl (Nat.le_of_ble_eq_true rfl) (ws2 := kc_U cA a_U a_T (va_up I_U 0 ((I_U 0) + (1 : Int32))) ++ kc_T cA a_T I_T A_T) (st_UT_UI0 ..) ?_
    refine vv_iconst hC d_U_expect_28 (v := (1 : Int32)) (by decide) ?_
    exact vv_zret hC d_U_expect_29 rfl (va_up I_U 0 ((I_U 0) + (1 : Int32))) hw rfl
  · have hw := hw.2 cd
    refine vv_aload_n hC d_U_expect_8 0 rfl rfl ?_
    refine vv_iconst hC d_U_expect_9 (v := (1 : Int32)) (by decide) ?_
    refine vv_aload_n hC d_U_expect_10 0 rfl rfl ?_
    refine vv_get hC (v := .int (I_U 0)) hin_U 0 1 tb_81 d_U_expect_11 rfl rfl (by decide) rfl rfl ?_
    refine vv_callVI (wr := []) hC (c_U_fail l D cA sx a_U a_T I_U I_T A_T (1 : Int32) (I_U 0) _ hw) (cw_U_44 hC) d_U_expect_14 [] [0, 1, 2, 3] [] [0, 1, 2, 3] (fun u_4 : (Nat → Int32) => kc_U cA a_U a_T u_4 ++ kc_T cA a_T I_T A_T) ⟨Nat.zero_le _, Nat.zero_le _⟩ rfl rfl (fun _ => rfl) rfl rfl rfl rfl rfl rfl rfl rfl (Nat.le_of_ble_eq_true rfl) (fun r_3 u_4 hw => ?_)
    obtain ⟨hnr_6, hw⟩ := hw
    exact vv_zret hC d_U_expect_17 hnr_6 u_4 hw rfl
set_option maxHeartbeats 4000000 in
set_option maxRecDepth 100000 in
theorem l_U_readNumber_b37 {p : Program} {l : Launch} {e : Env} {s : State} {m : MethodId} {args : Array Value} {below : List Frame} {meth : Method} {c : Code} {D : va_G} {cA : Nat → ClassId} {sx : Nat → Nat} {A : Nat → Prop} (a_U a_T : Nat → Nat) (I_T : (Nat → Int32)) (A_T : (Nat → Nat → Int32)) (Q : Int32 → (Nat → Int32) → Prop) (hC : CX p s m args meth c b_U_readNumber R_U TB 4 D vwCl (tyl cA) A (SPl sx) (some .boolean)) : ∀ (I_U : (Nat → Int32)) (v1 : Int32), wp_U_readNumber_b37 I_T A_T Q I_U v1 → VV p l e ({ frames := 1, cells := 0, slots := 0, locals := 22 } : Room) s m args below meth c 4 D vwCl A 0 0 (QI below args s D vwCl (tyl cA) A (fun (r : Int32) (u : (Nat → Int32)) => Q r u) (fun u : (Nat → Int32) => kc_U cA a_U a_T u ++ kc_T cA a_T I_T A_T)) (kc_U cA a_U a_T I_U ++ kc_T cA a_T I_T A_T) 37 [(0, .ref (a_U 0)), (1, .int v1)] [] := by
  intro I_U v1 hw
  unfold wp_U_readNumber_b37 at hw
  refine vv_iload_n hC d_U_readNumber_37 1 rfl rfl ?_
  refine vv_if_gt hC 53 d_U_readNumber_38 (by decide) (fun cd => ?_) (fun cd => ?_)
  · have hw := hw.1 cd
    refine vv_iconst hC d_U_readNumber_53 (v := (1 : Int32)) (by decide) ?_
    refine vv_goto hC 58 d_U_readNumber_54 (by decide) ?_
    exact vv_zret hC d_U_readNumber_58 rfl I_U hw rfl
  · have hw := hw.2 cd
    refine vv_aload_n hC d_U_readNumber_41 0 rfl rfl ?_
    refine vv_iconst hC d_U_readNumber_42 (v := (1 : Int32)) (by decide) ?_
    refine vv_aload_n hC d_U_readNumber_43 0 rfl rfl ?_
    refine vv_get hC (v := .int (I_U 0)) hin_U 0 1 tb_81 d_U_readNumber_44 rfl rfl (by decide) rfl rfl ?_
    refine vv_callVI (wr := []) hC (c_U_fail l D cA sx a_U a_T I_U I_T A_T (1 : Int32) (I_U 0) _ hw) (cw_U_44 hC) d_U_readNumber_47 [] [0, 1, 2, 3] [] [0, 1, 2, 3] (fun u_4 : (Nat → Int32) => kc_U cA a_U a_T u_4 ++ kc_T cA a_T I_T A_T) ⟨Nat.zero_le _, Nat.zero_le _⟩ rfl rfl (fun _ => rfl) rfl rfl rfl rfl rfl rfl rfl rfl (Nat.le_of_ble_eq_true rfl) (fun r_3 u_4 hw => ?_)
    refine vv_if_eq hC 57 d_U_readNumber_50 (by decide) (fun cd => ?_) (fun cd => ?_)
    · have hw := hw.1 cd
      refine vv_iconst hC d_U_readNumber_57 (v := (0 : Int32)) (by decide) ?_
      exact vv_zret hC d_U_readNumber_58 rfl u_4 hw rfl
    · have hw := hw.2 cd
      refine vv_iconst hC d_U_readNumber_53 (v := (1 : Int32)) (by decide) ?_
      refine vv_goto hC 58 d_U_readNumber_54 (by decide) ?_
      exact vv_zret hC d_U_readNumber_58 rfl u_4 hw rfl
set_option maxHeartbeats 4000000 in
set_option maxRecDepth 100000 in
theorem l_U_readNumber_b76 {p : Program} {l : Launch} {e : Env} {s : State} {m : MethodId} {args : Array Value} {below : List Frame} {meth : Method} {c : Code} {D : va_G} {cA : Nat → ClassId} {sx : Nat → Nat} {A : Nat → Prop} (a_U a_T : Nat → Nat) (I_T : (Nat → Int32)) (A_T : (Nat → Nat → Int32)) (Q : Int32 → (Nat → Int32) → Prop) (K15 : (Nat → Int32) → Int32 → Prop) (X15 : (Nat → Int32) → Prop) (hC : CX p s m args meth c b_U_readNumber R_U TB 4 D vwCl (tyl cA) A (SPl sx) (some .boolean)) (hK15 : ∀ (I_U : (Nat → Int32)) (v1 : Int32), K15 I_U v1 → VV p l e ({ frames := 1, cells := 0, slots := 0, locals := 22 } : Room) s m args below meth c 4 D vwCl A 0 0 (QI below args s D vwCl (tyl cA) A (fun (r : Int32) (u : (Nat → Int32)) => Q r u) (fun u : (Nat → Int32) => kc_U cA a_U a_T u ++ kc_T cA a_T I_T A_T)) (kc_U cA a_U a_T I_U ++ kc_T cA a_T I_T A_T) 15 [(0, .ref (a_U 0)), (1, .int v1)] []) (hX15 : ∀ (I_U : (Nat → Int32)), X15 I_U → VV p l e ({ frames := 1, cells := 0, slots := 0, locals := 22 } : Room) s m args below meth c 4 D vwCl A 0 0 (QI below args s D vwCl (tyl cA) A (fun (r : Int32) (u : (Nat → Int32)) => Q r u) (fun u : (Nat → Int32) => kc_U cA a_U a_T u ++ kc_T cA a_T I_T A_T)) (kc_U cA a_U a_T I_U ++ kc_T cA a_T I_T A_T) 127 [] []) : ∀ (I_U : (Nat → Int32)) (v1 : Int32) (v2 : Int32) (v3 : Int32), wp_U_readNumber_b76 I_T A_T Q K15 X15 I_U v1 v2 v3 → VV p l e ({ frames := 1, cells := 0, slots := 0, locals := 22 } : Room) s m args below meth c 4 D vwCl A 0 0 (QI below args s D vwCl (tyl cA) A (fun (r : Int32) (u : (Nat → Int32)) => Q r u) (fun u : (Nat → Int32) => kc_U cA a_U a_T u ++ kc_T cA a_T I_T A_T)) (kc_U cA a_U a_T I_U ++ kc_T cA a_T I_T A_T) 76 [(0, .ref (a_U 0)), (1, .int v1), (2, .int v2), (3, .int v3)] [] := by
  intro I_U v1 v2 v3 hw
  unfold wp_U_readNumber_b76 at hw
  refine vv_iload_n hC d_U_readNumber_76 3 rfl rfl ?_
  refine vv_if_ne hC 85 d_U_readNumber_77 (by decide) (fun cd => ?_) (fun cd => ?_)
  · have hw := hw.2 cd
    refine vv_aload_n hC d_U_readNumber_85 0 rfl rfl ?_
    refine vv_iconst hC d_U_readNumber_86 (v := (1 : Int32)) (by decide) ?_
    refine vv_aload_n hC d_U_readNumber_87 0 rfl rfl ?_
    refine vv_get hC (v := .int (I_U 0)) hin_U 0 1 tb_81 d_U_readNumber_88 rfl rfl (by decide) rfl rfl ?_
    refine vv_callVI (wr := []) hC (c_U_fail l D cA sx a_U a_T I_U I_T A_T (1 : Int32) (I_U 0) _ hw) (cw_U_44 hC) d_U_readNumber_91 [] [0, 1, 2, 3] [] [0, 1, 2, 3] (fun u_7 : (Nat → Int32) => kc_U cA a_U a_T u_7 ++ kc_T cA a_T I_T A_T) ⟨Nat.zero_le _, Nat.zero_le _⟩ rfl rfl (fun _ => rfl) rfl rfl rfl rfl rfl rfl rfl rfl (Nat.le_of_ble_eq_true rfl) (fun r_6 u_7 hw => ?_)
    obtain ⟨hnr_9, hw⟩ := hw
    exact vv_zret hC d_U_readNumber_94 hnr_9 u_7 hw rfl
  · have hw := hw.1 cd
    refine vv_iload_n hC d_U_readNumber_80 1 rfl rfl ?_
    refine vv_iconst hC d_U_readNumber_81 (v := (4 : Int32)) (by decide) ?_
    refine vv_icmp_ne hC 95 d_U_readNumber_82 (by decide) (fun cd => ?_) (fun cd => ?_)
    · have hw := hw.2 cd
      refine vv_aload_n hC d_U_readNumber_95 0 rfl rfl ?_
      refine vv_bipush hC d_U_readNumber_96 (v := (10 : Int32)) (by decide) ?_
      refine vv_aload_n hC d_U_readNumber_98 0 rfl rfl ?_
      refine vv_get hC (v := .int (I_U 2)) hin_U 0 3 tb_85 d_U_readNumber_99 rfl rfl (by decide) rfl rfl ?_
      refine vv_imul hC d_U_readNumber_102 ?_
      refine vv_iload_n hC d_U_readNumber_103 2 rfl rfl ?_
      refine vv_iadd hC d_U_readNumber_104 ?_
      refine vv_bipush hC d_U_readNumber_105 (v := (48 : Int32)) (by decide) ?_
      refine vv_isub hC d_U_readNumber_107 ?_
      refine vv_put hC hin_U ty_U tyok_U nmok_U 0 3 tb_85 d_U_readNumber_108 rfl rfl (by decide) rfl rfl rfl rfl rfl (Nat.le_of_ble_eq_true rfl) (ws2 := kc_U cA a_U a_T (va_up I_U 2 ((((10 : Int32) * (I_U 2)) + v2) - (48 : Int32))) ++ kc_T cA a_T I_T A_T) (st_UT_UI2 ..) ?_
      refine vv_aload_n hC d_U_readNumber_111 0 rfl rfl ?_
      refine vv_dup hC d_U_readNumber_112 rfl ?_
      refine vv_get hC (v := .int (I_U 0)) hin_U 0 1 tb_81 d_U_readNumber_113 rfl rfl (by decide) rfl rfl ?_
      refine vv_iconst hC d_U_readNumber_116 (v := (1 : Int32)) (by decide) ?_
      refine vv_iadd hC d_U_readNumber_117 ?_
      refine vv_put hC hin_U ty_U tyok_U nmok_U 0 1 tb_81 d_U_readNumber_118 rfl rfl (by decide) rfl rfl rfl rfl rfl (Nat.le_of_ble_eq_true rfl) (ws2 := kc_U cA a_U a_T (va_up (va_up I_U 2 ((((10 : Int32) * (I_U 2)) + v2) - (48 : Int32))) 0 ((I_U 0) + (1 : Int32))) ++ kc_T cA a_T I_T A_T) (st_UT_UI0 ..) ?_
      refine vv_iinc hC d_U_readNumber_121 1 rfl (v := (v1 + (1 : Int32))) rfl (by decide) [1, 0, 2, 3] (L2 := [(0, .ref (a_U 0)), (1, .int (v1 + (1 : Int32))), (2, .int v2), (3, .int v3)]) rfl ?_
      refine vv_goto hC 15 d_U_readNumber_124 (by decide) ?_
      exact vv_sub [0, 1] (by rfl) (hK15 (va_up (va_up I_U 2 ((((10 : Int32) * (I_U 2)) + v2) - (48 : Int32))) 0 ((I_U 0) + (1 : Int32))) (v1 + (1 : Int32)) hw)
    · have hw := hw.1 cd
      refine vv_aload_n hC d_U_readNumber_85 0 rfl rfl ?_
      refine vv_iconst hC d_U_readNumber_86 (v := (1 : Int32)) (by decide) ?_
      refine vv_aload_n hC d_U_readNumber_87 0 rfl rfl ?_
      refine vv_get hC (v := .int (I_U 0)) hin_U 0 1 tb_81 d_U_readNumber_88 rfl rfl (by decide) rfl rfl ?_
      refine vv_callVI (wr := []) hC (c_U_fail l D cA sx a_U a_T I_U I_T A_T (1 : Int32) (I_U 0) _ hw) (cw_U_44 hC) d_U_readNumber_91 [] [0, 1, 2, 3] [] [0, 1, 2, 3] (fun u_11 : (Nat → Int32) => kc_U cA a_U a_T u_11 ++ kc_T cA a_T I_T A_T) ⟨Nat.zero_le _, Nat.zero_le _⟩ rfl rfl (fun _ => rfl) rfl rfl rfl rfl rfl rfl rfl rfl (Nat.le_of_ble_eq_true rfl) (fun r_10 u_11 hw => ?_)
      obtain ⟨hnr_13, hw⟩ := hw
      exact vv_zret hC d_U_readNumber_94 hnr_13 u_11 hw rfl
set_option maxHeartbeats 4000000 in
set_option maxRecDepth 100000 in
theorem l_U_readNumber_b74 {p : Program} {l : Launch} {e : Env} {s : State} {m : MethodId} {args : Array Value} {below : List Frame} {meth : Method} {c : Code} {D : va_G} {cA : Nat → ClassId} {sx : Nat → Nat} {A : Nat → Prop} (a_U a_T : Nat → Nat) (I_T : (Nat → Int32)) (A_T : (Nat → Nat → Int32)) (Q : Int32 → (Nat → Int32) → Prop) (K15 : (Nat → Int32) → Int32 → Prop) (X15 : (Nat → Int32) → Prop) (hC : CX p s m args meth c b_U_readNumber R_U TB 4 D vwCl (tyl cA) A (SPl sx) (some .boolean)) (hK15 : ∀ (I_U : (Nat → Int32)) (v1 : Int32), K15 I_U v1 → VV p l e ({ frames := 1, cells := 0, slots := 0, locals := 22 } : Room) s m args below meth c 4 D vwCl A 0 0 (QI below args s D vwCl (tyl cA) A (fun (r : Int32) (u : (Nat → Int32)) => Q r u) (fun u : (Nat → Int32) => kc_U cA a_U a_T u ++ kc_T cA a_T I_T A_T)) (kc_U cA a_U a_T I_U ++ kc_T cA a_T I_T A_T) 15 [(0, .ref (a_U 0)), (1, .int v1)] []) (hX15 : ∀ (I_U : (Nat → Int32)), X15 I_U → VV p l e ({ frames := 1, cells := 0, slots := 0, locals := 22 } : Room) s m args below meth c 4 D vwCl A 0 0 (QI below args s D vwCl (tyl cA) A (fun (r : Int32) (u : (Nat → Int32)) => Q r u) (fun u : (Nat → Int32) => kc_U cA a_U a_T u ++ kc_T cA a_T I_T A_T)) (kc_U cA a_U a_T I_U ++ kc_T cA a_T I_T A_T) 127 [] []) : ∀ (I_U : (Nat → Int32)) (v1 : Int32) (v2 : Int32), wp_U_readNumber_b74 I_T A_T Q K15 X15 I_U v1 v2 → VV p l e ({ frames := 1, cells := 0, slots := 0, locals := 22 } : Room) s m args below meth c 4 D vwCl A 0 0 (QI below args s D vwCl (tyl cA) A (fun (r : Int32) (u : (Nat → Int32)) => Q r u) (fun u : (Nat → Int32) => kc_U cA a_U a_T u ++ kc_T cA a_T I_T A_T)) (kc_U cA a_U a_T I_U ++ kc_T cA a_T I_T A_T) 74 [(0, .ref (a_U 0)), (1, .int v1), (2, .int v2)] [] := by
  intro I_U v1 v2 hw
  unfold wp_U_readNumber_b74 at hw
  refine vv_iconst hC d_U_readNumber_74 (v := (0 : Int32)) (by decide) ?_
  refine vv_istore_n hC d_U_readNumber_75 rfl (by decide) [1, 2, 3, 0] (L2 := [(0, .ref (a_U 0)), (1, .int v1), (2, .int v2), (3, .int (0 : Int32))]) rfl ?_
  exact vv_sub [0, 1, 2, 3] (by rfl) (l_U_readNumber_b76 a_U a_T I_T A_T Q K15 X15 hC hK15 hX15 I_U v1 v2 (0 : Int32) hw)
set_option maxHeartbeats 4000000 in
set_option maxRecDepth 100000 in
theorem l_U_readNumber_L15 {p : Program} {l : Launch} {e : Env} {s : State} {m : MethodId} {args : Array Value} {below : List Frame} {meth : Method} {c : Code} {D : va_G} {cA : Nat → ClassId} {sx : Nat → Nat} {A : Nat → Prop} (a_U a_T : Nat → Nat) (I_T : (Nat → Int32)) (A_T : (Nat → Nat → Int32)) (Q : Int32 → (Nat → Int32) → Prop) (X15 : (Nat → Int32) → Prop) (hC : CX p s m args meth c b_U_readNumber R_U TB 4 D vwCl (tyl cA) A (SPl sx) (some .boolean)) (hX15 : ∀ (I_U : (Nat → Int32)), X15 I_U → VV p l e ({ frames := 1, cells := 0, slots := 0, locals := 22 } : Room) s m args below meth c 4 D vwCl A 0 0 (QI below args s D vwCl (tyl cA) A (fun (r : Int32) (u : (Nat → Int32)) => Q r u) (fun u : (Nat → Int32) => kc_U cA a_U a_T u ++ kc_T cA a_T I_T A_T)) (kc_U cA a_U a_T I_U ++ kc_T cA a_T I_T A_T) 127 [] []) : ∀ (n15 : Nat) (I_U : (Nat → Int32)) (v1 : Int32), wp_U_readNumber_L15 I_T A_T Q X15 n15 I_U v1 → VV p l e ({ frames := 1, cells := 0, slots := 0, locals := 22 } : Room) s m args below meth c 4 D vwCl A 0 0 (QI below args s D vwCl (tyl cA) A (fun (r : Int32) (u : (Nat → Int32)) => Q r u) (fun u : (Nat → Int32) => kc_U cA a_U a_T u ++ kc_T cA a_T I_T A_T)) (kc_U cA a_U a_T I_U ++ kc_T cA a_T I_T A_T) 15 [(0, .ref (a_U 0)), (1, .int v1)] [] := by
  intro n15
  induction n15 with
  | zero =>
    intro I_U v1 hw
    exact absurd hw (fun z => z)
  | succ n15 ih =>
    intro I_U v1 hw
    unfold wp_U_readNumber_L15 at hw
    refine vv_iload_n hC d_U_readNumber_15 1 rfl rfl ?_
    refine vv_iconst hC d_U_readNumber_16 (v := (4 : Int32)) (by decide) ?_
    refine vv_icmp_gt hC 127 d_U_readNumber_17 (by decide) (fun cd => ?_) (fun cd => ?_)
    · have hw := hw.1 cd
      exact vv_sub [] (by rfl) (hX15 I_U hw)
    · have hw := hw.2 cd
      refine vv_aload_n hC d_U_readNumber_20 0 rfl rfl ?_
      refine vv_callVI (wr := []) hC (c_U_peek l D cA sx a_U a_T I_U I_T A_T _ hw) (cw_U_40 hC) d_U_readNumber_21 [] [0, 1, 2, 3] [] [0, 1, 2, 3] (fun u_2 : Unit => kc_U cA a_U a_T I_U ++ kc_T cA a_T I_T A_T) ⟨Nat.zero_le _, Nat.zero_le _⟩ rfl rfl (fun _ => rfl) rfl rfl rfl rfl rfl rfl rfl rfl (Nat.le_of_ble_eq_true rfl) (fun r_1 u_2 hw => ?_)
      refine vv_istore_n hC d_U_readNumber_24 rfl (by decide) [1, 2, 0] (L2 := [(0, .ref (a_U 0)), (1, .int v1), (2, .int r_1)]) rfl ?_
      refine vv_iload_n hC d_U_readNumber_25 2 rfl rfl ?_
      refine vv_bipush hC d_U_readNumber_26 (v := (48 : Int32)) (by decide) ?_
      refine vv_icmp_lt hC 37 d_U_readNumber_28 (by decide) (fun cd => ?_) (fun cd => ?_)
      · have hw := hw.1 cd
        exact vv_sub [0, 1] (by rfl) (l_U_readNumber_b37 a_U a_T I_T A_T Q hC I_U v1 hw)
      · have hw := hw.2 cd
        refine vv_iload_n hC d_U_readNumber_31 2 rfl rfl ?_
        refine vv_bipush hC d_U_readNumber_32 (v := (57 : Int32)) (by decide) ?_
        refine vv_icmp_le hC 59 d_U_readNumber_34 (by decide) (fun cd => ?_) (fun cd => ?_)
        · have hw := hw.1 cd
          refine vv_iload_n hC d_U_readNumber_59 1 rfl rfl ?_
          refine vv_if_le hC 74 d_U_readNumber_60 (by decide) (fun cd => ?_) (fun cd => ?_)
          · have hw := hw.1 cd
            exact vv_sub [0, 1, 2] (by rfl) (l_U_readNumber_b74 a_U a_T I_T A_T Q (wp_U_readNumber_L15 I_T A_T Q X15 n15) X15 hC ih hX15 I_U v1 r_1 hw)
          · have hw := hw.2 cd
            refine vv_aload_n hC d_U_readNumber_63 0 rfl rfl ?_
            refine vv_get hC (v := .int (I_U 2)) hin_U 0 3 tb_85 d_U_readNumber_64 rfl rfl (by decide) rfl rfl ?_
            refine vv_if_ne hC 74 d_U_readNumber_67 (by decide) (fun cd => ?_) (fun cd => ?_)
            · have hw := hw.2 cd
              exact vv_sub [0, 1, 2] (by rfl) (l_U_readNumber_b74 a_U a_T I_T A_T Q (wp_U_readNumber_L15 I_T A_T Q X15 n15) X15 hC ih hX15 I_U v1 r_1 hw)
            · have hw := hw.1 cd
              refine vv_iconst hC d_U_readNumber_70 (v := (1 : Int32)) (by decide) ?_
              refine vv_goto hC 75 d_U_readNumber_71 (by decide) ?_
              refine vv_istore_n hC d_U_readNumber_75 rfl (by decide) [1, 2, 3, 0] (L2 := [(0, .ref (a_U 0)), (1, .int v1), (2, .int r_1), (3, .int (1 : Int32))]) rfl ?_
              exact vv_sub [0, 1, 2, 3] (by rfl) (l_U_readNumber_b76 a_U a_T I_T A_T Q (wp_U_readNumber_L15 I_T A_T Q X15 n15) X15 hC ih hX15 I_U v1 r_1 (1 : Int32) hw)
        · have hw := hw.2 cd
          exact vv_sub [0, 1] (by rfl) (l_U_readNumber_b37 a_U a_T I_T A_T Q hC I_U v1 hw)
set_option maxHeartbeats 4000000 in
set_option maxRecDepth 100000 in
theorem c_U_readNumber (l : Launch) (D : va_G) (cA : Nat → ClassId) (sx : Nat → Nat) (a_U a_T : Nat → Nat) (I_U : (Nat → Int32)) (I_T : (Nat → Int32)) (A_T : (Nat → Nat → Int32)) (Q : Int32 → (Nat → Int32) → Prop) (hw : wp_U_readNumber I_U I_T A_T Q) : MetI l y_U_readNumber (Cond.code y_U_readNumber b_U_readNumber 4 (some .boolean) :: TB) ({ frames := 1, cells := 0, slots := 0, locals := 22 } : Room) D vwCl (tyl cA) (SPl sx) [.ref (a_U 0)] (kc_U cA a_U a_T I_U ++ kc_T cA a_T I_T A_T) (fun (r : Int32) (u : (Nat → Int32)) => Q r u) (fun u : (Nat → Int32) => kc_U cA a_U a_T u ++ kc_T cA a_T I_T A_T) := by
  refine vv_entryI (cc := b_U_readNumber) (own := R_U) (L := [(0, .ref (a_U 0))]) (by decide) rfl rfl (Nat.le_of_ble_eq_true rfl) rfl (fun p e s m args below meth c A hC => ?_)
  unfold wp_U_readNumber at hw
  refine vv_aload_n hC d_U_readNumber_0 0 rfl rfl ?_
  refine vv_aload_n hC d_U_readNumber_1 0 rfl rfl ?_
  refine vv_get hC (v := .int (I_U 0)) hin_U 0 1 tb_81 d_U_readNumber_2 rfl rfl (by decide) rfl rfl ?_
  refine vv_put hC hin_U ty_U tyok_U nmok_U 0 2 tb_83 d_U_readNumber_5 rfl rfl (by decide) rfl rfl rfl rfl rfl (Nat.le_of_ble_eq_true rfl) (ws2 := kc_U cA a_U a_T (va_up I_U 1 (I_U 0)) ++ kc_T cA a_T I_T A_T) (st_UT_UI1 ..) ?_
  refine vv_aload_n hC d_U_readNumber_8 0 rfl rfl ?_
  refine vv_iconst hC d_U_readNumber_9 (v := (0 : Int32)) (by decide) ?_
  refine vv_put hC hin_U ty_U tyok_U nmok_U 0 3 tb_85 d_U_readNumber_10 rfl rfl (by decide) rfl rfl rfl rfl rfl (Nat.le_of_ble_eq_true rfl) (ws2 := kc_U cA a_U a_T (va_up (va_up I_U 1 (I_U 0)) 2 (0 : Int32)) ++ kc_T cA a_T I_T A_T) (st_UT_UI2 ..) ?_
  refine vv_iconst hC d_U_readNumber_13 (v := (0 : Int32)) (by decide) ?_
  refine vv_istore_n hC d_U_readNumber_14 rfl (by decide) [1, 0] (L2 := [(0, .ref (a_U 0)), (1, .int (0 : Int32))]) rfl ?_
  obtain ⟨m15, hw⟩ := hw
  refine vv_sub [0, 1] (by rfl) (l_U_readNumber_L15 a_U a_T I_T A_T Q _ hC (fun I_U_14 hw => ?_) m15 (va_up (va_up I_U 1 (I_U 0)) 2 (0 : Int32)) (0 : Int32) hw)
  refine vv_iconst hC d_U_readNumber_127 (v := (1 : Int32)) (by decide) ?_
  exact vv_zret hC d_U_readNumber_128 rfl I_U_14 hw rfl
set_option maxHeartbeats 4000000 in
set_option maxRecDepth 100000 in
theorem l_U_readSevens_L15 {p : Program} {l : Launch} {e : Env} {s : State} {m : MethodId} {args : Array Value} {below : List Frame} {meth : Method} {c : Code} {D : va_G} {cA : Nat → ClassId} {sx : Nat → Nat} {A : Nat → Prop} (a_U a_T : Nat → Nat) (I_T : (Nat → Int32)) (A_T : (Nat → Nat → Int32)) (Q : Int32 → (Nat → Int32) → Prop) (X15 : (Nat → Int32) → Prop) (hC : CX p s m args meth c b_U_readSevens R_U TB 3 D vwCl (tyl cA) A (SPl sx) (some .boolean)) (hX15 : ∀ (I_U : (Nat → Int32)), X15 I_U → VV p l e ({ frames := 1, cells := 0, slots := 0, locals := 22 } : Room) s m args below meth c 3 D vwCl A 0 0 (QI below args s D vwCl (tyl cA) A (fun (r : Int32) (u : (Nat → Int32)) => Q r u) (fun u : (Nat → Int32) => kc_U cA a_U a_T u ++ kc_T cA a_T I_T A_T)) (kc_U cA a_U a_T I_U ++ kc_T cA a_T I_T A_T) 83 [(0, .ref (a_U 0))] []) : ∀ (n15 : Nat) (I_U : (Nat → Int32)) (v1 : Int32), wp_U_readSevens_L15 I_T A_T Q X15 n15 I_U v1 → VV p l e ({ frames := 1, cells := 0, slots := 0, locals := 22 } : Room) s m args below meth c 3 D vwCl A 0 0 (QI below args s D vwCl (tyl cA) A (fun (r : Int32) (u : (Nat → Int32)) => Q r u) (fun u : (Nat → Int32) => kc_U cA a_U a_T u ++ kc_T cA a_T I_T A_T)) (kc_U cA a_U a_T I_U ++ kc_T cA a_T I_T A_T) 15 [(0, .ref (a_U 0)), (1, .int v1)] [] := by
  intro n15
  induction n15 with
  | zero =>
    intro I_U v1 hw
    exact absurd hw (fun z => z)
  | succ n15 ih =>
    intro I_U v1 hw
    unfold wp_U_readSevens_L15 at hw
    refine vv_iload_n hC d_U_readSevens_15 1 rfl rfl ?_
    refine vv_iconst hC d_U_readSevens_16 (v := (3 : Int32)) (by decide) ?_
    refine vv_icmp_ge hC 83 d_U_readSevens_17 (by decide) (fun cd => ?_) (fun cd => ?_)
    · have hw := hw.1 cd
      exact vv_sub [0] (by rfl) (hX15 I_U hw)
    · have hw := hw.2 cd
      refine vv_aload_n hC d_U_readSevens_20 0 rfl rfl ?_
      refine vv_callVI (wr := []) hC (c_U_peek l D cA sx a_U a_T I_U I_T A_T _ hw) (cw_U_40 hC) d_U_readSevens_21 [] [0, 1, 2, 3] [] [0, 1, 2, 3] (fun u_2 : Unit => kc_U cA a_U a_T I_U ++ kc_T cA a_T I_T A_T) ⟨Nat.zero_le _, Nat.zero_le _⟩ rfl rfl (fun _ => rfl) rfl rfl rfl rfl rfl rfl rfl rfl (Nat.le_of_ble_eq_true rfl) (fun r_1 u_2 hw => ?_)
      refine vv_istore_n hC d_U_readSevens_24 rfl (by decide) [1, 2, 0] (L2 := [(0, .ref (a_U 0)), (1, .int v1), (2, .int r_1)]) rfl ?_
      refine vv_iload_n hC d_U_readSevens_25 2 rfl rfl ?_
      refine vv_iconst hC d_U_readSevens_26 (v := (-1 : Int32)) (by decide) ?_
      refine vv_icmp_ne hC 40 d_U_readSevens_27 (by decide) (fun cd => ?_) (fun cd => ?_)
      · have hw := hw.2 cd
        refine vv_aload_n hC d_U_readSevens_40 0 rfl rfl ?_
        refine vv_dup hC d_U_readSevens_41 rfl ?_
        refine vv_get hC (v := .int (I_U 0)) hin_U 0 1 tb_81 d_U_readSevens_42 rfl rfl (by decide) rfl rfl ?_
        refine vv_iconst hC d_U_readSevens_45 (v := (1 : Int32)) (by decide) ?_
        refine vv_iadd hC d_U_readSevens_46 ?_
        refine vv_put hC hin_U ty_U tyok_U nmok_U 0 1 tb_81 d_U_readSevens_47 rfl rfl (by decide) rfl rfl rfl rfl rfl (Nat.le_of_ble_eq_true rfl) (ws2 := kc_U cA a_U a_T (va_up I_U 0 ((I_U 0) + (1 : Int32))) ++ kc_T cA a_T I_T A_T) (st_UT_UI0 ..) ?_
        refine vv_aload_n hC d_U_readSevens_50 0 rfl rfl ?_
        refine vv_dup hC d_U_readSevens_51 rfl ?_
        refine vv_get hC (v := .int (I_U 2)) hin_U 0 3 tb_85 d_U_readSevens_52 rfl rfl (by decide) rfl rfl ?_
        refine vv_iload_n hC d_U_readSevens_55 2 rfl rfl ?_
        refine vv_bipush hC d_U_readSevens_56 (v := (127 : Int32)) (by decide) ?_
        refine vv_iand hC d_U_readSevens_58 ?_
        refine vv_bipush hC d_U_readSevens_59 (v := (7 : Int32)) (by decide) ?_
        refine vv_iload_n hC d_U_readSevens_61 1 rfl rfl ?_
        refine vv_imul hC d_U_readSevens_62 ?_
        refine vv_ishl hC d_U_readSevens_63 ?_
        refine vv_ior hC d_U_readSevens_64 ?_
        refine vv_put hC hin_U ty_U tyok_U nmok_U 0 3 tb_85 d_U_readSevens_65 rfl rfl (by decide) rfl rfl rfl rfl rfl (Nat.le_of_ble_eq_true rfl) (ws2 := kc_U cA a_U a_T (va_up (va_up I_U 0 ((I_U 0) + (1 : Int32))) 2 ((I_U 2) ||| ((r_1 &&& (127 : Int32)) <<< (((7 : Int32) * v1) &&& 31)))) ++ kc_T cA a_T I_T A_T) (st_UT_UI2 ..) ?_
        refine vv_iload_n hC d_U_readSevens_68 2 rfl rfl ?_
        refine vv_sipush hC d_U_readSevens_69 (v := (128 : Int32)) (by decide) ?_
        refine vv_icmp_ge hC 77 d_U_readSevens_72 (by decide) (fun cd => ?_) (fun cd => ?_)
        · have hw := hw.1 cd
          refine vv_iinc hC d_U_readSevens_77 1 rfl (v := (v1 + (1 : Int32))) rfl (by decide) [1, 0, 2] (L2 := [(0, .ref (a_U 0)), (1, .int (v1 + (1 : Int32))), (2, .int r_1)]) rfl ?_
          refine vv_goto hC 15 d_U_readSevens_80 (by decide) ?_
          exact vv_sub [0, 1] (by rfl) (ih (va_up (va_up I_U 0 ((I_U 0) + (1 : Int32))) 2 ((I_U 2) ||| ((r_1 &&& (127 : Int32)) <<< (((7 : Int32) * v1) &&& 31)))) (v1 + (1 : Int32)) hw)
        · have hw := hw.2 cd
          refine vv_iconst hC d_U_readSevens_75 (v := (1 : Int32)) (by decide) ?_
          exact vv_zret hC d_U_readSevens_76 rfl (va_up (va_up I_U 0 ((I_U 0) + (1 : Int32))) 2 ((I_U 2) ||| ((r_1 &&& (127 : Int32)) <<< (((7 : Int32) * v1) &&& 31)))) hw rfl
      · have hw := hw.1 cd
        refine vv_aload_n hC d_U_readSevens_30 0 rfl rfl ?_
        refine vv_iconst hC d_U_readSevens_31 (v := (1 : Int32)) (by decide) ?_
        refine vv_aload_n hC d_U_readSevens_32 0 rfl rfl ?_
        refine vv_get hC (v := .int (I_U 0)) hin_U 0 1 tb_81 d_U_readSevens_33 rfl rfl (by decide) rfl rfl ?_
        refine vv_callVI (wr := []) hC (c_U_fail l D cA sx a_U a_T I_U I_T A_T (1 : Int32) (I_U 0) _ hw) (cw_U_44 hC) d_U_readSevens_36 [] [0, 1, 2, 3] [] [0, 1, 2, 3] (fun u_4 : (Nat → Int32) => kc_U cA a_U a_T u_4 ++ kc_T cA a_T I_T A_T) ⟨Nat.zero_le _, Nat.zero_le _⟩ rfl rfl (fun _ => rfl) rfl rfl rfl rfl rfl rfl rfl rfl (Nat.le_of_ble_eq_true rfl) (fun r_3 u_4 hw => ?_)
        obtain ⟨hnr_6, hw⟩ := hw
        exact vv_zret hC d_U_readSevens_39 hnr_6 u_4 hw rfl
set_option maxHeartbeats 4000000 in
set_option maxRecDepth 100000 in
theorem c_U_readSevens (l : Launch) (D : va_G) (cA : Nat → ClassId) (sx : Nat → Nat) (a_U a_T : Nat → Nat) (I_U : (Nat → Int32)) (I_T : (Nat → Int32)) (A_T : (Nat → Nat → Int32)) (Q : Int32 → (Nat → Int32) → Prop) (hw : wp_U_readSevens I_U I_T A_T Q) : MetI l y_U_readSevens (Cond.code y_U_readSevens b_U_readSevens 3 (some .boolean) :: TB) ({ frames := 1, cells := 0, slots := 0, locals := 22 } : Room) D vwCl (tyl cA) (SPl sx) [.ref (a_U 0)] (kc_U cA a_U a_T I_U ++ kc_T cA a_T I_T A_T) (fun (r : Int32) (u : (Nat → Int32)) => Q r u) (fun u : (Nat → Int32) => kc_U cA a_U a_T u ++ kc_T cA a_T I_T A_T) := by
  refine vv_entryI (cc := b_U_readSevens) (own := R_U) (L := [(0, .ref (a_U 0))]) (by decide) rfl rfl (Nat.le_of_ble_eq_true rfl) rfl (fun p e s m args below meth c A hC => ?_)
  unfold wp_U_readSevens at hw
  refine vv_aload_n hC d_U_readSevens_0 0 rfl rfl ?_
  refine vv_aload_n hC d_U_readSevens_1 0 rfl rfl ?_
  refine vv_get hC (v := .int (I_U 0)) hin_U 0 1 tb_81 d_U_readSevens_2 rfl rfl (by decide) rfl rfl ?_
  refine vv_put hC hin_U ty_U tyok_U nmok_U 0 2 tb_83 d_U_readSevens_5 rfl rfl (by decide) rfl rfl rfl rfl rfl (Nat.le_of_ble_eq_true rfl) (ws2 := kc_U cA a_U a_T (va_up I_U 1 (I_U 0)) ++ kc_T cA a_T I_T A_T) (st_UT_UI1 ..) ?_
  refine vv_aload_n hC d_U_readSevens_8 0 rfl rfl ?_
  refine vv_iconst hC d_U_readSevens_9 (v := (0 : Int32)) (by decide) ?_
  refine vv_put hC hin_U ty_U tyok_U nmok_U 0 3 tb_85 d_U_readSevens_10 rfl rfl (by decide) rfl rfl rfl rfl rfl (Nat.le_of_ble_eq_true rfl) (ws2 := kc_U cA a_U a_T (va_up (va_up I_U 1 (I_U 0)) 2 (0 : Int32)) ++ kc_T cA a_T I_T A_T) (st_UT_UI2 ..) ?_
  refine vv_iconst hC d_U_readSevens_13 (v := (0 : Int32)) (by decide) ?_
  refine vv_istore_n hC d_U_readSevens_14 rfl (by decide) [1, 0] (L2 := [(0, .ref (a_U 0)), (1, .int (0 : Int32))]) rfl ?_
  obtain ⟨m15, hw⟩ := hw
  refine vv_sub [0, 1] (by rfl) (l_U_readSevens_L15 a_U a_T I_T A_T Q _ hC (fun I_U_7 hw => ?_) m15 (va_up (va_up I_U 1 (I_U 0)) 2 (0 : Int32)) (0 : Int32) hw)
  refine vv_aload_n hC d_U_readSevens_83 0 rfl rfl ?_
  refine vv_iconst hC d_U_readSevens_84 (v := (1 : Int32)) (by decide) ?_
  refine vv_aload_n hC d_U_readSevens_85 0 rfl rfl ?_
  refine vv_get hC (v := .int (I_U_7 0)) hin_U 0 1 tb_81 d_U_readSevens_86 rfl rfl (by decide) rfl rfl ?_
  refine vv_callVI (wr := []) hC (c_U_fail l D cA sx a_U a_T I_U_7 I_T A_T (1 : Int32) (I_U_7 0) _ hw) (cw_U_44 hC) d_U_readSevens_89 [] [0, 1, 2, 3] [] [0, 1, 2, 3] (fun u_9 : (Nat → Int32) => kc_U cA a_U a_T u_9 ++ kc_T cA a_T I_T A_T) ⟨Nat.zero_le _, Nat.zero_le _⟩ rfl rfl (fun _ => rfl) rfl rfl rfl rfl rfl rfl rfl rfl (Nat.le_of_ble_eq_true rfl) (fun r_8 u_9 hw => ?_)
  obtain ⟨hnr_11, hw⟩ := hw
  exact vv_zret hC d_U_readSevens_92 hnr_11 u_9 hw rfl
end
section
theorem d_C_countOf_0 : decode b_C_countOf 0 = .ok (.iload_n 1, 1) := by decide +kernel
theorem d_C_countOf_1 : decode b_C_countOf 1 = .ok (.tableswitch 42 0 2 #[27, 32, 37], 27) := by decide +kernel
theorem d_C_countOf_28 : decode b_C_countOf 28 = .ok (.aload_n 0, 1) := by decide +kernel
theorem d_C_countOf_29 : decode b_C_countOf 29 = .ok (.getfield 15, 3) := by decide +kernel
theorem d_C_countOf_32 : decode b_C_countOf 32 = .ok (.ireturn, 1) := by decide +kernel
theorem d_C_countOf_33 : decode b_C_countOf 33 = .ok (.aload_n 0, 1) := by decide +kernel
theorem d_C_countOf_34 : decode b_C_countOf 34 = .ok (.getfield 18, 3) := by decide +kernel
theorem d_C_countOf_37 : decode b_C_countOf 37 = .ok (.ireturn, 1) := by decide +kernel
theorem d_C_countOf_38 : decode b_C_countOf 38 = .ok (.aload_n 0, 1) := by decide +kernel
theorem d_C_countOf_39 : decode b_C_countOf 39 = .ok (.getfield 21, 3) := by decide +kernel
theorem d_C_countOf_42 : decode b_C_countOf 42 = .ok (.ireturn, 1) := by decide +kernel
theorem d_C_countOf_43 : decode b_C_countOf 43 = .ok (.iconst 0, 1) := by decide +kernel
theorem d_C_countOf_44 : decode b_C_countOf 44 = .ok (.ireturn, 1) := by decide +kernel
theorem d_C_highestLiteral_0 : decode b_C_highestLiteral 0 = .ok (.iconst 2, 1) := by decide +kernel
theorem d_C_highestLiteral_1 : decode b_C_highestLiteral 1 = .ok (.aload_n 0, 1) := by decide +kernel
theorem d_C_highestLiteral_2 : decode b_C_highestLiteral 2 = .ok (.getfield 9, 3) := by decide +kernel
theorem d_C_highestLiteral_5 : decode b_C_highestLiteral 5 = .ok (.imul, 1) := by decide +kernel
theorem d_C_highestLiteral_6 : decode b_C_highestLiteral 6 = .ok (.iconst 1, 1) := by decide +kernel
theorem d_C_highestLiteral_7 : decode b_C_highestLiteral 7 = .ok (.iadd, 1) := by decide +kernel
theorem d_C_highestLiteral_8 : decode b_C_highestLiteral 8 = .ok (.ireturn, 1) := by decide +kernel
theorem d_C_isKnown_0 : decode b_C_isKnown 0 = .ok (.iload_n 1, 1) := by decide +kernel
theorem d_C_isKnown_1 : decode b_C_isKnown 1 = .ok (.iconst 2, 1) := by decide +kernel
theorem d_C_isKnown_2 : decode b_C_isKnown 2 = .ok (.if_icmp .lt 14, 3) := by decide +kernel
theorem d_C_isKnown_5 : decode b_C_isKnown 5 = .ok (.aload_n 0, 1) := by decide +kernel
theorem d_C_isKnown_6 : decode b_C_isKnown 6 = .ok (.getfield 55, 3) := by decide +kernel
theorem d_C_isKnown_9 : decode b_C_isKnown 9 = .ok (.iload_n 1, 1) := by decide +kernel
theorem d_C_isKnown_10 : decode b_C_isKnown 10 = .ok (.iconst 1, 1) := by decide +kernel
theorem d_C_isKnown_11 : decode b_C_isKnown 11 = .ok (.ishr, 1) := by decide +kernel
theorem d_C_isKnown_12 : decode b_C_isKnown 12 = .ok (.baload, 1) := by decide +kernel
theorem d_C_isKnown_13 : decode b_C_isKnown 13 = .ok (.ifCond .eq 7, 3) := by decide +kernel
theorem d_C_isKnown_16 : decode b_C_isKnown 16 = .ok (.iconst 1, 1) := by decide +kernel
theorem d_C_isKnown_17 : decode b_C_isKnown 17 = .ok (.goto 4, 3) := by decide +kernel
theorem d_C_isKnown_20 : decode b_C_isKnown 20 = .ok (.iconst 0, 1) := by decide +kernel
theorem d_C_isKnown_21 : decode b_C_isKnown 21 = .ok (.ireturn, 1) := by decide +kernel
theorem d_C_bitOf_0 : decode b_C_bitOf 0 = .ok (.aload_n 0, 1) := by decide +kernel
theorem d_C_bitOf_1 : decode b_C_bitOf 1 = .ok (.getfield 65, 3) := by decide +kernel
theorem d_C_bitOf_4 : decode b_C_bitOf 4 = .ok (.iload_n 1, 1) := by decide +kernel
theorem d_C_bitOf_5 : decode b_C_bitOf 5 = .ok (.iconst 1, 1) := by decide +kernel
theorem d_C_bitOf_6 : decode b_C_bitOf 6 = .ok (.ishr, 1) := by decide +kernel
theorem d_C_bitOf_7 : decode b_C_bitOf 7 = .ok (.iaload, 1) := by decide +kernel
theorem d_C_bitOf_8 : decode b_C_bitOf 8 = .ok (.iload_n 1, 1) := by decide +kernel
theorem d_C_bitOf_9 : decode b_C_bitOf 9 = .ok (.iconst 1, 1) := by decide +kernel
theorem d_C_bitOf_10 : decode b_C_bitOf 10 = .ok (.iand, 1) := by decide +kernel
theorem d_C_bitOf_11 : decode b_C_bitOf 11 = .ok (.ixor, 1) := by decide +kernel
theorem d_C_bitOf_12 : decode b_C_bitOf 12 = .ok (.ireturn, 1) := by decide +kernel
theorem d_C_settle_0 : decode b_C_settle 0 = .ok (.iconst 0, 1) := by decide +kernel
theorem d_C_settle_1 : decode b_C_settle 1 = .ok (.istore_n 2, 1) := by decide +kernel
theorem d_C_settle_2 : decode b_C_settle 2 = .ok (.iload_n 2, 1) := by decide +kernel
theorem d_C_settle_3 : decode b_C_settle 3 = .ok (.aload_n 0, 1) := by decide +kernel
theorem d_C_settle_4 : decode b_C_settle 4 = .ok (.getfield 15, 3) := by decide +kernel
theorem d_C_settle_7 : decode b_C_settle 7 = .ok (.if_icmp .ge 25, 3) := by decide +kernel
theorem d_C_settle_10 : decode b_C_settle 10 = .ok (.aload_n 0, 1) := by decide +kernel
theorem d_C_settle_11 : decode b_C_settle 11 = .ok (.getfield 65, 3) := by decide +kernel
theorem d_C_settle_14 : decode b_C_settle 14 = .ok (.aload_n 0, 1) := by decide +kernel
theorem d_C_settle_15 : decode b_C_settle 15 = .ok (.getfield 30, 3) := by decide +kernel
theorem d_C_settle_18 : decode b_C_settle 18 = .ok (.iload_n 2, 1) := by decide +kernel
theorem d_C_settle_19 : decode b_C_settle 19 = .ok (.iaload, 1) := by decide +kernel
theorem d_C_settle_20 : decode b_C_settle 20 = .ok (.iload_n 1, 1) := by decide +kernel
theorem d_C_settle_21 : decode b_C_settle 21 = .ok (.iload_n 2, 1) := by decide +kernel
theorem d_C_settle_22 : decode b_C_settle 22 = .ok (.ishr, 1) := by decide +kernel
theorem d_C_settle_23 : decode b_C_settle 23 = .ok (.iconst 1, 1) := by decide +kernel
theorem d_C_settle_24 : decode b_C_settle 24 = .ok (.iand, 1) := by decide +kernel
theorem d_C_settle_25 : decode b_C_settle 25 = .ok (.iastore, 1) := by decide +kernel
theorem d_C_settle_26 : decode b_C_settle 26 = .ok (.iinc 2 1, 3) := by decide +kernel
theorem d_C_settle_29 : decode b_C_settle 29 = .ok (.goto (-27), 3) := by decide +kernel
theorem d_C_settle_32 : decode b_C_settle 32 = .ok (.iconst 0, 1) := by decide +kernel
theorem d_C_settle_33 : decode b_C_settle 33 = .ok (.istore_n 2, 1) := by decide +kernel
theorem d_C_settle_34 : decode b_C_settle 34 = .ok (.iload_n 2, 1) := by decide +kernel
theorem d_C_settle_35 : decode b_C_settle 35 = .ok (.aload_n 0, 1) := by decide +kernel
theorem d_C_settle_36 : decode b_C_settle 36 = .ok (.getfield 18, 3) := by decide +kernel
theorem d_C_settle_39 : decode b_C_settle 39 = .ok (.if_icmp .ge 28, 3) := by decide +kernel
theorem d_C_settle_42 : decode b_C_settle 42 = .ok (.aload_n 0, 1) := by decide +kernel
theorem d_C_settle_43 : decode b_C_settle 43 = .ok (.getfield 65, 3) := by decide +kernel
theorem d_C_settle_46 : decode b_C_settle 46 = .ok (.aload_n 0, 1) := by decide +kernel
theorem d_C_settle_47 : decode b_C_settle 47 = .ok (.getfield 34, 3) := by decide +kernel
theorem d_C_settle_50 : decode b_C_settle 50 = .ok (.iload_n 2, 1) := by decide +kernel
theorem d_C_settle_51 : decode b_C_settle 51 = .ok (.iaload, 1) := by decide +kernel
theorem d_C_settle_52 : decode b_C_settle 52 = .ok (.aload_n 0, 1) := by decide +kernel
theorem d_C_settle_53 : decode b_C_settle 53 = .ok (.getfield 27, 3) := by decide +kernel
theorem d_C_settle_56 : decode b_C_settle 56 = .ok (.iload_n 2, 1) := by decide +kernel
theorem d_C_settle_57 : decode b_C_settle 57 = .ok (.ishr, 1) := by decide +kernel
theorem d_C_settle_58 : decode b_C_settle 58 = .ok (.iconst 1, 1) := by decide +kernel
theorem d_C_settle_59 : decode b_C_settle 59 = .ok (.iand, 1) := by decide +kernel
theorem d_C_settle_60 : decode b_C_settle 60 = .ok (.iastore, 1) := by decide +kernel
theorem d_C_settle_61 : decode b_C_settle 61 = .ok (.iinc 2 1, 3) := by decide +kernel
theorem d_C_settle_64 : decode b_C_settle 64 = .ok (.goto (-30), 3) := by decide +kernel
theorem d_C_settle_67 : decode b_C_settle 67 = .ok (.iconst 0, 1) := by decide +kernel
theorem d_C_settle_68 : decode b_C_settle 68 = .ok (.istore_n 2, 1) := by decide +kernel
theorem d_C_settle_69 : decode b_C_settle 69 = .ok (.iload_n 2, 1) := by decide +kernel
theorem d_C_settle_70 : decode b_C_settle 70 = .ok (.aload_n 0, 1) := by decide +kernel
theorem d_C_settle_71 : decode b_C_settle 71 = .ok (.getfield 24, 3) := by decide +kernel
theorem d_C_settle_74 : decode b_C_settle 74 = .ok (.if_icmp .ge 48, 3) := by decide +kernel
theorem d_C_settle_77 : decode b_C_settle 77 = .ok (.aload_n 0, 1) := by decide +kernel
theorem d_C_settle_78 : decode b_C_settle 78 = .ok (.getfield 52, 3) := by decide +kernel
theorem d_C_settle_81 : decode b_C_settle 81 = .ok (.iload_n 2, 1) := by decide +kernel
theorem d_C_settle_82 : decode b_C_settle 82 = .ok (.iaload, 1) := by decide +kernel
theorem d_C_settle_83 : decode b_C_settle 83 = .ok (.istore_n 3, 1) := by decide +kernel
theorem d_C_settle_84 : decode b_C_settle 84 = .ok (.aload_n 0, 1) := by decide +kernel
theorem d_C_settle_85 : decode b_C_settle 85 = .ok (.getfield 65, 3) := by decide +kernel
theorem d_C_settle_88 : decode b_C_settle 88 = .ok (.aload_n 0, 1) := by decide +kernel
theorem d_C_settle_89 : decode b_C_settle 89 = .ok (.getfield 43, 3) := by decide +kernel
theorem d_C_settle_92 : decode b_C_settle 92 = .ok (.iload_n 3, 1) := by decide +kernel
theorem d_C_settle_93 : decode b_C_settle 93 = .ok (.iaload, 1) := by decide +kernel
theorem d_C_settle_94 : decode b_C_settle 94 = .ok (.aload_n 0, 1) := by decide +kernel
theorem d_C_settle_95 : decode b_C_settle 95 = .ok (.aload_n 0, 1) := by decide +kernel
theorem d_C_settle_96 : decode b_C_settle 96 = .ok (.getfield 46, 3) := by decide +kernel
theorem d_C_settle_99 : decode b_C_settle 99 = .ok (.iload_n 3, 1) := by decide +kernel
theorem d_C_settle_100 : decode b_C_settle 100 = .ok (.iaload, 1) := by decide +kernel
theorem d_C_settle_101 : decode b_C_settle 101 = .ok (.invokevirtual 68, 3) := by decide +kernel
theorem d_C_settle_104 : decode b_C_settle 104 = .ok (.aload_n 0, 1) := by decide +kernel
theorem d_C_settle_105 : decode b_C_settle 105 = .ok (.aload_n 0, 1) := by decide +kernel
theorem d_C_settle_106 : decode b_C_settle 106 = .ok (.getfield 49, 3) := by decide +kernel
theorem d_C_settle_109 : decode b_C_settle 109 = .ok (.iload_n 3, 1) := by decide +kernel
theorem d_C_settle_110 : decode b_C_settle 110 = .ok (.iaload, 1) := by decide +kernel
theorem d_C_settle_111 : decode b_C_settle 111 = .ok (.invokevirtual 68, 3) := by decide +kernel
theorem d_C_settle_114 : decode b_C_settle 114 = .ok (.iand, 1) := by decide +kernel
theorem d_C_settle_115 : decode b_C_settle 115 = .ok (.iastore, 1) := by decide +kernel
theorem d_C_settle_116 : decode b_C_settle 116 = .ok (.iinc 2 1, 3) := by decide +kernel
theorem d_C_settle_119 : decode b_C_settle 119 = .ok (.goto (-50), 3) := by decide +kernel
theorem d_C_settle_122 : decode b_C_settle 122 = .ok (.return_, 1) := by decide +kernel
theorem d_C_bitsOf_0 : decode b_C_bitsOf 0 = .ok (.iconst 0, 1) := by decide +kernel
theorem d_C_bitsOf_1 : decode b_C_bitsOf 1 = .ok (.istore_n 3, 1) := by decide +kernel
theorem d_C_bitsOf_2 : decode b_C_bitsOf 2 = .ok (.iconst 0, 1) := by decide +kernel
theorem d_C_bitsOf_3 : decode b_C_bitsOf 3 = .ok (.istore 4, 2) := by decide +kernel
theorem d_C_bitsOf_5 : decode b_C_bitsOf 5 = .ok (.iload 4, 2) := by decide +kernel
theorem d_C_bitsOf_7 : decode b_C_bitsOf 7 = .ok (.iload_n 2, 1) := by decide +kernel
theorem d_C_bitsOf_8 : decode b_C_bitsOf 8 = .ok (.if_icmp .ge 23, 3) := by decide +kernel
theorem d_C_bitsOf_11 : decode b_C_bitsOf 11 = .ok (.iload_n 3, 1) := by decide +kernel
theorem d_C_bitsOf_12 : decode b_C_bitsOf 12 = .ok (.aload_n 0, 1) := by decide +kernel
theorem d_C_bitsOf_13 : decode b_C_bitsOf 13 = .ok (.aload_n 1, 1) := by decide +kernel
theorem d_C_bitsOf_14 : decode b_C_bitsOf 14 = .ok (.iload 4, 2) := by decide +kernel
theorem d_C_bitsOf_16 : decode b_C_bitsOf 16 = .ok (.iaload, 1) := by decide +kernel
theorem d_C_bitsOf_17 : decode b_C_bitsOf 17 = .ok (.invokevirtual 68, 3) := by decide +kernel
theorem d_C_bitsOf_20 : decode b_C_bitsOf 20 = .ok (.iload 4, 2) := by decide +kernel
theorem d_C_bitsOf_22 : decode b_C_bitsOf 22 = .ok (.ishl, 1) := by decide +kernel
theorem d_C_bitsOf_23 : decode b_C_bitsOf 23 = .ok (.ior, 1) := by decide +kernel
theorem d_C_bitsOf_24 : decode b_C_bitsOf 24 = .ok (.istore_n 3, 1) := by decide +kernel
theorem d_C_bitsOf_25 : decode b_C_bitsOf 25 = .ok (.iinc 4 1, 3) := by decide +kernel
theorem d_C_bitsOf_28 : decode b_C_bitsOf 28 = .ok (.goto (-23), 3) := by decide +kernel
theorem d_C_bitsOf_31 : decode b_C_bitsOf 31 = .ok (.iload_n 3, 1) := by decide +kernel
theorem d_C_bitsOf_32 : decode b_C_bitsOf 32 = .ok (.ireturn, 1) := by decide +kernel
theorem d_C_forget_0 : decode b_C_forget 0 = .ok (.iconst 0, 1) := by decide +kernel
theorem d_C_forget_1 : decode b_C_forget 1 = .ok (.istore_n 1, 1) := by decide +kernel
theorem d_C_forget_2 : decode b_C_forget 2 = .ok (.iload_n 1, 1) := by decide +kernel
theorem d_C_forget_3 : decode b_C_forget 3 = .ok (.sipush 400, 3) := by decide +kernel
theorem d_C_forget_6 : decode b_C_forget 6 = .ok (.if_icmp .gt 16, 3) := by decide +kernel
theorem d_C_forget_9 : decode b_C_forget 9 = .ok (.aload_n 0, 1) := by decide +kernel
theorem d_C_forget_10 : decode b_C_forget 10 = .ok (.getfield 55, 3) := by decide +kernel
theorem d_C_forget_13 : decode b_C_forget 13 = .ok (.iload_n 1, 1) := by decide +kernel
theorem d_C_forget_14 : decode b_C_forget 14 = .ok (.iconst 0, 1) := by decide +kernel
theorem d_C_forget_15 : decode b_C_forget 15 = .ok (.bastore, 1) := by decide +kernel
theorem d_C_forget_16 : decode b_C_forget 16 = .ok (.iinc 1 1, 3) := by decide +kernel
theorem d_C_forget_19 : decode b_C_forget 19 = .ok (.goto (-17), 3) := by decide +kernel
theorem d_C_forget_22 : decode b_C_forget 22 = .ok (.iconst 0, 1) := by decide +kernel
theorem d_C_forget_23 : decode b_C_forget 23 = .ok (.istore_n 1, 1) := by decide +kernel
theorem d_C_forget_24 : decode b_C_forget 24 = .ok (.iload_n 1, 1) := by decide +kernel
theorem d_C_forget_25 : decode b_C_forget 25 = .ok (.bipush 24, 2) := by decide +kernel
theorem d_C_forget_27 : decode b_C_forget 27 = .ok (.if_icmp .ge 16, 3) := by decide +kernel
theorem d_C_forget_30 : decode b_C_forget 30 = .ok (.aload_n 0, 1) := by decide +kernel
theorem d_C_forget_31 : decode b_C_forget 31 = .ok (.getfield 59, 3) := by decide +kernel
theorem d_C_forget_34 : decode b_C_forget 34 = .ok (.iload_n 1, 1) := by decide +kernel
theorem d_C_forget_35 : decode b_C_forget 35 = .ok (.iconst 0, 1) := by decide +kernel
theorem d_C_forget_36 : decode b_C_forget 36 = .ok (.iastore, 1) := by decide +kernel
theorem d_C_forget_37 : decode b_C_forget 37 = .ok (.iinc 1 1, 3) := by decide +kernel
theorem d_C_forget_40 : decode b_C_forget 40 = .ok (.goto (-16), 3) := by decide +kernel
theorem d_C_forget_43 : decode b_C_forget 43 = .ok (.aload_n 0, 1) := by decide +kernel
theorem d_C_forget_44 : decode b_C_forget 44 = .ok (.iconst 0, 1) := by decide +kernel
theorem d_C_forget_45 : decode b_C_forget 45 = .ok (.putfield 27, 3) := by decide +kernel
theorem d_C_forget_48 : decode b_C_forget 48 = .ok (.return_, 1) := by decide +kernel
theorem d_C_isWithinBounds_0 : decode b_C_isWithinBounds 0 = .ok (.aload_n 0, 1) := by decide +kernel
theorem d_C_isWithinBounds_1 : decode b_C_isWithinBounds 1 = .ok (.getfield 15, 3) := by decide +kernel
theorem d_C_isWithinBounds_4 : decode b_C_isWithinBounds 4 = .ok (.aload_n 0, 1) := by decide +kernel
theorem d_C_isWithinBounds_5 : decode b_C_isWithinBounds 5 = .ok (.getfield 18, 3) := by decide +kernel
theorem d_C_isWithinBounds_8 : decode b_C_isWithinBounds 8 = .ok (.iadd, 1) := by decide +kernel
theorem d_C_isWithinBounds_9 : decode b_C_isWithinBounds 9 = .ok (.aload_n 0, 1) := by decide +kernel
theorem d_C_isWithinBounds_10 : decode b_C_isWithinBounds 10 = .ok (.getfield 24, 3) := by decide +kernel
theorem d_C_isWithinBounds_13 : decode b_C_isWithinBounds 13 = .ok (.iadd, 1) := by decide +kernel
theorem d_C_isWithinBounds_14 : decode b_C_isWithinBounds 14 = .ok (.istore_n 2, 1) := by decide +kernel
theorem d_C_isWithinBounds_15 : decode b_C_isWithinBounds 15 = .ok (.aload_n 0, 1) := by decide +kernel
theorem d_C_isWithinBounds_16 : decode b_C_isWithinBounds 16 = .ok (.getfield 9, 3) := by decide +kernel
theorem d_C_isWithinBounds_19 : decode b_C_isWithinBounds 19 = .ok (.sipush 400, 3) := by decide +kernel
theorem d_C_isWithinBounds_22 : decode b_C_isWithinBounds 22 = .ok (.if_icmp .gt 67, 3) := by decide +kernel
theorem d_C_isWithinBounds_25 : decode b_C_isWithinBounds 25 = .ok (.aload_n 0, 1) := by decide +kernel
theorem d_C_isWithinBounds_26 : decode b_C_isWithinBounds 26 = .ok (.getfield 15, 3) := by decide +kernel
theorem d_C_isWithinBounds_29 : decode b_C_isWithinBounds 29 = .ok (.bipush 6, 2) := by decide +kernel
theorem d_C_isWithinBounds_31 : decode b_C_isWithinBounds 31 = .ok (.if_icmp .gt 58, 3) := by decide +kernel
theorem d_C_isWithinBounds_34 : decode b_C_isWithinBounds 34 = .ok (.aload_n 0, 1) := by decide +kernel
theorem d_C_isWithinBounds_35 : decode b_C_isWithinBounds 35 = .ok (.getfield 18, 3) := by decide +kernel
theorem d_C_isWithinBounds_38 : decode b_C_isWithinBounds 38 = .ok (.bipush 7, 2) := by decide +kernel
theorem d_C_isWithinBounds_40 : decode b_C_isWithinBounds 40 = .ok (.if_icmp .gt 49, 3) := by decide +kernel
theorem d_C_isWithinBounds_43 : decode b_C_isWithinBounds 43 = .ok (.aload_n 0, 1) := by decide +kernel
theorem d_C_isWithinBounds_44 : decode b_C_isWithinBounds 44 = .ok (.getfield 21, 3) := by decide +kernel
theorem d_C_isWithinBounds_47 : decode b_C_isWithinBounds 47 = .ok (.bipush 8, 2) := by decide +kernel
theorem d_C_isWithinBounds_49 : decode b_C_isWithinBounds 49 = .ok (.if_icmp .gt 40, 3) := by decide +kernel
theorem d_C_isWithinBounds_52 : decode b_C_isWithinBounds 52 = .ok (.aload_n 0, 1) := by decide +kernel
theorem d_C_isWithinBounds_53 : decode b_C_isWithinBounds 53 = .ok (.getfield 24, 3) := by decide +kernel
theorem d_C_isWithinBounds_56 : decode b_C_isWithinBounds 56 = .ok (.sipush 300, 3) := by decide +kernel
theorem d_C_isWithinBounds_59 : decode b_C_isWithinBounds 59 = .ok (.if_icmp .gt 30, 3) := by decide +kernel
theorem d_C_isWithinBounds_62 : decode b_C_isWithinBounds 62 = .ok (.iload_n 1, 1) := by decide +kernel
theorem d_C_isWithinBounds_63 : decode b_C_isWithinBounds 63 = .ok (.ifCond .eq 14, 3) := by decide +kernel
theorem d_C_isWithinBounds_66 : decode b_C_isWithinBounds 66 = .ok (.aload_n 0, 1) := by decide +kernel
theorem d_C_isWithinBounds_67 : decode b_C_isWithinBounds 67 = .ok (.getfield 9, 3) := by decide +kernel
theorem d_C_isWithinBounds_70 : decode b_C_isWithinBounds 70 = .ok (.iload_n 2, 1) := by decide +kernel
theorem d_C_isWithinBounds_71 : decode b_C_isWithinBounds 71 = .ok (.if_icmp .ne 18, 3) := by decide +kernel
theorem d_C_isWithinBounds_74 : decode b_C_isWithinBounds 74 = .ok (.goto 11, 3) := by decide +kernel
theorem d_C_isWithinBounds_77 : decode b_C_isWithinBounds 77 = .ok (.aload_n 0, 1) := by decide +kernel
theorem d_C_isWithinBounds_78 : decode b_C_isWithinBounds 78 = .ok (.getfield 9, 3) := by decide +kernel
theorem d_C_isWithinBounds_81 : decode b_C_isWithinBounds 81 = .ok (.iload_n 2, 1) := by decide +kernel
theorem d_C_isWithinBounds_82 : decode b_C_isWithinBounds 82 = .ok (.if_icmp .lt 7, 3) := by decide +kernel
theorem d_C_isWithinBounds_85 : decode b_C_isWithinBounds 85 = .ok (.iconst 1, 1) := by decide +kernel
theorem d_C_isWithinBounds_86 : decode b_C_isWithinBounds 86 = .ok (.goto 4, 3) := by decide +kernel
theorem d_C_isWithinBounds_89 : decode b_C_isWithinBounds 89 = .ok (.iconst 0, 1) := by decide +kernel
theorem d_C_isWithinBounds_90 : decode b_C_isWithinBounds 90 = .ok (.ireturn, 1) := by decide +kernel
end
section
theorem tb_7 : Cond.initialized R_C ∈ TB := tb_mem (i := 70) (by decide +kernel) (by decide +kernel)
theorem tb_148 : Cond.fieldLink R_C 9 "CircuitFiles$Circuit" "top" "I" ∈ TB := tb_mem (i := 211) (by decide +kernel) (by decide +kernel)
theorem tb_153 : Cond.fieldLink R_C 15 "CircuitFiles$Circuit" "inputs" "I" ∈ TB := tb_mem (i := 216) (by decide +kernel) (by decide +kernel)
theorem tb_157 : Cond.fieldLink R_C 18 "CircuitFiles$Circuit" "latches" "I" ∈ TB := tb_mem (i := 220) (by decide +kernel) (by decide +kernel)
theorem tb_161 : Cond.fieldLink R_C 21 "CircuitFiles$Circuit" "outputs" "I" ∈ TB := tb_mem (i := 224) (by decide +kernel) (by decide +kernel)
theorem tb_165 : Cond.fieldLink R_C 24 "CircuitFiles$Circuit" "ands" "I" ∈ TB := tb_mem (i := 228) (by decide +kernel) (by decide +kernel)
theorem tb_170 : Cond.fieldLink R_C 27 "CircuitFiles$Circuit" "latchBits" "I" ∈ TB := tb_mem (i := 233) (by decide +kernel) (by decide +kernel)
theorem tb_172 : Cond.fieldLink R_C 30 "CircuitFiles$Circuit" "inputVariable" "[I" ∈ TB := tb_mem (i := 235) (by decide +kernel) (by decide +kernel)
theorem tb_175 : Cond.fieldLink R_C 34 "CircuitFiles$Circuit" "latchVariable" "[I" ∈ TB := tb_mem (i := 238) (by decide +kernel) (by decide +kernel)
theorem tb_186 : Cond.fieldLink R_C 43 "CircuitFiles$Circuit" "andVariable" "[I" ∈ TB := tb_mem (i := 249) (by decide +kernel) (by decide +kernel)
theorem tb_190 : Cond.fieldLink R_C 46 "CircuitFiles$Circuit" "andFirst" "[I" ∈ TB := tb_mem (i := 253) (by decide +kernel) (by decide +kernel)
theorem tb_194 : Cond.fieldLink R_C 49 "CircuitFiles$Circuit" "andSecond" "[I" ∈ TB := tb_mem (i := 257) (by decide +kernel) (by decide +kernel)
theorem tb_198 : Cond.fieldLink R_C 52 "CircuitFiles$Circuit" "order" "[I" ∈ TB := tb_mem (i := 261) (by decide +kernel) (by decide +kernel)
theorem tb_201 : Cond.fieldLink R_C 55 "CircuitFiles$Circuit" "defined" "[Z" ∈ TB := tb_mem (i := 264) (by decide +kernel) (by decide +kernel)
theorem tb_203 : Cond.fieldLink R_C 59 "CircuitFiles$Circuit" "nameLength" "[I" ∈ TB := tb_mem (i := 266) (by decide +kernel) (by decide +kernel)
theorem tb_211 : Cond.fieldLink R_C 65 "CircuitFiles$Circuit" "bit" "[I" ∈ TB := tb_mem (i := 274) (by decide +kernel) (by decide +kernel)
theorem tb_437 : Cond.methodLink R_C 68 y_C_bitOf ∈ TB := tb_mem (i := 500) (by decide +kernel) (by decide +kernel)
theorem tb_438 : Cond.instanceMethod y_C_bitOf ∈ TB := tb_mem (i := 501) (by decide +kernel) (by decide +kernel)
theorem tb_439 : Cond.selects R_C y_C_bitOf y_C_bitOf ∈ TB := tb_mem (i := 502) (by decide +kernel) (by decide +kernel)
theorem tb_440 : Cond.code y_C_bitOf b_C_bitOf 2 (some .int) ∈ TB := tb_mem (i := 503) (by decide +kernel) (by decide +kernel)
theorem cw_C_68 {p : Program} {R : Room} {s : State} {m : MethodId} {args : Array Value} {meth : Method} {c : Code} {cc : ByteArray} {nL : Nat} {D : va_G} {sx : Nat → Nat} {tys : List (ClassId × FieldType)} {A : Nat → Prop} {ret : Option FieldType} (hC : CX p s m args meth c cc R_C TB nL D vwCl tys A (SPl sx) ret) (hR : ({ frames := 0, cells := 0, slots := 0, locals := 0 } : Room).frames + 1 ≤ R.frames ∧ 8 + (2 + 11) + ({ frames := 0, cells := 0, slots := 0, locals := 0 } : Room).locals ≤ R.locals := by exact ⟨Nat.le_of_ble_eq_true rfl, Nat.le_of_ble_eq_true rfl⟩) : CallW R s args R_C R_C 68 y_C_bitOf b_C_bitOf 2 (some .int) (Cond.code y_C_bitOf b_C_bitOf 2 (some .int) :: TB) ({ frames := 0, cells := 0, slots := 0, locals := 0 } : Room) 0 0 1 := cwV 1 hC.2.2.2.2.1 (gV tb_437 tb_438 tb_439 tb_7 tb_440) rfl rfl rfl (by decide +kernel) hR
theorem st_C_CA11 {cA : Nat → ClassId} {a_C : Nat → Nat} {I_C : Nat → Int32} {A_C : Nat → Nat → Int32} {f : Nat → Int32} : (kc_C cA a_C I_C A_C).set 12 (a_C 12, .inl (cA 0, 401, .inl f)) = kc_C cA a_C I_C (va_up A_C 11 f) := rfl
theorem st_C_CA8 {cA : Nat → ClassId} {a_C : Nat → Nat} {I_C : Nat → Int32} {A_C : Nat → Nat → Int32} {f : Nat → Int32} : (kc_C cA a_C I_C A_C).set 9 (a_C 9, .inl (cA 1, 401, .inl f)) = kc_C cA a_C I_C (va_up A_C 8 f) := rfl
theorem st_C_CA9 {cA : Nat → ClassId} {a_C : Nat → Nat} {I_C : Nat → Int32} {A_C : Nat → Nat → Int32} {f : Nat → Int32} : (kc_C cA a_C I_C A_C).set 10 (a_C 10, .inl (cA 0, 24, .inl f)) = kc_C cA a_C I_C (va_up A_C 9 f) := rfl
theorem st_C_CI5 {cA : Nat → ClassId} {a_C : Nat → Nat} {I_C : Nat → Int32} {A_C : Nat → Nat → Int32} {v : Int32} : (kc_C cA a_C I_C A_C).set 0 (a_C 0, .inr (5, ([.int (I_C 0), .int (I_C 1), .int (I_C 2), .int (I_C 3), .int (I_C 4), .int (I_C 5), .ref (a_C 1), .ref (a_C 2), .ref (a_C 3), .ref (a_C 4), .ref (a_C 5), .ref (a_C 6), .ref (a_C 7), .ref (a_C 8), .ref (a_C 9), .ref (a_C 10), .ref (a_C 11), .ref (a_C 12)] : List Value).set 5 (.int v))) = kc_C cA a_C (va_up I_C 5 v) A_C := rfl
end
section
def wp_C_countOf (I_C : (Nat → Int32)) (x1 : Int32) (Q : Int32 → Prop) : Prop := (x1 = (0 : Int32) → Q (I_C 1)) ∧ ((¬ x1 = (0 : Int32)) → (x1 = (1 : Int32) → Q (I_C 2)) ∧ ((¬ x1 = (1 : Int32)) → (x1 = (2 : Int32) → Q (I_C 3)) ∧ ((¬ x1 = (2 : Int32)) → Q (0 : Int32))))
def wp_C_highestLiteral (I_C : (Nat → Int32)) (Q : Int32 → Prop) : Prop := Q (((2 : Int32) * (I_C 0)) + (1 : Int32))
def wp_C_isKnown (A_C : (Nat → Nat → Int32)) (x1 : Int32) (Q : Int32 → Prop) : Prop := ((x1 < (2 : Int32)) → Q (1 : Int32)) ∧ ((¬ x1 < (2 : Int32)) → vp_in (x1 >>> ((1 : Int32) &&& 31)) 401 ∧ (((((A_C 8) ((x1 >>> ((1 : Int32) &&& 31))).toNatClampNeg) = 0) → Q (0 : Int32)) ∧ ((¬ ((A_C 8) ((x1 >>> ((1 : Int32) &&& 31))).toNatClampNeg) = 0) → Q (1 : Int32))))
def wp_C_bitOf (A_C : (Nat → Nat → Int32)) (x1 : Int32) (Q : Int32 → Prop) : Prop := vp_in (x1 >>> ((1 : Int32) &&& 31)) 401 ∧ (Q (((A_C 11) ((x1 >>> ((1 : Int32) &&& 31))).toNatClampNeg) ^^^ (x1 &&& (1 : Int32))))
def wp_C_settle_L2 (I_C : (Nat → Int32)) (Q : (Nat → Nat → Int32) → Prop) (X2 : (Nat → Nat → Int32) → Prop) : Nat → (Nat → Nat → Int32) → Int32 → Int32 → Prop
  | 0 => fun _ _ _ => False
  | n2 + 1 => fun A_C v1 v2 => (((I_C 1) ≤ v2) → X2 A_C) ∧ ((¬ (I_C 1) ≤ v2) → vp_in v2 6 ∧ (vp_in ((A_C 0) (v2).toNatClampNeg) 401 ∧ ((wp_C_settle_L2 I_C Q X2 n2) (va_up A_C 11 (upd (A_C 11) (((A_C 0) (v2).toNatClampNeg)).toNatClampNeg ((v1 >>> (v2 &&& 31)) &&& (1 : Int32)))) v1 (v2 + (1 : Int32)))))
def wp_C_settle_L34 (I_C : (Nat → Int32)) (Q : (Nat → Nat → Int32) → Prop) (X34 : (Nat → Nat → Int32) → Prop) : Nat → (Nat → Nat → Int32) → Int32 → Prop
  | 0 => fun _ _ => False
  | n34 + 1 => fun A_C v2 => (((I_C 2) ≤ v2) → X34 A_C) ∧ ((¬ (I_C 2) ≤ v2) → vp_in v2 7 ∧ (vp_in ((A_C 1) (v2).toNatClampNeg) 401 ∧ ((wp_C_settle_L34 I_C Q X34 n34) (va_up A_C 11 (upd (A_C 11) (((A_C 1) (v2).toNatClampNeg)).toNatClampNeg (((I_C 5) >>> (v2 &&& 31)) &&& (1 : Int32)))) (v2 + (1 : Int32)))))
def wp_C_settle_L69 (I_C : (Nat → Int32)) (Q : (Nat → Nat → Int32) → Prop) (X69 : (Nat → Nat → Int32) → Prop) : Nat → (Nat → Nat → Int32) → Int32 → Prop
  | 0 => fun _ _ => False
  | n69 + 1 => fun A_C v2 => (((I_C 4) ≤ v2) → X69 A_C) ∧ ((¬ (I_C 4) ≤ v2) → vp_in v2 300 ∧ (vp_in ((A_C 7) (v2).toNatClampNeg) 300 ∧ (wp_C_bitOf A_C ((A_C 5) (((A_C 7) (v2).toNatClampNeg)).toNatClampNeg) (fun r_9 => wp_C_bitOf A_C ((A_C 6) (((A_C 7) (v2).toNatClampNeg)).toNatClampNeg) (fun r_11 => vp_in ((A_C 4) (((A_C 7) (v2).toNatClampNeg)).toNatClampNeg) 401 ∧ ((wp_C_settle_L69 I_C Q X69 n69) (va_up A_C 11 (upd (A_C 11) (((A_C 4) (((A_C 7) (v2).toNatClampNeg)).toNatClampNeg)).toNatClampNeg (r_9 &&& r_11))) (v2 + (1 : Int32))))))))
def wp_C_settle (I_C : (Nat → Int32)) (A_C : (Nat → Nat → Int32)) (x1 : Int32) (Q : (Nat → Nat → Int32) → Prop) : Prop := ∃ m2, wp_C_settle_L2 I_C Q (fun A_C_3 => ∃ m34, wp_C_settle_L34 I_C Q (fun A_C_6 => ∃ m69, wp_C_settle_L69 I_C Q (fun A_C_14 => Q A_C_14) m69 A_C_6 (0 : Int32)) m34 A_C_3 (0 : Int32)) m2 A_C x1 (0 : Int32)
def wp_C_bitsOf_outputLiteral_L5 (A_C : (Nat → Nat → Int32)) (Q : Int32 → Prop) (X5 : Int32 → Prop) : Nat → Int32 → Int32 → Int32 → Prop
  | 0 => fun _ _ _ => False
  | n5 + 1 => fun v2 v3 v4 => ((v2 ≤ v4) → X5 v3) ∧ ((¬ v2 ≤ v4) → vp_in v4 8 ∧ (wp_C_bitOf A_C ((A_C 3) (v4).toNatClampNeg) (fun r_2 => (wp_C_bitsOf_outputLiteral_L5 A_C Q X5 n5) v2 (v3 ||| (r_2 <<< (v4 &&& 31))) (v4 + (1 : Int32)))))
def wp_C_bitsOf_outputLiteral (A_C : (Nat → Nat → Int32)) (x2 : Int32) (Q : Int32 → Prop) : Prop := ∃ m5, wp_C_bitsOf_outputLiteral_L5 A_C Q (fun v3_4 => Q v3_4) m5 x2 (0 : Int32) (0 : Int32)
def wp_C_bitsOf_latchNext_L5 (A_C : (Nat → Nat → Int32)) (Q : Int32 → Prop) (X5 : Int32 → Prop) : Nat → Int32 → Int32 → Int32 → Prop
  | 0 => fun _ _ _ => False
  | n5 + 1 => fun v2 v3 v4 => ((v2 ≤ v4) → X5 v3) ∧ ((¬ v2 ≤ v4) → vp_in v4 7 ∧ (wp_C_bitOf A_C ((A_C 2) (v4).toNatClampNeg) (fun r_2 => (wp_C_bitsOf_latchNext_L5 A_C Q X5 n5) v2 (v3 ||| (r_2 <<< (v4 &&& 31))) (v4 + (1 : Int32)))))
def wp_C_bitsOf_latchNext (A_C : (Nat → Nat → Int32)) (x2 : Int32) (Q : Int32 → Prop) : Prop := ∃ m5, wp_C_bitsOf_latchNext_L5 A_C Q (fun v3_4 => Q v3_4) m5 x2 (0 : Int32) (0 : Int32)
def wp_C_forget_L2 (Q : (Nat → Int32) → (Nat → Nat → Int32) → Prop) (X2 : (Nat → Int32) → (Nat → Nat → Int32) → Prop) : Nat → (Nat → Int32) → (Nat → Nat → Int32) → Int32 → Prop
  | 0 => fun _ _ _ => False
  | n2 + 1 => fun I_C A_C v1 => (((400 : Int32) < v1) → X2 I_C A_C) ∧ ((¬ (400 : Int32) < v1) → vp_in v1 401 ∧ ((wp_C_forget_L2 Q X2 n2) I_C (va_up A_C 8 (upd (A_C 8) (v1).toNatClampNeg (0 : Int32))) (v1 + (1 : Int32))))
def wp_C_forget_L24 (Q : (Nat → Int32) → (Nat → Nat → Int32) → Prop) (X24 : (Nat → Int32) → (Nat → Nat → Int32) → Prop) : Nat → (Nat → Int32) → (Nat → Nat → Int32) → Int32 → Prop
  | 0 => fun _ _ _ => False
  | n24 + 1 => fun I_C A_C v1 => (((24 : Int32) ≤ v1) → X24 I_C A_C) ∧ ((¬ (24 : Int32) ≤ v1) → vp_in v1 24 ∧ ((wp_C_forget_L24 Q X24 n24) I_C (va_up A_C 9 (upd (A_C 9) (v1).toNatClampNeg (0 : Int32))) (v1 + (1 : Int32))))
def wp_C_forget (I_C : (Nat → Int32)) (A_C : (Nat → Nat → Int32)) (Q : (Nat → Int32) → (Nat → Nat → Int32) → Prop) : Prop := ∃ m2, wp_C_forget_L2 Q (fun I_C_2 A_C_3 => ∃ m24, wp_C_forget_L24 Q (fun I_C_5 A_C_6 => Q (va_up I_C_5 5 (0 : Int32)) A_C_6) m24 I_C_2 A_C_3 (0 : Int32)) m2 I_C A_C (0 : Int32)
def wp_C_isWithinBounds (I_C : (Nat → Int32)) (x1 : Int32) (Q : Int32 → Prop) : Prop := (((400 : Int32) < (I_C 0)) → Q (0 : Int32)) ∧ ((¬ (400 : Int32) < (I_C 0)) → (((6 : Int32) < (I_C 1)) → Q (0 : Int32)) ∧ ((¬ (6 : Int32) < (I_C 1)) → (((7 : Int32) < (I_C 2)) → Q (0 : Int32)) ∧ ((¬ (7 : Int32) < (I_C 2)) → (((8 : Int32) < (I_C 3)) → Q (0 : Int32)) ∧ ((¬ (8 : Int32) < (I_C 3)) → (((300 : Int32) < (I_C 4)) → Q (0 : Int32)) ∧ ((¬ (300 : Int32) < (I_C 4)) → ((x1 = 0) → (((I_C 0) < (((I_C 1) + (I_C 2)) + (I_C 4))) → Q (0 : Int32)) ∧ ((¬ (I_C 0) < (((I_C 1) + (I_C 2)) + (I_C 4))) → Q (1 : Int32))) ∧ ((¬ x1 = 0) → (((I_C 0) = (((I_C 1) + (I_C 2)) + (I_C 4))) → Q (1 : Int32)) ∧ ((¬ (I_C 0) = (((I_C 1) + (I_C 2)) + (I_C 4))) → Q (0 : Int32))))))))
end
section
set_option maxHeartbeats 4000000 in
set_option maxRecDepth 100000 in
theorem c_C_countOf (l : Launch) (D : va_G) (cA : Nat → ClassId) (sx : Nat → Nat) (a_C : Nat → Nat) (I_C : (Nat → Int32)) (A_C : (Nat → Nat → Int32)) (x1 : Int32) (Q : Int32 → Prop) (hw : wp_C_countOf I_C x1 Q) : MetI l y_C_countOf (Cond.code y_C_countOf b_C_countOf 2 (some .int) :: TB) ({ frames := 0, cells := 0, slots := 0, locals := 0 } : Room) D vwCl (tyl cA) (SPl sx) [.ref (a_C 0), .int x1] (kc_C cA a_C I_C A_C) (fun (r : Int32) (u : Unit) => Q r) (fun u : Unit => kc_C cA a_C I_C A_C) := by
  refine vv_entryI (cc := b_C_countOf) (own := R_C) (L := [(0, .ref (a_C 0)), (1, .int x1)]) (by decide) rfl rfl (Nat.le_of_ble_eq_true rfl) rfl (fun p e s m args below meth c A hC => ?_)
  unfold wp_C_countOf at hw
  refine vv_iload_n hC d_C_countOf_0 1 rfl rfl ?_
  refine sw_cases (x := x1) (k := (0 : Int32)) (fun cd => ?_) (fun cd0 => ?_)
  · have hw := hw.1 cd
    refine vv_tabIn hC (0 : Int32) 27 28 d_C_countOf_1 cd (by decide) (by decide) rfl (by decide) ?_
    refine vv_aload_n hC d_C_countOf_28 0 rfl rfl ?_
    refine vv_get hC (v := .int (I_C 1)) hin_C 0 1 tb_153 d_C_countOf_29 rfl rfl (by decide) rfl rfl ?_
    exact vv_iret hC d_C_countOf_32 () hw rfl
  · have hw := hw.2 cd0
    refine sw_cases (x := x1) (k := (1 : Int32)) (fun cd => ?_) (fun cd1 => ?_)
    · have hw := hw.1 cd
      refine vv_tabIn hC (1 : Int32) 32 33 d_C_countOf_1 cd (by decide) (by decide) rfl (by decide) ?_
      refine vv_aload_n hC d_C_countOf_33 0 rfl rfl ?_
      refine vv_get hC (v := .int (I_C 2)) hin_C 0 2 tb_157 d_C_countOf_34 rfl rfl (by decide) rfl rfl ?_
      exact vv_iret hC d_C_countOf_37 () hw rfl
    · have hw := hw.2 cd1
      refine sw_cases (x := x1) (k := (2 : Int32)) (fun cd => ?_) (fun cd2 => ?_)
      · have hw := hw.1 cd
        refine vv_tabIn hC (2 : Int32) 37 38 d_C_countOf_1 cd (by decide) (by decide) rfl (by decide) ?_
        refine vv_aload_n hC d_C_countOf_38 0 rfl rfl ?_
        refine vv_get hC (v := .int (I_C 3)) hin_C 0 3 tb_161 d_C_countOf_39 rfl rfl (by decide) rfl rfl ?_
        exact vv_iret hC d_C_countOf_42 () hw rfl
      · have hw := hw.2 cd2
        refine vv_tabOut hC 43 d_C_countOf_1 (sw_out 2 (by decide) (fun k hk => by rcases (show k = 0 ∨ k = 1 ∨ k = 2 by omega) with rfl | rfl | rfl <;> first | exact cd0 | exact cd1 | exact cd2)) (by decide) ?_
        refine vv_iconst hC d_C_countOf_43 (v := (0 : Int32)) (by decide) ?_
        exact vv_iret hC d_C_countOf_44 () hw rfl
set_option maxHeartbeats 4000000 in
set_option maxRecDepth 100000 in
theorem c_C_highestLiteral (l : Launch) (D : va_G) (cA : Nat → ClassId) (sx : Nat → Nat) (a_C : Nat → Nat) (I_C : (Nat → Int32)) (A_C : (Nat → Nat → Int32)) (Q : Int32 → Prop) (hw : wp_C_highestLiteral I_C Q) : MetI l y_C_highestLiteral (Cond.code y_C_highestLiteral b_C_highestLiteral 1 (some .int) :: TB) ({ frames := 0, cells := 0, slots := 0, locals := 0 } : Room) D vwCl (tyl cA) (SPl sx) [.ref (a_C 0)] (kc_C cA a_C I_C A_C) (fun (r : Int32) (u : Unit) => Q r) (fun u : Unit => kc_C cA a_C I_C A_C) := by
  refine vv_entryI (cc := b_C_highestLiteral) (own := R_C) (L := [(0, .ref (a_C 0))]) (by decide) rfl rfl (Nat.le_of_ble_eq_true rfl) rfl (fun p e s m args below meth c A hC => ?_)
  unfold wp_C_highestLiteral at hw
  refine vv_iconst hC d_C_highestLiteral_0 (v := (2 : Int32)) (by decide) ?_
  refine vv_aload_n hC d_C_highestLiteral_1 0 rfl rfl ?_
  refine vv_get hC (v := .int (I_C 0)) hin_C 0 0 tb_148 d_C_highestLiteral_2 rfl rfl (by decide) rfl rfl ?_
  refine vv_imul hC d_C_highestLiteral_5 ?_
  refine vv_iconst hC d_C_highestLiteral_6 (v := (1 : Int32)) (by decide) ?_
  refine vv_iadd hC d_C_highestLiteral_7 ?_
  exact vv_iret hC d_C_highestLiteral_8 () hw rfl
set_option maxHeartbeats 4000000 in
set_option maxRecDepth 100000 in
theorem c_C_isKnown (l : Launch) (D : va_G) (cA : Nat → ClassId) (sx : Nat → Nat) (a_C : Nat → Nat) (I_C : (Nat → Int32)) (A_C : (Nat → Nat → Int32)) (x1 : Int32) (Q : Int32 → Prop) (hw : wp_C_isKnown A_C x1 Q) : MetI l y_C_isKnown (Cond.code y_C_isKnown b_C_isKnown 2 (some .boolean) :: TB) ({ frames := 0, cells := 0, slots := 0, locals := 0 } : Room) D vwCl (tyl cA) (SPl sx) [.ref (a_C 0), .int x1] (kc_C cA a_C I_C A_C) (fun (r : Int32) (u : Unit) => Q r) (fun u : Unit => kc_C cA a_C I_C A_C) := by
  refine vv_entryI (cc := b_C_isKnown) (own := R_C) (L := [(0, .ref (a_C 0)), (1, .int x1)]) (by decide) rfl rfl (Nat.le_of_ble_eq_true rfl) rfl (fun p e s m args below meth c A hC => ?_)
  unfold wp_C_isKnown at hw
  refine vv_iload_n hC d_C_isKnown_0 1 rfl rfl ?_
  refine vv_iconst hC d_C_isKnown_1 (v := (2 : Int32)) (by decide) ?_
  refine vv_icmp_lt hC 16 d_C_isKnown_2 (by decide) (fun cd => ?_) (fun cd => ?_)
  · have hw := hw.1 cd
    refine vv_iconst hC d_C_isKnown_16 (v := (1 : Int32)) (by decide) ?_
    refine vv_goto hC 21 d_C_isKnown_17 (by decide) ?_
    exact vv_zret hC d_C_isKnown_21 rfl () hw rfl
  · have hw := hw.2 cd
    refine vv_aload_n hC d_C_isKnown_5 0 rfl rfl ?_
    refine vv_get hC (v := .ref (a_C 9)) hin_C 0 14 tb_201 d_C_isKnown_6 rfl rfl (by decide) rfl rfl ?_
    refine vv_iload_n hC d_C_isKnown_9 1 rfl rfl ?_
    refine vv_iconst hC d_C_isKnown_10 (v := (1 : Int32)) (by decide) ?_
    refine vv_ishr hC d_C_isKnown_11 ?_
    obtain ⟨hin_1, hw⟩ := hw
    refine vv_zald hC 9 1 d_C_isKnown_12 rfl rfl hin_1 ?_
    refine vv_if_eq hC 20 d_C_isKnown_13 (by decide) (fun cd => ?_) (fun cd => ?_)
    · have hw := hw.1 cd
      refine vv_iconst hC d_C_isKnown_20 (v := (0 : Int32)) (by decide) ?_
      exact vv_zret hC d_C_isKnown_21 rfl () hw rfl
    · have hw := hw.2 cd
      refine vv_iconst hC d_C_isKnown_16 (v := (1 : Int32)) (by decide) ?_
      refine vv_goto hC 21 d_C_isKnown_17 (by decide) ?_
      exact vv_zret hC d_C_isKnown_21 rfl () hw rfl
set_option maxHeartbeats 4000000 in
set_option maxRecDepth 100000 in
theorem c_C_bitOf (l : Launch) (D : va_G) (cA : Nat → ClassId) (sx : Nat → Nat) (a_C : Nat → Nat) (I_C : (Nat → Int32)) (A_C : (Nat → Nat → Int32)) (x1 : Int32) (Q : Int32 → Prop) (hw : wp_C_bitOf A_C x1 Q) : MetI l y_C_bitOf (Cond.code y_C_bitOf b_C_bitOf 2 (some .int) :: TB) ({ frames := 0, cells := 0, slots := 0, locals := 0 } : Room) D vwCl (tyl cA) (SPl sx) [.ref (a_C 0), .int x1] (kc_C cA a_C I_C A_C) (fun (r : Int32) (u : Unit) => Q r) (fun u : Unit => kc_C cA a_C I_C A_C) := by
  refine vv_entryI (cc := b_C_bitOf) (own := R_C) (L := [(0, .ref (a_C 0)), (1, .int x1)]) (by decide) rfl rfl (Nat.le_of_ble_eq_true rfl) rfl (fun p e s m args below meth c A hC => ?_)
  unfold wp_C_bitOf at hw
  refine vv_aload_n hC d_C_bitOf_0 0 rfl rfl ?_
  refine vv_get hC (v := .ref (a_C 12)) hin_C 0 17 tb_211 d_C_bitOf_1 rfl rfl (by decide) rfl rfl ?_
  refine vv_iload_n hC d_C_bitOf_4 1 rfl rfl ?_
  refine vv_iconst hC d_C_bitOf_5 (v := (1 : Int32)) (by decide) ?_
  refine vv_ishr hC d_C_bitOf_6 ?_
  obtain ⟨hin_1, hw⟩ := hw
  refine vv_iald hC 12 0 d_C_bitOf_7 rfl rfl hin_1 ?_
  refine vv_iload_n hC d_C_bitOf_8 1 rfl rfl ?_
  refine vv_iconst hC d_C_bitOf_9 (v := (1 : Int32)) (by decide) ?_
  refine vv_iand hC d_C_bitOf_10 ?_
  refine vv_ixor hC d_C_bitOf_11 ?_
  exact vv_iret hC d_C_bitOf_12 () hw rfl
set_option maxHeartbeats 4000000 in
set_option maxRecDepth 100000 in
theorem l_C_settle_L2 {p : Program} {l : Launch} {e : Env} {s : State} {m : MethodId} {args : Array Value} {below : List Frame} {meth : Method} {c : Code} {D : va_G} {cA : Nat → ClassId} {sx : Nat → Nat} {A : Nat → Prop} (a_C : Nat → Nat) (I_C : (Nat → Int32)) (Q : (Nat → Nat → Int32) → Prop) (X2 : (Nat → Nat → Int32) → Prop) (hC : CX p s m args meth c b_C_settle R_C TB 4 D vwCl (tyl cA) A (SPl sx) none) (hX2 : ∀ (A_C : (Nat → Nat → Int32)), X2 A_C → VV p l e ({ frames := 1, cells := 0, slots := 0, locals := 21 } : Room) s m args below meth c 4 D vwCl A 0 0 (QV below args s D vwCl (tyl cA) A (fun (u : (Nat → Nat → Int32)) => Q u) (fun u : (Nat → Nat → Int32) => kc_C cA a_C I_C u)) (kc_C cA a_C I_C A_C) 32 [(0, .ref (a_C 0))] []) : ∀ (n2 : Nat) (A_C : (Nat → Nat → Int32)) (v1 : Int32) (v2 : Int32), wp_C_settle_L2 I_C Q X2 n2 A_C v1 v2 → VV p l e ({ frames := 1, cells := 0, slots := 0, locals := 21 } : Room) s m args below meth c 4 D vwCl A 0 0 (QV below args s D vwCl (tyl cA) A (fun (u : (Nat → Nat → Int32)) => Q u) (fun u : (Nat → Nat → Int32) => kc_C cA a_C I_C u)) (kc_C cA a_C I_C A_C) 2 [(0, .ref (a_C 0)), (1, .int v1), (2, .int v2)] [] := by
  intro n2
  induction n2 with
  | zero =>
    intro A_C v1 v2 hw
    exact absurd hw (fun z => z)
  | succ n2 ih =>
    intro A_C v1 v2 hw
    unfold wp_C_settle_L2 at hw
    refine vv_iload_n hC d_C_settle_2 2 rfl rfl ?_
    refine vv_aload_n hC d_C_settle_3 0 rfl rfl ?_
    refine vv_get hC (v := .int (I_C 1)) hin_C 0 1 tb_153 d_C_settle_4 rfl rfl (by decide) rfl rfl ?_
    refine vv_icmp_ge hC 32 d_C_settle_7 (by decide) (fun cd => ?_) (fun cd => ?_)
    · have hw := hw.1 cd
      exact vv_sub [0] (by rfl) (hX2 A_C hw)
    · have hw := hw.2 cd
      refine vv_aload_n hC d_C_settle_10 0 rfl rfl ?_
      refine vv_get hC (v := .ref (a_C 12)) hin_C 0 17 tb_211 d_C_settle_11 rfl rfl (by decide) rfl rfl ?_
      refine vv_aload_n hC d_C_settle_14 0 rfl rfl ?_
      refine vv_get hC (v := .ref (a_C 1)) hin_C 0 6 tb_172 d_C_settle_15 rfl rfl (by decide) rfl rfl ?_
      refine vv_iload_n hC d_C_settle_18 2 rfl rfl ?_
      obtain ⟨hin_1, hw⟩ := hw
      refine vv_iald hC 1 0 d_C_settle_19 rfl rfl hin_1 ?_
      refine vv_iload_n hC d_C_settle_20 1 rfl rfl ?_
      refine vv_iload_n hC d_C_settle_21 2 rfl rfl ?_
      refine vv_ishr hC d_C_settle_22 ?_
      refine vv_iconst hC d_C_settle_23 (v := (1 : Int32)) (by decide) ?_
      refine vv_iand hC d_C_settle_24 ?_
      obtain ⟨hin_2, hw⟩ := hw
      refine vv_iast hC 12 0 d_C_settle_25 rfl rfl hin_2 (ws2 := kc_C cA a_C I_C (va_up A_C 11 (upd (A_C 11) (((A_C 0) (v2).toNatClampNeg)).toNatClampNeg ((v1 >>> (v2 &&& 31)) &&& (1 : Int32))))) (st_C_CA11 ..) ?_
      refine vv_iinc hC d_C_settle_26 2 rfl (v := (v2 + (1 : Int32))) rfl (by decide) [1, 2, 0] (L2 := [(0, .ref (a_C 0)), (1, .int v1), (2, .int (v2 + (1 : Int32)))]) rfl ?_
      refine vv_goto hC 2 d_C_settle_29 (by decide) ?_
      exact vv_sub [0, 1, 2] (by rfl) (ih (va_up A_C 11 (upd (A_C 11) (((A_C 0) (v2).toNatClampNeg)).toNatClampNeg ((v1 >>> (v2 &&& 31)) &&& (1 : Int32)))) v1 (v2 + (1 : Int32)) hw)
set_option maxHeartbeats 4000000 in
set_option maxRecDepth 100000 in
theorem l_C_settle_L34 {p : Program} {l : Launch} {e : Env} {s : State} {m : MethodId} {args : Array Value} {below : List Frame} {meth : Method} {c : Code} {D : va_G} {cA : Nat → ClassId} {sx : Nat → Nat} {A : Nat → Prop} (a_C : Nat → Nat) (I_C : (Nat → Int32)) (Q : (Nat → Nat → Int32) → Prop) (X34 : (Nat → Nat → Int32) → Prop) (hC : CX p s m args meth c b_C_settle R_C TB 4 D vwCl (tyl cA) A (SPl sx) none) (hX34 : ∀ (A_C : (Nat → Nat → Int32)), X34 A_C → VV p l e ({ frames := 1, cells := 0, slots := 0, locals := 21 } : Room) s m args below meth c 4 D vwCl A 0 0 (QV below args s D vwCl (tyl cA) A (fun (u : (Nat → Nat → Int32)) => Q u) (fun u : (Nat → Nat → Int32) => kc_C cA a_C I_C u)) (kc_C cA a_C I_C A_C) 67 [(0, .ref (a_C 0))] []) : ∀ (n34 : Nat) (A_C : (Nat → Nat → Int32)) (v2 : Int32), wp_C_settle_L34 I_C Q X34 n34 A_C v2 → VV p l e ({ frames := 1, cells := 0, slots := 0, locals := 21 } : Room) s m args below meth c 4 D vwCl A 0 0 (QV below args s D vwCl (tyl cA) A (fun (u : (Nat → Nat → Int32)) => Q u) (fun u : (Nat → Nat → Int32) => kc_C cA a_C I_C u)) (kc_C cA a_C I_C A_C) 34 [(0, .ref (a_C 0)), (2, .int v2)] [] := by
  intro n34
  induction n34 with
  | zero =>
    intro A_C v2 hw
    exact absurd hw (fun z => z)
  | succ n34 ih =>
    intro A_C v2 hw
    unfold wp_C_settle_L34 at hw
    refine vv_iload_n hC d_C_settle_34 1 rfl rfl ?_
    refine vv_aload_n hC d_C_settle_35 0 rfl rfl ?_
    refine vv_get hC (v := .int (I_C 2)) hin_C 0 2 tb_157 d_C_settle_36 rfl rfl (by decide) rfl rfl ?_
    refine vv_icmp_ge hC 67 d_C_settle_39 (by decide) (fun cd => ?_) (fun cd => ?_)
    · have hw := hw.1 cd
      exact vv_sub [0] (by rfl) (hX34 A_C hw)
    · have hw := hw.2 cd
      refine vv_aload_n hC d_C_settle_42 0 rfl rfl ?_
      refine vv_get hC (v := .ref (a_C 12)) hin_C 0 17 tb_211 d_C_settle_43 rfl rfl (by decide) rfl rfl ?_
      refine vv_aload_n hC d_C_settle_46 0 rfl rfl ?_
      refine vv_get hC (v := .ref (a_C 2)) hin_C 0 7 tb_175 d_C_settle_47 rfl rfl (by decide) rfl rfl ?_
      refine vv_iload_n hC d_C_settle_50 1 rfl rfl ?_
      obtain ⟨hin_4, hw⟩ := hw
      refine vv_iald hC 2 0 d_C_settle_51 rfl rfl hin_4 ?_
      refine vv_aload_n hC d_C_settle_52 0 rfl rfl ?_
      refine vv_get hC (v := .int (I_C 5)) hin_C 0 5 tb_170 d_C_settle_53 rfl rfl (by decide) rfl rfl ?_
      refine vv_iload_n hC d_C_settle_56 1 rfl rfl ?_
      refine vv_ishr hC d_C_settle_57 ?_
      refine vv_iconst hC d_C_settle_58 (v := (1 : Int32)) (by decide) ?_
      refine vv_iand hC d_C_settle_59 ?_
      obtain ⟨hin_5, hw⟩ := hw
      refine vv_iast hC 12 0 d_C_settle_60 rfl rfl hin_5 (ws2 := kc_C cA a_C I_C (va_up A_C 11 (upd (A_C 11) (((A_C 1) (v2).toNatClampNeg)).toNatClampNeg (((I_C 5) >>> (v2 &&& 31)) &&& (1 : Int32))))) (st_C_CA11 ..) ?_
      refine vv_iinc hC d_C_settle_61 1 rfl (v := (v2 + (1 : Int32))) rfl (by decide) [1, 0] (L2 := [(0, .ref (a_C 0)), (2, .int (v2 + (1 : Int32)))]) rfl ?_
      refine vv_goto hC 34 d_C_settle_64 (by decide) ?_
      exact vv_sub [0, 1] (by rfl) (ih (va_up A_C 11 (upd (A_C 11) (((A_C 1) (v2).toNatClampNeg)).toNatClampNeg (((I_C 5) >>> (v2 &&& 31)) &&& (1 : Int32)))) (v2 + (1 : Int32)) hw)
set_option maxHeartbeats 4000000 in
set_option maxRecDepth 100000 in
theorem l_C_settle_L69 {p : Program} {l : Launch} {e : Env} {s : State} {m : MethodId} {args : Array Value} {below : List Frame} {meth : Method} {c : Code} {D : va_G} {cA : Nat → ClassId} {sx : Nat → Nat} {A : Nat → Prop} (a_C : Nat → Nat) (I_C : (Nat → Int32)) (Q : (Nat → Nat → Int32) → Prop) (X69 : (Nat → Nat → Int32) → Prop) (hC : CX p s m args meth c b_C_settle R_C TB 4 D vwCl (tyl cA) A (SPl sx) none) (hX69 : ∀ (A_C : (Nat → Nat → Int32)), X69 A_C → VV p l e ({ frames := 1, cells := 0, slots := 0, locals := 21 } : Room) s m args below meth c 4 D vwCl A 0 0 (QV below args s D vwCl (tyl cA) A (fun (u : (Nat → Nat → Int32)) => Q u) (fun u : (Nat → Nat → Int32) => kc_C cA a_C I_C u)) (kc_C cA a_C I_C A_C) 122 [] []) : ∀ (n69 : Nat) (A_C : (Nat → Nat → Int32)) (v2 : Int32), wp_C_settle_L69 I_C Q X69 n69 A_C v2 → VV p l e ({ frames := 1, cells := 0, slots := 0, locals := 21 } : Room) s m args below meth c 4 D vwCl A 0 0 (QV below args s D vwCl (tyl cA) A (fun (u : (Nat → Nat → Int32)) => Q u) (fun u : (Nat → Nat → Int32) => kc_C cA a_C I_C u)) (kc_C cA a_C I_C A_C) 69 [(0, .ref (a_C 0)), (2, .int v2)] [] := by
  intro n69
  induction n69 with
  | zero =>
    intro A_C v2 hw
    exact absurd hw (fun z => z)
  | succ n69 ih =>
    intro A_C v2 hw
    unfold wp_C_settle_L69 at hw
    refine vv_iload_n hC d_C_settle_69 1 rfl rfl ?_
    refine vv_aload_n hC d_C_settle_70 0 rfl rfl ?_
    refine vv_get hC (v := .int (I_C 4)) hin_C 0 4 tb_165 d_C_settle_71 rfl rfl (by decide) rfl rfl ?_
    refine vv_icmp_ge hC 122 d_C_settle_74 (by decide) (fun cd => ?_) (fun cd => ?_)
    · have hw := hw.1 cd
      exact vv_sub [] (by rfl) (hX69 A_C hw)
    · have hw := hw.2 cd
      refine vv_aload_n hC d_C_settle_77 0 rfl rfl ?_
      refine vv_get hC (v := .ref (a_C 8)) hin_C 0 13 tb_198 d_C_settle_78 rfl rfl (by decide) rfl rfl ?_
      refine vv_iload_n hC d_C_settle_81 1 rfl rfl ?_
      obtain ⟨hin_7, hw⟩ := hw
      refine vv_iald hC 8 0 d_C_settle_82 rfl rfl hin_7 ?_
      refine vv_istore_n hC d_C_settle_83 rfl (by decide) [1, 2, 0] (L2 := [(0, .ref (a_C 0)), (2, .int v2), (3, .int ((A_C 7) (v2).toNatClampNeg))]) rfl ?_
      refine vv_aload_n hC d_C_settle_84 0 rfl rfl ?_
      refine vv_get hC (v := .ref (a_C 12)) hin_C 0 17 tb_211 d_C_settle_85 rfl rfl (by decide) rfl rfl ?_
      refine vv_aload_n hC d_C_settle_88 0 rfl rfl ?_
      refine vv_get hC (v := .ref (a_C 5)) hin_C 0 10 tb_186 d_C_settle_89 rfl rfl (by decide) rfl rfl ?_
      refine vv_iload_n hC d_C_settle_92 2 rfl rfl ?_
      obtain ⟨hin_8, hw⟩ := hw
      refine vv_iald hC 5 0 d_C_settle_93 rfl rfl hin_8 ?_
      refine vv_aload_n hC d_C_settle_94 0 rfl rfl ?_
      refine vv_aload_n hC d_C_settle_95 0 rfl rfl ?_
      refine vv_get hC (v := .ref (a_C 6)) hin_C 0 11 tb_190 d_C_settle_96 rfl rfl (by decide) rfl rfl ?_
      refine vv_iload_n hC d_C_settle_99 2 rfl rfl ?_
      refine vv_iald hC 6 0 d_C_settle_100 rfl rfl hin_8 ?_
      refine vv_callVI (wr := []) hC (c_C_bitOf l D cA sx a_C I_C A_C ((A_C 5) (((A_C 7) (v2).toNatClampNeg)).toNatClampNeg) _ hw) (cw_C_68 hC) d_C_settle_101 [.int ((A_C 4) (((A_C 7) (v2).toNatClampNeg)).toNatClampNeg), .ref (a_C 12)] [0, 1, 2, 3, 4, 5, 6, 7, 8, 9, 10, 11, 12] [] [0, 1, 2, 3, 4, 5, 6, 7, 8, 9, 10, 11, 12] (fun u_10 : Unit => kc_C cA a_C I_C A_C) ⟨Nat.zero_le _, Nat.zero_le _⟩ rfl rfl (fun _ => rfl) rfl rfl rfl rfl rfl rfl rfl rfl (Nat.le_of_ble_eq_true rfl) (fun r_9 u_10 hw => ?_)
      refine vv_aload_n hC d_C_settle_104 0 rfl rfl ?_
      refine vv_aload_n hC d_C_settle_105 0 rfl rfl ?_
      refine vv_get hC (v := .ref (a_C 7)) hin_C 0 12 tb_194 d_C_settle_106 rfl rfl (by decide) rfl rfl ?_
      refine vv_iload_n hC d_C_settle_109 2 rfl rfl ?_
      refine vv_iald hC 7 0 d_C_settle_110 rfl rfl hin_8 ?_
      refine vv_callVI (wr := []) hC (c_C_bitOf l D cA sx a_C I_C A_C ((A_C 6) (((A_C 7) (v2).toNatClampNeg)).toNatClampNeg) _ hw) (cw_C_68 hC) d_C_settle_111 [.int r_9, .int ((A_C 4) (((A_C 7) (v2).toNatClampNeg)).toNatClampNeg), .ref (a_C 12)] [0, 1, 2, 3, 4, 5, 6, 7, 8, 9, 10, 11, 12] [] [0, 1, 2, 3, 4, 5, 6, 7, 8, 9, 10, 11, 12] (fun u_12 : Unit => kc_C cA a_C I_C A_C) ⟨Nat.zero_le _, Nat.zero_le _⟩ rfl rfl (fun _ => rfl) rfl rfl rfl rfl rfl rfl rfl rfl (Nat.le_of_ble_eq_true rfl) (fun r_11 u_12 hw => ?_)
      refine vv_iand hC d_C_settle_114 ?_
      obtain ⟨hin_13, hw⟩ := hw
      refine vv_iast hC 12 0 d_C_settle_115 rfl rfl hin_13 (ws2 := kc_C cA a_C I_C (va_up A_C 11 (upd (A_C 11) (((A_C 4) (((A_C 7) (v2).toNatClampNeg)).toNatClampNeg)).toNatClampNeg (r_9 &&& r_11)))) (st_C_CA11 ..) ?_
      refine vv_iinc hC d_C_settle_116 1 rfl (v := (v2 + (1 : Int32))) rfl (by decide) [1, 0, 2] (L2 := [(0, .ref (a_C 0)), (2, .int (v2 + (1 : Int32))), (3, .int ((A_C 7) (v2).toNatClampNeg))]) rfl ?_
      refine vv_goto hC 69 d_C_settle_119 (by decide) ?_
      exact vv_sub [0, 1] (by rfl) (ih (va_up A_C 11 (upd (A_C 11) (((A_C 4) (((A_C 7) (v2).toNatClampNeg)).toNatClampNeg)).toNatClampNeg (r_9 &&& r_11))) (v2 + (1 : Int32)) hw)
set_option maxHeartbeats 4000000 in
set_option maxRecDepth 100000 in
theorem c_C_settle (l : Launch) (D : va_G) (cA : Nat → ClassId) (sx : Nat → Nat) (a_C : Nat → Nat) (I_C : (Nat → Int32)) (A_C : (Nat → Nat → Int32)) (x1 : Int32) (Q : (Nat → Nat → Int32) → Prop) (hw : wp_C_settle I_C A_C x1 Q) : MetV l y_C_settle (Cond.code y_C_settle b_C_settle 4 none :: TB) ({ frames := 1, cells := 0, slots := 0, locals := 21 } : Room) D vwCl (tyl cA) (SPl sx) [.ref (a_C 0), .int x1] (kc_C cA a_C I_C A_C) (fun (u : (Nat → Nat → Int32)) => Q u) (fun u : (Nat → Nat → Int32) => kc_C cA a_C I_C u) := by
  refine vv_entryV (cc := b_C_settle) (own := R_C) (L := [(0, .ref (a_C 0)), (1, .int x1)]) (by decide) rfl rfl (Nat.le_of_ble_eq_true rfl) rfl (fun p e s m args below meth c A hC => ?_)
  unfold wp_C_settle at hw
  refine vv_iconst hC d_C_settle_0 (v := (0 : Int32)) (by decide) ?_
  refine vv_istore_n hC d_C_settle_1 rfl (by decide) [1, 2, 0] (L2 := [(0, .ref (a_C 0)), (1, .int x1), (2, .int (0 : Int32))]) rfl ?_
  obtain ⟨m2, hw⟩ := hw
  refine vv_sub [0, 1, 2] (by rfl) (l_C_settle_L2 a_C I_C Q _ hC (fun A_C_3 hw => ?_) m2 A_C x1 (0 : Int32) hw)
  refine vv_iconst hC d_C_settle_32 (v := (0 : Int32)) (by decide) ?_
  refine vv_istore_n hC d_C_settle_33 rfl (by decide) [1, 0] (L2 := [(0, .ref (a_C 0)), (2, .int (0 : Int32))]) rfl ?_
  obtain ⟨m34, hw⟩ := hw
  refine vv_sub [0, 1] (by rfl) (l_C_settle_L34 a_C I_C Q _ hC (fun A_C_6 hw => ?_) m34 A_C_3 (0 : Int32) hw)
  refine vv_iconst hC d_C_settle_67 (v := (0 : Int32)) (by decide) ?_
  refine vv_istore_n hC d_C_settle_68 rfl (by decide) [1, 0] (L2 := [(0, .ref (a_C 0)), (2, .int (0 : Int32))]) rfl ?_
  obtain ⟨m69, hw⟩ := hw
  refine vv_sub [0, 1] (by rfl) (l_C_settle_L69 a_C I_C Q _ hC (fun A_C_14 hw => ?_) m69 A_C_6 (0 : Int32) hw)
  exact vv_vret hC d_C_settle_122 A_C_14 hw rfl
set_option maxHeartbeats 4000000 in
set_option maxRecDepth 100000 in
theorem l_C_bitsOf_outputLiteral_L5 {p : Program} {l : Launch} {e : Env} {s : State} {m : MethodId} {args : Array Value} {below : List Frame} {meth : Method} {c : Code} {D : va_G} {cA : Nat → ClassId} {sx : Nat → Nat} {A : Nat → Prop} (a_C : Nat → Nat) (I_C : (Nat → Int32)) (A_C : (Nat → Nat → Int32)) (Q : Int32 → Prop) (X5 : Int32 → Prop) (hC : CX p s m args meth c b_C_bitsOf R_C TB 5 D vwCl (tyl cA) A (SPl sx) (some .int)) (hX5 : ∀ (v3 : Int32), X5 v3 → VV p l e ({ frames := 1, cells := 0, slots := 0, locals := 21 } : Room) s m args below meth c 5 D vwCl A 0 0 (QI below args s D vwCl (tyl cA) A (fun (r : Int32) (u : Unit) => Q r) (fun u : Unit => kc_C cA a_C I_C A_C)) (kc_C cA a_C I_C A_C) 31 [(3, .int v3)] []) : ∀ (n5 : Nat) (v2 : Int32) (v3 : Int32) (v4 : Int32), wp_C_bitsOf_outputLiteral_L5 A_C Q X5 n5 v2 v3 v4 → VV p l e ({ frames := 1, cells := 0, slots := 0, locals := 21 } : Room) s m args below meth c 5 D vwCl A 0 0 (QI below args s D vwCl (tyl cA) A (fun (r : Int32) (u : Unit) => Q r) (fun u : Unit => kc_C cA a_C I_C A_C)) (kc_C cA a_C I_C A_C) 5 [(0, .ref (a_C 0)), (1, .ref (a_C 4)), (2, .int v2), (3, .int v3), (4, .int v4)] [] := by
  intro n5
  induction n5 with
  | zero =>
    intro v2 v3 v4 hw
    exact absurd hw (fun z => z)
  | succ n5 ih =>
    intro v2 v3 v4 hw
    unfold wp_C_bitsOf_outputLiteral_L5 at hw
    refine vv_iload hC d_C_bitsOf_5 4 rfl ?_
    refine vv_iload_n hC d_C_bitsOf_7 2 rfl rfl ?_
    refine vv_icmp_ge hC 31 d_C_bitsOf_8 (by decide) (fun cd => ?_) (fun cd => ?_)
    · have hw := hw.1 cd
      exact vv_sub [3] (by rfl) (hX5 v3 hw)
    · have hw := hw.2 cd
      refine vv_iload_n hC d_C_bitsOf_11 3 rfl rfl ?_
      refine vv_aload_n hC d_C_bitsOf_12 0 rfl rfl ?_
      refine vv_aload_n hC d_C_bitsOf_13 1 rfl rfl ?_
      refine vv_iload hC d_C_bitsOf_14 4 rfl ?_
      obtain ⟨hin_1, hw⟩ := hw
      refine vv_iald hC 4 0 d_C_bitsOf_16 rfl rfl hin_1 ?_
      refine vv_callVI (wr := []) hC (c_C_bitOf l D cA sx a_C I_C A_C ((A_C 3) (v4).toNatClampNeg) _ hw) (cw_C_68 hC) d_C_bitsOf_17 [.int v3] [0, 1, 2, 3, 4, 5, 6, 7, 8, 9, 10, 11, 12] [] [0, 1, 2, 3, 4, 5, 6, 7, 8, 9, 10, 11, 12] (fun u_3 : Unit => kc_C cA a_C I_C A_C) ⟨Nat.zero_le _, Nat.zero_le _⟩ rfl rfl (fun _ => rfl) rfl rfl rfl rfl rfl rfl rfl rfl (Nat.le_of_ble_eq_true rfl) (fun r_2 u_3 hw => ?_)
      refine vv_iload hC d_C_bitsOf_20 4 rfl ?_
      refine vv_ishl hC d_C_bitsOf_22 ?_
      refine vv_ior hC d_C_bitsOf_23 ?_
      refine vv_istore_n hC d_C_bitsOf_24 rfl (by decide) [1, 2, 3, 0, 4] (L2 := [(0, .ref (a_C 0)), (1, .ref (a_C 4)), (2, .int v2), (3, .int (v3 ||| (r_2 <<< (v4 &&& 31)))), (4, .int v4)]) rfl ?_
      refine vv_iinc hC d_C_bitsOf_25 4 rfl (v := (v4 + (1 : Int32))) rfl (by decide) [1, 2, 3, 4, 0] (L2 := [(0, .ref (a_C 0)), (1, .ref (a_C 4)), (2, .int v2), (3, .int (v3 ||| (r_2 <<< (v4 &&& 31)))), (4, .int (v4 + (1 : Int32)))]) rfl ?_
      refine vv_goto hC 5 d_C_bitsOf_28 (by decide) ?_
      exact vv_sub [0, 1, 2, 3, 4] (by rfl) (ih v2 (v3 ||| (r_2 <<< (v4 &&& 31))) (v4 + (1 : Int32)) hw)
set_option maxHeartbeats 4000000 in
set_option maxRecDepth 100000 in
theorem c_C_bitsOf_outputLiteral (l : Launch) (D : va_G) (cA : Nat → ClassId) (sx : Nat → Nat) (a_C : Nat → Nat) (I_C : (Nat → Int32)) (A_C : (Nat → Nat → Int32)) (x2 : Int32) (Q : Int32 → Prop) (hw : wp_C_bitsOf_outputLiteral A_C x2 Q) : MetI l y_C_bitsOf (Cond.code y_C_bitsOf b_C_bitsOf 5 (some .int) :: TB) ({ frames := 1, cells := 0, slots := 0, locals := 21 } : Room) D vwCl (tyl cA) (SPl sx) [.ref (a_C 0), .ref (a_C 4), .int x2] (kc_C cA a_C I_C A_C) (fun (r : Int32) (u : Unit) => Q r) (fun u : Unit => kc_C cA a_C I_C A_C) := by
  refine vv_entryI (cc := b_C_bitsOf) (own := R_C) (L := [(0, .ref (a_C 0)), (1, .ref (a_C 4)), (2, .int x2)]) (by decide) rfl rfl (Nat.le_of_ble_eq_true rfl) rfl (fun p e s m args below meth c A hC => ?_)
  unfold wp_C_bitsOf_outputLiteral at hw
  refine vv_iconst hC d_C_bitsOf_0 (v := (0 : Int32)) (by decide) ?_
  refine vv_istore_n hC d_C_bitsOf_1 rfl (by decide) [1, 2, 3, 0] (L2 := [(0, .ref (a_C 0)), (1, .ref (a_C 4)), (2, .int x2), (3, .int (0 : Int32))]) rfl ?_
  refine vv_iconst hC d_C_bitsOf_2 (v := (0 : Int32)) (by decide) ?_
  refine vv_istore hC d_C_bitsOf_3 (by decide) [1, 2, 3, 4, 0] (L2 := [(0, .ref (a_C 0)), (1, .ref (a_C 4)), (2, .int x2), (3, .int (0 : Int32)), (4, .int (0 : Int32))]) rfl ?_
  obtain ⟨m5, hw⟩ := hw
  refine vv_sub [0, 1, 2, 3, 4] (by rfl) (l_C_bitsOf_outputLiteral_L5 a_C I_C A_C Q _ hC (fun v3_4 hw => ?_) m5 x2 (0 : Int32) (0 : Int32) hw)
  refine vv_iload_n hC d_C_bitsOf_31 0 rfl rfl ?_
  exact vv_iret hC d_C_bitsOf_32 () hw rfl
set_option maxHeartbeats 4000000 in
set_option maxRecDepth 100000 in
theorem l_C_bitsOf_latchNext_L5 {p : Program} {l : Launch} {e : Env} {s : State} {m : MethodId} {args : Array Value} {below : List Frame} {meth : Method} {c : Code} {D : va_G} {cA : Nat → ClassId} {sx : Nat → Nat} {A : Nat → Prop} (a_C : Nat → Nat) (I_C : (Nat → Int32)) (A_C : (Nat → Nat → Int32)) (Q : Int32 → Prop) (X5 : Int32 → Prop) (hC : CX p s m args meth c b_C_bitsOf R_C TB 5 D vwCl (tyl cA) A (SPl sx) (some .int)) (hX5 : ∀ (v3 : Int32), X5 v3 → VV p l e ({ frames := 1, cells := 0, slots := 0, locals := 21 } : Room) s m args below meth c 5 D vwCl A 0 0 (QI below args s D vwCl (tyl cA) A (fun (r : Int32) (u : Unit) => Q r) (fun u : Unit => kc_C cA a_C I_C A_C)) (kc_C cA a_C I_C A_C) 31 [(3, .int v3)] []) : ∀ (n5 : Nat) (v2 : Int32) (v3 : Int32) (v4 : Int32), wp_C_bitsOf_latchNext_L5 A_C Q X5 n5 v2 v3 v4 → VV p l e ({ frames := 1, cells := 0, slots := 0, locals := 21 } : Room) s m args below meth c 5 D vwCl A 0 0 (QI below args s D vwCl (tyl cA) A (fun (r : Int32) (u : Unit) => Q r) (fun u : Unit => kc_C cA a_C I_C A_C)) (kc_C cA a_C I_C A_C) 5 [(0, .ref (a_C 0)), (1, .ref (a_C 3)), (2, .int v2), (3, .int v3), (4, .int v4)] [] := by
  intro n5
  induction n5 with
  | zero =>
    intro v2 v3 v4 hw
    exact absurd hw (fun z => z)
  | succ n5 ih =>
    intro v2 v3 v4 hw
    unfold wp_C_bitsOf_latchNext_L5 at hw
    refine vv_iload hC d_C_bitsOf_5 4 rfl ?_
    refine vv_iload_n hC d_C_bitsOf_7 2 rfl rfl ?_
    refine vv_icmp_ge hC 31 d_C_bitsOf_8 (by decide) (fun cd => ?_) (fun cd => ?_)
    · have hw := hw.1 cd
      exact vv_sub [3] (by rfl) (hX5 v3 hw)
    · have hw := hw.2 cd
      refine vv_iload_n hC d_C_bitsOf_11 3 rfl rfl ?_
      refine vv_aload_n hC d_C_bitsOf_12 0 rfl rfl ?_
      refine vv_aload_n hC d_C_bitsOf_13 1 rfl rfl ?_
      refine vv_iload hC d_C_bitsOf_14 4 rfl ?_
      obtain ⟨hin_1, hw⟩ := hw
      refine vv_iald hC 3 0 d_C_bitsOf_16 rfl rfl hin_1 ?_
      refine vv_callVI (wr := []) hC (c_C_bitOf l D cA sx a_C I_C A_C ((A_C 2) (v4).toNatClampNeg) _ hw) (cw_C_68 hC) d_C_bitsOf_17 [.int v3] [0, 1, 2, 3, 4, 5, 6, 7, 8, 9, 10, 11, 12] [] [0, 1, 2, 3, 4, 5, 6, 7, 8, 9, 10, 11, 12] (fun u_3 : Unit => kc_C cA a_C I_C A_C) ⟨Nat.zero_le _, Nat.zero_le _⟩ rfl rfl (fun _ => rfl) rfl rfl rfl rfl rfl rfl rfl rfl (Nat.le_of_ble_eq_true rfl) (fun r_2 u_3 hw => ?_)
      refine vv_iload hC d_C_bitsOf_20 4 rfl ?_
      refine vv_ishl hC d_C_bitsOf_22 ?_
      refine vv_ior hC d_C_bitsOf_23 ?_
      refine vv_istore_n hC d_C_bitsOf_24 rfl (by decide) [1, 2, 3, 0, 4] (L2 := [(0, .ref (a_C 0)), (1, .ref (a_C 3)), (2, .int v2), (3, .int (v3 ||| (r_2 <<< (v4 &&& 31)))), (4, .int v4)]) rfl ?_
      refine vv_iinc hC d_C_bitsOf_25 4 rfl (v := (v4 + (1 : Int32))) rfl (by decide) [1, 2, 3, 4, 0] (L2 := [(0, .ref (a_C 0)), (1, .ref (a_C 3)), (2, .int v2), (3, .int (v3 ||| (r_2 <<< (v4 &&& 31)))), (4, .int (v4 + (1 : Int32)))]) rfl ?_
      refine vv_goto hC 5 d_C_bitsOf_28 (by decide) ?_
      exact vv_sub [0, 1, 2, 3, 4] (by rfl) (ih v2 (v3 ||| (r_2 <<< (v4 &&& 31))) (v4 + (1 : Int32)) hw)
set_option maxHeartbeats 4000000 in
set_option maxRecDepth 100000 in
theorem c_C_bitsOf_latchNext (l : Launch) (D : va_G) (cA : Nat → ClassId) (sx : Nat → Nat) (a_C : Nat → Nat) (I_C : (Nat → Int32)) (A_C : (Nat → Nat → Int32)) (x2 : Int32) (Q : Int32 → Prop) (hw : wp_C_bitsOf_latchNext A_C x2 Q) : MetI l y_C_bitsOf (Cond.code y_C_bitsOf b_C_bitsOf 5 (some .int) :: TB) ({ frames := 1, cells := 0, slots := 0, locals := 21 } : Room) D vwCl (tyl cA) (SPl sx) [.ref (a_C 0), .ref (a_C 3), .int x2] (kc_C cA a_C I_C A_C) (fun (r : Int32) (u : Unit) => Q r) (fun u : Unit => kc_C cA a_C I_C A_C) := by
  refine vv_entryI (cc := b_C_bitsOf) (own := R_C) (L := [(0, .ref (a_C 0)), (1, .ref (a_C 3)), (2, .int x2)]) (by decide) rfl rfl (Nat.le_of_ble_eq_true rfl) rfl (fun p e s m args below meth c A hC => ?_)
  unfold wp_C_bitsOf_latchNext at hw
  refine vv_iconst hC d_C_bitsOf_0 (v := (0 : Int32)) (by decide) ?_
  refine vv_istore_n hC d_C_bitsOf_1 rfl (by decide) [1, 2, 3, 0] (L2 := [(0, .ref (a_C 0)), (1, .ref (a_C 3)), (2, .int x2), (3, .int (0 : Int32))]) rfl ?_
  refine vv_iconst hC d_C_bitsOf_2 (v := (0 : Int32)) (by decide) ?_
  refine vv_istore hC d_C_bitsOf_3 (by decide) [1, 2, 3, 4, 0] (L2 := [(0, .ref (a_C 0)), (1, .ref (a_C 3)), (2, .int x2), (3, .int (0 : Int32)), (4, .int (0 : Int32))]) rfl ?_
  obtain ⟨m5, hw⟩ := hw
  refine vv_sub [0, 1, 2, 3, 4] (by rfl) (l_C_bitsOf_latchNext_L5 a_C I_C A_C Q _ hC (fun v3_4 hw => ?_) m5 x2 (0 : Int32) (0 : Int32) hw)
  refine vv_iload_n hC d_C_bitsOf_31 0 rfl rfl ?_
  exact vv_iret hC d_C_bitsOf_32 () hw rfl
set_option maxHeartbeats 4000000 in
set_option maxRecDepth 100000 in
theorem l_C_forget_L2 {p : Program} {l : Launch} {e : Env} {s : State} {m : MethodId} {args : Array Value} {below : List Frame} {meth : Method} {c : Code} {D : va_G} {cA : Nat → ClassId} {sx : Nat → Nat} {A : Nat → Prop} (a_C : Nat → Nat) (Q : (Nat → Int32) → (Nat → Nat → Int32) → Prop) (X2 : (Nat → Int32) → (Nat → Nat → Int32) → Prop) (hC : CX p s m args meth c b_C_forget R_C TB 2 D vwCl (tyl cA) A (SPl sx) none) (hX2 : ∀ (I_C : (Nat → Int32)) (A_C : (Nat → Nat → Int32)), X2 I_C A_C → VV p l e ({ frames := 0, cells := 0, slots := 0, locals := 0 } : Room) s m args below meth c 2 D vwCl A 0 0 (QV below args s D vwCl (tyl cA) A (fun (u : (Nat → Int32) × (Nat → Nat → Int32)) => Q u.1 u.2) (fun u : (Nat → Int32) × (Nat → Nat → Int32) => kc_C cA a_C u.1 u.2)) (kc_C cA a_C I_C A_C) 22 [(0, .ref (a_C 0))] []) : ∀ (n2 : Nat) (I_C : (Nat → Int32)) (A_C : (Nat → Nat → Int32)) (v1 : Int32), wp_C_forget_L2 Q X2 n2 I_C A_C v1 → VV p l e ({ frames := 0, cells := 0, slots := 0, locals := 0 } : Room) s m args below meth c 2 D vwCl A 0 0 (QV below args s D vwCl (tyl cA) A (fun (u : (Nat → Int32) × (Nat → Nat → Int32)) => Q u.1 u.2) (fun u : (Nat → Int32) × (Nat → Nat → Int32) => kc_C cA a_C u.1 u.2)) (kc_C cA a_C I_C A_C) 2 [(0, .ref (a_C 0)), (1, .int v1)] [] := by
  intro n2
  induction n2 with
  | zero =>
    intro I_C A_C v1 hw
    exact absurd hw (fun z => z)
  | succ n2 ih =>
    intro I_C A_C v1 hw
    unfold wp_C_forget_L2 at hw
    refine vv_iload_n hC d_C_forget_2 1 rfl rfl ?_
    refine vv_sipush hC d_C_forget_3 (v := (400 : Int32)) (by decide) ?_
    refine vv_icmp_gt hC 22 d_C_forget_6 (by decide) (fun cd => ?_) (fun cd => ?_)
    · have hw := hw.1 cd
      exact vv_sub [0] (by rfl) (hX2 I_C A_C hw)
    · have hw := hw.2 cd
      refine vv_aload_n hC d_C_forget_9 0 rfl rfl ?_
      refine vv_get hC (v := .ref (a_C 9)) hin_C 0 14 tb_201 d_C_forget_10 rfl rfl (by decide) rfl rfl ?_
      refine vv_iload_n hC d_C_forget_13 1 rfl rfl ?_
      refine vv_iconst hC d_C_forget_14 (v := (0 : Int32)) (by decide) ?_
      obtain ⟨hin_1, hw⟩ := hw
      refine vv_zast hC 9 1 d_C_forget_15 rfl rfl hin_1 (ws2 := kc_C cA a_C I_C (va_up A_C 8 (upd (A_C 8) (v1).toNatClampNeg (0 : Int32)))) (st_C_CA8 ..) ?_
      refine vv_iinc hC d_C_forget_16 1 rfl (v := (v1 + (1 : Int32))) rfl (by decide) [1, 0] (L2 := [(0, .ref (a_C 0)), (1, .int (v1 + (1 : Int32)))]) rfl ?_
      refine vv_goto hC 2 d_C_forget_19 (by decide) ?_
      exact vv_sub [0, 1] (by rfl) (ih I_C (va_up A_C 8 (upd (A_C 8) (v1).toNatClampNeg (0 : Int32))) (v1 + (1 : Int32)) hw)
set_option maxHeartbeats 4000000 in
set_option maxRecDepth 100000 in
theorem l_C_forget_L24 {p : Program} {l : Launch} {e : Env} {s : State} {m : MethodId} {args : Array Value} {below : List Frame} {meth : Method} {c : Code} {D : va_G} {cA : Nat → ClassId} {sx : Nat → Nat} {A : Nat → Prop} (a_C : Nat → Nat) (Q : (Nat → Int32) → (Nat → Nat → Int32) → Prop) (X24 : (Nat → Int32) → (Nat → Nat → Int32) → Prop) (hC : CX p s m args meth c b_C_forget R_C TB 2 D vwCl (tyl cA) A (SPl sx) none) (hX24 : ∀ (I_C : (Nat → Int32)) (A_C : (Nat → Nat → Int32)), X24 I_C A_C → VV p l e ({ frames := 0, cells := 0, slots := 0, locals := 0 } : Room) s m args below meth c 2 D vwCl A 0 0 (QV below args s D vwCl (tyl cA) A (fun (u : (Nat → Int32) × (Nat → Nat → Int32)) => Q u.1 u.2) (fun u : (Nat → Int32) × (Nat → Nat → Int32) => kc_C cA a_C u.1 u.2)) (kc_C cA a_C I_C A_C) 43 [(0, .ref (a_C 0))] []) : ∀ (n24 : Nat) (I_C : (Nat → Int32)) (A_C : (Nat → Nat → Int32)) (v1 : Int32), wp_C_forget_L24 Q X24 n24 I_C A_C v1 → VV p l e ({ frames := 0, cells := 0, slots := 0, locals := 0 } : Room) s m args below meth c 2 D vwCl A 0 0 (QV below args s D vwCl (tyl cA) A (fun (u : (Nat → Int32) × (Nat → Nat → Int32)) => Q u.1 u.2) (fun u : (Nat → Int32) × (Nat → Nat → Int32) => kc_C cA a_C u.1 u.2)) (kc_C cA a_C I_C A_C) 24 [(0, .ref (a_C 0)), (1, .int v1)] [] := by
  intro n24
  induction n24 with
  | zero =>
    intro I_C A_C v1 hw
    exact absurd hw (fun z => z)
  | succ n24 ih =>
    intro I_C A_C v1 hw
    unfold wp_C_forget_L24 at hw
    refine vv_iload_n hC d_C_forget_24 1 rfl rfl ?_
    refine vv_bipush hC d_C_forget_25 (v := (24 : Int32)) (by decide) ?_
    refine vv_icmp_ge hC 43 d_C_forget_27 (by decide) (fun cd => ?_) (fun cd => ?_)
    · have hw := hw.1 cd
      exact vv_sub [0] (by rfl) (hX24 I_C A_C hw)
    · have hw := hw.2 cd
      refine vv_aload_n hC d_C_forget_30 0 rfl rfl ?_
      refine vv_get hC (v := .ref (a_C 10)) hin_C 0 15 tb_203 d_C_forget_31 rfl rfl (by decide) rfl rfl ?_
      refine vv_iload_n hC d_C_forget_34 1 rfl rfl ?_
      refine vv_iconst hC d_C_forget_35 (v := (0 : Int32)) (by decide) ?_
      obtain ⟨hin_4, hw⟩ := hw
      refine vv_iast hC 10 0 d_C_forget_36 rfl rfl hin_4 (ws2 := kc_C cA a_C I_C (va_up A_C 9 (upd (A_C 9) (v1).toNatClampNeg (0 : Int32)))) (st_C_CA9 ..) ?_
      refine vv_iinc hC d_C_forget_37 1 rfl (v := (v1 + (1 : Int32))) rfl (by decide) [1, 0] (L2 := [(0, .ref (a_C 0)), (1, .int (v1 + (1 : Int32)))]) rfl ?_
      refine vv_goto hC 24 d_C_forget_40 (by decide) ?_
      exact vv_sub [0, 1] (by rfl) (ih I_C (va_up A_C 9 (upd (A_C 9) (v1).toNatClampNeg (0 : Int32))) (v1 + (1 : Int32)) hw)
set_option maxHeartbeats 4000000 in
set_option maxRecDepth 100000 in
theorem c_C_forget (l : Launch) (D : va_G) (cA : Nat → ClassId) (sx : Nat → Nat) (a_C : Nat → Nat) (I_C : (Nat → Int32)) (A_C : (Nat → Nat → Int32)) (Q : (Nat → Int32) → (Nat → Nat → Int32) → Prop) (hw : wp_C_forget I_C A_C Q) : MetV l y_C_forget (Cond.code y_C_forget b_C_forget 2 none :: TB) ({ frames := 0, cells := 0, slots := 0, locals := 0 } : Room) D vwCl (tyl cA) (SPl sx) [.ref (a_C 0)] (kc_C cA a_C I_C A_C) (fun (u : (Nat → Int32) × (Nat → Nat → Int32)) => Q u.1 u.2) (fun u : (Nat → Int32) × (Nat → Nat → Int32) => kc_C cA a_C u.1 u.2) := by
  refine vv_entryV (cc := b_C_forget) (own := R_C) (L := [(0, .ref (a_C 0))]) (by decide) rfl rfl (Nat.le_of_ble_eq_true rfl) rfl (fun p e s m args below meth c A hC => ?_)
  unfold wp_C_forget at hw
  refine vv_iconst hC d_C_forget_0 (v := (0 : Int32)) (by decide) ?_
  refine vv_istore_n hC d_C_forget_1 rfl (by decide) [1, 0] (L2 := [(0, .ref (a_C 0)), (1, .int (0 : Int32))]) rfl ?_
  obtain ⟨m2, hw⟩ := hw
  refine vv_sub [0, 1] (by rfl) (l_C_forget_L2 a_C Q _ hC (fun I_C_2 A_C_3 hw => ?_) m2 I_C A_C (0 : Int32) hw)
  refine vv_iconst hC d_C_forget_22 (v := (0 : Int32)) (by decide) ?_
  refine vv_istore_n hC d_C_forget_23 rfl (by decide) [1, 0] (L2 := [(0, .ref (a_C 0)), (1, .int (0 : Int32))]) rfl ?_
  obtain ⟨m24, hw⟩ := hw
  refine vv_sub [0, 1] (by rfl) (l_C_forget_L24 a_C Q _ hC (fun I_C_5 A_C_6 hw => ?_) m24 I_C_2 A_C_3 (0 : Int32) hw)
  refine vv_aload_n hC d_C_forget_43 0 rfl rfl ?_
  refine vv_iconst hC d_C_forget_44 (v := (0 : Int32)) (by decide) ?_
  refine vv_put hC hin_C ty_C tyok_C nmok_C 0 5 tb_170 d_C_forget_45 rfl rfl (by decide) rfl rfl rfl rfl rfl (Nat.le_of_ble_eq_true rfl) (ws2 := kc_C cA a_C (va_up I_C_5 5 (0 : Int32)) A_C_6) (st_C_CI5 ..) ?_
  exact vv_vret hC d_C_forget_48 ((va_up I_C_5 5 (0 : Int32)), A_C_6) hw rfl
set_option maxHeartbeats 4000000 in
set_option maxRecDepth 100000 in
theorem c_C_isWithinBounds (l : Launch) (D : va_G) (cA : Nat → ClassId) (sx : Nat → Nat) (a_C : Nat → Nat) (I_C : (Nat → Int32)) (A_C : (Nat → Nat → Int32)) (x1 : Int32) (Q : Int32 → Prop) (hw : wp_C_isWithinBounds I_C x1 Q) : MetI l y_C_isWithinBounds (Cond.code y_C_isWithinBounds b_C_isWithinBounds 3 (some .boolean) :: TB) ({ frames := 0, cells := 0, slots := 0, locals := 0 } : Room) D vwCl (tyl cA) (SPl sx) [.ref (a_C 0), .int x1] (kc_C cA a_C I_C A_C) (fun (r : Int32) (u : Unit) => Q r) (fun u : Unit => kc_C cA a_C I_C A_C) := by
  refine vv_entryI (cc := b_C_isWithinBounds) (own := R_C) (L := [(0, .ref (a_C 0)), (1, .int x1)]) (by decide) rfl rfl (Nat.le_of_ble_eq_true rfl) rfl (fun p e s m args below meth c A hC => ?_)
  unfold wp_C_isWithinBounds at hw
  refine vv_aload_n hC d_C_isWithinBounds_0 0 rfl rfl ?_
  refine vv_get hC (v := .int (I_C 1)) hin_C 0 1 tb_153 d_C_isWithinBounds_1 rfl rfl (by decide) rfl rfl ?_
  refine vv_aload_n hC d_C_isWithinBounds_4 0 rfl rfl ?_
  refine vv_get hC (v := .int (I_C 2)) hin_C 0 2 tb_157 d_C_isWithinBounds_5 rfl rfl (by decide) rfl rfl ?_
  refine vv_iadd hC d_C_isWithinBounds_8 ?_
  refine vv_aload_n hC d_C_isWithinBounds_9 0 rfl rfl ?_
  refine vv_get hC (v := .int (I_C 4)) hin_C 0 4 tb_165 d_C_isWithinBounds_10 rfl rfl (by decide) rfl rfl ?_
  refine vv_iadd hC d_C_isWithinBounds_13 ?_
  refine vv_istore_n hC d_C_isWithinBounds_14 rfl (by decide) [1, 2, 0] (L2 := [(0, .ref (a_C 0)), (1, .int x1), (2, .int (((I_C 1) + (I_C 2)) + (I_C 4)))]) rfl ?_
  refine vv_aload_n hC d_C_isWithinBounds_15 0 rfl rfl ?_
  refine vv_get hC (v := .int (I_C 0)) hin_C 0 0 tb_148 d_C_isWithinBounds_16 rfl rfl (by decide) rfl rfl ?_
  refine vv_sipush hC d_C_isWithinBounds_19 (v := (400 : Int32)) (by decide) ?_
  refine vv_icmp_gt hC 89 d_C_isWithinBounds_22 (by decide) (fun cd => ?_) (fun cd => ?_)
  · have hw := hw.1 cd
    refine vv_iconst hC d_C_isWithinBounds_89 (v := (0 : Int32)) (by decide) ?_
    exact vv_zret hC d_C_isWithinBounds_90 rfl () hw rfl
  · have hw := hw.2 cd
    refine vv_aload_n hC d_C_isWithinBounds_25 0 rfl rfl ?_
    refine vv_get hC (v := .int (I_C 1)) hin_C 0 1 tb_153 d_C_isWithinBounds_26 rfl rfl (by decide) rfl rfl ?_
    refine vv_bipush hC d_C_isWithinBounds_29 (v := (6 : Int32)) (by decide) ?_
    refine vv_icmp_gt hC 89 d_C_isWithinBounds_31 (by decide) (fun cd => ?_) (fun cd => ?_)
    · have hw := hw.1 cd
      refine vv_iconst hC d_C_isWithinBounds_89 (v := (0 : Int32)) (by decide) ?_
      exact vv_zret hC d_C_isWithinBounds_90 rfl () hw rfl
    · have hw := hw.2 cd
      refine vv_aload_n hC d_C_isWithinBounds_34 0 rfl rfl ?_
      refine vv_get hC (v := .int (I_C 2)) hin_C 0 2 tb_157 d_C_isWithinBounds_35 rfl rfl (by decide) rfl rfl ?_
      refine vv_bipush hC d_C_isWithinBounds_38 (v := (7 : Int32)) (by decide) ?_
      refine vv_icmp_gt hC 89 d_C_isWithinBounds_40 (by decide) (fun cd => ?_) (fun cd => ?_)
      · have hw := hw.1 cd
        refine vv_iconst hC d_C_isWithinBounds_89 (v := (0 : Int32)) (by decide) ?_
        exact vv_zret hC d_C_isWithinBounds_90 rfl () hw rfl
      · have hw := hw.2 cd
        refine vv_aload_n hC d_C_isWithinBounds_43 0 rfl rfl ?_
        refine vv_get hC (v := .int (I_C 3)) hin_C 0 3 tb_161 d_C_isWithinBounds_44 rfl rfl (by decide) rfl rfl ?_
        refine vv_bipush hC d_C_isWithinBounds_47 (v := (8 : Int32)) (by decide) ?_
        refine vv_icmp_gt hC 89 d_C_isWithinBounds_49 (by decide) (fun cd => ?_) (fun cd => ?_)
        · have hw := hw.1 cd
          refine vv_iconst hC d_C_isWithinBounds_89 (v := (0 : Int32)) (by decide) ?_
          exact vv_zret hC d_C_isWithinBounds_90 rfl () hw rfl
        · have hw := hw.2 cd
          refine vv_aload_n hC d_C_isWithinBounds_52 0 rfl rfl ?_
          refine vv_get hC (v := .int (I_C 4)) hin_C 0 4 tb_165 d_C_isWithinBounds_53 rfl rfl (by decide) rfl rfl ?_
          refine vv_sipush hC d_C_isWithinBounds_56 (v := (300 : Int32)) (by decide) ?_
          refine vv_icmp_gt hC 89 d_C_isWithinBounds_59 (by decide) (fun cd => ?_) (fun cd => ?_)
          · have hw := hw.1 cd
            refine vv_iconst hC d_C_isWithinBounds_89 (v := (0 : Int32)) (by decide) ?_
            exact vv_zret hC d_C_isWithinBounds_90 rfl () hw rfl
          · have hw := hw.2 cd
            refine vv_iload_n hC d_C_isWithinBounds_62 1 rfl rfl ?_
            refine vv_if_eq hC 77 d_C_isWithinBounds_63 (by decide) (fun cd => ?_) (fun cd => ?_)
            · have hw := hw.1 cd
              refine vv_aload_n hC d_C_isWithinBounds_77 0 rfl rfl ?_
              refine vv_get hC (v := .int (I_C 0)) hin_C 0 0 tb_148 d_C_isWithinBounds_78 rfl rfl (by decide) rfl rfl ?_
              refine vv_iload_n hC d_C_isWithinBounds_81 2 rfl rfl ?_
              refine vv_icmp_lt hC 89 d_C_isWithinBounds_82 (by decide) (fun cd => ?_) (fun cd => ?_)
              · have hw := hw.1 cd
                refine vv_iconst hC d_C_isWithinBounds_89 (v := (0 : Int32)) (by decide) ?_
                exact vv_zret hC d_C_isWithinBounds_90 rfl () hw rfl
              · have hw := hw.2 cd
                refine vv_iconst hC d_C_isWithinBounds_85 (v := (1 : Int32)) (by decide) ?_
                refine vv_goto hC 90 d_C_isWithinBounds_86 (by decide) ?_
                exact vv_zret hC d_C_isWithinBounds_90 rfl () hw rfl
            · have hw := hw.2 cd
              refine vv_aload_n hC d_C_isWithinBounds_66 0 rfl rfl ?_
              refine vv_get hC (v := .int (I_C 0)) hin_C 0 0 tb_148 d_C_isWithinBounds_67 rfl rfl (by decide) rfl rfl ?_
              refine vv_iload_n hC d_C_isWithinBounds_70 2 rfl rfl ?_
              refine vv_icmp_ne hC 89 d_C_isWithinBounds_71 (by decide) (fun cd => ?_) (fun cd => ?_)
              · have hw := hw.2 cd
                refine vv_iconst hC d_C_isWithinBounds_89 (v := (0 : Int32)) (by decide) ?_
                exact vv_zret hC d_C_isWithinBounds_90 rfl () hw rfl
              · have hw := hw.1 cd
                refine vv_goto hC 85 d_C_isWithinBounds_74 (by decide) ?_
                refine vv_iconst hC d_C_isWithinBounds_85 (v := (1 : Int32)) (by decide) ?_
                refine vv_goto hC 90 d_C_isWithinBounds_86 (by decide) ?_
                exact vv_zret hC d_C_isWithinBounds_90 rfl () hw rfl
end
section
theorem d_S_awaitAnds_0 : decode b_S_awaitAnds 0 = .ok (.iconst 0, 1) := by decide +kernel
theorem d_S_awaitAnds_1 : decode b_S_awaitAnds 1 = .ok (.istore_n 2, 1) := by decide +kernel
theorem d_S_awaitAnds_2 : decode b_S_awaitAnds 2 = .ok (.iload_n 2, 1) := by decide +kernel
theorem d_S_awaitAnds_3 : decode b_S_awaitAnds 3 = .ok (.sipush 400, 3) := by decide +kernel
theorem d_S_awaitAnds_6 : decode b_S_awaitAnds 6 = .ok (.if_icmp .gt 16, 3) := by decide +kernel
theorem d_S_awaitAnds_9 : decode b_S_awaitAnds 9 = .ok (.aload_n 0, 1) := by decide +kernel
theorem d_S_awaitAnds_10 : decode b_S_awaitAnds 10 = .ok (.getfield 9, 3) := by decide +kernel
theorem d_S_awaitAnds_13 : decode b_S_awaitAnds 13 = .ok (.iload_n 2, 1) := by decide +kernel
theorem d_S_awaitAnds_14 : decode b_S_awaitAnds 14 = .ok (.iconst 1, 1) := by decide +kernel
theorem d_S_awaitAnds_15 : decode b_S_awaitAnds 15 = .ok (.bastore, 1) := by decide +kernel
theorem d_S_awaitAnds_16 : decode b_S_awaitAnds 16 = .ok (.iinc 2 1, 3) := by decide +kernel
theorem d_S_awaitAnds_19 : decode b_S_awaitAnds 19 = .ok (.goto (-17), 3) := by decide +kernel
theorem d_S_awaitAnds_22 : decode b_S_awaitAnds 22 = .ok (.iconst 0, 1) := by decide +kernel
theorem d_S_awaitAnds_23 : decode b_S_awaitAnds 23 = .ok (.istore_n 2, 1) := by decide +kernel
theorem d_S_awaitAnds_24 : decode b_S_awaitAnds 24 = .ok (.iload_n 2, 1) := by decide +kernel
theorem d_S_awaitAnds_25 : decode b_S_awaitAnds 25 = .ok (.aload_n 1, 1) := by decide +kernel
theorem d_S_awaitAnds_26 : decode b_S_awaitAnds 26 = .ok (.getfield 33, 3) := by decide +kernel
theorem d_S_awaitAnds_29 : decode b_S_awaitAnds 29 = .ok (.if_icmp .ge 33, 3) := by decide +kernel
theorem d_S_awaitAnds_32 : decode b_S_awaitAnds 32 = .ok (.aload_n 0, 1) := by decide +kernel
theorem d_S_awaitAnds_33 : decode b_S_awaitAnds 33 = .ok (.getfield 9, 3) := by decide +kernel
theorem d_S_awaitAnds_36 : decode b_S_awaitAnds 36 = .ok (.aload_n 1, 1) := by decide +kernel
theorem d_S_awaitAnds_37 : decode b_S_awaitAnds 37 = .ok (.getfield 38, 3) := by decide +kernel
theorem d_S_awaitAnds_40 : decode b_S_awaitAnds 40 = .ok (.iload_n 2, 1) := by decide +kernel
theorem d_S_awaitAnds_41 : decode b_S_awaitAnds 41 = .ok (.iaload, 1) := by decide +kernel
theorem d_S_awaitAnds_42 : decode b_S_awaitAnds 42 = .ok (.iconst 0, 1) := by decide +kernel
theorem d_S_awaitAnds_43 : decode b_S_awaitAnds 43 = .ok (.bastore, 1) := by decide +kernel
theorem d_S_awaitAnds_44 : decode b_S_awaitAnds 44 = .ok (.aload_n 0, 1) := by decide +kernel
theorem d_S_awaitAnds_45 : decode b_S_awaitAnds 45 = .ok (.getfield 18, 3) := by decide +kernel
theorem d_S_awaitAnds_48 : decode b_S_awaitAnds 48 = .ok (.aload_n 1, 1) := by decide +kernel
theorem d_S_awaitAnds_49 : decode b_S_awaitAnds 49 = .ok (.getfield 38, 3) := by decide +kernel
theorem d_S_awaitAnds_52 : decode b_S_awaitAnds 52 = .ok (.iload_n 2, 1) := by decide +kernel
theorem d_S_awaitAnds_53 : decode b_S_awaitAnds 53 = .ok (.iaload, 1) := by decide +kernel
theorem d_S_awaitAnds_54 : decode b_S_awaitAnds 54 = .ok (.iload_n 2, 1) := by decide +kernel
theorem d_S_awaitAnds_55 : decode b_S_awaitAnds 55 = .ok (.iastore, 1) := by decide +kernel
theorem d_S_awaitAnds_56 : decode b_S_awaitAnds 56 = .ok (.iinc 2 1, 3) := by decide +kernel
theorem d_S_awaitAnds_59 : decode b_S_awaitAnds 59 = .ok (.goto (-35), 3) := by decide +kernel
theorem d_S_awaitAnds_62 : decode b_S_awaitAnds 62 = .ok (.return_, 1) := by decide +kernel
theorem d_S_firstReady_0 : decode b_S_firstReady 0 = .ok (.iload_n 2, 1) := by decide +kernel
theorem d_S_firstReady_1 : decode b_S_firstReady 1 = .ok (.istore_n 3, 1) := by decide +kernel
theorem d_S_firstReady_2 : decode b_S_firstReady 2 = .ok (.iload_n 3, 1) := by decide +kernel
theorem d_S_firstReady_3 : decode b_S_firstReady 3 = .ok (.aload_n 1, 1) := by decide +kernel
theorem d_S_firstReady_4 : decode b_S_firstReady 4 = .ok (.getfield 33, 3) := by decide +kernel
theorem d_S_firstReady_7 : decode b_S_firstReady 7 = .ok (.if_icmp .ge 57, 3) := by decide +kernel
theorem d_S_firstReady_10 : decode b_S_firstReady 10 = .ok (.aload_n 0, 1) := by decide +kernel
theorem d_S_firstReady_11 : decode b_S_firstReady 11 = .ok (.getfield 9, 3) := by decide +kernel
theorem d_S_firstReady_14 : decode b_S_firstReady 14 = .ok (.aload_n 1, 1) := by decide +kernel
theorem d_S_firstReady_15 : decode b_S_firstReady 15 = .ok (.getfield 38, 3) := by decide +kernel
theorem d_S_firstReady_18 : decode b_S_firstReady 18 = .ok (.iload_n 3, 1) := by decide +kernel
theorem d_S_firstReady_19 : decode b_S_firstReady 19 = .ok (.iaload, 1) := by decide +kernel
theorem d_S_firstReady_20 : decode b_S_firstReady 20 = .ok (.baload, 1) := by decide +kernel
theorem d_S_firstReady_21 : decode b_S_firstReady 21 = .ok (.ifCond .ne 37, 3) := by decide +kernel
theorem d_S_firstReady_24 : decode b_S_firstReady 24 = .ok (.aload_n 0, 1) := by decide +kernel
theorem d_S_firstReady_25 : decode b_S_firstReady 25 = .ok (.getfield 9, 3) := by decide +kernel
theorem d_S_firstReady_28 : decode b_S_firstReady 28 = .ok (.aload_n 1, 1) := by decide +kernel
theorem d_S_firstReady_29 : decode b_S_firstReady 29 = .ok (.getfield 48, 3) := by decide +kernel
theorem d_S_firstReady_32 : decode b_S_firstReady 32 = .ok (.iload_n 3, 1) := by decide +kernel
theorem d_S_firstReady_33 : decode b_S_firstReady 33 = .ok (.iaload, 1) := by decide +kernel
theorem d_S_firstReady_34 : decode b_S_firstReady 34 = .ok (.iconst 1, 1) := by decide +kernel
theorem d_S_firstReady_35 : decode b_S_firstReady 35 = .ok (.ishr, 1) := by decide +kernel
theorem d_S_firstReady_36 : decode b_S_firstReady 36 = .ok (.baload, 1) := by decide +kernel
theorem d_S_firstReady_37 : decode b_S_firstReady 37 = .ok (.ifCond .eq 21, 3) := by decide +kernel
theorem d_S_firstReady_40 : decode b_S_firstReady 40 = .ok (.aload_n 0, 1) := by decide +kernel
theorem d_S_firstReady_41 : decode b_S_firstReady 41 = .ok (.getfield 9, 3) := by decide +kernel
theorem d_S_firstReady_44 : decode b_S_firstReady 44 = .ok (.aload_n 1, 1) := by decide +kernel
theorem d_S_firstReady_45 : decode b_S_firstReady 45 = .ok (.getfield 51, 3) := by decide +kernel
theorem d_S_firstReady_48 : decode b_S_firstReady 48 = .ok (.iload_n 3, 1) := by decide +kernel
theorem d_S_firstReady_49 : decode b_S_firstReady 49 = .ok (.iaload, 1) := by decide +kernel
theorem d_S_firstReady_50 : decode b_S_firstReady 50 = .ok (.iconst 1, 1) := by decide +kernel
theorem d_S_firstReady_51 : decode b_S_firstReady 51 = .ok (.ishr, 1) := by decide +kernel
theorem d_S_firstReady_52 : decode b_S_firstReady 52 = .ok (.baload, 1) := by decide +kernel
theorem d_S_firstReady_53 : decode b_S_firstReady 53 = .ok (.ifCond .eq 5, 3) := by decide +kernel
theorem d_S_firstReady_56 : decode b_S_firstReady 56 = .ok (.iload_n 3, 1) := by decide +kernel
theorem d_S_firstReady_57 : decode b_S_firstReady 57 = .ok (.ireturn, 1) := by decide +kernel
theorem d_S_firstReady_58 : decode b_S_firstReady 58 = .ok (.iinc 3 1, 3) := by decide +kernel
theorem d_S_firstReady_61 : decode b_S_firstReady 61 = .ok (.goto (-59), 3) := by decide +kernel
theorem d_S_firstReady_64 : decode b_S_firstReady 64 = .ok (.iconst (-1), 1) := by decide +kernel
theorem d_S_firstReady_65 : decode b_S_firstReady 65 = .ok (.ireturn, 1) := by decide +kernel
theorem d_S_putInOrder_0 : decode b_S_putInOrder 0 = .ok (.aload_n 0, 1) := by decide +kernel
theorem d_S_putInOrder_1 : decode b_S_putInOrder 1 = .ok (.aload_n 1, 1) := by decide +kernel
theorem d_S_putInOrder_2 : decode b_S_putInOrder 2 = .ok (.invokevirtual 29, 3) := by decide +kernel
theorem d_S_putInOrder_5 : decode b_S_putInOrder 5 = .ok (.iconst 0, 1) := by decide +kernel
theorem d_S_putInOrder_6 : decode b_S_putInOrder 6 = .ok (.istore_n 2, 1) := by decide +kernel
theorem d_S_putInOrder_7 : decode b_S_putInOrder 7 = .ok (.iconst 0, 1) := by decide +kernel
theorem d_S_putInOrder_8 : decode b_S_putInOrder 8 = .ok (.istore_n 3, 1) := by decide +kernel
theorem d_S_putInOrder_9 : decode b_S_putInOrder 9 = .ok (.iload_n 3, 1) := by decide +kernel
theorem d_S_putInOrder_10 : decode b_S_putInOrder 10 = .ok (.aload_n 1, 1) := by decide +kernel
theorem d_S_putInOrder_11 : decode b_S_putInOrder 11 = .ok (.getfield 33, 3) := by decide +kernel
theorem d_S_putInOrder_14 : decode b_S_putInOrder 14 = .ok (.if_icmp .ge 74, 3) := by decide +kernel
theorem d_S_putInOrder_17 : decode b_S_putInOrder 17 = .ok (.iload_n 2, 1) := by decide +kernel
theorem d_S_putInOrder_18 : decode b_S_putInOrder 18 = .ok (.aload_n 1, 1) := by decide +kernel
theorem d_S_putInOrder_19 : decode b_S_putInOrder 19 = .ok (.getfield 33, 3) := by decide +kernel
theorem d_S_putInOrder_22 : decode b_S_putInOrder 22 = .ok (.if_icmp .ge 23, 3) := by decide +kernel
theorem d_S_putInOrder_25 : decode b_S_putInOrder 25 = .ok (.aload_n 0, 1) := by decide +kernel
theorem d_S_putInOrder_26 : decode b_S_putInOrder 26 = .ok (.getfield 9, 3) := by decide +kernel
theorem d_S_putInOrder_29 : decode b_S_putInOrder 29 = .ok (.aload_n 1, 1) := by decide +kernel
theorem d_S_putInOrder_30 : decode b_S_putInOrder 30 = .ok (.getfield 38, 3) := by decide +kernel
theorem d_S_putInOrder_33 : decode b_S_putInOrder 33 = .ok (.iload_n 2, 1) := by decide +kernel
theorem d_S_putInOrder_34 : decode b_S_putInOrder 34 = .ok (.iaload, 1) := by decide +kernel
theorem d_S_putInOrder_35 : decode b_S_putInOrder 35 = .ok (.baload, 1) := by decide +kernel
theorem d_S_putInOrder_36 : decode b_S_putInOrder 36 = .ok (.ifCond .eq 9, 3) := by decide +kernel
theorem d_S_putInOrder_39 : decode b_S_putInOrder 39 = .ok (.iinc 2 1, 3) := by decide +kernel
theorem d_S_putInOrder_42 : decode b_S_putInOrder 42 = .ok (.goto (-25), 3) := by decide +kernel
theorem d_S_putInOrder_45 : decode b_S_putInOrder 45 = .ok (.aload_n 0, 1) := by decide +kernel
theorem d_S_putInOrder_46 : decode b_S_putInOrder 46 = .ok (.aload_n 1, 1) := by decide +kernel
theorem d_S_putInOrder_47 : decode b_S_putInOrder 47 = .ok (.iload_n 2, 1) := by decide +kernel
theorem d_S_putInOrder_48 : decode b_S_putInOrder 48 = .ok (.invokevirtual 41, 3) := by decide +kernel
theorem d_S_putInOrder_51 : decode b_S_putInOrder 51 = .ok (.istore 4, 2) := by decide +kernel
theorem d_S_putInOrder_53 : decode b_S_putInOrder 53 = .ok (.iload 4, 2) := by decide +kernel
theorem d_S_putInOrder_55 : decode b_S_putInOrder 55 = .ok (.iconst (-1), 1) := by decide +kernel
theorem d_S_putInOrder_56 : decode b_S_putInOrder 56 = .ok (.if_icmp .ne 5, 3) := by decide +kernel
theorem d_S_putInOrder_59 : decode b_S_putInOrder 59 = .ok (.iconst 0, 1) := by decide +kernel
theorem d_S_putInOrder_60 : decode b_S_putInOrder 60 = .ok (.ireturn, 1) := by decide +kernel
theorem d_S_putInOrder_61 : decode b_S_putInOrder 61 = .ok (.aload_n 1, 1) := by decide +kernel
theorem d_S_putInOrder_62 : decode b_S_putInOrder 62 = .ok (.getfield 45, 3) := by decide +kernel
theorem d_S_putInOrder_65 : decode b_S_putInOrder 65 = .ok (.iload_n 3, 1) := by decide +kernel
theorem d_S_putInOrder_66 : decode b_S_putInOrder 66 = .ok (.iload 4, 2) := by decide +kernel
theorem d_S_putInOrder_68 : decode b_S_putInOrder 68 = .ok (.iastore, 1) := by decide +kernel
theorem d_S_putInOrder_69 : decode b_S_putInOrder 69 = .ok (.aload_n 0, 1) := by decide +kernel
theorem d_S_putInOrder_70 : decode b_S_putInOrder 70 = .ok (.getfield 9, 3) := by decide +kernel
theorem d_S_putInOrder_73 : decode b_S_putInOrder 73 = .ok (.aload_n 1, 1) := by decide +kernel
theorem d_S_putInOrder_74 : decode b_S_putInOrder 74 = .ok (.getfield 38, 3) := by decide +kernel
theorem d_S_putInOrder_77 : decode b_S_putInOrder 77 = .ok (.iload 4, 2) := by decide +kernel
theorem d_S_putInOrder_79 : decode b_S_putInOrder 79 = .ok (.iaload, 1) := by decide +kernel
theorem d_S_putInOrder_80 : decode b_S_putInOrder 80 = .ok (.iconst 1, 1) := by decide +kernel
theorem d_S_putInOrder_81 : decode b_S_putInOrder 81 = .ok (.bastore, 1) := by decide +kernel
theorem d_S_putInOrder_82 : decode b_S_putInOrder 82 = .ok (.iinc 3 1, 3) := by decide +kernel
theorem d_S_putInOrder_85 : decode b_S_putInOrder 85 = .ok (.goto (-76), 3) := by decide +kernel
theorem d_S_putInOrder_88 : decode b_S_putInOrder 88 = .ok (.iconst 1, 1) := by decide +kernel
theorem d_S_putInOrder_89 : decode b_S_putInOrder 89 = .ok (.ireturn, 1) := by decide +kernel
theorem d_S_reach_0 : decode b_S_reach 0 = .ok (.aload_n 0, 1) := by decide +kernel
theorem d_S_reach_1 : decode b_S_reach 1 = .ok (.getfield 9, 3) := by decide +kernel
theorem d_S_reach_4 : decode b_S_reach 4 = .ok (.iload_n 1, 1) := by decide +kernel
theorem d_S_reach_5 : decode b_S_reach 5 = .ok (.baload, 1) := by decide +kernel
theorem d_S_reach_6 : decode b_S_reach 6 = .ok (.ifCond .ne 51, 3) := by decide +kernel
theorem d_S_reach_9 : decode b_S_reach 9 = .ok (.aload_n 0, 1) := by decide +kernel
theorem d_S_reach_10 : decode b_S_reach 10 = .ok (.getfield 15, 3) := by decide +kernel
theorem d_S_reach_13 : decode b_S_reach 13 = .ok (.iload_n 1, 1) := by decide +kernel
theorem d_S_reach_14 : decode b_S_reach 14 = .ok (.baload, 1) := by decide +kernel
theorem d_S_reach_15 : decode b_S_reach 15 = .ok (.ifCond .ne 42, 3) := by decide +kernel
theorem d_S_reach_18 : decode b_S_reach 18 = .ok (.aload_n 0, 1) := by decide +kernel
theorem d_S_reach_19 : decode b_S_reach 19 = .ok (.getfield 25, 3) := by decide +kernel
theorem d_S_reach_22 : decode b_S_reach 22 = .ok (.aload_n 0, 1) := by decide +kernel
theorem d_S_reach_23 : decode b_S_reach 23 = .ok (.getfield 22, 3) := by decide +kernel
theorem d_S_reach_26 : decode b_S_reach 26 = .ok (.arraylength, 1) := by decide +kernel
theorem d_S_reach_27 : decode b_S_reach 27 = .ok (.if_icmp .ge 30, 3) := by decide +kernel
theorem d_S_reach_30 : decode b_S_reach 30 = .ok (.aload_n 0, 1) := by decide +kernel
theorem d_S_reach_31 : decode b_S_reach 31 = .ok (.getfield 15, 3) := by decide +kernel
theorem d_S_reach_34 : decode b_S_reach 34 = .ok (.iload_n 1, 1) := by decide +kernel
theorem d_S_reach_35 : decode b_S_reach 35 = .ok (.iconst 1, 1) := by decide +kernel
theorem d_S_reach_36 : decode b_S_reach 36 = .ok (.bastore, 1) := by decide +kernel
theorem d_S_reach_37 : decode b_S_reach 37 = .ok (.aload_n 0, 1) := by decide +kernel
theorem d_S_reach_38 : decode b_S_reach 38 = .ok (.getfield 22, 3) := by decide +kernel
theorem d_S_reach_41 : decode b_S_reach 41 = .ok (.aload_n 0, 1) := by decide +kernel
theorem d_S_reach_42 : decode b_S_reach 42 = .ok (.getfield 25, 3) := by decide +kernel
theorem d_S_reach_45 : decode b_S_reach 45 = .ok (.iload_n 1, 1) := by decide +kernel
theorem d_S_reach_46 : decode b_S_reach 46 = .ok (.iastore, 1) := by decide +kernel
theorem d_S_reach_47 : decode b_S_reach 47 = .ok (.aload_n 0, 1) := by decide +kernel
theorem d_S_reach_48 : decode b_S_reach 48 = .ok (.dup, 1) := by decide +kernel
theorem d_S_reach_49 : decode b_S_reach 49 = .ok (.getfield 25, 3) := by decide +kernel
theorem d_S_reach_52 : decode b_S_reach 52 = .ok (.iconst 1, 1) := by decide +kernel
theorem d_S_reach_53 : decode b_S_reach 53 = .ok (.iadd, 1) := by decide +kernel
theorem d_S_reach_54 : decode b_S_reach 54 = .ok (.putfield 25, 3) := by decide +kernel
theorem d_S_reach_57 : decode b_S_reach 57 = .ok (.return_, 1) := by decide +kernel
theorem d_S_reachesItself_0 : decode b_S_reachesItself 0 = .ok (.iconst 0, 1) := by decide +kernel
theorem d_S_reachesItself_1 : decode b_S_reachesItself 1 = .ok (.istore_n 3, 1) := by decide +kernel
theorem d_S_reachesItself_2 : decode b_S_reachesItself 2 = .ok (.iload_n 3, 1) := by decide +kernel
theorem d_S_reachesItself_3 : decode b_S_reachesItself 3 = .ok (.sipush 400, 3) := by decide +kernel
theorem d_S_reachesItself_6 : decode b_S_reachesItself 6 = .ok (.if_icmp .gt 16, 3) := by decide +kernel
theorem d_S_reachesItself_9 : decode b_S_reachesItself 9 = .ok (.aload_n 0, 1) := by decide +kernel
theorem d_S_reachesItself_10 : decode b_S_reachesItself 10 = .ok (.getfield 15, 3) := by decide +kernel
theorem d_S_reachesItself_13 : decode b_S_reachesItself 13 = .ok (.iload_n 3, 1) := by decide +kernel
theorem d_S_reachesItself_14 : decode b_S_reachesItself 14 = .ok (.iconst 0, 1) := by decide +kernel
theorem d_S_reachesItself_15 : decode b_S_reachesItself 15 = .ok (.bastore, 1) := by decide +kernel
theorem d_S_reachesItself_16 : decode b_S_reachesItself 16 = .ok (.iinc 3 1, 3) := by decide +kernel
theorem d_S_reachesItself_19 : decode b_S_reachesItself 19 = .ok (.goto (-17), 3) := by decide +kernel
theorem d_S_reachesItself_22 : decode b_S_reachesItself 22 = .ok (.aload_n 0, 1) := by decide +kernel
theorem d_S_reachesItself_23 : decode b_S_reachesItself 23 = .ok (.getfield 22, 3) := by decide +kernel
theorem d_S_reachesItself_26 : decode b_S_reachesItself 26 = .ok (.iconst 0, 1) := by decide +kernel
theorem d_S_reachesItself_27 : decode b_S_reachesItself 27 = .ok (.iload_n 2, 1) := by decide +kernel
theorem d_S_reachesItself_28 : decode b_S_reachesItself 28 = .ok (.iastore, 1) := by decide +kernel
theorem d_S_reachesItself_29 : decode b_S_reachesItself 29 = .ok (.aload_n 0, 1) := by decide +kernel
theorem d_S_reachesItself_30 : decode b_S_reachesItself 30 = .ok (.iconst 1, 1) := by decide +kernel
theorem d_S_reachesItself_31 : decode b_S_reachesItself 31 = .ok (.putfield 25, 3) := by decide +kernel
theorem d_S_reachesItself_34 : decode b_S_reachesItself 34 = .ok (.iconst 0, 1) := by decide +kernel
theorem d_S_reachesItself_35 : decode b_S_reachesItself 35 = .ok (.istore_n 3, 1) := by decide +kernel
theorem d_S_reachesItself_36 : decode b_S_reachesItself 36 = .ok (.aload_n 0, 1) := by decide +kernel
theorem d_S_reachesItself_37 : decode b_S_reachesItself 37 = .ok (.getfield 25, 3) := by decide +kernel
theorem d_S_reachesItself_40 : decode b_S_reachesItself 40 = .ok (.ifCond .le 68, 3) := by decide +kernel
theorem d_S_reachesItself_43 : decode b_S_reachesItself 43 = .ok (.iload_n 3, 1) := by decide +kernel
theorem d_S_reachesItself_44 : decode b_S_reachesItself 44 = .ok (.sipush 300, 3) := by decide +kernel
theorem d_S_reachesItself_47 : decode b_S_reachesItself 47 = .ok (.if_icmp .gt 61, 3) := by decide +kernel
theorem d_S_reachesItself_50 : decode b_S_reachesItself 50 = .ok (.aload_n 0, 1) := by decide +kernel
theorem d_S_reachesItself_51 : decode b_S_reachesItself 51 = .ok (.dup, 1) := by decide +kernel
theorem d_S_reachesItself_52 : decode b_S_reachesItself 52 = .ok (.getfield 25, 3) := by decide +kernel
theorem d_S_reachesItself_55 : decode b_S_reachesItself 55 = .ok (.iconst 1, 1) := by decide +kernel
theorem d_S_reachesItself_56 : decode b_S_reachesItself 56 = .ok (.isub, 1) := by decide +kernel
theorem d_S_reachesItself_57 : decode b_S_reachesItself 57 = .ok (.putfield 25, 3) := by decide +kernel
theorem d_S_reachesItself_60 : decode b_S_reachesItself 60 = .ok (.aload_n 0, 1) := by decide +kernel
theorem d_S_reachesItself_61 : decode b_S_reachesItself 61 = .ok (.getfield 18, 3) := by decide +kernel
theorem d_S_reachesItself_64 : decode b_S_reachesItself 64 = .ok (.aload_n 0, 1) := by decide +kernel
theorem d_S_reachesItself_65 : decode b_S_reachesItself 65 = .ok (.getfield 22, 3) := by decide +kernel
theorem d_S_reachesItself_68 : decode b_S_reachesItself 68 = .ok (.aload_n 0, 1) := by decide +kernel
theorem d_S_reachesItself_69 : decode b_S_reachesItself 69 = .ok (.getfield 25, 3) := by decide +kernel
theorem d_S_reachesItself_72 : decode b_S_reachesItself 72 = .ok (.iaload, 1) := by decide +kernel
theorem d_S_reachesItself_73 : decode b_S_reachesItself 73 = .ok (.iaload, 1) := by decide +kernel
theorem d_S_reachesItself_74 : decode b_S_reachesItself 74 = .ok (.istore 4, 2) := by decide +kernel
theorem d_S_reachesItself_76 : decode b_S_reachesItself 76 = .ok (.aload_n 0, 1) := by decide +kernel
theorem d_S_reachesItself_77 : decode b_S_reachesItself 77 = .ok (.aload_n 1, 1) := by decide +kernel
theorem d_S_reachesItself_78 : decode b_S_reachesItself 78 = .ok (.getfield 48, 3) := by decide +kernel
theorem d_S_reachesItself_81 : decode b_S_reachesItself 81 = .ok (.iload 4, 2) := by decide +kernel
theorem d_S_reachesItself_83 : decode b_S_reachesItself 83 = .ok (.iaload, 1) := by decide +kernel
theorem d_S_reachesItself_84 : decode b_S_reachesItself 84 = .ok (.iconst 1, 1) := by decide +kernel
theorem d_S_reachesItself_85 : decode b_S_reachesItself 85 = .ok (.ishr, 1) := by decide +kernel
theorem d_S_reachesItself_86 : decode b_S_reachesItself 86 = .ok (.invokevirtual 61, 3) := by decide +kernel
theorem d_S_reachesItself_89 : decode b_S_reachesItself 89 = .ok (.aload_n 0, 1) := by decide +kernel
theorem d_S_reachesItself_90 : decode b_S_reachesItself 90 = .ok (.aload_n 1, 1) := by decide +kernel
theorem d_S_reachesItself_91 : decode b_S_reachesItself 91 = .ok (.getfield 51, 3) := by decide +kernel
theorem d_S_reachesItself_94 : decode b_S_reachesItself 94 = .ok (.iload 4, 2) := by decide +kernel
theorem d_S_reachesItself_96 : decode b_S_reachesItself 96 = .ok (.iaload, 1) := by decide +kernel
theorem d_S_reachesItself_97 : decode b_S_reachesItself 97 = .ok (.iconst 1, 1) := by decide +kernel
theorem d_S_reachesItself_98 : decode b_S_reachesItself 98 = .ok (.ishr, 1) := by decide +kernel
theorem d_S_reachesItself_99 : decode b_S_reachesItself 99 = .ok (.invokevirtual 61, 3) := by decide +kernel
theorem d_S_reachesItself_102 : decode b_S_reachesItself 102 = .ok (.iinc 3 1, 3) := by decide +kernel
theorem d_S_reachesItself_105 : decode b_S_reachesItself 105 = .ok (.goto (-69), 3) := by decide +kernel
theorem d_S_reachesItself_108 : decode b_S_reachesItself 108 = .ok (.aload_n 0, 1) := by decide +kernel
theorem d_S_reachesItself_109 : decode b_S_reachesItself 109 = .ok (.getfield 15, 3) := by decide +kernel
theorem d_S_reachesItself_112 : decode b_S_reachesItself 112 = .ok (.iload_n 2, 1) := by decide +kernel
theorem d_S_reachesItself_113 : decode b_S_reachesItself 113 = .ok (.baload, 1) := by decide +kernel
theorem d_S_reachesItself_114 : decode b_S_reachesItself 114 = .ok (.ireturn, 1) := by decide +kernel
theorem d_S_lowestOnLoop_0 : decode b_S_lowestOnLoop 0 = .ok (.iconst 1, 1) := by decide +kernel
theorem d_S_lowestOnLoop_1 : decode b_S_lowestOnLoop 1 = .ok (.istore_n 2, 1) := by decide +kernel
theorem d_S_lowestOnLoop_2 : decode b_S_lowestOnLoop 2 = .ok (.iload_n 2, 1) := by decide +kernel
theorem d_S_lowestOnLoop_3 : decode b_S_lowestOnLoop 3 = .ok (.aload_n 1, 1) := by decide +kernel
theorem d_S_lowestOnLoop_4 : decode b_S_lowestOnLoop 4 = .ok (.getfield 54, 3) := by decide +kernel
theorem d_S_lowestOnLoop_7 : decode b_S_lowestOnLoop 7 = .ok (.if_icmp .gt 29, 3) := by decide +kernel
theorem d_S_lowestOnLoop_10 : decode b_S_lowestOnLoop 10 = .ok (.aload_n 0, 1) := by decide +kernel
theorem d_S_lowestOnLoop_11 : decode b_S_lowestOnLoop 11 = .ok (.getfield 9, 3) := by decide +kernel
theorem d_S_lowestOnLoop_14 : decode b_S_lowestOnLoop 14 = .ok (.iload_n 2, 1) := by decide +kernel
theorem d_S_lowestOnLoop_15 : decode b_S_lowestOnLoop 15 = .ok (.baload, 1) := by decide +kernel
theorem d_S_lowestOnLoop_16 : decode b_S_lowestOnLoop 16 = .ok (.ifCond .ne 14, 3) := by decide +kernel
theorem d_S_lowestOnLoop_19 : decode b_S_lowestOnLoop 19 = .ok (.aload_n 0, 1) := by decide +kernel
theorem d_S_lowestOnLoop_20 : decode b_S_lowestOnLoop 20 = .ok (.aload_n 1, 1) := by decide +kernel
theorem d_S_lowestOnLoop_21 : decode b_S_lowestOnLoop 21 = .ok (.iload_n 2, 1) := by decide +kernel
theorem d_S_lowestOnLoop_22 : decode b_S_lowestOnLoop 22 = .ok (.invokevirtual 57, 3) := by decide +kernel
theorem d_S_lowestOnLoop_25 : decode b_S_lowestOnLoop 25 = .ok (.ifCond .eq 5, 3) := by decide +kernel
theorem d_S_lowestOnLoop_28 : decode b_S_lowestOnLoop 28 = .ok (.iload_n 2, 1) := by decide +kernel
theorem d_S_lowestOnLoop_29 : decode b_S_lowestOnLoop 29 = .ok (.ireturn, 1) := by decide +kernel
theorem d_S_lowestOnLoop_30 : decode b_S_lowestOnLoop 30 = .ok (.iinc 2 1, 3) := by decide +kernel
theorem d_S_lowestOnLoop_33 : decode b_S_lowestOnLoop 33 = .ok (.goto (-31), 3) := by decide +kernel
theorem d_S_lowestOnLoop_36 : decode b_S_lowestOnLoop 36 = .ok (.iconst (-1), 1) := by decide +kernel
theorem d_S_lowestOnLoop_37 : decode b_S_lowestOnLoop 37 = .ok (.ireturn, 1) := by decide +kernel
end
section
theorem tb_p28 : Cond.selects R_S y_S_reach y_S_reach ∈ TB := tb_mem (i := 28) (by decide +kernel) (by decide +kernel)
theorem tb_p27 : Cond.selects R_S y_S_reachesItself y_S_reachesItself ∈ TB := tb_mem (i := 27) (by decide +kernel) (by decide +kernel)
theorem tb_p26 : Cond.selects R_S y_S_firstReady y_S_firstReady ∈ TB := tb_mem (i := 26) (by decide +kernel) (by decide +kernel)
theorem tb_p25 : Cond.selects R_S y_S_awaitAnds y_S_awaitAnds ∈ TB := tb_mem (i := 25) (by decide +kernel) (by decide +kernel)
theorem tb_4 : Cond.initialized R_S ∈ TB := tb_mem (i := 67) (by decide +kernel) (by decide +kernel)
theorem tb_57 : Cond.fieldLink R_S 9 "CircuitFiles$AndSorter" "come" "[Z" ∈ TB := tb_mem (i := 120) (by decide +kernel) (by decide +kernel)
theorem tb_58 : Cond.fieldLink R_S 15 "CircuitFiles$AndSorter" "reached" "[Z" ∈ TB := tb_mem (i := 121) (by decide +kernel) (by decide +kernel)
theorem tb_59 : Cond.fieldLink R_S 18 "CircuitFiles$AndSorter" "andOf" "[I" ∈ TB := tb_mem (i := 122) (by decide +kernel) (by decide +kernel)
theorem tb_60 : Cond.fieldLink R_S 22 "CircuitFiles$AndSorter" "stack" "[I" ∈ TB := tb_mem (i := 123) (by decide +kernel) (by decide +kernel)
theorem tb_61 : Cond.fieldLink R_S 25 "CircuitFiles$AndSorter" "height" "I" ∈ TB := tb_mem (i := 124) (by decide +kernel) (by decide +kernel)
theorem tb_150 : Cond.fieldLink R_S 54 "CircuitFiles$Circuit" "top" "I" ∈ TB := tb_mem (i := 213) (by decide +kernel) (by decide +kernel)
theorem tb_166 : Cond.fieldLink R_S 33 "CircuitFiles$Circuit" "ands" "I" ∈ TB := tb_mem (i := 229) (by decide +kernel) (by decide +kernel)
theorem tb_187 : Cond.fieldLink R_S 38 "CircuitFiles$Circuit" "andVariable" "[I" ∈ TB := tb_mem (i := 250) (by decide +kernel) (by decide +kernel)
theorem tb_191 : Cond.fieldLink R_S 48 "CircuitFiles$Circuit" "andFirst" "[I" ∈ TB := tb_mem (i := 254) (by decide +kernel) (by decide +kernel)
theorem tb_195 : Cond.fieldLink R_S 51 "CircuitFiles$Circuit" "andSecond" "[I" ∈ TB := tb_mem (i := 258) (by decide +kernel) (by decide +kernel)
theorem tb_199 : Cond.fieldLink R_S 45 "CircuitFiles$Circuit" "order" "[I" ∈ TB := tb_mem (i := 262) (by decide +kernel) (by decide +kernel)
theorem tb_573 : Cond.methodLink R_S 29 y_S_awaitAnds ∈ TB := tb_mem (i := 636) (by decide +kernel) (by decide +kernel)
theorem tb_575 : Cond.instanceMethod y_S_awaitAnds ∈ TB := tb_mem (i := 638) (by decide +kernel) (by decide +kernel)
theorem tb_576 : Cond.code y_S_awaitAnds b_S_awaitAnds 3 none ∈ TB := tb_mem (i := 639) (by decide +kernel) (by decide +kernel)
theorem tb_577 : Cond.methodLink R_S 41 y_S_firstReady ∈ TB := tb_mem (i := 640) (by decide +kernel) (by decide +kernel)
theorem tb_579 : Cond.instanceMethod y_S_firstReady ∈ TB := tb_mem (i := 642) (by decide +kernel) (by decide +kernel)
theorem tb_580 : Cond.code y_S_firstReady b_S_firstReady 4 (some .int) ∈ TB := tb_mem (i := 643) (by decide +kernel) (by decide +kernel)
theorem tb_585 : Cond.methodLink R_S 57 y_S_reachesItself ∈ TB := tb_mem (i := 648) (by decide +kernel) (by decide +kernel)
theorem tb_587 : Cond.instanceMethod y_S_reachesItself ∈ TB := tb_mem (i := 650) (by decide +kernel) (by decide +kernel)
theorem tb_588 : Cond.code y_S_reachesItself b_S_reachesItself 5 (some .boolean) ∈ TB := tb_mem (i := 651) (by decide +kernel) (by decide +kernel)
theorem tb_589 : Cond.methodLink R_S 61 y_S_reach ∈ TB := tb_mem (i := 652) (by decide +kernel) (by decide +kernel)
theorem tb_591 : Cond.instanceMethod y_S_reach ∈ TB := tb_mem (i := 654) (by decide +kernel) (by decide +kernel)
theorem tb_592 : Cond.code y_S_reach b_S_reach 2 none ∈ TB := tb_mem (i := 655) (by decide +kernel) (by decide +kernel)
theorem cw_S_29 {p : Program} {R : Room} {s : State} {m : MethodId} {args : Array Value} {meth : Method} {c : Code} {cc : ByteArray} {nL : Nat} {D : va_G} {sx : Nat → Nat} {tys : List (ClassId × FieldType)} {A : Nat → Prop} {ret : Option FieldType} (hC : CX p s m args meth c cc R_S TB nL D vwCl tys A (SPl sx) ret) (hR : ({ frames := 0, cells := 0, slots := 0, locals := 0 } : Room).frames + 1 ≤ R.frames ∧ 8 + (3 + 11) + ({ frames := 0, cells := 0, slots := 0, locals := 0 } : Room).locals ≤ R.locals := by exact ⟨Nat.le_of_ble_eq_true rfl, Nat.le_of_ble_eq_true rfl⟩) : CallW R s args R_S R_S 29 y_S_awaitAnds b_S_awaitAnds 3 none (Cond.code y_S_awaitAnds b_S_awaitAnds 3 none :: TB) ({ frames := 0, cells := 0, slots := 0, locals := 0 } : Room) 0 0 1 := cwV 1 hC.2.2.2.2.1 (gV tb_573 tb_575 tb_p25 tb_4 tb_576) rfl rfl rfl (by decide +kernel) hR
theorem cw_S_41 {p : Program} {R : Room} {s : State} {m : MethodId} {args : Array Value} {meth : Method} {c : Code} {cc : ByteArray} {nL : Nat} {D : va_G} {sx : Nat → Nat} {tys : List (ClassId × FieldType)} {A : Nat → Prop} {ret : Option FieldType} (hC : CX p s m args meth c cc R_S TB nL D vwCl tys A (SPl sx) ret) (hR : ({ frames := 0, cells := 0, slots := 0, locals := 0 } : Room).frames + 1 ≤ R.frames ∧ 8 + (4 + 11) + ({ frames := 0, cells := 0, slots := 0, locals := 0 } : Room).locals ≤ R.locals := by exact ⟨Nat.le_of_ble_eq_true rfl, Nat.le_of_ble_eq_true rfl⟩) : CallW R s args R_S R_S 41 y_S_firstReady b_S_firstReady 4 (some .int) (Cond.code y_S_firstReady b_S_firstReady 4 (some .int) :: TB) ({ frames := 0, cells := 0, slots := 0, locals := 0 } : Room) 0 0 2 := cwV 2 hC.2.2.2.2.1 (gV tb_577 tb_579 tb_p26 tb_4 tb_580) rfl rfl rfl (by decide +kernel) hR
theorem cw_S_57 {p : Program} {R : Room} {s : State} {m : MethodId} {args : Array Value} {meth : Method} {c : Code} {cc : ByteArray} {nL : Nat} {D : va_G} {sx : Nat → Nat} {tys : List (ClassId × FieldType)} {A : Nat → Prop} {ret : Option FieldType} (hC : CX p s m args meth c cc R_S TB nL D vwCl tys A (SPl sx) ret) (hR : ({ frames := 1, cells := 0, slots := 0, locals := 21 } : Room).frames + 1 ≤ R.frames ∧ 8 + (5 + 11) + ({ frames := 1, cells := 0, slots := 0, locals := 21 } : Room).locals ≤ R.locals := by exact ⟨Nat.le_of_ble_eq_true rfl, Nat.le_of_ble_eq_true rfl⟩) : CallW R s args R_S R_S 57 y_S_reachesItself b_S_reachesItself 5 (some .boolean) (Cond.code y_S_reachesItself b_S_reachesItself 5 (some .boolean) :: TB) ({ frames := 1, cells := 0, slots := 0, locals := 21 } : Room) 0 0 2 := cwV 2 hC.2.2.2.2.1 (gV tb_585 tb_587 tb_p27 tb_4 tb_588) rfl rfl rfl (by decide +kernel) hR
theorem cw_S_61 {p : Program} {R : Room} {s : State} {m : MethodId} {args : Array Value} {meth : Method} {c : Code} {cc : ByteArray} {nL : Nat} {D : va_G} {sx : Nat → Nat} {tys : List (ClassId × FieldType)} {A : Nat → Prop} {ret : Option FieldType} (hC : CX p s m args meth c cc R_S TB nL D vwCl tys A (SPl sx) ret) (hR : ({ frames := 0, cells := 0, slots := 0, locals := 0 } : Room).frames + 1 ≤ R.frames ∧ 8 + (2 + 11) + ({ frames := 0, cells := 0, slots := 0, locals := 0 } : Room).locals ≤ R.locals := by exact ⟨Nat.le_of_ble_eq_true rfl, Nat.le_of_ble_eq_true rfl⟩) : CallW R s args R_S R_S 61 y_S_reach b_S_reach 2 none (Cond.code y_S_reach b_S_reach 2 none :: TB) ({ frames := 0, cells := 0, slots := 0, locals := 0 } : Room) 0 0 1 := cwV 1 hC.2.2.2.2.1 (gV tb_589 tb_591 tb_p28 tb_4 tb_592) rfl rfl rfl (by decide +kernel) hR
theorem st_SC_CA7 {cA : Nat → ClassId} {a_S a_C : Nat → Nat} {I_S : Nat → Int32} {A_S : Nat → Nat → Int32} {I_C : Nat → Int32} {A_C : Nat → Nat → Int32} {f : Nat → Int32} : (kc_S cA a_S I_S A_S ++ kc_C cA a_C I_C A_C).set 13 (a_C 8, .inl (cA 0, 300, .inl f)) = kc_S cA a_S I_S A_S ++ kc_C cA a_C I_C (va_up A_C 7 f) := rfl
theorem st_SC_SA0 {cA : Nat → ClassId} {a_S a_C : Nat → Nat} {I_S : Nat → Int32} {A_S : Nat → Nat → Int32} {I_C : Nat → Int32} {A_C : Nat → Nat → Int32} {f : Nat → Int32} : (kc_S cA a_S I_S A_S ++ kc_C cA a_C I_C A_C).set 1 (a_S 1, .inl (cA 1, 401, .inl f)) = kc_S cA a_S I_S (va_up A_S 0 f) ++ kc_C cA a_C I_C A_C := rfl
theorem st_SC_SA1 {cA : Nat → ClassId} {a_S a_C : Nat → Nat} {I_S : Nat → Int32} {A_S : Nat → Nat → Int32} {I_C : Nat → Int32} {A_C : Nat → Nat → Int32} {f : Nat → Int32} : (kc_S cA a_S I_S A_S ++ kc_C cA a_C I_C A_C).set 2 (a_S 2, .inl (cA 1, 401, .inl f)) = kc_S cA a_S I_S (va_up A_S 1 f) ++ kc_C cA a_C I_C A_C := rfl
theorem st_SC_SA2 {cA : Nat → ClassId} {a_S a_C : Nat → Nat} {I_S : Nat → Int32} {A_S : Nat → Nat → Int32} {I_C : Nat → Int32} {A_C : Nat → Nat → Int32} {f : Nat → Int32} : (kc_S cA a_S I_S A_S ++ kc_C cA a_C I_C A_C).set 3 (a_S 3, .inl (cA 0, 401, .inl f)) = kc_S cA a_S I_S (va_up A_S 2 f) ++ kc_C cA a_C I_C A_C := rfl
theorem st_SC_SA3 {cA : Nat → ClassId} {a_S a_C : Nat → Nat} {I_S : Nat → Int32} {A_S : Nat → Nat → Int32} {I_C : Nat → Int32} {A_C : Nat → Nat → Int32} {f : Nat → Int32} : (kc_S cA a_S I_S A_S ++ kc_C cA a_C I_C A_C).set 4 (a_S 4, .inl (cA 0, 301, .inl f)) = kc_S cA a_S I_S (va_up A_S 3 f) ++ kc_C cA a_C I_C A_C := rfl
theorem st_SC_SI0 {cA : Nat → ClassId} {a_S a_C : Nat → Nat} {I_S : Nat → Int32} {A_S : Nat → Nat → Int32} {I_C : Nat → Int32} {A_C : Nat → Nat → Int32} {v : Int32} : (kc_S cA a_S I_S A_S ++ kc_C cA a_C I_C A_C).set 0 (a_S 0, .inr (3, ([.ref (a_S 1), .ref (a_S 2), .ref (a_S 3), .ref (a_S 4), .int (I_S 0)] : List Value).set 4 (.int v))) = kc_S cA a_S (va_up I_S 0 v) A_S ++ kc_C cA a_C I_C A_C := rfl
theorem st_S_SA1 {cA : Nat → ClassId} {a_S : Nat → Nat} {I_S : Nat → Int32} {A_S : Nat → Nat → Int32} {f : Nat → Int32} : (kc_S cA a_S I_S A_S).set 2 (a_S 2, .inl (cA 1, 401, .inl f)) = kc_S cA a_S I_S (va_up A_S 1 f) := rfl
theorem st_S_SA3 {cA : Nat → ClassId} {a_S : Nat → Nat} {I_S : Nat → Int32} {A_S : Nat → Nat → Int32} {f : Nat → Int32} : (kc_S cA a_S I_S A_S).set 4 (a_S 4, .inl (cA 0, 301, .inl f)) = kc_S cA a_S I_S (va_up A_S 3 f) := rfl
theorem st_S_SI0 {cA : Nat → ClassId} {a_S : Nat → Nat} {I_S : Nat → Int32} {A_S : Nat → Nat → Int32} {v : Int32} : (kc_S cA a_S I_S A_S).set 0 (a_S 0, .inr (3, ([.ref (a_S 1), .ref (a_S 2), .ref (a_S 3), .ref (a_S 4), .int (I_S 0)] : List Value).set 4 (.int v))) = kc_S cA a_S (va_up I_S 0 v) A_S := rfl
end
section
def wp_S_awaitAnds_L2 (I_C : (Nat → Int32)) (A_C : (Nat → Nat → Int32)) (Q : (Nat → Nat → Int32) → Prop) (X2 : (Nat → Nat → Int32) → Prop) : Nat → (Nat → Nat → Int32) → Int32 → Prop
  | 0 => fun _ _ => False
  | n2 + 1 => fun A_S v2 => (((400 : Int32) < v2) → X2 A_S) ∧ ((¬ (400 : Int32) < v2) → vp_in v2 401 ∧ ((wp_S_awaitAnds_L2 I_C A_C Q X2 n2) (va_up A_S 0 (upd (A_S 0) (v2).toNatClampNeg (1 : Int32))) (v2 + (1 : Int32))))
def wp_S_awaitAnds_L24 (I_C : (Nat → Int32)) (A_C : (Nat → Nat → Int32)) (Q : (Nat → Nat → Int32) → Prop) (X24 : (Nat → Nat → Int32) → Prop) : Nat → (Nat → Nat → Int32) → Int32 → Prop
  | 0 => fun _ _ => False
  | n24 + 1 => fun A_S v2 => (((I_C 4) ≤ v2) → X24 A_S) ∧ ((¬ (I_C 4) ≤ v2) → vp_in v2 300 ∧ (vp_in ((A_C 4) (v2).toNatClampNeg) 401 ∧ ((wp_S_awaitAnds_L24 I_C A_C Q X24 n24) (va_up (va_up A_S 0 (upd (A_S 0) (((A_C 4) (v2).toNatClampNeg)).toNatClampNeg (0 : Int32))) 2 (upd (A_S 2) (((A_C 4) (v2).toNatClampNeg)).toNatClampNeg v2)) (v2 + (1 : Int32)))))
def wp_S_awaitAnds (A_S : (Nat → Nat → Int32)) (I_C : (Nat → Int32)) (A_C : (Nat → Nat → Int32)) (Q : (Nat → Nat → Int32) → Prop) : Prop := ∃ m2, wp_S_awaitAnds_L2 I_C A_C Q (fun A_S_2 => ∃ m24, wp_S_awaitAnds_L24 I_C A_C Q (fun A_S_5 => Q A_S_5) m24 A_S_2 (0 : Int32)) m2 A_S (0 : Int32)
def wp_S_firstReady_L2 (A_S : (Nat → Nat → Int32)) (I_C : (Nat → Int32)) (A_C : (Nat → Nat → Int32)) (Q : Int32 → Prop) (X2 : Prop) : Nat → Int32 → Prop
  | 0 => fun _ => False
  | n2 + 1 => fun v3 => (((I_C 4) ≤ v3) → X2) ∧ ((¬ (I_C 4) ≤ v3) → vp_in v3 300 ∧ (vp_in ((A_C 4) (v3).toNatClampNeg) 401 ∧ (((((A_S 0) (((A_C 4) (v3).toNatClampNeg)).toNatClampNeg) = 0) → vp_in (((A_C 5) (v3).toNatClampNeg) >>> ((1 : Int32) &&& 31)) 401 ∧ (((((A_S 0) ((((A_C 5) (v3).toNatClampNeg) >>> ((1 : Int32) &&& 31))).toNatClampNeg) = 0) → (wp_S_firstReady_L2 A_S I_C A_C Q X2 n2) (v3 + (1 : Int32))) ∧ ((¬ ((A_S 0) ((((A_C 5) (v3).toNatClampNeg) >>> ((1 : Int32) &&& 31))).toNatClampNeg) = 0) → vp_in (((A_C 6) (v3).toNatClampNeg) >>> ((1 : Int32) &&& 31)) 401 ∧ (((((A_S 0) ((((A_C 6) (v3).toNatClampNeg) >>> ((1 : Int32) &&& 31))).toNatClampNeg) = 0) → (wp_S_firstReady_L2 A_S I_C A_C Q X2 n2) (v3 + (1 : Int32))) ∧ ((¬ ((A_S 0) ((((A_C 6) (v3).toNatClampNeg) >>> ((1 : Int32) &&& 31))).toNatClampNeg) = 0) → Q v3))))) ∧ ((¬ ((A_S 0) (((A_C 4) (v3).toNatClampNeg)).toNatClampNeg) = 0) → (wp_S_firstReady_L2 A_S I_C A_C Q X2 n2) (v3 + (1 : Int32))))))
def wp_S_firstReady (A_S : (Nat → Nat → Int32)) (I_C : (Nat → Int32)) (A_C : (Nat → Nat → Int32)) (x2 : Int32) (Q : Int32 → Prop) : Prop := ∃ m2, wp_S_firstReady_L2 A_S I_C A_C Q (Q (-1 : Int32)) m2 x2
def wp_S_putInOrder_L17 (I_C : (Nat → Int32)) (Q : Int32 → (Nat → Nat → Int32) → (Nat → Nat → Int32) → Prop) (K9 : (Nat → Nat → Int32) → (Nat → Nat → Int32) → Int32 → Int32 → Prop) (X9 : (Nat → Nat → Int32) → (Nat → Nat → Int32) → Prop) (X17 : (Nat → Nat → Int32) → (Nat → Nat → Int32) → Int32 → Int32 → Prop) : Nat → (Nat → Nat → Int32) → (Nat → Nat → Int32) → Int32 → Int32 → Prop
  | 0 => fun _ _ _ _ => False
  | n17 + 1 => fun A_S A_C v2 v3 => (((I_C 4) ≤ v2) → X17 A_S A_C v2 v3) ∧ ((¬ (I_C 4) ≤ v2) → vp_in v2 300 ∧ (vp_in ((A_C 4) (v2).toNatClampNeg) 401 ∧ (((((A_S 0) (((A_C 4) (v2).toNatClampNeg)).toNatClampNeg) = 0) → X17 A_S A_C v2 v3) ∧ ((¬ ((A_S 0) (((A_C 4) (v2).toNatClampNeg)).toNatClampNeg) = 0) → (wp_S_putInOrder_L17 I_C Q K9 X9 X17 n17) A_S A_C (v2 + (1 : Int32)) v3))))
def wp_S_putInOrder_L9 (I_C : (Nat → Int32)) (Q : Int32 → (Nat → Nat → Int32) → (Nat → Nat → Int32) → Prop) (X9 : (Nat → Nat → Int32) → (Nat → Nat → Int32) → Prop) : Nat → (Nat → Nat → Int32) → (Nat → Nat → Int32) → Int32 → Int32 → Prop
  | 0 => fun _ _ _ _ => False
  | n9 + 1 => fun A_S A_C v2 v3 => (((I_C 4) ≤ v3) → X9 A_S A_C) ∧ ((¬ (I_C 4) ≤ v3) → ∃ m17, wp_S_putInOrder_L17 I_C Q (wp_S_putInOrder_L9 I_C Q X9 n9) X9 (fun A_S_5 A_C_6 v2_7 v3_8 => wp_S_firstReady A_S_5 I_C A_C_6 v2_7 (fun r_9 => ((r_9 = (-1 : Int32)) → Q (0 : Int32) A_S_5 A_C_6) ∧ ((¬ r_9 = (-1 : Int32)) → vp_in v3_8 300 ∧ (vp_in r_9 300 ∧ (vp_in ((A_C_6 4) (r_9).toNatClampNeg) 401 ∧ ((wp_S_putInOrder_L9 I_C Q X9 n9) (va_up A_S_5 0 (upd (A_S_5 0) (((A_C_6 4) (r_9).toNatClampNeg)).toNatClampNeg (1 : Int32))) (va_up A_C_6 7 (upd (A_C_6 7) (v3_8).toNatClampNeg r_9)) v2_7 (v3_8 + (1 : Int32)))))))) m17 A_S A_C v2 v3)
def wp_S_putInOrder (A_S : (Nat → Nat → Int32)) (I_C : (Nat → Int32)) (A_C : (Nat → Nat → Int32)) (Q : Int32 → (Nat → Nat → Int32) → (Nat → Nat → Int32) → Prop) : Prop := wp_S_awaitAnds A_S I_C A_C (fun A_S_2 => ∃ m9, wp_S_putInOrder_L9 I_C Q (fun A_S_14 A_C_15 => Q (1 : Int32) A_S_14 A_C_15) m9 A_S_2 A_C (0 : Int32) (0 : Int32))
def wp_S_reach (I_S : (Nat → Int32)) (A_S : (Nat → Nat → Int32)) (x1 : Int32) (Q : (Nat → Int32) → (Nat → Nat → Int32) → Prop) : Prop := vp_in x1 401 ∧ (((((A_S 0) (x1).toNatClampNeg) = 0) → ((((A_S 1) (x1).toNatClampNeg) = 0) → (((301 : Int32) ≤ (I_S 0)) → Q I_S A_S) ∧ ((¬ (301 : Int32) ≤ (I_S 0)) → vp_in (I_S 0) 301 ∧ (Q (va_up I_S 0 ((I_S 0) + (1 : Int32))) (va_up (va_up A_S 1 (upd (A_S 1) (x1).toNatClampNeg (1 : Int32))) 3 (upd (A_S 3) ((I_S 0)).toNatClampNeg x1))))) ∧ ((¬ ((A_S 1) (x1).toNatClampNeg) = 0) → Q I_S A_S)) ∧ ((¬ ((A_S 0) (x1).toNatClampNeg) = 0) → Q I_S A_S))
def wp_S_reachesItself_L2 (A_C : (Nat → Nat → Int32)) (Q : Int32 → (Nat → Int32) → (Nat → Nat → Int32) → Prop) (X2 : (Nat → Int32) → (Nat → Nat → Int32) → Int32 → Prop) : Nat → (Nat → Int32) → (Nat → Nat → Int32) → Int32 → Int32 → Prop
  | 0 => fun _ _ _ _ => False
  | n2 + 1 => fun I_S A_S v2 v3 => (((400 : Int32) < v3) → X2 I_S A_S v2) ∧ ((¬ (400 : Int32) < v3) → vp_in v3 401 ∧ ((wp_S_reachesItself_L2 A_C Q X2 n2) I_S (va_up A_S 1 (upd (A_S 1) (v3).toNatClampNeg (0 : Int32))) v2 (v3 + (1 : Int32))))
def wp_S_reachesItself_L36 (A_C : (Nat → Nat → Int32)) (Q : Int32 → (Nat → Int32) → (Nat → Nat → Int32) → Prop) (X36 : (Nat → Int32) → (Nat → Nat → Int32) → Int32 → Prop) : Nat → (Nat → Int32) → (Nat → Nat → Int32) → Int32 → Int32 → Prop
  | 0 => fun _ _ _ _ => False
  | n36 + 1 => fun I_S A_S v2 v3 => (((I_S 0) ≤ 0) → X36 I_S A_S v2) ∧ ((¬ (I_S 0) ≤ 0) → (((300 : Int32) < v3) → X36 I_S A_S v2) ∧ ((¬ (300 : Int32) < v3) → vp_in ((I_S 0) - (1 : Int32)) 301 ∧ (vp_in ((A_S 3) (((I_S 0) - (1 : Int32))).toNatClampNeg) 401 ∧ (vp_in ((A_S 2) (((A_S 3) (((I_S 0) - (1 : Int32))).toNatClampNeg)).toNatClampNeg) 300 ∧ (wp_S_reach (va_up I_S 0 ((I_S 0) - (1 : Int32))) A_S (((A_C 5) (((A_S 2) (((A_S 3) (((I_S 0) - (1 : Int32))).toNatClampNeg)).toNatClampNeg)).toNatClampNeg) >>> ((1 : Int32) &&& 31)) (fun I_S_9 A_S_10 => wp_S_reach I_S_9 A_S_10 (((A_C 6) (((A_S 2) (((A_S 3) (((I_S 0) - (1 : Int32))).toNatClampNeg)).toNatClampNeg)).toNatClampNeg) >>> ((1 : Int32) &&& 31)) (fun I_S_12 A_S_13 => (wp_S_reachesItself_L36 A_C Q X36 n36) I_S_12 A_S_13 v2 (v3 + (1 : Int32)))))))))
def wp_S_reachesItself (I_S : (Nat → Int32)) (A_S : (Nat → Nat → Int32)) (A_C : (Nat → Nat → Int32)) (x2 : Int32) (Q : Int32 → (Nat → Int32) → (Nat → Nat → Int32) → Prop) : Prop := ∃ m2, wp_S_reachesItself_L2 A_C Q (fun I_S_2 A_S_3 v2_4 => ∃ m36, wp_S_reachesItself_L36 A_C Q (fun I_S_14 A_S_15 v2_16 => vp_in v2_16 401 ∧ ((narrow .boolean (.int ((A_S_15 1) (v2_16).toNatClampNeg)) = .int ((A_S_15 1) (v2_16).toNatClampNeg)) ∧ (Q ((A_S_15 1) (v2_16).toNatClampNeg) I_S_14 A_S_15))) m36 (va_up I_S_2 0 (1 : Int32)) (va_up A_S_3 3 (upd (A_S_3 3) ((0 : Int32)).toNatClampNeg v2_4)) v2_4 (0 : Int32)) m2 I_S A_S x2 (0 : Int32)
def wp_S_lowestOnLoop_L2 (I_C : (Nat → Int32)) (A_C : (Nat → Nat → Int32)) (Q : Int32 → (Nat → Int32) → (Nat → Nat → Int32) → Prop) (X2 : (Nat → Int32) → (Nat → Nat → Int32) → Prop) : Nat → (Nat → Int32) → (Nat → Nat → Int32) → Int32 → Prop
  | 0 => fun _ _ _ => False
  | n2 + 1 => fun I_S A_S v2 => (((I_C 0) < v2) → X2 I_S A_S) ∧ ((¬ (I_C 0) < v2) → vp_in v2 401 ∧ (((((A_S 0) (v2).toNatClampNeg) = 0) → wp_S_reachesItself I_S A_S A_C v2 (fun r_2 I_S_4 A_S_5 => ((r_2 = 0) → (wp_S_lowestOnLoop_L2 I_C A_C Q X2 n2) I_S_4 A_S_5 (v2 + (1 : Int32))) ∧ ((¬ r_2 = 0) → Q v2 I_S_4 A_S_5))) ∧ ((¬ ((A_S 0) (v2).toNatClampNeg) = 0) → (wp_S_lowestOnLoop_L2 I_C A_C Q X2 n2) I_S A_S (v2 + (1 : Int32)))))
def wp_S_lowestOnLoop (I_S : (Nat → Int32)) (A_S : (Nat → Nat → Int32)) (I_C : (Nat → Int32)) (A_C : (Nat → Nat → Int32)) (Q : Int32 → (Nat → Int32) → (Nat → Nat → Int32) → Prop) : Prop := ∃ m2, wp_S_lowestOnLoop_L2 I_C A_C Q (fun I_S_6 A_S_7 => Q (-1 : Int32) I_S_6 A_S_7) m2 I_S A_S (1 : Int32)
end
section
set_option maxHeartbeats 4000000 in
set_option maxRecDepth 100000 in
theorem l_S_awaitAnds_L2 {p : Program} {l : Launch} {e : Env} {s : State} {m : MethodId} {args : Array Value} {below : List Frame} {meth : Method} {c : Code} {D : va_G} {cA : Nat → ClassId} {sx : Nat → Nat} {A : Nat → Prop} (a_S a_C : Nat → Nat) (I_S : (Nat → Int32)) (I_C : (Nat → Int32)) (A_C : (Nat → Nat → Int32)) (Q : (Nat → Nat → Int32) → Prop) (X2 : (Nat → Nat → Int32) → Prop) (hC : CX p s m args meth c b_S_awaitAnds R_S TB 3 D vwCl (tyl cA) A (SPl sx) none) (hX2 : ∀ (A_S : (Nat → Nat → Int32)), X2 A_S → VV p l e ({ frames := 0, cells := 0, slots := 0, locals := 0 } : Room) s m args below meth c 3 D vwCl A 0 0 (QV below args s D vwCl (tyl cA) A (fun (u : (Nat → Nat → Int32)) => Q u) (fun u : (Nat → Nat → Int32) => kc_S cA a_S I_S u ++ kc_C cA a_C I_C A_C)) (kc_S cA a_S I_S A_S ++ kc_C cA a_C I_C A_C) 22 [(0, .ref (a_S 0)), (1, .ref (a_C 0))] []) : ∀ (n2 : Nat) (A_S : (Nat → Nat → Int32)) (v2 : Int32), wp_S_awaitAnds_L2 I_C A_C Q X2 n2 A_S v2 → VV p l e ({ frames := 0, cells := 0, slots := 0, locals := 0 } : Room) s m args below meth c 3 D vwCl A 0 0 (QV below args s D vwCl (tyl cA) A (fun (u : (Nat → Nat → Int32)) => Q u) (fun u : (Nat → Nat → Int32) => kc_S cA a_S I_S u ++ kc_C cA a_C I_C A_C)) (kc_S cA a_S I_S A_S ++ kc_C cA a_C I_C A_C) 2 [(0, .ref (a_S 0)), (1, .ref (a_C 0)), (2, .int v2)] [] := by
  intro n2
  induction n2 with
  | zero =>
    intro A_S v2 hw
    exact absurd hw (fun z => z)
  | succ n2 ih =>
    intro A_S v2 hw
    unfold wp_S_awaitAnds_L2 at hw
    refine vv_iload_n hC d_S_awaitAnds_2 2 rfl rfl ?_
    refine vv_sipush hC d_S_awaitAnds_3 (v := (400 : Int32)) (by decide) ?_
    refine vv_icmp_gt hC 22 d_S_awaitAnds_6 (by decide) (fun cd => ?_) (fun cd => ?_)
    · have hw := hw.1 cd
      exact vv_sub [0, 1] (by rfl) (hX2 A_S hw)
    · have hw := hw.2 cd
      refine vv_aload_n hC d_S_awaitAnds_9 0 rfl rfl ?_
      refine vv_get hC (v := .ref (a_S 1)) hin_S 0 0 tb_57 d_S_awaitAnds_10 rfl rfl (by decide) rfl rfl ?_
      refine vv_iload_n hC d_S_awaitAnds_13 2 rfl rfl ?_
      refine vv_iconst hC d_S_awaitAnds_14 (v := (1 : Int32)) (by decide) ?_
      obtain ⟨hin_1, hw⟩ := hw
      refine vv_zast hC 1 1 d_S_awaitAnds_15 rfl rfl hin_1 (ws2 := kc_S cA a_S I_S (va_up A_S 0 (upd (A_S 0) (v2).toNatClampNeg (1 : Int32))) ++ kc_C cA a_C I_C A_C) (st_SC_SA0 ..) ?_
      refine vv_iinc hC d_S_awaitAnds_16 2 rfl (v := (v2 + (1 : Int32))) rfl (by decide) [1, 2, 0] (L2 := [(0, .ref (a_S 0)), (1, .ref (a_C 0)), (2, .int (v2 + (1 : Int32)))]) rfl ?_
      refine vv_goto hC 2 d_S_awaitAnds_19 (by decide) ?_
      exact vv_sub [0, 1, 2] (by rfl) (ih (va_up A_S 0 (upd (A_S 0) (v2).toNatClampNeg (1 : Int32))) (v2 + (1 : Int32)) hw)
set_option maxHeartbeats 4000000 in
set_option maxRecDepth 100000 in
theorem l_S_awaitAnds_L24 {p : Program} {l : Launch} {e : Env} {s : State} {m : MethodId} {args : Array Value} {below : List Frame} {meth : Method} {c : Code} {D : va_G} {cA : Nat → ClassId} {sx : Nat → Nat} {A : Nat → Prop} (a_S a_C : Nat → Nat) (I_S : (Nat → Int32)) (I_C : (Nat → Int32)) (A_C : (Nat → Nat → Int32)) (Q : (Nat → Nat → Int32) → Prop) (X24 : (Nat → Nat → Int32) → Prop) (hC : CX p s m args meth c b_S_awaitAnds R_S TB 3 D vwCl (tyl cA) A (SPl sx) none) (hX24 : ∀ (A_S : (Nat → Nat → Int32)), X24 A_S → VV p l e ({ frames := 0, cells := 0, slots := 0, locals := 0 } : Room) s m args below meth c 3 D vwCl A 0 0 (QV below args s D vwCl (tyl cA) A (fun (u : (Nat → Nat → Int32)) => Q u) (fun u : (Nat → Nat → Int32) => kc_S cA a_S I_S u ++ kc_C cA a_C I_C A_C)) (kc_S cA a_S I_S A_S ++ kc_C cA a_C I_C A_C) 62 [] []) : ∀ (n24 : Nat) (A_S : (Nat → Nat → Int32)) (v2 : Int32), wp_S_awaitAnds_L24 I_C A_C Q X24 n24 A_S v2 → VV p l e ({ frames := 0, cells := 0, slots := 0, locals := 0 } : Room) s m args below meth c 3 D vwCl A 0 0 (QV below args s D vwCl (tyl cA) A (fun (u : (Nat → Nat → Int32)) => Q u) (fun u : (Nat → Nat → Int32) => kc_S cA a_S I_S u ++ kc_C cA a_C I_C A_C)) (kc_S cA a_S I_S A_S ++ kc_C cA a_C I_C A_C) 24 [(0, .ref (a_S 0)), (1, .ref (a_C 0)), (2, .int v2)] [] := by
  intro n24
  induction n24 with
  | zero =>
    intro A_S v2 hw
    exact absurd hw (fun z => z)
  | succ n24 ih =>
    intro A_S v2 hw
    unfold wp_S_awaitAnds_L24 at hw
    refine vv_iload_n hC d_S_awaitAnds_24 2 rfl rfl ?_
    refine vv_aload_n hC d_S_awaitAnds_25 1 rfl rfl ?_
    refine vv_get hC (v := .int (I_C 4)) hin_C 5 4 tb_166 d_S_awaitAnds_26 rfl rfl (by decide) rfl rfl ?_
    refine vv_icmp_ge hC 62 d_S_awaitAnds_29 (by decide) (fun cd => ?_) (fun cd => ?_)
    · have hw := hw.1 cd
      exact vv_sub [] (by rfl) (hX24 A_S hw)
    · have hw := hw.2 cd
      refine vv_aload_n hC d_S_awaitAnds_32 0 rfl rfl ?_
      refine vv_get hC (v := .ref (a_S 1)) hin_S 0 0 tb_57 d_S_awaitAnds_33 rfl rfl (by decide) rfl rfl ?_
      refine vv_aload_n hC d_S_awaitAnds_36 1 rfl rfl ?_
      refine vv_get hC (v := .ref (a_C 5)) hin_C 5 10 tb_187 d_S_awaitAnds_37 rfl rfl (by decide) rfl rfl ?_
      refine vv_iload_n hC d_S_awaitAnds_40 2 rfl rfl ?_
      obtain ⟨hin_3, hw⟩ := hw
      refine vv_iald hC 10 0 d_S_awaitAnds_41 rfl rfl hin_3 ?_
      refine vv_iconst hC d_S_awaitAnds_42 (v := (0 : Int32)) (by decide) ?_
      obtain ⟨hin_4, hw⟩ := hw
      refine vv_zast hC 1 1 d_S_awaitAnds_43 rfl rfl hin_4 (ws2 := kc_S cA a_S I_S (va_up A_S 0 (upd (A_S 0) (((A_C 4) (v2).toNatClampNeg)).toNatClampNeg (0 : Int32))) ++ kc_C cA a_C I_C A_C) (st_SC_SA0 ..) ?_
      refine vv_aload_n hC d_S_awaitAnds_44 0 rfl rfl ?_
      refine vv_get hC (v := .ref (a_S 3)) hin_S 0 2 tb_59 d_S_awaitAnds_45 rfl rfl (by decide) rfl rfl ?_
      refine vv_aload_n hC d_S_awaitAnds_48 1 rfl rfl ?_
      refine vv_get hC (v := .ref (a_C 5)) hin_C 5 10 tb_187 d_S_awaitAnds_49 rfl rfl (by decide) rfl rfl ?_
      refine vv_iload_n hC d_S_awaitAnds_52 2 rfl rfl ?_
      refine vv_iald hC 10 0 d_S_awaitAnds_53 rfl rfl hin_3 ?_
      refine vv_iload_n hC d_S_awaitAnds_54 2 rfl rfl ?_
      refine vv_iast hC 3 0 d_S_awaitAnds_55 rfl rfl hin_4 (ws2 := kc_S cA a_S I_S (va_up (va_up A_S 0 (upd (A_S 0) (((A_C 4) (v2).toNatClampNeg)).toNatClampNeg (0 : Int32))) 2 (upd (A_S 2) (((A_C 4) (v2).toNatClampNeg)).toNatClampNeg v2)) ++ kc_C cA a_C I_C A_C) (st_SC_SA2 ..) ?_
      refine vv_iinc hC d_S_awaitAnds_56 2 rfl (v := (v2 + (1 : Int32))) rfl (by decide) [1, 2, 0] (L2 := [(0, .ref (a_S 0)), (1, .ref (a_C 0)), (2, .int (v2 + (1 : Int32)))]) rfl ?_
      refine vv_goto hC 24 d_S_awaitAnds_59 (by decide) ?_
      exact vv_sub [0, 1, 2] (by rfl) (ih (va_up (va_up A_S 0 (upd (A_S 0) (((A_C 4) (v2).toNatClampNeg)).toNatClampNeg (0 : Int32))) 2 (upd (A_S 2) (((A_C 4) (v2).toNatClampNeg)).toNatClampNeg v2)) (v2 + (1 : Int32)) hw)
set_option maxHeartbeats 4000000 in
set_option maxRecDepth 100000 in
theorem c_S_awaitAnds (l : Launch) (D : va_G) (cA : Nat → ClassId) (sx : Nat → Nat) (a_S a_C : Nat → Nat) (I_S : (Nat → Int32)) (A_S : (Nat → Nat → Int32)) (I_C : (Nat → Int32)) (A_C : (Nat → Nat → Int32)) (Q : (Nat → Nat → Int32) → Prop) (hw : wp_S_awaitAnds A_S I_C A_C Q) : MetV l y_S_awaitAnds (Cond.code y_S_awaitAnds b_S_awaitAnds 3 none :: TB) ({ frames := 0, cells := 0, slots := 0, locals := 0 } : Room) D vwCl (tyl cA) (SPl sx) [.ref (a_S 0), .ref (a_C 0)] (kc_S cA a_S I_S A_S ++ kc_C cA a_C I_C A_C) (fun (u : (Nat → Nat → Int32)) => Q u) (fun u : (Nat → Nat → Int32) => kc_S cA a_S I_S u ++ kc_C cA a_C I_C A_C) := by
  refine vv_entryV (cc := b_S_awaitAnds) (own := R_S) (L := [(0, .ref (a_S 0)), (1, .ref (a_C 0))]) (by decide) rfl rfl (Nat.le_of_ble_eq_true rfl) rfl (fun p e s m args below meth c A hC => ?_)
  unfold wp_S_awaitAnds at hw
  refine vv_iconst hC d_S_awaitAnds_0 (v := (0 : Int32)) (by decide) ?_
  refine vv_istore_n hC d_S_awaitAnds_1 rfl (by decide) [1, 2, 0] (L2 := [(0, .ref (a_S 0)), (1, .ref (a_C 0)), (2, .int (0 : Int32))]) rfl ?_
  obtain ⟨m2, hw⟩ := hw
  refine vv_sub [0, 1, 2] (by rfl) (l_S_awaitAnds_L2 a_S a_C I_S I_C A_C Q _ hC (fun A_S_2 hw => ?_) m2 A_S (0 : Int32) hw)
  refine vv_iconst hC d_S_awaitAnds_22 (v := (0 : Int32)) (by decide) ?_
  refine vv_istore_n hC d_S_awaitAnds_23 rfl (by decide) [1, 2, 0] (L2 := [(0, .ref (a_S 0)), (1, .ref (a_C 0)), (2, .int (0 : Int32))]) rfl ?_
  obtain ⟨m24, hw⟩ := hw
  refine vv_sub [0, 1, 2] (by rfl) (l_S_awaitAnds_L24 a_S a_C I_S I_C A_C Q _ hC (fun A_S_5 hw => ?_) m24 A_S_2 (0 : Int32) hw)
  exact vv_vret hC d_S_awaitAnds_62 A_S_5 hw rfl
set_option maxHeartbeats 4000000 in
set_option maxRecDepth 100000 in
theorem l_S_firstReady_L2 {p : Program} {l : Launch} {e : Env} {s : State} {m : MethodId} {args : Array Value} {below : List Frame} {meth : Method} {c : Code} {D : va_G} {cA : Nat → ClassId} {sx : Nat → Nat} {A : Nat → Prop} (a_S a_C : Nat → Nat) (I_S : (Nat → Int32)) (A_S : (Nat → Nat → Int32)) (I_C : (Nat → Int32)) (A_C : (Nat → Nat → Int32)) (Q : Int32 → Prop) (X2 : Prop) (hC : CX p s m args meth c b_S_firstReady R_S TB 4 D vwCl (tyl cA) A (SPl sx) (some .int)) (hX2 : X2 → VV p l e ({ frames := 0, cells := 0, slots := 0, locals := 0 } : Room) s m args below meth c 4 D vwCl A 0 0 (QI below args s D vwCl (tyl cA) A (fun (r : Int32) (u : Unit) => Q r) (fun u : Unit => kc_S cA a_S I_S A_S ++ kc_C cA a_C I_C A_C)) (kc_S cA a_S I_S A_S ++ kc_C cA a_C I_C A_C) 64 [] []) : ∀ (n2 : Nat) (v3 : Int32), wp_S_firstReady_L2 A_S I_C A_C Q X2 n2 v3 → VV p l e ({ frames := 0, cells := 0, slots := 0, locals := 0 } : Room) s m args below meth c 4 D vwCl A 0 0 (QI below args s D vwCl (tyl cA) A (fun (r : Int32) (u : Unit) => Q r) (fun u : Unit => kc_S cA a_S I_S A_S ++ kc_C cA a_C I_C A_C)) (kc_S cA a_S I_S A_S ++ kc_C cA a_C I_C A_C) 2 [(0, .ref (a_S 0)), (1, .ref (a_C 0)), (3, .int v3)] [] := by
  intro n2
  induction n2 with
  | zero =>
    intro v3 hw
    exact absurd hw (fun z => z)
  | succ n2 ih =>
    intro v3 hw
    unfold wp_S_firstReady_L2 at hw
    refine vv_iload_n hC d_S_firstReady_2 2 rfl rfl ?_
    refine vv_aload_n hC d_S_firstReady_3 1 rfl rfl ?_
    refine vv_get hC (v := .int (I_C 4)) hin_C 5 4 tb_166 d_S_firstReady_4 rfl rfl (by decide) rfl rfl ?_
    refine vv_icmp_ge hC 64 d_S_firstReady_7 (by decide) (fun cd => ?_) (fun cd => ?_)
    · have hw := hw.1 cd
      exact vv_sub [] (by rfl) (hX2 hw)
    · have hw := hw.2 cd
      refine vv_aload_n hC d_S_firstReady_10 0 rfl rfl ?_
      refine vv_get hC (v := .ref (a_S 1)) hin_S 0 0 tb_57 d_S_firstReady_11 rfl rfl (by decide) rfl rfl ?_
      refine vv_aload_n hC d_S_firstReady_14 1 rfl rfl ?_
      refine vv_get hC (v := .ref (a_C 5)) hin_C 5 10 tb_187 d_S_firstReady_15 rfl rfl (by decide) rfl rfl ?_
      refine vv_iload_n hC d_S_firstReady_18 2 rfl rfl ?_
      obtain ⟨hin_1, hw⟩ := hw
      refine vv_iald hC 10 0 d_S_firstReady_19 rfl rfl hin_1 ?_
      obtain ⟨hin_2, hw⟩ := hw
      refine vv_zald hC 1 1 d_S_firstReady_20 rfl rfl hin_2 ?_
      refine vv_if_ne hC 58 d_S_firstReady_21 (by decide) (fun cd => ?_) (fun cd => ?_)
      · have hw := hw.2 cd
        refine vv_iinc hC d_S_firstReady_58 2 rfl (v := (v3 + (1 : Int32))) rfl (by decide) [1, 2, 0] (L2 := [(0, .ref (a_S 0)), (1, .ref (a_C 0)), (3, .int (v3 + (1 : Int32)))]) rfl ?_
        refine vv_goto hC 2 d_S_firstReady_61 (by decide) ?_
        exact vv_sub [0, 1, 2] (by rfl) (ih (v3 + (1 : Int32)) hw)
      · have hw := hw.1 cd
        refine vv_aload_n hC d_S_firstReady_24 0 rfl rfl ?_
        refine vv_get hC (v := .ref (a_S 1)) hin_S 0 0 tb_57 d_S_firstReady_25 rfl rfl (by decide) rfl rfl ?_
        refine vv_aload_n hC d_S_firstReady_28 1 rfl rfl ?_
        refine vv_get hC (v := .ref (a_C 6)) hin_C 5 11 tb_191 d_S_firstReady_29 rfl rfl (by decide) rfl rfl ?_
        refine vv_iload_n hC d_S_firstReady_32 2 rfl rfl ?_
        refine vv_iald hC 11 0 d_S_firstReady_33 rfl rfl hin_1 ?_
        refine vv_iconst hC d_S_firstReady_34 (v := (1 : Int32)) (by decide) ?_
        refine vv_ishr hC d_S_firstReady_35 ?_
        obtain ⟨hin_3, hw⟩ := hw
        refine vv_zald hC 1 1 d_S_firstReady_36 rfl rfl hin_3 ?_
        refine vv_if_eq hC 58 d_S_firstReady_37 (by decide) (fun cd => ?_) (fun cd => ?_)
        · have hw := hw.1 cd
          refine vv_iinc hC d_S_firstReady_58 2 rfl (v := (v3 + (1 : Int32))) rfl (by decide) [1, 2, 0] (L2 := [(0, .ref (a_S 0)), (1, .ref (a_C 0)), (3, .int (v3 + (1 : Int32)))]) rfl ?_
          refine vv_goto hC 2 d_S_firstReady_61 (by decide) ?_
          exact vv_sub [0, 1, 2] (by rfl) (ih (v3 + (1 : Int32)) hw)
        · have hw := hw.2 cd
          refine vv_aload_n hC d_S_firstReady_40 0 rfl rfl ?_
          refine vv_get hC (v := .ref (a_S 1)) hin_S 0 0 tb_57 d_S_firstReady_41 rfl rfl (by decide) rfl rfl ?_
          refine vv_aload_n hC d_S_firstReady_44 1 rfl rfl ?_
          refine vv_get hC (v := .ref (a_C 7)) hin_C 5 12 tb_195 d_S_firstReady_45 rfl rfl (by decide) rfl rfl ?_
          refine vv_iload_n hC d_S_firstReady_48 2 rfl rfl ?_
          refine vv_iald hC 12 0 d_S_firstReady_49 rfl rfl hin_1 ?_
          refine vv_iconst hC d_S_firstReady_50 (v := (1 : Int32)) (by decide) ?_
          refine vv_ishr hC d_S_firstReady_51 ?_
          obtain ⟨hin_4, hw⟩ := hw
          refine vv_zald hC 1 1 d_S_firstReady_52 rfl rfl hin_4 ?_
          refine vv_if_eq hC 58 d_S_firstReady_53 (by decide) (fun cd => ?_) (fun cd => ?_)
          · have hw := hw.1 cd
            refine vv_iinc hC d_S_firstReady_58 2 rfl (v := (v3 + (1 : Int32))) rfl (by decide) [1, 2, 0] (L2 := [(0, .ref (a_S 0)), (1, .ref (a_C 0)), (3, .int (v3 + (1 : Int32)))]) rfl ?_
            refine vv_goto hC 2 d_S_firstReady_61 (by decide) ?_
            exact vv_sub [0, 1, 2] (by rfl) (ih (v3 + (1 : Int32)) hw)
          · have hw := hw.2 cd
            refine vv_iload_n hC d_S_firstReady_56 2 rfl rfl ?_
            exact vv_iret hC d_S_firstReady_57 () hw rfl
set_option maxHeartbeats 4000000 in
set_option maxRecDepth 100000 in
theorem c_S_firstReady (l : Launch) (D : va_G) (cA : Nat → ClassId) (sx : Nat → Nat) (a_S a_C : Nat → Nat) (I_S : (Nat → Int32)) (A_S : (Nat → Nat → Int32)) (I_C : (Nat → Int32)) (A_C : (Nat → Nat → Int32)) (x2 : Int32) (Q : Int32 → Prop) (hw : wp_S_firstReady A_S I_C A_C x2 Q) : MetI l y_S_firstReady (Cond.code y_S_firstReady b_S_firstReady 4 (some .int) :: TB) ({ frames := 0, cells := 0, slots := 0, locals := 0 } : Room) D vwCl (tyl cA) (SPl sx) [.ref (a_S 0), .ref (a_C 0), .int x2] (kc_S cA a_S I_S A_S ++ kc_C cA a_C I_C A_C) (fun (r : Int32) (u : Unit) => Q r) (fun u : Unit => kc_S cA a_S I_S A_S ++ kc_C cA a_C I_C A_C) := by
  refine vv_entryI (cc := b_S_firstReady) (own := R_S) (L := [(0, .ref (a_S 0)), (1, .ref (a_C 0)), (2, .int x2)]) (by decide) rfl rfl (Nat.le_of_ble_eq_true rfl) rfl (fun p e s m args below meth c A hC => ?_)
  unfold wp_S_firstReady at hw
  refine vv_iload_n hC d_S_firstReady_0 2 rfl rfl ?_
  refine vv_istore_n hC d_S_firstReady_1 rfl (by decide) [1, 2, 3, 0] (L2 := [(0, .ref (a_S 0)), (1, .ref (a_C 0)), (2, .int x2), (3, .int x2)]) rfl ?_
  obtain ⟨m2, hw⟩ := hw
  refine vv_sub [0, 1, 3] (by rfl) (l_S_firstReady_L2 a_S a_C I_S A_S I_C A_C Q _ hC (fun  hw => ?_) m2 x2 hw)
  refine vv_iconst hC d_S_firstReady_64 (v := (-1 : Int32)) (by decide) ?_
  exact vv_iret hC d_S_firstReady_65 () hw rfl
set_option maxHeartbeats 4000000 in
set_option maxRecDepth 100000 in
theorem l_S_putInOrder_L17 {p : Program} {l : Launch} {e : Env} {s : State} {m : MethodId} {args : Array Value} {below : List Frame} {meth : Method} {c : Code} {D : va_G} {cA : Nat → ClassId} {sx : Nat → Nat} {A : Nat → Prop} (a_S a_C : Nat → Nat) (I_S : (Nat → Int32)) (I_C : (Nat → Int32)) (Q : Int32 → (Nat → Nat → Int32) → (Nat → Nat → Int32) → Prop) (K9 : (Nat → Nat → Int32) → (Nat → Nat → Int32) → Int32 → Int32 → Prop) (X9 : (Nat → Nat → Int32) → (Nat → Nat → Int32) → Prop) (X17 : (Nat → Nat → Int32) → (Nat → Nat → Int32) → Int32 → Int32 → Prop) (hC : CX p s m args meth c b_S_putInOrder R_S TB 5 D vwCl (tyl cA) A (SPl sx) (some .boolean)) (hK9 : ∀ (A_S : (Nat → Nat → Int32)) (A_C : (Nat → Nat → Int32)) (v2 : Int32) (v3 : Int32), K9 A_S A_C v2 v3 → VV p l e ({ frames := 1, cells := 0, slots := 0, locals := 23 } : Room) s m args below meth c 5 D vwCl A 0 0 (QI below args s D vwCl (tyl cA) A (fun (r : Int32) (u : (Nat → Nat → Int32) × (Nat → Nat → Int32)) => Q r u.1 u.2) (fun u : (Nat → Nat → Int32) × (Nat → Nat → Int32) => kc_S cA a_S I_S u.1 ++ kc_C cA a_C I_C u.2)) (kc_S cA a_S I_S A_S ++ kc_C cA a_C I_C A_C) 9 [(0, .ref (a_S 0)), (1, .ref (a_C 0)), (2, .int v2), (3, .int v3)] []) (hX9 : ∀ (A_S : (Nat → Nat → Int32)) (A_C : (Nat → Nat → Int32)), X9 A_S A_C → VV p l e ({ frames := 1, cells := 0, slots := 0, locals := 23 } : Room) s m args below meth c 5 D vwCl A 0 0 (QI below args s D vwCl (tyl cA) A (fun (r : Int32) (u : (Nat → Nat → Int32) × (Nat → Nat → Int32)) => Q r u.1 u.2) (fun u : (Nat → Nat → Int32) × (Nat → Nat → Int32) => kc_S cA a_S I_S u.1 ++ kc_C cA a_C I_C u.2)) (kc_S cA a_S I_S A_S ++ kc_C cA a_C I_C A_C) 88 [] []) (hX17 : ∀ (A_S : (Nat → Nat → Int32)) (A_C : (Nat → Nat → Int32)) (v2 : Int32) (v3 : Int32), X17 A_S A_C v2 v3 → VV p l e ({ frames := 1, cells := 0, slots := 0, locals := 23 } : Room) s m args below meth c 5 D vwCl A 0 0 (QI below args s D vwCl (tyl cA) A (fun (r : Int32) (u : (Nat → Nat → Int32) × (Nat → Nat → Int32)) => Q r u.1 u.2) (fun u : (Nat → Nat → Int32) × (Nat → Nat → Int32) => kc_S cA a_S I_S u.1 ++ kc_C cA a_C I_C u.2)) (kc_S cA a_S I_S A_S ++ kc_C cA a_C I_C A_C) 45 [(0, .ref (a_S 0)), (1, .ref (a_C 0)), (2, .int v2), (3, .int v3)] []) : ∀ (n17 : Nat) (A_S : (Nat → Nat → Int32)) (A_C : (Nat → Nat → Int32)) (v2 : Int32) (v3 : Int32), wp_S_putInOrder_L17 I_C Q K9 X9 X17 n17 A_S A_C v2 v3 → VV p l e ({ frames := 1, cells := 0, slots := 0, locals := 23 } : Room) s m args below meth c 5 D vwCl A 0 0 (QI below args s D vwCl (tyl cA) A (fun (r : Int32) (u : (Nat → Nat → Int32) × (Nat → Nat → Int32)) => Q r u.1 u.2) (fun u : (Nat → Nat → Int32) × (Nat → Nat → Int32) => kc_S cA a_S I_S u.1 ++ kc_C cA a_C I_C u.2)) (kc_S cA a_S I_S A_S ++ kc_C cA a_C I_C A_C) 17 [(0, .ref (a_S 0)), (1, .ref (a_C 0)), (2, .int v2), (3, .int v3)] [] := by
  intro n17
  induction n17 with
  | zero =>
    intro A_S A_C v2 v3 hw
    exact absurd hw (fun z => z)
  | succ n17 ih =>
    intro A_S A_C v2 v3 hw
    unfold wp_S_putInOrder_L17 at hw
    refine vv_iload_n hC d_S_putInOrder_17 2 rfl rfl ?_
    refine vv_aload_n hC d_S_putInOrder_18 1 rfl rfl ?_
    refine vv_get hC (v := .int (I_C 4)) hin_C 5 4 tb_166 d_S_putInOrder_19 rfl rfl (by decide) rfl rfl ?_
    refine vv_icmp_ge hC 45 d_S_putInOrder_22 (by decide) (fun cd => ?_) (fun cd => ?_)
    · have hw := hw.1 cd
      exact vv_sub [0, 1, 2, 3] (by rfl) (hX17 A_S A_C v2 v3 hw)
    · have hw := hw.2 cd
      refine vv_aload_n hC d_S_putInOrder_25 0 rfl rfl ?_
      refine vv_get hC (v := .ref (a_S 1)) hin_S 0 0 tb_57 d_S_putInOrder_26 rfl rfl (by decide) rfl rfl ?_
      refine vv_aload_n hC d_S_putInOrder_29 1 rfl rfl ?_
      refine vv_get hC (v := .ref (a_C 5)) hin_C 5 10 tb_187 d_S_putInOrder_30 rfl rfl (by decide) rfl rfl ?_
      refine vv_iload_n hC d_S_putInOrder_33 2 rfl rfl ?_
      obtain ⟨hin_3, hw⟩ := hw
      refine vv_iald hC 10 0 d_S_putInOrder_34 rfl rfl hin_3 ?_
      obtain ⟨hin_4, hw⟩ := hw
      refine vv_zald hC 1 1 d_S_putInOrder_35 rfl rfl hin_4 ?_
      refine vv_if_eq hC 45 d_S_putInOrder_36 (by decide) (fun cd => ?_) (fun cd => ?_)
      · have hw := hw.1 cd
        exact vv_sub [0, 1, 2, 3] (by rfl) (hX17 A_S A_C v2 v3 hw)
      · have hw := hw.2 cd
        refine vv_iinc hC d_S_putInOrder_39 2 rfl (v := (v2 + (1 : Int32))) rfl (by decide) [1, 2, 0, 3] (L2 := [(0, .ref (a_S 0)), (1, .ref (a_C 0)), (2, .int (v2 + (1 : Int32))), (3, .int v3)]) rfl ?_
        refine vv_goto hC 17 d_S_putInOrder_42 (by decide) ?_
        exact vv_sub [0, 1, 2, 3] (by rfl) (ih A_S A_C (v2 + (1 : Int32)) v3 hw)
set_option maxHeartbeats 4000000 in
set_option maxRecDepth 100000 in
theorem l_S_putInOrder_L9 {p : Program} {l : Launch} {e : Env} {s : State} {m : MethodId} {args : Array Value} {below : List Frame} {meth : Method} {c : Code} {D : va_G} {cA : Nat → ClassId} {sx : Nat → Nat} {A : Nat → Prop} (a_S a_C : Nat → Nat) (I_S : (Nat → Int32)) (I_C : (Nat → Int32)) (Q : Int32 → (Nat → Nat → Int32) → (Nat → Nat → Int32) → Prop) (X9 : (Nat → Nat → Int32) → (Nat → Nat → Int32) → Prop) (hC : CX p s m args meth c b_S_putInOrder R_S TB 5 D vwCl (tyl cA) A (SPl sx) (some .boolean)) (hX9 : ∀ (A_S : (Nat → Nat → Int32)) (A_C : (Nat → Nat → Int32)), X9 A_S A_C → VV p l e ({ frames := 1, cells := 0, slots := 0, locals := 23 } : Room) s m args below meth c 5 D vwCl A 0 0 (QI below args s D vwCl (tyl cA) A (fun (r : Int32) (u : (Nat → Nat → Int32) × (Nat → Nat → Int32)) => Q r u.1 u.2) (fun u : (Nat → Nat → Int32) × (Nat → Nat → Int32) => kc_S cA a_S I_S u.1 ++ kc_C cA a_C I_C u.2)) (kc_S cA a_S I_S A_S ++ kc_C cA a_C I_C A_C) 88 [] []) : ∀ (n9 : Nat) (A_S : (Nat → Nat → Int32)) (A_C : (Nat → Nat → Int32)) (v2 : Int32) (v3 : Int32), wp_S_putInOrder_L9 I_C Q X9 n9 A_S A_C v2 v3 → VV p l e ({ frames := 1, cells := 0, slots := 0, locals := 23 } : Room) s m args below meth c 5 D vwCl A 0 0 (QI below args s D vwCl (tyl cA) A (fun (r : Int32) (u : (Nat → Nat → Int32) × (Nat → Nat → Int32)) => Q r u.1 u.2) (fun u : (Nat → Nat → Int32) × (Nat → Nat → Int32) => kc_S cA a_S I_S u.1 ++ kc_C cA a_C I_C u.2)) (kc_S cA a_S I_S A_S ++ kc_C cA a_C I_C A_C) 9 [(0, .ref (a_S 0)), (1, .ref (a_C 0)), (2, .int v2), (3, .int v3)] [] := by
  intro n9
  induction n9 with
  | zero =>
    intro A_S A_C v2 v3 hw
    exact absurd hw (fun z => z)
  | succ n9 ih =>
    intro A_S A_C v2 v3 hw
    unfold wp_S_putInOrder_L9 at hw
    refine vv_iload_n hC d_S_putInOrder_9 3 rfl rfl ?_
    refine vv_aload_n hC d_S_putInOrder_10 1 rfl rfl ?_
    refine vv_get hC (v := .int (I_C 4)) hin_C 5 4 tb_166 d_S_putInOrder_11 rfl rfl (by decide) rfl rfl ?_
    refine vv_icmp_ge hC 88 d_S_putInOrder_14 (by decide) (fun cd => ?_) (fun cd => ?_)
    · have hw := hw.1 cd
      exact vv_sub [] (by rfl) (hX9 A_S A_C hw)
    · have hw := hw.2 cd
      obtain ⟨m17, hw⟩ := hw
      refine vv_sub [0, 1, 2, 3] (by rfl) (l_S_putInOrder_L17 a_S a_C I_S I_C Q (wp_S_putInOrder_L9 I_C Q X9 n9) X9 _ hC ih hX9 (fun A_S_5 A_C_6 v2_7 v3_8 hw => ?_) m17 A_S A_C v2 v3 hw)
      refine vv_aload_n hC d_S_putInOrder_45 0 rfl rfl ?_
      refine vv_aload_n hC d_S_putInOrder_46 1 rfl rfl ?_
      refine vv_iload_n hC d_S_putInOrder_47 2 rfl rfl ?_
      refine vv_callVI (wr := []) hC (c_S_firstReady l D cA sx a_S a_C I_S A_S_5 I_C A_C_6 v2_7 _ hw) (cw_S_41 hC) d_S_putInOrder_48 [] [0, 1, 2, 3, 4, 5, 6, 7, 8, 9, 10, 11, 12, 13, 14, 15, 16, 17] [] [0, 1, 2, 3, 4, 5, 6, 7, 8, 9, 10, 11, 12, 13, 14, 15, 16, 17] (fun u_10 : Unit => kc_S cA a_S I_S A_S_5 ++ kc_C cA a_C I_C A_C_6) ⟨Nat.zero_le _, Nat.zero_le _⟩ rfl rfl (fun _ => rfl) rfl rfl rfl rfl rfl rfl rfl rfl (Nat.le_of_ble_eq_true rfl) (fun r_9 u_10 hw => ?_)
      refine vv_istore hC d_S_putInOrder_51 (by decide) [1, 2, 3, 4, 0] (L2 := [(0, .ref (a_S 0)), (1, .ref (a_C 0)), (2, .int v2_7), (3, .int v3_8), (4, .int r_9)]) rfl ?_
      refine vv_iload hC d_S_putInOrder_53 4 rfl ?_
      refine vv_iconst hC d_S_putInOrder_55 (v := (-1 : Int32)) (by decide) ?_
      refine vv_icmp_ne hC 61 d_S_putInOrder_56 (by decide) (fun cd => ?_) (fun cd => ?_)
      · have hw := hw.2 cd
        refine vv_aload_n hC d_S_putInOrder_61 1 rfl rfl ?_
        refine vv_get hC (v := .ref (a_C 8)) hin_C 5 13 tb_199 d_S_putInOrder_62 rfl rfl (by decide) rfl rfl ?_
        refine vv_iload_n hC d_S_putInOrder_65 3 rfl rfl ?_
        refine vv_iload hC d_S_putInOrder_66 4 rfl ?_
        obtain ⟨hin_11, hw⟩ := hw
        refine vv_iast hC 13 0 d_S_putInOrder_68 rfl rfl hin_11 (ws2 := kc_S cA a_S I_S A_S_5 ++ kc_C cA a_C I_C (va_up A_C_6 7 (upd (A_C_6 7) (v3_8).toNatClampNeg r_9))) (st_SC_CA7 ..) ?_
        refine vv_aload_n hC d_S_putInOrder_69 0 rfl rfl ?_
        refine vv_get hC (v := .ref (a_S 1)) hin_S 0 0 tb_57 d_S_putInOrder_70 rfl rfl (by decide) rfl rfl ?_
        refine vv_aload_n hC d_S_putInOrder_73 1 rfl rfl ?_
        refine vv_get hC (v := .ref (a_C 5)) hin_C 5 10 tb_187 d_S_putInOrder_74 rfl rfl (by decide) rfl rfl ?_
        refine vv_iload hC d_S_putInOrder_77 4 rfl ?_
        obtain ⟨hin_12, hw⟩ := hw
        refine vv_iald hC 10 0 d_S_putInOrder_79 rfl rfl hin_12 ?_
        refine vv_iconst hC d_S_putInOrder_80 (v := (1 : Int32)) (by decide) ?_
        obtain ⟨hin_13, hw⟩ := hw
        refine vv_zast hC 1 1 d_S_putInOrder_81 rfl rfl hin_13 (ws2 := kc_S cA a_S I_S (va_up A_S_5 0 (upd (A_S_5 0) (((A_C_6 4) (r_9).toNatClampNeg)).toNatClampNeg (1 : Int32))) ++ kc_C cA a_C I_C (va_up A_C_6 7 (upd (A_C_6 7) (v3_8).toNatClampNeg r_9))) (st_SC_SA0 ..) ?_
        refine vv_iinc hC d_S_putInOrder_82 3 rfl (v := (v3_8 + (1 : Int32))) rfl (by decide) [1, 2, 3, 0, 4] (L2 := [(0, .ref (a_S 0)), (1, .ref (a_C 0)), (2, .int v2_7), (3, .int (v3_8 + (1 : Int32))), (4, .int r_9)]) rfl ?_
        refine vv_goto hC 9 d_S_putInOrder_85 (by decide) ?_
        exact vv_sub [0, 1, 2, 3] (by rfl) (ih (va_up A_S_5 0 (upd (A_S_5 0) (((A_C_6 4) (r_9).toNatClampNeg)).toNatClampNeg (1 : Int32))) (va_up A_C_6 7 (upd (A_C_6 7) (v3_8).toNatClampNeg r_9)) v2_7 (v3_8 + (1 : Int32)) hw)
      · have hw := hw.1 cd
        refine vv_iconst hC d_S_putInOrder_59 (v := (0 : Int32)) (by decide) ?_
        exact vv_zret hC d_S_putInOrder_60 rfl (A_S_5, A_C_6) hw rfl
set_option maxHeartbeats 4000000 in
set_option maxRecDepth 100000 in
theorem c_S_putInOrder (l : Launch) (D : va_G) (cA : Nat → ClassId) (sx : Nat → Nat) (a_S a_C : Nat → Nat) (I_S : (Nat → Int32)) (A_S : (Nat → Nat → Int32)) (I_C : (Nat → Int32)) (A_C : (Nat → Nat → Int32)) (Q : Int32 → (Nat → Nat → Int32) → (Nat → Nat → Int32) → Prop) (hw : wp_S_putInOrder A_S I_C A_C Q) : MetI l y_S_putInOrder (Cond.code y_S_putInOrder b_S_putInOrder 5 (some .boolean) :: TB) ({ frames := 1, cells := 0, slots := 0, locals := 23 } : Room) D vwCl (tyl cA) (SPl sx) [.ref (a_S 0), .ref (a_C 0)] (kc_S cA a_S I_S A_S ++ kc_C cA a_C I_C A_C) (fun (r : Int32) (u : (Nat → Nat → Int32) × (Nat → Nat → Int32)) => Q r u.1 u.2) (fun u : (Nat → Nat → Int32) × (Nat → Nat → Int32) => kc_S cA a_S I_S u.1 ++ kc_C cA a_C I_C u.2) := by
  refine vv_entryI (cc := b_S_putInOrder) (own := R_S) (L := [(0, .ref (a_S 0)), (1, .ref (a_C 0))]) (by decide) rfl rfl (Nat.le_of_ble_eq_true rfl) rfl (fun p e s m args below meth c A hC => ?_)
  unfold wp_S_putInOrder at hw
  refine vv_aload_n hC d_S_putInOrder_0 0 rfl rfl ?_
  refine vv_aload_n hC d_S_putInOrder_1 1 rfl rfl ?_
  refine vv_callVV (wr := []) hC (c_S_awaitAnds l D cA sx a_S a_C I_S A_S I_C A_C _ hw) (cw_S_29 hC) d_S_putInOrder_2 [] [0, 1, 2, 3, 4, 5, 6, 7, 8, 9, 10, 11, 12, 13, 14, 15, 16, 17] [] [0, 1, 2, 3, 4, 5, 6, 7, 8, 9, 10, 11, 12, 13, 14, 15, 16, 17] (fun u_1 : (Nat → Nat → Int32) => kc_S cA a_S I_S u_1 ++ kc_C cA a_C I_C A_C) ⟨Nat.zero_le _, Nat.zero_le _⟩ rfl rfl (fun _ => rfl) rfl rfl rfl rfl rfl rfl rfl rfl (Nat.le_of_ble_eq_true rfl) (fun u_1 hw => ?_)
  refine vv_iconst hC d_S_putInOrder_5 (v := (0 : Int32)) (by decide) ?_
  refine vv_istore_n hC d_S_putInOrder_6 rfl (by decide) [1, 2, 0] (L2 := [(0, .ref (a_S 0)), (1, .ref (a_C 0)), (2, .int (0 : Int32))]) rfl ?_
  refine vv_iconst hC d_S_putInOrder_7 (v := (0 : Int32)) (by decide) ?_
  refine vv_istore_n hC d_S_putInOrder_8 rfl (by decide) [1, 2, 3, 0] (L2 := [(0, .ref (a_S 0)), (1, .ref (a_C 0)), (2, .int (0 : Int32)), (3, .int (0 : Int32))]) rfl ?_
  obtain ⟨m9, hw⟩ := hw
  refine vv_sub [0, 1, 2, 3] (by rfl) (l_S_putInOrder_L9 a_S a_C I_S I_C Q _ hC (fun A_S_14 A_C_15 hw => ?_) m9 u_1 A_C (0 : Int32) (0 : Int32) hw)
  refine vv_iconst hC d_S_putInOrder_88 (v := (1 : Int32)) (by decide) ?_
  exact vv_zret hC d_S_putInOrder_89 rfl (A_S_14, A_C_15) hw rfl
set_option maxHeartbeats 4000000 in
set_option maxRecDepth 100000 in
theorem c_S_reach (l : Launch) (D : va_G) (cA : Nat → ClassId) (sx : Nat → Nat) (a_S : Nat → Nat) (I_S : (Nat → Int32)) (A_S : (Nat → Nat → Int32)) (x1 : Int32) (Q : (Nat → Int32) → (Nat → Nat → Int32) → Prop) (hw : wp_S_reach I_S A_S x1 Q) : MetV l y_S_reach (Cond.code y_S_reach b_S_reach 2 none :: TB) ({ frames := 0, cells := 0, slots := 0, locals := 0 } : Room) D vwCl (tyl cA) (SPl sx) [.ref (a_S 0), .int x1] (kc_S cA a_S I_S A_S) (fun (u : (Nat → Int32) × (Nat → Nat → Int32)) => Q u.1 u.2) (fun u : (Nat → Int32) × (Nat → Nat → Int32) => kc_S cA a_S u.1 u.2) := by
  refine vv_entryV (cc := b_S_reach) (own := R_S) (L := [(0, .ref (a_S 0)), (1, .int x1)]) (by decide) rfl rfl (Nat.le_of_ble_eq_true rfl) rfl (fun p e s m args below meth c A hC => ?_)
  unfold wp_S_reach at hw
  refine vv_aload_n hC d_S_reach_0 0 rfl rfl ?_
  refine vv_get hC (v := .ref (a_S 1)) hin_S 0 0 tb_57 d_S_reach_1 rfl rfl (by decide) rfl rfl ?_
  refine vv_iload_n hC d_S_reach_4 1 rfl rfl ?_
  obtain ⟨hin_1, hw⟩ := hw
  refine vv_zald hC 1 1 d_S_reach_5 rfl rfl hin_1 ?_
  refine vv_if_ne hC 57 d_S_reach_6 (by decide) (fun cd => ?_) (fun cd => ?_)
  · have hw := hw.2 cd
    exact vv_vret hC d_S_reach_57 (I_S, A_S) hw rfl
  · have hw := hw.1 cd
    refine vv_aload_n hC d_S_reach_9 0 rfl rfl ?_
    refine vv_get hC (v := .ref (a_S 2)) hin_S 0 1 tb_58 d_S_reach_10 rfl rfl (by decide) rfl rfl ?_
    refine vv_iload_n hC d_S_reach_13 1 rfl rfl ?_
    refine vv_zald hC 2 1 d_S_reach_14 rfl rfl hin_1 ?_
    refine vv_if_ne hC 57 d_S_reach_15 (by decide) (fun cd => ?_) (fun cd => ?_)
    · have hw := hw.2 cd
      exact vv_vret hC d_S_reach_57 (I_S, A_S) hw rfl
    · have hw := hw.1 cd
      refine vv_aload_n hC d_S_reach_18 0 rfl rfl ?_
      refine vv_get hC (v := .int (I_S 0)) hin_S 0 4 tb_61 d_S_reach_19 rfl rfl (by decide) rfl rfl ?_
      refine vv_aload_n hC d_S_reach_22 0 rfl rfl ?_
      refine vv_get hC (v := .ref (a_S 4)) hin_S 0 3 tb_60 d_S_reach_23 rfl rfl (by decide) rfl rfl ?_
      refine vv_alen hC 4 0 d_S_reach_26 rfl rfl (v := (301 : Int32)) (show Int32.ofNat 301 = (301 : Int32) by decide) ?_
      refine vv_icmp_ge hC 57 d_S_reach_27 (by decide) (fun cd => ?_) (fun cd => ?_)
      · have hw := hw.1 cd
        exact vv_vret hC d_S_reach_57 (I_S, A_S) hw rfl
      · have hw := hw.2 cd
        refine vv_aload_n hC d_S_reach_30 0 rfl rfl ?_
        refine vv_get hC (v := .ref (a_S 2)) hin_S 0 1 tb_58 d_S_reach_31 rfl rfl (by decide) rfl rfl ?_
        refine vv_iload_n hC d_S_reach_34 1 rfl rfl ?_
        refine vv_iconst hC d_S_reach_35 (v := (1 : Int32)) (by decide) ?_
        refine vv_zast hC 2 1 d_S_reach_36 rfl rfl hin_1 (ws2 := kc_S cA a_S I_S (va_up A_S 1 (upd (A_S 1) (x1).toNatClampNeg (1 : Int32)))) (st_S_SA1 ..) ?_
        refine vv_aload_n hC d_S_reach_37 0 rfl rfl ?_
        refine vv_get hC (v := .ref (a_S 4)) hin_S 0 3 tb_60 d_S_reach_38 rfl rfl (by decide) rfl rfl ?_
        refine vv_aload_n hC d_S_reach_41 0 rfl rfl ?_
        refine vv_get hC (v := .int (I_S 0)) hin_S 0 4 tb_61 d_S_reach_42 rfl rfl (by decide) rfl rfl ?_
        refine vv_iload_n hC d_S_reach_45 1 rfl rfl ?_
        obtain ⟨hin_2, hw⟩ := hw
        refine vv_iast hC 4 0 d_S_reach_46 rfl rfl hin_2 (ws2 := kc_S cA a_S I_S (va_up (va_up A_S 1 (upd (A_S 1) (x1).toNatClampNeg (1 : Int32))) 3 (upd (A_S 3) ((I_S 0)).toNatClampNeg x1))) (st_S_SA3 ..) ?_
        refine vv_aload_n hC d_S_reach_47 0 rfl rfl ?_
        refine vv_dup hC d_S_reach_48 rfl ?_
        refine vv_get hC (v := .int (I_S 0)) hin_S 0 4 tb_61 d_S_reach_49 rfl rfl (by decide) rfl rfl ?_
        refine vv_iconst hC d_S_reach_52 (v := (1 : Int32)) (by decide) ?_
        refine vv_iadd hC d_S_reach_53 ?_
        refine vv_put hC hin_S ty_S tyok_S nmok_S 0 4 tb_61 d_S_reach_54 rfl rfl (by decide) rfl rfl rfl rfl rfl (Nat.le_of_ble_eq_true rfl) (ws2 := kc_S cA a_S (va_up I_S 0 ((I_S 0) + (1 : Int32))) (va_up (va_up A_S 1 (upd (A_S 1) (x1).toNatClampNeg (1 : Int32))) 3 (upd (A_S 3) ((I_S 0)).toNatClampNeg x1))) (st_S_SI0 ..) ?_
        exact vv_vret hC d_S_reach_57 ((va_up I_S 0 ((I_S 0) + (1 : Int32))), (va_up (va_up A_S 1 (upd (A_S 1) (x1).toNatClampNeg (1 : Int32))) 3 (upd (A_S 3) ((I_S 0)).toNatClampNeg x1))) hw rfl
set_option maxHeartbeats 4000000 in
set_option maxRecDepth 100000 in
theorem l_S_reachesItself_L2 {p : Program} {l : Launch} {e : Env} {s : State} {m : MethodId} {args : Array Value} {below : List Frame} {meth : Method} {c : Code} {D : va_G} {cA : Nat → ClassId} {sx : Nat → Nat} {A : Nat → Prop} (a_S a_C : Nat → Nat) (I_C : (Nat → Int32)) (A_C : (Nat → Nat → Int32)) (Q : Int32 → (Nat → Int32) → (Nat → Nat → Int32) → Prop) (X2 : (Nat → Int32) → (Nat → Nat → Int32) → Int32 → Prop) (hC : CX p s m args meth c b_S_reachesItself R_S TB 5 D vwCl (tyl cA) A (SPl sx) (some .boolean)) (hX2 : ∀ (I_S : (Nat → Int32)) (A_S : (Nat → Nat → Int32)) (v2 : Int32), X2 I_S A_S v2 → VV p l e ({ frames := 1, cells := 0, slots := 0, locals := 21 } : Room) s m args below meth c 5 D vwCl A 0 0 (QI below args s D vwCl (tyl cA) A (fun (r : Int32) (u : (Nat → Int32) × (Nat → Nat → Int32)) => Q r u.1 u.2) (fun u : (Nat → Int32) × (Nat → Nat → Int32) => kc_S cA a_S u.1 u.2 ++ kc_C cA a_C I_C A_C)) (kc_S cA a_S I_S A_S ++ kc_C cA a_C I_C A_C) 22 [(0, .ref (a_S 0)), (1, .ref (a_C 0)), (2, .int v2)] []) : ∀ (n2 : Nat) (I_S : (Nat → Int32)) (A_S : (Nat → Nat → Int32)) (v2 : Int32) (v3 : Int32), wp_S_reachesItself_L2 A_C Q X2 n2 I_S A_S v2 v3 → VV p l e ({ frames := 1, cells := 0, slots := 0, locals := 21 } : Room) s m args below meth c 5 D vwCl A 0 0 (QI below args s D vwCl (tyl cA) A (fun (r : Int32) (u : (Nat → Int32) × (Nat → Nat → Int32)) => Q r u.1 u.2) (fun u : (Nat → Int32) × (Nat → Nat → Int32) => kc_S cA a_S u.1 u.2 ++ kc_C cA a_C I_C A_C)) (kc_S cA a_S I_S A_S ++ kc_C cA a_C I_C A_C) 2 [(0, .ref (a_S 0)), (1, .ref (a_C 0)), (2, .int v2), (3, .int v3)] [] := by
  intro n2
  induction n2 with
  | zero =>
    intro I_S A_S v2 v3 hw
    exact absurd hw (fun z => z)
  | succ n2 ih =>
    intro I_S A_S v2 v3 hw
    unfold wp_S_reachesItself_L2 at hw
    refine vv_iload_n hC d_S_reachesItself_2 3 rfl rfl ?_
    refine vv_sipush hC d_S_reachesItself_3 (v := (400 : Int32)) (by decide) ?_
    refine vv_icmp_gt hC 22 d_S_reachesItself_6 (by decide) (fun cd => ?_) (fun cd => ?_)
    · have hw := hw.1 cd
      exact vv_sub [0, 1, 2] (by rfl) (hX2 I_S A_S v2 hw)
    · have hw := hw.2 cd
      refine vv_aload_n hC d_S_reachesItself_9 0 rfl rfl ?_
      refine vv_get hC (v := .ref (a_S 2)) hin_S 0 1 tb_58 d_S_reachesItself_10 rfl rfl (by decide) rfl rfl ?_
      refine vv_iload_n hC d_S_reachesItself_13 3 rfl rfl ?_
      refine vv_iconst hC d_S_reachesItself_14 (v := (0 : Int32)) (by decide) ?_
      obtain ⟨hin_1, hw⟩ := hw
      refine vv_zast hC 2 1 d_S_reachesItself_15 rfl rfl hin_1 (ws2 := kc_S cA a_S I_S (va_up A_S 1 (upd (A_S 1) (v3).toNatClampNeg (0 : Int32))) ++ kc_C cA a_C I_C A_C) (st_SC_SA1 ..) ?_
      refine vv_iinc hC d_S_reachesItself_16 3 rfl (v := (v3 + (1 : Int32))) rfl (by decide) [1, 2, 3, 0] (L2 := [(0, .ref (a_S 0)), (1, .ref (a_C 0)), (2, .int v2), (3, .int (v3 + (1 : Int32)))]) rfl ?_
      refine vv_goto hC 2 d_S_reachesItself_19 (by decide) ?_
      exact vv_sub [0, 1, 2, 3] (by rfl) (ih I_S (va_up A_S 1 (upd (A_S 1) (v3).toNatClampNeg (0 : Int32))) v2 (v3 + (1 : Int32)) hw)
set_option maxHeartbeats 4000000 in
set_option maxRecDepth 100000 in
theorem l_S_reachesItself_L36 {p : Program} {l : Launch} {e : Env} {s : State} {m : MethodId} {args : Array Value} {below : List Frame} {meth : Method} {c : Code} {D : va_G} {cA : Nat → ClassId} {sx : Nat → Nat} {A : Nat → Prop} (a_S a_C : Nat → Nat) (I_C : (Nat → Int32)) (A_C : (Nat → Nat → Int32)) (Q : Int32 → (Nat → Int32) → (Nat → Nat → Int32) → Prop) (X36 : (Nat → Int32) → (Nat → Nat → Int32) → Int32 → Prop) (hC : CX p s m args meth c b_S_reachesItself R_S TB 5 D vwCl (tyl cA) A (SPl sx) (some .boolean)) (hX36 : ∀ (I_S : (Nat → Int32)) (A_S : (Nat → Nat → Int32)) (v2 : Int32), X36 I_S A_S v2 → VV p l e ({ frames := 1, cells := 0, slots := 0, locals := 21 } : Room) s m args below meth c 5 D vwCl A 0 0 (QI below args s D vwCl (tyl cA) A (fun (r : Int32) (u : (Nat → Int32) × (Nat → Nat → Int32)) => Q r u.1 u.2) (fun u : (Nat → Int32) × (Nat → Nat → Int32) => kc_S cA a_S u.1 u.2 ++ kc_C cA a_C I_C A_C)) (kc_S cA a_S I_S A_S ++ kc_C cA a_C I_C A_C) 108 [(0, .ref (a_S 0)), (2, .int v2)] []) : ∀ (n36 : Nat) (I_S : (Nat → Int32)) (A_S : (Nat → Nat → Int32)) (v2 : Int32) (v3 : Int32), wp_S_reachesItself_L36 A_C Q X36 n36 I_S A_S v2 v3 → VV p l e ({ frames := 1, cells := 0, slots := 0, locals := 21 } : Room) s m args below meth c 5 D vwCl A 0 0 (QI below args s D vwCl (tyl cA) A (fun (r : Int32) (u : (Nat → Int32) × (Nat → Nat → Int32)) => Q r u.1 u.2) (fun u : (Nat → Int32) × (Nat → Nat → Int32) => kc_S cA a_S u.1 u.2 ++ kc_C cA a_C I_C A_C)) (kc_S cA a_S I_S A_S ++ kc_C cA a_C I_C A_C) 36 [(0, .ref (a_S 0)), (1, .ref (a_C 0)), (2, .int v2), (3, .int v3)] [] := by
  intro n36
  induction n36 with
  | zero =>
    intro I_S A_S v2 v3 hw
    exact absurd hw (fun z => z)
  | succ n36 ih =>
    intro I_S A_S v2 v3 hw
    unfold wp_S_reachesItself_L36 at hw
    refine vv_aload_n hC d_S_reachesItself_36 0 rfl rfl ?_
    refine vv_get hC (v := .int (I_S 0)) hin_S 0 4 tb_61 d_S_reachesItself_37 rfl rfl (by decide) rfl rfl ?_
    refine vv_if_le hC 108 d_S_reachesItself_40 (by decide) (fun cd => ?_) (fun cd => ?_)
    · have hw := hw.1 cd
      exact vv_sub [0, 2] (by rfl) (hX36 I_S A_S v2 hw)
    · have hw := hw.2 cd
      refine vv_iload_n hC d_S_reachesItself_43 3 rfl rfl ?_
      refine vv_sipush hC d_S_reachesItself_44 (v := (300 : Int32)) (by decide) ?_
      refine vv_icmp_gt hC 108 d_S_reachesItself_47 (by decide) (fun cd => ?_) (fun cd => ?_)
      · have hw := hw.1 cd
        exact vv_sub [0, 2] (by rfl) (hX36 I_S A_S v2 hw)
      · have hw := hw.2 cd
        refine vv_aload_n hC d_S_reachesItself_50 0 rfl rfl ?_
        refine vv_dup hC d_S_reachesItself_51 rfl ?_
        refine vv_get hC (v := .int (I_S 0)) hin_S 0 4 tb_61 d_S_reachesItself_52 rfl rfl (by decide) rfl rfl ?_
        refine vv_iconst hC d_S_reachesItself_55 (v := (1 : Int32)) (by decide) ?_
        refine vv_isub hC d_S_reachesItself_56 ?_
        refine vv_put hC hin_S ty_S tyok_S nmok_S 0 4 tb_61 d_S_reachesItself_57 rfl rfl (by decide) rfl rfl rfl rfl rfl (Nat.le_of_ble_eq_true rfl) (ws2 := kc_S cA a_S (va_up I_S 0 ((I_S 0) - (1 : Int32))) A_S ++ kc_C cA a_C I_C A_C) (st_SC_SI0 ..) ?_
        refine vv_aload_n hC d_S_reachesItself_60 0 rfl rfl ?_
        refine vv_get hC (v := .ref (a_S 3)) hin_S 0 2 tb_59 d_S_reachesItself_61 rfl rfl (by decide) rfl rfl ?_
        refine vv_aload_n hC d_S_reachesItself_64 0 rfl rfl ?_
        refine vv_get hC (v := .ref (a_S 4)) hin_S 0 3 tb_60 d_S_reachesItself_65 rfl rfl (by decide) rfl rfl ?_
        refine vv_aload_n hC d_S_reachesItself_68 0 rfl rfl ?_
        refine vv_get hC (v := .int ((I_S 0) - (1 : Int32))) hin_S 0 4 tb_61 d_S_reachesItself_69 rfl rfl (by decide) rfl rfl ?_
        obtain ⟨hin_5, hw⟩ := hw
        refine vv_iald hC 4 0 d_S_reachesItself_72 rfl rfl hin_5 ?_
        obtain ⟨hin_6, hw⟩ := hw
        refine vv_iald hC 3 0 d_S_reachesItself_73 rfl rfl hin_6 ?_
        refine vv_istore hC d_S_reachesItself_74 (by decide) [1, 2, 3, 4, 0] (L2 := [(0, .ref (a_S 0)), (1, .ref (a_C 0)), (2, .int v2), (3, .int v3), (4, .int ((A_S 2) (((A_S 3) (((I_S 0) - (1 : Int32))).toNatClampNeg)).toNatClampNeg))]) rfl ?_
        refine vv_aload_n hC d_S_reachesItself_76 0 rfl rfl ?_
        refine vv_aload_n hC d_S_reachesItself_77 1 rfl rfl ?_
        refine vv_get hC (v := .ref (a_C 6)) hin_C 5 11 tb_191 d_S_reachesItself_78 rfl rfl (by decide) rfl rfl ?_
        refine vv_iload hC d_S_reachesItself_81 4 rfl ?_
        obtain ⟨hin_7, hw⟩ := hw
        refine vv_iald hC 11 0 d_S_reachesItself_83 rfl rfl hin_7 ?_
        refine vv_iconst hC d_S_reachesItself_84 (v := (1 : Int32)) (by decide) ?_
        refine vv_ishr hC d_S_reachesItself_85 ?_
        refine vv_callVV (wr := kc_C cA a_C I_C A_C) hC (c_S_reach l D cA sx a_S (va_up I_S 0 ((I_S 0) - (1 : Int32))) A_S (((A_C 5) (((A_S 2) (((A_S 3) (((I_S 0) - (1 : Int32))).toNatClampNeg)).toNatClampNeg)).toNatClampNeg) >>> ((1 : Int32) &&& 31)) _ hw) (cw_S_61 hC) d_S_reachesItself_86 [] [0, 1, 2, 3, 4] [5, 6, 7, 8, 9, 10, 11, 12, 13, 14, 15, 16, 17] [13, 14, 15, 16, 17, 0, 1, 2, 3, 4, 5, 6, 7, 8, 9, 10, 11, 12] (fun u_8 : (Nat → Int32) × (Nat → Nat → Int32) => kc_S cA a_S u_8.1 u_8.2 ++ kc_C cA a_C I_C A_C) ⟨Nat.zero_le _, Nat.zero_le _⟩ rfl rfl (fun _ => rfl) rfl rfl rfl rfl rfl rfl rfl rfl (Nat.le_of_ble_eq_true rfl) (fun u_8 hw => ?_)
        refine vv_aload_n hC d_S_reachesItself_89 0 rfl rfl ?_
        refine vv_aload_n hC d_S_reachesItself_90 1 rfl rfl ?_
        refine vv_get hC (v := .ref (a_C 7)) hin_C 5 12 tb_195 d_S_reachesItself_91 rfl rfl (by decide) rfl rfl ?_
        refine vv_iload hC d_S_reachesItself_94 4 rfl ?_
        refine vv_iald hC 12 0 d_S_reachesItself_96 rfl rfl hin_7 ?_
        refine vv_iconst hC d_S_reachesItself_97 (v := (1 : Int32)) (by decide) ?_
        refine vv_ishr hC d_S_reachesItself_98 ?_
        refine vv_callVV (wr := kc_C cA a_C I_C A_C) hC (c_S_reach l D cA sx a_S u_8.1 u_8.2 (((A_C 6) (((A_S 2) (((A_S 3) (((I_S 0) - (1 : Int32))).toNatClampNeg)).toNatClampNeg)).toNatClampNeg) >>> ((1 : Int32) &&& 31)) _ hw) (cw_S_61 hC) d_S_reachesItself_99 [] [0, 1, 2, 3, 4] [5, 6, 7, 8, 9, 10, 11, 12, 13, 14, 15, 16, 17] [13, 14, 15, 16, 17, 0, 1, 2, 3, 4, 5, 6, 7, 8, 9, 10, 11, 12] (fun u_11 : (Nat → Int32) × (Nat → Nat → Int32) => kc_S cA a_S u_11.1 u_11.2 ++ kc_C cA a_C I_C A_C) ⟨Nat.zero_le _, Nat.zero_le _⟩ rfl rfl (fun _ => rfl) rfl rfl rfl rfl rfl rfl rfl rfl (Nat.le_of_ble_eq_true rfl) (fun u_11 hw => ?_)
        refine vv_iinc hC d_S_reachesItself_102 3 rfl (v := (v3 + (1 : Int32))) rfl (by decide) [1, 2, 3, 0, 4] (L2 := [(0, .ref (a_S 0)), (1, .ref (a_C 0)), (2, .int v2), (3, .int (v3 + (1 : Int32))), (4, .int ((A_S 2) (((A_S 3) (((I_S 0) - (1 : Int32))).toNatClampNeg)).toNatClampNeg))]) rfl ?_
        refine vv_goto hC 36 d_S_reachesItself_105 (by decide) ?_
        exact vv_sub [0, 1, 2, 3] (by rfl) (ih u_11.1 u_11.2 v2 (v3 + (1 : Int32)) hw)
set_option maxHeartbeats 4000000 in
set_option maxRecDepth 100000 in
theorem c_S_reachesItself (l : Launch) (D : va_G) (cA : Nat → ClassId) (sx : Nat → Nat) (a_S a_C : Nat → Nat) (I_S : (Nat → Int32)) (A_S : (Nat → Nat → Int32)) (I_C : (Nat → Int32)) (A_C : (Nat → Nat → Int32)) (x2 : Int32) (Q : Int32 → (Nat → Int32) → (Nat → Nat → Int32) → Prop) (hw : wp_S_reachesItself I_S A_S A_C x2 Q) : MetI l y_S_reachesItself (Cond.code y_S_reachesItself b_S_reachesItself 5 (some .boolean) :: TB) ({ frames := 1, cells := 0, slots := 0, locals := 21 } : Room) D vwCl (tyl cA) (SPl sx) [.ref (a_S 0), .ref (a_C 0), .int x2] (kc_S cA a_S I_S A_S ++ kc_C cA a_C I_C A_C) (fun (r : Int32) (u : (Nat → Int32) × (Nat → Nat → Int32)) => Q r u.1 u.2) (fun u : (Nat → Int32) × (Nat → Nat → Int32) => kc_S cA a_S u.1 u.2 ++ kc_C cA a_C I_C A_C) := by
  refine vv_entryI (cc := b_S_reachesItself) (own := R_S) (L := [(0, .ref (a_S 0)), (1, .ref (a_C 0)), (2, .int x2)]) (by decide) rfl rfl (Nat.le_of_ble_eq_true rfl) rfl (fun p e s m args below meth c A hC => ?_)
  unfold wp_S_reachesItself at hw
  refine vv_iconst hC d_S_reachesItself_0 (v := (0 : Int32)) (by decide) ?_
  refine vv_istore_n hC d_S_reachesItself_1 rfl (by decide) [1, 2, 3, 0] (L2 := [(0, .ref (a_S 0)), (1, .ref (a_C 0)), (2, .int x2), (3, .int (0 : Int32))]) rfl ?_
  obtain ⟨m2, hw⟩ := hw
  refine vv_sub [0, 1, 2, 3] (by rfl) (l_S_reachesItself_L2 a_S a_C I_C A_C Q _ hC (fun I_S_2 A_S_3 v2_4 hw => ?_) m2 I_S A_S x2 (0 : Int32) hw)
  refine vv_aload_n hC d_S_reachesItself_22 0 rfl rfl ?_
  refine vv_get hC (v := .ref (a_S 4)) hin_S 0 3 tb_60 d_S_reachesItself_23 rfl rfl (by decide) rfl rfl ?_
  refine vv_iconst hC d_S_reachesItself_26 (v := (0 : Int32)) (by decide) ?_
  refine vv_iload_n hC d_S_reachesItself_27 2 rfl rfl ?_
  refine vv_iast hC 4 0 d_S_reachesItself_28 rfl rfl (vin_c (by decide)) (ws2 := kc_S cA a_S I_S_2 (va_up A_S_3 3 (upd (A_S_3 3) ((0 : Int32)).toNatClampNeg v2_4)) ++ kc_C cA a_C I_C A_C) (st_SC_SA3 ..) ?_
  refine vv_aload_n hC d_S_reachesItself_29 0 rfl rfl ?_
  refine vv_iconst hC d_S_reachesItself_30 (v := (1 : Int32)) (by decide) ?_
  refine vv_put hC hin_S ty_S tyok_S nmok_S 0 4 tb_61 d_S_reachesItself_31 rfl rfl (by decide) rfl rfl rfl rfl rfl (Nat.le_of_ble_eq_true rfl) (ws2 := kc_S cA a_S (va_up I_S_2 0 (1 : Int32)) (va_up A_S_3 3 (upd (A_S_3 3) ((0 : Int32)).toNatClampNeg v2_4)) ++ kc_C cA a_C I_C A_C) (st_SC_SI0 ..) ?_
  refine vv_iconst hC d_S_reachesItself_34 (v := (0 : Int32)) (by decide) ?_
  refine vv_istore_n hC d_S_reachesItself_35 rfl (by decide) [1, 2, 3, 0] (L2 := [(0, .ref (a_S 0)), (1, .ref (a_C 0)), (2, .int v2_4), (3, .int (0 : Int32))]) rfl ?_
  obtain ⟨m36, hw⟩ := hw
  refine vv_sub [0, 1, 2, 3] (by rfl) (l_S_reachesItself_L36 a_S a_C I_C A_C Q _ hC (fun I_S_14 A_S_15 v2_16 hw => ?_) m36 (va_up I_S_2 0 (1 : Int32)) (va_up A_S_3 3 (upd (A_S_3 3) ((0 : Int32)).toNatClampNeg v2_4)) v2_4 (0 : Int32) hw)
  refine vv_aload_n hC d_S_reachesItself_108 0 rfl rfl ?_
  refine vv_get hC (v := .ref (a_S 2)) hin_S 0 1 tb_58 d_S_reachesItself_109 rfl rfl (by decide) rfl rfl ?_
  refine vv_iload_n hC d_S_reachesItself_112 1 rfl rfl ?_
  obtain ⟨hin_17, hw⟩ := hw
  refine vv_zald hC 2 1 d_S_reachesItself_113 rfl rfl hin_17 ?_
  obtain ⟨hnr_18, hw⟩ := hw
  exact vv_zret hC d_S_reachesItself_114 hnr_18 (I_S_14, A_S_15) hw rfl
set_option maxHeartbeats 4000000 in
set_option maxRecDepth 100000 in
theorem l_S_lowestOnLoop_L2 {p : Program} {l : Launch} {e : Env} {s : State} {m : MethodId} {args : Array Value} {below : List Frame} {meth : Method} {c : Code} {D : va_G} {cA : Nat → ClassId} {sx : Nat → Nat} {A : Nat → Prop} (a_S a_C : Nat → Nat) (I_C : (Nat → Int32)) (A_C : (Nat → Nat → Int32)) (Q : Int32 → (Nat → Int32) → (Nat → Nat → Int32) → Prop) (X2 : (Nat → Int32) → (Nat → Nat → Int32) → Prop) (hC : CX p s m args meth c b_S_lowestOnLoop R_S TB 3 D vwCl (tyl cA) A (SPl sx) (some .int)) (hX2 : ∀ (I_S : (Nat → Int32)) (A_S : (Nat → Nat → Int32)), X2 I_S A_S → VV p l e ({ frames := 2, cells := 0, slots := 0, locals := 45 } : Room) s m args below meth c 3 D vwCl A 0 0 (QI below args s D vwCl (tyl cA) A (fun (r : Int32) (u : (Nat → Int32) × (Nat → Nat → Int32)) => Q r u.1 u.2) (fun u : (Nat → Int32) × (Nat → Nat → Int32) => kc_S cA a_S u.1 u.2 ++ kc_C cA a_C I_C A_C)) (kc_S cA a_S I_S A_S ++ kc_C cA a_C I_C A_C) 36 [] []) : ∀ (n2 : Nat) (I_S : (Nat → Int32)) (A_S : (Nat → Nat → Int32)) (v2 : Int32), wp_S_lowestOnLoop_L2 I_C A_C Q X2 n2 I_S A_S v2 → VV p l e ({ frames := 2, cells := 0, slots := 0, locals := 45 } : Room) s m args below meth c 3 D vwCl A 0 0 (QI below args s D vwCl (tyl cA) A (fun (r : Int32) (u : (Nat → Int32) × (Nat → Nat → Int32)) => Q r u.1 u.2) (fun u : (Nat → Int32) × (Nat → Nat → Int32) => kc_S cA a_S u.1 u.2 ++ kc_C cA a_C I_C A_C)) (kc_S cA a_S I_S A_S ++ kc_C cA a_C I_C A_C) 2 [(0, .ref (a_S 0)), (1, .ref (a_C 0)), (2, .int v2)] [] := by
  intro n2
  induction n2 with
  | zero =>
    intro I_S A_S v2 hw
    exact absurd hw (fun z => z)
  | succ n2 ih =>
    intro I_S A_S v2 hw
    unfold wp_S_lowestOnLoop_L2 at hw
    refine vv_iload_n hC d_S_lowestOnLoop_2 2 rfl rfl ?_
    refine vv_aload_n hC d_S_lowestOnLoop_3 1 rfl rfl ?_
    refine vv_get hC (v := .int (I_C 0)) hin_C 5 0 tb_150 d_S_lowestOnLoop_4 rfl rfl (by decide) rfl rfl ?_
    refine vv_icmp_gt hC 36 d_S_lowestOnLoop_7 (by decide) (fun cd => ?_) (fun cd => ?_)
    · have hw := hw.1 cd
      exact vv_sub [] (by rfl) (hX2 I_S A_S hw)
    · have hw := hw.2 cd
      refine vv_aload_n hC d_S_lowestOnLoop_10 0 rfl rfl ?_
      refine vv_get hC (v := .ref (a_S 1)) hin_S 0 0 tb_57 d_S_lowestOnLoop_11 rfl rfl (by decide) rfl rfl ?_
      refine vv_iload_n hC d_S_lowestOnLoop_14 2 rfl rfl ?_
      obtain ⟨hin_1, hw⟩ := hw
      refine vv_zald hC 1 1 d_S_lowestOnLoop_15 rfl rfl hin_1 ?_
      refine vv_if_ne hC 30 d_S_lowestOnLoop_16 (by decide) (fun cd => ?_) (fun cd => ?_)
      · have hw := hw.2 cd
        refine vv_iinc hC d_S_lowestOnLoop_30 2 rfl (v := (v2 + (1 : Int32))) rfl (by decide) [1, 2, 0] (L2 := [(0, .ref (a_S 0)), (1, .ref (a_C 0)), (2, .int (v2 + (1 : Int32)))]) rfl ?_
        refine vv_goto hC 2 d_S_lowestOnLoop_33 (by decide) ?_
        exact vv_sub [0, 1, 2] (by rfl) (ih I_S A_S (v2 + (1 : Int32)) hw)
      · have hw := hw.1 cd
        refine vv_aload_n hC d_S_lowestOnLoop_19 0 rfl rfl ?_
        refine vv_aload_n hC d_S_lowestOnLoop_20 1 rfl rfl ?_
        refine vv_iload_n hC d_S_lowestOnLoop_21 2 rfl rfl ?_
        refine vv_callVI (wr := []) hC (c_S_reachesItself l D cA sx a_S a_C I_S A_S I_C A_C v2 _ hw) (cw_S_57 hC) d_S_lowestOnLoop_22 [] [0, 1, 2, 3, 4, 5, 6, 7, 8, 9, 10, 11, 12, 13, 14, 15, 16, 17] [] [0, 1, 2, 3, 4, 5, 6, 7, 8, 9, 10, 11, 12, 13, 14, 15, 16, 17] (fun u_3 : (Nat → Int32) × (Nat → Nat → Int32) => kc_S cA a_S u_3.1 u_3.2 ++ kc_C cA a_C I_C A_C) ⟨Nat.zero_le _, Nat.zero_le _⟩ rfl rfl (fun _ => rfl) rfl rfl rfl rfl rfl rfl rfl rfl (Nat.le_of_ble_eq_true rfl) (fun r_2 u_3 hw => ?_)
        refine vv_if_eq hC 30 d_S_lowestOnLoop_25 (by decide) (fun cd => ?_) (fun cd => ?_)
        · have hw := hw.1 cd
          refine vv_iinc hC d_S_lowestOnLoop_30 2 rfl (v := (v2 + (1 : Int32))) rfl (by decide) [1, 2, 0] (L2 := [(0, .ref (a_S 0)), (1, .ref (a_C 0)), (2, .int (v2 + (1 : Int32)))]) rfl ?_
          refine vv_goto hC 2 d_S_lowestOnLoop_33 (by decide) ?_
          exact vv_sub [0, 1, 2] (by rfl) (ih u_3.1 u_3.2 (v2 + (1 : Int32)) hw)
        · have hw := hw.2 cd
          refine vv_iload_n hC d_S_lowestOnLoop_28 2 rfl rfl ?_
          exact vv_iret hC d_S_lowestOnLoop_29 (u_3.1, u_3.2) hw rfl
set_option maxHeartbeats 4000000 in
set_option maxRecDepth 100000 in
theorem c_S_lowestOnLoop (l : Launch) (D : va_G) (cA : Nat → ClassId) (sx : Nat → Nat) (a_S a_C : Nat → Nat) (I_S : (Nat → Int32)) (A_S : (Nat → Nat → Int32)) (I_C : (Nat → Int32)) (A_C : (Nat → Nat → Int32)) (Q : Int32 → (Nat → Int32) → (Nat → Nat → Int32) → Prop) (hw : wp_S_lowestOnLoop I_S A_S I_C A_C Q) : MetI l y_S_lowestOnLoop (Cond.code y_S_lowestOnLoop b_S_lowestOnLoop 3 (some .int) :: TB) ({ frames := 2, cells := 0, slots := 0, locals := 45 } : Room) D vwCl (tyl cA) (SPl sx) [.ref (a_S 0), .ref (a_C 0)] (kc_S cA a_S I_S A_S ++ kc_C cA a_C I_C A_C) (fun (r : Int32) (u : (Nat → Int32) × (Nat → Nat → Int32)) => Q r u.1 u.2) (fun u : (Nat → Int32) × (Nat → Nat → Int32) => kc_S cA a_S u.1 u.2 ++ kc_C cA a_C I_C A_C) := by
  refine vv_entryI (cc := b_S_lowestOnLoop) (own := R_S) (L := [(0, .ref (a_S 0)), (1, .ref (a_C 0))]) (by decide) rfl rfl (Nat.le_of_ble_eq_true rfl) rfl (fun p e s m args below meth c A hC => ?_)
  unfold wp_S_lowestOnLoop at hw
  refine vv_iconst hC d_S_lowestOnLoop_0 (v := (1 : Int32)) (by decide) ?_
  refine vv_istore_n hC d_S_lowestOnLoop_1 rfl (by decide) [1, 2, 0] (L2 := [(0, .ref (a_S 0)), (1, .ref (a_C 0)), (2, .int (1 : Int32))]) rfl ?_
  obtain ⟨m2, hw⟩ := hw
  refine vv_sub [0, 1, 2] (by rfl) (l_S_lowestOnLoop_L2 a_S a_C I_C A_C Q _ hC (fun I_S_6 A_S_7 hw => ?_) m2 I_S A_S (1 : Int32) hw)
  refine vv_iconst hC d_S_lowestOnLoop_36 (v := (-1 : Int32)) (by decide) ?_
  exact vv_iret hC d_S_lowestOnLoop_37 (I_S_6, A_S_7) hw rfl
end
section
theorem d_F_slotOf_0 : decode b_F_slotOf 0 = .ok (.iload_n 0, 1) := by decide +kernel
theorem d_F_slotOf_1 : decode b_F_slotOf 1 = .ok (.bipush 8, 2) := by decide +kernel
theorem d_F_slotOf_3 : decode b_F_slotOf 3 = .ok (.imul, 1) := by decide +kernel
theorem d_F_slotOf_4 : decode b_F_slotOf 4 = .ok (.iload_n 1, 1) := by decide +kernel
theorem d_F_slotOf_5 : decode b_F_slotOf 5 = .ok (.iadd, 1) := by decide +kernel
theorem d_F_slotOf_6 : decode b_F_slotOf 6 = .ok (.ireturn, 1) := by decide +kernel
end
section

end
section
def wp_F_slotOf (x0 : Int32) (x1 : Int32) (Q : Int32 → Prop) : Prop := Q ((x0 * (8 : Int32)) + x1)
end
section
set_option maxHeartbeats 4000000 in
set_option maxRecDepth 100000 in
theorem c_F_slotOf (l : Launch) (D : va_G) (cA : Nat → ClassId) (sx : Nat → Nat) (x0 x1 : Int32) (Q : Int32 → Prop) (hw : wp_F_slotOf x0 x1 Q) : MetI l y_F_slotOf (Cond.code y_F_slotOf b_F_slotOf 2 (some .int) :: TB) ({ frames := 0, cells := 0, slots := 0, locals := 0 } : Room) D vwCl (tyl cA) (SPl sx) [.int x0, .int x1] ([]) (fun (r : Int32) (u : Unit) => Q r) (fun u : Unit => []) := by
  refine vv_entryI (cc := b_F_slotOf) (own := R_F) (L := [(0, .int x0), (1, .int x1)]) (by decide) rfl rfl (Nat.le_of_ble_eq_true rfl) rfl (fun p e s m args below meth c A hC => ?_)
  unfold wp_F_slotOf at hw
  refine vv_iload_n hC d_F_slotOf_0 0 rfl rfl ?_
  refine vv_bipush hC d_F_slotOf_1 (v := (8 : Int32)) (by decide) ?_
  refine vv_imul hC d_F_slotOf_3 ?_
  refine vv_iload_n hC d_F_slotOf_4 1 rfl rfl ?_
  refine vv_iadd hC d_F_slotOf_5 ?_
  exact vv_iret hC d_F_slotOf_6 () hw rfl
end
section
def R_JS : String := "java/lang/String"
def R_JL : String := "java/lang/StringLatin1"
def R_JP : String := "jdk/internal/util/Preconditions"
abbrev b_JcA : ByteArray := prog_14_method_56_code
def y_JcA : MethodName := ⟨R_JS, "charAt", "(I)C"⟩
abbrev b_JiL : ByteArray := prog_14_method_154_code
def y_JiL : MethodName := ⟨R_JS, "isLatin1", "()Z"⟩
abbrev b_JlC : ByteArray := prog_15_method_2_code
def y_JlC : MethodName := ⟨R_JL, "charAt", "([BI)C"⟩
abbrev b_JcI : ByteArray := prog_14_method_155_code
def y_JcI : MethodName := ⟨R_JS, "checkIndex", "(II)V"⟩
abbrev b_JpI : ByteArray := prog_18_method_11_code
def y_JpI : MethodName := ⟨R_JP, "checkIndex", "(IILjava/util/function/BiFunction;)I"⟩
theorem tb_9 : Cond.initialized R_JS ∈ TB := tb_mem (i := 72) (by decide +kernel) (by decide +kernel)
theorem tb_10 : Cond.initialized R_JL ∈ TB := tb_mem (i := 73) (by decide +kernel) (by decide +kernel)
theorem tb_11 : Cond.initialized R_JP ∈ TB := tb_mem (i := 74) (by decide +kernel) (by decide +kernel)
theorem tb_17 : Cond.initialized "java/lang/Math" ∈ TB := tb_mem (i := 80) (by decide +kernel) (by decide +kernel)
theorem tb_344 : Cond.static Lib.Math.max.name ∈ TB := tb_mem (i := 407) (by decide +kernel) (by decide +kernel)
theorem tb_345 : Cond.code Lib.Math.max.name Lib.Math.max.code 2 (some .int) ∈ TB := tb_mem (i := 408) (by decide +kernel) (by decide +kernel)
theorem tb_351 : Cond.static Lib.Math.min.name ∈ TB := tb_mem (i := 414) (by decide +kernel) (by decide +kernel)
theorem tb_352 : Cond.code Lib.Math.min.name Lib.Math.min.code 2 (some .int) ∈ TB := tb_mem (i := 415) (by decide +kernel) (by decide +kernel)
theorem tb_361 : Cond.instanceMethod y_JcA ∈ TB := tb_mem (i := 424) (by decide +kernel) (by decide +kernel)
theorem tb_362 : Cond.selects R_JS y_JcA y_JcA ∈ TB := tb_mem (i := 425) (by decide +kernel) (by decide +kernel)
theorem tb_363 : Cond.code y_JcA b_JcA 2 (some .char) ∈ TB := tb_mem (i := 426) (by decide +kernel) (by decide +kernel)
theorem tb_364 : Cond.methodLink R_JS 492 y_JiL ∈ TB := tb_mem (i := 427) (by decide +kernel) (by decide +kernel)
theorem tb_365 : Cond.instanceMethod y_JiL ∈ TB := tb_mem (i := 428) (by decide +kernel) (by decide +kernel)
theorem tb_366 : Cond.selects R_JS y_JiL y_JiL ∈ TB := tb_mem (i := 429) (by decide +kernel) (by decide +kernel)
theorem tb_367 : Cond.code y_JiL b_JiL 1 (some .boolean) ∈ TB := tb_mem (i := 430) (by decide +kernel) (by decide +kernel)
theorem tb_368 : Cond.fieldLink R_JS 38 "java/lang/String" "COMPACT_STRINGS" "Z" ∈ TB := tb_mem (i := 431) (by decide +kernel) (by decide +kernel)
theorem tb_370 : Cond.methodLink R_JS 495 y_JlC ∈ TB := tb_mem (i := 433) (by decide +kernel) (by decide +kernel)
theorem tb_371 : Cond.static y_JlC ∈ TB := tb_mem (i := 434) (by decide +kernel) (by decide +kernel)
theorem tb_372 : Cond.code y_JlC b_JlC 2 (some .char) ∈ TB := tb_mem (i := 435) (by decide +kernel) (by decide +kernel)
theorem tb_373 : Cond.methodLink R_JL 9 y_JcI ∈ TB := tb_mem (i := 436) (by decide +kernel) (by decide +kernel)
theorem tb_374 : Cond.static y_JcI ∈ TB := tb_mem (i := 437) (by decide +kernel) (by decide +kernel)
theorem tb_375 : Cond.code y_JcI b_JcI 2 none ∈ TB := tb_mem (i := 438) (by decide +kernel) (by decide +kernel)
theorem tb_376 : Cond.fieldLink R_JS 1053 "jdk/internal/util/Preconditions" "SIOOBE_FORMATTER" "Ljava/util/function/BiFunction;" ∈ TB := tb_mem (i := 439) (by decide +kernel) (by decide +kernel)
theorem tb_378 : Cond.methodLink R_JS 1059 y_JpI ∈ TB := tb_mem (i := 441) (by decide +kernel) (by decide +kernel)
theorem tb_379 : Cond.static y_JpI ∈ TB := tb_mem (i := 442) (by decide +kernel) (by decide +kernel)
theorem tb_380 : Cond.code y_JpI b_JpI 3 (some .int) ∈ TB := tb_mem (i := 443) (by decide +kernel) (by decide +kernel)
theorem tb_960 : Cond.fieldLink R_JS 15 "java/lang/String" "coder" "B" ∈ TB := tb_mem (i := 1023) (by decide +kernel) (by decide +kernel)
theorem tb_961 : Cond.fieldLink R_JS 9 "java/lang/String" "value" "[B" ∈ TB := tb_mem (i := 1024) (by decide +kernel) (by decide +kernel)
theorem d_JcA_0 : decode b_JcA 0 = .ok (.aload_n 0, 1) := by decide +kernel
theorem d_JcA_1 : decode b_JcA 1 = .ok (.invokevirtual 492, 3) := by decide +kernel
theorem d_JcA_4 : decode b_JcA 4 = .ok (.ifCond .eq 12, 3) := by decide +kernel
theorem d_JcA_7 : decode b_JcA 7 = .ok (.aload_n 0, 1) := by decide +kernel
theorem d_JcA_8 : decode b_JcA 8 = .ok (.getfield 9, 3) := by decide +kernel
theorem d_JcA_11 : decode b_JcA 11 = .ok (.iload_n 1, 1) := by decide +kernel
theorem d_JcA_12 : decode b_JcA 12 = .ok (.invokestatic 495, 3) := by decide +kernel
theorem d_JcA_15 : decode b_JcA 15 = .ok (.ireturn, 1) := by decide +kernel
theorem d_JiL_0 : decode b_JiL 0 = .ok (.getstatic 38, 3) := by decide +kernel
theorem d_JiL_3 : decode b_JiL 3 = .ok (.ifCond .eq 14, 3) := by decide +kernel
theorem d_JiL_6 : decode b_JiL 6 = .ok (.aload_n 0, 1) := by decide +kernel
theorem d_JiL_7 : decode b_JiL 7 = .ok (.getfield 15, 3) := by decide +kernel
theorem d_JiL_10 : decode b_JiL 10 = .ok (.ifCond .ne 7, 3) := by decide +kernel
theorem d_JiL_13 : decode b_JiL 13 = .ok (.iconst 1, 1) := by decide +kernel
theorem d_JiL_14 : decode b_JiL 14 = .ok (.goto 4, 3) := by decide +kernel
theorem d_JiL_18 : decode b_JiL 18 = .ok (.ireturn, 1) := by decide +kernel
theorem d_JlC_0 : decode b_JlC 0 = .ok (.iload_n 1, 1) := by decide +kernel
theorem d_JlC_1 : decode b_JlC 1 = .ok (.aload_n 0, 1) := by decide +kernel
theorem d_JlC_2 : decode b_JlC 2 = .ok (.arraylength, 1) := by decide +kernel
theorem d_JlC_3 : decode b_JlC 3 = .ok (.invokestatic 9, 3) := by decide +kernel
theorem d_JlC_6 : decode b_JlC 6 = .ok (.aload_n 0, 1) := by decide +kernel
theorem d_JlC_7 : decode b_JlC 7 = .ok (.iload_n 1, 1) := by decide +kernel
theorem d_JlC_8 : decode b_JlC 8 = .ok (.baload, 1) := by decide +kernel
theorem d_JlC_9 : decode b_JlC 9 = .ok (.sipush 255, 3) := by decide +kernel
theorem d_JlC_12 : decode b_JlC 12 = .ok (.iand, 1) := by decide +kernel
theorem d_JlC_13 : decode b_JlC 13 = .ok (.i2c, 1) := by decide +kernel
theorem d_JlC_14 : decode b_JlC 14 = .ok (.ireturn, 1) := by decide +kernel
theorem d_JcI_0 : decode b_JcI 0 = .ok (.iload_n 0, 1) := by decide +kernel
theorem d_JcI_1 : decode b_JcI 1 = .ok (.iload_n 1, 1) := by decide +kernel
theorem d_JcI_2 : decode b_JcI 2 = .ok (.getstatic 1053, 3) := by decide +kernel
theorem d_JcI_5 : decode b_JcI 5 = .ok (.invokestatic 1059, 3) := by decide +kernel
theorem d_JcI_8 : decode b_JcI 8 = .ok (.pop, 1) := by decide +kernel
theorem d_JcI_9 : decode b_JcI 9 = .ok (.return_, 1) := by decide +kernel
theorem d_JpI_0 : decode b_JpI 0 = .ok (.iload_n 0, 1) := by decide +kernel
theorem d_JpI_1 : decode b_JpI 1 = .ok (.ifCond .lt 8, 3) := by decide +kernel
theorem d_JpI_4 : decode b_JpI 4 = .ok (.iload_n 0, 1) := by decide +kernel
theorem d_JpI_5 : decode b_JpI 5 = .ok (.iload_n 1, 1) := by decide +kernel
theorem d_JpI_6 : decode b_JpI 6 = .ok (.if_icmp .lt 10, 3) := by decide +kernel
theorem d_JpI_16 : decode b_JpI 16 = .ok (.iload_n 0, 1) := by decide +kernel
theorem d_JpI_17 : decode b_JpI 17 = .ok (.ireturn, 1) := by decide +kernel
section VSTR9
variable {p : Program} {l : Launch} {e : Env} {R : Room} {s : State} {m : MethodId} {args : Array Value} {below : List Frame} {meth : Method} {c : Code} {cells slots : Nat} {Q : State → Prop}
variable {cc : ByteArray} {own : String} {Ts : List Cond} {SP : (Nat → Prop) → State → Heap → Prop} {nL : Nat} {D : va_G} {cl : List vw_C} {tys : List (ClassId × FieldType)} {A : Nat → Prop} {ret : Option FieldType}
variable {ws ws2 : va_W} {pc : Nat} {L L2 : List (Nat × Value)} {rest : List Value}
theorem vv_i2c (hC : CX p s m args meth c cc own Ts nL D cl tys A SP ret) {x : Int32} (hdg : decode cc pc = .ok (.i2c, 1)) (k : VV p l e R s m args below meth c nL D cl A cells slots Q ws (pc + 1) L (.int (x.toUInt32 % 65536).toInt32 :: rest)) : VV p l e R s m args below meth c nL D cl A cells slots Q ws pc L (.int x :: rest) := fun H locs ls hP hD hS h => lv_i2c hC.1 hC.2.1 hdg rfl (k H locs ls hP hD hS h)
theorem vv_popN (hC : CX p s m args meth c cc own Ts nL D cl tys A SP ret) {v : Value} (hdg : decode cc pc = .ok (.pop, 1)) (hv : v.category = 1) (k : VV p l e R s m args below meth c nL D cl A cells slots Q ws (pc + 1) L rest) : VV p l e R s m args below meth c nL D cl A cells slots Q ws pc L (v :: rest) := fun H locs ls hP hD hS h => lv_pop hC.1 hC.2.1 hdg hv (k H locs ls hP hD hS h)
theorem vv_gets (hC : CX p s m args meth c cc own Ts nL D cl tys A SP ret) {C n d ref : String} {v : Value} {index : Nat} (hZ : va_Z C n d v A s s.heap) (hlk : Cond.fieldLink own index ref n d ∈ Ts) (hrf : C = ref) (hdg : decode cc pc = .ok (.getstatic index, 3)) (k : VV p l e R s m args below meth c nL D cl A cells slots Q ws (pc + 3) L (v :: rest)) : VV p l e R s m args below meth c nL D cl A cells slots Q ws pc L rest := fun H locs ls hP hD hS h => va_gets hC.1 hC.2.1 hZ hS hC.2.2.2.1 (hC.2.2.2.2.1 _ hlk) (fun x h9 => by rw [← hrf]; exact h9) hdg (k H locs ls hP hD hS h)
theorem vv_getO (hC : CX p s m args meth c cc own Ts nL D cl tys A SP ret) {o n d ref : String} {v : Value} {q index : Nat} (hE : va_OF o n d v q A s s.heap) (hlk : Cond.fieldLink own index ref n d ∈ Ts) (hrf : o = ref) (hdg : decode cc pc = .ok (.getfield index, 3)) (k : VV p l e R s m args below meth c nL D cl A cells slots Q ws (pc + 3) L (v :: rest)) : VV p l e R s m args below meth c nL D cl A cells slots Q ws pc L (.ref q :: rest) := fun H locs ls hP hD hS h => vk_getf hC.1 hC.2.1 hE hS hC.2.2.2.1 (hC.2.2.2.2.1 _ hlk) (fun x h9 => by rw [← hrf]; exact h9) hdg (k H locs ls hP hD hS h)
theorem vv_tb (hC : CX p s m args meth c cc own Ts nL D cl tys A SP ret) {t N : Nat} {f : Nat → Value} {i : Int32} {v : Value} (hT : va_T .byte t N f A s s.heap) (hdg : decode cc pc = .ok (.baload, 1)) (hi : vp_in i N) (hv : f i.toNatClampNeg = v) (k : VV p l e R s m args below meth c nL D cl A cells slots Q ws (pc + 1) L (v :: rest)) : VV p l e R s m args below meth c nL D cl A cells slots Q ws pc L (.int i :: .ref t :: rest) := fun H locs ls hP hD hS h => va_tb hC.1 hC.2.1 hT hS hi hv hdg (k H locs ls hP hD hS h)
theorem vv_tlen (hC : CX p s m args meth c cc own Ts nL D cl tys A SP ret) {t N : Nat} {f : Nat → Value} {ty : FieldType} {v : Int32} (hT : va_T ty t N f A s s.heap) (hdg : decode cc pc = .ok (.arraylength, 1)) (hv : Int32.ofNat N = v) (k : VV p l e R s m args below meth c nL D cl A cells slots Q ws (pc + 1) L (.int v :: rest)) : VV p l e R s m args below meth c nL D cl A cells slots Q ws pc L (.ref t :: rest) := fun H locs ls hP hD hS h => va_tlen hC.1 hC.2.1 hT hS hv hdg (k H locs ls hP hD hS h)
theorem vv_cret {S : Type} {post : Int32 → S → Prop} {wf : S → va_W} {v : Int32} (hC : CX p s m args meth c cc own Ts nL D cl tys A SP (some .char)) (hdg : decode cc pc = .ok (.ireturn, 1)) (hn : narrow .char (.int v) = .int v) (u : S) (hp : post v u) (hw : ws = wf u) : VV p l e R s m args below meth c nL D cl A 0 0 (QI below args s D cl tys A post wf) ws pc L [.int v] := fun H locs ls hP hD hS h => W.zret hC.1 hC.2.1 hC.2.2.2.2.2.2.2.2.1 hn (fun t ht hW => ⟨⟨v, u, rfl, hp, by rw [ht]; exact hw ▸ hP, va_K.moved hW.alike hC.2.2.2.2.2.1, hw ▸ hD⟩, hS.F ht⟩) hS.2.2 hdg hC.2.2.2.2.2.2.2.2.2
theorem vv_callOI (hC : CX p s m args meth c cc own Ts nL D cl tys A SP ret) {y : MethodName} {wy : List Cond} {rm : Room} {bytes : ByteArray} {maxL n index b : Nat} {rt : Option FieldType} {C : String} {As st0 : List Value} {S : Type} {post : Int32 → S → Prop} {wf : S → va_W} (hM : MetI l y wy rm D cl tys SP (.ref b :: As) [] post wf) (cw : CallW R s args own C index y bytes maxL rt wy rm 0 0 n) (hO : va_O C b A s s.heap) (hdg : decode cc pc = .ok (.invokevirtual index, 3)) (rest : List Value) (hwf : ∀ u, wf u = []) (hc : cells ≤ R.cells ∧ slots ≤ R.slots) (hlen : As.length = n) (hst : st0 = As.reverse ++ .ref b :: rest) (hrm : (rest.map fun v => v.category).sum ≤ 8) (kk : ∀ (r : Int32) (u : S), post r u → VV p l e R s m args below meth c nL D cl A cells slots Q ws (pc + 3) L (.int r :: rest)) : VV p l e R s m args below meth c nL D cl A cells slots Q ws pc L st0 := by
  obtain ⟨hx, hb, hml, hown, hts, hK, hA, ⟨hNa, hNW⟩, hr, hlk⟩ := hC
  intro H locs ls hP hD hS h
  have hPc : va_P D cl [] H := fun k q h => by simp at h
  have hDc : va_D A ([] : va_W) := ⟨fun i j p q h => by simp at h, fun k q h => by simp at h⟩
  have hFc : ∀ q, va_A ([] : va_W) H.size q → A q := fun q hq => by
    rcases hq with ⟨k, e9, h9⟩ | h9
    · simp at h9
    · exact hA q (Nat.le_trans hS.1 h9)
  have hrv : ∃ cellB : Cell, H[b]? = some cellB ∧ cellB.vm.isStatics = false ∧ s.vm.findClass C = some cellB.cls := by
    obtain ⟨cell, h1, h2, h3, -⟩ := hO.kept hS.2.1
    exact ⟨cell, h1, h2, h3⟩
  refine va_calli (va_runV (As := As) (rest := rest) (Ts := Ts) ⟨hx, hb, hml, hown, hts⟩ (hM H.size) cw ⟨fun a U g mk q => by obtain ⟨q0, q1, qP, qK, qD, qa, qN⟩ := q; exact ⟨q0, q1, qP, va_K.moved (u := U) (U := U.calling g mk a) (Vm.Alike.refl U.vm) qK, qD, qa, qa.2.2.2 _ U (U.calling g mk a) _ rfl qN⟩, hrv, fun U hU hW => ⟨rfl, by rw [hU], by rw [hU]; exact hPc, va_K.moved hW.alike hK, hDc.weaken (fun _ _ _ _ => trivial), hNa, by rw [hU]; exact hNa.2.2.1 _ s U _ hW (hNa.2.1 _ _ _ _ (hNa.1 _ _ _ _ hNW (fun a h1 h2 => hS.2.1 a h1 h2)) hFc)⟩⟩ rfl hlen h.1 hst (lv_room hrm) hdg hc) hS (fun q _ h => hFc q h) hFc (fun r u t H1 locs1 ht hvm hw hB hz1 hk1 hS1 => ?_)
  refine kk r u hw H1 locs1 ls (hP.kept (fun k q hq => hk1 q.1 (hP k q hq).lt (fun h9 => ?_))) hD hS1 h
  rcases h9 with ⟨k9, e9, h9⟩ | h9
  · simp at h9
  · exact absurd (hP k q hq).lt (by omega)
end VSTR9
set_option maxHeartbeats 4000000 in
set_option maxRecDepth 100000 in
theorem c_JpIN (l : Launch) (D : va_G) (cA : Nat → ClassId) (sx : Nat → Nat) (x0 x1 : Int32) (h0 : ¬ x0 < 0) (h1 : x0 < x1) : MetI l y_JpI (Cond.code y_JpI b_JpI 3 (some .int) :: TB) ({ frames := 0, cells := 0, slots := 0, locals := 0 } : Room) D vwCl (tyl cA) (SPl sx) [.int x0, .int x1, .null] [] (fun (r : Int32) (u : Unit) => True) (fun u : Unit => []) := by
  refine vv_entryI (cc := b_JpI) (own := R_JP) (L := [(0, .int x0), (1, .int x1), (2, .null)]) (by decide) rfl rfl (Nat.le_of_ble_eq_true rfl) rfl (fun p e s m args below meth c A hC => ?_)
  refine vv_iload_n hC d_JpI_0 0 rfl rfl ?_
  refine vv_if_lt hC 9 d_JpI_1 (by decide) (fun cd => absurd cd h0) (fun cd => ?_)
  refine vv_iload_n hC d_JpI_4 0 rfl rfl ?_
  refine vv_iload_n hC d_JpI_5 1 rfl rfl ?_
  refine vv_icmp_lt hC 16 d_JpI_6 (by decide) (fun cd => ?_) (fun cd => absurd h1 cd)
  refine vv_iload_n hC d_JpI_16 0 rfl rfl ?_
  exact vv_iret hC d_JpI_17 () trivial rfl
set_option maxHeartbeats 4000000 in
set_option maxRecDepth 100000 in
theorem c_JpIR (l : Launch) (D : va_G) (cA : Nat → ClassId) (sx : Nat → Nat) (t : Nat) (x0 x1 : Int32) (h0 : ¬ x0 < 0) (h1 : x0 < x1) : MetI l y_JpI (Cond.code y_JpI b_JpI 3 (some .int) :: TB) ({ frames := 0, cells := 0, slots := 0, locals := 0 } : Room) D vwCl (tyl cA) (SPl sx) [.int x0, .int x1, .ref t] [] (fun (r : Int32) (u : Unit) => True) (fun u : Unit => []) := by
  refine vv_entryI (cc := b_JpI) (own := R_JP) (L := [(0, .int x0), (1, .int x1), (2, .ref t)]) (by decide) rfl rfl (Nat.le_of_ble_eq_true rfl) rfl (fun p e s m args below meth c A hC => ?_)
  refine vv_iload_n hC d_JpI_0 0 rfl rfl ?_
  refine vv_if_lt hC 9 d_JpI_1 (by decide) (fun cd => absurd cd h0) (fun cd => ?_)
  refine vv_iload_n hC d_JpI_4 0 rfl rfl ?_
  refine vv_iload_n hC d_JpI_5 1 rfl rfl ?_
  refine vv_icmp_lt hC 16 d_JpI_6 (by decide) (fun cd => ?_) (fun cd => absurd h1 cd)
  refine vv_iload_n hC d_JpI_16 0 rfl rfl ?_
  exact vv_iret hC d_JpI_17 () trivial rfl
set_option maxHeartbeats 4000000 in
set_option maxRecDepth 100000 in
theorem c_JcI (l : Launch) (D : va_G) (cA : Nat → ClassId) (sx : Nat → Nat) (x0 x1 : Int32) (h0 : ¬ x0 < 0) (h1 : x0 < x1) : MetV l y_JcI (Cond.code y_JcI b_JcI 2 none :: TB) ({ frames := 1, cells := 0, slots := 0, locals := 22 } : Room) D vwCl (tyl cA) (SPl sx) [.int x0, .int x1] [] (fun (u : Unit) => True) (fun u : Unit => []) := by
  refine vv_entryV (cc := b_JcI) (own := R_JS) (L := [(0, .int x0), (1, .int x1)]) (by decide) rfl rfl (Nat.le_of_ble_eq_true rfl) rfl (fun p e s m args below meth c A hC => ?_)
  refine vv_iload_n hC d_JcI_0 0 rfl rfl ?_
  refine vv_iload_n hC d_JcI_1 1 rfl rfl ?_
  rcases SPl_form hC.2.2.2.2.2.2.2.1.2 with hZ | ⟨t, hZ⟩
  · refine vv_gets hC hZ tb_376 rfl d_JcI_2 ?_
    refine vv_callSI (wr := []) hC (c_JpIN l D cA sx x0 x1 h0 h1) ⟨callB_of 3 hC.2.2.2.2.1 (gC tb_380) rfl rfl rfl (hC.2.2.2.2.1 _ tb_11) (hC.2.2.2.2.1 _ tb_378) (by decide +kernel) ⟨Nat.le_of_ble_eq_true rfl, Nat.le_of_ble_eq_true rfl⟩, hC.2.2.2.2.1 _ tb_379⟩ d_JcI_5 [] [] [] [] (fun u : Unit => []) ⟨Nat.zero_le _, Nat.zero_le _⟩ rfl rfl (fun _ => rfl) rfl rfl rfl rfl rfl rfl (Nat.le_of_ble_eq_true rfl) (fun r u hw => ?_)
    refine vv_popN hC d_JcI_8 rfl ?_
    exact vv_vret hC d_JcI_9 () trivial rfl
  · refine vv_gets hC hZ tb_376 rfl d_JcI_2 ?_
    refine vv_callSI (wr := []) hC (c_JpIR l D cA sx t x0 x1 h0 h1) ⟨callB_of 3 hC.2.2.2.2.1 (gC tb_380) rfl rfl rfl (hC.2.2.2.2.1 _ tb_11) (hC.2.2.2.2.1 _ tb_378) (by decide +kernel) ⟨Nat.le_of_ble_eq_true rfl, Nat.le_of_ble_eq_true rfl⟩, hC.2.2.2.2.1 _ tb_379⟩ d_JcI_5 [] [] [] [] (fun u : Unit => []) ⟨Nat.zero_le _, Nat.zero_le _⟩ rfl rfl (fun _ => rfl) rfl rfl rfl rfl rfl rfl (Nat.le_of_ble_eq_true rfl) (fun r u hw => ?_)
    refine vv_popN hC d_JcI_8 rfl ?_
    exact vv_vret hC d_JcI_9 () trivial rfl
/-- the char at x of "ilo" -/
def kl (x : Int32) : Int32 := (((([[105, 108, 111]] : List (List Int32)).getD 0 []).getD x.toNatClampNeg 0 &&& 255).toUInt32 % 65536).toInt32
theorem in3 {x : Int32} (h : vp_in x 3) : ¬ x < 0 ∧ x < 3 := by
  obtain ⟨j, hj, rfl⟩ := vp_in_of h (by decide)
  exact ⟨nI_pos (by omega), nI_lt hj (by decide)⟩
set_option maxHeartbeats 4000000 in
set_option maxRecDepth 100000 in
theorem c_JlC (l : Launch) (D : va_G) (cA : Nat → ClassId) (sx : Nat → Nat) (x : Int32) (hi : vp_in x 3) : MetI l y_JlC (Cond.code y_JlC b_JlC 2 (some .char) :: TB) ({ frames := 2, cells := 0, slots := 0, locals := 43 } : Room) D vwCl (tyl cA) (SPl sx) [.ref (sx 1), .int x] [] (fun (r : Int32) (u : Unit) => r = kl x) (fun u : Unit => []) := by
  refine vv_entryI (cc := b_JlC) (own := R_JL) (L := [(0, .ref (sx 1)), (1, .int x)]) (by decide) rfl rfl (Nat.le_of_ble_eq_true rfl) rfl (fun p e s m args below meth c A hC => ?_)
  have hT := (hC.2.2.2.2.2.2.2.1.2.2.2.1.1 0 (by decide)).2.2.2
  refine vv_iload_n hC d_JlC_0 1 rfl rfl ?_
  refine vv_aload_n hC d_JlC_1 0 rfl rfl ?_
  refine vv_tlen hC hT d_JlC_2 (v := (3 : Int32)) (by decide) ?_
  refine vv_callSV (wr := []) hC (c_JcI l D cA sx x 3 (in3 hi).1 (in3 hi).2) ⟨callB_of 2 hC.2.2.2.2.1 (gC tb_375) rfl rfl rfl (hC.2.2.2.2.1 _ tb_9) (hC.2.2.2.2.1 _ tb_373) (by decide +kernel) ⟨Nat.le_of_ble_eq_true rfl, Nat.le_of_ble_eq_true rfl⟩, hC.2.2.2.2.1 _ tb_374⟩ d_JlC_3 [] [] [] [] (fun u : Unit => []) ⟨Nat.zero_le _, Nat.zero_le _⟩ rfl rfl (fun _ => rfl) rfl rfl rfl rfl rfl rfl (Nat.le_of_ble_eq_true rfl) (fun u hw => ?_)
  refine vv_aload_n hC d_JlC_6 0 rfl rfl ?_
  refine vv_iload_n hC d_JlC_7 1 rfl rfl ?_
  refine vv_tb hC hT d_JlC_8 hi rfl ?_
  refine vv_sipush hC d_JlC_9 (v := (255 : Int32)) (by decide) ?_
  refine vv_iand hC d_JlC_12 ?_
  refine vv_i2c hC d_JlC_13 ?_
  exact vv_cret hC d_JlC_14 (pk_nc _) () rfl rfl
set_option maxHeartbeats 4000000 in
set_option maxRecDepth 100000 in
theorem c_JiL (l : Launch) (D : va_G) (cA : Nat → ClassId) (sx : Nat → Nat) : MetI l y_JiL (Cond.code y_JiL b_JiL 1 (some .boolean) :: TB) ({ frames := 0, cells := 0, slots := 0, locals := 0 } : Room) D vwCl (tyl cA) (SPl sx) [.ref (sx 0)] [] (fun (r : Int32) (u : Unit) => r = 1) (fun u : Unit => []) := by
  refine vv_entryI (cc := b_JiL) (own := R_JS) (L := [(0, .ref (sx 0))]) (by decide) rfl rfl (Nat.le_of_ble_eq_true rfl) rfl (fun p e s m args below meth c A hC => ?_)
  have hE := (hC.2.2.2.2.2.2.2.1.2.2.2.1.1 0 (by decide)).2.1
  refine vv_gets hC hC.2.2.2.2.2.2.2.1.2.2.2.2.1 tb_368 rfl d_JiL_0 ?_
  refine vv_if_eq hC 17 d_JiL_3 (by decide) (fun cd => absurd cd (by decide)) (fun cd => ?_)
  refine vv_aload_n hC d_JiL_6 0 rfl rfl ?_
  refine vv_getO hC hE tb_960 rfl d_JiL_7 ?_
  refine vv_if_ne hC 17 d_JiL_10 (by decide) (fun cd => absurd rfl cd) (fun cd => ?_)
  refine vv_iconst hC d_JiL_13 (v := (1 : Int32)) (by decide) ?_
  refine vv_goto hC 18 d_JiL_14 (by decide) ?_
  exact vv_zret hC d_JiL_18 rfl () rfl rfl
set_option maxHeartbeats 4000000 in
set_option maxRecDepth 100000 in
theorem c_JcA (l : Launch) (D : va_G) (cA : Nat → ClassId) (sx : Nat → Nat) (x : Int32) (hi : vp_in x 3) : MetI l y_JcA (Cond.code y_JcA b_JcA 2 (some .char) :: TB) ({ frames := 3, cells := 0, slots := 0, locals := 64 } : Room) D vwCl (tyl cA) (SPl sx) [.ref (sx 0), .int x] [] (fun (r : Int32) (u : Unit) => r = kl x) (fun u : Unit => []) := by
  refine vv_entryI (cc := b_JcA) (own := R_JS) (L := [(0, .ref (sx 0)), (1, .int x)]) (by decide) rfl rfl (Nat.le_of_ble_eq_true rfl) rfl (fun p e s m args below meth c A hC => ?_)
  have hV := hC.2.2.2.2.2.2.2.1.2.2.2.1.1 0 (by decide)
  refine vv_aload_n hC d_JcA_0 0 rfl rfl ?_
  refine vv_callOI hC (c_JiL l D cA sx) (cwV 0 hC.2.2.2.2.1 (gV tb_364 tb_365 tb_366 tb_9 tb_367) rfl rfl rfl (by decide +kernel) ⟨Nat.le_of_ble_eq_true rfl, Nat.le_of_ble_eq_true rfl⟩) hV.1 d_JcA_1 [] (fun _ => rfl) ⟨Nat.zero_le _, Nat.zero_le _⟩ rfl rfl (Nat.le_of_ble_eq_true rfl) (fun r u hw => ?_)
  refine vv_if_eq hC 16 d_JcA_4 (by decide) (fun cd => absurd (hw.symm.trans cd) (by decide)) (fun cd => ?_)
  refine vv_aload_n hC d_JcA_7 0 rfl rfl ?_
  refine vv_getO hC hV.2.2.1 tb_961 rfl d_JcA_8 ?_
  refine vv_iload_n hC d_JcA_11 1 rfl rfl ?_
  refine vv_callSI (wr := []) hC (c_JlC l D cA sx x hi) ⟨callB_of 2 hC.2.2.2.2.1 (gC tb_372) rfl rfl rfl (hC.2.2.2.2.1 _ tb_10) (hC.2.2.2.2.1 _ tb_370) (by decide +kernel) ⟨Nat.le_of_ble_eq_true rfl, Nat.le_of_ble_eq_true rfl⟩, hC.2.2.2.2.1 _ tb_371⟩ d_JcA_12 [] [] [] [] (fun u : Unit => []) ⟨Nat.zero_le _, Nat.zero_le _⟩ rfl rfl (fun _ => rfl) rfl rfl rfl rfl rfl rfl (Nat.le_of_ble_eq_true rfl) (fun r u hw => ?_)
  exact vv_cret hC d_JcA_15 (by rw [hw]; exact pk_nc _) () hw rfl
section VCHAR
variable {p : Program} {l : Launch} {e : Env} {R : Room} {s : State} {m : MethodId} {args : Array Value} {below : List Frame} {meth : Method} {c : Code} {cells slots : Nat} {Q : State → Prop}
variable {cc : ByteArray} {own : String} {nL : Nat} {D : va_G} {cA : Nat → ClassId} {sx : Nat → Nat} {A : Nat → Prop} {ret : Option FieldType} {ws : va_W} {pc : Nat} {L : List (Nat × Value)} {rest : List Value}
theorem vv_ldcS (hC : CX p s m args meth c cc own TB nL D vwCl (tyl cA) A (SPl sx) ret) {tx : String} {index q : Nat} (hZ : vk_R own index tx q s) (hdg : decode cc pc = .ok (.ldc index, 2)) (k : VV p l e R s m args below meth c nL D vwCl A cells slots Q ws (pc + 2) L (.ref q :: rest)) : VV p l e R s m args below meth c nL D vwCl A cells slots Q ws pc L rest := fun H locs ls hP hD hS h => va_ldcS hC.1 hC.2.1 hC.2.2.2.1 hZ hdg (k H locs ls hP hD hS h)
theorem vv_charAt (hC : CX p s m args meth c cc own TB nL D vwCl (tyl cA) A (SPl sx) ret) {index : Nat} {i : Int32} (hlk : Cond.methodLink own index y_JcA ∈ TB) (hdg : decode cc pc = .ok (.invokevirtual index, 3)) (hi : vp_in i 3) (hrm : (rest.map fun v => v.category).sum ≤ 8) (hc : cells ≤ R.cells ∧ slots ≤ R.slots) (hR : 3 + 1 ≤ R.frames ∧ 8 + (2 + 11) + 64 ≤ R.locals) (k : VV p l e R s m args below meth c nL D vwCl A cells slots Q ws (pc + 3) L (.int (kl i) :: rest)) : VV p l e R s m args below meth c nL D vwCl A cells slots Q ws pc L (.int i :: .ref (sx 0) :: rest) := by
  have hV := hC.2.2.2.2.2.2.2.1.2.2.2.1.1 0 (by decide)
  refine vv_callOI hC (c_JcA l D cA sx i hi) (cwV 1 hC.2.2.2.2.1 (gV hlk tb_361 tb_362 tb_9 tb_363) rfl rfl rfl (by decide +kernel) hR) hV.1 hdg rest (fun _ => rfl) hc rfl rfl hrm (fun r u hw => ?_)
  rw [hw]
  exact k

theorem vv_mmax (hC : CX p s m args meth c cc own TB nL D vwCl (tyl cA) A (SPl sx) ret) {index : Nat} {x y : Int32} (hlk : Cond.methodLink own index Lib.Math.max.name ∈ TB) (hdg : decode cc pc = .ok (.invokestatic index, 3)) (hc : cells ≤ R.cells ∧ slots ≤ R.slots) (hR : 1 ≤ R.frames ∧ (rest.map fun v => v.category).sum + 13 ≤ R.locals) (k : VV p l e R s m args below meth c nL D vwCl A cells slots Q ws (pc + 3) L (.int (if x < y then y else x) :: rest)) : VV p l e R s m args below meth c nL D vwCl A cells slots Q ws pc L (.int y :: .int x :: rest) := fun H locs ls hP hD hS h => va_mmax hC.1 hC.2.1 (hC.2.2.1.trans h.1.symm) hC.2.2.2.1 (hC.2.2.2.2.1 _ hlk) (hC.2.2.2.2.1 _ tb_344) (hC.2.2.2.2.1 _ tb_17) (hC.2.2.2.2.1 _ tb_345) hR.1 hR.2 hc.1 hc.2 hdg (k H locs ls hP hD hS h)
theorem vv_mmin (hC : CX p s m args meth c cc own TB nL D vwCl (tyl cA) A (SPl sx) ret) {index : Nat} {x y : Int32} (hlk : Cond.methodLink own index Lib.Math.min.name ∈ TB) (hdg : decode cc pc = .ok (.invokestatic index, 3)) (hc : cells ≤ R.cells ∧ slots ≤ R.slots) (hR : 1 ≤ R.frames ∧ (rest.map fun v => v.category).sum + 13 ≤ R.locals) (k : VV p l e R s m args below meth c nL D vwCl A cells slots Q ws (pc + 3) L (.int (if y < x then y else x) :: rest)) : VV p l e R s m args below meth c nL D vwCl A cells slots Q ws pc L (.int y :: .int x :: rest) := fun H locs ls hP hD hS h => va_mmin hC.1 hC.2.1 (hC.2.2.1.trans h.1.symm) hC.2.2.2.1 (hC.2.2.2.2.1 _ hlk) (hC.2.2.2.2.1 _ tb_351) (hC.2.2.2.2.1 _ tb_17) (hC.2.2.2.2.1 _ tb_352) hR.1 hR.2 hc.1 hc.2 hdg (k H locs ls hP hD hS h)
end VCHAR
end
section
theorem d_X_put_0 : decode b_X_put 0 = .ok (.aload_n 0, 1) := by decide +kernel
theorem d_X_put_1 : decode b_X_put 1 = .ok (.getfield 18, 3) := by decide +kernel
theorem d_X_put_4 : decode b_X_put 4 = .ok (.sipush 4654, 3) := by decide +kernel
theorem d_X_put_7 : decode b_X_put 7 = .ok (.if_icmp .ge 23, 3) := by decide +kernel
theorem d_X_put_10 : decode b_X_put 10 = .ok (.aload_n 0, 1) := by decide +kernel
theorem d_X_put_11 : decode b_X_put 11 = .ok (.getfield 11, 3) := by decide +kernel
theorem d_X_put_14 : decode b_X_put 14 = .ok (.aload_n 0, 1) := by decide +kernel
theorem d_X_put_15 : decode b_X_put 15 = .ok (.getfield 18, 3) := by decide +kernel
theorem d_X_put_18 : decode b_X_put 18 = .ok (.iload_n 1, 1) := by decide +kernel
theorem d_X_put_19 : decode b_X_put 19 = .ok (.iastore, 1) := by decide +kernel
theorem d_X_put_20 : decode b_X_put 20 = .ok (.aload_n 0, 1) := by decide +kernel
theorem d_X_put_21 : decode b_X_put 21 = .ok (.dup, 1) := by decide +kernel
theorem d_X_put_22 : decode b_X_put 22 = .ok (.getfield 18, 3) := by decide +kernel
theorem d_X_put_25 : decode b_X_put 25 = .ok (.iconst 1, 1) := by decide +kernel
theorem d_X_put_26 : decode b_X_put 26 = .ok (.iadd, 1) := by decide +kernel
theorem d_X_put_27 : decode b_X_put 27 = .ok (.putfield 18, 3) := by decide +kernel
theorem d_X_put_30 : decode b_X_put 30 = .ok (.return_, 1) := by decide +kernel
theorem d_X_putNumber_0 : decode b_X_putNumber 0 = .ok (.iload_n 1, 1) := by decide +kernel
theorem d_X_putNumber_1 : decode b_X_putNumber 1 = .ok (.bipush 100, 2) := by decide +kernel
theorem d_X_putNumber_3 : decode b_X_putNumber 3 = .ok (.if_icmp .lt 14, 3) := by decide +kernel
theorem d_X_putNumber_6 : decode b_X_putNumber 6 = .ok (.aload_n 0, 1) := by decide +kernel
theorem d_X_putNumber_7 : decode b_X_putNumber 7 = .ok (.bipush 48, 2) := by decide +kernel
theorem d_X_putNumber_9 : decode b_X_putNumber 9 = .ok (.iload_n 1, 1) := by decide +kernel
theorem d_X_putNumber_10 : decode b_X_putNumber 10 = .ok (.bipush 100, 2) := by decide +kernel
theorem d_X_putNumber_12 : decode b_X_putNumber 12 = .ok (.idiv, 1) := by decide +kernel
theorem d_X_putNumber_13 : decode b_X_putNumber 13 = .ok (.iadd, 1) := by decide +kernel
theorem d_X_putNumber_14 : decode b_X_putNumber 14 = .ok (.invokevirtual 90, 3) := by decide +kernel
theorem d_X_putNumber_17 : decode b_X_putNumber 17 = .ok (.iload_n 1, 1) := by decide +kernel
theorem d_X_putNumber_18 : decode b_X_putNumber 18 = .ok (.bipush 10, 2) := by decide +kernel
theorem d_X_putNumber_20 : decode b_X_putNumber 20 = .ok (.if_icmp .lt 17, 3) := by decide +kernel
theorem d_X_putNumber_23 : decode b_X_putNumber 23 = .ok (.aload_n 0, 1) := by decide +kernel
theorem d_X_putNumber_24 : decode b_X_putNumber 24 = .ok (.bipush 48, 2) := by decide +kernel
theorem d_X_putNumber_26 : decode b_X_putNumber 26 = .ok (.iload_n 1, 1) := by decide +kernel
theorem d_X_putNumber_27 : decode b_X_putNumber 27 = .ok (.bipush 10, 2) := by decide +kernel
theorem d_X_putNumber_29 : decode b_X_putNumber 29 = .ok (.idiv, 1) := by decide +kernel
theorem d_X_putNumber_30 : decode b_X_putNumber 30 = .ok (.bipush 10, 2) := by decide +kernel
theorem d_X_putNumber_32 : decode b_X_putNumber 32 = .ok (.irem, 1) := by decide +kernel
theorem d_X_putNumber_33 : decode b_X_putNumber 33 = .ok (.iadd, 1) := by decide +kernel
theorem d_X_putNumber_34 : decode b_X_putNumber 34 = .ok (.invokevirtual 90, 3) := by decide +kernel
theorem d_X_putNumber_37 : decode b_X_putNumber 37 = .ok (.aload_n 0, 1) := by decide +kernel
theorem d_X_putNumber_38 : decode b_X_putNumber 38 = .ok (.bipush 48, 2) := by decide +kernel
theorem d_X_putNumber_40 : decode b_X_putNumber 40 = .ok (.iload_n 1, 1) := by decide +kernel
theorem d_X_putNumber_41 : decode b_X_putNumber 41 = .ok (.bipush 10, 2) := by decide +kernel
theorem d_X_putNumber_43 : decode b_X_putNumber 43 = .ok (.irem, 1) := by decide +kernel
theorem d_X_putNumber_44 : decode b_X_putNumber 44 = .ok (.iadd, 1) := by decide +kernel
theorem d_X_putNumber_45 : decode b_X_putNumber 45 = .ok (.invokevirtual 90, 3) := by decide +kernel
theorem d_X_putNumber_48 : decode b_X_putNumber 48 = .ok (.aload_n 0, 1) := by decide +kernel
theorem d_X_putNumber_49 : decode b_X_putNumber 49 = .ok (.iload_n 2, 1) := by decide +kernel
theorem d_X_putNumber_50 : decode b_X_putNumber 50 = .ok (.invokevirtual 90, 3) := by decide +kernel
theorem d_X_putNumber_53 : decode b_X_putNumber 53 = .ok (.return_, 1) := by decide +kernel
theorem d_X_putHeader_0 : decode b_X_putHeader 0 = .ok (.aload_n 0, 1) := by decide +kernel
theorem d_X_putHeader_1 : decode b_X_putHeader 1 = .ok (.bipush 97, 2) := by decide +kernel
theorem d_X_putHeader_3 : decode b_X_putHeader 3 = .ok (.invokevirtual 90, 3) := by decide +kernel
theorem d_X_putHeader_6 : decode b_X_putHeader 6 = .ok (.aload_n 0, 1) := by decide +kernel
theorem d_X_putHeader_7 : decode b_X_putHeader 7 = .ok (.iload_n 2, 1) := by decide +kernel
theorem d_X_putHeader_8 : decode b_X_putHeader 8 = .ok (.invokevirtual 90, 3) := by decide +kernel
theorem d_X_putHeader_11 : decode b_X_putHeader 11 = .ok (.aload_n 0, 1) := by decide +kernel
theorem d_X_putHeader_12 : decode b_X_putHeader 12 = .ok (.bipush 103, 2) := by decide +kernel
theorem d_X_putHeader_14 : decode b_X_putHeader 14 = .ok (.invokevirtual 90, 3) := by decide +kernel
theorem d_X_putHeader_17 : decode b_X_putHeader 17 = .ok (.aload_n 0, 1) := by decide +kernel
theorem d_X_putHeader_18 : decode b_X_putHeader 18 = .ok (.bipush 32, 2) := by decide +kernel
theorem d_X_putHeader_20 : decode b_X_putHeader 20 = .ok (.invokevirtual 90, 3) := by decide +kernel
theorem d_X_putHeader_23 : decode b_X_putHeader 23 = .ok (.aload_n 0, 1) := by decide +kernel
theorem d_X_putHeader_24 : decode b_X_putHeader 24 = .ok (.iload_n 3, 1) := by decide +kernel
theorem d_X_putHeader_25 : decode b_X_putHeader 25 = .ok (.bipush 32, 2) := by decide +kernel
theorem d_X_putHeader_27 : decode b_X_putHeader 27 = .ok (.invokevirtual 41, 3) := by decide +kernel
theorem d_X_putHeader_30 : decode b_X_putHeader 30 = .ok (.aload_n 0, 1) := by decide +kernel
theorem d_X_putHeader_31 : decode b_X_putHeader 31 = .ok (.aload_n 1, 1) := by decide +kernel
theorem d_X_putHeader_32 : decode b_X_putHeader 32 = .ok (.getfield 35, 3) := by decide +kernel
theorem d_X_putHeader_35 : decode b_X_putHeader 35 = .ok (.bipush 32, 2) := by decide +kernel
theorem d_X_putHeader_37 : decode b_X_putHeader 37 = .ok (.invokevirtual 41, 3) := by decide +kernel
theorem d_X_putHeader_40 : decode b_X_putHeader 40 = .ok (.aload_n 0, 1) := by decide +kernel
theorem d_X_putHeader_41 : decode b_X_putHeader 41 = .ok (.aload_n 1, 1) := by decide +kernel
theorem d_X_putHeader_42 : decode b_X_putHeader 42 = .ok (.getfield 45, 3) := by decide +kernel
theorem d_X_putHeader_45 : decode b_X_putHeader 45 = .ok (.bipush 32, 2) := by decide +kernel
theorem d_X_putHeader_47 : decode b_X_putHeader 47 = .ok (.invokevirtual 41, 3) := by decide +kernel
theorem d_X_putHeader_50 : decode b_X_putHeader 50 = .ok (.aload_n 0, 1) := by decide +kernel
theorem d_X_putHeader_51 : decode b_X_putHeader 51 = .ok (.aload_n 1, 1) := by decide +kernel
theorem d_X_putHeader_52 : decode b_X_putHeader 52 = .ok (.getfield 54, 3) := by decide +kernel
theorem d_X_putHeader_55 : decode b_X_putHeader 55 = .ok (.bipush 32, 2) := by decide +kernel
theorem d_X_putHeader_57 : decode b_X_putHeader 57 = .ok (.invokevirtual 41, 3) := by decide +kernel
theorem d_X_putHeader_60 : decode b_X_putHeader 60 = .ok (.aload_n 0, 1) := by decide +kernel
theorem d_X_putHeader_61 : decode b_X_putHeader 61 = .ok (.aload_n 1, 1) := by decide +kernel
theorem d_X_putHeader_62 : decode b_X_putHeader 62 = .ok (.getfield 60, 3) := by decide +kernel
theorem d_X_putHeader_65 : decode b_X_putHeader 65 = .ok (.bipush 10, 2) := by decide +kernel
theorem d_X_putHeader_67 : decode b_X_putHeader 67 = .ok (.invokevirtual 41, 3) := by decide +kernel
theorem d_X_putHeader_70 : decode b_X_putHeader 70 = .ok (.return_, 1) := by decide +kernel
theorem d_X_putName_0 : decode b_X_putName 0 = .ok (.iconst 0, 1) := by decide +kernel
theorem d_X_putName_1 : decode b_X_putName 1 = .ok (.istore_n 3, 1) := by decide +kernel
theorem d_X_putName_2 : decode b_X_putName 2 = .ok (.iload_n 3, 1) := by decide +kernel
theorem d_X_putName_3 : decode b_X_putName 3 = .ok (.aload_n 1, 1) := by decide +kernel
theorem d_X_putName_4 : decode b_X_putName 4 = .ok (.getfield 109, 3) := by decide +kernel
theorem d_X_putName_7 : decode b_X_putName 7 = .ok (.iload_n 2, 1) := by decide +kernel
theorem d_X_putName_8 : decode b_X_putName 8 = .ok (.iaload, 1) := by decide +kernel
theorem d_X_putName_9 : decode b_X_putName 9 = .ok (.if_icmp .ge 24, 3) := by decide +kernel
theorem d_X_putName_12 : decode b_X_putName 12 = .ok (.aload_n 0, 1) := by decide +kernel
theorem d_X_putName_13 : decode b_X_putName 13 = .ok (.aload_n 1, 1) := by decide +kernel
theorem d_X_putName_14 : decode b_X_putName 14 = .ok (.getfield 126, 3) := by decide +kernel
theorem d_X_putName_17 : decode b_X_putName 17 = .ok (.iload_n 2, 1) := by decide +kernel
theorem d_X_putName_18 : decode b_X_putName 18 = .ok (.bipush 40, 2) := by decide +kernel
theorem d_X_putName_20 : decode b_X_putName 20 = .ok (.imul, 1) := by decide +kernel
theorem d_X_putName_21 : decode b_X_putName 21 = .ok (.iload_n 3, 1) := by decide +kernel
theorem d_X_putName_22 : decode b_X_putName 22 = .ok (.iadd, 1) := by decide +kernel
theorem d_X_putName_23 : decode b_X_putName 23 = .ok (.iaload, 1) := by decide +kernel
theorem d_X_putName_24 : decode b_X_putName 24 = .ok (.invokevirtual 90, 3) := by decide +kernel
theorem d_X_putName_27 : decode b_X_putName 27 = .ok (.iinc 3 1, 3) := by decide +kernel
theorem d_X_putName_30 : decode b_X_putName 30 = .ok (.goto (-28), 3) := by decide +kernel
theorem d_X_putName_33 : decode b_X_putName 33 = .ok (.aload_n 0, 1) := by decide +kernel
theorem d_X_putName_34 : decode b_X_putName 34 = .ok (.bipush 10, 2) := by decide +kernel
theorem d_X_putName_36 : decode b_X_putName 36 = .ok (.invokevirtual 90, 3) := by decide +kernel
theorem d_X_putName_39 : decode b_X_putName 39 = .ok (.return_, 1) := by decide +kernel
theorem d_X_putSymbols_0 : decode b_X_putSymbols 0 = .ok (.iconst 0, 1) := by decide +kernel
theorem d_X_putSymbols_1 : decode b_X_putSymbols 1 = .ok (.istore_n 2, 1) := by decide +kernel
theorem d_X_putSymbols_2 : decode b_X_putSymbols 2 = .ok (.iload_n 2, 1) := by decide +kernel
theorem d_X_putSymbols_3 : decode b_X_putSymbols 3 = .ok (.iconst 3, 1) := by decide +kernel
theorem d_X_putSymbols_4 : decode b_X_putSymbols 4 = .ok (.if_icmp .ge 66, 3) := by decide +kernel
theorem d_X_putSymbols_7 : decode b_X_putSymbols 7 = .ok (.iconst 0, 1) := by decide +kernel
theorem d_X_putSymbols_8 : decode b_X_putSymbols 8 = .ok (.istore_n 3, 1) := by decide +kernel
theorem d_X_putSymbols_9 : decode b_X_putSymbols 9 = .ok (.iload_n 3, 1) := by decide +kernel
theorem d_X_putSymbols_10 : decode b_X_putSymbols 10 = .ok (.aload_n 1, 1) := by decide +kernel
theorem d_X_putSymbols_11 : decode b_X_putSymbols 11 = .ok (.iload_n 2, 1) := by decide +kernel
theorem d_X_putSymbols_12 : decode b_X_putSymbols 12 = .ok (.invokevirtual 106, 3) := by decide +kernel
theorem d_X_putSymbols_15 : decode b_X_putSymbols 15 = .ok (.if_icmp .ge 49, 3) := by decide +kernel
theorem d_X_putSymbols_18 : decode b_X_putSymbols 18 = .ok (.aload_n 1, 1) := by decide +kernel
theorem d_X_putSymbols_19 : decode b_X_putSymbols 19 = .ok (.getfield 109, 3) := by decide +kernel
theorem d_X_putSymbols_22 : decode b_X_putSymbols 22 = .ok (.iload_n 2, 1) := by decide +kernel
theorem d_X_putSymbols_23 : decode b_X_putSymbols 23 = .ok (.iload_n 3, 1) := by decide +kernel
theorem d_X_putSymbols_24 : decode b_X_putSymbols 24 = .ok (.invokestatic 112, 3) := by decide +kernel
theorem d_X_putSymbols_27 : decode b_X_putSymbols 27 = .ok (.iaload, 1) := by decide +kernel
theorem d_X_putSymbols_28 : decode b_X_putSymbols 28 = .ok (.ifCond .le 30, 3) := by decide +kernel
theorem d_X_putSymbols_31 : decode b_X_putSymbols 31 = .ok (.aload_n 0, 1) := by decide +kernel
theorem d_X_putSymbols_32 : decode b_X_putSymbols 32 = .ok (.ldc 115, 2) := by decide +kernel
theorem d_X_putSymbols_34 : decode b_X_putSymbols 34 = .ok (.iload_n 2, 1) := by decide +kernel
theorem d_X_putSymbols_35 : decode b_X_putSymbols 35 = .ok (.invokevirtual 117, 3) := by decide +kernel
theorem d_X_putSymbols_38 : decode b_X_putSymbols 38 = .ok (.invokevirtual 90, 3) := by decide +kernel
theorem d_X_putSymbols_41 : decode b_X_putSymbols 41 = .ok (.aload_n 0, 1) := by decide +kernel
theorem d_X_putSymbols_42 : decode b_X_putSymbols 42 = .ok (.iload_n 3, 1) := by decide +kernel
theorem d_X_putSymbols_43 : decode b_X_putSymbols 43 = .ok (.bipush 32, 2) := by decide +kernel
theorem d_X_putSymbols_45 : decode b_X_putSymbols 45 = .ok (.invokevirtual 41, 3) := by decide +kernel
theorem d_X_putSymbols_48 : decode b_X_putSymbols 48 = .ok (.aload_n 0, 1) := by decide +kernel
theorem d_X_putSymbols_49 : decode b_X_putSymbols 49 = .ok (.aload_n 1, 1) := by decide +kernel
theorem d_X_putSymbols_50 : decode b_X_putSymbols 50 = .ok (.iload_n 2, 1) := by decide +kernel
theorem d_X_putSymbols_51 : decode b_X_putSymbols 51 = .ok (.iload_n 3, 1) := by decide +kernel
theorem d_X_putSymbols_52 : decode b_X_putSymbols 52 = .ok (.invokestatic 112, 3) := by decide +kernel
theorem d_X_putSymbols_55 : decode b_X_putSymbols 55 = .ok (.invokevirtual 123, 3) := by decide +kernel
theorem d_X_putSymbols_58 : decode b_X_putSymbols 58 = .ok (.iinc 3 1, 3) := by decide +kernel
theorem d_X_putSymbols_61 : decode b_X_putSymbols 61 = .ok (.goto (-52), 3) := by decide +kernel
theorem d_X_putSymbols_64 : decode b_X_putSymbols 64 = .ok (.iinc 2 1, 3) := by decide +kernel
theorem d_X_putSymbols_67 : decode b_X_putSymbols 67 = .ok (.goto (-65), 3) := by decide +kernel
theorem d_X_putSymbols_70 : decode b_X_putSymbols 70 = .ok (.return_, 1) := by decide +kernel
theorem d_X_writeText_0 : decode b_X_writeText 0 = .ok (.aload_n 0, 1) := by decide +kernel
theorem d_X_writeText_1 : decode b_X_writeText 1 = .ok (.getfield 22, 3) := by decide +kernel
theorem d_X_writeText_4 : decode b_X_writeText 4 = .ok (.ifCond .eq 4, 3) := by decide +kernel
theorem d_X_writeText_7 : decode b_X_writeText 7 = .ok (.return_, 1) := by decide +kernel
theorem d_X_writeText_8 : decode b_X_writeText 8 = .ok (.aload_n 0, 1) := by decide +kernel
theorem d_X_writeText_9 : decode b_X_writeText 9 = .ok (.iconst 1, 1) := by decide +kernel
theorem d_X_writeText_10 : decode b_X_writeText 10 = .ok (.putfield 22, 3) := by decide +kernel
theorem d_X_writeText_13 : decode b_X_writeText 13 = .ok (.aload_n 0, 1) := by decide +kernel
theorem d_X_writeText_14 : decode b_X_writeText 14 = .ok (.aload_n 1, 1) := by decide +kernel
theorem d_X_writeText_15 : decode b_X_writeText 15 = .ok (.bipush 97, 2) := by decide +kernel
theorem d_X_writeText_17 : decode b_X_writeText 17 = .ok (.aload_n 1, 1) := by decide +kernel
theorem d_X_writeText_18 : decode b_X_writeText 18 = .ok (.getfield 26, 3) := by decide +kernel
theorem d_X_writeText_21 : decode b_X_writeText 21 = .ok (.invokevirtual 31, 3) := by decide +kernel
theorem d_X_writeText_24 : decode b_X_writeText 24 = .ok (.iconst 0, 1) := by decide +kernel
theorem d_X_writeText_25 : decode b_X_writeText 25 = .ok (.istore_n 2, 1) := by decide +kernel
theorem d_X_writeText_26 : decode b_X_writeText 26 = .ok (.iload_n 2, 1) := by decide +kernel
theorem d_X_writeText_27 : decode b_X_writeText 27 = .ok (.aload_n 1, 1) := by decide +kernel
theorem d_X_writeText_28 : decode b_X_writeText 28 = .ok (.getfield 35, 3) := by decide +kernel
theorem d_X_writeText_31 : decode b_X_writeText 31 = .ok (.if_icmp .ge 23, 3) := by decide +kernel
theorem d_X_writeText_34 : decode b_X_writeText 34 = .ok (.aload_n 0, 1) := by decide +kernel
theorem d_X_writeText_35 : decode b_X_writeText 35 = .ok (.iconst 2, 1) := by decide +kernel
theorem d_X_writeText_36 : decode b_X_writeText 36 = .ok (.aload_n 1, 1) := by decide +kernel
theorem d_X_writeText_37 : decode b_X_writeText 37 = .ok (.getfield 38, 3) := by decide +kernel
theorem d_X_writeText_40 : decode b_X_writeText 40 = .ok (.iload_n 2, 1) := by decide +kernel
theorem d_X_writeText_41 : decode b_X_writeText 41 = .ok (.iaload, 1) := by decide +kernel
theorem d_X_writeText_42 : decode b_X_writeText 42 = .ok (.imul, 1) := by decide +kernel
theorem d_X_writeText_43 : decode b_X_writeText 43 = .ok (.bipush 10, 2) := by decide +kernel
theorem d_X_writeText_45 : decode b_X_writeText 45 = .ok (.invokevirtual 41, 3) := by decide +kernel
theorem d_X_writeText_48 : decode b_X_writeText 48 = .ok (.iinc 2 1, 3) := by decide +kernel
theorem d_X_writeText_51 : decode b_X_writeText 51 = .ok (.goto (-25), 3) := by decide +kernel
theorem d_X_writeText_54 : decode b_X_writeText 54 = .ok (.iconst 0, 1) := by decide +kernel
theorem d_X_writeText_55 : decode b_X_writeText 55 = .ok (.istore_n 2, 1) := by decide +kernel
theorem d_X_writeText_56 : decode b_X_writeText 56 = .ok (.iload_n 2, 1) := by decide +kernel
theorem d_X_writeText_57 : decode b_X_writeText 57 = .ok (.aload_n 1, 1) := by decide +kernel
theorem d_X_writeText_58 : decode b_X_writeText 58 = .ok (.getfield 45, 3) := by decide +kernel
theorem d_X_writeText_61 : decode b_X_writeText 61 = .ok (.if_icmp .ge 35, 3) := by decide +kernel
theorem d_X_writeText_64 : decode b_X_writeText 64 = .ok (.aload_n 0, 1) := by decide +kernel
theorem d_X_writeText_65 : decode b_X_writeText 65 = .ok (.iconst 2, 1) := by decide +kernel
theorem d_X_writeText_66 : decode b_X_writeText 66 = .ok (.aload_n 1, 1) := by decide +kernel
theorem d_X_writeText_67 : decode b_X_writeText 67 = .ok (.getfield 48, 3) := by decide +kernel
theorem d_X_writeText_70 : decode b_X_writeText 70 = .ok (.iload_n 2, 1) := by decide +kernel
theorem d_X_writeText_71 : decode b_X_writeText 71 = .ok (.iaload, 1) := by decide +kernel
theorem d_X_writeText_72 : decode b_X_writeText 72 = .ok (.imul, 1) := by decide +kernel
theorem d_X_writeText_73 : decode b_X_writeText 73 = .ok (.bipush 32, 2) := by decide +kernel
theorem d_X_writeText_75 : decode b_X_writeText 75 = .ok (.invokevirtual 41, 3) := by decide +kernel
theorem d_X_writeText_78 : decode b_X_writeText 78 = .ok (.aload_n 0, 1) := by decide +kernel
theorem d_X_writeText_79 : decode b_X_writeText 79 = .ok (.aload_n 1, 1) := by decide +kernel
theorem d_X_writeText_80 : decode b_X_writeText 80 = .ok (.getfield 51, 3) := by decide +kernel
theorem d_X_writeText_83 : decode b_X_writeText 83 = .ok (.iload_n 2, 1) := by decide +kernel
theorem d_X_writeText_84 : decode b_X_writeText 84 = .ok (.iaload, 1) := by decide +kernel
theorem d_X_writeText_85 : decode b_X_writeText 85 = .ok (.bipush 10, 2) := by decide +kernel
theorem d_X_writeText_87 : decode b_X_writeText 87 = .ok (.invokevirtual 41, 3) := by decide +kernel
theorem d_X_writeText_90 : decode b_X_writeText 90 = .ok (.iinc 2 1, 3) := by decide +kernel
theorem d_X_writeText_93 : decode b_X_writeText 93 = .ok (.goto (-37), 3) := by decide +kernel
theorem d_X_writeText_96 : decode b_X_writeText 96 = .ok (.iconst 0, 1) := by decide +kernel
theorem d_X_writeText_97 : decode b_X_writeText 97 = .ok (.istore_n 2, 1) := by decide +kernel
theorem d_X_writeText_98 : decode b_X_writeText 98 = .ok (.iload_n 2, 1) := by decide +kernel
theorem d_X_writeText_99 : decode b_X_writeText 99 = .ok (.aload_n 1, 1) := by decide +kernel
theorem d_X_writeText_100 : decode b_X_writeText 100 = .ok (.getfield 54, 3) := by decide +kernel
theorem d_X_writeText_103 : decode b_X_writeText 103 = .ok (.if_icmp .ge 21, 3) := by decide +kernel
theorem d_X_writeText_106 : decode b_X_writeText 106 = .ok (.aload_n 0, 1) := by decide +kernel
theorem d_X_writeText_107 : decode b_X_writeText 107 = .ok (.aload_n 1, 1) := by decide +kernel
theorem d_X_writeText_108 : decode b_X_writeText 108 = .ok (.getfield 57, 3) := by decide +kernel
theorem d_X_writeText_111 : decode b_X_writeText 111 = .ok (.iload_n 2, 1) := by decide +kernel
theorem d_X_writeText_112 : decode b_X_writeText 112 = .ok (.iaload, 1) := by decide +kernel
theorem d_X_writeText_113 : decode b_X_writeText 113 = .ok (.bipush 10, 2) := by decide +kernel
theorem d_X_writeText_115 : decode b_X_writeText 115 = .ok (.invokevirtual 41, 3) := by decide +kernel
theorem d_X_writeText_118 : decode b_X_writeText 118 = .ok (.iinc 2 1, 3) := by decide +kernel
theorem d_X_writeText_121 : decode b_X_writeText 121 = .ok (.goto (-23), 3) := by decide +kernel
theorem d_X_writeText_124 : decode b_X_writeText 124 = .ok (.iconst 0, 1) := by decide +kernel
theorem d_X_writeText_125 : decode b_X_writeText 125 = .ok (.istore_n 2, 1) := by decide +kernel
theorem d_X_writeText_126 : decode b_X_writeText 126 = .ok (.iload_n 2, 1) := by decide +kernel
theorem d_X_writeText_127 : decode b_X_writeText 127 = .ok (.aload_n 1, 1) := by decide +kernel
theorem d_X_writeText_128 : decode b_X_writeText 128 = .ok (.getfield 60, 3) := by decide +kernel
theorem d_X_writeText_131 : decode b_X_writeText 131 = .ok (.if_icmp .ge 47, 3) := by decide +kernel
theorem d_X_writeText_134 : decode b_X_writeText 134 = .ok (.aload_n 0, 1) := by decide +kernel
theorem d_X_writeText_135 : decode b_X_writeText 135 = .ok (.iconst 2, 1) := by decide +kernel
theorem d_X_writeText_136 : decode b_X_writeText 136 = .ok (.aload_n 1, 1) := by decide +kernel
theorem d_X_writeText_137 : decode b_X_writeText 137 = .ok (.getfield 63, 3) := by decide +kernel
theorem d_X_writeText_140 : decode b_X_writeText 140 = .ok (.iload_n 2, 1) := by decide +kernel
theorem d_X_writeText_141 : decode b_X_writeText 141 = .ok (.iaload, 1) := by decide +kernel
theorem d_X_writeText_142 : decode b_X_writeText 142 = .ok (.imul, 1) := by decide +kernel
theorem d_X_writeText_143 : decode b_X_writeText 143 = .ok (.bipush 32, 2) := by decide +kernel
theorem d_X_writeText_145 : decode b_X_writeText 145 = .ok (.invokevirtual 41, 3) := by decide +kernel
theorem d_X_writeText_148 : decode b_X_writeText 148 = .ok (.aload_n 0, 1) := by decide +kernel
theorem d_X_writeText_149 : decode b_X_writeText 149 = .ok (.aload_n 1, 1) := by decide +kernel
theorem d_X_writeText_150 : decode b_X_writeText 150 = .ok (.getfield 66, 3) := by decide +kernel
theorem d_X_writeText_153 : decode b_X_writeText 153 = .ok (.iload_n 2, 1) := by decide +kernel
theorem d_X_writeText_154 : decode b_X_writeText 154 = .ok (.iaload, 1) := by decide +kernel
theorem d_X_writeText_155 : decode b_X_writeText 155 = .ok (.bipush 32, 2) := by decide +kernel
theorem d_X_writeText_157 : decode b_X_writeText 157 = .ok (.invokevirtual 41, 3) := by decide +kernel
theorem d_X_writeText_160 : decode b_X_writeText 160 = .ok (.aload_n 0, 1) := by decide +kernel
theorem d_X_writeText_161 : decode b_X_writeText 161 = .ok (.aload_n 1, 1) := by decide +kernel
theorem d_X_writeText_162 : decode b_X_writeText 162 = .ok (.getfield 69, 3) := by decide +kernel
theorem d_X_writeText_165 : decode b_X_writeText 165 = .ok (.iload_n 2, 1) := by decide +kernel
theorem d_X_writeText_166 : decode b_X_writeText 166 = .ok (.iaload, 1) := by decide +kernel
theorem d_X_writeText_167 : decode b_X_writeText 167 = .ok (.bipush 10, 2) := by decide +kernel
theorem d_X_writeText_169 : decode b_X_writeText 169 = .ok (.invokevirtual 41, 3) := by decide +kernel
theorem d_X_writeText_172 : decode b_X_writeText 172 = .ok (.iinc 2 1, 3) := by decide +kernel
theorem d_X_writeText_175 : decode b_X_writeText 175 = .ok (.goto (-49), 3) := by decide +kernel
theorem d_X_writeText_178 : decode b_X_writeText 178 = .ok (.aload_n 0, 1) := by decide +kernel
theorem d_X_writeText_179 : decode b_X_writeText 179 = .ok (.aload_n 1, 1) := by decide +kernel
theorem d_X_writeText_180 : decode b_X_writeText 180 = .ok (.invokevirtual 72, 3) := by decide +kernel
theorem d_X_writeText_183 : decode b_X_writeText 183 = .ok (.return_, 1) := by decide +kernel
theorem d_X_byteOf_0 : decode b_X_byteOf 0 = .ok (.iload_n 1, 1) := by decide +kernel
theorem d_X_byteOf_1 : decode b_X_byteOf 1 = .ok (.ifCond .lt 11, 3) := by decide +kernel
theorem d_X_byteOf_4 : decode b_X_byteOf 4 = .ok (.iload_n 1, 1) := by decide +kernel
theorem d_X_byteOf_5 : decode b_X_byteOf 5 = .ok (.aload_n 0, 1) := by decide +kernel
theorem d_X_byteOf_6 : decode b_X_byteOf 6 = .ok (.getfield 18, 3) := by decide +kernel
theorem d_X_byteOf_9 : decode b_X_byteOf 9 = .ok (.if_icmp .lt 7, 3) := by decide +kernel
theorem d_X_byteOf_12 : decode b_X_byteOf 12 = .ok (.iconst (-1), 1) := by decide +kernel
theorem d_X_byteOf_13 : decode b_X_byteOf 13 = .ok (.goto 9, 3) := by decide +kernel
theorem d_X_byteOf_16 : decode b_X_byteOf 16 = .ok (.aload_n 0, 1) := by decide +kernel
theorem d_X_byteOf_17 : decode b_X_byteOf 17 = .ok (.getfield 11, 3) := by decide +kernel
theorem d_X_byteOf_20 : decode b_X_byteOf 20 = .ok (.iload_n 1, 1) := by decide +kernel
theorem d_X_byteOf_21 : decode b_X_byteOf 21 = .ok (.iaload, 1) := by decide +kernel
theorem d_X_byteOf_22 : decode b_X_byteOf 22 = .ok (.ireturn, 1) := by decide +kernel
theorem d_X_numberAnew_0 : decode b_X_numberAnew 0 = .ok (.iconst 0, 1) := by decide +kernel
theorem d_X_numberAnew_1 : decode b_X_numberAnew 1 = .ok (.istore_n 2, 1) := by decide +kernel
theorem d_X_numberAnew_2 : decode b_X_numberAnew 2 = .ok (.iconst 0, 1) := by decide +kernel
theorem d_X_numberAnew_3 : decode b_X_numberAnew 3 = .ok (.istore_n 3, 1) := by decide +kernel
theorem d_X_numberAnew_4 : decode b_X_numberAnew 4 = .ok (.iload_n 3, 1) := by decide +kernel
theorem d_X_numberAnew_5 : decode b_X_numberAnew 5 = .ok (.aload_n 1, 1) := by decide +kernel
theorem d_X_numberAnew_6 : decode b_X_numberAnew 6 = .ok (.getfield 35, 3) := by decide +kernel
theorem d_X_numberAnew_9 : decode b_X_numberAnew 9 = .ok (.if_icmp .ge 24, 3) := by decide +kernel
theorem d_X_numberAnew_12 : decode b_X_numberAnew 12 = .ok (.iinc 2 1, 3) := by decide +kernel
theorem d_X_numberAnew_15 : decode b_X_numberAnew 15 = .ok (.aload_n 0, 1) := by decide +kernel
theorem d_X_numberAnew_16 : decode b_X_numberAnew 16 = .ok (.getfield 15, 3) := by decide +kernel
theorem d_X_numberAnew_19 : decode b_X_numberAnew 19 = .ok (.aload_n 1, 1) := by decide +kernel
theorem d_X_numberAnew_20 : decode b_X_numberAnew 20 = .ok (.getfield 38, 3) := by decide +kernel
theorem d_X_numberAnew_23 : decode b_X_numberAnew 23 = .ok (.iload_n 3, 1) := by decide +kernel
theorem d_X_numberAnew_24 : decode b_X_numberAnew 24 = .ok (.iaload, 1) := by decide +kernel
theorem d_X_numberAnew_25 : decode b_X_numberAnew 25 = .ok (.iload_n 2, 1) := by decide +kernel
theorem d_X_numberAnew_26 : decode b_X_numberAnew 26 = .ok (.iastore, 1) := by decide +kernel
theorem d_X_numberAnew_27 : decode b_X_numberAnew 27 = .ok (.iinc 3 1, 3) := by decide +kernel
theorem d_X_numberAnew_30 : decode b_X_numberAnew 30 = .ok (.goto (-26), 3) := by decide +kernel
theorem d_X_numberAnew_33 : decode b_X_numberAnew 33 = .ok (.iconst 0, 1) := by decide +kernel
theorem d_X_numberAnew_34 : decode b_X_numberAnew 34 = .ok (.istore_n 3, 1) := by decide +kernel
theorem d_X_numberAnew_35 : decode b_X_numberAnew 35 = .ok (.iload_n 3, 1) := by decide +kernel
theorem d_X_numberAnew_36 : decode b_X_numberAnew 36 = .ok (.aload_n 1, 1) := by decide +kernel
theorem d_X_numberAnew_37 : decode b_X_numberAnew 37 = .ok (.getfield 45, 3) := by decide +kernel
theorem d_X_numberAnew_40 : decode b_X_numberAnew 40 = .ok (.if_icmp .ge 24, 3) := by decide +kernel
theorem d_X_numberAnew_43 : decode b_X_numberAnew 43 = .ok (.iinc 2 1, 3) := by decide +kernel
theorem d_X_numberAnew_46 : decode b_X_numberAnew 46 = .ok (.aload_n 0, 1) := by decide +kernel
theorem d_X_numberAnew_47 : decode b_X_numberAnew 47 = .ok (.getfield 15, 3) := by decide +kernel
theorem d_X_numberAnew_50 : decode b_X_numberAnew 50 = .ok (.aload_n 1, 1) := by decide +kernel
theorem d_X_numberAnew_51 : decode b_X_numberAnew 51 = .ok (.getfield 48, 3) := by decide +kernel
theorem d_X_numberAnew_54 : decode b_X_numberAnew 54 = .ok (.iload_n 3, 1) := by decide +kernel
theorem d_X_numberAnew_55 : decode b_X_numberAnew 55 = .ok (.iaload, 1) := by decide +kernel
theorem d_X_numberAnew_56 : decode b_X_numberAnew 56 = .ok (.iload_n 2, 1) := by decide +kernel
theorem d_X_numberAnew_57 : decode b_X_numberAnew 57 = .ok (.iastore, 1) := by decide +kernel
theorem d_X_numberAnew_58 : decode b_X_numberAnew 58 = .ok (.iinc 3 1, 3) := by decide +kernel
theorem d_X_numberAnew_61 : decode b_X_numberAnew 61 = .ok (.goto (-26), 3) := by decide +kernel
theorem d_X_numberAnew_64 : decode b_X_numberAnew 64 = .ok (.iconst 0, 1) := by decide +kernel
theorem d_X_numberAnew_65 : decode b_X_numberAnew 65 = .ok (.istore_n 3, 1) := by decide +kernel
theorem d_X_numberAnew_66 : decode b_X_numberAnew 66 = .ok (.iload_n 3, 1) := by decide +kernel
theorem d_X_numberAnew_67 : decode b_X_numberAnew 67 = .ok (.aload_n 1, 1) := by decide +kernel
theorem d_X_numberAnew_68 : decode b_X_numberAnew 68 = .ok (.getfield 60, 3) := by decide +kernel
theorem d_X_numberAnew_71 : decode b_X_numberAnew 71 = .ok (.if_icmp .ge 29, 3) := by decide +kernel
theorem d_X_numberAnew_74 : decode b_X_numberAnew 74 = .ok (.iinc 2 1, 3) := by decide +kernel
theorem d_X_numberAnew_77 : decode b_X_numberAnew 77 = .ok (.aload_n 0, 1) := by decide +kernel
theorem d_X_numberAnew_78 : decode b_X_numberAnew 78 = .ok (.getfield 15, 3) := by decide +kernel
theorem d_X_numberAnew_81 : decode b_X_numberAnew 81 = .ok (.aload_n 1, 1) := by decide +kernel
theorem d_X_numberAnew_82 : decode b_X_numberAnew 82 = .ok (.getfield 63, 3) := by decide +kernel
theorem d_X_numberAnew_85 : decode b_X_numberAnew 85 = .ok (.aload_n 1, 1) := by decide +kernel
theorem d_X_numberAnew_86 : decode b_X_numberAnew 86 = .ok (.getfield 83, 3) := by decide +kernel
theorem d_X_numberAnew_89 : decode b_X_numberAnew 89 = .ok (.iload_n 3, 1) := by decide +kernel
theorem d_X_numberAnew_90 : decode b_X_numberAnew 90 = .ok (.iaload, 1) := by decide +kernel
theorem d_X_numberAnew_91 : decode b_X_numberAnew 91 = .ok (.iaload, 1) := by decide +kernel
theorem d_X_numberAnew_92 : decode b_X_numberAnew 92 = .ok (.iload_n 2, 1) := by decide +kernel
theorem d_X_numberAnew_93 : decode b_X_numberAnew 93 = .ok (.iastore, 1) := by decide +kernel
theorem d_X_numberAnew_94 : decode b_X_numberAnew 94 = .ok (.iinc 3 1, 3) := by decide +kernel
theorem d_X_numberAnew_97 : decode b_X_numberAnew 97 = .ok (.goto (-31), 3) := by decide +kernel
theorem d_X_numberAnew_100 : decode b_X_numberAnew 100 = .ok (.return_, 1) := by decide +kernel
theorem d_X_newLiteral_0 : decode b_X_newLiteral 0 = .ok (.iconst 2, 1) := by decide +kernel
theorem d_X_newLiteral_1 : decode b_X_newLiteral 1 = .ok (.aload_n 0, 1) := by decide +kernel
theorem d_X_newLiteral_2 : decode b_X_newLiteral 2 = .ok (.getfield 15, 3) := by decide +kernel
theorem d_X_newLiteral_5 : decode b_X_newLiteral 5 = .ok (.iload_n 1, 1) := by decide +kernel
theorem d_X_newLiteral_6 : decode b_X_newLiteral 6 = .ok (.iconst 1, 1) := by decide +kernel
theorem d_X_newLiteral_7 : decode b_X_newLiteral 7 = .ok (.ishr, 1) := by decide +kernel
theorem d_X_newLiteral_8 : decode b_X_newLiteral 8 = .ok (.iaload, 1) := by decide +kernel
theorem d_X_newLiteral_9 : decode b_X_newLiteral 9 = .ok (.imul, 1) := by decide +kernel
theorem d_X_newLiteral_10 : decode b_X_newLiteral 10 = .ok (.iload_n 1, 1) := by decide +kernel
theorem d_X_newLiteral_11 : decode b_X_newLiteral 11 = .ok (.iconst 1, 1) := by decide +kernel
theorem d_X_newLiteral_12 : decode b_X_newLiteral 12 = .ok (.iand, 1) := by decide +kernel
theorem d_X_newLiteral_13 : decode b_X_newLiteral 13 = .ok (.iadd, 1) := by decide +kernel
theorem d_X_newLiteral_14 : decode b_X_newLiteral 14 = .ok (.ireturn, 1) := by decide +kernel
theorem d_X_putDelta_0 : decode b_X_putDelta 0 = .ok (.iload_n 1, 1) := by decide +kernel
theorem d_X_putDelta_1 : decode b_X_putDelta 1 = .ok (.sipush 128, 3) := by decide +kernel
theorem d_X_putDelta_4 : decode b_X_putDelta 4 = .ok (.if_icmp .lt 26, 3) := by decide +kernel
theorem d_X_putDelta_7 : decode b_X_putDelta 7 = .ok (.aload_n 0, 1) := by decide +kernel
theorem d_X_putDelta_8 : decode b_X_putDelta 8 = .ok (.sipush 128, 3) := by decide +kernel
theorem d_X_putDelta_11 : decode b_X_putDelta 11 = .ok (.iload_n 1, 1) := by decide +kernel
theorem d_X_putDelta_12 : decode b_X_putDelta 12 = .ok (.bipush 127, 2) := by decide +kernel
theorem d_X_putDelta_14 : decode b_X_putDelta 14 = .ok (.iand, 1) := by decide +kernel
theorem d_X_putDelta_15 : decode b_X_putDelta 15 = .ok (.iadd, 1) := by decide +kernel
theorem d_X_putDelta_16 : decode b_X_putDelta 16 = .ok (.invokevirtual 90, 3) := by decide +kernel
theorem d_X_putDelta_19 : decode b_X_putDelta 19 = .ok (.aload_n 0, 1) := by decide +kernel
theorem d_X_putDelta_20 : decode b_X_putDelta 20 = .ok (.iload_n 1, 1) := by decide +kernel
theorem d_X_putDelta_21 : decode b_X_putDelta 21 = .ok (.bipush 7, 2) := by decide +kernel
theorem d_X_putDelta_23 : decode b_X_putDelta 23 = .ok (.ishr, 1) := by decide +kernel
theorem d_X_putDelta_24 : decode b_X_putDelta 24 = .ok (.invokevirtual 90, 3) := by decide +kernel
theorem d_X_putDelta_27 : decode b_X_putDelta 27 = .ok (.goto 8, 3) := by decide +kernel
theorem d_X_putDelta_30 : decode b_X_putDelta 30 = .ok (.aload_n 0, 1) := by decide +kernel
theorem d_X_putDelta_31 : decode b_X_putDelta 31 = .ok (.iload_n 1, 1) := by decide +kernel
theorem d_X_putDelta_32 : decode b_X_putDelta 32 = .ok (.invokevirtual 90, 3) := by decide +kernel
theorem d_X_putDelta_35 : decode b_X_putDelta 35 = .ok (.return_, 1) := by decide +kernel
theorem d_X_putBinaryAnd_0 : decode b_X_putBinaryAnd 0 = .ok (.aload_n 0, 1) := by decide +kernel
theorem d_X_putBinaryAnd_1 : decode b_X_putBinaryAnd 1 = .ok (.aload_n 1, 1) := by decide +kernel
theorem d_X_putBinaryAnd_2 : decode b_X_putBinaryAnd 2 = .ok (.getfield 66, 3) := by decide +kernel
theorem d_X_putBinaryAnd_5 : decode b_X_putBinaryAnd 5 = .ok (.iload_n 2, 1) := by decide +kernel
theorem d_X_putBinaryAnd_6 : decode b_X_putBinaryAnd 6 = .ok (.iaload, 1) := by decide +kernel
theorem d_X_putBinaryAnd_7 : decode b_X_putBinaryAnd 7 = .ok (.invokevirtual 79, 3) := by decide +kernel
theorem d_X_putBinaryAnd_10 : decode b_X_putBinaryAnd 10 = .ok (.istore_n 3, 1) := by decide +kernel
theorem d_X_putBinaryAnd_11 : decode b_X_putBinaryAnd 11 = .ok (.aload_n 0, 1) := by decide +kernel
theorem d_X_putBinaryAnd_12 : decode b_X_putBinaryAnd 12 = .ok (.aload_n 1, 1) := by decide +kernel
theorem d_X_putBinaryAnd_13 : decode b_X_putBinaryAnd 13 = .ok (.getfield 69, 3) := by decide +kernel
theorem d_X_putBinaryAnd_16 : decode b_X_putBinaryAnd 16 = .ok (.iload_n 2, 1) := by decide +kernel
theorem d_X_putBinaryAnd_17 : decode b_X_putBinaryAnd 17 = .ok (.iaload, 1) := by decide +kernel
theorem d_X_putBinaryAnd_18 : decode b_X_putBinaryAnd 18 = .ok (.invokevirtual 79, 3) := by decide +kernel
theorem d_X_putBinaryAnd_21 : decode b_X_putBinaryAnd 21 = .ok (.istore 4, 2) := by decide +kernel
theorem d_X_putBinaryAnd_23 : decode b_X_putBinaryAnd 23 = .ok (.iload_n 3, 1) := by decide +kernel
theorem d_X_putBinaryAnd_24 : decode b_X_putBinaryAnd 24 = .ok (.iload 4, 2) := by decide +kernel
theorem d_X_putBinaryAnd_26 : decode b_X_putBinaryAnd 26 = .ok (.invokestatic 94, 3) := by decide +kernel
theorem d_X_putBinaryAnd_29 : decode b_X_putBinaryAnd 29 = .ok (.istore 5, 2) := by decide +kernel
theorem d_X_putBinaryAnd_31 : decode b_X_putBinaryAnd 31 = .ok (.aload_n 0, 1) := by decide +kernel
theorem d_X_putBinaryAnd_32 : decode b_X_putBinaryAnd 32 = .ok (.iconst 2, 1) := by decide +kernel
theorem d_X_putBinaryAnd_33 : decode b_X_putBinaryAnd 33 = .ok (.aload_n 0, 1) := by decide +kernel
theorem d_X_putBinaryAnd_34 : decode b_X_putBinaryAnd 34 = .ok (.getfield 15, 3) := by decide +kernel
theorem d_X_putBinaryAnd_37 : decode b_X_putBinaryAnd 37 = .ok (.aload_n 1, 1) := by decide +kernel
theorem d_X_putBinaryAnd_38 : decode b_X_putBinaryAnd 38 = .ok (.getfield 63, 3) := by decide +kernel
theorem d_X_putBinaryAnd_41 : decode b_X_putBinaryAnd 41 = .ok (.iload_n 2, 1) := by decide +kernel
theorem d_X_putBinaryAnd_42 : decode b_X_putBinaryAnd 42 = .ok (.iaload, 1) := by decide +kernel
theorem d_X_putBinaryAnd_43 : decode b_X_putBinaryAnd 43 = .ok (.iaload, 1) := by decide +kernel
theorem d_X_putBinaryAnd_44 : decode b_X_putBinaryAnd 44 = .ok (.imul, 1) := by decide +kernel
theorem d_X_putBinaryAnd_45 : decode b_X_putBinaryAnd 45 = .ok (.iload 5, 2) := by decide +kernel
theorem d_X_putBinaryAnd_47 : decode b_X_putBinaryAnd 47 = .ok (.isub, 1) := by decide +kernel
theorem d_X_putBinaryAnd_48 : decode b_X_putBinaryAnd 48 = .ok (.invokevirtual 100, 3) := by decide +kernel
theorem d_X_putBinaryAnd_51 : decode b_X_putBinaryAnd 51 = .ok (.aload_n 0, 1) := by decide +kernel
theorem d_X_putBinaryAnd_52 : decode b_X_putBinaryAnd 52 = .ok (.iload 5, 2) := by decide +kernel
theorem d_X_putBinaryAnd_54 : decode b_X_putBinaryAnd 54 = .ok (.iload_n 3, 1) := by decide +kernel
theorem d_X_putBinaryAnd_55 : decode b_X_putBinaryAnd 55 = .ok (.iload 4, 2) := by decide +kernel
theorem d_X_putBinaryAnd_57 : decode b_X_putBinaryAnd 57 = .ok (.invokestatic 103, 3) := by decide +kernel
theorem d_X_putBinaryAnd_60 : decode b_X_putBinaryAnd 60 = .ok (.isub, 1) := by decide +kernel
theorem d_X_putBinaryAnd_61 : decode b_X_putBinaryAnd 61 = .ok (.invokevirtual 100, 3) := by decide +kernel
theorem d_X_putBinaryAnd_64 : decode b_X_putBinaryAnd 64 = .ok (.return_, 1) := by decide +kernel
theorem d_X_writeBinary_0 : decode b_X_writeBinary 0 = .ok (.aload_n 0, 1) := by decide +kernel
theorem d_X_writeBinary_1 : decode b_X_writeBinary 1 = .ok (.getfield 22, 3) := by decide +kernel
theorem d_X_writeBinary_4 : decode b_X_writeBinary 4 = .ok (.ifCond .eq 4, 3) := by decide +kernel
theorem d_X_writeBinary_7 : decode b_X_writeBinary 7 = .ok (.return_, 1) := by decide +kernel
theorem d_X_writeBinary_8 : decode b_X_writeBinary 8 = .ok (.aload_n 0, 1) := by decide +kernel
theorem d_X_writeBinary_9 : decode b_X_writeBinary 9 = .ok (.iconst 1, 1) := by decide +kernel
theorem d_X_writeBinary_10 : decode b_X_writeBinary 10 = .ok (.putfield 22, 3) := by decide +kernel
theorem d_X_writeBinary_13 : decode b_X_writeBinary 13 = .ok (.aload_n 0, 1) := by decide +kernel
theorem d_X_writeBinary_14 : decode b_X_writeBinary 14 = .ok (.aload_n 1, 1) := by decide +kernel
theorem d_X_writeBinary_15 : decode b_X_writeBinary 15 = .ok (.invokevirtual 76, 3) := by decide +kernel
theorem d_X_writeBinary_18 : decode b_X_writeBinary 18 = .ok (.aload_n 0, 1) := by decide +kernel
theorem d_X_writeBinary_19 : decode b_X_writeBinary 19 = .ok (.aload_n 1, 1) := by decide +kernel
theorem d_X_writeBinary_20 : decode b_X_writeBinary 20 = .ok (.bipush 105, 2) := by decide +kernel
theorem d_X_writeBinary_22 : decode b_X_writeBinary 22 = .ok (.aload_n 1, 1) := by decide +kernel
theorem d_X_writeBinary_23 : decode b_X_writeBinary 23 = .ok (.getfield 35, 3) := by decide +kernel
theorem d_X_writeBinary_26 : decode b_X_writeBinary 26 = .ok (.aload_n 1, 1) := by decide +kernel
theorem d_X_writeBinary_27 : decode b_X_writeBinary 27 = .ok (.getfield 45, 3) := by decide +kernel
theorem d_X_writeBinary_30 : decode b_X_writeBinary 30 = .ok (.iadd, 1) := by decide +kernel
theorem d_X_writeBinary_31 : decode b_X_writeBinary 31 = .ok (.aload_n 1, 1) := by decide +kernel
theorem d_X_writeBinary_32 : decode b_X_writeBinary 32 = .ok (.getfield 60, 3) := by decide +kernel
theorem d_X_writeBinary_35 : decode b_X_writeBinary 35 = .ok (.iadd, 1) := by decide +kernel
theorem d_X_writeBinary_36 : decode b_X_writeBinary 36 = .ok (.invokevirtual 31, 3) := by decide +kernel
theorem d_X_writeBinary_39 : decode b_X_writeBinary 39 = .ok (.iconst 0, 1) := by decide +kernel
theorem d_X_writeBinary_40 : decode b_X_writeBinary 40 = .ok (.istore_n 2, 1) := by decide +kernel
theorem d_X_writeBinary_41 : decode b_X_writeBinary 41 = .ok (.iload_n 2, 1) := by decide +kernel
theorem d_X_writeBinary_42 : decode b_X_writeBinary 42 = .ok (.aload_n 1, 1) := by decide +kernel
theorem d_X_writeBinary_43 : decode b_X_writeBinary 43 = .ok (.getfield 45, 3) := by decide +kernel
theorem d_X_writeBinary_46 : decode b_X_writeBinary 46 = .ok (.if_icmp .ge 25, 3) := by decide +kernel
theorem d_X_writeBinary_49 : decode b_X_writeBinary 49 = .ok (.aload_n 0, 1) := by decide +kernel
theorem d_X_writeBinary_50 : decode b_X_writeBinary 50 = .ok (.aload_n 0, 1) := by decide +kernel
theorem d_X_writeBinary_51 : decode b_X_writeBinary 51 = .ok (.aload_n 1, 1) := by decide +kernel
theorem d_X_writeBinary_52 : decode b_X_writeBinary 52 = .ok (.getfield 51, 3) := by decide +kernel
theorem d_X_writeBinary_55 : decode b_X_writeBinary 55 = .ok (.iload_n 2, 1) := by decide +kernel
theorem d_X_writeBinary_56 : decode b_X_writeBinary 56 = .ok (.iaload, 1) := by decide +kernel
theorem d_X_writeBinary_57 : decode b_X_writeBinary 57 = .ok (.invokevirtual 79, 3) := by decide +kernel
theorem d_X_writeBinary_60 : decode b_X_writeBinary 60 = .ok (.bipush 10, 2) := by decide +kernel
theorem d_X_writeBinary_62 : decode b_X_writeBinary 62 = .ok (.invokevirtual 41, 3) := by decide +kernel
theorem d_X_writeBinary_65 : decode b_X_writeBinary 65 = .ok (.iinc 2 1, 3) := by decide +kernel
theorem d_X_writeBinary_68 : decode b_X_writeBinary 68 = .ok (.goto (-27), 3) := by decide +kernel
theorem d_X_writeBinary_71 : decode b_X_writeBinary 71 = .ok (.iconst 0, 1) := by decide +kernel
theorem d_X_writeBinary_72 : decode b_X_writeBinary 72 = .ok (.istore_n 2, 1) := by decide +kernel
theorem d_X_writeBinary_73 : decode b_X_writeBinary 73 = .ok (.iload_n 2, 1) := by decide +kernel
theorem d_X_writeBinary_74 : decode b_X_writeBinary 74 = .ok (.aload_n 1, 1) := by decide +kernel
theorem d_X_writeBinary_75 : decode b_X_writeBinary 75 = .ok (.getfield 54, 3) := by decide +kernel
theorem d_X_writeBinary_78 : decode b_X_writeBinary 78 = .ok (.if_icmp .ge 25, 3) := by decide +kernel
theorem d_X_writeBinary_81 : decode b_X_writeBinary 81 = .ok (.aload_n 0, 1) := by decide +kernel
theorem d_X_writeBinary_82 : decode b_X_writeBinary 82 = .ok (.aload_n 0, 1) := by decide +kernel
theorem d_X_writeBinary_83 : decode b_X_writeBinary 83 = .ok (.aload_n 1, 1) := by decide +kernel
theorem d_X_writeBinary_84 : decode b_X_writeBinary 84 = .ok (.getfield 57, 3) := by decide +kernel
theorem d_X_writeBinary_87 : decode b_X_writeBinary 87 = .ok (.iload_n 2, 1) := by decide +kernel
theorem d_X_writeBinary_88 : decode b_X_writeBinary 88 = .ok (.iaload, 1) := by decide +kernel
theorem d_X_writeBinary_89 : decode b_X_writeBinary 89 = .ok (.invokevirtual 79, 3) := by decide +kernel
theorem d_X_writeBinary_92 : decode b_X_writeBinary 92 = .ok (.bipush 10, 2) := by decide +kernel
theorem d_X_writeBinary_94 : decode b_X_writeBinary 94 = .ok (.invokevirtual 41, 3) := by decide +kernel
theorem d_X_writeBinary_97 : decode b_X_writeBinary 97 = .ok (.iinc 2 1, 3) := by decide +kernel
theorem d_X_writeBinary_100 : decode b_X_writeBinary 100 = .ok (.goto (-27), 3) := by decide +kernel
theorem d_X_writeBinary_103 : decode b_X_writeBinary 103 = .ok (.iconst 0, 1) := by decide +kernel
theorem d_X_writeBinary_104 : decode b_X_writeBinary 104 = .ok (.istore_n 2, 1) := by decide +kernel
theorem d_X_writeBinary_105 : decode b_X_writeBinary 105 = .ok (.iload_n 2, 1) := by decide +kernel
theorem d_X_writeBinary_106 : decode b_X_writeBinary 106 = .ok (.aload_n 1, 1) := by decide +kernel
theorem d_X_writeBinary_107 : decode b_X_writeBinary 107 = .ok (.getfield 60, 3) := by decide +kernel
theorem d_X_writeBinary_110 : decode b_X_writeBinary 110 = .ok (.if_icmp .ge 20, 3) := by decide +kernel
theorem d_X_writeBinary_113 : decode b_X_writeBinary 113 = .ok (.aload_n 0, 1) := by decide +kernel
theorem d_X_writeBinary_114 : decode b_X_writeBinary 114 = .ok (.aload_n 1, 1) := by decide +kernel
theorem d_X_writeBinary_115 : decode b_X_writeBinary 115 = .ok (.aload_n 1, 1) := by decide +kernel
theorem d_X_writeBinary_116 : decode b_X_writeBinary 116 = .ok (.getfield 83, 3) := by decide +kernel
theorem d_X_writeBinary_119 : decode b_X_writeBinary 119 = .ok (.iload_n 2, 1) := by decide +kernel
theorem d_X_writeBinary_120 : decode b_X_writeBinary 120 = .ok (.iaload, 1) := by decide +kernel
theorem d_X_writeBinary_121 : decode b_X_writeBinary 121 = .ok (.invokevirtual 86, 3) := by decide +kernel
theorem d_X_writeBinary_124 : decode b_X_writeBinary 124 = .ok (.iinc 2 1, 3) := by decide +kernel
theorem d_X_writeBinary_127 : decode b_X_writeBinary 127 = .ok (.goto (-22), 3) := by decide +kernel
theorem d_X_writeBinary_130 : decode b_X_writeBinary 130 = .ok (.aload_n 0, 1) := by decide +kernel
theorem d_X_writeBinary_131 : decode b_X_writeBinary 131 = .ok (.aload_n 1, 1) := by decide +kernel
theorem d_X_writeBinary_132 : decode b_X_writeBinary 132 = .ok (.invokevirtual 72, 3) := by decide +kernel
theorem d_X_writeBinary_135 : decode b_X_writeBinary 135 = .ok (.return_, 1) := by decide +kernel
theorem d_X_forget_0 : decode b_X_forget 0 = .ok (.aload_n 0, 1) := by decide +kernel
theorem d_X_forget_1 : decode b_X_forget 1 = .ok (.iconst 0, 1) := by decide +kernel
theorem d_X_forget_2 : decode b_X_forget 2 = .ok (.putfield 18, 3) := by decide +kernel
theorem d_X_forget_5 : decode b_X_forget 5 = .ok (.aload_n 0, 1) := by decide +kernel
theorem d_X_forget_6 : decode b_X_forget 6 = .ok (.iconst 0, 1) := by decide +kernel
theorem d_X_forget_7 : decode b_X_forget 7 = .ok (.putfield 22, 3) := by decide +kernel
theorem d_X_forget_10 : decode b_X_forget 10 = .ok (.return_, 1) := by decide +kernel
end
section
theorem tb_p8 : Cond.selects R_X y_X_putName y_X_putName ∈ TB := tb_mem (i := 8) (by decide +kernel) (by decide +kernel)
theorem tb_p7 : Cond.selects R_X y_X_putSymbols y_X_putSymbols ∈ TB := tb_mem (i := 7) (by decide +kernel) (by decide +kernel)
theorem tb_p6 : Cond.selects R_X y_X_putDelta y_X_putDelta ∈ TB := tb_mem (i := 6) (by decide +kernel) (by decide +kernel)
theorem tb_p5 : Cond.selects R_X y_X_putBinaryAnd y_X_putBinaryAnd ∈ TB := tb_mem (i := 5) (by decide +kernel) (by decide +kernel)
theorem tb_p4 : Cond.selects R_X y_X_newLiteral y_X_newLiteral ∈ TB := tb_mem (i := 4) (by decide +kernel) (by decide +kernel)
theorem tb_p3 : Cond.selects R_X y_X_putNumber y_X_putNumber ∈ TB := tb_mem (i := 3) (by decide +kernel) (by decide +kernel)
theorem tb_p2 : Cond.selects R_X y_X_put y_X_put ∈ TB := tb_mem (i := 2) (by decide +kernel) (by decide +kernel)
theorem tb_p1 : Cond.selects R_X y_X_putHeader y_X_putHeader ∈ TB := tb_mem (i := 1) (by decide +kernel) (by decide +kernel)
theorem tb_p0 : Cond.selects R_X y_X_numberAnew y_X_numberAnew ∈ TB := tb_mem (i := 0) (by decide +kernel) (by decide +kernel)
theorem tb_1 : Cond.initialized R_F ∈ TB := tb_mem (i := 64) (by decide +kernel) (by decide +kernel)
theorem tb_6 : Cond.initialized R_X ∈ TB := tb_mem (i := 69) (by decide +kernel) (by decide +kernel)
theorem tb_129 : Cond.fieldLink R_X 11 "CircuitFiles$Form" "bytes" "[I" ∈ TB := tb_mem (i := 192) (by decide +kernel) (by decide +kernel)
theorem tb_130 : Cond.fieldLink R_X 15 "CircuitFiles$Form" "newVariable" "[I" ∈ TB := tb_mem (i := 193) (by decide +kernel) (by decide +kernel)
theorem tb_131 : Cond.fieldLink R_X 18 "CircuitFiles$Form" "length" "I" ∈ TB := tb_mem (i := 194) (by decide +kernel) (by decide +kernel)
theorem tb_132 : Cond.fieldLink R_X 22 "CircuitFiles$Form" "written" "Z" ∈ TB := tb_mem (i := 195) (by decide +kernel) (by decide +kernel)
theorem tb_149 : Cond.fieldLink R_X 26 "CircuitFiles$Circuit" "top" "I" ∈ TB := tb_mem (i := 212) (by decide +kernel) (by decide +kernel)
theorem tb_154 : Cond.fieldLink R_X 35 "CircuitFiles$Circuit" "inputs" "I" ∈ TB := tb_mem (i := 217) (by decide +kernel) (by decide +kernel)
theorem tb_158 : Cond.fieldLink R_X 45 "CircuitFiles$Circuit" "latches" "I" ∈ TB := tb_mem (i := 221) (by decide +kernel) (by decide +kernel)
theorem tb_162 : Cond.fieldLink R_X 54 "CircuitFiles$Circuit" "outputs" "I" ∈ TB := tb_mem (i := 225) (by decide +kernel) (by decide +kernel)
theorem tb_168 : Cond.fieldLink R_X 60 "CircuitFiles$Circuit" "ands" "I" ∈ TB := tb_mem (i := 231) (by decide +kernel) (by decide +kernel)
theorem tb_173 : Cond.fieldLink R_X 38 "CircuitFiles$Circuit" "inputVariable" "[I" ∈ TB := tb_mem (i := 236) (by decide +kernel) (by decide +kernel)
theorem tb_176 : Cond.fieldLink R_X 48 "CircuitFiles$Circuit" "latchVariable" "[I" ∈ TB := tb_mem (i := 239) (by decide +kernel) (by decide +kernel)
theorem tb_179 : Cond.fieldLink R_X 51 "CircuitFiles$Circuit" "latchNext" "[I" ∈ TB := tb_mem (i := 242) (by decide +kernel) (by decide +kernel)
theorem tb_183 : Cond.fieldLink R_X 57 "CircuitFiles$Circuit" "outputLiteral" "[I" ∈ TB := tb_mem (i := 246) (by decide +kernel) (by decide +kernel)
theorem tb_188 : Cond.fieldLink R_X 63 "CircuitFiles$Circuit" "andVariable" "[I" ∈ TB := tb_mem (i := 251) (by decide +kernel) (by decide +kernel)
theorem tb_192 : Cond.fieldLink R_X 66 "CircuitFiles$Circuit" "andFirst" "[I" ∈ TB := tb_mem (i := 255) (by decide +kernel) (by decide +kernel)
theorem tb_196 : Cond.fieldLink R_X 69 "CircuitFiles$Circuit" "andSecond" "[I" ∈ TB := tb_mem (i := 259) (by decide +kernel) (by decide +kernel)
theorem tb_200 : Cond.fieldLink R_X 83 "CircuitFiles$Circuit" "order" "[I" ∈ TB := tb_mem (i := 263) (by decide +kernel) (by decide +kernel)
theorem tb_205 : Cond.fieldLink R_X 109 "CircuitFiles$Circuit" "nameLength" "[I" ∈ TB := tb_mem (i := 268) (by decide +kernel) (by decide +kernel)
theorem tb_209 : Cond.fieldLink R_X 126 "CircuitFiles$Circuit" "nameBytes" "[I" ∈ TB := tb_mem (i := 272) (by decide +kernel) (by decide +kernel)
theorem tb_305 : Cond.instanceMethod y_C_countOf ∈ TB := tb_mem (i := 368) (by decide +kernel) (by decide +kernel)
theorem tb_306 : Cond.selects R_C y_C_countOf y_C_countOf ∈ TB := tb_mem (i := 369) (by decide +kernel) (by decide +kernel)
theorem tb_307 : Cond.code y_C_countOf b_C_countOf 2 (some .int) ∈ TB := tb_mem (i := 370) (by decide +kernel) (by decide +kernel)
theorem tb_309 : Cond.static y_F_slotOf ∈ TB := tb_mem (i := 372) (by decide +kernel) (by decide +kernel)
theorem tb_310 : Cond.code y_F_slotOf b_F_slotOf 2 (some .int) ∈ TB := tb_mem (i := 373) (by decide +kernel) (by decide +kernel)
theorem tb_319 : Cond.methodLink R_X 76 y_X_numberAnew ∈ TB := tb_mem (i := 382) (by decide +kernel) (by decide +kernel)
theorem tb_321 : Cond.instanceMethod y_X_numberAnew ∈ TB := tb_mem (i := 384) (by decide +kernel) (by decide +kernel)
theorem tb_322 : Cond.code y_X_numberAnew b_X_numberAnew 4 none ∈ TB := tb_mem (i := 385) (by decide +kernel) (by decide +kernel)
theorem tb_323 : Cond.methodLink R_X 31 y_X_putHeader ∈ TB := tb_mem (i := 386) (by decide +kernel) (by decide +kernel)
theorem tb_325 : Cond.instanceMethod y_X_putHeader ∈ TB := tb_mem (i := 388) (by decide +kernel) (by decide +kernel)
theorem tb_326 : Cond.code y_X_putHeader b_X_putHeader 4 none ∈ TB := tb_mem (i := 389) (by decide +kernel) (by decide +kernel)
theorem tb_327 : Cond.methodLink R_X 90 y_X_put ∈ TB := tb_mem (i := 390) (by decide +kernel) (by decide +kernel)
theorem tb_329 : Cond.instanceMethod y_X_put ∈ TB := tb_mem (i := 392) (by decide +kernel) (by decide +kernel)
theorem tb_330 : Cond.code y_X_put b_X_put 2 none ∈ TB := tb_mem (i := 393) (by decide +kernel) (by decide +kernel)
theorem tb_331 : Cond.methodLink R_X 41 y_X_putNumber ∈ TB := tb_mem (i := 394) (by decide +kernel) (by decide +kernel)
theorem tb_333 : Cond.instanceMethod y_X_putNumber ∈ TB := tb_mem (i := 396) (by decide +kernel) (by decide +kernel)
theorem tb_334 : Cond.code y_X_putNumber b_X_putNumber 3 none ∈ TB := tb_mem (i := 397) (by decide +kernel) (by decide +kernel)
theorem tb_335 : Cond.methodLink R_X 79 y_X_newLiteral ∈ TB := tb_mem (i := 398) (by decide +kernel) (by decide +kernel)
theorem tb_337 : Cond.instanceMethod y_X_newLiteral ∈ TB := tb_mem (i := 400) (by decide +kernel) (by decide +kernel)
theorem tb_338 : Cond.code y_X_newLiteral b_X_newLiteral 2 (some .int) ∈ TB := tb_mem (i := 401) (by decide +kernel) (by decide +kernel)
theorem tb_339 : Cond.methodLink R_X 86 y_X_putBinaryAnd ∈ TB := tb_mem (i := 402) (by decide +kernel) (by decide +kernel)
theorem tb_341 : Cond.instanceMethod y_X_putBinaryAnd ∈ TB := tb_mem (i := 404) (by decide +kernel) (by decide +kernel)
theorem tb_342 : Cond.code y_X_putBinaryAnd b_X_putBinaryAnd 6 none ∈ TB := tb_mem (i := 405) (by decide +kernel) (by decide +kernel)
theorem tb_343 : Cond.methodLink R_X 94 Lib.Math.max.name ∈ TB := tb_mem (i := 406) (by decide +kernel) (by decide +kernel)
theorem tb_346 : Cond.methodLink R_X 100 y_X_putDelta ∈ TB := tb_mem (i := 409) (by decide +kernel) (by decide +kernel)
theorem tb_348 : Cond.instanceMethod y_X_putDelta ∈ TB := tb_mem (i := 411) (by decide +kernel) (by decide +kernel)
theorem tb_349 : Cond.code y_X_putDelta b_X_putDelta 2 none ∈ TB := tb_mem (i := 412) (by decide +kernel) (by decide +kernel)
theorem tb_350 : Cond.methodLink R_X 103 Lib.Math.min.name ∈ TB := tb_mem (i := 413) (by decide +kernel) (by decide +kernel)
theorem tb_353 : Cond.methodLink R_X 72 y_X_putSymbols ∈ TB := tb_mem (i := 416) (by decide +kernel) (by decide +kernel)
theorem tb_355 : Cond.instanceMethod y_X_putSymbols ∈ TB := tb_mem (i := 418) (by decide +kernel) (by decide +kernel)
theorem tb_356 : Cond.code y_X_putSymbols b_X_putSymbols 4 none ∈ TB := tb_mem (i := 419) (by decide +kernel) (by decide +kernel)
theorem tb_357 : Cond.methodLink R_X 106 y_C_countOf ∈ TB := tb_mem (i := 420) (by decide +kernel) (by decide +kernel)
theorem tb_360 : Cond.methodLink R_X 117 y_JcA ∈ TB := tb_mem (i := 423) (by decide +kernel) (by decide +kernel)
theorem tb_400 : Cond.methodLink R_X 123 y_X_putName ∈ TB := tb_mem (i := 463) (by decide +kernel) (by decide +kernel)
theorem tb_402 : Cond.instanceMethod y_X_putName ∈ TB := tb_mem (i := 465) (by decide +kernel) (by decide +kernel)
theorem tb_403 : Cond.code y_X_putName b_X_putName 4 none ∈ TB := tb_mem (i := 466) (by decide +kernel) (by decide +kernel)
theorem cw_X_100 {p : Program} {R : Room} {s : State} {m : MethodId} {args : Array Value} {meth : Method} {c : Code} {cc : ByteArray} {nL : Nat} {D : va_G} {sx : Nat → Nat} {tys : List (ClassId × FieldType)} {A : Nat → Prop} {ret : Option FieldType} (hC : CX p s m args meth c cc R_X TB nL D vwCl tys A (SPl sx) ret) (hR : ({ frames := 1, cells := 0, slots := 0, locals := 21 } : Room).frames + 1 ≤ R.frames ∧ 8 + (2 + 11) + ({ frames := 1, cells := 0, slots := 0, locals := 21 } : Room).locals ≤ R.locals := by exact ⟨Nat.le_of_ble_eq_true rfl, Nat.le_of_ble_eq_true rfl⟩) : CallW R s args R_X R_X 100 y_X_putDelta b_X_putDelta 2 none (Cond.code y_X_putDelta b_X_putDelta 2 none :: TB) ({ frames := 1, cells := 0, slots := 0, locals := 21 } : Room) 0 0 1 := cwV 1 hC.2.2.2.2.1 (gV tb_346 tb_348 tb_p6 tb_6 tb_349) rfl rfl rfl (by decide +kernel) hR
theorem cw_X_106 {p : Program} {R : Room} {s : State} {m : MethodId} {args : Array Value} {meth : Method} {c : Code} {cc : ByteArray} {nL : Nat} {D : va_G} {sx : Nat → Nat} {tys : List (ClassId × FieldType)} {A : Nat → Prop} {ret : Option FieldType} (hC : CX p s m args meth c cc R_X TB nL D vwCl tys A (SPl sx) ret) (hR : ({ frames := 0, cells := 0, slots := 0, locals := 0 } : Room).frames + 1 ≤ R.frames ∧ 8 + (2 + 11) + ({ frames := 0, cells := 0, slots := 0, locals := 0 } : Room).locals ≤ R.locals := by exact ⟨Nat.le_of_ble_eq_true rfl, Nat.le_of_ble_eq_true rfl⟩) : CallW R s args R_X R_C 106 y_C_countOf b_C_countOf 2 (some .int) (Cond.code y_C_countOf b_C_countOf 2 (some .int) :: TB) ({ frames := 0, cells := 0, slots := 0, locals := 0 } : Room) 0 0 1 := cwV 1 hC.2.2.2.2.1 (gV tb_357 tb_305 tb_306 tb_7 tb_307) rfl rfl rfl (by decide +kernel) hR
theorem cw_X_112 {p : Program} {R : Room} {s : State} {m : MethodId} {args : Array Value} {meth : Method} {c : Code} {cc : ByteArray} {nL : Nat} {D : va_G} {sx : Nat → Nat} {tys : List (ClassId × FieldType)} {A : Nat → Prop} {ret : Option FieldType} (hC : CX p s m args meth c cc R_X TB nL D vwCl tys A (SPl sx) ret) (hR : ({ frames := 0, cells := 0, slots := 0, locals := 0 } : Room).frames + 1 ≤ R.frames ∧ 8 + (2 + 11) + ({ frames := 0, cells := 0, slots := 0, locals := 0 } : Room).locals ≤ R.locals := by exact ⟨Nat.le_of_ble_eq_true rfl, Nat.le_of_ble_eq_true rfl⟩) : va_CN R s args R_X 112 y_F_slotOf "CircuitFiles" b_F_slotOf 2 (some .int) (Cond.code y_F_slotOf b_F_slotOf 2 (some .int) :: TB) ({ frames := 0, cells := 0, slots := 0, locals := 0 } : Room) 0 0 2 ∧ (Cond.static y_F_slotOf).before args s = true ∧ True := ⟨va_cnB 2 hC.2.2.2.2.1 (gC tb_310) rfl rfl rfl (nw_358 hC.2.2.2.2.2.2.2.1.2) (hC.2.2.2.2.1 _ tb_1) (by decide +kernel) hR, hC.2.2.2.2.1 _ tb_309, trivial⟩
theorem cw_X_123 {p : Program} {R : Room} {s : State} {m : MethodId} {args : Array Value} {meth : Method} {c : Code} {cc : ByteArray} {nL : Nat} {D : va_G} {sx : Nat → Nat} {tys : List (ClassId × FieldType)} {A : Nat → Prop} {ret : Option FieldType} (hC : CX p s m args meth c cc R_X TB nL D vwCl tys A (SPl sx) ret) (hR : ({ frames := 1, cells := 0, slots := 0, locals := 21 } : Room).frames + 1 ≤ R.frames ∧ 8 + (4 + 11) + ({ frames := 1, cells := 0, slots := 0, locals := 21 } : Room).locals ≤ R.locals := by exact ⟨Nat.le_of_ble_eq_true rfl, Nat.le_of_ble_eq_true rfl⟩) : CallW R s args R_X R_X 123 y_X_putName b_X_putName 4 none (Cond.code y_X_putName b_X_putName 4 none :: TB) ({ frames := 1, cells := 0, slots := 0, locals := 21 } : Room) 0 0 2 := cwV 2 hC.2.2.2.2.1 (gV tb_400 tb_402 tb_p8 tb_6 tb_403) rfl rfl rfl (by decide +kernel) hR
theorem cw_X_31 {p : Program} {R : Room} {s : State} {m : MethodId} {args : Array Value} {meth : Method} {c : Code} {cc : ByteArray} {nL : Nat} {D : va_G} {sx : Nat → Nat} {tys : List (ClassId × FieldType)} {A : Nat → Prop} {ret : Option FieldType} (hC : CX p s m args meth c cc R_X TB nL D vwCl tys A (SPl sx) ret) (hR : ({ frames := 2, cells := 0, slots := 0, locals := 43 } : Room).frames + 1 ≤ R.frames ∧ 8 + (4 + 11) + ({ frames := 2, cells := 0, slots := 0, locals := 43 } : Room).locals ≤ R.locals := by exact ⟨Nat.le_of_ble_eq_true rfl, Nat.le_of_ble_eq_true rfl⟩) : CallW R s args R_X R_X 31 y_X_putHeader b_X_putHeader 4 none (Cond.code y_X_putHeader b_X_putHeader 4 none :: TB) ({ frames := 2, cells := 0, slots := 0, locals := 43 } : Room) 0 0 3 := cwV 3 hC.2.2.2.2.1 (gV tb_323 tb_325 tb_p1 tb_6 tb_326) rfl rfl rfl (by decide +kernel) hR
theorem cw_X_41 {p : Program} {R : Room} {s : State} {m : MethodId} {args : Array Value} {meth : Method} {c : Code} {cc : ByteArray} {nL : Nat} {D : va_G} {sx : Nat → Nat} {tys : List (ClassId × FieldType)} {A : Nat → Prop} {ret : Option FieldType} (hC : CX p s m args meth c cc R_X TB nL D vwCl tys A (SPl sx) ret) (hR : ({ frames := 1, cells := 0, slots := 0, locals := 21 } : Room).frames + 1 ≤ R.frames ∧ 8 + (3 + 11) + ({ frames := 1, cells := 0, slots := 0, locals := 21 } : Room).locals ≤ R.locals := by exact ⟨Nat.le_of_ble_eq_true rfl, Nat.le_of_ble_eq_true rfl⟩) : CallW R s args R_X R_X 41 y_X_putNumber b_X_putNumber 3 none (Cond.code y_X_putNumber b_X_putNumber 3 none :: TB) ({ frames := 1, cells := 0, slots := 0, locals := 21 } : Room) 0 0 2 := cwV 2 hC.2.2.2.2.1 (gV tb_331 tb_333 tb_p3 tb_6 tb_334) rfl rfl rfl (by decide +kernel) hR
theorem cw_X_72 {p : Program} {R : Room} {s : State} {m : MethodId} {args : Array Value} {meth : Method} {c : Code} {cc : ByteArray} {nL : Nat} {D : va_G} {sx : Nat → Nat} {tys : List (ClassId × FieldType)} {A : Nat → Prop} {ret : Option FieldType} (hC : CX p s m args meth c cc R_X TB nL D vwCl tys A (SPl sx) ret) (hR : ({ frames := 4, cells := 0, slots := 0, locals := 85 } : Room).frames + 1 ≤ R.frames ∧ 8 + (4 + 11) + ({ frames := 4, cells := 0, slots := 0, locals := 85 } : Room).locals ≤ R.locals := by exact ⟨Nat.le_of_ble_eq_true rfl, Nat.le_of_ble_eq_true rfl⟩) : CallW R s args R_X R_X 72 y_X_putSymbols b_X_putSymbols 4 none (Cond.code y_X_putSymbols b_X_putSymbols 4 none :: TB) ({ frames := 4, cells := 0, slots := 0, locals := 85 } : Room) 0 0 1 := cwV 1 hC.2.2.2.2.1 (gV tb_353 tb_355 tb_p7 tb_6 tb_356) rfl rfl rfl (by decide +kernel) hR
theorem cw_X_76 {p : Program} {R : Room} {s : State} {m : MethodId} {args : Array Value} {meth : Method} {c : Code} {cc : ByteArray} {nL : Nat} {D : va_G} {sx : Nat → Nat} {tys : List (ClassId × FieldType)} {A : Nat → Prop} {ret : Option FieldType} (hC : CX p s m args meth c cc R_X TB nL D vwCl tys A (SPl sx) ret) (hR : ({ frames := 0, cells := 0, slots := 0, locals := 0 } : Room).frames + 1 ≤ R.frames ∧ 8 + (4 + 11) + ({ frames := 0, cells := 0, slots := 0, locals := 0 } : Room).locals ≤ R.locals := by exact ⟨Nat.le_of_ble_eq_true rfl, Nat.le_of_ble_eq_true rfl⟩) : CallW R s args R_X R_X 76 y_X_numberAnew b_X_numberAnew 4 none (Cond.code y_X_numberAnew b_X_numberAnew 4 none :: TB) ({ frames := 0, cells := 0, slots := 0, locals := 0 } : Room) 0 0 1 := cwV 1 hC.2.2.2.2.1 (gV tb_319 tb_321 tb_p0 tb_6 tb_322) rfl rfl rfl (by decide +kernel) hR
theorem cw_X_79 {p : Program} {R : Room} {s : State} {m : MethodId} {args : Array Value} {meth : Method} {c : Code} {cc : ByteArray} {nL : Nat} {D : va_G} {sx : Nat → Nat} {tys : List (ClassId × FieldType)} {A : Nat → Prop} {ret : Option FieldType} (hC : CX p s m args meth c cc R_X TB nL D vwCl tys A (SPl sx) ret) (hR : ({ frames := 0, cells := 0, slots := 0, locals := 0 } : Room).frames + 1 ≤ R.frames ∧ 8 + (2 + 11) + ({ frames := 0, cells := 0, slots := 0, locals := 0 } : Room).locals ≤ R.locals := by exact ⟨Nat.le_of_ble_eq_true rfl, Nat.le_of_ble_eq_true rfl⟩) : CallW R s args R_X R_X 79 y_X_newLiteral b_X_newLiteral 2 (some .int) (Cond.code y_X_newLiteral b_X_newLiteral 2 (some .int) :: TB) ({ frames := 0, cells := 0, slots := 0, locals := 0 } : Room) 0 0 1 := cwV 1 hC.2.2.2.2.1 (gV tb_335 tb_337 tb_p4 tb_6 tb_338) rfl rfl rfl (by decide +kernel) hR
theorem cw_X_86 {p : Program} {R : Room} {s : State} {m : MethodId} {args : Array Value} {meth : Method} {c : Code} {cc : ByteArray} {nL : Nat} {D : va_G} {sx : Nat → Nat} {tys : List (ClassId × FieldType)} {A : Nat → Prop} {ret : Option FieldType} (hC : CX p s m args meth c cc R_X TB nL D vwCl tys A (SPl sx) ret) (hR : ({ frames := 2, cells := 0, slots := 0, locals := 42 } : Room).frames + 1 ≤ R.frames ∧ 8 + (6 + 11) + ({ frames := 2, cells := 0, slots := 0, locals := 42 } : Room).locals ≤ R.locals := by exact ⟨Nat.le_of_ble_eq_true rfl, Nat.le_of_ble_eq_true rfl⟩) : CallW R s args R_X R_X 86 y_X_putBinaryAnd b_X_putBinaryAnd 6 none (Cond.code y_X_putBinaryAnd b_X_putBinaryAnd 6 none :: TB) ({ frames := 2, cells := 0, slots := 0, locals := 42 } : Room) 0 0 2 := cwV 2 hC.2.2.2.2.1 (gV tb_339 tb_341 tb_p5 tb_6 tb_342) rfl rfl rfl (by decide +kernel) hR
theorem cw_X_90 {p : Program} {R : Room} {s : State} {m : MethodId} {args : Array Value} {meth : Method} {c : Code} {cc : ByteArray} {nL : Nat} {D : va_G} {sx : Nat → Nat} {tys : List (ClassId × FieldType)} {A : Nat → Prop} {ret : Option FieldType} (hC : CX p s m args meth c cc R_X TB nL D vwCl tys A (SPl sx) ret) (hR : ({ frames := 0, cells := 0, slots := 0, locals := 0 } : Room).frames + 1 ≤ R.frames ∧ 8 + (2 + 11) + ({ frames := 0, cells := 0, slots := 0, locals := 0 } : Room).locals ≤ R.locals := by exact ⟨Nat.le_of_ble_eq_true rfl, Nat.le_of_ble_eq_true rfl⟩) : CallW R s args R_X R_X 90 y_X_put b_X_put 2 none (Cond.code y_X_put b_X_put 2 none :: TB) ({ frames := 0, cells := 0, slots := 0, locals := 0 } : Room) 0 0 1 := cwV 1 hC.2.2.2.2.1 (gV tb_327 tb_329 tb_p2 tb_6 tb_330) rfl rfl rfl (by decide +kernel) hR
theorem st_XC_XA1 {cA : Nat → ClassId} {a_X a_C : Nat → Nat} {I_X : Nat → Int32} {A_X : Nat → Nat → Int32} {I_C : Nat → Int32} {A_C : Nat → Nat → Int32} {f : Nat → Int32} : (kc_X cA a_X I_X A_X ++ kc_C cA a_C I_C A_C).set 2 (a_X 2, .inl (cA 0, 401, .inl f)) = kc_X cA a_X I_X (va_up A_X 1 f) ++ kc_C cA a_C I_C A_C := rfl
theorem st_XC_XI1 {cA : Nat → ClassId} {a_X a_C : Nat → Nat} {I_X : Nat → Int32} {A_X : Nat → Nat → Int32} {I_C : Nat → Int32} {A_C : Nat → Nat → Int32} {v : Int32} : (kc_X cA a_X I_X A_X ++ kc_C cA a_C I_C A_C).set 0 (a_X 0, .inr (4, ([.ref (a_X 1), .ref (a_X 2), .int (I_X 0), .int (I_X 1)] : List Value).set 3 (.int v))) = kc_X cA a_X (va_up I_X 1 v) A_X ++ kc_C cA a_C I_C A_C := rfl
theorem st_X_XA0 {cA : Nat → ClassId} {a_X : Nat → Nat} {I_X : Nat → Int32} {A_X : Nat → Nat → Int32} {f : Nat → Int32} : (kc_X cA a_X I_X A_X).set 1 (a_X 1, .inl (cA 0, 4654, .inl f)) = kc_X cA a_X I_X (va_up A_X 0 f) := rfl
theorem st_X_XI0 {cA : Nat → ClassId} {a_X : Nat → Nat} {I_X : Nat → Int32} {A_X : Nat → Nat → Int32} {v : Int32} : (kc_X cA a_X I_X A_X).set 0 (a_X 0, .inr (4, ([.ref (a_X 1), .ref (a_X 2), .int (I_X 0), .int (I_X 1)] : List Value).set 2 (.int v))) = kc_X cA a_X (va_up I_X 0 v) A_X := rfl
theorem st_X_XI1 {cA : Nat → ClassId} {a_X : Nat → Nat} {I_X : Nat → Int32} {A_X : Nat → Nat → Int32} {v : Int32} : (kc_X cA a_X I_X A_X).set 0 (a_X 0, .inr (4, ([.ref (a_X 1), .ref (a_X 2), .int (I_X 0), .int (I_X 1)] : List Value).set 3 (.int v))) = kc_X cA a_X (va_up I_X 1 v) A_X := rfl
end
section
def wp_X_put (I_X : (Nat → Int32)) (A_X : (Nat → Nat → Int32)) (x1 : Int32) (Q : (Nat → Int32) → (Nat → Nat → Int32) → Prop) : Prop := (((4654 : Int32) ≤ (I_X 0)) → Q I_X A_X) ∧ ((¬ (4654 : Int32) ≤ (I_X 0)) → vp_in (I_X 0) 4654 ∧ (Q (va_up I_X 0 ((I_X 0) + (1 : Int32))) (va_up A_X 0 (upd (A_X 0) ((I_X 0)).toNatClampNeg x1))))
def wp_X_putNumber_b37 (Q : (Nat → Int32) → (Nat → Nat → Int32) → Prop) (I_X : (Nat → Int32)) (A_X : (Nat → Nat → Int32)) (v1 : Int32) (v2 : Int32) : Prop := wp_X_put I_X A_X ((48 : Int32) + (v1 - v1 / (10 : Int32) * (10 : Int32))) (fun I_X_2 A_X_3 => wp_X_put I_X_2 A_X_3 v2 (fun I_X_5 A_X_6 => Q I_X_5 A_X_6))
def wp_X_putNumber_b17 (Q : (Nat → Int32) → (Nat → Nat → Int32) → Prop) (I_X : (Nat → Int32)) (A_X : (Nat → Nat → Int32)) (v1 : Int32) (v2 : Int32) : Prop := ((v1 < (10 : Int32)) → wp_X_putNumber_b37 Q I_X A_X v1 v2) ∧ ((¬ v1 < (10 : Int32)) → wp_X_put I_X A_X ((48 : Int32) + ((v1 / (10 : Int32)) - (v1 / (10 : Int32)) / (10 : Int32) * (10 : Int32))) (fun I_X_8 A_X_9 => wp_X_putNumber_b37 Q I_X_8 A_X_9 v1 v2))
def wp_X_putNumber (I_X : (Nat → Int32)) (A_X : (Nat → Nat → Int32)) (x1 : Int32) (x2 : Int32) (Q : (Nat → Int32) → (Nat → Nat → Int32) → Prop) : Prop := ((x1 < (100 : Int32)) → wp_X_putNumber_b17 Q I_X A_X x1 x2) ∧ ((¬ x1 < (100 : Int32)) → wp_X_put I_X A_X ((48 : Int32) + (x1 / (100 : Int32))) (fun I_X_11 A_X_12 => wp_X_putNumber_b17 Q I_X_11 A_X_12 x1 x2))
def wp_X_putHeader (I_X : (Nat → Int32)) (A_X : (Nat → Nat → Int32)) (I_C : (Nat → Int32)) (x2 : Int32) (x3 : Int32) (Q : (Nat → Int32) → (Nat → Nat → Int32) → Prop) : Prop := wp_X_put I_X A_X (97 : Int32) (fun I_X_2 A_X_3 => wp_X_put I_X_2 A_X_3 x2 (fun I_X_5 A_X_6 => wp_X_put I_X_5 A_X_6 (103 : Int32) (fun I_X_8 A_X_9 => wp_X_put I_X_8 A_X_9 (32 : Int32) (fun I_X_11 A_X_12 => wp_X_putNumber I_X_11 A_X_12 x3 (32 : Int32) (fun I_X_14 A_X_15 => wp_X_putNumber I_X_14 A_X_15 (I_C 1) (32 : Int32) (fun I_X_17 A_X_18 => wp_X_putNumber I_X_17 A_X_18 (I_C 2) (32 : Int32) (fun I_X_20 A_X_21 => wp_X_putNumber I_X_20 A_X_21 (I_C 3) (32 : Int32) (fun I_X_23 A_X_24 => wp_X_putNumber I_X_23 A_X_24 (I_C 4) (10 : Int32) (fun I_X_26 A_X_27 => Q I_X_26 A_X_27)))))))))
def wp_X_putName_L2 (A_C : (Nat → Nat → Int32)) (Q : (Nat → Int32) → (Nat → Nat → Int32) → Prop) (X2 : (Nat → Int32) → (Nat → Nat → Int32) → Prop) : Nat → (Nat → Int32) → (Nat → Nat → Int32) → Int32 → Int32 → Prop
  | 0 => fun _ _ _ _ => False
  | n2 + 1 => fun I_X A_X v2 v3 => vp_in v2 24 ∧ (((((A_C 9) (v2).toNatClampNeg) ≤ v3) → X2 I_X A_X) ∧ ((¬ ((A_C 9) (v2).toNatClampNeg) ≤ v3) → vp_in ((v2 * (40 : Int32)) + v3) 960 ∧ (wp_X_put I_X A_X ((A_C 10) (((v2 * (40 : Int32)) + v3)).toNatClampNeg) (fun I_X_4 A_X_5 => (wp_X_putName_L2 A_C Q X2 n2) I_X_4 A_X_5 v2 (v3 + (1 : Int32))))))
def wp_X_putName (I_X : (Nat → Int32)) (A_X : (Nat → Nat → Int32)) (A_C : (Nat → Nat → Int32)) (x2 : Int32) (Q : (Nat → Int32) → (Nat → Nat → Int32) → Prop) : Prop := ∃ m2, wp_X_putName_L2 A_C Q (fun I_X_6 A_X_7 => wp_X_put I_X_6 A_X_7 (10 : Int32) (fun I_X_9 A_X_10 => Q I_X_9 A_X_10)) m2 I_X A_X x2 (0 : Int32)
def wp_X_putSymbols_L9 (I_C : (Nat → Int32)) (A_C : (Nat → Nat → Int32)) (Q : (Nat → Int32) → (Nat → Nat → Int32) → Prop) (K2 : (Nat → Int32) → (Nat → Nat → Int32) → Int32 → Prop) (X2 : (Nat → Int32) → (Nat → Nat → Int32) → Prop) (X9 : (Nat → Int32) → (Nat → Nat → Int32) → Int32 → Prop) : Nat → (Nat → Int32) → (Nat → Nat → Int32) → Int32 → Int32 → Prop
  | 0 => fun _ _ _ _ => False
  | n9 + 1 => fun I_X A_X v2 v3 => wp_C_countOf I_C v2 (fun r_1 => ((r_1 ≤ v3) → X9 I_X A_X v2) ∧ ((¬ r_1 ≤ v3) → wp_F_slotOf v2 v3 (fun r_3 => vp_in r_3 24 ∧ (((((A_C 9) (r_3).toNatClampNeg) ≤ 0) → (wp_X_putSymbols_L9 I_C A_C Q K2 X2 X9 n9) I_X A_X v2 (v3 + (1 : Int32))) ∧ ((¬ ((A_C 9) (r_3).toNatClampNeg) ≤ 0) → vp_in v2 3 ∧ (wp_X_put I_X A_X (kl v2) (fun I_X_8 A_X_9 => wp_X_putNumber I_X_8 A_X_9 v3 (32 : Int32) (fun I_X_11 A_X_12 => wp_F_slotOf v2 v3 (fun r_13 => wp_X_putName I_X_11 A_X_12 A_C r_13 (fun I_X_16 A_X_17 => (wp_X_putSymbols_L9 I_C A_C Q K2 X2 X9 n9) I_X_16 A_X_17 v2 (v3 + (1 : Int32))))))))))))
def wp_X_putSymbols_L2 (I_C : (Nat → Int32)) (A_C : (Nat → Nat → Int32)) (Q : (Nat → Int32) → (Nat → Nat → Int32) → Prop) (X2 : (Nat → Int32) → (Nat → Nat → Int32) → Prop) : Nat → (Nat → Int32) → (Nat → Nat → Int32) → Int32 → Prop
  | 0 => fun _ _ _ => False
  | n2 + 1 => fun I_X A_X v2 => (((3 : Int32) ≤ v2) → X2 I_X A_X) ∧ ((¬ (3 : Int32) ≤ v2) → ∃ m9, wp_X_putSymbols_L9 I_C A_C Q (wp_X_putSymbols_L2 I_C A_C Q X2 n2) X2 (fun I_X_18 A_X_19 v2_20 => (wp_X_putSymbols_L2 I_C A_C Q X2 n2) I_X_18 A_X_19 (v2_20 + (1 : Int32))) m9 I_X A_X v2 (0 : Int32))
def wp_X_putSymbols (I_X : (Nat → Int32)) (A_X : (Nat → Nat → Int32)) (I_C : (Nat → Int32)) (A_C : (Nat → Nat → Int32)) (Q : (Nat → Int32) → (Nat → Nat → Int32) → Prop) : Prop := ∃ m2, wp_X_putSymbols_L2 I_C A_C Q (fun I_X_21 A_X_22 => Q I_X_21 A_X_22) m2 I_X A_X (0 : Int32)
def wp_X_writeText_L26 (I_C : (Nat → Int32)) (A_C : (Nat → Nat → Int32)) (Q : (Nat → Int32) → (Nat → Nat → Int32) → Prop) (X26 : (Nat → Int32) → (Nat → Nat → Int32) → Prop) : Nat → (Nat → Int32) → (Nat → Nat → Int32) → Int32 → Prop
  | 0 => fun _ _ _ => False
  | n26 + 1 => fun I_X A_X v2 => (((I_C 1) ≤ v2) → X26 I_X A_X) ∧ ((¬ (I_C 1) ≤ v2) → vp_in v2 6 ∧ (wp_X_putNumber I_X A_X ((2 : Int32) * ((A_C 0) (v2).toNatClampNeg)) (10 : Int32) (fun I_X_6 A_X_7 => (wp_X_writeText_L26 I_C A_C Q X26 n26) I_X_6 A_X_7 (v2 + (1 : Int32)))))
def wp_X_writeText_L56 (I_C : (Nat → Int32)) (A_C : (Nat → Nat → Int32)) (Q : (Nat → Int32) → (Nat → Nat → Int32) → Prop) (X56 : (Nat → Int32) → (Nat → Nat → Int32) → Prop) : Nat → (Nat → Int32) → (Nat → Nat → Int32) → Int32 → Prop
  | 0 => fun _ _ _ => False
  | n56 + 1 => fun I_X A_X v2 => (((I_C 2) ≤ v2) → X56 I_X A_X) ∧ ((¬ (I_C 2) ≤ v2) → vp_in v2 7 ∧ (wp_X_putNumber I_X A_X ((2 : Int32) * ((A_C 1) (v2).toNatClampNeg)) (32 : Int32) (fun I_X_12 A_X_13 => wp_X_putNumber I_X_12 A_X_13 ((A_C 2) (v2).toNatClampNeg) (10 : Int32) (fun I_X_15 A_X_16 => (wp_X_writeText_L56 I_C A_C Q X56 n56) I_X_15 A_X_16 (v2 + (1 : Int32))))))
def wp_X_writeText_L98 (I_C : (Nat → Int32)) (A_C : (Nat → Nat → Int32)) (Q : (Nat → Int32) → (Nat → Nat → Int32) → Prop) (X98 : (Nat → Int32) → (Nat → Nat → Int32) → Prop) : Nat → (Nat → Int32) → (Nat → Nat → Int32) → Int32 → Prop
  | 0 => fun _ _ _ => False
  | n98 + 1 => fun I_X A_X v2 => (((I_C 3) ≤ v2) → X98 I_X A_X) ∧ ((¬ (I_C 3) ≤ v2) → vp_in v2 8 ∧ (wp_X_putNumber I_X A_X ((A_C 3) (v2).toNatClampNeg) (10 : Int32) (fun I_X_21 A_X_22 => (wp_X_writeText_L98 I_C A_C Q X98 n98) I_X_21 A_X_22 (v2 + (1 : Int32)))))
def wp_X_writeText_L126 (I_C : (Nat → Int32)) (A_C : (Nat → Nat → Int32)) (Q : (Nat → Int32) → (Nat → Nat → Int32) → Prop) (X126 : (Nat → Int32) → (Nat → Nat → Int32) → Prop) : Nat → (Nat → Int32) → (Nat → Nat → Int32) → Int32 → Prop
  | 0 => fun _ _ _ => False
  | n126 + 1 => fun I_X A_X v2 => (((I_C 4) ≤ v2) → X126 I_X A_X) ∧ ((¬ (I_C 4) ≤ v2) → vp_in v2 300 ∧ (wp_X_putNumber I_X A_X ((2 : Int32) * ((A_C 4) (v2).toNatClampNeg)) (32 : Int32) (fun I_X_27 A_X_28 => wp_X_putNumber I_X_27 A_X_28 ((A_C 5) (v2).toNatClampNeg) (32 : Int32) (fun I_X_30 A_X_31 => wp_X_putNumber I_X_30 A_X_31 ((A_C 6) (v2).toNatClampNeg) (10 : Int32) (fun I_X_33 A_X_34 => (wp_X_writeText_L126 I_C A_C Q X126 n126) I_X_33 A_X_34 (v2 + (1 : Int32)))))))
def wp_X_writeText (I_X : (Nat → Int32)) (A_X : (Nat → Nat → Int32)) (I_C : (Nat → Int32)) (A_C : (Nat → Nat → Int32)) (Q : (Nat → Int32) → (Nat → Nat → Int32) → Prop) : Prop := (((I_X 1) = 0) → wp_X_putHeader (va_up I_X 1 (1 : Int32)) A_X I_C (97 : Int32) (I_C 0) (fun I_X_2 A_X_3 => ∃ m26, wp_X_writeText_L26 I_C A_C Q (fun I_X_8 A_X_9 => ∃ m56, wp_X_writeText_L56 I_C A_C Q (fun I_X_17 A_X_18 => ∃ m98, wp_X_writeText_L98 I_C A_C Q (fun I_X_23 A_X_24 => ∃ m126, wp_X_writeText_L126 I_C A_C Q (fun I_X_35 A_X_36 => wp_X_putSymbols I_X_35 A_X_36 I_C A_C (fun I_X_38 A_X_39 => Q I_X_38 A_X_39)) m126 I_X_23 A_X_24 (0 : Int32)) m98 I_X_17 A_X_18 (0 : Int32)) m56 I_X_8 A_X_9 (0 : Int32)) m26 I_X_2 A_X_3 (0 : Int32))) ∧ ((¬ (I_X 1) = 0) → Q I_X A_X)
def wp_X_byteOf (I_X : (Nat → Int32)) (A_X : (Nat → Nat → Int32)) (x1 : Int32) (Q : Int32 → Prop) : Prop := ((x1 < 0) → Q (-1 : Int32)) ∧ ((¬ x1 < 0) → ((x1 < (I_X 0)) → vp_in x1 4654 ∧ (Q ((A_X 0) (x1).toNatClampNeg))) ∧ ((¬ x1 < (I_X 0)) → Q (-1 : Int32)))
def wp_X_numberAnew_L4 (I_C : (Nat → Int32)) (A_C : (Nat → Nat → Int32)) (Q : (Nat → Nat → Int32) → Prop) (X4 : (Nat → Nat → Int32) → Int32 → Prop) : Nat → (Nat → Nat → Int32) → Int32 → Int32 → Prop
  | 0 => fun _ _ _ => False
  | n4 + 1 => fun A_X v2 v3 => (((I_C 1) ≤ v3) → X4 A_X v2) ∧ ((¬ (I_C 1) ≤ v3) → vp_in v3 6 ∧ (vp_in ((A_C 0) (v3).toNatClampNeg) 401 ∧ ((wp_X_numberAnew_L4 I_C A_C Q X4 n4) (va_up A_X 1 (upd (A_X 1) (((A_C 0) (v3).toNatClampNeg)).toNatClampNeg (v2 + (1 : Int32)))) (v2 + (1 : Int32)) (v3 + (1 : Int32)))))
def wp_X_numberAnew_L35 (I_C : (Nat → Int32)) (A_C : (Nat → Nat → Int32)) (Q : (Nat → Nat → Int32) → Prop) (X35 : (Nat → Nat → Int32) → Int32 → Prop) : Nat → (Nat → Nat → Int32) → Int32 → Int32 → Prop
  | 0 => fun _ _ _ => False
  | n35 + 1 => fun A_X v2 v3 => (((I_C 2) ≤ v3) → X35 A_X v2) ∧ ((¬ (I_C 2) ≤ v3) → vp_in v3 7 ∧ (vp_in ((A_C 1) (v3).toNatClampNeg) 401 ∧ ((wp_X_numberAnew_L35 I_C A_C Q X35 n35) (va_up A_X 1 (upd (A_X 1) (((A_C 1) (v3).toNatClampNeg)).toNatClampNeg (v2 + (1 : Int32)))) (v2 + (1 : Int32)) (v3 + (1 : Int32)))))
def wp_X_numberAnew_L66 (I_C : (Nat → Int32)) (A_C : (Nat → Nat → Int32)) (Q : (Nat → Nat → Int32) → Prop) (X66 : (Nat → Nat → Int32) → Prop) : Nat → (Nat → Nat → Int32) → Int32 → Int32 → Prop
  | 0 => fun _ _ _ => False
  | n66 + 1 => fun A_X v2 v3 => (((I_C 4) ≤ v3) → X66 A_X) ∧ ((¬ (I_C 4) ≤ v3) → vp_in v3 300 ∧ (vp_in ((A_C 7) (v3).toNatClampNeg) 300 ∧ (vp_in ((A_C 4) (((A_C 7) (v3).toNatClampNeg)).toNatClampNeg) 401 ∧ ((wp_X_numberAnew_L66 I_C A_C Q X66 n66) (va_up A_X 1 (upd (A_X 1) (((A_C 4) (((A_C 7) (v3).toNatClampNeg)).toNatClampNeg)).toNatClampNeg (v2 + (1 : Int32)))) (v2 + (1 : Int32)) (v3 + (1 : Int32))))))
def wp_X_numberAnew (A_X : (Nat → Nat → Int32)) (I_C : (Nat → Int32)) (A_C : (Nat → Nat → Int32)) (Q : (Nat → Nat → Int32) → Prop) : Prop := ∃ m4, wp_X_numberAnew_L4 I_C A_C Q (fun A_X_3 v2_4 => ∃ m35, wp_X_numberAnew_L35 I_C A_C Q (fun A_X_7 v2_8 => ∃ m66, wp_X_numberAnew_L66 I_C A_C Q (fun A_X_12 => Q A_X_12) m66 A_X_7 v2_8 (0 : Int32)) m35 A_X_3 v2_4 (0 : Int32)) m4 A_X (0 : Int32) (0 : Int32)
def wp_X_newLiteral (A_X : (Nat → Nat → Int32)) (x1 : Int32) (Q : Int32 → Prop) : Prop := vp_in (x1 >>> ((1 : Int32) &&& 31)) 401 ∧ (Q (((2 : Int32) * ((A_X 1) ((x1 >>> ((1 : Int32) &&& 31))).toNatClampNeg)) + (x1 &&& (1 : Int32))))
def wp_X_putDelta (I_X : (Nat → Int32)) (A_X : (Nat → Nat → Int32)) (x1 : Int32) (Q : (Nat → Int32) → (Nat → Nat → Int32) → Prop) : Prop := ((x1 < (128 : Int32)) → wp_X_put I_X A_X x1 (fun I_X_2 A_X_3 => Q I_X_2 A_X_3)) ∧ ((¬ x1 < (128 : Int32)) → wp_X_put I_X A_X ((128 : Int32) + (x1 &&& (127 : Int32))) (fun I_X_5 A_X_6 => wp_X_put I_X_5 A_X_6 (x1 >>> ((7 : Int32) &&& 31)) (fun I_X_8 A_X_9 => Q I_X_8 A_X_9)))
def wp_X_putBinaryAnd (I_X : (Nat → Int32)) (A_X : (Nat → Nat → Int32)) (A_C : (Nat → Nat → Int32)) (x2 : Int32) (Q : (Nat → Int32) → (Nat → Nat → Int32) → Prop) : Prop := vp_in x2 300 ∧ (wp_X_newLiteral A_X ((A_C 5) (x2).toNatClampNeg) (fun r_2 => wp_X_newLiteral A_X ((A_C 6) (x2).toNatClampNeg) (fun r_4 => vp_in ((A_C 4) (x2).toNatClampNeg) 401 ∧ (wp_X_putDelta I_X A_X (((2 : Int32) * ((A_X 1) (((A_C 4) (x2).toNatClampNeg)).toNatClampNeg)) - (if r_2 < r_4 then r_4 else r_2)) (fun I_X_8 A_X_9 => wp_X_putDelta I_X_8 A_X_9 ((if r_2 < r_4 then r_4 else r_2) - (if r_4 < r_2 then r_4 else r_2)) (fun I_X_11 A_X_12 => Q I_X_11 A_X_12))))))
def wp_X_writeBinary_L41 (I_C : (Nat → Int32)) (A_C : (Nat → Nat → Int32)) (Q : (Nat → Int32) → (Nat → Nat → Int32) → Prop) (X41 : (Nat → Int32) → (Nat → Nat → Int32) → Prop) : Nat → (Nat → Int32) → (Nat → Nat → Int32) → Int32 → Prop
  | 0 => fun _ _ _ => False
  | n41 + 1 => fun I_X A_X v2 => (((I_C 2) ≤ v2) → X41 I_X A_X) ∧ ((¬ (I_C 2) ≤ v2) → vp_in v2 7 ∧ (wp_X_newLiteral A_X ((A_C 2) (v2).toNatClampNeg) (fun r_7 => wp_X_putNumber I_X A_X r_7 (10 : Int32) (fun I_X_10 A_X_11 => (wp_X_writeBinary_L41 I_C A_C Q X41 n41) I_X_10 A_X_11 (v2 + (1 : Int32))))))
def wp_X_writeBinary_L73 (I_C : (Nat → Int32)) (A_C : (Nat → Nat → Int32)) (Q : (Nat → Int32) → (Nat → Nat → Int32) → Prop) (X73 : (Nat → Int32) → (Nat → Nat → Int32) → Prop) : Nat → (Nat → Int32) → (Nat → Nat → Int32) → Int32 → Prop
  | 0 => fun _ _ _ => False
  | n73 + 1 => fun I_X A_X v2 => (((I_C 3) ≤ v2) → X73 I_X A_X) ∧ ((¬ (I_C 3) ≤ v2) → vp_in v2 8 ∧ (wp_X_newLiteral A_X ((A_C 3) (v2).toNatClampNeg) (fun r_15 => wp_X_putNumber I_X A_X r_15 (10 : Int32) (fun I_X_18 A_X_19 => (wp_X_writeBinary_L73 I_C A_C Q X73 n73) I_X_18 A_X_19 (v2 + (1 : Int32))))))
def wp_X_writeBinary_L105 (I_C : (Nat → Int32)) (A_C : (Nat → Nat → Int32)) (Q : (Nat → Int32) → (Nat → Nat → Int32) → Prop) (X105 : (Nat → Int32) → (Nat → Nat → Int32) → Prop) : Nat → (Nat → Int32) → (Nat → Nat → Int32) → Int32 → Prop
  | 0 => fun _ _ _ => False
  | n105 + 1 => fun I_X A_X v2 => (((I_C 4) ≤ v2) → X105 I_X A_X) ∧ ((¬ (I_C 4) ≤ v2) → vp_in v2 300 ∧ (wp_X_putBinaryAnd I_X A_X A_C ((A_C 7) (v2).toNatClampNeg) (fun I_X_24 A_X_25 => (wp_X_writeBinary_L105 I_C A_C Q X105 n105) I_X_24 A_X_25 (v2 + (1 : Int32)))))
def wp_X_writeBinary (I_X : (Nat → Int32)) (A_X : (Nat → Nat → Int32)) (I_C : (Nat → Int32)) (A_C : (Nat → Nat → Int32)) (Q : (Nat → Int32) → (Nat → Nat → Int32) → Prop) : Prop := (((I_X 1) = 0) → wp_X_numberAnew A_X I_C A_C (fun A_X_2 => wp_X_putHeader (va_up I_X 1 (1 : Int32)) A_X_2 I_C (105 : Int32) (((I_C 1) + (I_C 2)) + (I_C 4)) (fun I_X_4 A_X_5 => ∃ m41, wp_X_writeBinary_L41 I_C A_C Q (fun I_X_12 A_X_13 => ∃ m73, wp_X_writeBinary_L73 I_C A_C Q (fun I_X_20 A_X_21 => ∃ m105, wp_X_writeBinary_L105 I_C A_C Q (fun I_X_26 A_X_27 => wp_X_putSymbols I_X_26 A_X_27 I_C A_C (fun I_X_29 A_X_30 => Q I_X_29 A_X_30)) m105 I_X_20 A_X_21 (0 : Int32)) m73 I_X_12 A_X_13 (0 : Int32)) m41 I_X_4 A_X_5 (0 : Int32)))) ∧ ((¬ (I_X 1) = 0) → Q I_X A_X)
def wp_X_forget (I_X : (Nat → Int32)) (Q : (Nat → Int32) → Prop) : Prop := Q (va_up (va_up I_X 0 (0 : Int32)) 1 (0 : Int32))
end
section
set_option maxHeartbeats 4000000 in
set_option maxRecDepth 100000 in
theorem c_X_put (l : Launch) (D : va_G) (cA : Nat → ClassId) (sx : Nat → Nat) (a_X : Nat → Nat) (I_X : (Nat → Int32)) (A_X : (Nat → Nat → Int32)) (x1 : Int32) (Q : (Nat → Int32) → (Nat → Nat → Int32) → Prop) (hw : wp_X_put I_X A_X x1 Q) : MetV l y_X_put (Cond.code y_X_put b_X_put 2 none :: TB) ({ frames := 0, cells := 0, slots := 0, locals := 0 } : Room) D vwCl (tyl cA) (SPl sx) [.ref (a_X 0), .int x1] (kc_X cA a_X I_X A_X) (fun (u : (Nat → Int32) × (Nat → Nat → Int32)) => Q u.1 u.2) (fun u : (Nat → Int32) × (Nat → Nat → Int32) => kc_X cA a_X u.1 u.2) := by
  refine vv_entryV (cc := b_X_put) (own := R_X) (L := [(0, .ref (a_X 0)), (1, .int x1)]) (by decide) rfl rfl (Nat.le_of_ble_eq_true rfl) rfl (fun p e s m args below meth c A hC => ?_)
  unfold wp_X_put at hw
  refine vv_aload_n hC d_X_put_0 0 rfl rfl ?_
  refine vv_get hC (v := .int (I_X 0)) hin_X 0 2 tb_131 d_X_put_1 rfl rfl (by decide) rfl rfl ?_
  refine vv_sipush hC d_X_put_4 (v := (4654 : Int32)) (by decide) ?_
  refine vv_icmp_ge hC 30 d_X_put_7 (by decide) (fun cd => ?_) (fun cd => ?_)
  · have hw := hw.1 cd
    exact vv_vret hC d_X_put_30 (I_X, A_X) hw rfl
  · have hw := hw.2 cd
    refine vv_aload_n hC d_X_put_10 0 rfl rfl ?_
    refine vv_get hC (v := .ref (a_X 1)) hin_X 0 0 tb_129 d_X_put_11 rfl rfl (by decide) rfl rfl ?_
    refine vv_aload_n hC d_X_put_14 0 rfl rfl ?_
    refine vv_get hC (v := .int (I_X 0)) hin_X 0 2 tb_131 d_X_put_15 rfl rfl (by decide) rfl rfl ?_
    refine vv_iload_n hC d_X_put_18 1 rfl rfl ?_
    obtain ⟨hin_1, hw⟩ := hw
    refine vv_iast hC 1 0 d_X_put_19 rfl rfl hin_1 (ws2 := kc_X cA a_X I_X (va_up A_X 0 (upd (A_X 0) ((I_X 0)).toNatClampNeg x1))) (st_X_XA0 ..) ?_
    refine vv_aload_n hC d_X_put_20 0 rfl rfl ?_
    refine vv_dup hC d_X_put_21 rfl ?_
    refine vv_get hC (v := .int (I_X 0)) hin_X 0 2 tb_131 d_X_put_22 rfl rfl (by decide) rfl rfl ?_
    refine vv_iconst hC d_X_put_25 (v := (1 : Int32)) (by decide) ?_
    refine vv_iadd hC d_X_put_26 ?_
    refine vv_put hC hin_X ty_X tyok_X nmok_X 0 2 tb_131 d_X_put_27 rfl rfl (by decide) rfl rfl rfl rfl rfl (Nat.le_of_ble_eq_true rfl) (ws2 := kc_X cA a_X (va_up I_X 0 ((I_X 0) + (1 : Int32))) (va_up A_X 0 (upd (A_X 0) ((I_X 0)).toNatClampNeg x1))) (st_X_XI0 ..) ?_
    exact vv_vret hC d_X_put_30 ((va_up I_X 0 ((I_X 0) + (1 : Int32))), (va_up A_X 0 (upd (A_X 0) ((I_X 0)).toNatClampNeg x1))) hw rfl
set_option maxHeartbeats 4000000 in
set_option maxRecDepth 100000 in
theorem l_X_putNumber_b37 {p : Program} {l : Launch} {e : Env} {s : State} {m : MethodId} {args : Array Value} {below : List Frame} {meth : Method} {c : Code} {D : va_G} {cA : Nat → ClassId} {sx : Nat → Nat} {A : Nat → Prop} (a_X : Nat → Nat) (Q : (Nat → Int32) → (Nat → Nat → Int32) → Prop) (hC : CX p s m args meth c b_X_putNumber R_X TB 3 D vwCl (tyl cA) A (SPl sx) none) : ∀ (I_X : (Nat → Int32)) (A_X : (Nat → Nat → Int32)) (v1 : Int32) (v2 : Int32), wp_X_putNumber_b37 Q I_X A_X v1 v2 → VV p l e ({ frames := 1, cells := 0, slots := 0, locals := 21 } : Room) s m args below meth c 3 D vwCl A 0 0 (QV below args s D vwCl (tyl cA) A (fun (u : (Nat → Int32) × (Nat → Nat → Int32)) => Q u.1 u.2) (fun u : (Nat → Int32) × (Nat → Nat → Int32) => kc_X cA a_X u.1 u.2)) (kc_X cA a_X I_X A_X) 37 [(0, .ref (a_X 0)), (1, .int v1), (2, .int v2)] [] := by
  intro I_X A_X v1 v2 hw
  unfold wp_X_putNumber_b37 at hw
  refine vv_aload_n hC d_X_putNumber_37 0 rfl rfl ?_
  refine vv_bipush hC d_X_putNumber_38 (v := (48 : Int32)) (by decide) ?_
  refine vv_iload_n hC d_X_putNumber_40 1 rfl rfl ?_
  refine vv_bipush hC d_X_putNumber_41 (v := (10 : Int32)) (by decide) ?_
  refine vv_irem hC d_X_putNumber_43 (by decide) ?_
  refine vv_iadd hC d_X_putNumber_44 ?_
  refine vv_callVV (wr := []) hC (c_X_put l D cA sx a_X I_X A_X ((48 : Int32) + (v1 - v1 / (10 : Int32) * (10 : Int32))) _ hw) (cw_X_90 hC) d_X_putNumber_45 [] [0, 1, 2] [] [0, 1, 2] (fun u_1 : (Nat → Int32) × (Nat → Nat → Int32) => kc_X cA a_X u_1.1 u_1.2) ⟨Nat.zero_le _, Nat.zero_le _⟩ rfl rfl (fun _ => rfl) rfl rfl rfl rfl rfl rfl rfl rfl (Nat.le_of_ble_eq_true rfl) (fun u_1 hw => ?_)
  refine vv_aload_n hC d_X_putNumber_48 0 rfl rfl ?_
  refine vv_iload_n hC d_X_putNumber_49 2 rfl rfl ?_
  refine vv_callVV (wr := []) hC (c_X_put l D cA sx a_X u_1.1 u_1.2 v2 _ hw) (cw_X_90 hC) d_X_putNumber_50 [] [0, 1, 2] [] [0, 1, 2] (fun u_4 : (Nat → Int32) × (Nat → Nat → Int32) => kc_X cA a_X u_4.1 u_4.2) ⟨Nat.zero_le _, Nat.zero_le _⟩ rfl rfl (fun _ => rfl) rfl rfl rfl rfl rfl rfl rfl rfl (Nat.le_of_ble_eq_true rfl) (fun u_4 hw => ?_)
  exact vv_vret hC d_X_putNumber_53 (u_4.1, u_4.2) hw rfl
set_option maxHeartbeats 4000000 in
set_option maxRecDepth 100000 in
theorem l_X_putNumber_b17 {p : Program} {l : Launch} {e : Env} {s : State} {m : MethodId} {args : Array Value} {below : List Frame} {meth : Method} {c : Code} {D : va_G} {cA : Nat → ClassId} {sx : Nat → Nat} {A : Nat → Prop} (a_X : Nat → Nat) (Q : (Nat → Int32) → (Nat → Nat → Int32) → Prop) (hC : CX p s m args meth c b_X_putNumber R_X TB 3 D vwCl (tyl cA) A (SPl sx) none) : ∀ (I_X : (Nat → Int32)) (A_X : (Nat → Nat → Int32)) (v1 : Int32) (v2 : Int32), wp_X_putNumber_b17 Q I_X A_X v1 v2 → VV p l e ({ frames := 1, cells := 0, slots := 0, locals := 21 } : Room) s m args below meth c 3 D vwCl A 0 0 (QV below args s D vwCl (tyl cA) A (fun (u : (Nat → Int32) × (Nat → Nat → Int32)) => Q u.1 u.2) (fun u : (Nat → Int32) × (Nat → Nat → Int32) => kc_X cA a_X u.1 u.2)) (kc_X cA a_X I_X A_X) 17 [(0, .ref (a_X 0)), (1, .int v1), (2, .int v2)] [] := by
  intro I_X A_X v1 v2 hw
  unfold wp_X_putNumber_b17 at hw
  refine vv_iload_n hC d_X_putNumber_17 1 rfl rfl ?_
  refine vv_bipush hC d_X_putNumber_18 (v := (10 : Int32)) (by decide) ?_
  refine vv_icmp_lt hC 37 d_X_putNumber_20 (by decide) (fun cd => ?_) (fun cd => ?_)
  · have hw := hw.1 cd
    exact vv_sub [0, 1, 2] (by rfl) (l_X_putNumber_b37 a_X Q hC I_X A_X v1 v2 hw)
  · have hw := hw.2 cd
    refine vv_aload_n hC d_X_putNumber_23 0 rfl rfl ?_
    refine vv_bipush hC d_X_putNumber_24 (v := (48 : Int32)) (by decide) ?_
    refine vv_iload_n hC d_X_putNumber_26 1 rfl rfl ?_
    refine vv_bipush hC d_X_putNumber_27 (v := (10 : Int32)) (by decide) ?_
    refine vv_idiv hC d_X_putNumber_29 (by decide) ?_
    refine vv_bipush hC d_X_putNumber_30 (v := (10 : Int32)) (by decide) ?_
    refine vv_irem hC d_X_putNumber_32 (by decide) ?_
    refine vv_iadd hC d_X_putNumber_33 ?_
    refine vv_callVV (wr := []) hC (c_X_put l D cA sx a_X I_X A_X ((48 : Int32) + ((v1 / (10 : Int32)) - (v1 / (10 : Int32)) / (10 : Int32) * (10 : Int32))) _ hw) (cw_X_90 hC) d_X_putNumber_34 [] [0, 1, 2] [] [0, 1, 2] (fun u_7 : (Nat → Int32) × (Nat → Nat → Int32) => kc_X cA a_X u_7.1 u_7.2) ⟨Nat.zero_le _, Nat.zero_le _⟩ rfl rfl (fun _ => rfl) rfl rfl rfl rfl rfl rfl rfl rfl (Nat.le_of_ble_eq_true rfl) (fun u_7 hw => ?_)
    exact vv_sub [0, 1, 2] (by rfl) (l_X_putNumber_b37 a_X Q hC u_7.1 u_7.2 v1 v2 hw)
set_option maxHeartbeats 4000000 in
set_option maxRecDepth 100000 in
theorem c_X_putNumber (l : Launch) (D : va_G) (cA : Nat → ClassId) (sx : Nat → Nat) (a_X : Nat → Nat) (I_X : (Nat → Int32)) (A_X : (Nat → Nat → Int32)) (x1 x2 : Int32) (Q : (Nat → Int32) → (Nat → Nat → Int32) → Prop) (hw : wp_X_putNumber I_X A_X x1 x2 Q) : MetV l y_X_putNumber (Cond.code y_X_putNumber b_X_putNumber 3 none :: TB) ({ frames := 1, cells := 0, slots := 0, locals := 21 } : Room) D vwCl (tyl cA) (SPl sx) [.ref (a_X 0), .int x1, .int x2] (kc_X cA a_X I_X A_X) (fun (u : (Nat → Int32) × (Nat → Nat → Int32)) => Q u.1 u.2) (fun u : (Nat → Int32) × (Nat → Nat → Int32) => kc_X cA a_X u.1 u.2) := by
  refine vv_entryV (cc := b_X_putNumber) (own := R_X) (L := [(0, .ref (a_X 0)), (1, .int x1), (2, .int x2)]) (by decide) rfl rfl (Nat.le_of_ble_eq_true rfl) rfl (fun p e s m args below meth c A hC => ?_)
  unfold wp_X_putNumber at hw
  refine vv_iload_n hC d_X_putNumber_0 1 rfl rfl ?_
  refine vv_bipush hC d_X_putNumber_1 (v := (100 : Int32)) (by decide) ?_
  refine vv_icmp_lt hC 17 d_X_putNumber_3 (by decide) (fun cd => ?_) (fun cd => ?_)
  · have hw := hw.1 cd
    exact vv_sub [0, 1, 2] (by rfl) (l_X_putNumber_b17 a_X Q hC I_X A_X x1 x2 hw)
  · have hw := hw.2 cd
    refine vv_aload_n hC d_X_putNumber_6 0 rfl rfl ?_
    refine vv_bipush hC d_X_putNumber_7 (v := (48 : Int32)) (by decide) ?_
    refine vv_iload_n hC d_X_putNumber_9 1 rfl rfl ?_
    refine vv_bipush hC d_X_putNumber_10 (v := (100 : Int32)) (by decide) ?_
    refine vv_idiv hC d_X_putNumber_12 (by decide) ?_
    refine vv_iadd hC d_X_putNumber_13 ?_
    refine vv_callVV (wr := []) hC (c_X_put l D cA sx a_X I_X A_X ((48 : Int32) + (x1 / (100 : Int32))) _ hw) (cw_X_90 hC) d_X_putNumber_14 [] [0, 1, 2] [] [0, 1, 2] (fun u_10 : (Nat → Int32) × (Nat → Nat → Int32) => kc_X cA a_X u_10.1 u_10.2) ⟨Nat.zero_le _, Nat.zero_le _⟩ rfl rfl (fun _ => rfl) rfl rfl rfl rfl rfl rfl rfl rfl (Nat.le_of_ble_eq_true rfl) (fun u_10 hw => ?_)
    exact vv_sub [0, 1, 2] (by rfl) (l_X_putNumber_b17 a_X Q hC u_10.1 u_10.2 x1 x2 hw)
set_option maxHeartbeats 4000000 in
set_option maxRecDepth 100000 in
theorem c_X_putHeader (l : Launch) (D : va_G) (cA : Nat → ClassId) (sx : Nat → Nat) (a_X a_C : Nat → Nat) (I_X : (Nat → Int32)) (A_X : (Nat → Nat → Int32)) (I_C : (Nat → Int32)) (A_C : (Nat → Nat → Int32)) (x2 x3 : Int32) (Q : (Nat → Int32) → (Nat → Nat → Int32) → Prop) (hw : wp_X_putHeader I_X A_X I_C x2 x3 Q) : MetV l y_X_putHeader (Cond.code y_X_putHeader b_X_putHeader 4 none :: TB) ({ frames := 2, cells := 0, slots := 0, locals := 43 } : Room) D vwCl (tyl cA) (SPl sx) [.ref (a_X 0), .ref (a_C 0), .int x2, .int x3] (kc_X cA a_X I_X A_X ++ kc_C cA a_C I_C A_C) (fun (u : (Nat → Int32) × (Nat → Nat → Int32)) => Q u.1 u.2) (fun u : (Nat → Int32) × (Nat → Nat → Int32) => kc_X cA a_X u.1 u.2 ++ kc_C cA a_C I_C A_C) := by
  refine vv_entryV (cc := b_X_putHeader) (own := R_X) (L := [(0, .ref (a_X 0)), (1, .ref (a_C 0)), (2, .int x2), (3, .int x3)]) (by decide) rfl rfl (Nat.le_of_ble_eq_true rfl) rfl (fun p e s m args below meth c A hC => ?_)
  unfold wp_X_putHeader at hw
  refine vv_aload_n hC d_X_putHeader_0 0 rfl rfl ?_
  refine vv_bipush hC d_X_putHeader_1 (v := (97 : Int32)) (by decide) ?_
  refine vv_callVV (wr := kc_C cA a_C I_C A_C) hC (c_X_put l D cA sx a_X I_X A_X (97 : Int32) _ hw) (cw_X_90 hC) d_X_putHeader_3 [] [0, 1, 2] [3, 4, 5, 6, 7, 8, 9, 10, 11, 12, 13, 14, 15] [13, 14, 15, 0, 1, 2, 3, 4, 5, 6, 7, 8, 9, 10, 11, 12] (fun u_1 : (Nat → Int32) × (Nat → Nat → Int32) => kc_X cA a_X u_1.1 u_1.2 ++ kc_C cA a_C I_C A_C) ⟨Nat.zero_le _, Nat.zero_le _⟩ rfl rfl (fun _ => rfl) rfl rfl rfl rfl rfl rfl rfl rfl (Nat.le_of_ble_eq_true rfl) (fun u_1 hw => ?_)
  refine vv_aload_n hC d_X_putHeader_6 0 rfl rfl ?_
  refine vv_iload_n hC d_X_putHeader_7 2 rfl rfl ?_
  refine vv_callVV (wr := kc_C cA a_C I_C A_C) hC (c_X_put l D cA sx a_X u_1.1 u_1.2 x2 _ hw) (cw_X_90 hC) d_X_putHeader_8 [] [0, 1, 2] [3, 4, 5, 6, 7, 8, 9, 10, 11, 12, 13, 14, 15] [13, 14, 15, 0, 1, 2, 3, 4, 5, 6, 7, 8, 9, 10, 11, 12] (fun u_4 : (Nat → Int32) × (Nat → Nat → Int32) => kc_X cA a_X u_4.1 u_4.2 ++ kc_C cA a_C I_C A_C) ⟨Nat.zero_le _, Nat.zero_le _⟩ rfl rfl (fun _ => rfl) rfl rfl rfl rfl rfl rfl rfl rfl (Nat.le_of_ble_eq_true rfl) (fun u_4 hw => ?_)
  refine vv_aload_n hC d_X_putHeader_11 0 rfl rfl ?_
  refine vv_bipush hC d_X_putHeader_12 (v := (103 : Int32)) (by decide) ?_
  refine vv_callVV (wr := kc_C cA a_C I_C A_C) hC (c_X_put l D cA sx a_X u_4.1 u_4.2 (103 : Int32) _ hw) (cw_X_90 hC) d_X_putHeader_14 [] [0, 1, 2] [3, 4, 5, 6, 7, 8, 9, 10, 11, 12, 13, 14, 15] [13, 14, 15, 0, 1, 2, 3, 4, 5, 6, 7, 8, 9, 10, 11, 12] (fun u_7 : (Nat → Int32) × (Nat → Nat → Int32) => kc_X cA a_X u_7.1 u_7.2 ++ kc_C cA a_C I_C A_C) ⟨Nat.zero_le _, Nat.zero_le _⟩ rfl rfl (fun _ => rfl) rfl rfl rfl rfl rfl rfl rfl rfl (Nat.le_of_ble_eq_true rfl) (fun u_7 hw => ?_)
  refine vv_aload_n hC d_X_putHeader_17 0 rfl rfl ?_
  refine vv_bipush hC d_X_putHeader_18 (v := (32 : Int32)) (by decide) ?_
  refine vv_callVV (wr := kc_C cA a_C I_C A_C) hC (c_X_put l D cA sx a_X u_7.1 u_7.2 (32 : Int32) _ hw) (cw_X_90 hC) d_X_putHeader_20 [] [0, 1, 2] [3, 4, 5, 6, 7, 8, 9, 10, 11, 12, 13, 14, 15] [13, 14, 15, 0, 1, 2, 3, 4, 5, 6, 7, 8, 9, 10, 11, 12] (fun u_10 : (Nat → Int32) × (Nat → Nat → Int32) => kc_X cA a_X u_10.1 u_10.2 ++ kc_C cA a_C I_C A_C) ⟨Nat.zero_le _, Nat.zero_le _⟩ rfl rfl (fun _ => rfl) rfl rfl rfl rfl rfl rfl rfl rfl (Nat.le_of_ble_eq_true rfl) (fun u_10 hw => ?_)
  refine vv_aload_n hC d_X_putHeader_23 0 rfl rfl ?_
  refine vv_iload_n hC d_X_putHeader_24 3 rfl rfl ?_
  refine vv_bipush hC d_X_putHeader_25 (v := (32 : Int32)) (by decide) ?_
  refine vv_callVV (wr := kc_C cA a_C I_C A_C) hC (c_X_putNumber l D cA sx a_X u_10.1 u_10.2 x3 (32 : Int32) _ hw) (cw_X_41 hC) d_X_putHeader_27 [] [0, 1, 2] [3, 4, 5, 6, 7, 8, 9, 10, 11, 12, 13, 14, 15] [13, 14, 15, 0, 1, 2, 3, 4, 5, 6, 7, 8, 9, 10, 11, 12] (fun u_13 : (Nat → Int32) × (Nat → Nat → Int32) => kc_X cA a_X u_13.1 u_13.2 ++ kc_C cA a_C I_C A_C) ⟨Nat.zero_le _, Nat.zero_le _⟩ rfl rfl (fun _ => rfl) rfl rfl rfl rfl rfl rfl rfl rfl (Nat.le_of_ble_eq_true rfl) (fun u_13 hw => ?_)
  refine vv_aload_n hC d_X_putHeader_30 0 rfl rfl ?_
  refine vv_aload_n hC d_X_putHeader_31 1 rfl rfl ?_
  refine vv_get hC (v := .int (I_C 1)) hin_C 3 1 tb_154 d_X_putHeader_32 rfl rfl (by decide) rfl rfl ?_
  refine vv_bipush hC d_X_putHeader_35 (v := (32 : Int32)) (by decide) ?_
  refine vv_callVV (wr := kc_C cA a_C I_C A_C) hC (c_X_putNumber l D cA sx a_X u_13.1 u_13.2 (I_C 1) (32 : Int32) _ hw) (cw_X_41 hC) d_X_putHeader_37 [] [0, 1, 2] [3, 4, 5, 6, 7, 8, 9, 10, 11, 12, 13, 14, 15] [13, 14, 15, 0, 1, 2, 3, 4, 5, 6, 7, 8, 9, 10, 11, 12] (fun u_16 : (Nat → Int32) × (Nat → Nat → Int32) => kc_X cA a_X u_16.1 u_16.2 ++ kc_C cA a_C I_C A_C) ⟨Nat.zero_le _, Nat.zero_le _⟩ rfl rfl (fun _ => rfl) rfl rfl rfl rfl rfl rfl rfl rfl (Nat.le_of_ble_eq_true rfl) (fun u_16 hw => ?_)
  refine vv_aload_n hC d_X_putHeader_40 0 rfl rfl ?_
  refine vv_aload_n hC d_X_putHeader_41 1 rfl rfl ?_
  refine vv_get hC (v := .int (I_C 2)) hin_C 3 2 tb_158 d_X_putHeader_42 rfl rfl (by decide) rfl rfl ?_
  refine vv_bipush hC d_X_putHeader_45 (v := (32 : Int32)) (by decide) ?_
  refine vv_callVV (wr := kc_C cA a_C I_C A_C) hC (c_X_putNumber l D cA sx a_X u_16.1 u_16.2 (I_C 2) (32 : Int32) _ hw) (cw_X_41 hC) d_X_putHeader_47 [] [0, 1, 2] [3, 4, 5, 6, 7, 8, 9, 10, 11, 12, 13, 14, 15] [13, 14, 15, 0, 1, 2, 3, 4, 5, 6, 7, 8, 9, 10, 11, 12] (fun u_19 : (Nat → Int32) × (Nat → Nat → Int32) => kc_X cA a_X u_19.1 u_19.2 ++ kc_C cA a_C I_C A_C) ⟨Nat.zero_le _, Nat.zero_le _⟩ rfl rfl (fun _ => rfl) rfl rfl rfl rfl rfl rfl rfl rfl (Nat.le_of_ble_eq_true rfl) (fun u_19 hw => ?_)
  refine vv_aload_n hC d_X_putHeader_50 0 rfl rfl ?_
  refine vv_aload_n hC d_X_putHeader_51 1 rfl rfl ?_
  refine vv_get hC (v := .int (I_C 3)) hin_C 3 3 tb_162 d_X_putHeader_52 rfl rfl (by decide) rfl rfl ?_
  refine vv_bipush hC d_X_putHeader_55 (v := (32 : Int32)) (by decide) ?_
  refine vv_callVV (wr := kc_C cA a_C I_C A_C) hC (c_X_putNumber l D cA sx a_X u_19.1 u_19.2 (I_C 3) (32 : Int32) _ hw) (cw_X_41 hC) d_X_putHeader_57 [] [0, 1, 2] [3, 4, 5, 6, 7, 8, 9, 10, 11, 12, 13, 14, 15] [13, 14, 15, 0, 1, 2, 3, 4, 5, 6, 7, 8, 9, 10, 11, 12] (fun u_22 : (Nat → Int32) × (Nat → Nat → Int32) => kc_X cA a_X u_22.1 u_22.2 ++ kc_C cA a_C I_C A_C) ⟨Nat.zero_le _, Nat.zero_le _⟩ rfl rfl (fun _ => rfl) rfl rfl rfl rfl rfl rfl rfl rfl (Nat.le_of_ble_eq_true rfl) (fun u_22 hw => ?_)
  refine vv_aload_n hC d_X_putHeader_60 0 rfl rfl ?_
  refine vv_aload_n hC d_X_putHeader_61 1 rfl rfl ?_
  refine vv_get hC (v := .int (I_C 4)) hin_C 3 4 tb_168 d_X_putHeader_62 rfl rfl (by decide) rfl rfl ?_
  refine vv_bipush hC d_X_putHeader_65 (v := (10 : Int32)) (by decide) ?_
  refine vv_callVV (wr := kc_C cA a_C I_C A_C) hC (c_X_putNumber l D cA sx a_X u_22.1 u_22.2 (I_C 4) (10 : Int32) _ hw) (cw_X_41 hC) d_X_putHeader_67 [] [0, 1, 2] [3, 4, 5, 6, 7, 8, 9, 10, 11, 12, 13, 14, 15] [13, 14, 15, 0, 1, 2, 3, 4, 5, 6, 7, 8, 9, 10, 11, 12] (fun u_25 : (Nat → Int32) × (Nat → Nat → Int32) => kc_X cA a_X u_25.1 u_25.2 ++ kc_C cA a_C I_C A_C) ⟨Nat.zero_le _, Nat.zero_le _⟩ rfl rfl (fun _ => rfl) rfl rfl rfl rfl rfl rfl rfl rfl (Nat.le_of_ble_eq_true rfl) (fun u_25 hw => ?_)
  exact vv_vret hC d_X_putHeader_70 (u_25.1, u_25.2) hw rfl
set_option maxHeartbeats 4000000 in
set_option maxRecDepth 100000 in
theorem l_X_putName_L2 {p : Program} {l : Launch} {e : Env} {s : State} {m : MethodId} {args : Array Value} {below : List Frame} {meth : Method} {c : Code} {D : va_G} {cA : Nat → ClassId} {sx : Nat → Nat} {A : Nat → Prop} (a_X a_C : Nat → Nat) (I_C : (Nat → Int32)) (A_C : (Nat → Nat → Int32)) (Q : (Nat → Int32) → (Nat → Nat → Int32) → Prop) (X2 : (Nat → Int32) → (Nat → Nat → Int32) → Prop) (hC : CX p s m args meth c b_X_putName R_X TB 4 D vwCl (tyl cA) A (SPl sx) none) (hX2 : ∀ (I_X : (Nat → Int32)) (A_X : (Nat → Nat → Int32)), X2 I_X A_X → VV p l e ({ frames := 1, cells := 0, slots := 0, locals := 21 } : Room) s m args below meth c 4 D vwCl A 0 0 (QV below args s D vwCl (tyl cA) A (fun (u : (Nat → Int32) × (Nat → Nat → Int32)) => Q u.1 u.2) (fun u : (Nat → Int32) × (Nat → Nat → Int32) => kc_X cA a_X u.1 u.2 ++ kc_C cA a_C I_C A_C)) (kc_X cA a_X I_X A_X ++ kc_C cA a_C I_C A_C) 33 [(0, .ref (a_X 0))] []) : ∀ (n2 : Nat) (I_X : (Nat → Int32)) (A_X : (Nat → Nat → Int32)) (v2 : Int32) (v3 : Int32), wp_X_putName_L2 A_C Q X2 n2 I_X A_X v2 v3 → VV p l e ({ frames := 1, cells := 0, slots := 0, locals := 21 } : Room) s m args below meth c 4 D vwCl A 0 0 (QV below args s D vwCl (tyl cA) A (fun (u : (Nat → Int32) × (Nat → Nat → Int32)) => Q u.1 u.2) (fun u : (Nat → Int32) × (Nat → Nat → Int32) => kc_X cA a_X u.1 u.2 ++ kc_C cA a_C I_C A_C)) (kc_X cA a_X I_X A_X ++ kc_C cA a_C I_C A_C) 2 [(0, .ref (a_X 0)), (1, .ref (a_C 0)), (2, .int v2), (3, .int v3)] [] := by
  intro n2
  induction n2 with
  | zero =>
    intro I_X A_X v2 v3 hw
    exact absurd hw (fun z => z)
  | succ n2 ih =>
    intro I_X A_X v2 v3 hw
    unfold wp_X_putName_L2 at hw
    refine vv_iload_n hC d_X_putName_2 3 rfl rfl ?_
    refine vv_aload_n hC d_X_putName_3 1 rfl rfl ?_
    refine vv_get hC (v := .ref (a_C 10)) hin_C 3 15 tb_205 d_X_putName_4 rfl rfl (by decide) rfl rfl ?_
    refine vv_iload_n hC d_X_putName_7 2 rfl rfl ?_
    obtain ⟨hin_1, hw⟩ := hw
    refine vv_iald hC 13 0 d_X_putName_8 rfl rfl hin_1 ?_
    refine vv_icmp_ge hC 33 d_X_putName_9 (by decide) (fun cd => ?_) (fun cd => ?_)
    · have hw := hw.1 cd
      exact vv_sub [0] (by rfl) (hX2 I_X A_X hw)
    · have hw := hw.2 cd
      refine vv_aload_n hC d_X_putName_12 0 rfl rfl ?_
      refine vv_aload_n hC d_X_putName_13 1 rfl rfl ?_
      refine vv_get hC (v := .ref (a_C 11)) hin_C 3 16 tb_209 d_X_putName_14 rfl rfl (by decide) rfl rfl ?_
      refine vv_iload_n hC d_X_putName_17 2 rfl rfl ?_
      refine vv_bipush hC d_X_putName_18 (v := (40 : Int32)) (by decide) ?_
      refine vv_imul hC d_X_putName_20 ?_
      refine vv_iload_n hC d_X_putName_21 3 rfl rfl ?_
      refine vv_iadd hC d_X_putName_22 ?_
      obtain ⟨hin_2, hw⟩ := hw
      refine vv_iald hC 14 0 d_X_putName_23 rfl rfl hin_2 ?_
      refine vv_callVV (wr := kc_C cA a_C I_C A_C) hC (c_X_put l D cA sx a_X I_X A_X ((A_C 10) (((v2 * (40 : Int32)) + v3)).toNatClampNeg) _ hw) (cw_X_90 hC) d_X_putName_24 [] [0, 1, 2] [3, 4, 5, 6, 7, 8, 9, 10, 11, 12, 13, 14, 15] [13, 14, 15, 0, 1, 2, 3, 4, 5, 6, 7, 8, 9, 10, 11, 12] (fun u_3 : (Nat → Int32) × (Nat → Nat → Int32) => kc_X cA a_X u_3.1 u_3.2 ++ kc_C cA a_C I_C A_C) ⟨Nat.zero_le _, Nat.zero_le _⟩ rfl rfl (fun _ => rfl) rfl rfl rfl rfl rfl rfl rfl rfl (Nat.le_of_ble_eq_true rfl) (fun u_3 hw => ?_)
      refine vv_iinc hC d_X_putName_27 3 rfl (v := (v3 + (1 : Int32))) rfl (by decide) [1, 2, 3, 0] (L2 := [(0, .ref (a_X 0)), (1, .ref (a_C 0)), (2, .int v2), (3, .int (v3 + (1 : Int32)))]) rfl ?_
      refine vv_goto hC 2 d_X_putName_30 (by decide) ?_
      exact vv_sub [0, 1, 2, 3] (by rfl) (ih u_3.1 u_3.2 v2 (v3 + (1 : Int32)) hw)
set_option maxHeartbeats 4000000 in
set_option maxRecDepth 100000 in
theorem c_X_putName (l : Launch) (D : va_G) (cA : Nat → ClassId) (sx : Nat → Nat) (a_X a_C : Nat → Nat) (I_X : (Nat → Int32)) (A_X : (Nat → Nat → Int32)) (I_C : (Nat → Int32)) (A_C : (Nat → Nat → Int32)) (x2 : Int32) (Q : (Nat → Int32) → (Nat → Nat → Int32) → Prop) (hw : wp_X_putName I_X A_X A_C x2 Q) : MetV l y_X_putName (Cond.code y_X_putName b_X_putName 4 none :: TB) ({ frames := 1, cells := 0, slots := 0, locals := 21 } : Room) D vwCl (tyl cA) (SPl sx) [.ref (a_X 0), .ref (a_C 0), .int x2] (kc_X cA a_X I_X A_X ++ kc_C cA a_C I_C A_C) (fun (u : (Nat → Int32) × (Nat → Nat → Int32)) => Q u.1 u.2) (fun u : (Nat → Int32) × (Nat → Nat → Int32) => kc_X cA a_X u.1 u.2 ++ kc_C cA a_C I_C A_C) := by
  refine vv_entryV (cc := b_X_putName) (own := R_X) (L := [(0, .ref (a_X 0)), (1, .ref (a_C 0)), (2, .int x2)]) (by decide) rfl rfl (Nat.le_of_ble_eq_true rfl) rfl (fun p e s m args below meth c A hC => ?_)
  unfold wp_X_putName at hw
  refine vv_iconst hC d_X_putName_0 (v := (0 : Int32)) (by decide) ?_
  refine vv_istore_n hC d_X_putName_1 rfl (by decide) [1, 2, 3, 0] (L2 := [(0, .ref (a_X 0)), (1, .ref (a_C 0)), (2, .int x2), (3, .int (0 : Int32))]) rfl ?_
  obtain ⟨m2, hw⟩ := hw
  refine vv_sub [0, 1, 2, 3] (by rfl) (l_X_putName_L2 a_X a_C I_C A_C Q _ hC (fun I_X_6 A_X_7 hw => ?_) m2 I_X A_X x2 (0 : Int32) hw)
  refine vv_aload_n hC d_X_putName_33 0 rfl rfl ?_
  refine vv_bipush hC d_X_putName_34 (v := (10 : Int32)) (by decide) ?_
  refine vv_callVV (wr := kc_C cA a_C I_C A_C) hC (c_X_put l D cA sx a_X I_X_6 A_X_7 (10 : Int32) _ hw) (cw_X_90 hC) d_X_putName_36 [] [0, 1, 2] [3, 4, 5, 6, 7, 8, 9, 10, 11, 12, 13, 14, 15] [13, 14, 15, 0, 1, 2, 3, 4, 5, 6, 7, 8, 9, 10, 11, 12] (fun u_8 : (Nat → Int32) × (Nat → Nat → Int32) => kc_X cA a_X u_8.1 u_8.2 ++ kc_C cA a_C I_C A_C) ⟨Nat.zero_le _, Nat.zero_le _⟩ rfl rfl (fun _ => rfl) rfl rfl rfl rfl rfl rfl rfl rfl (Nat.le_of_ble_eq_true rfl) (fun u_8 hw => ?_)
  exact vv_vret hC d_X_putName_39 (u_8.1, u_8.2) hw rfl
set_option maxHeartbeats 4000000 in
set_option maxRecDepth 100000 in
theorem l_X_putSymbols_L9 {p : Program} {l : Launch} {e : Env} {s : State} {m : MethodId} {args : Array Value} {below : List Frame} {meth : Method} {c : Code} {D : va_G} {cA : Nat → ClassId} {sx : Nat → Nat} {A : Nat → Prop} (a_X a_C : Nat → Nat) (I_C : (Nat → Int32)) (A_C : (Nat → Nat → Int32)) (Q : (Nat → Int32) → (Nat → Nat → Int32) → Prop) (K2 : (Nat → Int32) → (Nat → Nat → Int32) → Int32 → Prop) (X2 : (Nat → Int32) → (Nat → Nat → Int32) → Prop) (X9 : (Nat → Int32) → (Nat → Nat → Int32) → Int32 → Prop) (hC : CX p s m args meth c b_X_putSymbols R_X TB 4 D vwCl (tyl cA) A (SPl sx) none) (hK2 : ∀ (I_X : (Nat → Int32)) (A_X : (Nat → Nat → Int32)) (v2 : Int32), K2 I_X A_X v2 → VV p l e ({ frames := 4, cells := 0, slots := 0, locals := 85 } : Room) s m args below meth c 4 D vwCl A 0 0 (QV below args s D vwCl (tyl cA) A (fun (u : (Nat → Int32) × (Nat → Nat → Int32)) => Q u.1 u.2) (fun u : (Nat → Int32) × (Nat → Nat → Int32) => kc_X cA a_X u.1 u.2 ++ kc_C cA a_C I_C A_C)) (kc_X cA a_X I_X A_X ++ kc_C cA a_C I_C A_C) 2 [(0, .ref (a_X 0)), (1, .ref (a_C 0)), (2, .int v2)] []) (hX2 : ∀ (I_X : (Nat → Int32)) (A_X : (Nat → Nat → Int32)), X2 I_X A_X → VV p l e ({ frames := 4, cells := 0, slots := 0, locals := 85 } : Room) s m args below meth c 4 D vwCl A 0 0 (QV below args s D vwCl (tyl cA) A (fun (u : (Nat → Int32) × (Nat → Nat → Int32)) => Q u.1 u.2) (fun u : (Nat → Int32) × (Nat → Nat → Int32) => kc_X cA a_X u.1 u.2 ++ kc_C cA a_C I_C A_C)) (kc_X cA a_X I_X A_X ++ kc_C cA a_C I_C A_C) 70 [] []) (hX9 : ∀ (I_X : (Nat → Int32)) (A_X : (Nat → Nat → Int32)) (v2 : Int32), X9 I_X A_X v2 → VV p l e ({ frames := 4, cells := 0, slots := 0, locals := 85 } : Room) s m args below meth c 4 D vwCl A 0 0 (QV below args s D vwCl (tyl cA) A (fun (u : (Nat → Int32) × (Nat → Nat → Int32)) => Q u.1 u.2) (fun u : (Nat → Int32) × (Nat → Nat → Int32) => kc_X cA a_X u.1 u.2 ++ kc_C cA a_C I_C A_C)) (kc_X cA a_X I_X A_X ++ kc_C cA a_C I_C A_C) 64 [(0, .ref (a_X 0)), (1, .ref (a_C 0)), (2, .int v2)] []) : ∀ (n9 : Nat) (I_X : (Nat → Int32)) (A_X : (Nat → Nat → Int32)) (v2 : Int32) (v3 : Int32), wp_X_putSymbols_L9 I_C A_C Q K2 X2 X9 n9 I_X A_X v2 v3 → VV p l e ({ frames := 4, cells := 0, slots := 0, locals := 85 } : Room) s m args below meth c 4 D vwCl A 0 0 (QV below args s D vwCl (tyl cA) A (fun (u : (Nat → Int32) × (Nat → Nat → Int32)) => Q u.1 u.2) (fun u : (Nat → Int32) × (Nat → Nat → Int32) => kc_X cA a_X u.1 u.2 ++ kc_C cA a_C I_C A_C)) (kc_X cA a_X I_X A_X ++ kc_C cA a_C I_C A_C) 9 [(0, .ref (a_X 0)), (1, .ref (a_C 0)), (2, .int v2), (3, .int v3)] [] := by
  intro n9
  induction n9 with
  | zero =>
    intro I_X A_X v2 v3 hw
    exact absurd hw (fun z => z)
  | succ n9 ih =>
    intro I_X A_X v2 v3 hw
    unfold wp_X_putSymbols_L9 at hw
    refine vv_iload_n hC d_X_putSymbols_9 3 rfl rfl ?_
    refine vv_aload_n hC d_X_putSymbols_10 1 rfl rfl ?_
    refine vv_iload_n hC d_X_putSymbols_11 2 rfl rfl ?_
    refine vv_callVI (wr := kc_X cA a_X I_X A_X) hC (c_C_countOf l D cA sx a_C I_C A_C v2 _ hw) (cw_X_106 hC) d_X_putSymbols_12 [.int v3] [3, 4, 5, 6, 7, 8, 9, 10, 11, 12, 13, 14, 15] [0, 1, 2] [0, 1, 2, 3, 4, 5, 6, 7, 8, 9, 10, 11, 12, 13, 14, 15] (fun u_2 : Unit => kc_X cA a_X I_X A_X ++ kc_C cA a_C I_C A_C) ⟨Nat.zero_le _, Nat.zero_le _⟩ rfl rfl (fun _ => rfl) rfl rfl rfl rfl rfl rfl rfl rfl (Nat.le_of_ble_eq_true rfl) (fun r_1 u_2 hw => ?_)
    refine vv_icmp_ge hC 64 d_X_putSymbols_15 (by decide) (fun cd => ?_) (fun cd => ?_)
    · have hw := hw.1 cd
      exact vv_sub [0, 1, 2] (by rfl) (hX9 I_X A_X v2 hw)
    · have hw := hw.2 cd
      refine vv_aload_n hC d_X_putSymbols_18 1 rfl rfl ?_
      refine vv_get hC (v := .ref (a_C 10)) hin_C 3 15 tb_205 d_X_putSymbols_19 rfl rfl (by decide) rfl rfl ?_
      refine vv_iload_n hC d_X_putSymbols_22 2 rfl rfl ?_
      refine vv_iload_n hC d_X_putSymbols_23 3 rfl rfl ?_
      refine vv_callSNI (wr := kc_X cA a_X I_X A_X ++ kc_C cA a_C I_C A_C) hC (c_F_slotOf l D cA sx v2 v3 _ hw) (cw_X_112 hC) d_X_putSymbols_24 [.ref (a_C 10)] [] [0, 1, 2, 3, 4, 5, 6, 7, 8, 9, 10, 11, 12, 13, 14, 15] [0, 1, 2, 3, 4, 5, 6, 7, 8, 9, 10, 11, 12, 13, 14, 15] (fun u_4 : Unit => kc_X cA a_X I_X A_X ++ kc_C cA a_C I_C A_C) ⟨Nat.zero_le _, Nat.zero_le _⟩ rfl rfl (fun _ => rfl) rfl rfl rfl rfl rfl rfl (Nat.le_of_ble_eq_true rfl) (fun r_3 u_4 hw => ?_)
      obtain ⟨hin_5, hw⟩ := hw
      refine vv_iald hC 13 0 d_X_putSymbols_27 rfl rfl hin_5 ?_
      refine vv_if_le hC 58 d_X_putSymbols_28 (by decide) (fun cd => ?_) (fun cd => ?_)
      · have hw := hw.1 cd
        refine vv_iinc hC d_X_putSymbols_58 3 rfl (v := (v3 + (1 : Int32))) rfl (by decide) [1, 2, 3, 0] (L2 := [(0, .ref (a_X 0)), (1, .ref (a_C 0)), (2, .int v2), (3, .int (v3 + (1 : Int32)))]) rfl ?_
        refine vv_goto hC 9 d_X_putSymbols_61 (by decide) ?_
        exact vv_sub [0, 1, 2, 3] (by rfl) (ih I_X A_X v2 (v3 + (1 : Int32)) hw)
      · have hw := hw.2 cd
        refine vv_aload_n hC d_X_putSymbols_31 0 rfl rfl ?_
        refine vv_ldcS hC hC.2.2.2.2.2.2.2.1.2.2.1.1 d_X_putSymbols_32 ?_
        refine vv_iload_n hC d_X_putSymbols_34 2 rfl rfl ?_
        obtain ⟨hin_6, hw⟩ := hw
        refine vv_charAt hC tb_360 d_X_putSymbols_35 hin_6 (Nat.le_of_ble_eq_true rfl) ⟨Nat.zero_le _, Nat.zero_le _⟩ ⟨Nat.le_of_ble_eq_true rfl, Nat.le_of_ble_eq_true rfl⟩ ?_
        refine vv_callVV (wr := kc_C cA a_C I_C A_C) hC (c_X_put l D cA sx a_X I_X A_X (kl v2) _ hw) (cw_X_90 hC) d_X_putSymbols_38 [] [0, 1, 2] [3, 4, 5, 6, 7, 8, 9, 10, 11, 12, 13, 14, 15] [13, 14, 15, 0, 1, 2, 3, 4, 5, 6, 7, 8, 9, 10, 11, 12] (fun u_7 : (Nat → Int32) × (Nat → Nat → Int32) => kc_X cA a_X u_7.1 u_7.2 ++ kc_C cA a_C I_C A_C) ⟨Nat.zero_le _, Nat.zero_le _⟩ rfl rfl (fun _ => rfl) rfl rfl rfl rfl rfl rfl rfl rfl (Nat.le_of_ble_eq_true rfl) (fun u_7 hw => ?_)
        refine vv_aload_n hC d_X_putSymbols_41 0 rfl rfl ?_
        refine vv_iload_n hC d_X_putSymbols_42 3 rfl rfl ?_
        refine vv_bipush hC d_X_putSymbols_43 (v := (32 : Int32)) (by decide) ?_
        refine vv_callVV (wr := kc_C cA a_C I_C A_C) hC (c_X_putNumber l D cA sx a_X u_7.1 u_7.2 v3 (32 : Int32) _ hw) (cw_X_41 hC) d_X_putSymbols_45 [] [0, 1, 2] [3, 4, 5, 6, 7, 8, 9, 10, 11, 12, 13, 14, 15] [13, 14, 15, 0, 1, 2, 3, 4, 5, 6, 7, 8, 9, 10, 11, 12] (fun u_10 : (Nat → Int32) × (Nat → Nat → Int32) => kc_X cA a_X u_10.1 u_10.2 ++ kc_C cA a_C I_C A_C) ⟨Nat.zero_le _, Nat.zero_le _⟩ rfl rfl (fun _ => rfl) rfl rfl rfl rfl rfl rfl rfl rfl (Nat.le_of_ble_eq_true rfl) (fun u_10 hw => ?_)
        refine vv_aload_n hC d_X_putSymbols_48 0 rfl rfl ?_
        refine vv_aload_n hC d_X_putSymbols_49 1 rfl rfl ?_
        refine vv_iload_n hC d_X_putSymbols_50 2 rfl rfl ?_
        refine vv_iload_n hC d_X_putSymbols_51 3 rfl rfl ?_
        refine vv_callSNI (wr := kc_X cA a_X u_10.1 u_10.2 ++ kc_C cA a_C I_C A_C) hC (c_F_slotOf l D cA sx v2 v3 _ hw) (cw_X_112 hC) d_X_putSymbols_52 [.ref (a_C 0), .ref (a_X 0)] [] [0, 1, 2, 3, 4, 5, 6, 7, 8, 9, 10, 11, 12, 13, 14, 15] [0, 1, 2, 3, 4, 5, 6, 7, 8, 9, 10, 11, 12, 13, 14, 15] (fun u_14 : Unit => kc_X cA a_X u_10.1 u_10.2 ++ kc_C cA a_C I_C A_C) ⟨Nat.zero_le _, Nat.zero_le _⟩ rfl rfl (fun _ => rfl) rfl rfl rfl rfl rfl rfl (Nat.le_of_ble_eq_true rfl) (fun r_13 u_14 hw => ?_)
        refine vv_callVV (wr := []) hC (c_X_putName l D cA sx a_X a_C u_10.1 u_10.2 I_C A_C r_13 _ hw) (cw_X_123 hC) d_X_putSymbols_55 [] [0, 1, 2, 3, 4, 5, 6, 7, 8, 9, 10, 11, 12, 13, 14, 15] [] [0, 1, 2, 3, 4, 5, 6, 7, 8, 9, 10, 11, 12, 13, 14, 15] (fun u_15 : (Nat → Int32) × (Nat → Nat → Int32) => kc_X cA a_X u_15.1 u_15.2 ++ kc_C cA a_C I_C A_C) ⟨Nat.zero_le _, Nat.zero_le _⟩ rfl rfl (fun _ => rfl) rfl rfl rfl rfl rfl rfl rfl rfl (Nat.le_of_ble_eq_true rfl) (fun u_15 hw => ?_)
        refine vv_iinc hC d_X_putSymbols_58 3 rfl (v := (v3 + (1 : Int32))) rfl (by decide) [1, 2, 3, 0] (L2 := [(0, .ref (a_X 0)), (1, .ref (a_C 0)), (2, .int v2), (3, .int (v3 + (1 : Int32)))]) rfl ?_
        refine vv_goto hC 9 d_X_putSymbols_61 (by decide) ?_
        exact vv_sub [0, 1, 2, 3] (by rfl) (ih u_15.1 u_15.2 v2 (v3 + (1 : Int32)) hw)
set_option maxHeartbeats 4000000 in
set_option maxRecDepth 100000 in
theorem l_X_putSymbols_L2 {p : Program} {l : Launch} {e : Env} {s : State} {m : MethodId} {args : Array Value} {below : List Frame} {meth : Method} {c : Code} {D : va_G} {cA : Nat → ClassId} {sx : Nat → Nat} {A : Nat → Prop} (a_X a_C : Nat → Nat) (I_C : (Nat → Int32)) (A_C : (Nat → Nat → Int32)) (Q : (Nat → Int32) → (Nat → Nat → Int32) → Prop) (X2 : (Nat → Int32) → (Nat → Nat → Int32) → Prop) (hC : CX p s m args meth c b_X_putSymbols R_X TB 4 D vwCl (tyl cA) A (SPl sx) none) (hX2 : ∀ (I_X : (Nat → Int32)) (A_X : (Nat → Nat → Int32)), X2 I_X A_X → VV p l e ({ frames := 4, cells := 0, slots := 0, locals := 85 } : Room) s m args below meth c 4 D vwCl A 0 0 (QV below args s D vwCl (tyl cA) A (fun (u : (Nat → Int32) × (Nat → Nat → Int32)) => Q u.1 u.2) (fun u : (Nat → Int32) × (Nat → Nat → Int32) => kc_X cA a_X u.1 u.2 ++ kc_C cA a_C I_C A_C)) (kc_X cA a_X I_X A_X ++ kc_C cA a_C I_C A_C) 70 [] []) : ∀ (n2 : Nat) (I_X : (Nat → Int32)) (A_X : (Nat → Nat → Int32)) (v2 : Int32), wp_X_putSymbols_L2 I_C A_C Q X2 n2 I_X A_X v2 → VV p l e ({ frames := 4, cells := 0, slots := 0, locals := 85 } : Room) s m args below meth c 4 D vwCl A 0 0 (QV below args s D vwCl (tyl cA) A (fun (u : (Nat → Int32) × (Nat → Nat → Int32)) => Q u.1 u.2) (fun u : (Nat → Int32) × (Nat → Nat → Int32) => kc_X cA a_X u.1 u.2 ++ kc_C cA a_C I_C A_C)) (kc_X cA a_X I_X A_X ++ kc_C cA a_C I_C A_C) 2 [(0, .ref (a_X 0)), (1, .ref (a_C 0)), (2, .int v2)] [] := by
  intro n2
  induction n2 with
  | zero =>
    intro I_X A_X v2 hw
    exact absurd hw (fun z => z)
  | succ n2 ih =>
    intro I_X A_X v2 hw
    unfold wp_X_putSymbols_L2 at hw
    refine vv_iload_n hC d_X_putSymbols_2 2 rfl rfl ?_
    refine vv_iconst hC d_X_putSymbols_3 (v := (3 : Int32)) (by decide) ?_
    refine vv_icmp_ge hC 70 d_X_putSymbols_4 (by decide) (fun cd => ?_) (fun cd => ?_)
    · have hw := hw.1 cd
      exact vv_sub [] (by rfl) (hX2 I_X A_X hw)
    · have hw := hw.2 cd
      refine vv_iconst hC d_X_putSymbols_7 (v := (0 : Int32)) (by decide) ?_
      refine vv_istore_n hC d_X_putSymbols_8 rfl (by decide) [1, 2, 3, 0] (L2 := [(0, .ref (a_X 0)), (1, .ref (a_C 0)), (2, .int v2), (3, .int (0 : Int32))]) rfl ?_
      obtain ⟨m9, hw⟩ := hw
      refine vv_sub [0, 1, 2, 3] (by rfl) (l_X_putSymbols_L9 a_X a_C I_C A_C Q (wp_X_putSymbols_L2 I_C A_C Q X2 n2) X2 _ hC ih hX2 (fun I_X_18 A_X_19 v2_20 hw => ?_) m9 I_X A_X v2 (0 : Int32) hw)
      refine vv_iinc hC d_X_putSymbols_64 2 rfl (v := (v2_20 + (1 : Int32))) rfl (by decide) [1, 2, 0] (L2 := [(0, .ref (a_X 0)), (1, .ref (a_C 0)), (2, .int (v2_20 + (1 : Int32)))]) rfl ?_
      refine vv_goto hC 2 d_X_putSymbols_67 (by decide) ?_
      exact vv_sub [0, 1, 2] (by rfl) (ih I_X_18 A_X_19 (v2_20 + (1 : Int32)) hw)
set_option maxHeartbeats 4000000 in
set_option maxRecDepth 100000 in
theorem c_X_putSymbols (l : Launch) (D : va_G) (cA : Nat → ClassId) (sx : Nat → Nat) (a_X a_C : Nat → Nat) (I_X : (Nat → Int32)) (A_X : (Nat → Nat → Int32)) (I_C : (Nat → Int32)) (A_C : (Nat → Nat → Int32)) (Q : (Nat → Int32) → (Nat → Nat → Int32) → Prop) (hw : wp_X_putSymbols I_X A_X I_C A_C Q) : MetV l y_X_putSymbols (Cond.code y_X_putSymbols b_X_putSymbols 4 none :: TB) ({ frames := 4, cells := 0, slots := 0, locals := 85 } : Room) D vwCl (tyl cA) (SPl sx) [.ref (a_X 0), .ref (a_C 0)] (kc_X cA a_X I_X A_X ++ kc_C cA a_C I_C A_C) (fun (u : (Nat → Int32) × (Nat → Nat → Int32)) => Q u.1 u.2) (fun u : (Nat → Int32) × (Nat → Nat → Int32) => kc_X cA a_X u.1 u.2 ++ kc_C cA a_C I_C A_C) := by
  refine vv_entryV (cc := b_X_putSymbols) (own := R_X) (L := [(0, .ref (a_X 0)), (1, .ref (a_C 0))]) (by decide) rfl rfl (Nat.le_of_ble_eq_true rfl) rfl (fun p e s m args below meth c A hC => ?_)
  unfold wp_X_putSymbols at hw
  refine vv_iconst hC d_X_putSymbols_0 (v := (0 : Int32)) (by decide) ?_
  refine vv_istore_n hC d_X_putSymbols_1 rfl (by decide) [1, 2, 0] (L2 := [(0, .ref (a_X 0)), (1, .ref (a_C 0)), (2, .int (0 : Int32))]) rfl ?_
  obtain ⟨m2, hw⟩ := hw
  refine vv_sub [0, 1, 2] (by rfl) (l_X_putSymbols_L2 a_X a_C I_C A_C Q _ hC (fun I_X_21 A_X_22 hw => ?_) m2 I_X A_X (0 : Int32) hw)
  exact vv_vret hC d_X_putSymbols_70 (I_X_21, A_X_22) hw rfl
set_option maxHeartbeats 4000000 in
set_option maxRecDepth 100000 in
theorem l_X_writeText_L26 {p : Program} {l : Launch} {e : Env} {s : State} {m : MethodId} {args : Array Value} {below : List Frame} {meth : Method} {c : Code} {D : va_G} {cA : Nat → ClassId} {sx : Nat → Nat} {A : Nat → Prop} (a_X a_C : Nat → Nat) (I_C : (Nat → Int32)) (A_C : (Nat → Nat → Int32)) (Q : (Nat → Int32) → (Nat → Nat → Int32) → Prop) (X26 : (Nat → Int32) → (Nat → Nat → Int32) → Prop) (hC : CX p s m args meth c b_X_writeText R_X TB 3 D vwCl (tyl cA) A (SPl sx) none) (hX26 : ∀ (I_X : (Nat → Int32)) (A_X : (Nat → Nat → Int32)), X26 I_X A_X → VV p l e ({ frames := 5, cells := 0, slots := 0, locals := 108 } : Room) s m args below meth c 3 D vwCl A 0 0 (QV below args s D vwCl (tyl cA) A (fun (u : (Nat → Int32) × (Nat → Nat → Int32)) => Q u.1 u.2) (fun u : (Nat → Int32) × (Nat → Nat → Int32) => kc_X cA a_X u.1 u.2 ++ kc_C cA a_C I_C A_C)) (kc_X cA a_X I_X A_X ++ kc_C cA a_C I_C A_C) 54 [(0, .ref (a_X 0)), (1, .ref (a_C 0))] []) : ∀ (n26 : Nat) (I_X : (Nat → Int32)) (A_X : (Nat → Nat → Int32)) (v2 : Int32), wp_X_writeText_L26 I_C A_C Q X26 n26 I_X A_X v2 → VV p l e ({ frames := 5, cells := 0, slots := 0, locals := 108 } : Room) s m args below meth c 3 D vwCl A 0 0 (QV below args s D vwCl (tyl cA) A (fun (u : (Nat → Int32) × (Nat → Nat → Int32)) => Q u.1 u.2) (fun u : (Nat → Int32) × (Nat → Nat → Int32) => kc_X cA a_X u.1 u.2 ++ kc_C cA a_C I_C A_C)) (kc_X cA a_X I_X A_X ++ kc_C cA a_C I_C A_C) 26 [(0, .ref (a_X 0)), (1, .ref (a_C 0)), (2, .int v2)] [] := by
  intro n26
  induction n26 with
  | zero =>
    intro I_X A_X v2 hw
    exact absurd hw (fun z => z)
  | succ n26 ih =>
    intro I_X A_X v2 hw
    unfold wp_X_writeText_L26 at hw
    refine vv_iload_n hC d_X_writeText_26 2 rfl rfl ?_
    refine vv_aload_n hC d_X_writeText_27 1 rfl rfl ?_
    refine vv_get hC (v := .int (I_C 1)) hin_C 3 1 tb_154 d_X_writeText_28 rfl rfl (by decide) rfl rfl ?_
    refine vv_icmp_ge hC 54 d_X_writeText_31 (by decide) (fun cd => ?_) (fun cd => ?_)
    · have hw := hw.1 cd
      exact vv_sub [0, 1] (by rfl) (hX26 I_X A_X hw)
    · have hw := hw.2 cd
      refine vv_aload_n hC d_X_writeText_34 0 rfl rfl ?_
      refine vv_iconst hC d_X_writeText_35 (v := (2 : Int32)) (by decide) ?_
      refine vv_aload_n hC d_X_writeText_36 1 rfl rfl ?_
      refine vv_get hC (v := .ref (a_C 1)) hin_C 3 6 tb_173 d_X_writeText_37 rfl rfl (by decide) rfl rfl ?_
      refine vv_iload_n hC d_X_writeText_40 2 rfl rfl ?_
      obtain ⟨hin_4, hw⟩ := hw
      refine vv_iald hC 4 0 d_X_writeText_41 rfl rfl hin_4 ?_
      refine vv_imul hC d_X_writeText_42 ?_
      refine vv_bipush hC d_X_writeText_43 (v := (10 : Int32)) (by decide) ?_
      refine vv_callVV (wr := kc_C cA a_C I_C A_C) hC (c_X_putNumber l D cA sx a_X I_X A_X ((2 : Int32) * ((A_C 0) (v2).toNatClampNeg)) (10 : Int32) _ hw) (cw_X_41 hC) d_X_writeText_45 [] [0, 1, 2] [3, 4, 5, 6, 7, 8, 9, 10, 11, 12, 13, 14, 15] [13, 14, 15, 0, 1, 2, 3, 4, 5, 6, 7, 8, 9, 10, 11, 12] (fun u_5 : (Nat → Int32) × (Nat → Nat → Int32) => kc_X cA a_X u_5.1 u_5.2 ++ kc_C cA a_C I_C A_C) ⟨Nat.zero_le _, Nat.zero_le _⟩ rfl rfl (fun _ => rfl) rfl rfl rfl rfl rfl rfl rfl rfl (Nat.le_of_ble_eq_true rfl) (fun u_5 hw => ?_)
      refine vv_iinc hC d_X_writeText_48 2 rfl (v := (v2 + (1 : Int32))) rfl (by decide) [1, 2, 0] (L2 := [(0, .ref (a_X 0)), (1, .ref (a_C 0)), (2, .int (v2 + (1 : Int32)))]) rfl ?_
      refine vv_goto hC 26 d_X_writeText_51 (by decide) ?_
      exact vv_sub [0, 1, 2] (by rfl) (ih u_5.1 u_5.2 (v2 + (1 : Int32)) hw)
set_option maxHeartbeats 4000000 in
set_option maxRecDepth 100000 in
theorem l_X_writeText_L56 {p : Program} {l : Launch} {e : Env} {s : State} {m : MethodId} {args : Array Value} {below : List Frame} {meth : Method} {c : Code} {D : va_G} {cA : Nat → ClassId} {sx : Nat → Nat} {A : Nat → Prop} (a_X a_C : Nat → Nat) (I_C : (Nat → Int32)) (A_C : (Nat → Nat → Int32)) (Q : (Nat → Int32) → (Nat → Nat → Int32) → Prop) (X56 : (Nat → Int32) → (Nat → Nat → Int32) → Prop) (hC : CX p s m args meth c b_X_writeText R_X TB 3 D vwCl (tyl cA) A (SPl sx) none) (hX56 : ∀ (I_X : (Nat → Int32)) (A_X : (Nat → Nat → Int32)), X56 I_X A_X → VV p l e ({ frames := 5, cells := 0, slots := 0, locals := 108 } : Room) s m args below meth c 3 D vwCl A 0 0 (QV below args s D vwCl (tyl cA) A (fun (u : (Nat → Int32) × (Nat → Nat → Int32)) => Q u.1 u.2) (fun u : (Nat → Int32) × (Nat → Nat → Int32) => kc_X cA a_X u.1 u.2 ++ kc_C cA a_C I_C A_C)) (kc_X cA a_X I_X A_X ++ kc_C cA a_C I_C A_C) 96 [(0, .ref (a_X 0)), (1, .ref (a_C 0))] []) : ∀ (n56 : Nat) (I_X : (Nat → Int32)) (A_X : (Nat → Nat → Int32)) (v2 : Int32), wp_X_writeText_L56 I_C A_C Q X56 n56 I_X A_X v2 → VV p l e ({ frames := 5, cells := 0, slots := 0, locals := 108 } : Room) s m args below meth c 3 D vwCl A 0 0 (QV below args s D vwCl (tyl cA) A (fun (u : (Nat → Int32) × (Nat → Nat → Int32)) => Q u.1 u.2) (fun u : (Nat → Int32) × (Nat → Nat → Int32) => kc_X cA a_X u.1 u.2 ++ kc_C cA a_C I_C A_C)) (kc_X cA a_X I_X A_X ++ kc_C cA a_C I_C A_C) 56 [(0, .ref (a_X 0)), (1, .ref (a_C 0)), (2, .int v2)] [] := by
  intro n56
  induction n56 with
  | zero =>
    intro I_X A_X v2 hw
    exact absurd hw (fun z => z)
  | succ n56 ih =>
    intro I_X A_X v2 hw
    unfold wp_X_writeText_L56 at hw
    refine vv_iload_n hC d_X_writeText_56 2 rfl rfl ?_
    refine vv_aload_n hC d_X_writeText_57 1 rfl rfl ?_
    refine vv_get hC (v := .int (I_C 2)) hin_C 3 2 tb_158 d_X_writeText_58 rfl rfl (by decide) rfl rfl ?_
    refine vv_icmp_ge hC 96 d_X_writeText_61 (by decide) (fun cd => ?_) (fun cd => ?_)
    · have hw := hw.1 cd
      exact vv_sub [0, 1] (by rfl) (hX56 I_X A_X hw)
    · have hw := hw.2 cd
      refine vv_aload_n hC d_X_writeText_64 0 rfl rfl ?_
      refine vv_iconst hC d_X_writeText_65 (v := (2 : Int32)) (by decide) ?_
      refine vv_aload_n hC d_X_writeText_66 1 rfl rfl ?_
      refine vv_get hC (v := .ref (a_C 2)) hin_C 3 7 tb_176 d_X_writeText_67 rfl rfl (by decide) rfl rfl ?_
      refine vv_iload_n hC d_X_writeText_70 2 rfl rfl ?_
      obtain ⟨hin_10, hw⟩ := hw
      refine vv_iald hC 5 0 d_X_writeText_71 rfl rfl hin_10 ?_
      refine vv_imul hC d_X_writeText_72 ?_
      refine vv_bipush hC d_X_writeText_73 (v := (32 : Int32)) (by decide) ?_
      refine vv_callVV (wr := kc_C cA a_C I_C A_C) hC (c_X_putNumber l D cA sx a_X I_X A_X ((2 : Int32) * ((A_C 1) (v2).toNatClampNeg)) (32 : Int32) _ hw) (cw_X_41 hC) d_X_writeText_75 [] [0, 1, 2] [3, 4, 5, 6, 7, 8, 9, 10, 11, 12, 13, 14, 15] [13, 14, 15, 0, 1, 2, 3, 4, 5, 6, 7, 8, 9, 10, 11, 12] (fun u_11 : (Nat → Int32) × (Nat → Nat → Int32) => kc_X cA a_X u_11.1 u_11.2 ++ kc_C cA a_C I_C A_C) ⟨Nat.zero_le _, Nat.zero_le _⟩ rfl rfl (fun _ => rfl) rfl rfl rfl rfl rfl rfl rfl rfl (Nat.le_of_ble_eq_true rfl) (fun u_11 hw => ?_)
      refine vv_aload_n hC d_X_writeText_78 0 rfl rfl ?_
      refine vv_aload_n hC d_X_writeText_79 1 rfl rfl ?_
      refine vv_get hC (v := .ref (a_C 3)) hin_C 3 8 tb_179 d_X_writeText_80 rfl rfl (by decide) rfl rfl ?_
      refine vv_iload_n hC d_X_writeText_83 2 rfl rfl ?_
      refine vv_iald hC 6 0 d_X_writeText_84 rfl rfl hin_10 ?_
      refine vv_bipush hC d_X_writeText_85 (v := (10 : Int32)) (by decide) ?_
      refine vv_callVV (wr := kc_C cA a_C I_C A_C) hC (c_X_putNumber l D cA sx a_X u_11.1 u_11.2 ((A_C 2) (v2).toNatClampNeg) (10 : Int32) _ hw) (cw_X_41 hC) d_X_writeText_87 [] [0, 1, 2] [3, 4, 5, 6, 7, 8, 9, 10, 11, 12, 13, 14, 15] [13, 14, 15, 0, 1, 2, 3, 4, 5, 6, 7, 8, 9, 10, 11, 12] (fun u_14 : (Nat → Int32) × (Nat → Nat → Int32) => kc_X cA a_X u_14.1 u_14.2 ++ kc_C cA a_C I_C A_C) ⟨Nat.zero_le _, Nat.zero_le _⟩ rfl rfl (fun _ => rfl) rfl rfl rfl rfl rfl rfl rfl rfl (Nat.le_of_ble_eq_true rfl) (fun u_14 hw => ?_)
      refine vv_iinc hC d_X_writeText_90 2 rfl (v := (v2 + (1 : Int32))) rfl (by decide) [1, 2, 0] (L2 := [(0, .ref (a_X 0)), (1, .ref (a_C 0)), (2, .int (v2 + (1 : Int32)))]) rfl ?_
      refine vv_goto hC 56 d_X_writeText_93 (by decide) ?_
      exact vv_sub [0, 1, 2] (by rfl) (ih u_14.1 u_14.2 (v2 + (1 : Int32)) hw)
set_option maxHeartbeats 4000000 in
set_option maxRecDepth 100000 in
theorem l_X_writeText_L98 {p : Program} {l : Launch} {e : Env} {s : State} {m : MethodId} {args : Array Value} {below : List Frame} {meth : Method} {c : Code} {D : va_G} {cA : Nat → ClassId} {sx : Nat → Nat} {A : Nat → Prop} (a_X a_C : Nat → Nat) (I_C : (Nat → Int32)) (A_C : (Nat → Nat → Int32)) (Q : (Nat → Int32) → (Nat → Nat → Int32) → Prop) (X98 : (Nat → Int32) → (Nat → Nat → Int32) → Prop) (hC : CX p s m args meth c b_X_writeText R_X TB 3 D vwCl (tyl cA) A (SPl sx) none) (hX98 : ∀ (I_X : (Nat → Int32)) (A_X : (Nat → Nat → Int32)), X98 I_X A_X → VV p l e ({ frames := 5, cells := 0, slots := 0, locals := 108 } : Room) s m args below meth c 3 D vwCl A 0 0 (QV below args s D vwCl (tyl cA) A (fun (u : (Nat → Int32) × (Nat → Nat → Int32)) => Q u.1 u.2) (fun u : (Nat → Int32) × (Nat → Nat → Int32) => kc_X cA a_X u.1 u.2 ++ kc_C cA a_C I_C A_C)) (kc_X cA a_X I_X A_X ++ kc_C cA a_C I_C A_C) 124 [(0, .ref (a_X 0)), (1, .ref (a_C 0))] []) : ∀ (n98 : Nat) (I_X : (Nat → Int32)) (A_X : (Nat → Nat → Int32)) (v2 : Int32), wp_X_writeText_L98 I_C A_C Q X98 n98 I_X A_X v2 → VV p l e ({ frames := 5, cells := 0, slots := 0, locals := 108 } : Room) s m args below meth c 3 D vwCl A 0 0 (QV below args s D vwCl (tyl cA) A (fun (u : (Nat → Int32) × (Nat → Nat → Int32)) => Q u.1 u.2) (fun u : (Nat → Int32) × (Nat → Nat → Int32) => kc_X cA a_X u.1 u.2 ++ kc_C cA a_C I_C A_C)) (kc_X cA a_X I_X A_X ++ kc_C cA a_C I_C A_C) 98 [(0, .ref (a_X 0)), (1, .ref (a_C 0)), (2, .int v2)] [] := by
  intro n98
  induction n98 with
  | zero =>
    intro I_X A_X v2 hw
    exact absurd hw (fun z => z)
  | succ n98 ih =>
    intro I_X A_X v2 hw
    unfold wp_X_writeText_L98 at hw
    refine vv_iload_n hC d_X_writeText_98 2 rfl rfl ?_
    refine vv_aload_n hC d_X_writeText_99 1 rfl rfl ?_
    refine vv_get hC (v := .int (I_C 3)) hin_C 3 3 tb_162 d_X_writeText_100 rfl rfl (by decide) rfl rfl ?_
    refine vv_icmp_ge hC 124 d_X_writeText_103 (by decide) (fun cd => ?_) (fun cd => ?_)
    · have hw := hw.1 cd
      exact vv_sub [0, 1] (by rfl) (hX98 I_X A_X hw)
    · have hw := hw.2 cd
      refine vv_aload_n hC d_X_writeText_106 0 rfl rfl ?_
      refine vv_aload_n hC d_X_writeText_107 1 rfl rfl ?_
      refine vv_get hC (v := .ref (a_C 4)) hin_C 3 9 tb_183 d_X_writeText_108 rfl rfl (by decide) rfl rfl ?_
      refine vv_iload_n hC d_X_writeText_111 2 rfl rfl ?_
      obtain ⟨hin_19, hw⟩ := hw
      refine vv_iald hC 7 0 d_X_writeText_112 rfl rfl hin_19 ?_
      refine vv_bipush hC d_X_writeText_113 (v := (10 : Int32)) (by decide) ?_
      refine vv_callVV (wr := kc_C cA a_C I_C A_C) hC (c_X_putNumber l D cA sx a_X I_X A_X ((A_C 3) (v2).toNatClampNeg) (10 : Int32) _ hw) (cw_X_41 hC) d_X_writeText_115 [] [0, 1, 2] [3, 4, 5, 6, 7, 8, 9, 10, 11, 12, 13, 14, 15] [13, 14, 15, 0, 1, 2, 3, 4, 5, 6, 7, 8, 9, 10, 11, 12] (fun u_20 : (Nat → Int32) × (Nat → Nat → Int32) => kc_X cA a_X u_20.1 u_20.2 ++ kc_C cA a_C I_C A_C) ⟨Nat.zero_le _, Nat.zero_le _⟩ rfl rfl (fun _ => rfl) rfl rfl rfl rfl rfl rfl rfl rfl (Nat.le_of_ble_eq_true rfl) (fun u_20 hw => ?_)
      refine vv_iinc hC d_X_writeText_118 2 rfl (v := (v2 + (1 : Int32))) rfl (by decide) [1, 2, 0] (L2 := [(0, .ref (a_X 0)), (1, .ref (a_C 0)), (2, .int (v2 + (1 : Int32)))]) rfl ?_
      refine vv_goto hC 98 d_X_writeText_121 (by decide) ?_
      exact vv_sub [0, 1, 2] (by rfl) (ih u_20.1 u_20.2 (v2 + (1 : Int32)) hw)
set_option maxHeartbeats 4000000 in
set_option maxRecDepth 100000 in
theorem l_X_writeText_L126 {p : Program} {l : Launch} {e : Env} {s : State} {m : MethodId} {args : Array Value} {below : List Frame} {meth : Method} {c : Code} {D : va_G} {cA : Nat → ClassId} {sx : Nat → Nat} {A : Nat → Prop} (a_X a_C : Nat → Nat) (I_C : (Nat → Int32)) (A_C : (Nat → Nat → Int32)) (Q : (Nat → Int32) → (Nat → Nat → Int32) → Prop) (X126 : (Nat → Int32) → (Nat → Nat → Int32) → Prop) (hC : CX p s m args meth c b_X_writeText R_X TB 3 D vwCl (tyl cA) A (SPl sx) none) (hX126 : ∀ (I_X : (Nat → Int32)) (A_X : (Nat → Nat → Int32)), X126 I_X A_X → VV p l e ({ frames := 5, cells := 0, slots := 0, locals := 108 } : Room) s m args below meth c 3 D vwCl A 0 0 (QV below args s D vwCl (tyl cA) A (fun (u : (Nat → Int32) × (Nat → Nat → Int32)) => Q u.1 u.2) (fun u : (Nat → Int32) × (Nat → Nat → Int32) => kc_X cA a_X u.1 u.2 ++ kc_C cA a_C I_C A_C)) (kc_X cA a_X I_X A_X ++ kc_C cA a_C I_C A_C) 178 [(0, .ref (a_X 0)), (1, .ref (a_C 0))] []) : ∀ (n126 : Nat) (I_X : (Nat → Int32)) (A_X : (Nat → Nat → Int32)) (v2 : Int32), wp_X_writeText_L126 I_C A_C Q X126 n126 I_X A_X v2 → VV p l e ({ frames := 5, cells := 0, slots := 0, locals := 108 } : Room) s m args below meth c 3 D vwCl A 0 0 (QV below args s D vwCl (tyl cA) A (fun (u : (Nat → Int32) × (Nat → Nat → Int32)) => Q u.1 u.2) (fun u : (Nat → Int32) × (Nat → Nat → Int32) => kc_X cA a_X u.1 u.2 ++ kc_C cA a_C I_C A_C)) (kc_X cA a_X I_X A_X ++ kc_C cA a_C I_C A_C) 126 [(0, .ref (a_X 0)), (1, .ref (a_C 0)), (2, .int v2)] [] := by
  intro n126
  induction n126 with
  | zero =>
    intro I_X A_X v2 hw
    exact absurd hw (fun z => z)
  | succ n126 ih =>
    intro I_X A_X v2 hw
    unfold wp_X_writeText_L126 at hw
    refine vv_iload_n hC d_X_writeText_126 2 rfl rfl ?_
    refine vv_aload_n hC d_X_writeText_127 1 rfl rfl ?_
    refine vv_get hC (v := .int (I_C 4)) hin_C 3 4 tb_168 d_X_writeText_128 rfl rfl (by decide) rfl rfl ?_
    refine vv_icmp_ge hC 178 d_X_writeText_131 (by decide) (fun cd => ?_) (fun cd => ?_)
    · have hw := hw.1 cd
      exact vv_sub [0, 1] (by rfl) (hX126 I_X A_X hw)
    · have hw := hw.2 cd
      refine vv_aload_n hC d_X_writeText_134 0 rfl rfl ?_
      refine vv_iconst hC d_X_writeText_135 (v := (2 : Int32)) (by decide) ?_
      refine vv_aload_n hC d_X_writeText_136 1 rfl rfl ?_
      refine vv_get hC (v := .ref (a_C 5)) hin_C 3 10 tb_188 d_X_writeText_137 rfl rfl (by decide) rfl rfl ?_
      refine vv_iload_n hC d_X_writeText_140 2 rfl rfl ?_
      obtain ⟨hin_25, hw⟩ := hw
      refine vv_iald hC 8 0 d_X_writeText_141 rfl rfl hin_25 ?_
      refine vv_imul hC d_X_writeText_142 ?_
      refine vv_bipush hC d_X_writeText_143 (v := (32 : Int32)) (by decide) ?_
      refine vv_callVV (wr := kc_C cA a_C I_C A_C) hC (c_X_putNumber l D cA sx a_X I_X A_X ((2 : Int32) * ((A_C 4) (v2).toNatClampNeg)) (32 : Int32) _ hw) (cw_X_41 hC) d_X_writeText_145 [] [0, 1, 2] [3, 4, 5, 6, 7, 8, 9, 10, 11, 12, 13, 14, 15] [13, 14, 15, 0, 1, 2, 3, 4, 5, 6, 7, 8, 9, 10, 11, 12] (fun u_26 : (Nat → Int32) × (Nat → Nat → Int32) => kc_X cA a_X u_26.1 u_26.2 ++ kc_C cA a_C I_C A_C) ⟨Nat.zero_le _, Nat.zero_le _⟩ rfl rfl (fun _ => rfl) rfl rfl rfl rfl rfl rfl rfl rfl (Nat.le_of_ble_eq_true rfl) (fun u_26 hw => ?_)
      refine vv_aload_n hC d_X_writeText_148 0 rfl rfl ?_
      refine vv_aload_n hC d_X_writeText_149 1 rfl rfl ?_
      refine vv_get hC (v := .ref (a_C 6)) hin_C 3 11 tb_192 d_X_writeText_150 rfl rfl (by decide) rfl rfl ?_
      refine vv_iload_n hC d_X_writeText_153 2 rfl rfl ?_
      refine vv_iald hC 9 0 d_X_writeText_154 rfl rfl hin_25 ?_
      refine vv_bipush hC d_X_writeText_155 (v := (32 : Int32)) (by decide) ?_
      refine vv_callVV (wr := kc_C cA a_C I_C A_C) hC (c_X_putNumber l D cA sx a_X u_26.1 u_26.2 ((A_C 5) (v2).toNatClampNeg) (32 : Int32) _ hw) (cw_X_41 hC) d_X_writeText_157 [] [0, 1, 2] [3, 4, 5, 6, 7, 8, 9, 10, 11, 12, 13, 14, 15] [13, 14, 15, 0, 1, 2, 3, 4, 5, 6, 7, 8, 9, 10, 11, 12] (fun u_29 : (Nat → Int32) × (Nat → Nat → Int32) => kc_X cA a_X u_29.1 u_29.2 ++ kc_C cA a_C I_C A_C) ⟨Nat.zero_le _, Nat.zero_le _⟩ rfl rfl (fun _ => rfl) rfl rfl rfl rfl rfl rfl rfl rfl (Nat.le_of_ble_eq_true rfl) (fun u_29 hw => ?_)
      refine vv_aload_n hC d_X_writeText_160 0 rfl rfl ?_
      refine vv_aload_n hC d_X_writeText_161 1 rfl rfl ?_
      refine vv_get hC (v := .ref (a_C 7)) hin_C 3 12 tb_196 d_X_writeText_162 rfl rfl (by decide) rfl rfl ?_
      refine vv_iload_n hC d_X_writeText_165 2 rfl rfl ?_
      refine vv_iald hC 10 0 d_X_writeText_166 rfl rfl hin_25 ?_
      refine vv_bipush hC d_X_writeText_167 (v := (10 : Int32)) (by decide) ?_
      refine vv_callVV (wr := kc_C cA a_C I_C A_C) hC (c_X_putNumber l D cA sx a_X u_29.1 u_29.2 ((A_C 6) (v2).toNatClampNeg) (10 : Int32) _ hw) (cw_X_41 hC) d_X_writeText_169 [] [0, 1, 2] [3, 4, 5, 6, 7, 8, 9, 10, 11, 12, 13, 14, 15] [13, 14, 15, 0, 1, 2, 3, 4, 5, 6, 7, 8, 9, 10, 11, 12] (fun u_32 : (Nat → Int32) × (Nat → Nat → Int32) => kc_X cA a_X u_32.1 u_32.2 ++ kc_C cA a_C I_C A_C) ⟨Nat.zero_le _, Nat.zero_le _⟩ rfl rfl (fun _ => rfl) rfl rfl rfl rfl rfl rfl rfl rfl (Nat.le_of_ble_eq_true rfl) (fun u_32 hw => ?_)
      refine vv_iinc hC d_X_writeText_172 2 rfl (v := (v2 + (1 : Int32))) rfl (by decide) [1, 2, 0] (L2 := [(0, .ref (a_X 0)), (1, .ref (a_C 0)), (2, .int (v2 + (1 : Int32)))]) rfl ?_
      refine vv_goto hC 126 d_X_writeText_175 (by decide) ?_
      exact vv_sub [0, 1, 2] (by rfl) (ih u_32.1 u_32.2 (v2 + (1 : Int32)) hw)
set_option maxHeartbeats 4000000 in
set_option maxRecDepth 100000 in
theorem c_X_writeText (l : Launch) (D : va_G) (cA : Nat → ClassId) (sx : Nat → Nat) (a_X a_C : Nat → Nat) (I_X : (Nat → Int32)) (A_X : (Nat → Nat → Int32)) (I_C : (Nat → Int32)) (A_C : (Nat → Nat → Int32)) (Q : (Nat → Int32) → (Nat → Nat → Int32) → Prop) (hw : wp_X_writeText I_X A_X I_C A_C Q) : MetV l y_X_writeText (Cond.code y_X_writeText b_X_writeText 3 none :: TB) ({ frames := 5, cells := 0, slots := 0, locals := 108 } : Room) D vwCl (tyl cA) (SPl sx) [.ref (a_X 0), .ref (a_C 0)] (kc_X cA a_X I_X A_X ++ kc_C cA a_C I_C A_C) (fun (u : (Nat → Int32) × (Nat → Nat → Int32)) => Q u.1 u.2) (fun u : (Nat → Int32) × (Nat → Nat → Int32) => kc_X cA a_X u.1 u.2 ++ kc_C cA a_C I_C A_C) := by
  refine vv_entryV (cc := b_X_writeText) (own := R_X) (L := [(0, .ref (a_X 0)), (1, .ref (a_C 0))]) (by decide) rfl rfl (Nat.le_of_ble_eq_true rfl) rfl (fun p e s m args below meth c A hC => ?_)
  unfold wp_X_writeText at hw
  refine vv_aload_n hC d_X_writeText_0 0 rfl rfl ?_
  refine vv_get hC (v := .int (I_X 1)) hin_X 0 3 tb_132 d_X_writeText_1 rfl rfl (by decide) rfl rfl ?_
  refine vv_if_eq hC 8 d_X_writeText_4 (by decide) (fun cd => ?_) (fun cd => ?_)
  · have hw := hw.1 cd
    refine vv_aload_n hC d_X_writeText_8 0 rfl rfl ?_
    refine vv_iconst hC d_X_writeText_9 (v := (1 : Int32)) (by decide) ?_
    refine vv_put hC hin_X ty_X tyok_X nmok_X 0 3 tb_132 d_X_writeText_10 rfl rfl (by decide) rfl rfl rfl rfl rfl (Nat.le_of_ble_eq_true rfl) (ws2 := kc_X cA a_X (va_up I_X 1 (1 : Int32)) A_X ++ kc_C cA a_C I_C A_C) (st_XC_XI1 ..) ?_
    refine vv_aload_n hC d_X_writeText_13 0 rfl rfl ?_
    refine vv_aload_n hC d_X_writeText_14 1 rfl rfl ?_
    refine vv_bipush hC d_X_writeText_15 (v := (97 : Int32)) (by decide) ?_
    refine vv_aload_n hC d_X_writeText_17 1 rfl rfl ?_
    refine vv_get hC (v := .int (I_C 0)) hin_C 3 0 tb_149 d_X_writeText_18 rfl rfl (by decide) rfl rfl ?_
    refine vv_callVV (wr := []) hC (c_X_putHeader l D cA sx a_X a_C (va_up I_X 1 (1 : Int32)) A_X I_C A_C (97 : Int32) (I_C 0) _ hw) (cw_X_31 hC) d_X_writeText_21 [] [0, 1, 2, 3, 4, 5, 6, 7, 8, 9, 10, 11, 12, 13, 14, 15] [] [0, 1, 2, 3, 4, 5, 6, 7, 8, 9, 10, 11, 12, 13, 14, 15] (fun u_1 : (Nat → Int32) × (Nat → Nat → Int32) => kc_X cA a_X u_1.1 u_1.2 ++ kc_C cA a_C I_C A_C) ⟨Nat.zero_le _, Nat.zero_le _⟩ rfl rfl (fun _ => rfl) rfl rfl rfl rfl rfl rfl rfl rfl (Nat.le_of_ble_eq_true rfl) (fun u_1 hw => ?_)
    refine vv_iconst hC d_X_writeText_24 (v := (0 : Int32)) (by decide) ?_
    refine vv_istore_n hC d_X_writeText_25 rfl (by decide) [1, 2, 0] (L2 := [(0, .ref (a_X 0)), (1, .ref (a_C 0)), (2, .int (0 : Int32))]) rfl ?_
    obtain ⟨m26, hw⟩ := hw
    refine vv_sub [0, 1, 2] (by rfl) (l_X_writeText_L26 a_X a_C I_C A_C Q _ hC (fun I_X_8 A_X_9 hw => ?_) m26 u_1.1 u_1.2 (0 : Int32) hw)
    refine vv_iconst hC d_X_writeText_54 (v := (0 : Int32)) (by decide) ?_
    refine vv_istore_n hC d_X_writeText_55 rfl (by decide) [1, 2, 0] (L2 := [(0, .ref (a_X 0)), (1, .ref (a_C 0)), (2, .int (0 : Int32))]) rfl ?_
    obtain ⟨m56, hw⟩ := hw
    refine vv_sub [0, 1, 2] (by rfl) (l_X_writeText_L56 a_X a_C I_C A_C Q _ hC (fun I_X_17 A_X_18 hw => ?_) m56 I_X_8 A_X_9 (0 : Int32) hw)
    refine vv_iconst hC d_X_writeText_96 (v := (0 : Int32)) (by decide) ?_
    refine vv_istore_n hC d_X_writeText_97 rfl (by decide) [1, 2, 0] (L2 := [(0, .ref (a_X 0)), (1, .ref (a_C 0)), (2, .int (0 : Int32))]) rfl ?_
    obtain ⟨m98, hw⟩ := hw
    refine vv_sub [0, 1, 2] (by rfl) (l_X_writeText_L98 a_X a_C I_C A_C Q _ hC (fun I_X_23 A_X_24 hw => ?_) m98 I_X_17 A_X_18 (0 : Int32) hw)
    refine vv_iconst hC d_X_writeText_124 (v := (0 : Int32)) (by decide) ?_
    refine vv_istore_n hC d_X_writeText_125 rfl (by decide) [1, 2, 0] (L2 := [(0, .ref (a_X 0)), (1, .ref (a_C 0)), (2, .int (0 : Int32))]) rfl ?_
    obtain ⟨m126, hw⟩ := hw
    refine vv_sub [0, 1, 2] (by rfl) (l_X_writeText_L126 a_X a_C I_C A_C Q _ hC (fun I_X_35 A_X_36 hw => ?_) m126 I_X_23 A_X_24 (0 : Int32) hw)
    refine vv_aload_n hC d_X_writeText_178 0 rfl rfl ?_
    refine vv_aload_n hC d_X_writeText_179 1 rfl rfl ?_
    refine vv_callVV (wr := []) hC (c_X_putSymbols l D cA sx a_X a_C I_X_35 A_X_36 I_C A_C _ hw) (cw_X_72 hC) d_X_writeText_180 [] [0, 1, 2, 3, 4, 5, 6, 7, 8, 9, 10, 11, 12, 13, 14, 15] [] [0, 1, 2, 3, 4, 5, 6, 7, 8, 9, 10, 11, 12, 13, 14, 15] (fun u_37 : (Nat → Int32) × (Nat → Nat → Int32) => kc_X cA a_X u_37.1 u_37.2 ++ kc_C cA a_C I_C A_C) ⟨Nat.zero_le _, Nat.zero_le _⟩ rfl rfl (fun _ => rfl) rfl rfl rfl rfl rfl rfl rfl rfl (Nat.le_of_ble_eq_true rfl) (fun u_37 hw => ?_)
    exact vv_vret hC d_X_writeText_183 (u_37.1, u_37.2) hw rfl
  · have hw := hw.2 cd
    exact vv_vret hC d_X_writeText_7 (I_X, A_X) hw rfl
set_option maxHeartbeats 4000000 in
set_option maxRecDepth 100000 in
theorem c_X_byteOf (l : Launch) (D : va_G) (cA : Nat → ClassId) (sx : Nat → Nat) (a_X : Nat → Nat) (I_X : (Nat → Int32)) (A_X : (Nat → Nat → Int32)) (x1 : Int32) (Q : Int32 → Prop) (hw : wp_X_byteOf I_X A_X x1 Q) : MetI l y_X_byteOf (Cond.code y_X_byteOf b_X_byteOf 2 (some .int) :: TB) ({ frames := 0, cells := 0, slots := 0, locals := 0 } : Room) D vwCl (tyl cA) (SPl sx) [.ref (a_X 0), .int x1] (kc_X cA a_X I_X A_X) (fun (r : Int32) (u : Unit) => Q r) (fun u : Unit => kc_X cA a_X I_X A_X) := by
  refine vv_entryI (cc := b_X_byteOf) (own := R_X) (L := [(0, .ref (a_X 0)), (1, .int x1)]) (by decide) rfl rfl (Nat.le_of_ble_eq_true rfl) rfl (fun p e s m args below meth c A hC => ?_)
  unfold wp_X_byteOf at hw
  refine vv_iload_n hC d_X_byteOf_0 1 rfl rfl ?_
  refine vv_if_lt hC 12 d_X_byteOf_1 (by decide) (fun cd => ?_) (fun cd => ?_)
  · have hw := hw.1 cd
    refine vv_iconst hC d_X_byteOf_12 (v := (-1 : Int32)) (by decide) ?_
    refine vv_goto hC 22 d_X_byteOf_13 (by decide) ?_
    exact vv_iret hC d_X_byteOf_22 () hw rfl
  · have hw := hw.2 cd
    refine vv_iload_n hC d_X_byteOf_4 1 rfl rfl ?_
    refine vv_aload_n hC d_X_byteOf_5 0 rfl rfl ?_
    refine vv_get hC (v := .int (I_X 0)) hin_X 0 2 tb_131 d_X_byteOf_6 rfl rfl (by decide) rfl rfl ?_
    refine vv_icmp_lt hC 16 d_X_byteOf_9 (by decide) (fun cd => ?_) (fun cd => ?_)
    · have hw := hw.1 cd
      refine vv_aload_n hC d_X_byteOf_16 0 rfl rfl ?_
      refine vv_get hC (v := .ref (a_X 1)) hin_X 0 0 tb_129 d_X_byteOf_17 rfl rfl (by decide) rfl rfl ?_
      refine vv_iload_n hC d_X_byteOf_20 1 rfl rfl ?_
      obtain ⟨hin_1, hw⟩ := hw
      refine vv_iald hC 1 0 d_X_byteOf_21 rfl rfl hin_1 ?_
      exact vv_iret hC d_X_byteOf_22 () hw rfl
    · have hw := hw.2 cd
      refine vv_iconst hC d_X_byteOf_12 (v := (-1 : Int32)) (by decide) ?_
      refine vv_goto hC 22 d_X_byteOf_13 (by decide) ?_
      exact vv_iret hC d_X_byteOf_22 () hw rfl
set_option maxHeartbeats 4000000 in
set_option maxRecDepth 100000 in
theorem l_X_numberAnew_L4 {p : Program} {l : Launch} {e : Env} {s : State} {m : MethodId} {args : Array Value} {below : List Frame} {meth : Method} {c : Code} {D : va_G} {cA : Nat → ClassId} {sx : Nat → Nat} {A : Nat → Prop} (a_X a_C : Nat → Nat) (I_X : (Nat → Int32)) (I_C : (Nat → Int32)) (A_C : (Nat → Nat → Int32)) (Q : (Nat → Nat → Int32) → Prop) (X4 : (Nat → Nat → Int32) → Int32 → Prop) (hC : CX p s m args meth c b_X_numberAnew R_X TB 4 D vwCl (tyl cA) A (SPl sx) none) (hX4 : ∀ (A_X : (Nat → Nat → Int32)) (v2 : Int32), X4 A_X v2 → VV p l e ({ frames := 0, cells := 0, slots := 0, locals := 0 } : Room) s m args below meth c 4 D vwCl A 0 0 (QV below args s D vwCl (tyl cA) A (fun (u : (Nat → Nat → Int32)) => Q u) (fun u : (Nat → Nat → Int32) => kc_X cA a_X I_X u ++ kc_C cA a_C I_C A_C)) (kc_X cA a_X I_X A_X ++ kc_C cA a_C I_C A_C) 33 [(0, .ref (a_X 0)), (1, .ref (a_C 0)), (2, .int v2)] []) : ∀ (n4 : Nat) (A_X : (Nat → Nat → Int32)) (v2 : Int32) (v3 : Int32), wp_X_numberAnew_L4 I_C A_C Q X4 n4 A_X v2 v3 → VV p l e ({ frames := 0, cells := 0, slots := 0, locals := 0 } : Room) s m args below meth c 4 D vwCl A 0 0 (QV below args s D vwCl (tyl cA) A (fun (u : (Nat → Nat → Int32)) => Q u) (fun u : (Nat → Nat → Int32) => kc_X cA a_X I_X u ++ kc_C cA a_C I_C A_C)) (kc_X cA a_X I_X A_X ++ kc_C cA a_C I_C A_C) 4 [(0, .ref (a_X 0)), (1, .ref (a_C 0)), (2, .int v2), (3, .int v3)] [] := by
  intro n4
  induction n4 with
  | zero =>
    intro A_X v2 v3 hw
    exact absurd hw (fun z => z)
  | succ n4 ih =>
    intro A_X v2 v3 hw
    unfold wp_X_numberAnew_L4 at hw
    refine vv_iload_n hC d_X_numberAnew_4 3 rfl rfl ?_
    refine vv_aload_n hC d_X_numberAnew_5 1 rfl rfl ?_
    refine vv_get hC (v := .int (I_C 1)) hin_C 3 1 tb_154 d_X_numberAnew_6 rfl rfl (by decide) rfl rfl ?_
    refine vv_icmp_ge hC 33 d_X_numberAnew_9 (by decide) (fun cd => ?_) (fun cd => ?_)
    · have hw := hw.1 cd
      exact vv_sub [0, 1, 2] (by rfl) (hX4 A_X v2 hw)
    · have hw := hw.2 cd
      refine vv_iinc hC d_X_numberAnew_12 2 rfl (v := (v2 + (1 : Int32))) rfl (by decide) [1, 2, 0, 3] (L2 := [(0, .ref (a_X 0)), (1, .ref (a_C 0)), (2, .int (v2 + (1 : Int32))), (3, .int v3)]) rfl ?_
      refine vv_aload_n hC d_X_numberAnew_15 0 rfl rfl ?_
      refine vv_get hC (v := .ref (a_X 2)) hin_X 0 1 tb_130 d_X_numberAnew_16 rfl rfl (by decide) rfl rfl ?_
      refine vv_aload_n hC d_X_numberAnew_19 1 rfl rfl ?_
      refine vv_get hC (v := .ref (a_C 1)) hin_C 3 6 tb_173 d_X_numberAnew_20 rfl rfl (by decide) rfl rfl ?_
      refine vv_iload_n hC d_X_numberAnew_23 3 rfl rfl ?_
      obtain ⟨hin_1, hw⟩ := hw
      refine vv_iald hC 4 0 d_X_numberAnew_24 rfl rfl hin_1 ?_
      refine vv_iload_n hC d_X_numberAnew_25 2 rfl rfl ?_
      obtain ⟨hin_2, hw⟩ := hw
      refine vv_iast hC 2 0 d_X_numberAnew_26 rfl rfl hin_2 (ws2 := kc_X cA a_X I_X (va_up A_X 1 (upd (A_X 1) (((A_C 0) (v3).toNatClampNeg)).toNatClampNeg (v2 + (1 : Int32)))) ++ kc_C cA a_C I_C A_C) (st_XC_XA1 ..) ?_
      refine vv_iinc hC d_X_numberAnew_27 3 rfl (v := (v3 + (1 : Int32))) rfl (by decide) [1, 2, 3, 0] (L2 := [(0, .ref (a_X 0)), (1, .ref (a_C 0)), (2, .int (v2 + (1 : Int32))), (3, .int (v3 + (1 : Int32)))]) rfl ?_
      refine vv_goto hC 4 d_X_numberAnew_30 (by decide) ?_
      exact vv_sub [0, 1, 2, 3] (by rfl) (ih (va_up A_X 1 (upd (A_X 1) (((A_C 0) (v3).toNatClampNeg)).toNatClampNeg (v2 + (1 : Int32)))) (v2 + (1 : Int32)) (v3 + (1 : Int32)) hw)
set_option maxHeartbeats 4000000 in
set_option maxRecDepth 100000 in
theorem l_X_numberAnew_L35 {p : Program} {l : Launch} {e : Env} {s : State} {m : MethodId} {args : Array Value} {below : List Frame} {meth : Method} {c : Code} {D : va_G} {cA : Nat → ClassId} {sx : Nat → Nat} {A : Nat → Prop} (a_X a_C : Nat → Nat) (I_X : (Nat → Int32)) (I_C : (Nat → Int32)) (A_C : (Nat → Nat → Int32)) (Q : (Nat → Nat → Int32) → Prop) (X35 : (Nat → Nat → Int32) → Int32 → Prop) (hC : CX p s m args meth c b_X_numberAnew R_X TB 4 D vwCl (tyl cA) A (SPl sx) none) (hX35 : ∀ (A_X : (Nat → Nat → Int32)) (v2 : Int32), X35 A_X v2 → VV p l e ({ frames := 0, cells := 0, slots := 0, locals := 0 } : Room) s m args below meth c 4 D vwCl A 0 0 (QV below args s D vwCl (tyl cA) A (fun (u : (Nat → Nat → Int32)) => Q u) (fun u : (Nat → Nat → Int32) => kc_X cA a_X I_X u ++ kc_C cA a_C I_C A_C)) (kc_X cA a_X I_X A_X ++ kc_C cA a_C I_C A_C) 64 [(0, .ref (a_X 0)), (1, .ref (a_C 0)), (2, .int v2)] []) : ∀ (n35 : Nat) (A_X : (Nat → Nat → Int32)) (v2 : Int32) (v3 : Int32), wp_X_numberAnew_L35 I_C A_C Q X35 n35 A_X v2 v3 → VV p l e ({ frames := 0, cells := 0, slots := 0, locals := 0 } : Room) s m args below meth c 4 D vwCl A 0 0 (QV below args s D vwCl (tyl cA) A (fun (u : (Nat → Nat → Int32)) => Q u) (fun u : (Nat → Nat → Int32) => kc_X cA a_X I_X u ++ kc_C cA a_C I_C A_C)) (kc_X cA a_X I_X A_X ++ kc_C cA a_C I_C A_C) 35 [(0, .ref (a_X 0)), (1, .ref (a_C 0)), (2, .int v2), (3, .int v3)] [] := by
  intro n35
  induction n35 with
  | zero =>
    intro A_X v2 v3 hw
    exact absurd hw (fun z => z)
  | succ n35 ih =>
    intro A_X v2 v3 hw
    unfold wp_X_numberAnew_L35 at hw
    refine vv_iload_n hC d_X_numberAnew_35 3 rfl rfl ?_
    refine vv_aload_n hC d_X_numberAnew_36 1 rfl rfl ?_
    refine vv_get hC (v := .int (I_C 2)) hin_C 3 2 tb_158 d_X_numberAnew_37 rfl rfl (by decide) rfl rfl ?_
    refine vv_icmp_ge hC 64 d_X_numberAnew_40 (by decide) (fun cd => ?_) (fun cd => ?_)
    · have hw := hw.1 cd
      exact vv_sub [0, 1, 2] (by rfl) (hX35 A_X v2 hw)
    · have hw := hw.2 cd
      refine vv_iinc hC d_X_numberAnew_43 2 rfl (v := (v2 + (1 : Int32))) rfl (by decide) [1, 2, 0, 3] (L2 := [(0, .ref (a_X 0)), (1, .ref (a_C 0)), (2, .int (v2 + (1 : Int32))), (3, .int v3)]) rfl ?_
      refine vv_aload_n hC d_X_numberAnew_46 0 rfl rfl ?_
      refine vv_get hC (v := .ref (a_X 2)) hin_X 0 1 tb_130 d_X_numberAnew_47 rfl rfl (by decide) rfl rfl ?_
      refine vv_aload_n hC d_X_numberAnew_50 1 rfl rfl ?_
      refine vv_get hC (v := .ref (a_C 2)) hin_C 3 7 tb_176 d_X_numberAnew_51 rfl rfl (by decide) rfl rfl ?_
      refine vv_iload_n hC d_X_numberAnew_54 3 rfl rfl ?_
      obtain ⟨hin_5, hw⟩ := hw
      refine vv_iald hC 5 0 d_X_numberAnew_55 rfl rfl hin_5 ?_
      refine vv_iload_n hC d_X_numberAnew_56 2 rfl rfl ?_
      obtain ⟨hin_6, hw⟩ := hw
      refine vv_iast hC 2 0 d_X_numberAnew_57 rfl rfl hin_6 (ws2 := kc_X cA a_X I_X (va_up A_X 1 (upd (A_X 1) (((A_C 1) (v3).toNatClampNeg)).toNatClampNeg (v2 + (1 : Int32)))) ++ kc_C cA a_C I_C A_C) (st_XC_XA1 ..) ?_
      refine vv_iinc hC d_X_numberAnew_58 3 rfl (v := (v3 + (1 : Int32))) rfl (by decide) [1, 2, 3, 0] (L2 := [(0, .ref (a_X 0)), (1, .ref (a_C 0)), (2, .int (v2 + (1 : Int32))), (3, .int (v3 + (1 : Int32)))]) rfl ?_
      refine vv_goto hC 35 d_X_numberAnew_61 (by decide) ?_
      exact vv_sub [0, 1, 2, 3] (by rfl) (ih (va_up A_X 1 (upd (A_X 1) (((A_C 1) (v3).toNatClampNeg)).toNatClampNeg (v2 + (1 : Int32)))) (v2 + (1 : Int32)) (v3 + (1 : Int32)) hw)
set_option maxHeartbeats 4000000 in
set_option maxRecDepth 100000 in
theorem l_X_numberAnew_L66 {p : Program} {l : Launch} {e : Env} {s : State} {m : MethodId} {args : Array Value} {below : List Frame} {meth : Method} {c : Code} {D : va_G} {cA : Nat → ClassId} {sx : Nat → Nat} {A : Nat → Prop} (a_X a_C : Nat → Nat) (I_X : (Nat → Int32)) (I_C : (Nat → Int32)) (A_C : (Nat → Nat → Int32)) (Q : (Nat → Nat → Int32) → Prop) (X66 : (Nat → Nat → Int32) → Prop) (hC : CX p s m args meth c b_X_numberAnew R_X TB 4 D vwCl (tyl cA) A (SPl sx) none) (hX66 : ∀ (A_X : (Nat → Nat → Int32)), X66 A_X → VV p l e ({ frames := 0, cells := 0, slots := 0, locals := 0 } : Room) s m args below meth c 4 D vwCl A 0 0 (QV below args s D vwCl (tyl cA) A (fun (u : (Nat → Nat → Int32)) => Q u) (fun u : (Nat → Nat → Int32) => kc_X cA a_X I_X u ++ kc_C cA a_C I_C A_C)) (kc_X cA a_X I_X A_X ++ kc_C cA a_C I_C A_C) 100 [] []) : ∀ (n66 : Nat) (A_X : (Nat → Nat → Int32)) (v2 : Int32) (v3 : Int32), wp_X_numberAnew_L66 I_C A_C Q X66 n66 A_X v2 v3 → VV p l e ({ frames := 0, cells := 0, slots := 0, locals := 0 } : Room) s m args below meth c 4 D vwCl A 0 0 (QV below args s D vwCl (tyl cA) A (fun (u : (Nat → Nat → Int32)) => Q u) (fun u : (Nat → Nat → Int32) => kc_X cA a_X I_X u ++ kc_C cA a_C I_C A_C)) (kc_X cA a_X I_X A_X ++ kc_C cA a_C I_C A_C) 66 [(0, .ref (a_X 0)), (1, .ref (a_C 0)), (2, .int v2), (3, .int v3)] [] := by
  intro n66
  induction n66 with
  | zero =>
    intro A_X v2 v3 hw
    exact absurd hw (fun z => z)
  | succ n66 ih =>
    intro A_X v2 v3 hw
    unfold wp_X_numberAnew_L66 at hw
    refine vv_iload_n hC d_X_numberAnew_66 3 rfl rfl ?_
    refine vv_aload_n hC d_X_numberAnew_67 1 rfl rfl ?_
    refine vv_get hC (v := .int (I_C 4)) hin_C 3 4 tb_168 d_X_numberAnew_68 rfl rfl (by decide) rfl rfl ?_
    refine vv_icmp_ge hC 100 d_X_numberAnew_71 (by decide) (fun cd => ?_) (fun cd => ?_)
    · have hw := hw.1 cd
      exact vv_sub [] (by rfl) (hX66 A_X hw)
    · have hw := hw.2 cd
      refine vv_iinc hC d_X_numberAnew_74 2 rfl (v := (v2 + (1 : Int32))) rfl (by decide) [1, 2, 0, 3] (L2 := [(0, .ref (a_X 0)), (1, .ref (a_C 0)), (2, .int (v2 + (1 : Int32))), (3, .int v3)]) rfl ?_
      refine vv_aload_n hC d_X_numberAnew_77 0 rfl rfl ?_
      refine vv_get hC (v := .ref (a_X 2)) hin_X 0 1 tb_130 d_X_numberAnew_78 rfl rfl (by decide) rfl rfl ?_
      refine vv_aload_n hC d_X_numberAnew_81 1 rfl rfl ?_
      refine vv_get hC (v := .ref (a_C 5)) hin_C 3 10 tb_188 d_X_numberAnew_82 rfl rfl (by decide) rfl rfl ?_
      refine vv_aload_n hC d_X_numberAnew_85 1 rfl rfl ?_
      refine vv_get hC (v := .ref (a_C 8)) hin_C 3 13 tb_200 d_X_numberAnew_86 rfl rfl (by decide) rfl rfl ?_
      refine vv_iload_n hC d_X_numberAnew_89 3 rfl rfl ?_
      obtain ⟨hin_9, hw⟩ := hw
      refine vv_iald hC 11 0 d_X_numberAnew_90 rfl rfl hin_9 ?_
      obtain ⟨hin_10, hw⟩ := hw
      refine vv_iald hC 8 0 d_X_numberAnew_91 rfl rfl hin_10 ?_
      refine vv_iload_n hC d_X_numberAnew_92 2 rfl rfl ?_
      obtain ⟨hin_11, hw⟩ := hw
      refine vv_iast hC 2 0 d_X_numberAnew_93 rfl rfl hin_11 (ws2 := kc_X cA a_X I_X (va_up A_X 1 (upd (A_X 1) (((A_C 4) (((A_C 7) (v3).toNatClampNeg)).toNatClampNeg)).toNatClampNeg (v2 + (1 : Int32)))) ++ kc_C cA a_C I_C A_C) (st_XC_XA1 ..) ?_
      refine vv_iinc hC d_X_numberAnew_94 3 rfl (v := (v3 + (1 : Int32))) rfl (by decide) [1, 2, 3, 0] (L2 := [(0, .ref (a_X 0)), (1, .ref (a_C 0)), (2, .int (v2 + (1 : Int32))), (3, .int (v3 + (1 : Int32)))]) rfl ?_
      refine vv_goto hC 66 d_X_numberAnew_97 (by decide) ?_
      exact vv_sub [0, 1, 2, 3] (by rfl) (ih (va_up A_X 1 (upd (A_X 1) (((A_C 4) (((A_C 7) (v3).toNatClampNeg)).toNatClampNeg)).toNatClampNeg (v2 + (1 : Int32)))) (v2 + (1 : Int32)) (v3 + (1 : Int32)) hw)
set_option maxHeartbeats 4000000 in
set_option maxRecDepth 100000 in
theorem c_X_numberAnew (l : Launch) (D : va_G) (cA : Nat → ClassId) (sx : Nat → Nat) (a_X a_C : Nat → Nat) (I_X : (Nat → Int32)) (A_X : (Nat → Nat → Int32)) (I_C : (Nat → Int32)) (A_C : (Nat → Nat → Int32)) (Q : (Nat → Nat → Int32) → Prop) (hw : wp_X_numberAnew A_X I_C A_C Q) : MetV l y_X_numberAnew (Cond.code y_X_numberAnew b_X_numberAnew 4 none :: TB) ({ frames := 0, cells := 0, slots := 0, locals := 0 } : Room) D vwCl (tyl cA) (SPl sx) [.ref (a_X 0), .ref (a_C 0)] (kc_X cA a_X I_X A_X ++ kc_C cA a_C I_C A_C) (fun (u : (Nat → Nat → Int32)) => Q u) (fun u : (Nat → Nat → Int32) => kc_X cA a_X I_X u ++ kc_C cA a_C I_C A_C) := by
  refine vv_entryV (cc := b_X_numberAnew) (own := R_X) (L := [(0, .ref (a_X 0)), (1, .ref (a_C 0))]) (by decide) rfl rfl (Nat.le_of_ble_eq_true rfl) rfl (fun p e s m args below meth c A hC => ?_)
  unfold wp_X_numberAnew at hw
  refine vv_iconst hC d_X_numberAnew_0 (v := (0 : Int32)) (by decide) ?_
  refine vv_istore_n hC d_X_numberAnew_1 rfl (by decide) [1, 2, 0] (L2 := [(0, .ref (a_X 0)), (1, .ref (a_C 0)), (2, .int (0 : Int32))]) rfl ?_
  refine vv_iconst hC d_X_numberAnew_2 (v := (0 : Int32)) (by decide) ?_
  refine vv_istore_n hC d_X_numberAnew_3 rfl (by decide) [1, 2, 3, 0] (L2 := [(0, .ref (a_X 0)), (1, .ref (a_C 0)), (2, .int (0 : Int32)), (3, .int (0 : Int32))]) rfl ?_
  obtain ⟨m4, hw⟩ := hw
  refine vv_sub [0, 1, 2, 3] (by rfl) (l_X_numberAnew_L4 a_X a_C I_X I_C A_C Q _ hC (fun A_X_3 v2_4 hw => ?_) m4 A_X (0 : Int32) (0 : Int32) hw)
  refine vv_iconst hC d_X_numberAnew_33 (v := (0 : Int32)) (by decide) ?_
  refine vv_istore_n hC d_X_numberAnew_34 rfl (by decide) [1, 2, 3, 0] (L2 := [(0, .ref (a_X 0)), (1, .ref (a_C 0)), (2, .int v2_4), (3, .int (0 : Int32))]) rfl ?_
  obtain ⟨m35, hw⟩ := hw
  refine vv_sub [0, 1, 2, 3] (by rfl) (l_X_numberAnew_L35 a_X a_C I_X I_C A_C Q _ hC (fun A_X_7 v2_8 hw => ?_) m35 A_X_3 v2_4 (0 : Int32) hw)
  refine vv_iconst hC d_X_numberAnew_64 (v := (0 : Int32)) (by decide) ?_
  refine vv_istore_n hC d_X_numberAnew_65 rfl (by decide) [1, 2, 3, 0] (L2 := [(0, .ref (a_X 0)), (1, .ref (a_C 0)), (2, .int v2_8), (3, .int (0 : Int32))]) rfl ?_
  obtain ⟨m66, hw⟩ := hw
  refine vv_sub [0, 1, 2, 3] (by rfl) (l_X_numberAnew_L66 a_X a_C I_X I_C A_C Q _ hC (fun A_X_12 hw => ?_) m66 A_X_7 v2_8 (0 : Int32) hw)
  exact vv_vret hC d_X_numberAnew_100 A_X_12 hw rfl
set_option maxHeartbeats 4000000 in
set_option maxRecDepth 100000 in
theorem c_X_newLiteral (l : Launch) (D : va_G) (cA : Nat → ClassId) (sx : Nat → Nat) (a_X : Nat → Nat) (I_X : (Nat → Int32)) (A_X : (Nat → Nat → Int32)) (x1 : Int32) (Q : Int32 → Prop) (hw : wp_X_newLiteral A_X x1 Q) : MetI l y_X_newLiteral (Cond.code y_X_newLiteral b_X_newLiteral 2 (some .int) :: TB) ({ frames := 0, cells := 0, slots := 0, locals := 0 } : Room) D vwCl (tyl cA) (SPl sx) [.ref (a_X 0), .int x1] (kc_X cA a_X I_X A_X) (fun (r : Int32) (u : Unit) => Q r) (fun u : Unit => kc_X cA a_X I_X A_X) := by
  refine vv_entryI (cc := b_X_newLiteral) (own := R_X) (L := [(0, .ref (a_X 0)), (1, .int x1)]) (by decide) rfl rfl (Nat.le_of_ble_eq_true rfl) rfl (fun p e s m args below meth c A hC => ?_)
  unfold wp_X_newLiteral at hw
  refine vv_iconst hC d_X_newLiteral_0 (v := (2 : Int32)) (by decide) ?_
  refine vv_aload_n hC d_X_newLiteral_1 0 rfl rfl ?_
  refine vv_get hC (v := .ref (a_X 2)) hin_X 0 1 tb_130 d_X_newLiteral_2 rfl rfl (by decide) rfl rfl ?_
  refine vv_iload_n hC d_X_newLiteral_5 1 rfl rfl ?_
  refine vv_iconst hC d_X_newLiteral_6 (v := (1 : Int32)) (by decide) ?_
  refine vv_ishr hC d_X_newLiteral_7 ?_
  obtain ⟨hin_1, hw⟩ := hw
  refine vv_iald hC 2 0 d_X_newLiteral_8 rfl rfl hin_1 ?_
  refine vv_imul hC d_X_newLiteral_9 ?_
  refine vv_iload_n hC d_X_newLiteral_10 1 rfl rfl ?_
  refine vv_iconst hC d_X_newLiteral_11 (v := (1 : Int32)) (by decide) ?_
  refine vv_iand hC d_X_newLiteral_12 ?_
  refine vv_iadd hC d_X_newLiteral_13 ?_
  exact vv_iret hC d_X_newLiteral_14 () hw rfl
set_option maxHeartbeats 4000000 in
set_option maxRecDepth 100000 in
theorem c_X_putDelta (l : Launch) (D : va_G) (cA : Nat → ClassId) (sx : Nat → Nat) (a_X : Nat → Nat) (I_X : (Nat → Int32)) (A_X : (Nat → Nat → Int32)) (x1 : Int32) (Q : (Nat → Int32) → (Nat → Nat → Int32) → Prop) (hw : wp_X_putDelta I_X A_X x1 Q) : MetV l y_X_putDelta (Cond.code y_X_putDelta b_X_putDelta 2 none :: TB) ({ frames := 1, cells := 0, slots := 0, locals := 21 } : Room) D vwCl (tyl cA) (SPl sx) [.ref (a_X 0), .int x1] (kc_X cA a_X I_X A_X) (fun (u : (Nat → Int32) × (Nat → Nat → Int32)) => Q u.1 u.2) (fun u : (Nat → Int32) × (Nat → Nat → Int32) => kc_X cA a_X u.1 u.2) := by
  refine vv_entryV (cc := b_X_putDelta) (own := R_X) (L := [(0, .ref (a_X 0)), (1, .int x1)]) (by decide) rfl rfl (Nat.le_of_ble_eq_true rfl) rfl (fun p e s m args below meth c A hC => ?_)
  unfold wp_X_putDelta at hw
  refine vv_iload_n hC d_X_putDelta_0 1 rfl rfl ?_
  refine vv_sipush hC d_X_putDelta_1 (v := (128 : Int32)) (by decide) ?_
  refine vv_icmp_lt hC 30 d_X_putDelta_4 (by decide) (fun cd => ?_) (fun cd => ?_)
  · have hw := hw.1 cd
    refine vv_aload_n hC d_X_putDelta_30 0 rfl rfl ?_
    refine vv_iload_n hC d_X_putDelta_31 1 rfl rfl ?_
    refine vv_callVV (wr := []) hC (c_X_put l D cA sx a_X I_X A_X x1 _ hw) (cw_X_90 hC) d_X_putDelta_32 [] [0, 1, 2] [] [0, 1, 2] (fun u_1 : (Nat → Int32) × (Nat → Nat → Int32) => kc_X cA a_X u_1.1 u_1.2) ⟨Nat.zero_le _, Nat.zero_le _⟩ rfl rfl (fun _ => rfl) rfl rfl rfl rfl rfl rfl rfl rfl (Nat.le_of_ble_eq_true rfl) (fun u_1 hw => ?_)
    exact vv_vret hC d_X_putDelta_35 (u_1.1, u_1.2) hw rfl
  · have hw := hw.2 cd
    refine vv_aload_n hC d_X_putDelta_7 0 rfl rfl ?_
    refine vv_sipush hC d_X_putDelta_8 (v := (128 : Int32)) (by decide) ?_
    refine vv_iload_n hC d_X_putDelta_11 1 rfl rfl ?_
    refine vv_bipush hC d_X_putDelta_12 (v := (127 : Int32)) (by decide) ?_
    refine vv_iand hC d_X_putDelta_14 ?_
    refine vv_iadd hC d_X_putDelta_15 ?_
    refine vv_callVV (wr := []) hC (c_X_put l D cA sx a_X I_X A_X ((128 : Int32) + (x1 &&& (127 : Int32))) _ hw) (cw_X_90 hC) d_X_putDelta_16 [] [0, 1, 2] [] [0, 1, 2] (fun u_4 : (Nat → Int32) × (Nat → Nat → Int32) => kc_X cA a_X u_4.1 u_4.2) ⟨Nat.zero_le _, Nat.zero_le _⟩ rfl rfl (fun _ => rfl) rfl rfl rfl rfl rfl rfl rfl rfl (Nat.le_of_ble_eq_true rfl) (fun u_4 hw => ?_)
    refine vv_aload_n hC d_X_putDelta_19 0 rfl rfl ?_
    refine vv_iload_n hC d_X_putDelta_20 1 rfl rfl ?_
    refine vv_bipush hC d_X_putDelta_21 (v := (7 : Int32)) (by decide) ?_
    refine vv_ishr hC d_X_putDelta_23 ?_
    refine vv_callVV (wr := []) hC (c_X_put l D cA sx a_X u_4.1 u_4.2 (x1 >>> ((7 : Int32) &&& 31)) _ hw) (cw_X_90 hC) d_X_putDelta_24 [] [0, 1, 2] [] [0, 1, 2] (fun u_7 : (Nat → Int32) × (Nat → Nat → Int32) => kc_X cA a_X u_7.1 u_7.2) ⟨Nat.zero_le _, Nat.zero_le _⟩ rfl rfl (fun _ => rfl) rfl rfl rfl rfl rfl rfl rfl rfl (Nat.le_of_ble_eq_true rfl) (fun u_7 hw => ?_)
    refine vv_goto hC 35 d_X_putDelta_27 (by decide) ?_
    exact vv_vret hC d_X_putDelta_35 (u_7.1, u_7.2) hw rfl
set_option maxHeartbeats 4000000 in
set_option maxRecDepth 100000 in
theorem c_X_putBinaryAnd (l : Launch) (D : va_G) (cA : Nat → ClassId) (sx : Nat → Nat) (a_X a_C : Nat → Nat) (I_X : (Nat → Int32)) (A_X : (Nat → Nat → Int32)) (I_C : (Nat → Int32)) (A_C : (Nat → Nat → Int32)) (x2 : Int32) (Q : (Nat → Int32) → (Nat → Nat → Int32) → Prop) (hw : wp_X_putBinaryAnd I_X A_X A_C x2 Q) : MetV l y_X_putBinaryAnd (Cond.code y_X_putBinaryAnd b_X_putBinaryAnd 6 none :: TB) ({ frames := 2, cells := 0, slots := 0, locals := 42 } : Room) D vwCl (tyl cA) (SPl sx) [.ref (a_X 0), .ref (a_C 0), .int x2] (kc_X cA a_X I_X A_X ++ kc_C cA a_C I_C A_C) (fun (u : (Nat → Int32) × (Nat → Nat → Int32)) => Q u.1 u.2) (fun u : (Nat → Int32) × (Nat → Nat → Int32) => kc_X cA a_X u.1 u.2 ++ kc_C cA a_C I_C A_C) := by
  refine vv_entryV (cc := b_X_putBinaryAnd) (own := R_X) (L := [(0, .ref (a_X 0)), (1, .ref (a_C 0)), (2, .int x2)]) (by decide) rfl rfl (Nat.le_of_ble_eq_true rfl) rfl (fun p e s m args below meth c A hC => ?_)
  unfold wp_X_putBinaryAnd at hw
  refine vv_aload_n hC d_X_putBinaryAnd_0 0 rfl rfl ?_
  refine vv_aload_n hC d_X_putBinaryAnd_1 1 rfl rfl ?_
  refine vv_get hC (v := .ref (a_C 6)) hin_C 3 11 tb_192 d_X_putBinaryAnd_2 rfl rfl (by decide) rfl rfl ?_
  refine vv_iload_n hC d_X_putBinaryAnd_5 2 rfl rfl ?_
  obtain ⟨hin_1, hw⟩ := hw
  refine vv_iald hC 9 0 d_X_putBinaryAnd_6 rfl rfl hin_1 ?_
  refine vv_callVI (wr := kc_C cA a_C I_C A_C) hC (c_X_newLiteral l D cA sx a_X I_X A_X ((A_C 5) (x2).toNatClampNeg) _ hw) (cw_X_79 hC) d_X_putBinaryAnd_7 [] [0, 1, 2] [3, 4, 5, 6, 7, 8, 9, 10, 11, 12, 13, 14, 15] [13, 14, 15, 0, 1, 2, 3, 4, 5, 6, 7, 8, 9, 10, 11, 12] (fun u_3 : Unit => kc_X cA a_X I_X A_X ++ kc_C cA a_C I_C A_C) ⟨Nat.zero_le _, Nat.zero_le _⟩ rfl rfl (fun _ => rfl) rfl rfl rfl rfl rfl rfl rfl rfl (Nat.le_of_ble_eq_true rfl) (fun r_2 u_3 hw => ?_)
  refine vv_istore_n hC d_X_putBinaryAnd_10 rfl (by decide) [1, 2, 3, 0] (L2 := [(0, .ref (a_X 0)), (1, .ref (a_C 0)), (2, .int x2), (3, .int r_2)]) rfl ?_
  refine vv_aload_n hC d_X_putBinaryAnd_11 0 rfl rfl ?_
  refine vv_aload_n hC d_X_putBinaryAnd_12 1 rfl rfl ?_
  refine vv_get hC (v := .ref (a_C 7)) hin_C 3 12 tb_196 d_X_putBinaryAnd_13 rfl rfl (by decide) rfl rfl ?_
  refine vv_iload_n hC d_X_putBinaryAnd_16 2 rfl rfl ?_
  refine vv_iald hC 10 0 d_X_putBinaryAnd_17 rfl rfl hin_1 ?_
  refine vv_callVI (wr := kc_C cA a_C I_C A_C) hC (c_X_newLiteral l D cA sx a_X I_X A_X ((A_C 6) (x2).toNatClampNeg) _ hw) (cw_X_79 hC) d_X_putBinaryAnd_18 [] [0, 1, 2] [3, 4, 5, 6, 7, 8, 9, 10, 11, 12, 13, 14, 15] [13, 14, 15, 0, 1, 2, 3, 4, 5, 6, 7, 8, 9, 10, 11, 12] (fun u_5 : Unit => kc_X cA a_X I_X A_X ++ kc_C cA a_C I_C A_C) ⟨Nat.zero_le _, Nat.zero_le _⟩ rfl rfl (fun _ => rfl) rfl rfl rfl rfl rfl rfl rfl rfl (Nat.le_of_ble_eq_true rfl) (fun r_4 u_5 hw => ?_)
  refine vv_istore hC d_X_putBinaryAnd_21 (by decide) [1, 2, 3, 4, 0] (L2 := [(0, .ref (a_X 0)), (1, .ref (a_C 0)), (2, .int x2), (3, .int r_2), (4, .int r_4)]) rfl ?_
  refine vv_iload_n hC d_X_putBinaryAnd_23 3 rfl rfl ?_
  refine vv_iload hC d_X_putBinaryAnd_24 4 rfl ?_
  refine vv_mmax hC tb_343 d_X_putBinaryAnd_26 ⟨Nat.zero_le _, Nat.zero_le _⟩ ⟨Nat.le_of_ble_eq_true rfl, Nat.le_of_ble_eq_true rfl⟩ ?_
  refine vv_istore hC d_X_putBinaryAnd_29 (by decide) [1, 2, 3, 4, 5, 0] (L2 := [(0, .ref (a_X 0)), (1, .ref (a_C 0)), (2, .int x2), (3, .int r_2), (4, .int r_4), (5, .int (if r_2 < r_4 then r_4 else r_2))]) rfl ?_
  refine vv_aload_n hC d_X_putBinaryAnd_31 0 rfl rfl ?_
  refine vv_iconst hC d_X_putBinaryAnd_32 (v := (2 : Int32)) (by decide) ?_
  refine vv_aload_n hC d_X_putBinaryAnd_33 0 rfl rfl ?_
  refine vv_get hC (v := .ref (a_X 2)) hin_X 0 1 tb_130 d_X_putBinaryAnd_34 rfl rfl (by decide) rfl rfl ?_
  refine vv_aload_n hC d_X_putBinaryAnd_37 1 rfl rfl ?_
  refine vv_get hC (v := .ref (a_C 5)) hin_C 3 10 tb_188 d_X_putBinaryAnd_38 rfl rfl (by decide) rfl rfl ?_
  refine vv_iload_n hC d_X_putBinaryAnd_41 2 rfl rfl ?_
  refine vv_iald hC 8 0 d_X_putBinaryAnd_42 rfl rfl hin_1 ?_
  obtain ⟨hin_6, hw⟩ := hw
  refine vv_iald hC 2 0 d_X_putBinaryAnd_43 rfl rfl hin_6 ?_
  refine vv_imul hC d_X_putBinaryAnd_44 ?_
  refine vv_iload hC d_X_putBinaryAnd_45 5 rfl ?_
  refine vv_isub hC d_X_putBinaryAnd_47 ?_
  refine vv_callVV (wr := kc_C cA a_C I_C A_C) hC (c_X_putDelta l D cA sx a_X I_X A_X (((2 : Int32) * ((A_X 1) (((A_C 4) (x2).toNatClampNeg)).toNatClampNeg)) - (if r_2 < r_4 then r_4 else r_2)) _ hw) (cw_X_100 hC) d_X_putBinaryAnd_48 [] [0, 1, 2] [3, 4, 5, 6, 7, 8, 9, 10, 11, 12, 13, 14, 15] [13, 14, 15, 0, 1, 2, 3, 4, 5, 6, 7, 8, 9, 10, 11, 12] (fun u_7 : (Nat → Int32) × (Nat → Nat → Int32) => kc_X cA a_X u_7.1 u_7.2 ++ kc_C cA a_C I_C A_C) ⟨Nat.zero_le _, Nat.zero_le _⟩ rfl rfl (fun _ => rfl) rfl rfl rfl rfl rfl rfl rfl rfl (Nat.le_of_ble_eq_true rfl) (fun u_7 hw => ?_)
  refine vv_aload_n hC d_X_putBinaryAnd_51 0 rfl rfl ?_
  refine vv_iload hC d_X_putBinaryAnd_52 5 rfl ?_
  refine vv_iload_n hC d_X_putBinaryAnd_54 3 rfl rfl ?_
  refine vv_iload hC d_X_putBinaryAnd_55 4 rfl ?_
  refine vv_mmin hC tb_350 d_X_putBinaryAnd_57 ⟨Nat.zero_le _, Nat.zero_le _⟩ ⟨Nat.le_of_ble_eq_true rfl, Nat.le_of_ble_eq_true rfl⟩ ?_
  refine vv_isub hC d_X_putBinaryAnd_60 ?_
  refine vv_callVV (wr := kc_C cA a_C I_C A_C) hC (c_X_putDelta l D cA sx a_X u_7.1 u_7.2 ((if r_2 < r_4 then r_4 else r_2) - (if r_4 < r_2 then r_4 else r_2)) _ hw) (cw_X_100 hC) d_X_putBinaryAnd_61 [] [0, 1, 2] [3, 4, 5, 6, 7, 8, 9, 10, 11, 12, 13, 14, 15] [13, 14, 15, 0, 1, 2, 3, 4, 5, 6, 7, 8, 9, 10, 11, 12] (fun u_10 : (Nat → Int32) × (Nat → Nat → Int32) => kc_X cA a_X u_10.1 u_10.2 ++ kc_C cA a_C I_C A_C) ⟨Nat.zero_le _, Nat.zero_le _⟩ rfl rfl (fun _ => rfl) rfl rfl rfl rfl rfl rfl rfl rfl (Nat.le_of_ble_eq_true rfl) (fun u_10 hw => ?_)
  exact vv_vret hC d_X_putBinaryAnd_64 (u_10.1, u_10.2) hw rfl
set_option maxHeartbeats 4000000 in
set_option maxRecDepth 100000 in
theorem l_X_writeBinary_L41 {p : Program} {l : Launch} {e : Env} {s : State} {m : MethodId} {args : Array Value} {below : List Frame} {meth : Method} {c : Code} {D : va_G} {cA : Nat → ClassId} {sx : Nat → Nat} {A : Nat → Prop} (a_X a_C : Nat → Nat) (I_C : (Nat → Int32)) (A_C : (Nat → Nat → Int32)) (Q : (Nat → Int32) → (Nat → Nat → Int32) → Prop) (X41 : (Nat → Int32) → (Nat → Nat → Int32) → Prop) (hC : CX p s m args meth c b_X_writeBinary R_X TB 3 D vwCl (tyl cA) A (SPl sx) none) (hX41 : ∀ (I_X : (Nat → Int32)) (A_X : (Nat → Nat → Int32)), X41 I_X A_X → VV p l e ({ frames := 5, cells := 0, slots := 0, locals := 108 } : Room) s m args below meth c 3 D vwCl A 0 0 (QV below args s D vwCl (tyl cA) A (fun (u : (Nat → Int32) × (Nat → Nat → Int32)) => Q u.1 u.2) (fun u : (Nat → Int32) × (Nat → Nat → Int32) => kc_X cA a_X u.1 u.2 ++ kc_C cA a_C I_C A_C)) (kc_X cA a_X I_X A_X ++ kc_C cA a_C I_C A_C) 71 [(0, .ref (a_X 0)), (1, .ref (a_C 0))] []) : ∀ (n41 : Nat) (I_X : (Nat → Int32)) (A_X : (Nat → Nat → Int32)) (v2 : Int32), wp_X_writeBinary_L41 I_C A_C Q X41 n41 I_X A_X v2 → VV p l e ({ frames := 5, cells := 0, slots := 0, locals := 108 } : Room) s m args below meth c 3 D vwCl A 0 0 (QV below args s D vwCl (tyl cA) A (fun (u : (Nat → Int32) × (Nat → Nat → Int32)) => Q u.1 u.2) (fun u : (Nat → Int32) × (Nat → Nat → Int32) => kc_X cA a_X u.1 u.2 ++ kc_C cA a_C I_C A_C)) (kc_X cA a_X I_X A_X ++ kc_C cA a_C I_C A_C) 41 [(0, .ref (a_X 0)), (1, .ref (a_C 0)), (2, .int v2)] [] := by
  intro n41
  induction n41 with
  | zero =>
    intro I_X A_X v2 hw
    exact absurd hw (fun z => z)
  | succ n41 ih =>
    intro I_X A_X v2 hw
    unfold wp_X_writeBinary_L41 at hw
    refine vv_iload_n hC d_X_writeBinary_41 2 rfl rfl ?_
    refine vv_aload_n hC d_X_writeBinary_42 1 rfl rfl ?_
    refine vv_get hC (v := .int (I_C 2)) hin_C 3 2 tb_158 d_X_writeBinary_43 rfl rfl (by decide) rfl rfl ?_
    refine vv_icmp_ge hC 71 d_X_writeBinary_46 (by decide) (fun cd => ?_) (fun cd => ?_)
    · have hw := hw.1 cd
      exact vv_sub [0, 1] (by rfl) (hX41 I_X A_X hw)
    · have hw := hw.2 cd
      refine vv_aload_n hC d_X_writeBinary_49 0 rfl rfl ?_
      refine vv_aload_n hC d_X_writeBinary_50 0 rfl rfl ?_
      refine vv_aload_n hC d_X_writeBinary_51 1 rfl rfl ?_
      refine vv_get hC (v := .ref (a_C 3)) hin_C 3 8 tb_179 d_X_writeBinary_52 rfl rfl (by decide) rfl rfl ?_
      refine vv_iload_n hC d_X_writeBinary_55 2 rfl rfl ?_
      obtain ⟨hin_6, hw⟩ := hw
      refine vv_iald hC 6 0 d_X_writeBinary_56 rfl rfl hin_6 ?_
      refine vv_callVI (wr := kc_C cA a_C I_C A_C) hC (c_X_newLiteral l D cA sx a_X I_X A_X ((A_C 2) (v2).toNatClampNeg) _ hw) (cw_X_79 hC) d_X_writeBinary_57 [.ref (a_X 0)] [0, 1, 2] [3, 4, 5, 6, 7, 8, 9, 10, 11, 12, 13, 14, 15] [13, 14, 15, 0, 1, 2, 3, 4, 5, 6, 7, 8, 9, 10, 11, 12] (fun u_8 : Unit => kc_X cA a_X I_X A_X ++ kc_C cA a_C I_C A_C) ⟨Nat.zero_le _, Nat.zero_le _⟩ rfl rfl (fun _ => rfl) rfl rfl rfl rfl rfl rfl rfl rfl (Nat.le_of_ble_eq_true rfl) (fun r_7 u_8 hw => ?_)
      refine vv_bipush hC d_X_writeBinary_60 (v := (10 : Int32)) (by decide) ?_
      refine vv_callVV (wr := kc_C cA a_C I_C A_C) hC (c_X_putNumber l D cA sx a_X I_X A_X r_7 (10 : Int32) _ hw) (cw_X_41 hC) d_X_writeBinary_62 [] [0, 1, 2] [3, 4, 5, 6, 7, 8, 9, 10, 11, 12, 13, 14, 15] [13, 14, 15, 0, 1, 2, 3, 4, 5, 6, 7, 8, 9, 10, 11, 12] (fun u_9 : (Nat → Int32) × (Nat → Nat → Int32) => kc_X cA a_X u_9.1 u_9.2 ++ kc_C cA a_C I_C A_C) ⟨Nat.zero_le _, Nat.zero_le _⟩ rfl rfl (fun _ => rfl) rfl rfl rfl rfl rfl rfl rfl rfl (Nat.le_of_ble_eq_true rfl) (fun u_9 hw => ?_)
      refine vv_iinc hC d_X_writeBinary_65 2 rfl (v := (v2 + (1 : Int32))) rfl (by decide) [1, 2, 0] (L2 := [(0, .ref (a_X 0)), (1, .ref (a_C 0)), (2, .int (v2 + (1 : Int32)))]) rfl ?_
      refine vv_goto hC 41 d_X_writeBinary_68 (by decide) ?_
      exact vv_sub [0, 1, 2] (by rfl) (ih u_9.1 u_9.2 (v2 + (1 : Int32)) hw)
set_option maxHeartbeats 4000000 in
set_option maxRecDepth 100000 in
theorem l_X_writeBinary_L73 {p : Program} {l : Launch} {e : Env} {s : State} {m : MethodId} {args : Array Value} {below : List Frame} {meth : Method} {c : Code} {D : va_G} {cA : Nat → ClassId} {sx : Nat → Nat} {A : Nat → Prop} (a_X a_C : Nat → Nat) (I_C : (Nat → Int32)) (A_C : (Nat → Nat → Int32)) (Q : (Nat → Int32) → (Nat → Nat → Int32) → Prop) (X73 : (Nat → Int32) → (Nat → Nat → Int32) → Prop) (hC : CX p s m args meth c b_X_writeBinary R_X TB 3 D vwCl (tyl cA) A (SPl sx) none) (hX73 : ∀ (I_X : (Nat → Int32)) (A_X : (Nat → Nat → Int32)), X73 I_X A_X → VV p l e ({ frames := 5, cells := 0, slots := 0, locals := 108 } : Room) s m args below meth c 3 D vwCl A 0 0 (QV below args s D vwCl (tyl cA) A (fun (u : (Nat → Int32) × (Nat → Nat → Int32)) => Q u.1 u.2) (fun u : (Nat → Int32) × (Nat → Nat → Int32) => kc_X cA a_X u.1 u.2 ++ kc_C cA a_C I_C A_C)) (kc_X cA a_X I_X A_X ++ kc_C cA a_C I_C A_C) 103 [(0, .ref (a_X 0)), (1, .ref (a_C 0))] []) : ∀ (n73 : Nat) (I_X : (Nat → Int32)) (A_X : (Nat → Nat → Int32)) (v2 : Int32), wp_X_writeBinary_L73 I_C A_C Q X73 n73 I_X A_X v2 → VV p l e ({ frames := 5, cells := 0, slots := 0, locals := 108 } : Room) s m args below meth c 3 D vwCl A 0 0 (QV below args s D vwCl (tyl cA) A (fun (u : (Nat → Int32) × (Nat → Nat → Int32)) => Q u.1 u.2) (fun u : (Nat → Int32) × (Nat → Nat → Int32) => kc_X cA a_X u.1 u.2 ++ kc_C cA a_C I_C A_C)) (kc_X cA a_X I_X A_X ++ kc_C cA a_C I_C A_C) 73 [(0, .ref (a_X 0)), (1, .ref (a_C 0)), (2, .int v2)] [] := by
  intro n73
  induction n73 with
  | zero =>
    intro I_X A_X v2 hw
    exact absurd hw (fun z => z)
  | succ n73 ih =>
    intro I_X A_X v2 hw
    unfold wp_X_writeBinary_L73 at hw
    refine vv_iload_n hC d_X_writeBinary_73 2 rfl rfl ?_
    refine vv_aload_n hC d_X_writeBinary_74 1 rfl rfl ?_
    refine vv_get hC (v := .int (I_C 3)) hin_C 3 3 tb_162 d_X_writeBinary_75 rfl rfl (by decide) rfl rfl ?_
    refine vv_icmp_ge hC 103 d_X_writeBinary_78 (by decide) (fun cd => ?_) (fun cd => ?_)
    · have hw := hw.1 cd
      exact vv_sub [0, 1] (by rfl) (hX73 I_X A_X hw)
    · have hw := hw.2 cd
      refine vv_aload_n hC d_X_writeBinary_81 0 rfl rfl ?_
      refine vv_aload_n hC d_X_writeBinary_82 0 rfl rfl ?_
      refine vv_aload_n hC d_X_writeBinary_83 1 rfl rfl ?_
      refine vv_get hC (v := .ref (a_C 4)) hin_C 3 9 tb_183 d_X_writeBinary_84 rfl rfl (by decide) rfl rfl ?_
      refine vv_iload_n hC d_X_writeBinary_87 2 rfl rfl ?_
      obtain ⟨hin_14, hw⟩ := hw
      refine vv_iald hC 7 0 d_X_writeBinary_88 rfl rfl hin_14 ?_
      refine vv_callVI (wr := kc_C cA a_C I_C A_C) hC (c_X_newLiteral l D cA sx a_X I_X A_X ((A_C 3) (v2).toNatClampNeg) _ hw) (cw_X_79 hC) d_X_writeBinary_89 [.ref (a_X 0)] [0, 1, 2] [3, 4, 5, 6, 7, 8, 9, 10, 11, 12, 13, 14, 15] [13, 14, 15, 0, 1, 2, 3, 4, 5, 6, 7, 8, 9, 10, 11, 12] (fun u_16 : Unit => kc_X cA a_X I_X A_X ++ kc_C cA a_C I_C A_C) ⟨Nat.zero_le _, Nat.zero_le _⟩ rfl rfl (fun _ => rfl) rfl rfl rfl rfl rfl rfl rfl rfl (Nat.le_of_ble_eq_true rfl) (fun r_15 u_16 hw => ?_)
      refine vv_bipush hC d_X_writeBinary_92 (v := (10 : Int32)) (by decide) ?_
      refine vv_callVV (wr := kc_C cA a_C I_C A_C) hC (c_X_putNumber l D cA sx a_X I_X A_X r_15 (10 : Int32) _ hw) (cw_X_41 hC) d_X_writeBinary_94 [] [0, 1, 2] [3, 4, 5, 6, 7, 8, 9, 10, 11, 12, 13, 14, 15] [13, 14, 15, 0, 1, 2, 3, 4, 5, 6, 7, 8, 9, 10, 11, 12] (fun u_17 : (Nat → Int32) × (Nat → Nat → Int32) => kc_X cA a_X u_17.1 u_17.2 ++ kc_C cA a_C I_C A_C) ⟨Nat.zero_le _, Nat.zero_le _⟩ rfl rfl (fun _ => rfl) rfl rfl rfl rfl rfl rfl rfl rfl (Nat.le_of_ble_eq_true rfl) (fun u_17 hw => ?_)
      refine vv_iinc hC d_X_writeBinary_97 2 rfl (v := (v2 + (1 : Int32))) rfl (by decide) [1, 2, 0] (L2 := [(0, .ref (a_X 0)), (1, .ref (a_C 0)), (2, .int (v2 + (1 : Int32)))]) rfl ?_
      refine vv_goto hC 73 d_X_writeBinary_100 (by decide) ?_
      exact vv_sub [0, 1, 2] (by rfl) (ih u_17.1 u_17.2 (v2 + (1 : Int32)) hw)
set_option maxHeartbeats 4000000 in
set_option maxRecDepth 100000 in
theorem l_X_writeBinary_L105 {p : Program} {l : Launch} {e : Env} {s : State} {m : MethodId} {args : Array Value} {below : List Frame} {meth : Method} {c : Code} {D : va_G} {cA : Nat → ClassId} {sx : Nat → Nat} {A : Nat → Prop} (a_X a_C : Nat → Nat) (I_C : (Nat → Int32)) (A_C : (Nat → Nat → Int32)) (Q : (Nat → Int32) → (Nat → Nat → Int32) → Prop) (X105 : (Nat → Int32) → (Nat → Nat → Int32) → Prop) (hC : CX p s m args meth c b_X_writeBinary R_X TB 3 D vwCl (tyl cA) A (SPl sx) none) (hX105 : ∀ (I_X : (Nat → Int32)) (A_X : (Nat → Nat → Int32)), X105 I_X A_X → VV p l e ({ frames := 5, cells := 0, slots := 0, locals := 108 } : Room) s m args below meth c 3 D vwCl A 0 0 (QV below args s D vwCl (tyl cA) A (fun (u : (Nat → Int32) × (Nat → Nat → Int32)) => Q u.1 u.2) (fun u : (Nat → Int32) × (Nat → Nat → Int32) => kc_X cA a_X u.1 u.2 ++ kc_C cA a_C I_C A_C)) (kc_X cA a_X I_X A_X ++ kc_C cA a_C I_C A_C) 130 [(0, .ref (a_X 0)), (1, .ref (a_C 0))] []) : ∀ (n105 : Nat) (I_X : (Nat → Int32)) (A_X : (Nat → Nat → Int32)) (v2 : Int32), wp_X_writeBinary_L105 I_C A_C Q X105 n105 I_X A_X v2 → VV p l e ({ frames := 5, cells := 0, slots := 0, locals := 108 } : Room) s m args below meth c 3 D vwCl A 0 0 (QV below args s D vwCl (tyl cA) A (fun (u : (Nat → Int32) × (Nat → Nat → Int32)) => Q u.1 u.2) (fun u : (Nat → Int32) × (Nat → Nat → Int32) => kc_X cA a_X u.1 u.2 ++ kc_C cA a_C I_C A_C)) (kc_X cA a_X I_X A_X ++ kc_C cA a_C I_C A_C) 105 [(0, .ref (a_X 0)), (1, .ref (a_C 0)), (2, .int v2)] [] := by
  intro n105
  induction n105 with
  | zero =>
    intro I_X A_X v2 hw
    exact absurd hw (fun z => z)
  | succ n105 ih =>
    intro I_X A_X v2 hw
    unfold wp_X_writeBinary_L105 at hw
    refine vv_iload_n hC d_X_writeBinary_105 2 rfl rfl ?_
    refine vv_aload_n hC d_X_writeBinary_106 1 rfl rfl ?_
    refine vv_get hC (v := .int (I_C 4)) hin_C 3 4 tb_168 d_X_writeBinary_107 rfl rfl (by decide) rfl rfl ?_
    refine vv_icmp_ge hC 130 d_X_writeBinary_110 (by decide) (fun cd => ?_) (fun cd => ?_)
    · have hw := hw.1 cd
      exact vv_sub [0, 1] (by rfl) (hX105 I_X A_X hw)
    · have hw := hw.2 cd
      refine vv_aload_n hC d_X_writeBinary_113 0 rfl rfl ?_
      refine vv_aload_n hC d_X_writeBinary_114 1 rfl rfl ?_
      refine vv_aload_n hC d_X_writeBinary_115 1 rfl rfl ?_
      refine vv_get hC (v := .ref (a_C 8)) hin_C 3 13 tb_200 d_X_writeBinary_116 rfl rfl (by decide) rfl rfl ?_
      refine vv_iload_n hC d_X_writeBinary_119 2 rfl rfl ?_
      obtain ⟨hin_22, hw⟩ := hw
      refine vv_iald hC 11 0 d_X_writeBinary_120 rfl rfl hin_22 ?_
      refine vv_callVV (wr := []) hC (c_X_putBinaryAnd l D cA sx a_X a_C I_X A_X I_C A_C ((A_C 7) (v2).toNatClampNeg) _ hw) (cw_X_86 hC) d_X_writeBinary_121 [] [0, 1, 2, 3, 4, 5, 6, 7, 8, 9, 10, 11, 12, 13, 14, 15] [] [0, 1, 2, 3, 4, 5, 6, 7, 8, 9, 10, 11, 12, 13, 14, 15] (fun u_23 : (Nat → Int32) × (Nat → Nat → Int32) => kc_X cA a_X u_23.1 u_23.2 ++ kc_C cA a_C I_C A_C) ⟨Nat.zero_le _, Nat.zero_le _⟩ rfl rfl (fun _ => rfl) rfl rfl rfl rfl rfl rfl rfl rfl (Nat.le_of_ble_eq_true rfl) (fun u_23 hw => ?_)
      refine vv_iinc hC d_X_writeBinary_124 2 rfl (v := (v2 + (1 : Int32))) rfl (by decide) [1, 2, 0] (L2 := [(0, .ref (a_X 0)), (1, .ref (a_C 0)), (2, .int (v2 + (1 : Int32)))]) rfl ?_
      refine vv_goto hC 105 d_X_writeBinary_127 (by decide) ?_
      exact vv_sub [0, 1, 2] (by rfl) (ih u_23.1 u_23.2 (v2 + (1 : Int32)) hw)
set_option maxHeartbeats 4000000 in
set_option maxRecDepth 100000 in
theorem c_X_writeBinary (l : Launch) (D : va_G) (cA : Nat → ClassId) (sx : Nat → Nat) (a_X a_C : Nat → Nat) (I_X : (Nat → Int32)) (A_X : (Nat → Nat → Int32)) (I_C : (Nat → Int32)) (A_C : (Nat → Nat → Int32)) (Q : (Nat → Int32) → (Nat → Nat → Int32) → Prop) (hw : wp_X_writeBinary I_X A_X I_C A_C Q) : MetV l y_X_writeBinary (Cond.code y_X_writeBinary b_X_writeBinary 3 none :: TB) ({ frames := 5, cells := 0, slots := 0, locals := 108 } : Room) D vwCl (tyl cA) (SPl sx) [.ref (a_X 0), .ref (a_C 0)] (kc_X cA a_X I_X A_X ++ kc_C cA a_C I_C A_C) (fun (u : (Nat → Int32) × (Nat → Nat → Int32)) => Q u.1 u.2) (fun u : (Nat → Int32) × (Nat → Nat → Int32) => kc_X cA a_X u.1 u.2 ++ kc_C cA a_C I_C A_C) := by
  refine vv_entryV (cc := b_X_writeBinary) (own := R_X) (L := [(0, .ref (a_X 0)), (1, .ref (a_C 0))]) (by decide) rfl rfl (Nat.le_of_ble_eq_true rfl) rfl (fun p e s m args below meth c A hC => ?_)
  unfold wp_X_writeBinary at hw
  refine vv_aload_n hC d_X_writeBinary_0 0 rfl rfl ?_
  refine vv_get hC (v := .int (I_X 1)) hin_X 0 3 tb_132 d_X_writeBinary_1 rfl rfl (by decide) rfl rfl ?_
  refine vv_if_eq hC 8 d_X_writeBinary_4 (by decide) (fun cd => ?_) (fun cd => ?_)
  · have hw := hw.1 cd
    refine vv_aload_n hC d_X_writeBinary_8 0 rfl rfl ?_
    refine vv_iconst hC d_X_writeBinary_9 (v := (1 : Int32)) (by decide) ?_
    refine vv_put hC hin_X ty_X tyok_X nmok_X 0 3 tb_132 d_X_writeBinary_10 rfl rfl (by decide) rfl rfl rfl rfl rfl (Nat.le_of_ble_eq_true rfl) (ws2 := kc_X cA a_X (va_up I_X 1 (1 : Int32)) A_X ++ kc_C cA a_C I_C A_C) (st_XC_XI1 ..) ?_
    refine vv_aload_n hC d_X_writeBinary_13 0 rfl rfl ?_
    refine vv_aload_n hC d_X_writeBinary_14 1 rfl rfl ?_
    refine vv_callVV (wr := []) hC (c_X_numberAnew l D cA sx a_X a_C (va_up I_X 1 (1 : Int32)) A_X I_C A_C _ hw) (cw_X_76 hC) d_X_writeBinary_15 [] [0, 1, 2, 3, 4, 5, 6, 7, 8, 9, 10, 11, 12, 13, 14, 15] [] [0, 1, 2, 3, 4, 5, 6, 7, 8, 9, 10, 11, 12, 13, 14, 15] (fun u_1 : (Nat → Nat → Int32) => kc_X cA a_X (va_up I_X 1 (1 : Int32)) u_1 ++ kc_C cA a_C I_C A_C) ⟨Nat.zero_le _, Nat.zero_le _⟩ rfl rfl (fun _ => rfl) rfl rfl rfl rfl rfl rfl rfl rfl (Nat.le_of_ble_eq_true rfl) (fun u_1 hw => ?_)
    refine vv_aload_n hC d_X_writeBinary_18 0 rfl rfl ?_
    refine vv_aload_n hC d_X_writeBinary_19 1 rfl rfl ?_
    refine vv_bipush hC d_X_writeBinary_20 (v := (105 : Int32)) (by decide) ?_
    refine vv_aload_n hC d_X_writeBinary_22 1 rfl rfl ?_
    refine vv_get hC (v := .int (I_C 1)) hin_C 3 1 tb_154 d_X_writeBinary_23 rfl rfl (by decide) rfl rfl ?_
    refine vv_aload_n hC d_X_writeBinary_26 1 rfl rfl ?_
    refine vv_get hC (v := .int (I_C 2)) hin_C 3 2 tb_158 d_X_writeBinary_27 rfl rfl (by decide) rfl rfl ?_
    refine vv_iadd hC d_X_writeBinary_30 ?_
    refine vv_aload_n hC d_X_writeBinary_31 1 rfl rfl ?_
    refine vv_get hC (v := .int (I_C 4)) hin_C 3 4 tb_168 d_X_writeBinary_32 rfl rfl (by decide) rfl rfl ?_
    refine vv_iadd hC d_X_writeBinary_35 ?_
    refine vv_callVV (wr := []) hC (c_X_putHeader l D cA sx a_X a_C (va_up I_X 1 (1 : Int32)) u_1 I_C A_C (105 : Int32) (((I_C 1) + (I_C 2)) + (I_C 4)) _ hw) (cw_X_31 hC) d_X_writeBinary_36 [] [0, 1, 2, 3, 4, 5, 6, 7, 8, 9, 10, 11, 12, 13, 14, 15] [] [0, 1, 2, 3, 4, 5, 6, 7, 8, 9, 10, 11, 12, 13, 14, 15] (fun u_3 : (Nat → Int32) × (Nat → Nat → Int32) => kc_X cA a_X u_3.1 u_3.2 ++ kc_C cA a_C I_C A_C) ⟨Nat.zero_le _, Nat.zero_le _⟩ rfl rfl (fun _ => rfl) rfl rfl rfl rfl rfl rfl rfl rfl (Nat.le_of_ble_eq_true rfl) (fun u_3 hw => ?_)
    refine vv_iconst hC d_X_writeBinary_39 (v := (0 : Int32)) (by decide) ?_
    refine vv_istore_n hC d_X_writeBinary_40 rfl (by decide) [1, 2, 0] (L2 := [(0, .ref (a_X 0)), (1, .ref (a_C 0)), (2, .int (0 : Int32))]) rfl ?_
    obtain ⟨m41, hw⟩ := hw
    refine vv_sub [0, 1, 2] (by rfl) (l_X_writeBinary_L41 a_X a_C I_C A_C Q _ hC (fun I_X_12 A_X_13 hw => ?_) m41 u_3.1 u_3.2 (0 : Int32) hw)
    refine vv_iconst hC d_X_writeBinary_71 (v := (0 : Int32)) (by decide) ?_
    refine vv_istore_n hC d_X_writeBinary_72 rfl (by decide) [1, 2, 0] (L2 := [(0, .ref (a_X 0)), (1, .ref (a_C 0)), (2, .int (0 : Int32))]) rfl ?_
    obtain ⟨m73, hw⟩ := hw
    refine vv_sub [0, 1, 2] (by rfl) (l_X_writeBinary_L73 a_X a_C I_C A_C Q _ hC (fun I_X_20 A_X_21 hw => ?_) m73 I_X_12 A_X_13 (0 : Int32) hw)
    refine vv_iconst hC d_X_writeBinary_103 (v := (0 : Int32)) (by decide) ?_
    refine vv_istore_n hC d_X_writeBinary_104 rfl (by decide) [1, 2, 0] (L2 := [(0, .ref (a_X 0)), (1, .ref (a_C 0)), (2, .int (0 : Int32))]) rfl ?_
    obtain ⟨m105, hw⟩ := hw
    refine vv_sub [0, 1, 2] (by rfl) (l_X_writeBinary_L105 a_X a_C I_C A_C Q _ hC (fun I_X_26 A_X_27 hw => ?_) m105 I_X_20 A_X_21 (0 : Int32) hw)
    refine vv_aload_n hC d_X_writeBinary_130 0 rfl rfl ?_
    refine vv_aload_n hC d_X_writeBinary_131 1 rfl rfl ?_
    refine vv_callVV (wr := []) hC (c_X_putSymbols l D cA sx a_X a_C I_X_26 A_X_27 I_C A_C _ hw) (cw_X_72 hC) d_X_writeBinary_132 [] [0, 1, 2, 3, 4, 5, 6, 7, 8, 9, 10, 11, 12, 13, 14, 15] [] [0, 1, 2, 3, 4, 5, 6, 7, 8, 9, 10, 11, 12, 13, 14, 15] (fun u_28 : (Nat → Int32) × (Nat → Nat → Int32) => kc_X cA a_X u_28.1 u_28.2 ++ kc_C cA a_C I_C A_C) ⟨Nat.zero_le _, Nat.zero_le _⟩ rfl rfl (fun _ => rfl) rfl rfl rfl rfl rfl rfl rfl rfl (Nat.le_of_ble_eq_true rfl) (fun u_28 hw => ?_)
    exact vv_vret hC d_X_writeBinary_135 (u_28.1, u_28.2) hw rfl
  · have hw := hw.2 cd
    exact vv_vret hC d_X_writeBinary_7 (I_X, A_X) hw rfl
set_option maxHeartbeats 4000000 in
set_option maxRecDepth 100000 in
theorem c_X_forget (l : Launch) (D : va_G) (cA : Nat → ClassId) (sx : Nat → Nat) (a_X : Nat → Nat) (I_X : (Nat → Int32)) (A_X : (Nat → Nat → Int32)) (Q : (Nat → Int32) → Prop) (hw : wp_X_forget I_X Q) : MetV l y_X_forget (Cond.code y_X_forget b_X_forget 1 none :: TB) ({ frames := 0, cells := 0, slots := 0, locals := 0 } : Room) D vwCl (tyl cA) (SPl sx) [.ref (a_X 0)] (kc_X cA a_X I_X A_X) (fun (u : (Nat → Int32)) => Q u) (fun u : (Nat → Int32) => kc_X cA a_X u A_X) := by
  refine vv_entryV (cc := b_X_forget) (own := R_X) (L := [(0, .ref (a_X 0))]) (by decide) rfl rfl (Nat.le_of_ble_eq_true rfl) rfl (fun p e s m args below meth c A hC => ?_)
  unfold wp_X_forget at hw
  refine vv_aload_n hC d_X_forget_0 0 rfl rfl ?_
  refine vv_iconst hC d_X_forget_1 (v := (0 : Int32)) (by decide) ?_
  refine vv_put hC hin_X ty_X tyok_X nmok_X 0 2 tb_131 d_X_forget_2 rfl rfl (by decide) rfl rfl rfl rfl rfl (Nat.le_of_ble_eq_true rfl) (ws2 := kc_X cA a_X (va_up I_X 0 (0 : Int32)) A_X) (st_X_XI0 ..) ?_
  refine vv_aload_n hC d_X_forget_5 0 rfl rfl ?_
  refine vv_iconst hC d_X_forget_6 (v := (0 : Int32)) (by decide) ?_
  refine vv_put hC hin_X ty_X tyok_X nmok_X 0 3 tb_132 d_X_forget_7 rfl rfl (by decide) rfl rfl rfl rfl rfl (Nat.le_of_ble_eq_true rfl) (ws2 := kc_X cA a_X (va_up (va_up I_X 0 (0 : Int32)) 1 (0 : Int32)) A_X) (st_X_XI1 ..) ?_
  exact vv_vret hC d_X_forget_10 (va_up (va_up I_X 0 (0 : Int32)) 1 (0 : Int32)) hw rfl
end
section
theorem d_R_faultKind_0 : decode b_R_faultKind 0 = .ok (.aload_n 0, 1) := by decide +kernel
theorem d_R_faultKind_1 : decode b_R_faultKind 1 = .ok (.getfield 38, 3) := by decide +kernel
theorem d_R_faultKind_4 : decode b_R_faultKind 4 = .ok (.getfield 42, 3) := by decide +kernel
theorem d_R_faultKind_7 : decode b_R_faultKind 7 = .ok (.ireturn, 1) := by decide +kernel
theorem d_R_faultPlace_0 : decode b_R_faultPlace 0 = .ok (.aload_n 0, 1) := by decide +kernel
theorem d_R_faultPlace_1 : decode b_R_faultPlace 1 = .ok (.getfield 38, 3) := by decide +kernel
theorem d_R_faultPlace_4 : decode b_R_faultPlace 4 = .ok (.getfield 45, 3) := by decide +kernel
theorem d_R_faultPlace_7 : decode b_R_faultPlace 7 = .ok (.ireturn, 1) := by decide +kernel
theorem d_R_readCount_0 : decode b_R_readCount 0 = .ok (.aload_n 0, 1) := by decide +kernel
theorem d_R_readCount_1 : decode b_R_readCount 1 = .ok (.getfield 38, 3) := by decide +kernel
theorem d_R_readCount_4 : decode b_R_readCount 4 = .ok (.bipush 32, 2) := by decide +kernel
theorem d_R_readCount_6 : decode b_R_readCount 6 = .ok (.invokevirtual 84, 3) := by decide +kernel
theorem d_R_readCount_9 : decode b_R_readCount 9 = .ok (.ifCond .eq 17, 3) := by decide +kernel
theorem d_R_readCount_12 : decode b_R_readCount 12 = .ok (.aload_n 0, 1) := by decide +kernel
theorem d_R_readCount_13 : decode b_R_readCount 13 = .ok (.getfield 38, 3) := by decide +kernel
theorem d_R_readCount_16 : decode b_R_readCount 16 = .ok (.invokevirtual 125, 3) := by decide +kernel
theorem d_R_readCount_19 : decode b_R_readCount 19 = .ok (.ifCond .eq 7, 3) := by decide +kernel
theorem d_R_readCount_22 : decode b_R_readCount 22 = .ok (.iconst 1, 1) := by decide +kernel
theorem d_R_readCount_23 : decode b_R_readCount 23 = .ok (.goto 4, 3) := by decide +kernel
theorem d_R_readCount_26 : decode b_R_readCount 26 = .ok (.iconst 0, 1) := by decide +kernel
theorem d_R_readCount_27 : decode b_R_readCount 27 = .ok (.ireturn, 1) := by decide +kernel
theorem d_R_readHeader_0 : decode b_R_readHeader 0 = .ok (.aload_n 0, 1) := by decide +kernel
theorem d_R_readHeader_1 : decode b_R_readHeader 1 = .ok (.getfield 38, 3) := by decide +kernel
theorem d_R_readHeader_4 : decode b_R_readHeader 4 = .ok (.bipush 97, 2) := by decide +kernel
theorem d_R_readHeader_6 : decode b_R_readHeader 6 = .ok (.invokevirtual 84, 3) := by decide +kernel
theorem d_R_readHeader_9 : decode b_R_readHeader 9 = .ok (.ifCond .ne 5, 3) := by decide +kernel
theorem d_R_readHeader_12 : decode b_R_readHeader 12 = .ok (.iconst 0, 1) := by decide +kernel
theorem d_R_readHeader_13 : decode b_R_readHeader 13 = .ok (.ireturn, 1) := by decide +kernel
theorem d_R_readHeader_14 : decode b_R_readHeader 14 = .ok (.aload_n 0, 1) := by decide +kernel
theorem d_R_readHeader_15 : decode b_R_readHeader 15 = .ok (.aload_n 0, 1) := by decide +kernel
theorem d_R_readHeader_16 : decode b_R_readHeader 16 = .ok (.getfield 38, 3) := by decide +kernel
theorem d_R_readHeader_19 : decode b_R_readHeader 19 = .ok (.invokevirtual 88, 3) := by decide +kernel
theorem d_R_readHeader_22 : decode b_R_readHeader 22 = .ok (.bipush 105, 2) := by decide +kernel
theorem d_R_readHeader_24 : decode b_R_readHeader 24 = .ok (.if_icmp .ne 7, 3) := by decide +kernel
theorem d_R_readHeader_27 : decode b_R_readHeader 27 = .ok (.iconst 1, 1) := by decide +kernel
theorem d_R_readHeader_28 : decode b_R_readHeader 28 = .ok (.goto 4, 3) := by decide +kernel
theorem d_R_readHeader_31 : decode b_R_readHeader 31 = .ok (.iconst 0, 1) := by decide +kernel
theorem d_R_readHeader_32 : decode b_R_readHeader 32 = .ok (.putfield 29, 3) := by decide +kernel
theorem d_R_readHeader_35 : decode b_R_readHeader 35 = .ok (.aload_n 0, 1) := by decide +kernel
theorem d_R_readHeader_36 : decode b_R_readHeader 36 = .ok (.getfield 38, 3) := by decide +kernel
theorem d_R_readHeader_39 : decode b_R_readHeader 39 = .ok (.aload_n 0, 1) := by decide +kernel
theorem d_R_readHeader_40 : decode b_R_readHeader 40 = .ok (.getfield 29, 3) := by decide +kernel
theorem d_R_readHeader_43 : decode b_R_readHeader 43 = .ok (.ifCond .eq 8, 3) := by decide +kernel
theorem d_R_readHeader_46 : decode b_R_readHeader 46 = .ok (.bipush 105, 2) := by decide +kernel
theorem d_R_readHeader_48 : decode b_R_readHeader 48 = .ok (.goto 5, 3) := by decide +kernel
theorem d_R_readHeader_51 : decode b_R_readHeader 51 = .ok (.bipush 97, 2) := by decide +kernel
theorem d_R_readHeader_53 : decode b_R_readHeader 53 = .ok (.invokevirtual 84, 3) := by decide +kernel
theorem d_R_readHeader_56 : decode b_R_readHeader 56 = .ok (.ifCond .eq 22, 3) := by decide +kernel
theorem d_R_readHeader_59 : decode b_R_readHeader 59 = .ok (.aload_n 0, 1) := by decide +kernel
theorem d_R_readHeader_60 : decode b_R_readHeader 60 = .ok (.getfield 38, 3) := by decide +kernel
theorem d_R_readHeader_63 : decode b_R_readHeader 63 = .ok (.bipush 103, 2) := by decide +kernel
theorem d_R_readHeader_65 : decode b_R_readHeader 65 = .ok (.invokevirtual 84, 3) := by decide +kernel
theorem d_R_readHeader_68 : decode b_R_readHeader 68 = .ok (.ifCond .eq 10, 3) := by decide +kernel
theorem d_R_readHeader_71 : decode b_R_readHeader 71 = .ok (.aload_n 0, 1) := by decide +kernel
theorem d_R_readHeader_72 : decode b_R_readHeader 72 = .ok (.invokevirtual 92, 3) := by decide +kernel
theorem d_R_readHeader_75 : decode b_R_readHeader 75 = .ok (.ifCond .ne 5, 3) := by decide +kernel
theorem d_R_readHeader_78 : decode b_R_readHeader 78 = .ok (.iconst 0, 1) := by decide +kernel
theorem d_R_readHeader_79 : decode b_R_readHeader 79 = .ok (.ireturn, 1) := by decide +kernel
theorem d_R_readHeader_80 : decode b_R_readHeader 80 = .ok (.aload_n 1, 1) := by decide +kernel
theorem d_R_readHeader_81 : decode b_R_readHeader 81 = .ok (.aload_n 0, 1) := by decide +kernel
theorem d_R_readHeader_82 : decode b_R_readHeader 82 = .ok (.getfield 38, 3) := by decide +kernel
theorem d_R_readHeader_85 : decode b_R_readHeader 85 = .ok (.getfield 96, 3) := by decide +kernel
theorem d_R_readHeader_88 : decode b_R_readHeader 88 = .ok (.putfield 99, 3) := by decide +kernel
theorem d_R_readHeader_91 : decode b_R_readHeader 91 = .ok (.aload_n 0, 1) := by decide +kernel
theorem d_R_readHeader_92 : decode b_R_readHeader 92 = .ok (.invokevirtual 92, 3) := by decide +kernel
theorem d_R_readHeader_95 : decode b_R_readHeader 95 = .ok (.ifCond .ne 5, 3) := by decide +kernel
theorem d_R_readHeader_98 : decode b_R_readHeader 98 = .ok (.iconst 0, 1) := by decide +kernel
theorem d_R_readHeader_99 : decode b_R_readHeader 99 = .ok (.ireturn, 1) := by decide +kernel
theorem d_R_readHeader_100 : decode b_R_readHeader 100 = .ok (.aload_n 1, 1) := by decide +kernel
theorem d_R_readHeader_101 : decode b_R_readHeader 101 = .ok (.aload_n 0, 1) := by decide +kernel
theorem d_R_readHeader_102 : decode b_R_readHeader 102 = .ok (.getfield 38, 3) := by decide +kernel
theorem d_R_readHeader_105 : decode b_R_readHeader 105 = .ok (.getfield 96, 3) := by decide +kernel
theorem d_R_readHeader_108 : decode b_R_readHeader 108 = .ok (.putfield 102, 3) := by decide +kernel
theorem d_R_readHeader_111 : decode b_R_readHeader 111 = .ok (.aload_n 0, 1) := by decide +kernel
theorem d_R_readHeader_112 : decode b_R_readHeader 112 = .ok (.invokevirtual 92, 3) := by decide +kernel
theorem d_R_readHeader_115 : decode b_R_readHeader 115 = .ok (.ifCond .ne 5, 3) := by decide +kernel
theorem d_R_readHeader_118 : decode b_R_readHeader 118 = .ok (.iconst 0, 1) := by decide +kernel
theorem d_R_readHeader_119 : decode b_R_readHeader 119 = .ok (.ireturn, 1) := by decide +kernel
theorem d_R_readHeader_120 : decode b_R_readHeader 120 = .ok (.aload_n 1, 1) := by decide +kernel
theorem d_R_readHeader_121 : decode b_R_readHeader 121 = .ok (.aload_n 0, 1) := by decide +kernel
theorem d_R_readHeader_122 : decode b_R_readHeader 122 = .ok (.getfield 38, 3) := by decide +kernel
theorem d_R_readHeader_125 : decode b_R_readHeader 125 = .ok (.getfield 96, 3) := by decide +kernel
theorem d_R_readHeader_128 : decode b_R_readHeader 128 = .ok (.putfield 105, 3) := by decide +kernel
theorem d_R_readHeader_131 : decode b_R_readHeader 131 = .ok (.aload_n 0, 1) := by decide +kernel
theorem d_R_readHeader_132 : decode b_R_readHeader 132 = .ok (.invokevirtual 92, 3) := by decide +kernel
theorem d_R_readHeader_135 : decode b_R_readHeader 135 = .ok (.ifCond .ne 5, 3) := by decide +kernel
theorem d_R_readHeader_138 : decode b_R_readHeader 138 = .ok (.iconst 0, 1) := by decide +kernel
theorem d_R_readHeader_139 : decode b_R_readHeader 139 = .ok (.ireturn, 1) := by decide +kernel
theorem d_R_readHeader_140 : decode b_R_readHeader 140 = .ok (.aload_n 1, 1) := by decide +kernel
theorem d_R_readHeader_141 : decode b_R_readHeader 141 = .ok (.aload_n 0, 1) := by decide +kernel
theorem d_R_readHeader_142 : decode b_R_readHeader 142 = .ok (.getfield 38, 3) := by decide +kernel
theorem d_R_readHeader_145 : decode b_R_readHeader 145 = .ok (.getfield 96, 3) := by decide +kernel
theorem d_R_readHeader_148 : decode b_R_readHeader 148 = .ok (.putfield 108, 3) := by decide +kernel
theorem d_R_readHeader_151 : decode b_R_readHeader 151 = .ok (.aload_n 0, 1) := by decide +kernel
theorem d_R_readHeader_152 : decode b_R_readHeader 152 = .ok (.invokevirtual 92, 3) := by decide +kernel
theorem d_R_readHeader_155 : decode b_R_readHeader 155 = .ok (.ifCond .ne 5, 3) := by decide +kernel
theorem d_R_readHeader_158 : decode b_R_readHeader 158 = .ok (.iconst 0, 1) := by decide +kernel
theorem d_R_readHeader_159 : decode b_R_readHeader 159 = .ok (.ireturn, 1) := by decide +kernel
theorem d_R_readHeader_160 : decode b_R_readHeader 160 = .ok (.aload_n 1, 1) := by decide +kernel
theorem d_R_readHeader_161 : decode b_R_readHeader 161 = .ok (.aload_n 0, 1) := by decide +kernel
theorem d_R_readHeader_162 : decode b_R_readHeader 162 = .ok (.getfield 38, 3) := by decide +kernel
theorem d_R_readHeader_165 : decode b_R_readHeader 165 = .ok (.getfield 96, 3) := by decide +kernel
theorem d_R_readHeader_168 : decode b_R_readHeader 168 = .ok (.putfield 111, 3) := by decide +kernel
theorem d_R_readHeader_171 : decode b_R_readHeader 171 = .ok (.aload_n 0, 1) := by decide +kernel
theorem d_R_readHeader_172 : decode b_R_readHeader 172 = .ok (.getfield 38, 3) := by decide +kernel
theorem d_R_readHeader_175 : decode b_R_readHeader 175 = .ok (.bipush 10, 2) := by decide +kernel
theorem d_R_readHeader_177 : decode b_R_readHeader 177 = .ok (.invokevirtual 84, 3) := by decide +kernel
theorem d_R_readHeader_180 : decode b_R_readHeader 180 = .ok (.ifCond .ne 5, 3) := by decide +kernel
theorem d_R_readHeader_183 : decode b_R_readHeader 183 = .ok (.iconst 0, 1) := by decide +kernel
theorem d_R_readHeader_184 : decode b_R_readHeader 184 = .ok (.ireturn, 1) := by decide +kernel
theorem d_R_readHeader_185 : decode b_R_readHeader 185 = .ok (.aload_n 1, 1) := by decide +kernel
theorem d_R_readHeader_186 : decode b_R_readHeader 186 = .ok (.aload_n 0, 1) := by decide +kernel
theorem d_R_readHeader_187 : decode b_R_readHeader 187 = .ok (.getfield 29, 3) := by decide +kernel
theorem d_R_readHeader_190 : decode b_R_readHeader 190 = .ok (.invokevirtual 114, 3) := by decide +kernel
theorem d_R_readHeader_193 : decode b_R_readHeader 193 = .ok (.ifCond .ne 21, 3) := by decide +kernel
theorem d_R_readHeader_196 : decode b_R_readHeader 196 = .ok (.aload_n 0, 1) := by decide +kernel
theorem d_R_readHeader_197 : decode b_R_readHeader 197 = .ok (.getfield 38, 3) := by decide +kernel
theorem d_R_readHeader_200 : decode b_R_readHeader 200 = .ok (.iconst 2, 1) := by decide +kernel
theorem d_R_readHeader_201 : decode b_R_readHeader 201 = .ok (.aload_n 0, 1) := by decide +kernel
theorem d_R_readHeader_202 : decode b_R_readHeader 202 = .ok (.getfield 38, 3) := by decide +kernel
theorem d_R_readHeader_205 : decode b_R_readHeader 205 = .ok (.getfield 118, 3) := by decide +kernel
theorem d_R_readHeader_208 : decode b_R_readHeader 208 = .ok (.invokevirtual 121, 3) := by decide +kernel
theorem d_R_readHeader_211 : decode b_R_readHeader 211 = .ok (.ifCond .eq 7, 3) := by decide +kernel
theorem d_R_readHeader_214 : decode b_R_readHeader 214 = .ok (.iconst 1, 1) := by decide +kernel
theorem d_R_readHeader_215 : decode b_R_readHeader 215 = .ok (.goto 4, 3) := by decide +kernel
theorem d_R_readHeader_218 : decode b_R_readHeader 218 = .ok (.iconst 0, 1) := by decide +kernel
theorem d_R_readHeader_219 : decode b_R_readHeader 219 = .ok (.ireturn, 1) := by decide +kernel
theorem d_R_readLiteral_0 : decode b_R_readLiteral 0 = .ok (.aload_n 0, 1) := by decide +kernel
theorem d_R_readLiteral_1 : decode b_R_readLiteral 1 = .ok (.getfield 38, 3) := by decide +kernel
theorem d_R_readLiteral_4 : decode b_R_readLiteral 4 = .ok (.invokevirtual 125, 3) := by decide +kernel
theorem d_R_readLiteral_7 : decode b_R_readLiteral 7 = .ok (.ifCond .ne 5, 3) := by decide +kernel
theorem d_R_readLiteral_10 : decode b_R_readLiteral 10 = .ok (.iconst 0, 1) := by decide +kernel
theorem d_R_readLiteral_11 : decode b_R_readLiteral 11 = .ok (.ireturn, 1) := by decide +kernel
theorem d_R_readLiteral_12 : decode b_R_readLiteral 12 = .ok (.aload_n 0, 1) := by decide +kernel
theorem d_R_readLiteral_13 : decode b_R_readLiteral 13 = .ok (.getfield 38, 3) := by decide +kernel
theorem d_R_readLiteral_16 : decode b_R_readLiteral 16 = .ok (.getfield 96, 3) := by decide +kernel
theorem d_R_readLiteral_19 : decode b_R_readLiteral 19 = .ok (.aload_n 1, 1) := by decide +kernel
theorem d_R_readLiteral_20 : decode b_R_readLiteral 20 = .ok (.invokevirtual 168, 3) := by decide +kernel
theorem d_R_readLiteral_23 : decode b_R_readLiteral 23 = .ok (.if_icmp .le 21, 3) := by decide +kernel
theorem d_R_readLiteral_26 : decode b_R_readLiteral 26 = .ok (.aload_n 0, 1) := by decide +kernel
theorem d_R_readLiteral_27 : decode b_R_readLiteral 27 = .ok (.getfield 38, 3) := by decide +kernel
theorem d_R_readLiteral_30 : decode b_R_readLiteral 30 = .ok (.iconst 3, 1) := by decide +kernel
theorem d_R_readLiteral_31 : decode b_R_readLiteral 31 = .ok (.aload_n 0, 1) := by decide +kernel
theorem d_R_readLiteral_32 : decode b_R_readLiteral 32 = .ok (.getfield 38, 3) := by decide +kernel
theorem d_R_readLiteral_35 : decode b_R_readLiteral 35 = .ok (.getfield 165, 3) := by decide +kernel
theorem d_R_readLiteral_38 : decode b_R_readLiteral 38 = .ok (.invokevirtual 121, 3) := by decide +kernel
theorem d_R_readLiteral_41 : decode b_R_readLiteral 41 = .ok (.ifCond .eq 7, 3) := by decide +kernel
theorem d_R_readLiteral_44 : decode b_R_readLiteral 44 = .ok (.iconst 1, 1) := by decide +kernel
theorem d_R_readLiteral_45 : decode b_R_readLiteral 45 = .ok (.goto 4, 3) := by decide +kernel
theorem d_R_readLiteral_48 : decode b_R_readLiteral 48 = .ok (.iconst 0, 1) := by decide +kernel
theorem d_R_readLiteral_49 : decode b_R_readLiteral 49 = .ok (.ireturn, 1) := by decide +kernel
theorem d_R_readDefinition_0 : decode b_R_readDefinition 0 = .ok (.aload_n 0, 1) := by decide +kernel
theorem d_R_readDefinition_1 : decode b_R_readDefinition 1 = .ok (.aload_n 1, 1) := by decide +kernel
theorem d_R_readDefinition_2 : decode b_R_readDefinition 2 = .ok (.invokevirtual 171, 3) := by decide +kernel
theorem d_R_readDefinition_5 : decode b_R_readDefinition 5 = .ok (.ifCond .ne 5, 3) := by decide +kernel
theorem d_R_readDefinition_8 : decode b_R_readDefinition 8 = .ok (.iconst 0, 1) := by decide +kernel
theorem d_R_readDefinition_9 : decode b_R_readDefinition 9 = .ok (.ireturn, 1) := by decide +kernel
theorem d_R_readDefinition_10 : decode b_R_readDefinition 10 = .ok (.aload_n 0, 1) := by decide +kernel
theorem d_R_readDefinition_11 : decode b_R_readDefinition 11 = .ok (.getfield 38, 3) := by decide +kernel
theorem d_R_readDefinition_14 : decode b_R_readDefinition 14 = .ok (.getfield 96, 3) := by decide +kernel
theorem d_R_readDefinition_17 : decode b_R_readDefinition 17 = .ok (.istore_n 2, 1) := by decide +kernel
theorem d_R_readDefinition_18 : decode b_R_readDefinition 18 = .ok (.iload_n 2, 1) := by decide +kernel
theorem d_R_readDefinition_19 : decode b_R_readDefinition 19 = .ok (.iconst 2, 1) := by decide +kernel
theorem d_R_readDefinition_20 : decode b_R_readDefinition 20 = .ok (.if_icmp .lt 24, 3) := by decide +kernel
theorem d_R_readDefinition_23 : decode b_R_readDefinition 23 = .ok (.iload_n 2, 1) := by decide +kernel
theorem d_R_readDefinition_24 : decode b_R_readDefinition 24 = .ok (.iconst 1, 1) := by decide +kernel
theorem d_R_readDefinition_25 : decode b_R_readDefinition 25 = .ok (.iand, 1) := by decide +kernel
theorem d_R_readDefinition_26 : decode b_R_readDefinition 26 = .ok (.ifCond .ne 18, 3) := by decide +kernel
theorem d_R_readDefinition_29 : decode b_R_readDefinition 29 = .ok (.aload_n 1, 1) := by decide +kernel
theorem d_R_readDefinition_30 : decode b_R_readDefinition 30 = .ok (.getfield 134, 3) := by decide +kernel
theorem d_R_readDefinition_33 : decode b_R_readDefinition 33 = .ok (.iload_n 2, 1) := by decide +kernel
theorem d_R_readDefinition_34 : decode b_R_readDefinition 34 = .ok (.iconst 1, 1) := by decide +kernel
theorem d_R_readDefinition_35 : decode b_R_readDefinition 35 = .ok (.ishr, 1) := by decide +kernel
theorem d_R_readDefinition_36 : decode b_R_readDefinition 36 = .ok (.baload, 1) := by decide +kernel
theorem d_R_readDefinition_37 : decode b_R_readDefinition 37 = .ok (.ifCond .ne 7, 3) := by decide +kernel
theorem d_R_readDefinition_40 : decode b_R_readDefinition 40 = .ok (.iconst 1, 1) := by decide +kernel
theorem d_R_readDefinition_41 : decode b_R_readDefinition 41 = .ok (.goto 4, 3) := by decide +kernel
theorem d_R_readDefinition_44 : decode b_R_readDefinition 44 = .ok (.iconst 0, 1) := by decide +kernel
theorem d_R_readDefinition_45 : decode b_R_readDefinition 45 = .ok (.istore_n 3, 1) := by decide +kernel
theorem d_R_readDefinition_46 : decode b_R_readDefinition 46 = .ok (.iload_n 3, 1) := by decide +kernel
theorem d_R_readDefinition_47 : decode b_R_readDefinition 47 = .ok (.ifCond .ne 21, 3) := by decide +kernel
theorem d_R_readDefinition_50 : decode b_R_readDefinition 50 = .ok (.aload_n 0, 1) := by decide +kernel
theorem d_R_readDefinition_51 : decode b_R_readDefinition 51 = .ok (.getfield 38, 3) := by decide +kernel
theorem d_R_readDefinition_54 : decode b_R_readDefinition 54 = .ok (.iconst 4, 1) := by decide +kernel
theorem d_R_readDefinition_55 : decode b_R_readDefinition 55 = .ok (.aload_n 0, 1) := by decide +kernel
theorem d_R_readDefinition_56 : decode b_R_readDefinition 56 = .ok (.getfield 38, 3) := by decide +kernel
theorem d_R_readDefinition_59 : decode b_R_readDefinition 59 = .ok (.getfield 165, 3) := by decide +kernel
theorem d_R_readDefinition_62 : decode b_R_readDefinition 62 = .ok (.invokevirtual 121, 3) := by decide +kernel
theorem d_R_readDefinition_65 : decode b_R_readDefinition 65 = .ok (.ifCond .eq 7, 3) := by decide +kernel
theorem d_R_readDefinition_68 : decode b_R_readDefinition 68 = .ok (.iconst 1, 1) := by decide +kernel
theorem d_R_readDefinition_69 : decode b_R_readDefinition 69 = .ok (.goto 4, 3) := by decide +kernel
theorem d_R_readDefinition_72 : decode b_R_readDefinition 72 = .ok (.iconst 0, 1) := by decide +kernel
theorem d_R_readDefinition_73 : decode b_R_readDefinition 73 = .ok (.ireturn, 1) := by decide +kernel
theorem d_R_readInputs_0 : decode b_R_readInputs 0 = .ok (.iconst 0, 1) := by decide +kernel
theorem d_R_readInputs_1 : decode b_R_readInputs 1 = .ok (.istore_n 2, 1) := by decide +kernel
theorem d_R_readInputs_2 : decode b_R_readInputs 2 = .ok (.iload_n 2, 1) := by decide +kernel
theorem d_R_readInputs_3 : decode b_R_readInputs 3 = .ok (.aload_n 1, 1) := by decide +kernel
theorem d_R_readInputs_4 : decode b_R_readInputs 4 = .ok (.getfield 102, 3) := by decide +kernel
theorem d_R_readInputs_7 : decode b_R_readInputs 7 = .ok (.if_icmp .ge 77, 3) := by decide +kernel
theorem d_R_readInputs_10 : decode b_R_readInputs 10 = .ok (.aload_n 0, 1) := by decide +kernel
theorem d_R_readInputs_11 : decode b_R_readInputs 11 = .ok (.getfield 29, 3) := by decide +kernel
theorem d_R_readInputs_14 : decode b_R_readInputs 14 = .ok (.ifCond .eq 15, 3) := by decide +kernel
theorem d_R_readInputs_17 : decode b_R_readInputs 17 = .ok (.aload_n 1, 1) := by decide +kernel
theorem d_R_readInputs_18 : decode b_R_readInputs 18 = .ok (.getfield 128, 3) := by decide +kernel
theorem d_R_readInputs_21 : decode b_R_readInputs 21 = .ok (.iload_n 2, 1) := by decide +kernel
theorem d_R_readInputs_22 : decode b_R_readInputs 22 = .ok (.iload_n 2, 1) := by decide +kernel
theorem d_R_readInputs_23 : decode b_R_readInputs 23 = .ok (.iconst 1, 1) := by decide +kernel
theorem d_R_readInputs_24 : decode b_R_readInputs 24 = .ok (.iadd, 1) := by decide +kernel
theorem d_R_readInputs_25 : decode b_R_readInputs 25 = .ok (.iastore, 1) := by decide +kernel
theorem d_R_readInputs_26 : decode b_R_readInputs 26 = .ok (.goto 40, 3) := by decide +kernel
theorem d_R_readInputs_29 : decode b_R_readInputs 29 = .ok (.aload_n 0, 1) := by decide +kernel
theorem d_R_readInputs_30 : decode b_R_readInputs 30 = .ok (.aload_n 1, 1) := by decide +kernel
theorem d_R_readInputs_31 : decode b_R_readInputs 31 = .ok (.invokevirtual 131, 3) := by decide +kernel
theorem d_R_readInputs_34 : decode b_R_readInputs 34 = .ok (.ifCond .eq 15, 3) := by decide +kernel
theorem d_R_readInputs_37 : decode b_R_readInputs 37 = .ok (.aload_n 0, 1) := by decide +kernel
theorem d_R_readInputs_38 : decode b_R_readInputs 38 = .ok (.getfield 38, 3) := by decide +kernel
theorem d_R_readInputs_41 : decode b_R_readInputs 41 = .ok (.bipush 10, 2) := by decide +kernel
theorem d_R_readInputs_43 : decode b_R_readInputs 43 = .ok (.invokevirtual 84, 3) := by decide +kernel
theorem d_R_readInputs_46 : decode b_R_readInputs 46 = .ok (.ifCond .ne 5, 3) := by decide +kernel
theorem d_R_readInputs_49 : decode b_R_readInputs 49 = .ok (.iconst 0, 1) := by decide +kernel
theorem d_R_readInputs_50 : decode b_R_readInputs 50 = .ok (.ireturn, 1) := by decide +kernel
theorem d_R_readInputs_51 : decode b_R_readInputs 51 = .ok (.aload_n 1, 1) := by decide +kernel
theorem d_R_readInputs_52 : decode b_R_readInputs 52 = .ok (.getfield 128, 3) := by decide +kernel
theorem d_R_readInputs_55 : decode b_R_readInputs 55 = .ok (.iload_n 2, 1) := by decide +kernel
theorem d_R_readInputs_56 : decode b_R_readInputs 56 = .ok (.aload_n 0, 1) := by decide +kernel
theorem d_R_readInputs_57 : decode b_R_readInputs 57 = .ok (.getfield 38, 3) := by decide +kernel
theorem d_R_readInputs_60 : decode b_R_readInputs 60 = .ok (.getfield 96, 3) := by decide +kernel
theorem d_R_readInputs_63 : decode b_R_readInputs 63 = .ok (.iconst 1, 1) := by decide +kernel
theorem d_R_readInputs_64 : decode b_R_readInputs 64 = .ok (.ishr, 1) := by decide +kernel
theorem d_R_readInputs_65 : decode b_R_readInputs 65 = .ok (.iastore, 1) := by decide +kernel
theorem d_R_readInputs_66 : decode b_R_readInputs 66 = .ok (.aload_n 1, 1) := by decide +kernel
theorem d_R_readInputs_67 : decode b_R_readInputs 67 = .ok (.getfield 134, 3) := by decide +kernel
theorem d_R_readInputs_70 : decode b_R_readInputs 70 = .ok (.aload_n 1, 1) := by decide +kernel
theorem d_R_readInputs_71 : decode b_R_readInputs 71 = .ok (.getfield 128, 3) := by decide +kernel
theorem d_R_readInputs_74 : decode b_R_readInputs 74 = .ok (.iload_n 2, 1) := by decide +kernel
theorem d_R_readInputs_75 : decode b_R_readInputs 75 = .ok (.iaload, 1) := by decide +kernel
theorem d_R_readInputs_76 : decode b_R_readInputs 76 = .ok (.iconst 1, 1) := by decide +kernel
theorem d_R_readInputs_77 : decode b_R_readInputs 77 = .ok (.bastore, 1) := by decide +kernel
theorem d_R_readInputs_78 : decode b_R_readInputs 78 = .ok (.iinc 2 1, 3) := by decide +kernel
theorem d_R_readInputs_81 : decode b_R_readInputs 81 = .ok (.goto (-79), 3) := by decide +kernel
theorem d_R_readInputs_84 : decode b_R_readInputs 84 = .ok (.iconst 1, 1) := by decide +kernel
theorem d_R_readInputs_85 : decode b_R_readInputs 85 = .ok (.ireturn, 1) := by decide +kernel
theorem d_R_readUse_0 : decode b_R_readUse 0 = .ok (.aload_n 0, 1) := by decide +kernel
theorem d_R_readUse_1 : decode b_R_readUse 1 = .ok (.aload_n 1, 1) := by decide +kernel
theorem d_R_readUse_2 : decode b_R_readUse 2 = .ok (.invokevirtual 171, 3) := by decide +kernel
theorem d_R_readUse_5 : decode b_R_readUse 5 = .ok (.ifCond .ne 5, 3) := by decide +kernel
theorem d_R_readUse_8 : decode b_R_readUse 8 = .ok (.iconst 0, 1) := by decide +kernel
theorem d_R_readUse_9 : decode b_R_readUse 9 = .ok (.ireturn, 1) := by decide +kernel
theorem d_R_readUse_10 : decode b_R_readUse 10 = .ok (.aload_n 0, 1) := by decide +kernel
theorem d_R_readUse_11 : decode b_R_readUse 11 = .ok (.getfield 25, 3) := by decide +kernel
theorem d_R_readUse_14 : decode b_R_readUse 14 = .ok (.sipush 615, 3) := by decide +kernel
theorem d_R_readUse_17 : decode b_R_readUse 17 = .ok (.if_icmp .ge 45, 3) := by decide +kernel
theorem d_R_readUse_20 : decode b_R_readUse 20 = .ok (.aload_n 0, 1) := by decide +kernel
theorem d_R_readUse_21 : decode b_R_readUse 21 = .ok (.getfield 18, 3) := by decide +kernel
theorem d_R_readUse_24 : decode b_R_readUse 24 = .ok (.aload_n 0, 1) := by decide +kernel
theorem d_R_readUse_25 : decode b_R_readUse 25 = .ok (.getfield 25, 3) := by decide +kernel
theorem d_R_readUse_28 : decode b_R_readUse 28 = .ok (.aload_n 0, 1) := by decide +kernel
theorem d_R_readUse_29 : decode b_R_readUse 29 = .ok (.getfield 38, 3) := by decide +kernel
theorem d_R_readUse_32 : decode b_R_readUse 32 = .ok (.getfield 96, 3) := by decide +kernel
theorem d_R_readUse_35 : decode b_R_readUse 35 = .ok (.iastore, 1) := by decide +kernel
theorem d_R_readUse_36 : decode b_R_readUse 36 = .ok (.aload_n 0, 1) := by decide +kernel
theorem d_R_readUse_37 : decode b_R_readUse 37 = .ok (.getfield 22, 3) := by decide +kernel
theorem d_R_readUse_40 : decode b_R_readUse 40 = .ok (.aload_n 0, 1) := by decide +kernel
theorem d_R_readUse_41 : decode b_R_readUse 41 = .ok (.getfield 25, 3) := by decide +kernel
theorem d_R_readUse_44 : decode b_R_readUse 44 = .ok (.aload_n 0, 1) := by decide +kernel
theorem d_R_readUse_45 : decode b_R_readUse 45 = .ok (.getfield 38, 3) := by decide +kernel
theorem d_R_readUse_48 : decode b_R_readUse 48 = .ok (.getfield 165, 3) := by decide +kernel
theorem d_R_readUse_51 : decode b_R_readUse 51 = .ok (.iastore, 1) := by decide +kernel
theorem d_R_readUse_52 : decode b_R_readUse 52 = .ok (.aload_n 0, 1) := by decide +kernel
theorem d_R_readUse_53 : decode b_R_readUse 53 = .ok (.dup, 1) := by decide +kernel
theorem d_R_readUse_54 : decode b_R_readUse 54 = .ok (.getfield 25, 3) := by decide +kernel
theorem d_R_readUse_57 : decode b_R_readUse 57 = .ok (.iconst 1, 1) := by decide +kernel
theorem d_R_readUse_58 : decode b_R_readUse 58 = .ok (.iadd, 1) := by decide +kernel
theorem d_R_readUse_59 : decode b_R_readUse 59 = .ok (.putfield 25, 3) := by decide +kernel
theorem d_R_readUse_62 : decode b_R_readUse 62 = .ok (.iconst 1, 1) := by decide +kernel
theorem d_R_readUse_63 : decode b_R_readUse 63 = .ok (.ireturn, 1) := by decide +kernel
theorem d_R_readLatches_0 : decode b_R_readLatches 0 = .ok (.iconst 0, 1) := by decide +kernel
theorem d_R_readLatches_1 : decode b_R_readLatches 1 = .ok (.istore_n 2, 1) := by decide +kernel
theorem d_R_readLatches_2 : decode b_R_readLatches 2 = .ok (.iload_n 2, 1) := by decide +kernel
theorem d_R_readLatches_3 : decode b_R_readLatches 3 = .ok (.aload_n 1, 1) := by decide +kernel
theorem d_R_readLatches_4 : decode b_R_readLatches 4 = .ok (.getfield 105, 3) := by decide +kernel
theorem d_R_readLatches_7 : decode b_R_readLatches 7 = .ok (.if_icmp .ge 117, 3) := by decide +kernel
theorem d_R_readLatches_10 : decode b_R_readLatches 10 = .ok (.aload_n 0, 1) := by decide +kernel
theorem d_R_readLatches_11 : decode b_R_readLatches 11 = .ok (.getfield 29, 3) := by decide +kernel
theorem d_R_readLatches_14 : decode b_R_readLatches 14 = .ok (.ifCond .eq 20, 3) := by decide +kernel
theorem d_R_readLatches_17 : decode b_R_readLatches 17 = .ok (.aload_n 1, 1) := by decide +kernel
theorem d_R_readLatches_18 : decode b_R_readLatches 18 = .ok (.getfield 138, 3) := by decide +kernel
theorem d_R_readLatches_21 : decode b_R_readLatches 21 = .ok (.iload_n 2, 1) := by decide +kernel
theorem d_R_readLatches_22 : decode b_R_readLatches 22 = .ok (.aload_n 1, 1) := by decide +kernel
theorem d_R_readLatches_23 : decode b_R_readLatches 23 = .ok (.getfield 102, 3) := by decide +kernel
theorem d_R_readLatches_26 : decode b_R_readLatches 26 = .ok (.iload_n 2, 1) := by decide +kernel
theorem d_R_readLatches_27 : decode b_R_readLatches 27 = .ok (.iadd, 1) := by decide +kernel
theorem d_R_readLatches_28 : decode b_R_readLatches 28 = .ok (.iconst 1, 1) := by decide +kernel
theorem d_R_readLatches_29 : decode b_R_readLatches 29 = .ok (.iadd, 1) := by decide +kernel
theorem d_R_readLatches_30 : decode b_R_readLatches 30 = .ok (.iastore, 1) := by decide +kernel
theorem d_R_readLatches_31 : decode b_R_readLatches 31 = .ok (.goto 40, 3) := by decide +kernel
theorem d_R_readLatches_34 : decode b_R_readLatches 34 = .ok (.aload_n 0, 1) := by decide +kernel
theorem d_R_readLatches_35 : decode b_R_readLatches 35 = .ok (.aload_n 1, 1) := by decide +kernel
theorem d_R_readLatches_36 : decode b_R_readLatches 36 = .ok (.invokevirtual 131, 3) := by decide +kernel
theorem d_R_readLatches_39 : decode b_R_readLatches 39 = .ok (.ifCond .eq 15, 3) := by decide +kernel
theorem d_R_readLatches_42 : decode b_R_readLatches 42 = .ok (.aload_n 0, 1) := by decide +kernel
theorem d_R_readLatches_43 : decode b_R_readLatches 43 = .ok (.getfield 38, 3) := by decide +kernel
theorem d_R_readLatches_46 : decode b_R_readLatches 46 = .ok (.bipush 32, 2) := by decide +kernel
theorem d_R_readLatches_48 : decode b_R_readLatches 48 = .ok (.invokevirtual 84, 3) := by decide +kernel
theorem d_R_readLatches_51 : decode b_R_readLatches 51 = .ok (.ifCond .ne 5, 3) := by decide +kernel
theorem d_R_readLatches_54 : decode b_R_readLatches 54 = .ok (.iconst 0, 1) := by decide +kernel
theorem d_R_readLatches_55 : decode b_R_readLatches 55 = .ok (.ireturn, 1) := by decide +kernel
theorem d_R_readLatches_56 : decode b_R_readLatches 56 = .ok (.aload_n 1, 1) := by decide +kernel
theorem d_R_readLatches_57 : decode b_R_readLatches 57 = .ok (.getfield 138, 3) := by decide +kernel
theorem d_R_readLatches_60 : decode b_R_readLatches 60 = .ok (.iload_n 2, 1) := by decide +kernel
theorem d_R_readLatches_61 : decode b_R_readLatches 61 = .ok (.aload_n 0, 1) := by decide +kernel
theorem d_R_readLatches_62 : decode b_R_readLatches 62 = .ok (.getfield 38, 3) := by decide +kernel
theorem d_R_readLatches_65 : decode b_R_readLatches 65 = .ok (.getfield 96, 3) := by decide +kernel
theorem d_R_readLatches_68 : decode b_R_readLatches 68 = .ok (.iconst 1, 1) := by decide +kernel
theorem d_R_readLatches_69 : decode b_R_readLatches 69 = .ok (.ishr, 1) := by decide +kernel
theorem d_R_readLatches_70 : decode b_R_readLatches 70 = .ok (.iastore, 1) := by decide +kernel
theorem d_R_readLatches_71 : decode b_R_readLatches 71 = .ok (.aload_n 1, 1) := by decide +kernel
theorem d_R_readLatches_72 : decode b_R_readLatches 72 = .ok (.getfield 134, 3) := by decide +kernel
theorem d_R_readLatches_75 : decode b_R_readLatches 75 = .ok (.aload_n 1, 1) := by decide +kernel
theorem d_R_readLatches_76 : decode b_R_readLatches 76 = .ok (.getfield 138, 3) := by decide +kernel
theorem d_R_readLatches_79 : decode b_R_readLatches 79 = .ok (.iload_n 2, 1) := by decide +kernel
theorem d_R_readLatches_80 : decode b_R_readLatches 80 = .ok (.iaload, 1) := by decide +kernel
theorem d_R_readLatches_81 : decode b_R_readLatches 81 = .ok (.iconst 1, 1) := by decide +kernel
theorem d_R_readLatches_82 : decode b_R_readLatches 82 = .ok (.bastore, 1) := by decide +kernel
theorem d_R_readLatches_83 : decode b_R_readLatches 83 = .ok (.aload_n 0, 1) := by decide +kernel
theorem d_R_readLatches_84 : decode b_R_readLatches 84 = .ok (.aload_n 1, 1) := by decide +kernel
theorem d_R_readLatches_85 : decode b_R_readLatches 85 = .ok (.invokevirtual 141, 3) := by decide +kernel
theorem d_R_readLatches_88 : decode b_R_readLatches 88 = .ok (.ifCond .eq 15, 3) := by decide +kernel
theorem d_R_readLatches_91 : decode b_R_readLatches 91 = .ok (.aload_n 0, 1) := by decide +kernel
theorem d_R_readLatches_92 : decode b_R_readLatches 92 = .ok (.getfield 38, 3) := by decide +kernel
theorem d_R_readLatches_95 : decode b_R_readLatches 95 = .ok (.bipush 10, 2) := by decide +kernel
theorem d_R_readLatches_97 : decode b_R_readLatches 97 = .ok (.invokevirtual 84, 3) := by decide +kernel
theorem d_R_readLatches_100 : decode b_R_readLatches 100 = .ok (.ifCond .ne 5, 3) := by decide +kernel
theorem d_R_readLatches_103 : decode b_R_readLatches 103 = .ok (.iconst 0, 1) := by decide +kernel
theorem d_R_readLatches_104 : decode b_R_readLatches 104 = .ok (.ireturn, 1) := by decide +kernel
theorem d_R_readLatches_105 : decode b_R_readLatches 105 = .ok (.aload_n 1, 1) := by decide +kernel
theorem d_R_readLatches_106 : decode b_R_readLatches 106 = .ok (.getfield 144, 3) := by decide +kernel
theorem d_R_readLatches_109 : decode b_R_readLatches 109 = .ok (.iload_n 2, 1) := by decide +kernel
theorem d_R_readLatches_110 : decode b_R_readLatches 110 = .ok (.aload_n 0, 1) := by decide +kernel
theorem d_R_readLatches_111 : decode b_R_readLatches 111 = .ok (.getfield 38, 3) := by decide +kernel
theorem d_R_readLatches_114 : decode b_R_readLatches 114 = .ok (.getfield 96, 3) := by decide +kernel
theorem d_R_readLatches_117 : decode b_R_readLatches 117 = .ok (.iastore, 1) := by decide +kernel
theorem d_R_readLatches_118 : decode b_R_readLatches 118 = .ok (.iinc 2 1, 3) := by decide +kernel
theorem d_R_readLatches_121 : decode b_R_readLatches 121 = .ok (.goto (-119), 3) := by decide +kernel
theorem d_R_readLatches_124 : decode b_R_readLatches 124 = .ok (.iconst 1, 1) := by decide +kernel
theorem d_R_readLatches_125 : decode b_R_readLatches 125 = .ok (.ireturn, 1) := by decide +kernel
theorem d_R_readOutputs_0 : decode b_R_readOutputs 0 = .ok (.iconst 0, 1) := by decide +kernel
theorem d_R_readOutputs_1 : decode b_R_readOutputs 1 = .ok (.istore_n 2, 1) := by decide +kernel
theorem d_R_readOutputs_2 : decode b_R_readOutputs 2 = .ok (.iload_n 2, 1) := by decide +kernel
theorem d_R_readOutputs_3 : decode b_R_readOutputs 3 = .ok (.aload_n 1, 1) := by decide +kernel
theorem d_R_readOutputs_4 : decode b_R_readOutputs 4 = .ok (.getfield 108, 3) := by decide +kernel
theorem d_R_readOutputs_7 : decode b_R_readOutputs 7 = .ok (.if_icmp .ge 44, 3) := by decide +kernel
theorem d_R_readOutputs_10 : decode b_R_readOutputs 10 = .ok (.aload_n 0, 1) := by decide +kernel
theorem d_R_readOutputs_11 : decode b_R_readOutputs 11 = .ok (.aload_n 1, 1) := by decide +kernel
theorem d_R_readOutputs_12 : decode b_R_readOutputs 12 = .ok (.invokevirtual 141, 3) := by decide +kernel
theorem d_R_readOutputs_15 : decode b_R_readOutputs 15 = .ok (.ifCond .eq 15, 3) := by decide +kernel
theorem d_R_readOutputs_18 : decode b_R_readOutputs 18 = .ok (.aload_n 0, 1) := by decide +kernel
theorem d_R_readOutputs_19 : decode b_R_readOutputs 19 = .ok (.getfield 38, 3) := by decide +kernel
theorem d_R_readOutputs_22 : decode b_R_readOutputs 22 = .ok (.bipush 10, 2) := by decide +kernel
theorem d_R_readOutputs_24 : decode b_R_readOutputs 24 = .ok (.invokevirtual 84, 3) := by decide +kernel
theorem d_R_readOutputs_27 : decode b_R_readOutputs 27 = .ok (.ifCond .ne 5, 3) := by decide +kernel
theorem d_R_readOutputs_30 : decode b_R_readOutputs 30 = .ok (.iconst 0, 1) := by decide +kernel
theorem d_R_readOutputs_31 : decode b_R_readOutputs 31 = .ok (.ireturn, 1) := by decide +kernel
theorem d_R_readOutputs_32 : decode b_R_readOutputs 32 = .ok (.aload_n 1, 1) := by decide +kernel
theorem d_R_readOutputs_33 : decode b_R_readOutputs 33 = .ok (.getfield 147, 3) := by decide +kernel
theorem d_R_readOutputs_36 : decode b_R_readOutputs 36 = .ok (.iload_n 2, 1) := by decide +kernel
theorem d_R_readOutputs_37 : decode b_R_readOutputs 37 = .ok (.aload_n 0, 1) := by decide +kernel
theorem d_R_readOutputs_38 : decode b_R_readOutputs 38 = .ok (.getfield 38, 3) := by decide +kernel
theorem d_R_readOutputs_41 : decode b_R_readOutputs 41 = .ok (.getfield 96, 3) := by decide +kernel
theorem d_R_readOutputs_44 : decode b_R_readOutputs 44 = .ok (.iastore, 1) := by decide +kernel
theorem d_R_readOutputs_45 : decode b_R_readOutputs 45 = .ok (.iinc 2 1, 3) := by decide +kernel
theorem d_R_readOutputs_48 : decode b_R_readOutputs 48 = .ok (.goto (-46), 3) := by decide +kernel
theorem d_R_readOutputs_51 : decode b_R_readOutputs 51 = .ok (.iconst 1, 1) := by decide +kernel
theorem d_R_readOutputs_52 : decode b_R_readOutputs 52 = .ok (.ireturn, 1) := by decide +kernel
theorem d_R_readTextAnds_0 : decode b_R_readTextAnds 0 = .ok (.iconst 0, 1) := by decide +kernel
theorem d_R_readTextAnds_1 : decode b_R_readTextAnds 1 = .ok (.istore_n 2, 1) := by decide +kernel
theorem d_R_readTextAnds_2 : decode b_R_readTextAnds 2 = .ok (.iload_n 2, 1) := by decide +kernel
theorem d_R_readTextAnds_3 : decode b_R_readTextAnds 3 = .ok (.aload_n 1, 1) := by decide +kernel
theorem d_R_readTextAnds_4 : decode b_R_readTextAnds 4 = .ok (.getfield 111, 3) := by decide +kernel
theorem d_R_readTextAnds_7 : decode b_R_readTextAnds 7 = .ok (.if_icmp .ge 128, 3) := by decide +kernel
theorem d_R_readTextAnds_10 : decode b_R_readTextAnds 10 = .ok (.aload_n 0, 1) := by decide +kernel
theorem d_R_readTextAnds_11 : decode b_R_readTextAnds 11 = .ok (.aload_n 1, 1) := by decide +kernel
theorem d_R_readTextAnds_12 : decode b_R_readTextAnds 12 = .ok (.invokevirtual 131, 3) := by decide +kernel
theorem d_R_readTextAnds_15 : decode b_R_readTextAnds 15 = .ok (.ifCond .eq 15, 3) := by decide +kernel
theorem d_R_readTextAnds_18 : decode b_R_readTextAnds 18 = .ok (.aload_n 0, 1) := by decide +kernel
theorem d_R_readTextAnds_19 : decode b_R_readTextAnds 19 = .ok (.getfield 38, 3) := by decide +kernel
theorem d_R_readTextAnds_22 : decode b_R_readTextAnds 22 = .ok (.bipush 32, 2) := by decide +kernel
theorem d_R_readTextAnds_24 : decode b_R_readTextAnds 24 = .ok (.invokevirtual 84, 3) := by decide +kernel
theorem d_R_readTextAnds_27 : decode b_R_readTextAnds 27 = .ok (.ifCond .ne 5, 3) := by decide +kernel
theorem d_R_readTextAnds_30 : decode b_R_readTextAnds 30 = .ok (.iconst 0, 1) := by decide +kernel
theorem d_R_readTextAnds_31 : decode b_R_readTextAnds 31 = .ok (.ireturn, 1) := by decide +kernel
theorem d_R_readTextAnds_32 : decode b_R_readTextAnds 32 = .ok (.aload_n 1, 1) := by decide +kernel
theorem d_R_readTextAnds_33 : decode b_R_readTextAnds 33 = .ok (.getfield 150, 3) := by decide +kernel
theorem d_R_readTextAnds_36 : decode b_R_readTextAnds 36 = .ok (.iload_n 2, 1) := by decide +kernel
theorem d_R_readTextAnds_37 : decode b_R_readTextAnds 37 = .ok (.aload_n 0, 1) := by decide +kernel
theorem d_R_readTextAnds_38 : decode b_R_readTextAnds 38 = .ok (.getfield 38, 3) := by decide +kernel
theorem d_R_readTextAnds_41 : decode b_R_readTextAnds 41 = .ok (.getfield 96, 3) := by decide +kernel
theorem d_R_readTextAnds_44 : decode b_R_readTextAnds 44 = .ok (.iconst 1, 1) := by decide +kernel
theorem d_R_readTextAnds_45 : decode b_R_readTextAnds 45 = .ok (.ishr, 1) := by decide +kernel
theorem d_R_readTextAnds_46 : decode b_R_readTextAnds 46 = .ok (.iastore, 1) := by decide +kernel
theorem d_R_readTextAnds_47 : decode b_R_readTextAnds 47 = .ok (.aload_n 1, 1) := by decide +kernel
theorem d_R_readTextAnds_48 : decode b_R_readTextAnds 48 = .ok (.getfield 134, 3) := by decide +kernel
theorem d_R_readTextAnds_51 : decode b_R_readTextAnds 51 = .ok (.aload_n 1, 1) := by decide +kernel
theorem d_R_readTextAnds_52 : decode b_R_readTextAnds 52 = .ok (.getfield 150, 3) := by decide +kernel
theorem d_R_readTextAnds_55 : decode b_R_readTextAnds 55 = .ok (.iload_n 2, 1) := by decide +kernel
theorem d_R_readTextAnds_56 : decode b_R_readTextAnds 56 = .ok (.iaload, 1) := by decide +kernel
theorem d_R_readTextAnds_57 : decode b_R_readTextAnds 57 = .ok (.iconst 1, 1) := by decide +kernel
theorem d_R_readTextAnds_58 : decode b_R_readTextAnds 58 = .ok (.bastore, 1) := by decide +kernel
theorem d_R_readTextAnds_59 : decode b_R_readTextAnds 59 = .ok (.aload_n 0, 1) := by decide +kernel
theorem d_R_readTextAnds_60 : decode b_R_readTextAnds 60 = .ok (.aload_n 1, 1) := by decide +kernel
theorem d_R_readTextAnds_61 : decode b_R_readTextAnds 61 = .ok (.invokevirtual 141, 3) := by decide +kernel
theorem d_R_readTextAnds_64 : decode b_R_readTextAnds 64 = .ok (.ifCond .eq 15, 3) := by decide +kernel
theorem d_R_readTextAnds_67 : decode b_R_readTextAnds 67 = .ok (.aload_n 0, 1) := by decide +kernel
theorem d_R_readTextAnds_68 : decode b_R_readTextAnds 68 = .ok (.getfield 38, 3) := by decide +kernel
theorem d_R_readTextAnds_71 : decode b_R_readTextAnds 71 = .ok (.bipush 32, 2) := by decide +kernel
theorem d_R_readTextAnds_73 : decode b_R_readTextAnds 73 = .ok (.invokevirtual 84, 3) := by decide +kernel
theorem d_R_readTextAnds_76 : decode b_R_readTextAnds 76 = .ok (.ifCond .ne 5, 3) := by decide +kernel
theorem d_R_readTextAnds_79 : decode b_R_readTextAnds 79 = .ok (.iconst 0, 1) := by decide +kernel
theorem d_R_readTextAnds_80 : decode b_R_readTextAnds 80 = .ok (.ireturn, 1) := by decide +kernel
theorem d_R_readTextAnds_81 : decode b_R_readTextAnds 81 = .ok (.aload_n 1, 1) := by decide +kernel
theorem d_R_readTextAnds_82 : decode b_R_readTextAnds 82 = .ok (.getfield 153, 3) := by decide +kernel
theorem d_R_readTextAnds_85 : decode b_R_readTextAnds 85 = .ok (.iload_n 2, 1) := by decide +kernel
theorem d_R_readTextAnds_86 : decode b_R_readTextAnds 86 = .ok (.aload_n 0, 1) := by decide +kernel
theorem d_R_readTextAnds_87 : decode b_R_readTextAnds 87 = .ok (.getfield 38, 3) := by decide +kernel
theorem d_R_readTextAnds_90 : decode b_R_readTextAnds 90 = .ok (.getfield 96, 3) := by decide +kernel
theorem d_R_readTextAnds_93 : decode b_R_readTextAnds 93 = .ok (.iastore, 1) := by decide +kernel
theorem d_R_readTextAnds_94 : decode b_R_readTextAnds 94 = .ok (.aload_n 0, 1) := by decide +kernel
theorem d_R_readTextAnds_95 : decode b_R_readTextAnds 95 = .ok (.aload_n 1, 1) := by decide +kernel
theorem d_R_readTextAnds_96 : decode b_R_readTextAnds 96 = .ok (.invokevirtual 141, 3) := by decide +kernel
theorem d_R_readTextAnds_99 : decode b_R_readTextAnds 99 = .ok (.ifCond .eq 15, 3) := by decide +kernel
theorem d_R_readTextAnds_102 : decode b_R_readTextAnds 102 = .ok (.aload_n 0, 1) := by decide +kernel
theorem d_R_readTextAnds_103 : decode b_R_readTextAnds 103 = .ok (.getfield 38, 3) := by decide +kernel
theorem d_R_readTextAnds_106 : decode b_R_readTextAnds 106 = .ok (.bipush 10, 2) := by decide +kernel
theorem d_R_readTextAnds_108 : decode b_R_readTextAnds 108 = .ok (.invokevirtual 84, 3) := by decide +kernel
theorem d_R_readTextAnds_111 : decode b_R_readTextAnds 111 = .ok (.ifCond .ne 5, 3) := by decide +kernel
theorem d_R_readTextAnds_114 : decode b_R_readTextAnds 114 = .ok (.iconst 0, 1) := by decide +kernel
theorem d_R_readTextAnds_115 : decode b_R_readTextAnds 115 = .ok (.ireturn, 1) := by decide +kernel
theorem d_R_readTextAnds_116 : decode b_R_readTextAnds 116 = .ok (.aload_n 1, 1) := by decide +kernel
theorem d_R_readTextAnds_117 : decode b_R_readTextAnds 117 = .ok (.getfield 156, 3) := by decide +kernel
theorem d_R_readTextAnds_120 : decode b_R_readTextAnds 120 = .ok (.iload_n 2, 1) := by decide +kernel
theorem d_R_readTextAnds_121 : decode b_R_readTextAnds 121 = .ok (.aload_n 0, 1) := by decide +kernel
theorem d_R_readTextAnds_122 : decode b_R_readTextAnds 122 = .ok (.getfield 38, 3) := by decide +kernel
theorem d_R_readTextAnds_125 : decode b_R_readTextAnds 125 = .ok (.getfield 96, 3) := by decide +kernel
theorem d_R_readTextAnds_128 : decode b_R_readTextAnds 128 = .ok (.iastore, 1) := by decide +kernel
theorem d_R_readTextAnds_129 : decode b_R_readTextAnds 129 = .ok (.iinc 2 1, 3) := by decide +kernel
theorem d_R_readTextAnds_132 : decode b_R_readTextAnds 132 = .ok (.goto (-130), 3) := by decide +kernel
theorem d_R_readTextAnds_135 : decode b_R_readTextAnds 135 = .ok (.iconst 1, 1) := by decide +kernel
theorem d_R_readTextAnds_136 : decode b_R_readTextAnds 136 = .ok (.ireturn, 1) := by decide +kernel
theorem d_R_kindOf_0 : decode b_R_kindOf 0 = .ok (.iconst 0, 1) := by decide +kernel
theorem d_R_kindOf_1 : decode b_R_kindOf 1 = .ok (.istore_n 1, 1) := by decide +kernel
theorem d_R_kindOf_2 : decode b_R_kindOf 2 = .ok (.iload_n 1, 1) := by decide +kernel
theorem d_R_kindOf_3 : decode b_R_kindOf 3 = .ok (.iconst 3, 1) := by decide +kernel
theorem d_R_kindOf_4 : decode b_R_kindOf 4 = .ok (.if_icmp .ge 21, 3) := by decide +kernel
theorem d_R_kindOf_7 : decode b_R_kindOf 7 = .ok (.ldc 182, 2) := by decide +kernel
theorem d_R_kindOf_9 : decode b_R_kindOf 9 = .ok (.iload_n 1, 1) := by decide +kernel
theorem d_R_kindOf_10 : decode b_R_kindOf 10 = .ok (.invokevirtual 184, 3) := by decide +kernel
theorem d_R_kindOf_13 : decode b_R_kindOf 13 = .ok (.iload_n 0, 1) := by decide +kernel
theorem d_R_kindOf_14 : decode b_R_kindOf 14 = .ok (.if_icmp .ne 5, 3) := by decide +kernel
theorem d_R_kindOf_17 : decode b_R_kindOf 17 = .ok (.iload_n 1, 1) := by decide +kernel
theorem d_R_kindOf_18 : decode b_R_kindOf 18 = .ok (.ireturn, 1) := by decide +kernel
theorem d_R_kindOf_19 : decode b_R_kindOf 19 = .ok (.iinc 1 1, 3) := by decide +kernel
theorem d_R_kindOf_22 : decode b_R_kindOf 22 = .ok (.goto (-20), 3) := by decide +kernel
theorem d_R_kindOf_25 : decode b_R_kindOf 25 = .ok (.iconst (-1), 1) := by decide +kernel
theorem d_R_kindOf_26 : decode b_R_kindOf 26 = .ok (.ireturn, 1) := by decide +kernel
theorem d_R_readName_0 : decode b_R_readName 0 = .ok (.iconst 0, 1) := by decide +kernel
theorem d_R_readName_1 : decode b_R_readName 1 = .ok (.istore_n 3, 1) := by decide +kernel
theorem d_R_readName_2 : decode b_R_readName 2 = .ok (.iload_n 3, 1) := by decide +kernel
theorem d_R_readName_3 : decode b_R_readName 3 = .ok (.bipush 40, 2) := by decide +kernel
theorem d_R_readName_5 : decode b_R_readName 5 = .ok (.if_icmp .ge 69, 3) := by decide +kernel
theorem d_R_readName_8 : decode b_R_readName 8 = .ok (.aload_n 0, 1) := by decide +kernel
theorem d_R_readName_9 : decode b_R_readName 9 = .ok (.getfield 38, 3) := by decide +kernel
theorem d_R_readName_12 : decode b_R_readName 12 = .ok (.invokevirtual 88, 3) := by decide +kernel
theorem d_R_readName_15 : decode b_R_readName 15 = .ok (.istore 4, 2) := by decide +kernel
theorem d_R_readName_17 : decode b_R_readName 17 = .ok (.iload 4, 2) := by decide +kernel
theorem d_R_readName_19 : decode b_R_readName 19 = .ok (.iconst (-1), 1) := by decide +kernel
theorem d_R_readName_20 : decode b_R_readName 20 = .ok (.if_icmp .eq 54, 3) := by decide +kernel
theorem d_R_readName_23 : decode b_R_readName 23 = .ok (.iload 4, 2) := by decide +kernel
theorem d_R_readName_25 : decode b_R_readName 25 = .ok (.bipush 10, 2) := by decide +kernel
theorem d_R_readName_27 : decode b_R_readName 27 = .ok (.if_icmp .ne 6, 3) := by decide +kernel
theorem d_R_readName_30 : decode b_R_readName 30 = .ok (.goto 44, 3) := by decide +kernel
theorem d_R_readName_33 : decode b_R_readName 33 = .ok (.aload_n 1, 1) := by decide +kernel
theorem d_R_readName_34 : decode b_R_readName 34 = .ok (.getfield 203, 3) := by decide +kernel
theorem d_R_readName_37 : decode b_R_readName 37 = .ok (.iload_n 2, 1) := by decide +kernel
theorem d_R_readName_38 : decode b_R_readName 38 = .ok (.bipush 40, 2) := by decide +kernel
theorem d_R_readName_40 : decode b_R_readName 40 = .ok (.imul, 1) := by decide +kernel
theorem d_R_readName_41 : decode b_R_readName 41 = .ok (.iload_n 3, 1) := by decide +kernel
theorem d_R_readName_42 : decode b_R_readName 42 = .ok (.iadd, 1) := by decide +kernel
theorem d_R_readName_43 : decode b_R_readName 43 = .ok (.iload 4, 2) := by decide +kernel
theorem d_R_readName_45 : decode b_R_readName 45 = .ok (.iastore, 1) := by decide +kernel
theorem d_R_readName_46 : decode b_R_readName 46 = .ok (.aload_n 1, 1) := by decide +kernel
theorem d_R_readName_47 : decode b_R_readName 47 = .ok (.getfield 193, 3) := by decide +kernel
theorem d_R_readName_50 : decode b_R_readName 50 = .ok (.iload_n 2, 1) := by decide +kernel
theorem d_R_readName_51 : decode b_R_readName 51 = .ok (.iload_n 3, 1) := by decide +kernel
theorem d_R_readName_52 : decode b_R_readName 52 = .ok (.iconst 1, 1) := by decide +kernel
theorem d_R_readName_53 : decode b_R_readName 53 = .ok (.iadd, 1) := by decide +kernel
theorem d_R_readName_54 : decode b_R_readName 54 = .ok (.iastore, 1) := by decide +kernel
theorem d_R_readName_55 : decode b_R_readName 55 = .ok (.aload_n 0, 1) := by decide +kernel
theorem d_R_readName_56 : decode b_R_readName 56 = .ok (.getfield 38, 3) := by decide +kernel
theorem d_R_readName_59 : decode b_R_readName 59 = .ok (.dup, 1) := by decide +kernel
theorem d_R_readName_60 : decode b_R_readName 60 = .ok (.getfield 118, 3) := by decide +kernel
theorem d_R_readName_63 : decode b_R_readName 63 = .ok (.iconst 1, 1) := by decide +kernel
theorem d_R_readName_64 : decode b_R_readName 64 = .ok (.iadd, 1) := by decide +kernel
theorem d_R_readName_65 : decode b_R_readName 65 = .ok (.putfield 118, 3) := by decide +kernel
theorem d_R_readName_68 : decode b_R_readName 68 = .ok (.iinc 3 1, 3) := by decide +kernel
theorem d_R_readName_71 : decode b_R_readName 71 = .ok (.goto (-69), 3) := by decide +kernel
theorem d_R_readName_74 : decode b_R_readName 74 = .ok (.aload_n 1, 1) := by decide +kernel
theorem d_R_readName_75 : decode b_R_readName 75 = .ok (.getfield 193, 3) := by decide +kernel
theorem d_R_readName_78 : decode b_R_readName 78 = .ok (.iload_n 2, 1) := by decide +kernel
theorem d_R_readName_79 : decode b_R_readName 79 = .ok (.iaload, 1) := by decide +kernel
theorem d_R_readName_80 : decode b_R_readName 80 = .ok (.ifCond .le 15, 3) := by decide +kernel
theorem d_R_readName_83 : decode b_R_readName 83 = .ok (.aload_n 0, 1) := by decide +kernel
theorem d_R_readName_84 : decode b_R_readName 84 = .ok (.getfield 38, 3) := by decide +kernel
theorem d_R_readName_87 : decode b_R_readName 87 = .ok (.bipush 10, 2) := by decide +kernel
theorem d_R_readName_89 : decode b_R_readName 89 = .ok (.invokevirtual 84, 3) := by decide +kernel
theorem d_R_readName_92 : decode b_R_readName 92 = .ok (.goto 18, 3) := by decide +kernel
theorem d_R_readName_95 : decode b_R_readName 95 = .ok (.aload_n 0, 1) := by decide +kernel
theorem d_R_readName_96 : decode b_R_readName 96 = .ok (.getfield 38, 3) := by decide +kernel
theorem d_R_readName_99 : decode b_R_readName 99 = .ok (.iconst 1, 1) := by decide +kernel
theorem d_R_readName_100 : decode b_R_readName 100 = .ok (.aload_n 0, 1) := by decide +kernel
theorem d_R_readName_101 : decode b_R_readName 101 = .ok (.getfield 38, 3) := by decide +kernel
theorem d_R_readName_104 : decode b_R_readName 104 = .ok (.getfield 118, 3) := by decide +kernel
theorem d_R_readName_107 : decode b_R_readName 107 = .ok (.invokevirtual 121, 3) := by decide +kernel
theorem d_R_readName_110 : decode b_R_readName 110 = .ok (.ireturn, 1) := by decide +kernel
theorem d_R_readSymbol_0 : decode b_R_readSymbol 0 = .ok (.iload_n 2, 1) := by decide +kernel
theorem d_R_readSymbol_1 : decode b_R_readSymbol 1 = .ok (.iconst (-1), 1) := by decide +kernel
theorem d_R_readSymbol_2 : decode b_R_readSymbol 2 = .ok (.if_icmp .ne 19, 3) := by decide +kernel
theorem d_R_readSymbol_5 : decode b_R_readSymbol 5 = .ok (.aload_n 0, 1) := by decide +kernel
theorem d_R_readSymbol_6 : decode b_R_readSymbol 6 = .ok (.getfield 38, 3) := by decide +kernel
theorem d_R_readSymbol_9 : decode b_R_readSymbol 9 = .ok (.iconst 1, 1) := by decide +kernel
theorem d_R_readSymbol_10 : decode b_R_readSymbol 10 = .ok (.aload_n 0, 1) := by decide +kernel
theorem d_R_readSymbol_11 : decode b_R_readSymbol 11 = .ok (.getfield 38, 3) := by decide +kernel
theorem d_R_readSymbol_14 : decode b_R_readSymbol 14 = .ok (.getfield 118, 3) := by decide +kernel
theorem d_R_readSymbol_17 : decode b_R_readSymbol 17 = .ok (.invokevirtual 121, 3) := by decide +kernel
theorem d_R_readSymbol_20 : decode b_R_readSymbol 20 = .ok (.ireturn, 1) := by decide +kernel
theorem d_R_readSymbol_21 : decode b_R_readSymbol 21 = .ok (.aload_n 0, 1) := by decide +kernel
theorem d_R_readSymbol_22 : decode b_R_readSymbol 22 = .ok (.getfield 38, 3) := by decide +kernel
theorem d_R_readSymbol_25 : decode b_R_readSymbol 25 = .ok (.dup, 1) := by decide +kernel
theorem d_R_readSymbol_26 : decode b_R_readSymbol 26 = .ok (.getfield 118, 3) := by decide +kernel
theorem d_R_readSymbol_29 : decode b_R_readSymbol 29 = .ok (.iconst 1, 1) := by decide +kernel
theorem d_R_readSymbol_30 : decode b_R_readSymbol 30 = .ok (.iadd, 1) := by decide +kernel
theorem d_R_readSymbol_31 : decode b_R_readSymbol 31 = .ok (.putfield 118, 3) := by decide +kernel
theorem d_R_readSymbol_34 : decode b_R_readSymbol 34 = .ok (.aload_n 0, 1) := by decide +kernel
theorem d_R_readSymbol_35 : decode b_R_readSymbol 35 = .ok (.getfield 38, 3) := by decide +kernel
theorem d_R_readSymbol_38 : decode b_R_readSymbol 38 = .ok (.invokevirtual 125, 3) := by decide +kernel
theorem d_R_readSymbol_41 : decode b_R_readSymbol 41 = .ok (.ifCond .ne 5, 3) := by decide +kernel
theorem d_R_readSymbol_44 : decode b_R_readSymbol 44 = .ok (.iconst 0, 1) := by decide +kernel
theorem d_R_readSymbol_45 : decode b_R_readSymbol 45 = .ok (.ireturn, 1) := by decide +kernel
theorem d_R_readSymbol_46 : decode b_R_readSymbol 46 = .ok (.aload_n 0, 1) := by decide +kernel
theorem d_R_readSymbol_47 : decode b_R_readSymbol 47 = .ok (.getfield 38, 3) := by decide +kernel
theorem d_R_readSymbol_50 : decode b_R_readSymbol 50 = .ok (.getfield 96, 3) := by decide +kernel
theorem d_R_readSymbol_53 : decode b_R_readSymbol 53 = .ok (.istore_n 3, 1) := by decide +kernel
theorem d_R_readSymbol_54 : decode b_R_readSymbol 54 = .ok (.iload_n 3, 1) := by decide +kernel
theorem d_R_readSymbol_55 : decode b_R_readSymbol 55 = .ok (.aload_n 1, 1) := by decide +kernel
theorem d_R_readSymbol_56 : decode b_R_readSymbol 56 = .ok (.iload_n 2, 1) := by decide +kernel
theorem d_R_readSymbol_57 : decode b_R_readSymbol 57 = .ok (.invokevirtual 190, 3) := by decide +kernel
theorem d_R_readSymbol_60 : decode b_R_readSymbol 60 = .ok (.if_icmp .ge 16, 3) := by decide +kernel
theorem d_R_readSymbol_63 : decode b_R_readSymbol 63 = .ok (.aload_n 1, 1) := by decide +kernel
theorem d_R_readSymbol_64 : decode b_R_readSymbol 64 = .ok (.getfield 193, 3) := by decide +kernel
theorem d_R_readSymbol_67 : decode b_R_readSymbol 67 = .ok (.iload_n 2, 1) := by decide +kernel
theorem d_R_readSymbol_68 : decode b_R_readSymbol 68 = .ok (.iload_n 3, 1) := by decide +kernel
theorem d_R_readSymbol_69 : decode b_R_readSymbol 69 = .ok (.invokestatic 196, 3) := by decide +kernel
theorem d_R_readSymbol_72 : decode b_R_readSymbol 72 = .ok (.iaload, 1) := by decide +kernel
theorem d_R_readSymbol_73 : decode b_R_readSymbol 73 = .ok (.ifCond .le 19, 3) := by decide +kernel
theorem d_R_readSymbol_76 : decode b_R_readSymbol 76 = .ok (.aload_n 0, 1) := by decide +kernel
theorem d_R_readSymbol_77 : decode b_R_readSymbol 77 = .ok (.getfield 38, 3) := by decide +kernel
theorem d_R_readSymbol_80 : decode b_R_readSymbol 80 = .ok (.iconst 1, 1) := by decide +kernel
theorem d_R_readSymbol_81 : decode b_R_readSymbol 81 = .ok (.aload_n 0, 1) := by decide +kernel
theorem d_R_readSymbol_82 : decode b_R_readSymbol 82 = .ok (.getfield 38, 3) := by decide +kernel
theorem d_R_readSymbol_85 : decode b_R_readSymbol 85 = .ok (.getfield 118, 3) := by decide +kernel
theorem d_R_readSymbol_88 : decode b_R_readSymbol 88 = .ok (.invokevirtual 121, 3) := by decide +kernel
theorem d_R_readSymbol_91 : decode b_R_readSymbol 91 = .ok (.ireturn, 1) := by decide +kernel
theorem d_R_readSymbol_92 : decode b_R_readSymbol 92 = .ok (.aload_n 0, 1) := by decide +kernel
theorem d_R_readSymbol_93 : decode b_R_readSymbol 93 = .ok (.getfield 38, 3) := by decide +kernel
theorem d_R_readSymbol_96 : decode b_R_readSymbol 96 = .ok (.bipush 32, 2) := by decide +kernel
theorem d_R_readSymbol_98 : decode b_R_readSymbol 98 = .ok (.invokevirtual 84, 3) := by decide +kernel
theorem d_R_readSymbol_101 : decode b_R_readSymbol 101 = .ok (.ifCond .eq 20, 3) := by decide +kernel
theorem d_R_readSymbol_104 : decode b_R_readSymbol 104 = .ok (.aload_n 0, 1) := by decide +kernel
theorem d_R_readSymbol_105 : decode b_R_readSymbol 105 = .ok (.aload_n 1, 1) := by decide +kernel
theorem d_R_readSymbol_106 : decode b_R_readSymbol 106 = .ok (.iload_n 2, 1) := by decide +kernel
theorem d_R_readSymbol_107 : decode b_R_readSymbol 107 = .ok (.iload_n 3, 1) := by decide +kernel
theorem d_R_readSymbol_108 : decode b_R_readSymbol 108 = .ok (.invokestatic 196, 3) := by decide +kernel
theorem d_R_readSymbol_111 : decode b_R_readSymbol 111 = .ok (.invokevirtual 200, 3) := by decide +kernel
theorem d_R_readSymbol_114 : decode b_R_readSymbol 114 = .ok (.ifCond .eq 7, 3) := by decide +kernel
theorem d_R_readSymbol_117 : decode b_R_readSymbol 117 = .ok (.iconst 1, 1) := by decide +kernel
theorem d_R_readSymbol_118 : decode b_R_readSymbol 118 = .ok (.goto 4, 3) := by decide +kernel
theorem d_R_readSymbol_121 : decode b_R_readSymbol 121 = .ok (.iconst 0, 1) := by decide +kernel
theorem d_R_readSymbol_122 : decode b_R_readSymbol 122 = .ok (.ireturn, 1) := by decide +kernel
theorem d_R_readSymbols_0 : decode b_R_readSymbols 0 = .ok (.iconst 0, 1) := by decide +kernel
theorem d_R_readSymbols_1 : decode b_R_readSymbols 1 = .ok (.istore_n 2, 1) := by decide +kernel
theorem d_R_readSymbols_2 : decode b_R_readSymbols 2 = .ok (.iload_n 2, 1) := by decide +kernel
theorem d_R_readSymbols_3 : decode b_R_readSymbols 3 = .ok (.bipush 24, 2) := by decide +kernel
theorem d_R_readSymbols_5 : decode b_R_readSymbols 5 = .ok (.if_icmp .gt 67, 3) := by decide +kernel
theorem d_R_readSymbols_8 : decode b_R_readSymbols 8 = .ok (.aload_n 0, 1) := by decide +kernel
theorem d_R_readSymbols_9 : decode b_R_readSymbols 9 = .ok (.getfield 38, 3) := by decide +kernel
theorem d_R_readSymbols_12 : decode b_R_readSymbols 12 = .ok (.invokevirtual 88, 3) := by decide +kernel
theorem d_R_readSymbols_15 : decode b_R_readSymbols 15 = .ok (.istore_n 3, 1) := by decide +kernel
theorem d_R_readSymbols_16 : decode b_R_readSymbols 16 = .ok (.iload_n 3, 1) := by decide +kernel
theorem d_R_readSymbols_17 : decode b_R_readSymbols 17 = .ok (.iconst (-1), 1) := by decide +kernel
theorem d_R_readSymbols_18 : decode b_R_readSymbols 18 = .ok (.if_icmp .ne 5, 3) := by decide +kernel
theorem d_R_readSymbols_21 : decode b_R_readSymbols 21 = .ok (.iconst 1, 1) := by decide +kernel
theorem d_R_readSymbols_22 : decode b_R_readSymbols 22 = .ok (.ireturn, 1) := by decide +kernel
theorem d_R_readSymbols_23 : decode b_R_readSymbols 23 = .ok (.iload_n 3, 1) := by decide +kernel
theorem d_R_readSymbols_24 : decode b_R_readSymbols 24 = .ok (.bipush 99, 2) := by decide +kernel
theorem d_R_readSymbols_26 : decode b_R_readSymbols 26 = .ok (.if_icmp .ne 26, 3) := by decide +kernel
theorem d_R_readSymbols_29 : decode b_R_readSymbols 29 = .ok (.aload_n 0, 1) := by decide +kernel
theorem d_R_readSymbols_30 : decode b_R_readSymbols 30 = .ok (.getfield 38, 3) := by decide +kernel
theorem d_R_readSymbols_33 : decode b_R_readSymbols 33 = .ok (.dup, 1) := by decide +kernel
theorem d_R_readSymbols_34 : decode b_R_readSymbols 34 = .ok (.getfield 118, 3) := by decide +kernel
theorem d_R_readSymbols_37 : decode b_R_readSymbols 37 = .ok (.iconst 1, 1) := by decide +kernel
theorem d_R_readSymbols_38 : decode b_R_readSymbols 38 = .ok (.iadd, 1) := by decide +kernel
theorem d_R_readSymbols_39 : decode b_R_readSymbols 39 = .ok (.putfield 118, 3) := by decide +kernel
theorem d_R_readSymbols_42 : decode b_R_readSymbols 42 = .ok (.aload_n 0, 1) := by decide +kernel
theorem d_R_readSymbols_43 : decode b_R_readSymbols 43 = .ok (.getfield 38, 3) := by decide +kernel
theorem d_R_readSymbols_46 : decode b_R_readSymbols 46 = .ok (.bipush 10, 2) := by decide +kernel
theorem d_R_readSymbols_48 : decode b_R_readSymbols 48 = .ok (.invokevirtual 84, 3) := by decide +kernel
theorem d_R_readSymbols_51 : decode b_R_readSymbols 51 = .ok (.ireturn, 1) := by decide +kernel
theorem d_R_readSymbols_52 : decode b_R_readSymbols 52 = .ok (.aload_n 0, 1) := by decide +kernel
theorem d_R_readSymbols_53 : decode b_R_readSymbols 53 = .ok (.aload_n 1, 1) := by decide +kernel
theorem d_R_readSymbols_54 : decode b_R_readSymbols 54 = .ok (.iload_n 3, 1) := by decide +kernel
theorem d_R_readSymbols_55 : decode b_R_readSymbols 55 = .ok (.invokestatic 174, 3) := by decide +kernel
theorem d_R_readSymbols_58 : decode b_R_readSymbols 58 = .ok (.invokevirtual 178, 3) := by decide +kernel
theorem d_R_readSymbols_61 : decode b_R_readSymbols 61 = .ok (.ifCond .ne 5, 3) := by decide +kernel
theorem d_R_readSymbols_64 : decode b_R_readSymbols 64 = .ok (.iconst 0, 1) := by decide +kernel
theorem d_R_readSymbols_65 : decode b_R_readSymbols 65 = .ok (.ireturn, 1) := by decide +kernel
theorem d_R_readSymbols_66 : decode b_R_readSymbols 66 = .ok (.iinc 2 1, 3) := by decide +kernel
theorem d_R_readSymbols_69 : decode b_R_readSymbols 69 = .ok (.goto (-67), 3) := by decide +kernel
theorem d_R_readSymbols_72 : decode b_R_readSymbols 72 = .ok (.iconst 1, 1) := by decide +kernel
theorem d_R_readSymbols_73 : decode b_R_readSymbols 73 = .ok (.ireturn, 1) := by decide +kernel
theorem d_R_checkUses_0 : decode b_R_checkUses 0 = .ok (.iconst 0, 1) := by decide +kernel
theorem d_R_checkUses_1 : decode b_R_checkUses 1 = .ok (.istore_n 2, 1) := by decide +kernel
theorem d_R_checkUses_2 : decode b_R_checkUses 2 = .ok (.iload_n 2, 1) := by decide +kernel
theorem d_R_checkUses_3 : decode b_R_checkUses 3 = .ok (.aload_n 0, 1) := by decide +kernel
theorem d_R_checkUses_4 : decode b_R_checkUses 4 = .ok (.getfield 25, 3) := by decide +kernel
theorem d_R_checkUses_7 : decode b_R_checkUses 7 = .ok (.if_icmp .ge 37, 3) := by decide +kernel
theorem d_R_checkUses_10 : decode b_R_checkUses 10 = .ok (.aload_n 1, 1) := by decide +kernel
theorem d_R_checkUses_11 : decode b_R_checkUses 11 = .ok (.aload_n 0, 1) := by decide +kernel
theorem d_R_checkUses_12 : decode b_R_checkUses 12 = .ok (.getfield 18, 3) := by decide +kernel
theorem d_R_checkUses_15 : decode b_R_checkUses 15 = .ok (.iload_n 2, 1) := by decide +kernel
theorem d_R_checkUses_16 : decode b_R_checkUses 16 = .ok (.iaload, 1) := by decide +kernel
theorem d_R_checkUses_17 : decode b_R_checkUses 17 = .ok (.invokevirtual 206, 3) := by decide +kernel
theorem d_R_checkUses_20 : decode b_R_checkUses 20 = .ok (.ifCond .ne 18, 3) := by decide +kernel
theorem d_R_checkUses_23 : decode b_R_checkUses 23 = .ok (.aload_n 0, 1) := by decide +kernel
theorem d_R_checkUses_24 : decode b_R_checkUses 24 = .ok (.getfield 38, 3) := by decide +kernel
theorem d_R_checkUses_27 : decode b_R_checkUses 27 = .ok (.iconst 5, 1) := by decide +kernel
theorem d_R_checkUses_28 : decode b_R_checkUses 28 = .ok (.aload_n 0, 1) := by decide +kernel
theorem d_R_checkUses_29 : decode b_R_checkUses 29 = .ok (.getfield 22, 3) := by decide +kernel
theorem d_R_checkUses_32 : decode b_R_checkUses 32 = .ok (.iload_n 2, 1) := by decide +kernel
theorem d_R_checkUses_33 : decode b_R_checkUses 33 = .ok (.iaload, 1) := by decide +kernel
theorem d_R_checkUses_34 : decode b_R_checkUses 34 = .ok (.invokevirtual 121, 3) := by decide +kernel
theorem d_R_checkUses_37 : decode b_R_checkUses 37 = .ok (.ireturn, 1) := by decide +kernel
theorem d_R_checkUses_38 : decode b_R_checkUses 38 = .ok (.iinc 2 1, 3) := by decide +kernel
theorem d_R_checkUses_41 : decode b_R_checkUses 41 = .ok (.goto (-39), 3) := by decide +kernel
theorem d_R_checkUses_44 : decode b_R_checkUses 44 = .ok (.iconst 1, 1) := by decide +kernel
theorem d_R_checkUses_45 : decode b_R_checkUses 45 = .ok (.ireturn, 1) := by decide +kernel
theorem d_R_checkLoops_0 : decode b_R_checkLoops 0 = .ok (.aload_n 0, 1) := by decide +kernel
theorem d_R_checkLoops_1 : decode b_R_checkLoops 1 = .ok (.getfield 12, 3) := by decide +kernel
theorem d_R_checkLoops_4 : decode b_R_checkLoops 4 = .ok (.aload_n 1, 1) := by decide +kernel
theorem d_R_checkLoops_5 : decode b_R_checkLoops 5 = .ok (.invokevirtual 209, 3) := by decide +kernel
theorem d_R_checkLoops_8 : decode b_R_checkLoops 8 = .ok (.ifCond .ne 23, 3) := by decide +kernel
theorem d_R_checkLoops_11 : decode b_R_checkLoops 11 = .ok (.aload_n 0, 1) := by decide +kernel
theorem d_R_checkLoops_12 : decode b_R_checkLoops 12 = .ok (.getfield 38, 3) := by decide +kernel
theorem d_R_checkLoops_15 : decode b_R_checkLoops 15 = .ok (.bipush 6, 2) := by decide +kernel
theorem d_R_checkLoops_17 : decode b_R_checkLoops 17 = .ok (.aload_n 0, 1) := by decide +kernel
theorem d_R_checkLoops_18 : decode b_R_checkLoops 18 = .ok (.getfield 12, 3) := by decide +kernel
theorem d_R_checkLoops_21 : decode b_R_checkLoops 21 = .ok (.aload_n 1, 1) := by decide +kernel
theorem d_R_checkLoops_22 : decode b_R_checkLoops 22 = .ok (.invokevirtual 212, 3) := by decide +kernel
theorem d_R_checkLoops_25 : decode b_R_checkLoops 25 = .ok (.invokevirtual 121, 3) := by decide +kernel
theorem d_R_checkLoops_28 : decode b_R_checkLoops 28 = .ok (.ifCond .eq 7, 3) := by decide +kernel
theorem d_R_checkLoops_31 : decode b_R_checkLoops 31 = .ok (.iconst 1, 1) := by decide +kernel
theorem d_R_checkLoops_32 : decode b_R_checkLoops 32 = .ok (.goto 4, 3) := by decide +kernel
theorem d_R_checkLoops_35 : decode b_R_checkLoops 35 = .ok (.iconst 0, 1) := by decide +kernel
theorem d_R_checkLoops_36 : decode b_R_checkLoops 36 = .ok (.ireturn, 1) := by decide +kernel
theorem d_R_readDelta_0 : decode b_R_readDelta 0 = .ok (.aload_n 0, 1) := by decide +kernel
theorem d_R_readDelta_1 : decode b_R_readDelta 1 = .ok (.getfield 38, 3) := by decide +kernel
theorem d_R_readDelta_4 : decode b_R_readDelta 4 = .ok (.invokevirtual 162, 3) := by decide +kernel
theorem d_R_readDelta_7 : decode b_R_readDelta 7 = .ok (.ifCond .ne 5, 3) := by decide +kernel
theorem d_R_readDelta_10 : decode b_R_readDelta 10 = .ok (.iconst 0, 1) := by decide +kernel
theorem d_R_readDelta_11 : decode b_R_readDelta 11 = .ok (.ireturn, 1) := by decide +kernel
theorem d_R_readDelta_12 : decode b_R_readDelta 12 = .ok (.aload_n 0, 1) := by decide +kernel
theorem d_R_readDelta_13 : decode b_R_readDelta 13 = .ok (.getfield 38, 3) := by decide +kernel
theorem d_R_readDelta_16 : decode b_R_readDelta 16 = .ok (.getfield 96, 3) := by decide +kernel
theorem d_R_readDelta_19 : decode b_R_readDelta 19 = .ok (.iload_n 1, 1) := by decide +kernel
theorem d_R_readDelta_20 : decode b_R_readDelta 20 = .ok (.if_icmp .lt 18, 3) := by decide +kernel
theorem d_R_readDelta_23 : decode b_R_readDelta 23 = .ok (.aload_n 0, 1) := by decide +kernel
theorem d_R_readDelta_24 : decode b_R_readDelta 24 = .ok (.getfield 38, 3) := by decide +kernel
theorem d_R_readDelta_27 : decode b_R_readDelta 27 = .ok (.getfield 96, 3) := by decide +kernel
theorem d_R_readDelta_30 : decode b_R_readDelta 30 = .ok (.iload_n 2, 1) := by decide +kernel
theorem d_R_readDelta_31 : decode b_R_readDelta 31 = .ok (.if_icmp .gt 7, 3) := by decide +kernel
theorem d_R_readDelta_34 : decode b_R_readDelta 34 = .ok (.iconst 1, 1) := by decide +kernel
theorem d_R_readDelta_35 : decode b_R_readDelta 35 = .ok (.goto 4, 3) := by decide +kernel
theorem d_R_readDelta_38 : decode b_R_readDelta 38 = .ok (.iconst 0, 1) := by decide +kernel
theorem d_R_readDelta_39 : decode b_R_readDelta 39 = .ok (.istore_n 3, 1) := by decide +kernel
theorem d_R_readDelta_40 : decode b_R_readDelta 40 = .ok (.iload_n 3, 1) := by decide +kernel
theorem d_R_readDelta_41 : decode b_R_readDelta 41 = .ok (.ifCond .ne 21, 3) := by decide +kernel
theorem d_R_readDelta_44 : decode b_R_readDelta 44 = .ok (.aload_n 0, 1) := by decide +kernel
theorem d_R_readDelta_45 : decode b_R_readDelta 45 = .ok (.getfield 38, 3) := by decide +kernel
theorem d_R_readDelta_48 : decode b_R_readDelta 48 = .ok (.iconst 3, 1) := by decide +kernel
theorem d_R_readDelta_49 : decode b_R_readDelta 49 = .ok (.aload_n 0, 1) := by decide +kernel
theorem d_R_readDelta_50 : decode b_R_readDelta 50 = .ok (.getfield 38, 3) := by decide +kernel
theorem d_R_readDelta_53 : decode b_R_readDelta 53 = .ok (.getfield 165, 3) := by decide +kernel
theorem d_R_readDelta_56 : decode b_R_readDelta 56 = .ok (.invokevirtual 121, 3) := by decide +kernel
theorem d_R_readDelta_59 : decode b_R_readDelta 59 = .ok (.ifCond .eq 7, 3) := by decide +kernel
theorem d_R_readDelta_62 : decode b_R_readDelta 62 = .ok (.iconst 1, 1) := by decide +kernel
theorem d_R_readDelta_63 : decode b_R_readDelta 63 = .ok (.goto 4, 3) := by decide +kernel
theorem d_R_readDelta_66 : decode b_R_readDelta 66 = .ok (.iconst 0, 1) := by decide +kernel
theorem d_R_readDelta_67 : decode b_R_readDelta 67 = .ok (.ireturn, 1) := by decide +kernel
theorem d_R_readBinaryAnds_0 : decode b_R_readBinaryAnds 0 = .ok (.iconst 0, 1) := by decide +kernel
theorem d_R_readBinaryAnds_1 : decode b_R_readBinaryAnds 1 = .ok (.istore_n 2, 1) := by decide +kernel
theorem d_R_readBinaryAnds_2 : decode b_R_readBinaryAnds 2 = .ok (.iload_n 2, 1) := by decide +kernel
theorem d_R_readBinaryAnds_3 : decode b_R_readBinaryAnds 3 = .ok (.aload_n 1, 1) := by decide +kernel
theorem d_R_readBinaryAnds_4 : decode b_R_readBinaryAnds 4 = .ok (.getfield 111, 3) := by decide +kernel
theorem d_R_readBinaryAnds_7 : decode b_R_readBinaryAnds 7 = .ok (.if_icmp .ge 103, 3) := by decide +kernel
theorem d_R_readBinaryAnds_10 : decode b_R_readBinaryAnds 10 = .ok (.aload_n 1, 1) := by decide +kernel
theorem d_R_readBinaryAnds_11 : decode b_R_readBinaryAnds 11 = .ok (.getfield 102, 3) := by decide +kernel
theorem d_R_readBinaryAnds_14 : decode b_R_readBinaryAnds 14 = .ok (.aload_n 1, 1) := by decide +kernel
theorem d_R_readBinaryAnds_15 : decode b_R_readBinaryAnds 15 = .ok (.getfield 105, 3) := by decide +kernel
theorem d_R_readBinaryAnds_18 : decode b_R_readBinaryAnds 18 = .ok (.iadd, 1) := by decide +kernel
theorem d_R_readBinaryAnds_19 : decode b_R_readBinaryAnds 19 = .ok (.iload_n 2, 1) := by decide +kernel
theorem d_R_readBinaryAnds_20 : decode b_R_readBinaryAnds 20 = .ok (.iadd, 1) := by decide +kernel
theorem d_R_readBinaryAnds_21 : decode b_R_readBinaryAnds 21 = .ok (.iconst 1, 1) := by decide +kernel
theorem d_R_readBinaryAnds_22 : decode b_R_readBinaryAnds 22 = .ok (.iadd, 1) := by decide +kernel
theorem d_R_readBinaryAnds_23 : decode b_R_readBinaryAnds 23 = .ok (.istore_n 3, 1) := by decide +kernel
theorem d_R_readBinaryAnds_24 : decode b_R_readBinaryAnds 24 = .ok (.aload_n 1, 1) := by decide +kernel
theorem d_R_readBinaryAnds_25 : decode b_R_readBinaryAnds 25 = .ok (.getfield 150, 3) := by decide +kernel
theorem d_R_readBinaryAnds_28 : decode b_R_readBinaryAnds 28 = .ok (.iload_n 2, 1) := by decide +kernel
theorem d_R_readBinaryAnds_29 : decode b_R_readBinaryAnds 29 = .ok (.iload_n 3, 1) := by decide +kernel
theorem d_R_readBinaryAnds_30 : decode b_R_readBinaryAnds 30 = .ok (.iastore, 1) := by decide +kernel
theorem d_R_readBinaryAnds_31 : decode b_R_readBinaryAnds 31 = .ok (.aload_n 1, 1) := by decide +kernel
theorem d_R_readBinaryAnds_32 : decode b_R_readBinaryAnds 32 = .ok (.getfield 134, 3) := by decide +kernel
theorem d_R_readBinaryAnds_35 : decode b_R_readBinaryAnds 35 = .ok (.iload_n 3, 1) := by decide +kernel
theorem d_R_readBinaryAnds_36 : decode b_R_readBinaryAnds 36 = .ok (.iconst 1, 1) := by decide +kernel
theorem d_R_readBinaryAnds_37 : decode b_R_readBinaryAnds 37 = .ok (.bastore, 1) := by decide +kernel
theorem d_R_readBinaryAnds_38 : decode b_R_readBinaryAnds 38 = .ok (.aload_n 0, 1) := by decide +kernel
theorem d_R_readBinaryAnds_39 : decode b_R_readBinaryAnds 39 = .ok (.iconst 1, 1) := by decide +kernel
theorem d_R_readBinaryAnds_40 : decode b_R_readBinaryAnds 40 = .ok (.iconst 2, 1) := by decide +kernel
theorem d_R_readBinaryAnds_41 : decode b_R_readBinaryAnds 41 = .ok (.iload_n 3, 1) := by decide +kernel
theorem d_R_readBinaryAnds_42 : decode b_R_readBinaryAnds 42 = .ok (.imul, 1) := by decide +kernel
theorem d_R_readBinaryAnds_43 : decode b_R_readBinaryAnds 43 = .ok (.invokevirtual 159, 3) := by decide +kernel
theorem d_R_readBinaryAnds_46 : decode b_R_readBinaryAnds 46 = .ok (.ifCond .ne 5, 3) := by decide +kernel
theorem d_R_readBinaryAnds_49 : decode b_R_readBinaryAnds 49 = .ok (.iconst 0, 1) := by decide +kernel
theorem d_R_readBinaryAnds_50 : decode b_R_readBinaryAnds 50 = .ok (.ireturn, 1) := by decide +kernel
theorem d_R_readBinaryAnds_51 : decode b_R_readBinaryAnds 51 = .ok (.aload_n 1, 1) := by decide +kernel
theorem d_R_readBinaryAnds_52 : decode b_R_readBinaryAnds 52 = .ok (.getfield 153, 3) := by decide +kernel
theorem d_R_readBinaryAnds_55 : decode b_R_readBinaryAnds 55 = .ok (.iload_n 2, 1) := by decide +kernel
theorem d_R_readBinaryAnds_56 : decode b_R_readBinaryAnds 56 = .ok (.iconst 2, 1) := by decide +kernel
theorem d_R_readBinaryAnds_57 : decode b_R_readBinaryAnds 57 = .ok (.iload_n 3, 1) := by decide +kernel
theorem d_R_readBinaryAnds_58 : decode b_R_readBinaryAnds 58 = .ok (.imul, 1) := by decide +kernel
theorem d_R_readBinaryAnds_59 : decode b_R_readBinaryAnds 59 = .ok (.aload_n 0, 1) := by decide +kernel
theorem d_R_readBinaryAnds_60 : decode b_R_readBinaryAnds 60 = .ok (.getfield 38, 3) := by decide +kernel
theorem d_R_readBinaryAnds_63 : decode b_R_readBinaryAnds 63 = .ok (.getfield 96, 3) := by decide +kernel
theorem d_R_readBinaryAnds_66 : decode b_R_readBinaryAnds 66 = .ok (.isub, 1) := by decide +kernel
theorem d_R_readBinaryAnds_67 : decode b_R_readBinaryAnds 67 = .ok (.iastore, 1) := by decide +kernel
theorem d_R_readBinaryAnds_68 : decode b_R_readBinaryAnds 68 = .ok (.aload_n 0, 1) := by decide +kernel
theorem d_R_readBinaryAnds_69 : decode b_R_readBinaryAnds 69 = .ok (.iconst 0, 1) := by decide +kernel
theorem d_R_readBinaryAnds_70 : decode b_R_readBinaryAnds 70 = .ok (.aload_n 1, 1) := by decide +kernel
theorem d_R_readBinaryAnds_71 : decode b_R_readBinaryAnds 71 = .ok (.getfield 153, 3) := by decide +kernel
theorem d_R_readBinaryAnds_74 : decode b_R_readBinaryAnds 74 = .ok (.iload_n 2, 1) := by decide +kernel
theorem d_R_readBinaryAnds_75 : decode b_R_readBinaryAnds 75 = .ok (.iaload, 1) := by decide +kernel
theorem d_R_readBinaryAnds_76 : decode b_R_readBinaryAnds 76 = .ok (.invokevirtual 159, 3) := by decide +kernel
theorem d_R_readBinaryAnds_79 : decode b_R_readBinaryAnds 79 = .ok (.ifCond .ne 5, 3) := by decide +kernel
theorem d_R_readBinaryAnds_82 : decode b_R_readBinaryAnds 82 = .ok (.iconst 0, 1) := by decide +kernel
theorem d_R_readBinaryAnds_83 : decode b_R_readBinaryAnds 83 = .ok (.ireturn, 1) := by decide +kernel
theorem d_R_readBinaryAnds_84 : decode b_R_readBinaryAnds 84 = .ok (.aload_n 1, 1) := by decide +kernel
theorem d_R_readBinaryAnds_85 : decode b_R_readBinaryAnds 85 = .ok (.getfield 156, 3) := by decide +kernel
theorem d_R_readBinaryAnds_88 : decode b_R_readBinaryAnds 88 = .ok (.iload_n 2, 1) := by decide +kernel
theorem d_R_readBinaryAnds_89 : decode b_R_readBinaryAnds 89 = .ok (.aload_n 1, 1) := by decide +kernel
theorem d_R_readBinaryAnds_90 : decode b_R_readBinaryAnds 90 = .ok (.getfield 153, 3) := by decide +kernel
theorem d_R_readBinaryAnds_93 : decode b_R_readBinaryAnds 93 = .ok (.iload_n 2, 1) := by decide +kernel
theorem d_R_readBinaryAnds_94 : decode b_R_readBinaryAnds 94 = .ok (.iaload, 1) := by decide +kernel
theorem d_R_readBinaryAnds_95 : decode b_R_readBinaryAnds 95 = .ok (.aload_n 0, 1) := by decide +kernel
theorem d_R_readBinaryAnds_96 : decode b_R_readBinaryAnds 96 = .ok (.getfield 38, 3) := by decide +kernel
theorem d_R_readBinaryAnds_99 : decode b_R_readBinaryAnds 99 = .ok (.getfield 96, 3) := by decide +kernel
theorem d_R_readBinaryAnds_102 : decode b_R_readBinaryAnds 102 = .ok (.isub, 1) := by decide +kernel
theorem d_R_readBinaryAnds_103 : decode b_R_readBinaryAnds 103 = .ok (.iastore, 1) := by decide +kernel
theorem d_R_readBinaryAnds_104 : decode b_R_readBinaryAnds 104 = .ok (.iinc 2 1, 3) := by decide +kernel
theorem d_R_readBinaryAnds_107 : decode b_R_readBinaryAnds 107 = .ok (.goto (-105), 3) := by decide +kernel
theorem d_R_readBinaryAnds_110 : decode b_R_readBinaryAnds 110 = .ok (.iconst 1, 1) := by decide +kernel
theorem d_R_readBinaryAnds_111 : decode b_R_readBinaryAnds 111 = .ok (.ireturn, 1) := by decide +kernel
theorem d_R_readFile_0 : decode b_R_readFile 0 = .ok (.aload_n 0, 1) := by decide +kernel
theorem d_R_readFile_1 : decode b_R_readFile 1 = .ok (.getfield 38, 3) := by decide +kernel
theorem d_R_readFile_4 : decode b_R_readFile 4 = .ok (.invokevirtual 48, 3) := by decide +kernel
theorem d_R_readFile_7 : decode b_R_readFile 7 = .ok (.aload_n 0, 1) := by decide +kernel
theorem d_R_readFile_8 : decode b_R_readFile 8 = .ok (.iconst 0, 1) := by decide +kernel
theorem d_R_readFile_9 : decode b_R_readFile 9 = .ok (.putfield 25, 3) := by decide +kernel
theorem d_R_readFile_12 : decode b_R_readFile 12 = .ok (.aload_n 1, 1) := by decide +kernel
theorem d_R_readFile_13 : decode b_R_readFile 13 = .ok (.invokevirtual 51, 3) := by decide +kernel
theorem d_R_readFile_16 : decode b_R_readFile 16 = .ok (.aload_n 0, 1) := by decide +kernel
theorem d_R_readFile_17 : decode b_R_readFile 17 = .ok (.aload_n 1, 1) := by decide +kernel
theorem d_R_readFile_18 : decode b_R_readFile 18 = .ok (.invokevirtual 56, 3) := by decide +kernel
theorem d_R_readFile_21 : decode b_R_readFile 21 = .ok (.ifCond .eq 81, 3) := by decide +kernel
theorem d_R_readFile_24 : decode b_R_readFile 24 = .ok (.aload_n 0, 1) := by decide +kernel
theorem d_R_readFile_25 : decode b_R_readFile 25 = .ok (.aload_n 1, 1) := by decide +kernel
theorem d_R_readFile_26 : decode b_R_readFile 26 = .ok (.invokevirtual 60, 3) := by decide +kernel
theorem d_R_readFile_29 : decode b_R_readFile 29 = .ok (.ifCond .eq 73, 3) := by decide +kernel
theorem d_R_readFile_32 : decode b_R_readFile 32 = .ok (.aload_n 0, 1) := by decide +kernel
theorem d_R_readFile_33 : decode b_R_readFile 33 = .ok (.aload_n 1, 1) := by decide +kernel
theorem d_R_readFile_34 : decode b_R_readFile 34 = .ok (.invokevirtual 63, 3) := by decide +kernel
theorem d_R_readFile_37 : decode b_R_readFile 37 = .ok (.ifCond .eq 65, 3) := by decide +kernel
theorem d_R_readFile_40 : decode b_R_readFile 40 = .ok (.aload_n 0, 1) := by decide +kernel
theorem d_R_readFile_41 : decode b_R_readFile 41 = .ok (.aload_n 1, 1) := by decide +kernel
theorem d_R_readFile_42 : decode b_R_readFile 42 = .ok (.invokevirtual 66, 3) := by decide +kernel
theorem d_R_readFile_45 : decode b_R_readFile 45 = .ok (.ifCond .eq 57, 3) := by decide +kernel
theorem d_R_readFile_48 : decode b_R_readFile 48 = .ok (.aload_n 0, 1) := by decide +kernel
theorem d_R_readFile_49 : decode b_R_readFile 49 = .ok (.getfield 29, 3) := by decide +kernel
theorem d_R_readFile_52 : decode b_R_readFile 52 = .ok (.ifCond .eq 14, 3) := by decide +kernel
theorem d_R_readFile_55 : decode b_R_readFile 55 = .ok (.aload_n 0, 1) := by decide +kernel
theorem d_R_readFile_56 : decode b_R_readFile 56 = .ok (.aload_n 1, 1) := by decide +kernel
theorem d_R_readFile_57 : decode b_R_readFile 57 = .ok (.invokevirtual 69, 3) := by decide +kernel
theorem d_R_readFile_60 : decode b_R_readFile 60 = .ok (.ifCond .eq 42, 3) := by decide +kernel
theorem d_R_readFile_63 : decode b_R_readFile 63 = .ok (.goto 11, 3) := by decide +kernel
theorem d_R_readFile_66 : decode b_R_readFile 66 = .ok (.aload_n 0, 1) := by decide +kernel
theorem d_R_readFile_67 : decode b_R_readFile 67 = .ok (.aload_n 1, 1) := by decide +kernel
theorem d_R_readFile_68 : decode b_R_readFile 68 = .ok (.invokevirtual 72, 3) := by decide +kernel
theorem d_R_readFile_71 : decode b_R_readFile 71 = .ok (.ifCond .eq 31, 3) := by decide +kernel
theorem d_R_readFile_74 : decode b_R_readFile 74 = .ok (.aload_n 0, 1) := by decide +kernel
theorem d_R_readFile_75 : decode b_R_readFile 75 = .ok (.aload_n 1, 1) := by decide +kernel
theorem d_R_readFile_76 : decode b_R_readFile 76 = .ok (.invokevirtual 75, 3) := by decide +kernel
theorem d_R_readFile_79 : decode b_R_readFile 79 = .ok (.ifCond .eq 23, 3) := by decide +kernel
theorem d_R_readFile_82 : decode b_R_readFile 82 = .ok (.aload_n 0, 1) := by decide +kernel
theorem d_R_readFile_83 : decode b_R_readFile 83 = .ok (.aload_n 1, 1) := by decide +kernel
theorem d_R_readFile_84 : decode b_R_readFile 84 = .ok (.invokevirtual 78, 3) := by decide +kernel
theorem d_R_readFile_87 : decode b_R_readFile 87 = .ok (.ifCond .eq 15, 3) := by decide +kernel
theorem d_R_readFile_90 : decode b_R_readFile 90 = .ok (.aload_n 0, 1) := by decide +kernel
theorem d_R_readFile_91 : decode b_R_readFile 91 = .ok (.aload_n 1, 1) := by decide +kernel
theorem d_R_readFile_92 : decode b_R_readFile 92 = .ok (.invokevirtual 81, 3) := by decide +kernel
theorem d_R_readFile_95 : decode b_R_readFile 95 = .ok (.ifCond .eq 7, 3) := by decide +kernel
theorem d_R_readFile_98 : decode b_R_readFile 98 = .ok (.iconst 1, 1) := by decide +kernel
theorem d_R_readFile_99 : decode b_R_readFile 99 = .ok (.goto 4, 3) := by decide +kernel
theorem d_R_readFile_102 : decode b_R_readFile 102 = .ok (.iconst 0, 1) := by decide +kernel
theorem d_R_readFile_103 : decode b_R_readFile 103 = .ok (.ireturn, 1) := by decide +kernel
end
section
theorem tb_p24 : Cond.selects R_R y_R_checkLoops y_R_checkLoops ∈ TB := tb_mem (i := 24) (by decide +kernel) (by decide +kernel)
theorem tb_p23 : Cond.selects R_R y_R_checkUses y_R_checkUses ∈ TB := tb_mem (i := 23) (by decide +kernel) (by decide +kernel)
theorem tb_p22 : Cond.selects R_R y_R_readName y_R_readName ∈ TB := tb_mem (i := 22) (by decide +kernel) (by decide +kernel)
theorem tb_p21 : Cond.selects R_R y_R_readSymbol y_R_readSymbol ∈ TB := tb_mem (i := 21) (by decide +kernel) (by decide +kernel)
theorem tb_p20 : Cond.selects R_R y_R_readSymbols y_R_readSymbols ∈ TB := tb_mem (i := 20) (by decide +kernel) (by decide +kernel)
theorem tb_p19 : Cond.selects R_R y_R_readTextAnds y_R_readTextAnds ∈ TB := tb_mem (i := 19) (by decide +kernel) (by decide +kernel)
theorem tb_p18 : Cond.selects R_R y_R_readDelta y_R_readDelta ∈ TB := tb_mem (i := 18) (by decide +kernel) (by decide +kernel)
theorem tb_p17 : Cond.selects R_R y_R_readBinaryAnds y_R_readBinaryAnds ∈ TB := tb_mem (i := 17) (by decide +kernel) (by decide +kernel)
theorem tb_p16 : Cond.selects R_R y_R_readOutputs y_R_readOutputs ∈ TB := tb_mem (i := 16) (by decide +kernel) (by decide +kernel)
theorem tb_p15 : Cond.selects R_R y_R_readUse y_R_readUse ∈ TB := tb_mem (i := 15) (by decide +kernel) (by decide +kernel)
theorem tb_p14 : Cond.selects R_R y_R_readLatches y_R_readLatches ∈ TB := tb_mem (i := 14) (by decide +kernel) (by decide +kernel)
theorem tb_p13 : Cond.selects R_R y_R_readLiteral y_R_readLiteral ∈ TB := tb_mem (i := 13) (by decide +kernel) (by decide +kernel)
theorem tb_p12 : Cond.selects R_R y_R_readDefinition y_R_readDefinition ∈ TB := tb_mem (i := 12) (by decide +kernel) (by decide +kernel)
theorem tb_p11 : Cond.selects R_R y_R_readInputs y_R_readInputs ∈ TB := tb_mem (i := 11) (by decide +kernel) (by decide +kernel)
theorem tb_p10 : Cond.selects R_R y_R_readCount y_R_readCount ∈ TB := tb_mem (i := 10) (by decide +kernel) (by decide +kernel)
theorem tb_p9 : Cond.selects R_R y_R_readHeader y_R_readHeader ∈ TB := tb_mem (i := 9) (by decide +kernel) (by decide +kernel)
theorem tb_3 : Cond.initialized R_R ∈ TB := tb_mem (i := 66) (by decide +kernel) (by decide +kernel)
theorem tb_82 : Cond.fieldLink R_R 118 "CircuitFiles$Cursor" "at" "I" ∈ TB := tb_mem (i := 145) (by decide +kernel) (by decide +kernel)
theorem tb_84 : Cond.fieldLink R_R 165 "CircuitFiles$Cursor" "start" "I" ∈ TB := tb_mem (i := 147) (by decide +kernel) (by decide +kernel)
theorem tb_86 : Cond.fieldLink R_R 96 "CircuitFiles$Cursor" "number" "I" ∈ TB := tb_mem (i := 149) (by decide +kernel) (by decide +kernel)
theorem tb_88 : Cond.fieldLink R_R 42 "CircuitFiles$Cursor" "faultKind" "I" ∈ TB := tb_mem (i := 151) (by decide +kernel) (by decide +kernel)
theorem tb_90 : Cond.fieldLink R_R 45 "CircuitFiles$Cursor" "faultPlace" "I" ∈ TB := tb_mem (i := 153) (by decide +kernel) (by decide +kernel)
theorem tb_104 : Cond.fieldLink R_R 38 "CircuitFiles$Reader" "cursor" "LCircuitFiles$Cursor;" ∈ TB := tb_mem (i := 167) (by decide +kernel) (by decide +kernel)
theorem tb_105 : Cond.fieldLink R_R 12 "CircuitFiles$Reader" "sorter" "LCircuitFiles$AndSorter;" ∈ TB := tb_mem (i := 168) (by decide +kernel) (by decide +kernel)
theorem tb_106 : Cond.fieldLink R_R 18 "CircuitFiles$Reader" "useLiteral" "[I" ∈ TB := tb_mem (i := 169) (by decide +kernel) (by decide +kernel)
theorem tb_107 : Cond.fieldLink R_R 22 "CircuitFiles$Reader" "usePlace" "[I" ∈ TB := tb_mem (i := 170) (by decide +kernel) (by decide +kernel)
theorem tb_108 : Cond.fieldLink R_R 25 "CircuitFiles$Reader" "uses" "I" ∈ TB := tb_mem (i := 171) (by decide +kernel) (by decide +kernel)
theorem tb_109 : Cond.fieldLink R_R 29 "CircuitFiles$Reader" "binary" "Z" ∈ TB := tb_mem (i := 172) (by decide +kernel) (by decide +kernel)
theorem tb_151 : Cond.fieldLink R_R 99 "CircuitFiles$Circuit" "top" "I" ∈ TB := tb_mem (i := 214) (by decide +kernel) (by decide +kernel)
theorem tb_155 : Cond.fieldLink R_R 102 "CircuitFiles$Circuit" "inputs" "I" ∈ TB := tb_mem (i := 218) (by decide +kernel) (by decide +kernel)
theorem tb_159 : Cond.fieldLink R_R 105 "CircuitFiles$Circuit" "latches" "I" ∈ TB := tb_mem (i := 222) (by decide +kernel) (by decide +kernel)
theorem tb_163 : Cond.fieldLink R_R 108 "CircuitFiles$Circuit" "outputs" "I" ∈ TB := tb_mem (i := 226) (by decide +kernel) (by decide +kernel)
theorem tb_169 : Cond.fieldLink R_R 111 "CircuitFiles$Circuit" "ands" "I" ∈ TB := tb_mem (i := 232) (by decide +kernel) (by decide +kernel)
theorem tb_174 : Cond.fieldLink R_R 128 "CircuitFiles$Circuit" "inputVariable" "[I" ∈ TB := tb_mem (i := 237) (by decide +kernel) (by decide +kernel)
theorem tb_177 : Cond.fieldLink R_R 138 "CircuitFiles$Circuit" "latchVariable" "[I" ∈ TB := tb_mem (i := 240) (by decide +kernel) (by decide +kernel)
theorem tb_180 : Cond.fieldLink R_R 144 "CircuitFiles$Circuit" "latchNext" "[I" ∈ TB := tb_mem (i := 243) (by decide +kernel) (by decide +kernel)
theorem tb_184 : Cond.fieldLink R_R 147 "CircuitFiles$Circuit" "outputLiteral" "[I" ∈ TB := tb_mem (i := 247) (by decide +kernel) (by decide +kernel)
theorem tb_189 : Cond.fieldLink R_R 150 "CircuitFiles$Circuit" "andVariable" "[I" ∈ TB := tb_mem (i := 252) (by decide +kernel) (by decide +kernel)
theorem tb_193 : Cond.fieldLink R_R 153 "CircuitFiles$Circuit" "andFirst" "[I" ∈ TB := tb_mem (i := 256) (by decide +kernel) (by decide +kernel)
theorem tb_197 : Cond.fieldLink R_R 156 "CircuitFiles$Circuit" "andSecond" "[I" ∈ TB := tb_mem (i := 260) (by decide +kernel) (by decide +kernel)
theorem tb_202 : Cond.fieldLink R_R 134 "CircuitFiles$Circuit" "defined" "[Z" ∈ TB := tb_mem (i := 265) (by decide +kernel) (by decide +kernel)
theorem tb_206 : Cond.fieldLink R_R 193 "CircuitFiles$Circuit" "nameLength" "[I" ∈ TB := tb_mem (i := 269) (by decide +kernel) (by decide +kernel)
theorem tb_210 : Cond.fieldLink R_R 203 "CircuitFiles$Circuit" "nameBytes" "[I" ∈ TB := tb_mem (i := 273) (by decide +kernel) (by decide +kernel)
theorem tb_426 : Cond.instanceMethod y_C_highestLiteral ∈ TB := tb_mem (i := 489) (by decide +kernel) (by decide +kernel)
theorem tb_427 : Cond.selects R_C y_C_highestLiteral y_C_highestLiteral ∈ TB := tb_mem (i := 490) (by decide +kernel) (by decide +kernel)
theorem tb_428 : Cond.code y_C_highestLiteral b_C_highestLiteral 1 (some .int) ∈ TB := tb_mem (i := 491) (by decide +kernel) (by decide +kernel)
theorem tb_430 : Cond.instanceMethod y_C_isKnown ∈ TB := tb_mem (i := 493) (by decide +kernel) (by decide +kernel)
theorem tb_431 : Cond.selects R_C y_C_isKnown y_C_isKnown ∈ TB := tb_mem (i := 494) (by decide +kernel) (by decide +kernel)
theorem tb_432 : Cond.code y_C_isKnown b_C_isKnown 2 (some .boolean) ∈ TB := tb_mem (i := 495) (by decide +kernel) (by decide +kernel)
theorem tb_462 : Cond.methodLink R_R 48 y_U_restart ∈ TB := tb_mem (i := 525) (by decide +kernel) (by decide +kernel)
theorem tb_463 : Cond.instanceMethod y_U_restart ∈ TB := tb_mem (i := 526) (by decide +kernel) (by decide +kernel)
theorem tb_464 : Cond.selects R_U y_U_restart y_U_restart ∈ TB := tb_mem (i := 527) (by decide +kernel) (by decide +kernel)
theorem tb_465 : Cond.code y_U_restart b_U_restart 1 none ∈ TB := tb_mem (i := 528) (by decide +kernel) (by decide +kernel)
theorem tb_466 : Cond.methodLink R_R 51 y_C_forget ∈ TB := tb_mem (i := 529) (by decide +kernel) (by decide +kernel)
theorem tb_467 : Cond.instanceMethod y_C_forget ∈ TB := tb_mem (i := 530) (by decide +kernel) (by decide +kernel)
theorem tb_468 : Cond.selects R_C y_C_forget y_C_forget ∈ TB := tb_mem (i := 531) (by decide +kernel) (by decide +kernel)
theorem tb_469 : Cond.code y_C_forget b_C_forget 2 none ∈ TB := tb_mem (i := 532) (by decide +kernel) (by decide +kernel)
theorem tb_470 : Cond.methodLink R_R 56 y_R_readHeader ∈ TB := tb_mem (i := 533) (by decide +kernel) (by decide +kernel)
theorem tb_472 : Cond.instanceMethod y_R_readHeader ∈ TB := tb_mem (i := 535) (by decide +kernel) (by decide +kernel)
theorem tb_473 : Cond.code y_R_readHeader b_R_readHeader 2 (some .boolean) ∈ TB := tb_mem (i := 536) (by decide +kernel) (by decide +kernel)
theorem tb_474 : Cond.methodLink R_R 84 y_U_expect ∈ TB := tb_mem (i := 537) (by decide +kernel) (by decide +kernel)
theorem tb_475 : Cond.instanceMethod y_U_expect ∈ TB := tb_mem (i := 538) (by decide +kernel) (by decide +kernel)
theorem tb_476 : Cond.selects R_U y_U_expect y_U_expect ∈ TB := tb_mem (i := 539) (by decide +kernel) (by decide +kernel)
theorem tb_477 : Cond.code y_U_expect b_U_expect 2 (some .boolean) ∈ TB := tb_mem (i := 540) (by decide +kernel) (by decide +kernel)
theorem tb_486 : Cond.methodLink R_R 88 y_U_peek ∈ TB := tb_mem (i := 549) (by decide +kernel) (by decide +kernel)
theorem tb_487 : Cond.methodLink R_R 92 y_R_readCount ∈ TB := tb_mem (i := 550) (by decide +kernel) (by decide +kernel)
theorem tb_489 : Cond.instanceMethod y_R_readCount ∈ TB := tb_mem (i := 552) (by decide +kernel) (by decide +kernel)
theorem tb_490 : Cond.code y_R_readCount b_R_readCount 1 (some .boolean) ∈ TB := tb_mem (i := 553) (by decide +kernel) (by decide +kernel)
theorem tb_491 : Cond.methodLink R_R 125 y_U_readNumber ∈ TB := tb_mem (i := 554) (by decide +kernel) (by decide +kernel)
theorem tb_492 : Cond.instanceMethod y_U_readNumber ∈ TB := tb_mem (i := 555) (by decide +kernel) (by decide +kernel)
theorem tb_493 : Cond.selects R_U y_U_readNumber y_U_readNumber ∈ TB := tb_mem (i := 556) (by decide +kernel) (by decide +kernel)
theorem tb_494 : Cond.code y_U_readNumber b_U_readNumber 4 (some .boolean) ∈ TB := tb_mem (i := 557) (by decide +kernel) (by decide +kernel)
theorem tb_495 : Cond.methodLink R_R 114 y_C_isWithinBounds ∈ TB := tb_mem (i := 558) (by decide +kernel) (by decide +kernel)
theorem tb_496 : Cond.instanceMethod y_C_isWithinBounds ∈ TB := tb_mem (i := 559) (by decide +kernel) (by decide +kernel)
theorem tb_497 : Cond.selects R_C y_C_isWithinBounds y_C_isWithinBounds ∈ TB := tb_mem (i := 560) (by decide +kernel) (by decide +kernel)
theorem tb_498 : Cond.code y_C_isWithinBounds b_C_isWithinBounds 3 (some .boolean) ∈ TB := tb_mem (i := 561) (by decide +kernel) (by decide +kernel)
theorem tb_499 : Cond.methodLink R_R 121 y_U_fail ∈ TB := tb_mem (i := 562) (by decide +kernel) (by decide +kernel)
theorem tb_500 : Cond.methodLink R_R 60 y_R_readInputs ∈ TB := tb_mem (i := 563) (by decide +kernel) (by decide +kernel)
theorem tb_502 : Cond.instanceMethod y_R_readInputs ∈ TB := tb_mem (i := 565) (by decide +kernel) (by decide +kernel)
theorem tb_503 : Cond.code y_R_readInputs b_R_readInputs 3 (some .boolean) ∈ TB := tb_mem (i := 566) (by decide +kernel) (by decide +kernel)
theorem tb_504 : Cond.methodLink R_R 131 y_R_readDefinition ∈ TB := tb_mem (i := 567) (by decide +kernel) (by decide +kernel)
theorem tb_506 : Cond.instanceMethod y_R_readDefinition ∈ TB := tb_mem (i := 569) (by decide +kernel) (by decide +kernel)
theorem tb_507 : Cond.code y_R_readDefinition b_R_readDefinition 4 (some .boolean) ∈ TB := tb_mem (i := 570) (by decide +kernel) (by decide +kernel)
theorem tb_508 : Cond.methodLink R_R 171 y_R_readLiteral ∈ TB := tb_mem (i := 571) (by decide +kernel) (by decide +kernel)
theorem tb_510 : Cond.instanceMethod y_R_readLiteral ∈ TB := tb_mem (i := 573) (by decide +kernel) (by decide +kernel)
theorem tb_511 : Cond.code y_R_readLiteral b_R_readLiteral 2 (some .boolean) ∈ TB := tb_mem (i := 574) (by decide +kernel) (by decide +kernel)
theorem tb_512 : Cond.methodLink R_R 168 y_C_highestLiteral ∈ TB := tb_mem (i := 575) (by decide +kernel) (by decide +kernel)
theorem tb_513 : Cond.methodLink R_R 63 y_R_readLatches ∈ TB := tb_mem (i := 576) (by decide +kernel) (by decide +kernel)
theorem tb_515 : Cond.instanceMethod y_R_readLatches ∈ TB := tb_mem (i := 578) (by decide +kernel) (by decide +kernel)
theorem tb_516 : Cond.code y_R_readLatches b_R_readLatches 3 (some .boolean) ∈ TB := tb_mem (i := 579) (by decide +kernel) (by decide +kernel)
theorem tb_517 : Cond.methodLink R_R 141 y_R_readUse ∈ TB := tb_mem (i := 580) (by decide +kernel) (by decide +kernel)
theorem tb_519 : Cond.instanceMethod y_R_readUse ∈ TB := tb_mem (i := 582) (by decide +kernel) (by decide +kernel)
theorem tb_520 : Cond.code y_R_readUse b_R_readUse 2 (some .boolean) ∈ TB := tb_mem (i := 583) (by decide +kernel) (by decide +kernel)
theorem tb_521 : Cond.methodLink R_R 66 y_R_readOutputs ∈ TB := tb_mem (i := 584) (by decide +kernel) (by decide +kernel)
theorem tb_523 : Cond.instanceMethod y_R_readOutputs ∈ TB := tb_mem (i := 586) (by decide +kernel) (by decide +kernel)
theorem tb_524 : Cond.code y_R_readOutputs b_R_readOutputs 3 (some .boolean) ∈ TB := tb_mem (i := 587) (by decide +kernel) (by decide +kernel)
theorem tb_525 : Cond.methodLink R_R 69 y_R_readBinaryAnds ∈ TB := tb_mem (i := 588) (by decide +kernel) (by decide +kernel)
theorem tb_527 : Cond.instanceMethod y_R_readBinaryAnds ∈ TB := tb_mem (i := 590) (by decide +kernel) (by decide +kernel)
theorem tb_528 : Cond.code y_R_readBinaryAnds b_R_readBinaryAnds 4 (some .boolean) ∈ TB := tb_mem (i := 591) (by decide +kernel) (by decide +kernel)
theorem tb_529 : Cond.methodLink R_R 159 y_R_readDelta ∈ TB := tb_mem (i := 592) (by decide +kernel) (by decide +kernel)
theorem tb_531 : Cond.instanceMethod y_R_readDelta ∈ TB := tb_mem (i := 594) (by decide +kernel) (by decide +kernel)
theorem tb_532 : Cond.code y_R_readDelta b_R_readDelta 4 (some .boolean) ∈ TB := tb_mem (i := 595) (by decide +kernel) (by decide +kernel)
theorem tb_533 : Cond.methodLink R_R 162 y_U_readSevens ∈ TB := tb_mem (i := 596) (by decide +kernel) (by decide +kernel)
theorem tb_534 : Cond.instanceMethod y_U_readSevens ∈ TB := tb_mem (i := 597) (by decide +kernel) (by decide +kernel)
theorem tb_535 : Cond.selects R_U y_U_readSevens y_U_readSevens ∈ TB := tb_mem (i := 598) (by decide +kernel) (by decide +kernel)
theorem tb_536 : Cond.code y_U_readSevens b_U_readSevens 3 (some .boolean) ∈ TB := tb_mem (i := 599) (by decide +kernel) (by decide +kernel)
theorem tb_537 : Cond.methodLink R_R 72 y_R_readTextAnds ∈ TB := tb_mem (i := 600) (by decide +kernel) (by decide +kernel)
theorem tb_539 : Cond.instanceMethod y_R_readTextAnds ∈ TB := tb_mem (i := 602) (by decide +kernel) (by decide +kernel)
theorem tb_540 : Cond.code y_R_readTextAnds b_R_readTextAnds 3 (some .boolean) ∈ TB := tb_mem (i := 603) (by decide +kernel) (by decide +kernel)
theorem tb_541 : Cond.methodLink R_R 75 y_R_readSymbols ∈ TB := tb_mem (i := 604) (by decide +kernel) (by decide +kernel)
theorem tb_543 : Cond.instanceMethod y_R_readSymbols ∈ TB := tb_mem (i := 606) (by decide +kernel) (by decide +kernel)
theorem tb_544 : Cond.code y_R_readSymbols b_R_readSymbols 4 (some .boolean) ∈ TB := tb_mem (i := 607) (by decide +kernel) (by decide +kernel)
theorem tb_545 : Cond.methodLink R_R 174 y_R_kindOf ∈ TB := tb_mem (i := 608) (by decide +kernel) (by decide +kernel)
theorem tb_546 : Cond.static y_R_kindOf ∈ TB := tb_mem (i := 609) (by decide +kernel) (by decide +kernel)
theorem tb_547 : Cond.code y_R_kindOf b_R_kindOf 2 (some .int) ∈ TB := tb_mem (i := 610) (by decide +kernel) (by decide +kernel)
theorem tb_549 : Cond.methodLink R_R 184 y_JcA ∈ TB := tb_mem (i := 612) (by decide +kernel) (by decide +kernel)
theorem tb_550 : Cond.methodLink R_R 178 y_R_readSymbol ∈ TB := tb_mem (i := 613) (by decide +kernel) (by decide +kernel)
theorem tb_552 : Cond.instanceMethod y_R_readSymbol ∈ TB := tb_mem (i := 615) (by decide +kernel) (by decide +kernel)
theorem tb_553 : Cond.code y_R_readSymbol b_R_readSymbol 4 (some .boolean) ∈ TB := tb_mem (i := 616) (by decide +kernel) (by decide +kernel)
theorem tb_554 : Cond.methodLink R_R 190 y_C_countOf ∈ TB := tb_mem (i := 617) (by decide +kernel) (by decide +kernel)
theorem tb_556 : Cond.methodLink R_R 200 y_R_readName ∈ TB := tb_mem (i := 619) (by decide +kernel) (by decide +kernel)
theorem tb_558 : Cond.instanceMethod y_R_readName ∈ TB := tb_mem (i := 621) (by decide +kernel) (by decide +kernel)
theorem tb_559 : Cond.code y_R_readName b_R_readName 5 (some .boolean) ∈ TB := tb_mem (i := 622) (by decide +kernel) (by decide +kernel)
theorem tb_560 : Cond.methodLink R_R 78 y_R_checkUses ∈ TB := tb_mem (i := 623) (by decide +kernel) (by decide +kernel)
theorem tb_562 : Cond.instanceMethod y_R_checkUses ∈ TB := tb_mem (i := 625) (by decide +kernel) (by decide +kernel)
theorem tb_563 : Cond.code y_R_checkUses b_R_checkUses 3 (some .boolean) ∈ TB := tb_mem (i := 626) (by decide +kernel) (by decide +kernel)
theorem tb_564 : Cond.methodLink R_R 206 y_C_isKnown ∈ TB := tb_mem (i := 627) (by decide +kernel) (by decide +kernel)
theorem tb_565 : Cond.methodLink R_R 81 y_R_checkLoops ∈ TB := tb_mem (i := 628) (by decide +kernel) (by decide +kernel)
theorem tb_567 : Cond.instanceMethod y_R_checkLoops ∈ TB := tb_mem (i := 630) (by decide +kernel) (by decide +kernel)
theorem tb_568 : Cond.code y_R_checkLoops b_R_checkLoops 2 (some .boolean) ∈ TB := tb_mem (i := 631) (by decide +kernel) (by decide +kernel)
theorem tb_569 : Cond.methodLink R_R 209 y_S_putInOrder ∈ TB := tb_mem (i := 632) (by decide +kernel) (by decide +kernel)
theorem tb_570 : Cond.instanceMethod y_S_putInOrder ∈ TB := tb_mem (i := 633) (by decide +kernel) (by decide +kernel)
theorem tb_571 : Cond.selects R_S y_S_putInOrder y_S_putInOrder ∈ TB := tb_mem (i := 634) (by decide +kernel) (by decide +kernel)
theorem tb_572 : Cond.code y_S_putInOrder b_S_putInOrder 5 (some .boolean) ∈ TB := tb_mem (i := 635) (by decide +kernel) (by decide +kernel)
theorem tb_581 : Cond.methodLink R_R 212 y_S_lowestOnLoop ∈ TB := tb_mem (i := 644) (by decide +kernel) (by decide +kernel)
theorem tb_582 : Cond.instanceMethod y_S_lowestOnLoop ∈ TB := tb_mem (i := 645) (by decide +kernel) (by decide +kernel)
theorem tb_583 : Cond.selects R_S y_S_lowestOnLoop y_S_lowestOnLoop ∈ TB := tb_mem (i := 646) (by decide +kernel) (by decide +kernel)
theorem tb_584 : Cond.code y_S_lowestOnLoop b_S_lowestOnLoop 3 (some .int) ∈ TB := tb_mem (i := 647) (by decide +kernel) (by decide +kernel)
theorem cw_R_114 {p : Program} {R : Room} {s : State} {m : MethodId} {args : Array Value} {meth : Method} {c : Code} {cc : ByteArray} {nL : Nat} {D : va_G} {sx : Nat → Nat} {tys : List (ClassId × FieldType)} {A : Nat → Prop} {ret : Option FieldType} (hC : CX p s m args meth c cc R_R TB nL D vwCl tys A (SPl sx) ret) (hR : ({ frames := 0, cells := 0, slots := 0, locals := 0 } : Room).frames + 1 ≤ R.frames ∧ 8 + (3 + 11) + ({ frames := 0, cells := 0, slots := 0, locals := 0 } : Room).locals ≤ R.locals := by exact ⟨Nat.le_of_ble_eq_true rfl, Nat.le_of_ble_eq_true rfl⟩) : CallW R s args R_R R_C 114 y_C_isWithinBounds b_C_isWithinBounds 3 (some .boolean) (Cond.code y_C_isWithinBounds b_C_isWithinBounds 3 (some .boolean) :: TB) ({ frames := 0, cells := 0, slots := 0, locals := 0 } : Room) 0 0 1 := cwV 1 hC.2.2.2.2.1 (gV tb_495 tb_496 tb_497 tb_7 tb_498) rfl rfl rfl (by decide +kernel) hR
theorem cw_R_121 {p : Program} {R : Room} {s : State} {m : MethodId} {args : Array Value} {meth : Method} {c : Code} {cc : ByteArray} {nL : Nat} {D : va_G} {sx : Nat → Nat} {tys : List (ClassId × FieldType)} {A : Nat → Prop} {ret : Option FieldType} (hC : CX p s m args meth c cc R_R TB nL D vwCl tys A (SPl sx) ret) (hR : ({ frames := 0, cells := 0, slots := 0, locals := 0 } : Room).frames + 1 ≤ R.frames ∧ 8 + (3 + 11) + ({ frames := 0, cells := 0, slots := 0, locals := 0 } : Room).locals ≤ R.locals := by exact ⟨Nat.le_of_ble_eq_true rfl, Nat.le_of_ble_eq_true rfl⟩) : CallW R s args R_R R_U 121 y_U_fail b_U_fail 3 (some .boolean) (Cond.code y_U_fail b_U_fail 3 (some .boolean) :: TB) ({ frames := 0, cells := 0, slots := 0, locals := 0 } : Room) 0 0 2 := cwV 2 hC.2.2.2.2.1 (gV tb_499 tb_483 tb_484 tb_5 tb_485) rfl rfl rfl (by decide +kernel) hR
theorem cw_R_125 {p : Program} {R : Room} {s : State} {m : MethodId} {args : Array Value} {meth : Method} {c : Code} {cc : ByteArray} {nL : Nat} {D : va_G} {sx : Nat → Nat} {tys : List (ClassId × FieldType)} {A : Nat → Prop} {ret : Option FieldType} (hC : CX p s m args meth c cc R_R TB nL D vwCl tys A (SPl sx) ret) (hR : ({ frames := 1, cells := 0, slots := 0, locals := 22 } : Room).frames + 1 ≤ R.frames ∧ 8 + (4 + 11) + ({ frames := 1, cells := 0, slots := 0, locals := 22 } : Room).locals ≤ R.locals := by exact ⟨Nat.le_of_ble_eq_true rfl, Nat.le_of_ble_eq_true rfl⟩) : CallW R s args R_R R_U 125 y_U_readNumber b_U_readNumber 4 (some .boolean) (Cond.code y_U_readNumber b_U_readNumber 4 (some .boolean) :: TB) ({ frames := 1, cells := 0, slots := 0, locals := 22 } : Room) 0 0 0 := cwV 0 hC.2.2.2.2.1 (gV tb_491 tb_492 tb_493 tb_5 tb_494) rfl rfl rfl (by decide +kernel) hR
theorem cw_R_131 {p : Program} {R : Room} {s : State} {m : MethodId} {args : Array Value} {meth : Method} {c : Code} {cc : ByteArray} {nL : Nat} {D : va_G} {sx : Nat → Nat} {tys : List (ClassId × FieldType)} {A : Nat → Prop} {ret : Option FieldType} (hC : CX p s m args meth c cc R_R TB nL D vwCl tys A (SPl sx) ret) (hR : ({ frames := 3, cells := 0, slots := 0, locals := 66 } : Room).frames + 1 ≤ R.frames ∧ 8 + (4 + 11) + ({ frames := 3, cells := 0, slots := 0, locals := 66 } : Room).locals ≤ R.locals := by exact ⟨Nat.le_of_ble_eq_true rfl, Nat.le_of_ble_eq_true rfl⟩) : CallW R s args R_R R_R 131 y_R_readDefinition b_R_readDefinition 4 (some .boolean) (Cond.code y_R_readDefinition b_R_readDefinition 4 (some .boolean) :: TB) ({ frames := 3, cells := 0, slots := 0, locals := 66 } : Room) 0 0 1 := cwV 1 hC.2.2.2.2.1 (gV tb_504 tb_506 tb_p12 tb_3 tb_507) rfl rfl rfl (by decide +kernel) hR
theorem cw_R_141 {p : Program} {R : Room} {s : State} {m : MethodId} {args : Array Value} {meth : Method} {c : Code} {cc : ByteArray} {nL : Nat} {D : va_G} {sx : Nat → Nat} {tys : List (ClassId × FieldType)} {A : Nat → Prop} {ret : Option FieldType} (hC : CX p s m args meth c cc R_R TB nL D vwCl tys A (SPl sx) ret) (hR : ({ frames := 3, cells := 0, slots := 0, locals := 66 } : Room).frames + 1 ≤ R.frames ∧ 8 + (2 + 11) + ({ frames := 3, cells := 0, slots := 0, locals := 66 } : Room).locals ≤ R.locals := by exact ⟨Nat.le_of_ble_eq_true rfl, Nat.le_of_ble_eq_true rfl⟩) : CallW R s args R_R R_R 141 y_R_readUse b_R_readUse 2 (some .boolean) (Cond.code y_R_readUse b_R_readUse 2 (some .boolean) :: TB) ({ frames := 3, cells := 0, slots := 0, locals := 66 } : Room) 0 0 1 := cwV 1 hC.2.2.2.2.1 (gV tb_517 tb_519 tb_p15 tb_3 tb_520) rfl rfl rfl (by decide +kernel) hR
theorem cw_R_159 {p : Program} {R : Room} {s : State} {m : MethodId} {args : Array Value} {meth : Method} {c : Code} {cc : ByteArray} {nL : Nat} {D : va_G} {sx : Nat → Nat} {tys : List (ClassId × FieldType)} {A : Nat → Prop} {ret : Option FieldType} (hC : CX p s m args meth c cc R_R TB nL D vwCl tys A (SPl sx) ret) (hR : ({ frames := 2, cells := 0, slots := 0, locals := 44 } : Room).frames + 1 ≤ R.frames ∧ 8 + (4 + 11) + ({ frames := 2, cells := 0, slots := 0, locals := 44 } : Room).locals ≤ R.locals := by exact ⟨Nat.le_of_ble_eq_true rfl, Nat.le_of_ble_eq_true rfl⟩) : CallW R s args R_R R_R 159 y_R_readDelta b_R_readDelta 4 (some .boolean) (Cond.code y_R_readDelta b_R_readDelta 4 (some .boolean) :: TB) ({ frames := 2, cells := 0, slots := 0, locals := 44 } : Room) 0 0 2 := cwV 2 hC.2.2.2.2.1 (gV tb_529 tb_531 tb_p18 tb_3 tb_532) rfl rfl rfl (by decide +kernel) hR
theorem cw_R_162 {p : Program} {R : Room} {s : State} {m : MethodId} {args : Array Value} {meth : Method} {c : Code} {cc : ByteArray} {nL : Nat} {D : va_G} {sx : Nat → Nat} {tys : List (ClassId × FieldType)} {A : Nat → Prop} {ret : Option FieldType} (hC : CX p s m args meth c cc R_R TB nL D vwCl tys A (SPl sx) ret) (hR : ({ frames := 1, cells := 0, slots := 0, locals := 22 } : Room).frames + 1 ≤ R.frames ∧ 8 + (3 + 11) + ({ frames := 1, cells := 0, slots := 0, locals := 22 } : Room).locals ≤ R.locals := by exact ⟨Nat.le_of_ble_eq_true rfl, Nat.le_of_ble_eq_true rfl⟩) : CallW R s args R_R R_U 162 y_U_readSevens b_U_readSevens 3 (some .boolean) (Cond.code y_U_readSevens b_U_readSevens 3 (some .boolean) :: TB) ({ frames := 1, cells := 0, slots := 0, locals := 22 } : Room) 0 0 0 := cwV 0 hC.2.2.2.2.1 (gV tb_533 tb_534 tb_535 tb_5 tb_536) rfl rfl rfl (by decide +kernel) hR
theorem cw_R_168 {p : Program} {R : Room} {s : State} {m : MethodId} {args : Array Value} {meth : Method} {c : Code} {cc : ByteArray} {nL : Nat} {D : va_G} {sx : Nat → Nat} {tys : List (ClassId × FieldType)} {A : Nat → Prop} {ret : Option FieldType} (hC : CX p s m args meth c cc R_R TB nL D vwCl tys A (SPl sx) ret) (hR : ({ frames := 0, cells := 0, slots := 0, locals := 0 } : Room).frames + 1 ≤ R.frames ∧ 8 + (1 + 11) + ({ frames := 0, cells := 0, slots := 0, locals := 0 } : Room).locals ≤ R.locals := by exact ⟨Nat.le_of_ble_eq_true rfl, Nat.le_of_ble_eq_true rfl⟩) : CallW R s args R_R R_C 168 y_C_highestLiteral b_C_highestLiteral 1 (some .int) (Cond.code y_C_highestLiteral b_C_highestLiteral 1 (some .int) :: TB) ({ frames := 0, cells := 0, slots := 0, locals := 0 } : Room) 0 0 0 := cwV 0 hC.2.2.2.2.1 (gV tb_512 tb_426 tb_427 tb_7 tb_428) rfl rfl rfl (by decide +kernel) hR
theorem cw_R_171 {p : Program} {R : Room} {s : State} {m : MethodId} {args : Array Value} {meth : Method} {c : Code} {cc : ByteArray} {nL : Nat} {D : va_G} {sx : Nat → Nat} {tys : List (ClassId × FieldType)} {A : Nat → Prop} {ret : Option FieldType} (hC : CX p s m args meth c cc R_R TB nL D vwCl tys A (SPl sx) ret) (hR : ({ frames := 2, cells := 0, slots := 0, locals := 45 } : Room).frames + 1 ≤ R.frames ∧ 8 + (2 + 11) + ({ frames := 2, cells := 0, slots := 0, locals := 45 } : Room).locals ≤ R.locals := by exact ⟨Nat.le_of_ble_eq_true rfl, Nat.le_of_ble_eq_true rfl⟩) : CallW R s args R_R R_R 171 y_R_readLiteral b_R_readLiteral 2 (some .boolean) (Cond.code y_R_readLiteral b_R_readLiteral 2 (some .boolean) :: TB) ({ frames := 2, cells := 0, slots := 0, locals := 45 } : Room) 0 0 1 := cwV 1 hC.2.2.2.2.1 (gV tb_508 tb_510 tb_p13 tb_3 tb_511) rfl rfl rfl (by decide +kernel) hR
theorem cw_R_174 {p : Program} {R : Room} {s : State} {m : MethodId} {args : Array Value} {meth : Method} {c : Code} {cc : ByteArray} {nL : Nat} {D : va_G} {sx : Nat → Nat} {tys : List (ClassId × FieldType)} {A : Nat → Prop} {ret : Option FieldType} (hC : CX p s m args meth c cc R_R TB nL D vwCl tys A (SPl sx) ret) (hR : ({ frames := 4, cells := 0, slots := 0, locals := 85 } : Room).frames + 1 ≤ R.frames ∧ 8 + (2 + 11) + ({ frames := 4, cells := 0, slots := 0, locals := 85 } : Room).locals ≤ R.locals := by exact ⟨Nat.le_of_ble_eq_true rfl, Nat.le_of_ble_eq_true rfl⟩) : CallB R s args R_R 174 y_R_kindOf b_R_kindOf 2 (some .int) (Cond.code y_R_kindOf b_R_kindOf 2 (some .int) :: TB) ({ frames := 4, cells := 0, slots := 0, locals := 85 } : Room) 0 0 1 ∧ (Cond.static y_R_kindOf).before args s = true := ⟨callB_of 1 hC.2.2.2.2.1 (gC tb_547) rfl rfl rfl (hC.2.2.2.2.1 _ tb_3) (hC.2.2.2.2.1 _ tb_545) (by decide +kernel) hR, hC.2.2.2.2.1 _ tb_546⟩
theorem cw_R_178 {p : Program} {R : Room} {s : State} {m : MethodId} {args : Array Value} {meth : Method} {c : Code} {cc : ByteArray} {nL : Nat} {D : va_G} {sx : Nat → Nat} {tys : List (ClassId × FieldType)} {A : Nat → Prop} {ret : Option FieldType} (hC : CX p s m args meth c cc R_R TB nL D vwCl tys A (SPl sx) ret) (hR : ({ frames := 3, cells := 0, slots := 0, locals := 67 } : Room).frames + 1 ≤ R.frames ∧ 8 + (4 + 11) + ({ frames := 3, cells := 0, slots := 0, locals := 67 } : Room).locals ≤ R.locals := by exact ⟨Nat.le_of_ble_eq_true rfl, Nat.le_of_ble_eq_true rfl⟩) : CallW R s args R_R R_R 178 y_R_readSymbol b_R_readSymbol 4 (some .boolean) (Cond.code y_R_readSymbol b_R_readSymbol 4 (some .boolean) :: TB) ({ frames := 3, cells := 0, slots := 0, locals := 67 } : Room) 0 0 2 := cwV 2 hC.2.2.2.2.1 (gV tb_550 tb_552 tb_p21 tb_3 tb_553) rfl rfl rfl (by decide +kernel) hR
theorem cw_R_190 {p : Program} {R : Room} {s : State} {m : MethodId} {args : Array Value} {meth : Method} {c : Code} {cc : ByteArray} {nL : Nat} {D : va_G} {sx : Nat → Nat} {tys : List (ClassId × FieldType)} {A : Nat → Prop} {ret : Option FieldType} (hC : CX p s m args meth c cc R_R TB nL D vwCl tys A (SPl sx) ret) (hR : ({ frames := 0, cells := 0, slots := 0, locals := 0 } : Room).frames + 1 ≤ R.frames ∧ 8 + (2 + 11) + ({ frames := 0, cells := 0, slots := 0, locals := 0 } : Room).locals ≤ R.locals := by exact ⟨Nat.le_of_ble_eq_true rfl, Nat.le_of_ble_eq_true rfl⟩) : CallW R s args R_R R_C 190 y_C_countOf b_C_countOf 2 (some .int) (Cond.code y_C_countOf b_C_countOf 2 (some .int) :: TB) ({ frames := 0, cells := 0, slots := 0, locals := 0 } : Room) 0 0 1 := cwV 1 hC.2.2.2.2.1 (gV tb_554 tb_305 tb_306 tb_7 tb_307) rfl rfl rfl (by decide +kernel) hR
theorem cw_R_196 {p : Program} {R : Room} {s : State} {m : MethodId} {args : Array Value} {meth : Method} {c : Code} {cc : ByteArray} {nL : Nat} {D : va_G} {sx : Nat → Nat} {tys : List (ClassId × FieldType)} {A : Nat → Prop} {ret : Option FieldType} (hC : CX p s m args meth c cc R_R TB nL D vwCl tys A (SPl sx) ret) (hR : ({ frames := 0, cells := 0, slots := 0, locals := 0 } : Room).frames + 1 ≤ R.frames ∧ 8 + (2 + 11) + ({ frames := 0, cells := 0, slots := 0, locals := 0 } : Room).locals ≤ R.locals := by exact ⟨Nat.le_of_ble_eq_true rfl, Nat.le_of_ble_eq_true rfl⟩) : va_CN R s args R_R 196 y_F_slotOf "CircuitFiles" b_F_slotOf 2 (some .int) (Cond.code y_F_slotOf b_F_slotOf 2 (some .int) :: TB) ({ frames := 0, cells := 0, slots := 0, locals := 0 } : Room) 0 0 2 ∧ (Cond.static y_F_slotOf).before args s = true ∧ True := ⟨va_cnB 2 hC.2.2.2.2.1 (gC tb_310) rfl rfl rfl (nw_555 hC.2.2.2.2.2.2.2.1.2) (hC.2.2.2.2.1 _ tb_1) (by decide +kernel) hR, hC.2.2.2.2.1 _ tb_309, trivial⟩
theorem cw_R_200 {p : Program} {R : Room} {s : State} {m : MethodId} {args : Array Value} {meth : Method} {c : Code} {cc : ByteArray} {nL : Nat} {D : va_G} {sx : Nat → Nat} {tys : List (ClassId × FieldType)} {A : Nat → Prop} {ret : Option FieldType} (hC : CX p s m args meth c cc R_R TB nL D vwCl tys A (SPl sx) ret) (hR : ({ frames := 2, cells := 0, slots := 0, locals := 43 } : Room).frames + 1 ≤ R.frames ∧ 8 + (5 + 11) + ({ frames := 2, cells := 0, slots := 0, locals := 43 } : Room).locals ≤ R.locals := by exact ⟨Nat.le_of_ble_eq_true rfl, Nat.le_of_ble_eq_true rfl⟩) : CallW R s args R_R R_R 200 y_R_readName b_R_readName 5 (some .boolean) (Cond.code y_R_readName b_R_readName 5 (some .boolean) :: TB) ({ frames := 2, cells := 0, slots := 0, locals := 43 } : Room) 0 0 2 := cwV 2 hC.2.2.2.2.1 (gV tb_556 tb_558 tb_p22 tb_3 tb_559) rfl rfl rfl (by decide +kernel) hR
theorem cw_R_206 {p : Program} {R : Room} {s : State} {m : MethodId} {args : Array Value} {meth : Method} {c : Code} {cc : ByteArray} {nL : Nat} {D : va_G} {sx : Nat → Nat} {tys : List (ClassId × FieldType)} {A : Nat → Prop} {ret : Option FieldType} (hC : CX p s m args meth c cc R_R TB nL D vwCl tys A (SPl sx) ret) (hR : ({ frames := 0, cells := 0, slots := 0, locals := 0 } : Room).frames + 1 ≤ R.frames ∧ 8 + (2 + 11) + ({ frames := 0, cells := 0, slots := 0, locals := 0 } : Room).locals ≤ R.locals := by exact ⟨Nat.le_of_ble_eq_true rfl, Nat.le_of_ble_eq_true rfl⟩) : CallW R s args R_R R_C 206 y_C_isKnown b_C_isKnown 2 (some .boolean) (Cond.code y_C_isKnown b_C_isKnown 2 (some .boolean) :: TB) ({ frames := 0, cells := 0, slots := 0, locals := 0 } : Room) 0 0 1 := cwV 1 hC.2.2.2.2.1 (gV tb_564 tb_430 tb_431 tb_7 tb_432) rfl rfl rfl (by decide +kernel) hR
theorem cw_R_209 {p : Program} {R : Room} {s : State} {m : MethodId} {args : Array Value} {meth : Method} {c : Code} {cc : ByteArray} {nL : Nat} {D : va_G} {sx : Nat → Nat} {tys : List (ClassId × FieldType)} {A : Nat → Prop} {ret : Option FieldType} (hC : CX p s m args meth c cc R_R TB nL D vwCl tys A (SPl sx) ret) (hR : ({ frames := 1, cells := 0, slots := 0, locals := 23 } : Room).frames + 1 ≤ R.frames ∧ 8 + (5 + 11) + ({ frames := 1, cells := 0, slots := 0, locals := 23 } : Room).locals ≤ R.locals := by exact ⟨Nat.le_of_ble_eq_true rfl, Nat.le_of_ble_eq_true rfl⟩) : CallW R s args R_R R_S 209 y_S_putInOrder b_S_putInOrder 5 (some .boolean) (Cond.code y_S_putInOrder b_S_putInOrder 5 (some .boolean) :: TB) ({ frames := 1, cells := 0, slots := 0, locals := 23 } : Room) 0 0 1 := cwV 1 hC.2.2.2.2.1 (gV tb_569 tb_570 tb_571 tb_4 tb_572) rfl rfl rfl (by decide +kernel) hR
theorem cw_R_212 {p : Program} {R : Room} {s : State} {m : MethodId} {args : Array Value} {meth : Method} {c : Code} {cc : ByteArray} {nL : Nat} {D : va_G} {sx : Nat → Nat} {tys : List (ClassId × FieldType)} {A : Nat → Prop} {ret : Option FieldType} (hC : CX p s m args meth c cc R_R TB nL D vwCl tys A (SPl sx) ret) (hR : ({ frames := 2, cells := 0, slots := 0, locals := 45 } : Room).frames + 1 ≤ R.frames ∧ 8 + (3 + 11) + ({ frames := 2, cells := 0, slots := 0, locals := 45 } : Room).locals ≤ R.locals := by exact ⟨Nat.le_of_ble_eq_true rfl, Nat.le_of_ble_eq_true rfl⟩) : CallW R s args R_R R_S 212 y_S_lowestOnLoop b_S_lowestOnLoop 3 (some .int) (Cond.code y_S_lowestOnLoop b_S_lowestOnLoop 3 (some .int) :: TB) ({ frames := 2, cells := 0, slots := 0, locals := 45 } : Room) 0 0 1 := cwV 1 hC.2.2.2.2.1 (gV tb_581 tb_582 tb_583 tb_4 tb_584) rfl rfl rfl (by decide +kernel) hR
theorem cw_R_48 {p : Program} {R : Room} {s : State} {m : MethodId} {args : Array Value} {meth : Method} {c : Code} {cc : ByteArray} {nL : Nat} {D : va_G} {sx : Nat → Nat} {tys : List (ClassId × FieldType)} {A : Nat → Prop} {ret : Option FieldType} (hC : CX p s m args meth c cc R_R TB nL D vwCl tys A (SPl sx) ret) (hR : ({ frames := 0, cells := 0, slots := 0, locals := 0 } : Room).frames + 1 ≤ R.frames ∧ 8 + (1 + 11) + ({ frames := 0, cells := 0, slots := 0, locals := 0 } : Room).locals ≤ R.locals := by exact ⟨Nat.le_of_ble_eq_true rfl, Nat.le_of_ble_eq_true rfl⟩) : CallW R s args R_R R_U 48 y_U_restart b_U_restart 1 none (Cond.code y_U_restart b_U_restart 1 none :: TB) ({ frames := 0, cells := 0, slots := 0, locals := 0 } : Room) 0 0 0 := cwV 0 hC.2.2.2.2.1 (gV tb_462 tb_463 tb_464 tb_5 tb_465) rfl rfl rfl (by decide +kernel) hR
theorem cw_R_51 {p : Program} {R : Room} {s : State} {m : MethodId} {args : Array Value} {meth : Method} {c : Code} {cc : ByteArray} {nL : Nat} {D : va_G} {sx : Nat → Nat} {tys : List (ClassId × FieldType)} {A : Nat → Prop} {ret : Option FieldType} (hC : CX p s m args meth c cc R_R TB nL D vwCl tys A (SPl sx) ret) (hR : ({ frames := 0, cells := 0, slots := 0, locals := 0 } : Room).frames + 1 ≤ R.frames ∧ 8 + (2 + 11) + ({ frames := 0, cells := 0, slots := 0, locals := 0 } : Room).locals ≤ R.locals := by exact ⟨Nat.le_of_ble_eq_true rfl, Nat.le_of_ble_eq_true rfl⟩) : CallW R s args R_R R_C 51 y_C_forget b_C_forget 2 none (Cond.code y_C_forget b_C_forget 2 none :: TB) ({ frames := 0, cells := 0, slots := 0, locals := 0 } : Room) 0 0 0 := cwV 0 hC.2.2.2.2.1 (gV tb_466 tb_467 tb_468 tb_7 tb_469) rfl rfl rfl (by decide +kernel) hR
theorem cw_R_56 {p : Program} {R : Room} {s : State} {m : MethodId} {args : Array Value} {meth : Method} {c : Code} {cc : ByteArray} {nL : Nat} {D : va_G} {sx : Nat → Nat} {tys : List (ClassId × FieldType)} {A : Nat → Prop} {ret : Option FieldType} (hC : CX p s m args meth c cc R_R TB nL D vwCl tys A (SPl sx) ret) (hR : ({ frames := 3, cells := 0, slots := 0, locals := 65 } : Room).frames + 1 ≤ R.frames ∧ 8 + (2 + 11) + ({ frames := 3, cells := 0, slots := 0, locals := 65 } : Room).locals ≤ R.locals := by exact ⟨Nat.le_of_ble_eq_true rfl, Nat.le_of_ble_eq_true rfl⟩) : CallW R s args R_R R_R 56 y_R_readHeader b_R_readHeader 2 (some .boolean) (Cond.code y_R_readHeader b_R_readHeader 2 (some .boolean) :: TB) ({ frames := 3, cells := 0, slots := 0, locals := 65 } : Room) 0 0 1 := cwV 1 hC.2.2.2.2.1 (gV tb_470 tb_472 tb_p9 tb_3 tb_473) rfl rfl rfl (by decide +kernel) hR
theorem cw_R_60 {p : Program} {R : Room} {s : State} {m : MethodId} {args : Array Value} {meth : Method} {c : Code} {cc : ByteArray} {nL : Nat} {D : va_G} {sx : Nat → Nat} {tys : List (ClassId × FieldType)} {A : Nat → Prop} {ret : Option FieldType} (hC : CX p s m args meth c cc R_R TB nL D vwCl tys A (SPl sx) ret) (hR : ({ frames := 4, cells := 0, slots := 0, locals := 89 } : Room).frames + 1 ≤ R.frames ∧ 8 + (3 + 11) + ({ frames := 4, cells := 0, slots := 0, locals := 89 } : Room).locals ≤ R.locals := by exact ⟨Nat.le_of_ble_eq_true rfl, Nat.le_of_ble_eq_true rfl⟩) : CallW R s args R_R R_R 60 y_R_readInputs b_R_readInputs 3 (some .boolean) (Cond.code y_R_readInputs b_R_readInputs 3 (some .boolean) :: TB) ({ frames := 4, cells := 0, slots := 0, locals := 89 } : Room) 0 0 1 := cwV 1 hC.2.2.2.2.1 (gV tb_500 tb_502 tb_p11 tb_3 tb_503) rfl rfl rfl (by decide +kernel) hR
theorem cw_R_63 {p : Program} {R : Room} {s : State} {m : MethodId} {args : Array Value} {meth : Method} {c : Code} {cc : ByteArray} {nL : Nat} {D : va_G} {sx : Nat → Nat} {tys : List (ClassId × FieldType)} {A : Nat → Prop} {ret : Option FieldType} (hC : CX p s m args meth c cc R_R TB nL D vwCl tys A (SPl sx) ret) (hR : ({ frames := 4, cells := 0, slots := 0, locals := 89 } : Room).frames + 1 ≤ R.frames ∧ 8 + (3 + 11) + ({ frames := 4, cells := 0, slots := 0, locals := 89 } : Room).locals ≤ R.locals := by exact ⟨Nat.le_of_ble_eq_true rfl, Nat.le_of_ble_eq_true rfl⟩) : CallW R s args R_R R_R 63 y_R_readLatches b_R_readLatches 3 (some .boolean) (Cond.code y_R_readLatches b_R_readLatches 3 (some .boolean) :: TB) ({ frames := 4, cells := 0, slots := 0, locals := 89 } : Room) 0 0 1 := cwV 1 hC.2.2.2.2.1 (gV tb_513 tb_515 tb_p14 tb_3 tb_516) rfl rfl rfl (by decide +kernel) hR
theorem cw_R_66 {p : Program} {R : Room} {s : State} {m : MethodId} {args : Array Value} {meth : Method} {c : Code} {cc : ByteArray} {nL : Nat} {D : va_G} {sx : Nat → Nat} {tys : List (ClassId × FieldType)} {A : Nat → Prop} {ret : Option FieldType} (hC : CX p s m args meth c cc R_R TB nL D vwCl tys A (SPl sx) ret) (hR : ({ frames := 4, cells := 0, slots := 0, locals := 87 } : Room).frames + 1 ≤ R.frames ∧ 8 + (3 + 11) + ({ frames := 4, cells := 0, slots := 0, locals := 87 } : Room).locals ≤ R.locals := by exact ⟨Nat.le_of_ble_eq_true rfl, Nat.le_of_ble_eq_true rfl⟩) : CallW R s args R_R R_R 66 y_R_readOutputs b_R_readOutputs 3 (some .boolean) (Cond.code y_R_readOutputs b_R_readOutputs 3 (some .boolean) :: TB) ({ frames := 4, cells := 0, slots := 0, locals := 87 } : Room) 0 0 1 := cwV 1 hC.2.2.2.2.1 (gV tb_521 tb_523 tb_p16 tb_3 tb_524) rfl rfl rfl (by decide +kernel) hR
theorem cw_R_69 {p : Program} {R : Room} {s : State} {m : MethodId} {args : Array Value} {meth : Method} {c : Code} {cc : ByteArray} {nL : Nat} {D : va_G} {sx : Nat → Nat} {tys : List (ClassId × FieldType)} {A : Nat → Prop} {ret : Option FieldType} (hC : CX p s m args meth c cc R_R TB nL D vwCl tys A (SPl sx) ret) (hR : ({ frames := 3, cells := 0, slots := 0, locals := 67 } : Room).frames + 1 ≤ R.frames ∧ 8 + (4 + 11) + ({ frames := 3, cells := 0, slots := 0, locals := 67 } : Room).locals ≤ R.locals := by exact ⟨Nat.le_of_ble_eq_true rfl, Nat.le_of_ble_eq_true rfl⟩) : CallW R s args R_R R_R 69 y_R_readBinaryAnds b_R_readBinaryAnds 4 (some .boolean) (Cond.code y_R_readBinaryAnds b_R_readBinaryAnds 4 (some .boolean) :: TB) ({ frames := 3, cells := 0, slots := 0, locals := 67 } : Room) 0 0 1 := cwV 1 hC.2.2.2.2.1 (gV tb_525 tb_527 tb_p17 tb_3 tb_528) rfl rfl rfl (by decide +kernel) hR
theorem cw_R_72 {p : Program} {R : Room} {s : State} {m : MethodId} {args : Array Value} {meth : Method} {c : Code} {cc : ByteArray} {nL : Nat} {D : va_G} {sx : Nat → Nat} {tys : List (ClassId × FieldType)} {A : Nat → Prop} {ret : Option FieldType} (hC : CX p s m args meth c cc R_R TB nL D vwCl tys A (SPl sx) ret) (hR : ({ frames := 4, cells := 0, slots := 0, locals := 89 } : Room).frames + 1 ≤ R.frames ∧ 8 + (3 + 11) + ({ frames := 4, cells := 0, slots := 0, locals := 89 } : Room).locals ≤ R.locals := by exact ⟨Nat.le_of_ble_eq_true rfl, Nat.le_of_ble_eq_true rfl⟩) : CallW R s args R_R R_R 72 y_R_readTextAnds b_R_readTextAnds 3 (some .boolean) (Cond.code y_R_readTextAnds b_R_readTextAnds 3 (some .boolean) :: TB) ({ frames := 4, cells := 0, slots := 0, locals := 89 } : Room) 0 0 1 := cwV 1 hC.2.2.2.2.1 (gV tb_537 tb_539 tb_p19 tb_3 tb_540) rfl rfl rfl (by decide +kernel) hR
theorem cw_R_75 {p : Program} {R : Room} {s : State} {m : MethodId} {args : Array Value} {meth : Method} {c : Code} {cc : ByteArray} {nL : Nat} {D : va_G} {sx : Nat → Nat} {tys : List (ClassId × FieldType)} {A : Nat → Prop} {ret : Option FieldType} (hC : CX p s m args meth c cc R_R TB nL D vwCl tys A (SPl sx) ret) (hR : ({ frames := 5, cells := 0, slots := 0, locals := 106 } : Room).frames + 1 ≤ R.frames ∧ 8 + (4 + 11) + ({ frames := 5, cells := 0, slots := 0, locals := 106 } : Room).locals ≤ R.locals := by exact ⟨Nat.le_of_ble_eq_true rfl, Nat.le_of_ble_eq_true rfl⟩) : CallW R s args R_R R_R 75 y_R_readSymbols b_R_readSymbols 4 (some .boolean) (Cond.code y_R_readSymbols b_R_readSymbols 4 (some .boolean) :: TB) ({ frames := 5, cells := 0, slots := 0, locals := 106 } : Room) 0 0 1 := cwV 1 hC.2.2.2.2.1 (gV tb_541 tb_543 tb_p20 tb_3 tb_544) rfl rfl rfl (by decide +kernel) hR
theorem cw_R_78 {p : Program} {R : Room} {s : State} {m : MethodId} {args : Array Value} {meth : Method} {c : Code} {cc : ByteArray} {nL : Nat} {D : va_G} {sx : Nat → Nat} {tys : List (ClassId × FieldType)} {A : Nat → Prop} {ret : Option FieldType} (hC : CX p s m args meth c cc R_R TB nL D vwCl tys A (SPl sx) ret) (hR : ({ frames := 1, cells := 0, slots := 0, locals := 22 } : Room).frames + 1 ≤ R.frames ∧ 8 + (3 + 11) + ({ frames := 1, cells := 0, slots := 0, locals := 22 } : Room).locals ≤ R.locals := by exact ⟨Nat.le_of_ble_eq_true rfl, Nat.le_of_ble_eq_true rfl⟩) : CallW R s args R_R R_R 78 y_R_checkUses b_R_checkUses 3 (some .boolean) (Cond.code y_R_checkUses b_R_checkUses 3 (some .boolean) :: TB) ({ frames := 1, cells := 0, slots := 0, locals := 22 } : Room) 0 0 1 := cwV 1 hC.2.2.2.2.1 (gV tb_560 tb_562 tb_p23 tb_3 tb_563) rfl rfl rfl (by decide +kernel) hR
theorem cw_R_81 {p : Program} {R : Room} {s : State} {m : MethodId} {args : Array Value} {meth : Method} {c : Code} {cc : ByteArray} {nL : Nat} {D : va_G} {sx : Nat → Nat} {tys : List (ClassId × FieldType)} {A : Nat → Prop} {ret : Option FieldType} (hC : CX p s m args meth c cc R_R TB nL D vwCl tys A (SPl sx) ret) (hR : ({ frames := 3, cells := 0, slots := 0, locals := 67 } : Room).frames + 1 ≤ R.frames ∧ 8 + (2 + 11) + ({ frames := 3, cells := 0, slots := 0, locals := 67 } : Room).locals ≤ R.locals := by exact ⟨Nat.le_of_ble_eq_true rfl, Nat.le_of_ble_eq_true rfl⟩) : CallW R s args R_R R_R 81 y_R_checkLoops b_R_checkLoops 2 (some .boolean) (Cond.code y_R_checkLoops b_R_checkLoops 2 (some .boolean) :: TB) ({ frames := 3, cells := 0, slots := 0, locals := 67 } : Room) 0 0 1 := cwV 1 hC.2.2.2.2.1 (gV tb_565 tb_567 tb_p24 tb_3 tb_568) rfl rfl rfl (by decide +kernel) hR
theorem cw_R_84 {p : Program} {R : Room} {s : State} {m : MethodId} {args : Array Value} {meth : Method} {c : Code} {cc : ByteArray} {nL : Nat} {D : va_G} {sx : Nat → Nat} {tys : List (ClassId × FieldType)} {A : Nat → Prop} {ret : Option FieldType} (hC : CX p s m args meth c cc R_R TB nL D vwCl tys A (SPl sx) ret) (hR : ({ frames := 1, cells := 0, slots := 0, locals := 22 } : Room).frames + 1 ≤ R.frames ∧ 8 + (2 + 11) + ({ frames := 1, cells := 0, slots := 0, locals := 22 } : Room).locals ≤ R.locals := by exact ⟨Nat.le_of_ble_eq_true rfl, Nat.le_of_ble_eq_true rfl⟩) : CallW R s args R_R R_U 84 y_U_expect b_U_expect 2 (some .boolean) (Cond.code y_U_expect b_U_expect 2 (some .boolean) :: TB) ({ frames := 1, cells := 0, slots := 0, locals := 22 } : Room) 0 0 1 := cwV 1 hC.2.2.2.2.1 (gV tb_474 tb_475 tb_476 tb_5 tb_477) rfl rfl rfl (by decide +kernel) hR
theorem cw_R_88 {p : Program} {R : Room} {s : State} {m : MethodId} {args : Array Value} {meth : Method} {c : Code} {cc : ByteArray} {nL : Nat} {D : va_G} {sx : Nat → Nat} {tys : List (ClassId × FieldType)} {A : Nat → Prop} {ret : Option FieldType} (hC : CX p s m args meth c cc R_R TB nL D vwCl tys A (SPl sx) ret) (hR : ({ frames := 0, cells := 0, slots := 0, locals := 0 } : Room).frames + 1 ≤ R.frames ∧ 8 + (1 + 11) + ({ frames := 0, cells := 0, slots := 0, locals := 0 } : Room).locals ≤ R.locals := by exact ⟨Nat.le_of_ble_eq_true rfl, Nat.le_of_ble_eq_true rfl⟩) : CallW R s args R_R R_U 88 y_U_peek b_U_peek 1 (some .int) (Cond.code y_U_peek b_U_peek 1 (some .int) :: TB) ({ frames := 0, cells := 0, slots := 0, locals := 0 } : Room) 0 0 0 := cwV 0 hC.2.2.2.2.1 (gV tb_486 tb_479 tb_480 tb_5 tb_481) rfl rfl rfl (by decide +kernel) hR
theorem cw_R_92 {p : Program} {R : Room} {s : State} {m : MethodId} {args : Array Value} {meth : Method} {c : Code} {cc : ByteArray} {nL : Nat} {D : va_G} {sx : Nat → Nat} {tys : List (ClassId × FieldType)} {A : Nat → Prop} {ret : Option FieldType} (hC : CX p s m args meth c cc R_R TB nL D vwCl tys A (SPl sx) ret) (hR : ({ frames := 2, cells := 0, slots := 0, locals := 45 } : Room).frames + 1 ≤ R.frames ∧ 8 + (1 + 11) + ({ frames := 2, cells := 0, slots := 0, locals := 45 } : Room).locals ≤ R.locals := by exact ⟨Nat.le_of_ble_eq_true rfl, Nat.le_of_ble_eq_true rfl⟩) : CallW R s args R_R R_R 92 y_R_readCount b_R_readCount 1 (some .boolean) (Cond.code y_R_readCount b_R_readCount 1 (some .boolean) :: TB) ({ frames := 2, cells := 0, slots := 0, locals := 45 } : Room) 0 0 0 := cwV 0 hC.2.2.2.2.1 (gV tb_487 tb_489 tb_p10 tb_3 tb_490) rfl rfl rfl (by decide +kernel) hR
theorem st_RUTSC_CA0 {cA : Nat → ClassId} {a_R a_U a_T a_S a_C : Nat → Nat} {I_R : Nat → Int32} {A_R : Nat → Nat → Int32} {I_U : Nat → Int32} {I_T : Nat → Int32} {A_T : Nat → Nat → Int32} {I_S : Nat → Int32} {A_S : Nat → Nat → Int32} {I_C : Nat → Int32} {A_C : Nat → Nat → Int32} {f : Nat → Int32} : (kc_R cA a_R a_U a_S I_R A_R ++ kc_U cA a_U a_T I_U ++ kc_T cA a_T I_T A_T ++ kc_S cA a_S I_S A_S ++ kc_C cA a_C I_C A_C).set 13 (a_C 1, .inl (cA 0, 6, .inl f)) = kc_R cA a_R a_U a_S I_R A_R ++ kc_U cA a_U a_T I_U ++ kc_T cA a_T I_T A_T ++ kc_S cA a_S I_S A_S ++ kc_C cA a_C I_C (va_up A_C 0 f) := rfl
theorem st_RUTSC_CA1 {cA : Nat → ClassId} {a_R a_U a_T a_S a_C : Nat → Nat} {I_R : Nat → Int32} {A_R : Nat → Nat → Int32} {I_U : Nat → Int32} {I_T : Nat → Int32} {A_T : Nat → Nat → Int32} {I_S : Nat → Int32} {A_S : Nat → Nat → Int32} {I_C : Nat → Int32} {A_C : Nat → Nat → Int32} {f : Nat → Int32} : (kc_R cA a_R a_U a_S I_R A_R ++ kc_U cA a_U a_T I_U ++ kc_T cA a_T I_T A_T ++ kc_S cA a_S I_S A_S ++ kc_C cA a_C I_C A_C).set 14 (a_C 2, .inl (cA 0, 7, .inl f)) = kc_R cA a_R a_U a_S I_R A_R ++ kc_U cA a_U a_T I_U ++ kc_T cA a_T I_T A_T ++ kc_S cA a_S I_S A_S ++ kc_C cA a_C I_C (va_up A_C 1 f) := rfl
theorem st_RUTSC_CA10 {cA : Nat → ClassId} {a_R a_U a_T a_S a_C : Nat → Nat} {I_R : Nat → Int32} {A_R : Nat → Nat → Int32} {I_U : Nat → Int32} {I_T : Nat → Int32} {A_T : Nat → Nat → Int32} {I_S : Nat → Int32} {A_S : Nat → Nat → Int32} {I_C : Nat → Int32} {A_C : Nat → Nat → Int32} {f : Nat → Int32} : (kc_R cA a_R a_U a_S I_R A_R ++ kc_U cA a_U a_T I_U ++ kc_T cA a_T I_T A_T ++ kc_S cA a_S I_S A_S ++ kc_C cA a_C I_C A_C).set 23 (a_C 11, .inl (cA 0, 960, .inl f)) = kc_R cA a_R a_U a_S I_R A_R ++ kc_U cA a_U a_T I_U ++ kc_T cA a_T I_T A_T ++ kc_S cA a_S I_S A_S ++ kc_C cA a_C I_C (va_up A_C 10 f) := rfl
theorem st_RUTSC_CA2 {cA : Nat → ClassId} {a_R a_U a_T a_S a_C : Nat → Nat} {I_R : Nat → Int32} {A_R : Nat → Nat → Int32} {I_U : Nat → Int32} {I_T : Nat → Int32} {A_T : Nat → Nat → Int32} {I_S : Nat → Int32} {A_S : Nat → Nat → Int32} {I_C : Nat → Int32} {A_C : Nat → Nat → Int32} {f : Nat → Int32} : (kc_R cA a_R a_U a_S I_R A_R ++ kc_U cA a_U a_T I_U ++ kc_T cA a_T I_T A_T ++ kc_S cA a_S I_S A_S ++ kc_C cA a_C I_C A_C).set 15 (a_C 3, .inl (cA 0, 7, .inl f)) = kc_R cA a_R a_U a_S I_R A_R ++ kc_U cA a_U a_T I_U ++ kc_T cA a_T I_T A_T ++ kc_S cA a_S I_S A_S ++ kc_C cA a_C I_C (va_up A_C 2 f) := rfl
theorem st_RUTSC_CA3 {cA : Nat → ClassId} {a_R a_U a_T a_S a_C : Nat → Nat} {I_R : Nat → Int32} {A_R : Nat → Nat → Int32} {I_U : Nat → Int32} {I_T : Nat → Int32} {A_T : Nat → Nat → Int32} {I_S : Nat → Int32} {A_S : Nat → Nat → Int32} {I_C : Nat → Int32} {A_C : Nat → Nat → Int32} {f : Nat → Int32} : (kc_R cA a_R a_U a_S I_R A_R ++ kc_U cA a_U a_T I_U ++ kc_T cA a_T I_T A_T ++ kc_S cA a_S I_S A_S ++ kc_C cA a_C I_C A_C).set 16 (a_C 4, .inl (cA 0, 8, .inl f)) = kc_R cA a_R a_U a_S I_R A_R ++ kc_U cA a_U a_T I_U ++ kc_T cA a_T I_T A_T ++ kc_S cA a_S I_S A_S ++ kc_C cA a_C I_C (va_up A_C 3 f) := rfl
theorem st_RUTSC_CA4 {cA : Nat → ClassId} {a_R a_U a_T a_S a_C : Nat → Nat} {I_R : Nat → Int32} {A_R : Nat → Nat → Int32} {I_U : Nat → Int32} {I_T : Nat → Int32} {A_T : Nat → Nat → Int32} {I_S : Nat → Int32} {A_S : Nat → Nat → Int32} {I_C : Nat → Int32} {A_C : Nat → Nat → Int32} {f : Nat → Int32} : (kc_R cA a_R a_U a_S I_R A_R ++ kc_U cA a_U a_T I_U ++ kc_T cA a_T I_T A_T ++ kc_S cA a_S I_S A_S ++ kc_C cA a_C I_C A_C).set 17 (a_C 5, .inl (cA 0, 300, .inl f)) = kc_R cA a_R a_U a_S I_R A_R ++ kc_U cA a_U a_T I_U ++ kc_T cA a_T I_T A_T ++ kc_S cA a_S I_S A_S ++ kc_C cA a_C I_C (va_up A_C 4 f) := rfl
theorem st_RUTSC_CA5 {cA : Nat → ClassId} {a_R a_U a_T a_S a_C : Nat → Nat} {I_R : Nat → Int32} {A_R : Nat → Nat → Int32} {I_U : Nat → Int32} {I_T : Nat → Int32} {A_T : Nat → Nat → Int32} {I_S : Nat → Int32} {A_S : Nat → Nat → Int32} {I_C : Nat → Int32} {A_C : Nat → Nat → Int32} {f : Nat → Int32} : (kc_R cA a_R a_U a_S I_R A_R ++ kc_U cA a_U a_T I_U ++ kc_T cA a_T I_T A_T ++ kc_S cA a_S I_S A_S ++ kc_C cA a_C I_C A_C).set 18 (a_C 6, .inl (cA 0, 300, .inl f)) = kc_R cA a_R a_U a_S I_R A_R ++ kc_U cA a_U a_T I_U ++ kc_T cA a_T I_T A_T ++ kc_S cA a_S I_S A_S ++ kc_C cA a_C I_C (va_up A_C 5 f) := rfl
theorem st_RUTSC_CA6 {cA : Nat → ClassId} {a_R a_U a_T a_S a_C : Nat → Nat} {I_R : Nat → Int32} {A_R : Nat → Nat → Int32} {I_U : Nat → Int32} {I_T : Nat → Int32} {A_T : Nat → Nat → Int32} {I_S : Nat → Int32} {A_S : Nat → Nat → Int32} {I_C : Nat → Int32} {A_C : Nat → Nat → Int32} {f : Nat → Int32} : (kc_R cA a_R a_U a_S I_R A_R ++ kc_U cA a_U a_T I_U ++ kc_T cA a_T I_T A_T ++ kc_S cA a_S I_S A_S ++ kc_C cA a_C I_C A_C).set 19 (a_C 7, .inl (cA 0, 300, .inl f)) = kc_R cA a_R a_U a_S I_R A_R ++ kc_U cA a_U a_T I_U ++ kc_T cA a_T I_T A_T ++ kc_S cA a_S I_S A_S ++ kc_C cA a_C I_C (va_up A_C 6 f) := rfl
theorem st_RUTSC_CA8 {cA : Nat → ClassId} {a_R a_U a_T a_S a_C : Nat → Nat} {I_R : Nat → Int32} {A_R : Nat → Nat → Int32} {I_U : Nat → Int32} {I_T : Nat → Int32} {A_T : Nat → Nat → Int32} {I_S : Nat → Int32} {A_S : Nat → Nat → Int32} {I_C : Nat → Int32} {A_C : Nat → Nat → Int32} {f : Nat → Int32} : (kc_R cA a_R a_U a_S I_R A_R ++ kc_U cA a_U a_T I_U ++ kc_T cA a_T I_T A_T ++ kc_S cA a_S I_S A_S ++ kc_C cA a_C I_C A_C).set 21 (a_C 9, .inl (cA 1, 401, .inl f)) = kc_R cA a_R a_U a_S I_R A_R ++ kc_U cA a_U a_T I_U ++ kc_T cA a_T I_T A_T ++ kc_S cA a_S I_S A_S ++ kc_C cA a_C I_C (va_up A_C 8 f) := rfl
theorem st_RUTSC_CA9 {cA : Nat → ClassId} {a_R a_U a_T a_S a_C : Nat → Nat} {I_R : Nat → Int32} {A_R : Nat → Nat → Int32} {I_U : Nat → Int32} {I_T : Nat → Int32} {A_T : Nat → Nat → Int32} {I_S : Nat → Int32} {A_S : Nat → Nat → Int32} {I_C : Nat → Int32} {A_C : Nat → Nat → Int32} {f : Nat → Int32} : (kc_R cA a_R a_U a_S I_R A_R ++ kc_U cA a_U a_T I_U ++ kc_T cA a_T I_T A_T ++ kc_S cA a_S I_S A_S ++ kc_C cA a_C I_C A_C).set 22 (a_C 10, .inl (cA 0, 24, .inl f)) = kc_R cA a_R a_U a_S I_R A_R ++ kc_U cA a_U a_T I_U ++ kc_T cA a_T I_T A_T ++ kc_S cA a_S I_S A_S ++ kc_C cA a_C I_C (va_up A_C 9 f) := rfl
theorem st_RUTSC_CI0 {cA : Nat → ClassId} {a_R a_U a_T a_S a_C : Nat → Nat} {I_R : Nat → Int32} {A_R : Nat → Nat → Int32} {I_U : Nat → Int32} {I_T : Nat → Int32} {A_T : Nat → Nat → Int32} {I_S : Nat → Int32} {A_S : Nat → Nat → Int32} {I_C : Nat → Int32} {A_C : Nat → Nat → Int32} {v : Int32} : (kc_R cA a_R a_U a_S I_R A_R ++ kc_U cA a_U a_T I_U ++ kc_T cA a_T I_T A_T ++ kc_S cA a_S I_S A_S ++ kc_C cA a_C I_C A_C).set 12 (a_C 0, .inr (5, ([.int (I_C 0), .int (I_C 1), .int (I_C 2), .int (I_C 3), .int (I_C 4), .int (I_C 5), .ref (a_C 1), .ref (a_C 2), .ref (a_C 3), .ref (a_C 4), .ref (a_C 5), .ref (a_C 6), .ref (a_C 7), .ref (a_C 8), .ref (a_C 9), .ref (a_C 10), .ref (a_C 11), .ref (a_C 12)] : List Value).set 0 (.int v))) = kc_R cA a_R a_U a_S I_R A_R ++ kc_U cA a_U a_T I_U ++ kc_T cA a_T I_T A_T ++ kc_S cA a_S I_S A_S ++ kc_C cA a_C (va_up I_C 0 v) A_C := rfl
theorem st_RUTSC_CI1 {cA : Nat → ClassId} {a_R a_U a_T a_S a_C : Nat → Nat} {I_R : Nat → Int32} {A_R : Nat → Nat → Int32} {I_U : Nat → Int32} {I_T : Nat → Int32} {A_T : Nat → Nat → Int32} {I_S : Nat → Int32} {A_S : Nat → Nat → Int32} {I_C : Nat → Int32} {A_C : Nat → Nat → Int32} {v : Int32} : (kc_R cA a_R a_U a_S I_R A_R ++ kc_U cA a_U a_T I_U ++ kc_T cA a_T I_T A_T ++ kc_S cA a_S I_S A_S ++ kc_C cA a_C I_C A_C).set 12 (a_C 0, .inr (5, ([.int (I_C 0), .int (I_C 1), .int (I_C 2), .int (I_C 3), .int (I_C 4), .int (I_C 5), .ref (a_C 1), .ref (a_C 2), .ref (a_C 3), .ref (a_C 4), .ref (a_C 5), .ref (a_C 6), .ref (a_C 7), .ref (a_C 8), .ref (a_C 9), .ref (a_C 10), .ref (a_C 11), .ref (a_C 12)] : List Value).set 1 (.int v))) = kc_R cA a_R a_U a_S I_R A_R ++ kc_U cA a_U a_T I_U ++ kc_T cA a_T I_T A_T ++ kc_S cA a_S I_S A_S ++ kc_C cA a_C (va_up I_C 1 v) A_C := rfl
theorem st_RUTSC_CI2 {cA : Nat → ClassId} {a_R a_U a_T a_S a_C : Nat → Nat} {I_R : Nat → Int32} {A_R : Nat → Nat → Int32} {I_U : Nat → Int32} {I_T : Nat → Int32} {A_T : Nat → Nat → Int32} {I_S : Nat → Int32} {A_S : Nat → Nat → Int32} {I_C : Nat → Int32} {A_C : Nat → Nat → Int32} {v : Int32} : (kc_R cA a_R a_U a_S I_R A_R ++ kc_U cA a_U a_T I_U ++ kc_T cA a_T I_T A_T ++ kc_S cA a_S I_S A_S ++ kc_C cA a_C I_C A_C).set 12 (a_C 0, .inr (5, ([.int (I_C 0), .int (I_C 1), .int (I_C 2), .int (I_C 3), .int (I_C 4), .int (I_C 5), .ref (a_C 1), .ref (a_C 2), .ref (a_C 3), .ref (a_C 4), .ref (a_C 5), .ref (a_C 6), .ref (a_C 7), .ref (a_C 8), .ref (a_C 9), .ref (a_C 10), .ref (a_C 11), .ref (a_C 12)] : List Value).set 2 (.int v))) = kc_R cA a_R a_U a_S I_R A_R ++ kc_U cA a_U a_T I_U ++ kc_T cA a_T I_T A_T ++ kc_S cA a_S I_S A_S ++ kc_C cA a_C (va_up I_C 2 v) A_C := rfl
theorem st_RUTSC_CI3 {cA : Nat → ClassId} {a_R a_U a_T a_S a_C : Nat → Nat} {I_R : Nat → Int32} {A_R : Nat → Nat → Int32} {I_U : Nat → Int32} {I_T : Nat → Int32} {A_T : Nat → Nat → Int32} {I_S : Nat → Int32} {A_S : Nat → Nat → Int32} {I_C : Nat → Int32} {A_C : Nat → Nat → Int32} {v : Int32} : (kc_R cA a_R a_U a_S I_R A_R ++ kc_U cA a_U a_T I_U ++ kc_T cA a_T I_T A_T ++ kc_S cA a_S I_S A_S ++ kc_C cA a_C I_C A_C).set 12 (a_C 0, .inr (5, ([.int (I_C 0), .int (I_C 1), .int (I_C 2), .int (I_C 3), .int (I_C 4), .int (I_C 5), .ref (a_C 1), .ref (a_C 2), .ref (a_C 3), .ref (a_C 4), .ref (a_C 5), .ref (a_C 6), .ref (a_C 7), .ref (a_C 8), .ref (a_C 9), .ref (a_C 10), .ref (a_C 11), .ref (a_C 12)] : List Value).set 3 (.int v))) = kc_R cA a_R a_U a_S I_R A_R ++ kc_U cA a_U a_T I_U ++ kc_T cA a_T I_T A_T ++ kc_S cA a_S I_S A_S ++ kc_C cA a_C (va_up I_C 3 v) A_C := rfl
theorem st_RUTSC_CI4 {cA : Nat → ClassId} {a_R a_U a_T a_S a_C : Nat → Nat} {I_R : Nat → Int32} {A_R : Nat → Nat → Int32} {I_U : Nat → Int32} {I_T : Nat → Int32} {A_T : Nat → Nat → Int32} {I_S : Nat → Int32} {A_S : Nat → Nat → Int32} {I_C : Nat → Int32} {A_C : Nat → Nat → Int32} {v : Int32} : (kc_R cA a_R a_U a_S I_R A_R ++ kc_U cA a_U a_T I_U ++ kc_T cA a_T I_T A_T ++ kc_S cA a_S I_S A_S ++ kc_C cA a_C I_C A_C).set 12 (a_C 0, .inr (5, ([.int (I_C 0), .int (I_C 1), .int (I_C 2), .int (I_C 3), .int (I_C 4), .int (I_C 5), .ref (a_C 1), .ref (a_C 2), .ref (a_C 3), .ref (a_C 4), .ref (a_C 5), .ref (a_C 6), .ref (a_C 7), .ref (a_C 8), .ref (a_C 9), .ref (a_C 10), .ref (a_C 11), .ref (a_C 12)] : List Value).set 4 (.int v))) = kc_R cA a_R a_U a_S I_R A_R ++ kc_U cA a_U a_T I_U ++ kc_T cA a_T I_T A_T ++ kc_S cA a_S I_S A_S ++ kc_C cA a_C (va_up I_C 4 v) A_C := rfl
theorem st_RUTSC_RA0 {cA : Nat → ClassId} {a_R a_U a_T a_S a_C : Nat → Nat} {I_R : Nat → Int32} {A_R : Nat → Nat → Int32} {I_U : Nat → Int32} {I_T : Nat → Int32} {A_T : Nat → Nat → Int32} {I_S : Nat → Int32} {A_S : Nat → Nat → Int32} {I_C : Nat → Int32} {A_C : Nat → Nat → Int32} {f : Nat → Int32} : (kc_R cA a_R a_U a_S I_R A_R ++ kc_U cA a_U a_T I_U ++ kc_T cA a_T I_T A_T ++ kc_S cA a_S I_S A_S ++ kc_C cA a_C I_C A_C).set 1 (a_R 1, .inl (cA 0, 615, .inl f)) = kc_R cA a_R a_U a_S I_R (va_up A_R 0 f) ++ kc_U cA a_U a_T I_U ++ kc_T cA a_T I_T A_T ++ kc_S cA a_S I_S A_S ++ kc_C cA a_C I_C A_C := rfl
theorem st_RUTSC_RA1 {cA : Nat → ClassId} {a_R a_U a_T a_S a_C : Nat → Nat} {I_R : Nat → Int32} {A_R : Nat → Nat → Int32} {I_U : Nat → Int32} {I_T : Nat → Int32} {A_T : Nat → Nat → Int32} {I_S : Nat → Int32} {A_S : Nat → Nat → Int32} {I_C : Nat → Int32} {A_C : Nat → Nat → Int32} {f : Nat → Int32} : (kc_R cA a_R a_U a_S I_R A_R ++ kc_U cA a_U a_T I_U ++ kc_T cA a_T I_T A_T ++ kc_S cA a_S I_S A_S ++ kc_C cA a_C I_C A_C).set 2 (a_R 2, .inl (cA 0, 615, .inl f)) = kc_R cA a_R a_U a_S I_R (va_up A_R 1 f) ++ kc_U cA a_U a_T I_U ++ kc_T cA a_T I_T A_T ++ kc_S cA a_S I_S A_S ++ kc_C cA a_C I_C A_C := rfl
theorem st_RUTSC_RI0 {cA : Nat → ClassId} {a_R a_U a_T a_S a_C : Nat → Nat} {I_R : Nat → Int32} {A_R : Nat → Nat → Int32} {I_U : Nat → Int32} {I_T : Nat → Int32} {A_T : Nat → Nat → Int32} {I_S : Nat → Int32} {A_S : Nat → Nat → Int32} {I_C : Nat → Int32} {A_C : Nat → Nat → Int32} {v : Int32} : (kc_R cA a_R a_U a_S I_R A_R ++ kc_U cA a_U a_T I_U ++ kc_T cA a_T I_T A_T ++ kc_S cA a_S I_S A_S ++ kc_C cA a_C I_C A_C).set 0 (a_R 0, .inr (2, ([.ref (a_U 0), .ref (a_S 0), .ref (a_R 1), .ref (a_R 2), .int (I_R 0), .int (I_R 1)] : List Value).set 4 (.int v))) = kc_R cA a_R a_U a_S (va_up I_R 0 v) A_R ++ kc_U cA a_U a_T I_U ++ kc_T cA a_T I_T A_T ++ kc_S cA a_S I_S A_S ++ kc_C cA a_C I_C A_C := rfl
theorem st_RUTSC_RI1 {cA : Nat → ClassId} {a_R a_U a_T a_S a_C : Nat → Nat} {I_R : Nat → Int32} {A_R : Nat → Nat → Int32} {I_U : Nat → Int32} {I_T : Nat → Int32} {A_T : Nat → Nat → Int32} {I_S : Nat → Int32} {A_S : Nat → Nat → Int32} {I_C : Nat → Int32} {A_C : Nat → Nat → Int32} {v : Int32} : (kc_R cA a_R a_U a_S I_R A_R ++ kc_U cA a_U a_T I_U ++ kc_T cA a_T I_T A_T ++ kc_S cA a_S I_S A_S ++ kc_C cA a_C I_C A_C).set 0 (a_R 0, .inr (2, ([.ref (a_U 0), .ref (a_S 0), .ref (a_R 1), .ref (a_R 2), .int (I_R 0), .int (I_R 1)] : List Value).set 5 (.int v))) = kc_R cA a_R a_U a_S (va_up I_R 1 v) A_R ++ kc_U cA a_U a_T I_U ++ kc_T cA a_T I_T A_T ++ kc_S cA a_S I_S A_S ++ kc_C cA a_C I_C A_C := rfl
theorem st_RUTSC_UI0 {cA : Nat → ClassId} {a_R a_U a_T a_S a_C : Nat → Nat} {I_R : Nat → Int32} {A_R : Nat → Nat → Int32} {I_U : Nat → Int32} {I_T : Nat → Int32} {A_T : Nat → Nat → Int32} {I_S : Nat → Int32} {A_S : Nat → Nat → Int32} {I_C : Nat → Int32} {A_C : Nat → Nat → Int32} {v : Int32} : (kc_R cA a_R a_U a_S I_R A_R ++ kc_U cA a_U a_T I_U ++ kc_T cA a_T I_T A_T ++ kc_S cA a_S I_S A_S ++ kc_C cA a_C I_C A_C).set 3 (a_U 0, .inr (1, ([.ref (a_T 0), .int (I_U 0), .int (I_U 1), .int (I_U 2), .int (I_U 3), .int (I_U 4)] : List Value).set 1 (.int v))) = kc_R cA a_R a_U a_S I_R A_R ++ kc_U cA a_U a_T (va_up I_U 0 v) ++ kc_T cA a_T I_T A_T ++ kc_S cA a_S I_S A_S ++ kc_C cA a_C I_C A_C := rfl
end
section
def wp_R_faultKind (I_U : (Nat → Int32)) (Q : Int32 → Prop) : Prop := Q (I_U 3)
def wp_R_faultPlace (I_U : (Nat → Int32)) (Q : Int32 → Prop) : Prop := Q (I_U 4)
def wp_R_readCount (I_U : (Nat → Int32)) (I_T : (Nat → Int32)) (A_T : (Nat → Nat → Int32)) (Q : Int32 → (Nat → Int32) → Prop) : Prop := wp_U_expect I_U I_T A_T (32 : Int32) (fun r_1 I_U_3 => ((r_1 = 0) → Q (0 : Int32) I_U_3) ∧ ((¬ r_1 = 0) → wp_U_readNumber I_U_3 I_T A_T (fun r_4 I_U_6 => ((r_4 = 0) → Q (0 : Int32) I_U_6) ∧ ((¬ r_4 = 0) → Q (1 : Int32) I_U_6))))
def wp_R_readHeader_b59 (I_T : (Nat → Int32)) (A_T : (Nat → Nat → Int32)) (Q : Int32 → (Nat → Int32) → (Nat → Int32) → (Nat → Int32) → Prop) (I_R : (Nat → Int32)) (I_U : (Nat → Int32)) (I_C : (Nat → Int32)) : Prop := wp_U_expect I_U I_T A_T (103 : Int32) (fun r_9 I_U_11 => ((r_9 = 0) → Q (0 : Int32) I_R I_U_11 I_C) ∧ ((¬ r_9 = 0) → wp_R_readCount I_U_11 I_T A_T (fun r_12 I_U_14 => ((r_12 = 0) → Q (0 : Int32) I_R I_U_14 I_C) ∧ ((¬ r_12 = 0) → wp_R_readCount I_U_14 I_T A_T (fun r_15 I_U_17 => ((r_15 = 0) → Q (0 : Int32) I_R I_U_17 (va_up I_C 0 (I_U_14 2))) ∧ ((¬ r_15 = 0) → wp_R_readCount I_U_17 I_T A_T (fun r_18 I_U_20 => ((r_18 = 0) → Q (0 : Int32) I_R I_U_20 (va_up (va_up I_C 0 (I_U_14 2)) 1 (I_U_17 2))) ∧ ((¬ r_18 = 0) → wp_R_readCount I_U_20 I_T A_T (fun r_21 I_U_23 => ((r_21 = 0) → Q (0 : Int32) I_R I_U_23 (va_up (va_up (va_up I_C 0 (I_U_14 2)) 1 (I_U_17 2)) 2 (I_U_20 2))) ∧ ((¬ r_21 = 0) → wp_R_readCount I_U_23 I_T A_T (fun r_24 I_U_26 => ((r_24 = 0) → Q (0 : Int32) I_R I_U_26 (va_up (va_up (va_up (va_up I_C 0 (I_U_14 2)) 1 (I_U_17 2)) 2 (I_U_20 2)) 3 (I_U_23 2))) ∧ ((¬ r_24 = 0) → wp_U_expect I_U_26 I_T A_T (10 : Int32) (fun r_27 I_U_29 => ((r_27 = 0) → Q (0 : Int32) I_R I_U_29 (va_up (va_up (va_up (va_up (va_up I_C 0 (I_U_14 2)) 1 (I_U_17 2)) 2 (I_U_20 2)) 3 (I_U_23 2)) 4 (I_U_26 2))) ∧ ((¬ r_27 = 0) → wp_C_isWithinBounds (va_up (va_up (va_up (va_up (va_up I_C 0 (I_U_14 2)) 1 (I_U_17 2)) 2 (I_U_20 2)) 3 (I_U_23 2)) 4 (I_U_26 2)) (I_R 1) (fun r_30 => ((r_30 = 0) → wp_U_fail I_U_29 (2 : Int32) (I_U_29 0) (fun r_32 I_U_34 => ((r_32 = 0) → Q (0 : Int32) I_R I_U_34 (va_up (va_up (va_up (va_up (va_up I_C 0 (I_U_14 2)) 1 (I_U_17 2)) 2 (I_U_20 2)) 3 (I_U_23 2)) 4 (I_U_26 2))) ∧ ((¬ r_32 = 0) → Q (1 : Int32) I_R I_U_34 (va_up (va_up (va_up (va_up (va_up I_C 0 (I_U_14 2)) 1 (I_U_17 2)) 2 (I_U_20 2)) 3 (I_U_23 2)) 4 (I_U_26 2))))) ∧ ((¬ r_30 = 0) → Q (1 : Int32) I_R I_U_29 (va_up (va_up (va_up (va_up (va_up I_C 0 (I_U_14 2)) 1 (I_U_17 2)) 2 (I_U_20 2)) 3 (I_U_23 2)) 4 (I_U_26 2))))))))))))))))))
def wp_R_readHeader_b35 (I_T : (Nat → Int32)) (A_T : (Nat → Nat → Int32)) (Q : Int32 → (Nat → Int32) → (Nat → Int32) → (Nat → Int32) → Prop) (I_R : (Nat → Int32)) (I_U : (Nat → Int32)) (I_C : (Nat → Int32)) : Prop := (((I_R 1) = 0) → wp_U_expect I_U I_T A_T (97 : Int32) (fun r_6 I_U_8 => ((r_6 = 0) → Q (0 : Int32) I_R I_U_8 I_C) ∧ ((¬ r_6 = 0) → wp_R_readHeader_b59 I_T A_T Q I_R I_U_8 I_C))) ∧ ((¬ (I_R 1) = 0) → wp_U_expect I_U I_T A_T (105 : Int32) (fun r_35 I_U_37 => ((r_35 = 0) → Q (0 : Int32) I_R I_U_37 I_C) ∧ ((¬ r_35 = 0) → wp_R_readHeader_b59 I_T A_T Q I_R I_U_37 I_C)))
def wp_R_readHeader (I_R : (Nat → Int32)) (I_U : (Nat → Int32)) (I_T : (Nat → Int32)) (A_T : (Nat → Nat → Int32)) (I_C : (Nat → Int32)) (Q : Int32 → (Nat → Int32) → (Nat → Int32) → (Nat → Int32) → Prop) : Prop := wp_U_expect I_U I_T A_T (97 : Int32) (fun r_1 I_U_3 => ((r_1 = 0) → Q (0 : Int32) I_R I_U_3 I_C) ∧ ((¬ r_1 = 0) → wp_U_peek I_U_3 I_T A_T (fun r_4 => ((r_4 = (105 : Int32)) → wp_R_readHeader_b35 I_T A_T Q (va_up I_R 1 (1 : Int32)) I_U_3 I_C) ∧ ((¬ r_4 = (105 : Int32)) → wp_R_readHeader_b35 I_T A_T Q (va_up I_R 1 (0 : Int32)) I_U_3 I_C))))
def wp_R_readLiteral (I_U : (Nat → Int32)) (I_T : (Nat → Int32)) (A_T : (Nat → Nat → Int32)) (I_C : (Nat → Int32)) (Q : Int32 → (Nat → Int32) → Prop) : Prop := wp_U_readNumber I_U I_T A_T (fun r_1 I_U_3 => ((r_1 = 0) → Q (0 : Int32) I_U_3) ∧ ((¬ r_1 = 0) → wp_C_highestLiteral I_C (fun r_4 => (((I_U_3 2) ≤ r_4) → Q (1 : Int32) I_U_3) ∧ ((¬ (I_U_3 2) ≤ r_4) → wp_U_fail I_U_3 (3 : Int32) (I_U_3 1) (fun r_6 I_U_8 => ((r_6 = 0) → Q (0 : Int32) I_U_8) ∧ ((¬ r_6 = 0) → Q (1 : Int32) I_U_8))))))
def wp_R_readDefinition_b46 (I_T : (Nat → Int32)) (A_T : (Nat → Nat → Int32)) (I_C : (Nat → Int32)) (A_C : (Nat → Nat → Int32)) (Q : Int32 → (Nat → Int32) → Prop) (I_U : (Nat → Int32)) (v3 : Int32) : Prop := ((v3 = 0) → wp_U_fail I_U (4 : Int32) (I_U 1) (fun r_4 I_U_6 => ((r_4 = 0) → Q (0 : Int32) I_U_6) ∧ ((¬ r_4 = 0) → Q (1 : Int32) I_U_6))) ∧ ((¬ v3 = 0) → Q (1 : Int32) I_U)
def wp_R_readDefinition_b44 (I_T : (Nat → Int32)) (A_T : (Nat → Nat → Int32)) (I_C : (Nat → Int32)) (A_C : (Nat → Nat → Int32)) (Q : Int32 → (Nat → Int32) → Prop) (I_U : (Nat → Int32)) : Prop := wp_R_readDefinition_b46 I_T A_T I_C A_C Q I_U (0 : Int32)
def wp_R_readDefinition (I_U : (Nat → Int32)) (I_T : (Nat → Int32)) (A_T : (Nat → Nat → Int32)) (I_C : (Nat → Int32)) (A_C : (Nat → Nat → Int32)) (Q : Int32 → (Nat → Int32) → Prop) : Prop := wp_R_readLiteral I_U I_T A_T I_C (fun r_1 I_U_3 => ((r_1 = 0) → Q (0 : Int32) I_U_3) ∧ ((¬ r_1 = 0) → (((I_U_3 2) < (2 : Int32)) → wp_R_readDefinition_b44 I_T A_T I_C A_C Q I_U_3) ∧ ((¬ (I_U_3 2) < (2 : Int32)) → ((((I_U_3 2) &&& (1 : Int32)) = 0) → vp_in ((I_U_3 2) >>> ((1 : Int32) &&& 31)) 401 ∧ (((((A_C 8) (((I_U_3 2) >>> ((1 : Int32) &&& 31))).toNatClampNeg) = 0) → wp_R_readDefinition_b46 I_T A_T I_C A_C Q I_U_3 (1 : Int32)) ∧ ((¬ ((A_C 8) (((I_U_3 2) >>> ((1 : Int32) &&& 31))).toNatClampNeg) = 0) → wp_R_readDefinition_b44 I_T A_T I_C A_C Q I_U_3))) ∧ ((¬ ((I_U_3 2) &&& (1 : Int32)) = 0) → wp_R_readDefinition_b44 I_T A_T I_C A_C Q I_U_3))))
def wp_R_readInputs_b66 (I_R : (Nat → Int32)) (I_T : (Nat → Int32)) (A_T : (Nat → Nat → Int32)) (I_C : (Nat → Int32)) (Q : Int32 → (Nat → Int32) → (Nat → Nat → Int32) → Prop) (K2 : (Nat → Int32) → (Nat → Nat → Int32) → Int32 → Prop) (X2 : (Nat → Int32) → (Nat → Nat → Int32) → Prop) (I_U : (Nat → Int32)) (A_C : (Nat → Nat → Int32)) (v2 : Int32) : Prop := vp_in v2 6 ∧ (vp_in ((A_C 0) (v2).toNatClampNeg) 401 ∧ (K2 I_U (va_up A_C 8 (upd (A_C 8) (((A_C 0) (v2).toNatClampNeg)).toNatClampNeg (1 : Int32))) (v2 + (1 : Int32))))
def wp_R_readInputs_L2 (I_R : (Nat → Int32)) (I_T : (Nat → Int32)) (A_T : (Nat → Nat → Int32)) (I_C : (Nat → Int32)) (Q : Int32 → (Nat → Int32) → (Nat → Nat → Int32) → Prop) (X2 : (Nat → Int32) → (Nat → Nat → Int32) → Prop) : Nat → (Nat → Int32) → (Nat → Nat → Int32) → Int32 → Prop
  | 0 => fun _ _ _ => False
  | n2 + 1 => fun I_U A_C v2 => (((I_C 1) ≤ v2) → X2 I_U A_C) ∧ ((¬ (I_C 1) ≤ v2) → (((I_R 1) = 0) → wp_R_readDefinition I_U I_T A_T I_C A_C (fun r_1 I_U_3 => ((r_1 = 0) → Q (0 : Int32) I_U_3 A_C) ∧ ((¬ r_1 = 0) → wp_U_expect I_U_3 I_T A_T (10 : Int32) (fun r_4 I_U_6 => ((r_4 = 0) → Q (0 : Int32) I_U_6 A_C) ∧ ((¬ r_4 = 0) → vp_in v2 6 ∧ (wp_R_readInputs_b66 I_R I_T A_T I_C Q (wp_R_readInputs_L2 I_R I_T A_T I_C Q X2 n2) X2 I_U_6 (va_up A_C 0 (upd (A_C 0) (v2).toNatClampNeg ((I_U_6 2) >>> ((1 : Int32) &&& 31)))) v2)))))) ∧ ((¬ (I_R 1) = 0) → vp_in v2 6 ∧ (wp_R_readInputs_b66 I_R I_T A_T I_C Q (wp_R_readInputs_L2 I_R I_T A_T I_C Q X2 n2) X2 I_U (va_up A_C 0 (upd (A_C 0) (v2).toNatClampNeg (v2 + (1 : Int32)))) v2)))
def wp_R_readInputs (I_R : (Nat → Int32)) (I_U : (Nat → Int32)) (I_T : (Nat → Int32)) (A_T : (Nat → Nat → Int32)) (I_C : (Nat → Int32)) (A_C : (Nat → Nat → Int32)) (Q : Int32 → (Nat → Int32) → (Nat → Nat → Int32) → Prop) : Prop := ∃ m2, wp_R_readInputs_L2 I_R I_T A_T I_C Q (fun I_U_11 A_C_12 => Q (1 : Int32) I_U_11 A_C_12) m2 I_U A_C (0 : Int32)
def wp_R_readUse (I_R : (Nat → Int32)) (A_R : (Nat → Nat → Int32)) (I_U : (Nat → Int32)) (I_T : (Nat → Int32)) (A_T : (Nat → Nat → Int32)) (I_C : (Nat → Int32)) (Q : Int32 → (Nat → Int32) → (Nat → Nat → Int32) → (Nat → Int32) → Prop) : Prop := wp_R_readLiteral I_U I_T A_T I_C (fun r_1 I_U_3 => ((r_1 = 0) → Q (0 : Int32) I_R A_R I_U_3) ∧ ((¬ r_1 = 0) → (((615 : Int32) ≤ (I_R 0)) → Q (1 : Int32) I_R A_R I_U_3) ∧ ((¬ (615 : Int32) ≤ (I_R 0)) → vp_in (I_R 0) 615 ∧ (Q (1 : Int32) (va_up I_R 0 ((I_R 0) + (1 : Int32))) (va_up (va_up A_R 0 (upd (A_R 0) ((I_R 0)).toNatClampNeg (I_U_3 2))) 1 (upd (A_R 1) ((I_R 0)).toNatClampNeg (I_U_3 1))) I_U_3))))
def wp_R_readLatches_b71 (I_T : (Nat → Int32)) (A_T : (Nat → Nat → Int32)) (I_C : (Nat → Int32)) (Q : Int32 → (Nat → Int32) → (Nat → Nat → Int32) → (Nat → Int32) → (Nat → Nat → Int32) → Prop) (K2 : (Nat → Int32) → (Nat → Nat → Int32) → (Nat → Int32) → (Nat → Nat → Int32) → Int32 → Prop) (X2 : (Nat → Int32) → (Nat → Nat → Int32) → (Nat → Int32) → (Nat → Nat → Int32) → Prop) (I_R : (Nat → Int32)) (A_R : (Nat → Nat → Int32)) (I_U : (Nat → Int32)) (A_C : (Nat → Nat → Int32)) (v2 : Int32) : Prop := vp_in v2 7 ∧ (vp_in ((A_C 1) (v2).toNatClampNeg) 401 ∧ (wp_R_readUse I_R A_R I_U I_T A_T I_C (fun r_10 I_R_12 A_R_13 I_U_14 => ((r_10 = 0) → Q (0 : Int32) I_R_12 A_R_13 I_U_14 (va_up A_C 8 (upd (A_C 8) (((A_C 1) (v2).toNatClampNeg)).toNatClampNeg (1 : Int32)))) ∧ ((¬ r_10 = 0) → wp_U_expect I_U_14 I_T A_T (10 : Int32) (fun r_15 I_U_17 => ((r_15 = 0) → Q (0 : Int32) I_R_12 A_R_13 I_U_17 (va_up A_C 8 (upd (A_C 8) (((A_C 1) (v2).toNatClampNeg)).toNatClampNeg (1 : Int32)))) ∧ ((¬ r_15 = 0) → K2 I_R_12 A_R_13 I_U_17 (va_up (va_up A_C 8 (upd (A_C 8) (((A_C 1) (v2).toNatClampNeg)).toNatClampNeg (1 : Int32))) 2 (upd (A_C 2) (v2).toNatClampNeg (I_U_17 2))) (v2 + (1 : Int32))))))))
def wp_R_readLatches_L2 (I_T : (Nat → Int32)) (A_T : (Nat → Nat → Int32)) (I_C : (Nat → Int32)) (Q : Int32 → (Nat → Int32) → (Nat → Nat → Int32) → (Nat → Int32) → (Nat → Nat → Int32) → Prop) (X2 : (Nat → Int32) → (Nat → Nat → Int32) → (Nat → Int32) → (Nat → Nat → Int32) → Prop) : Nat → (Nat → Int32) → (Nat → Nat → Int32) → (Nat → Int32) → (Nat → Nat → Int32) → Int32 → Prop
  | 0 => fun _ _ _ _ _ => False
  | n2 + 1 => fun I_R A_R I_U A_C v2 => (((I_C 2) ≤ v2) → X2 I_R A_R I_U A_C) ∧ ((¬ (I_C 2) ≤ v2) → (((I_R 1) = 0) → wp_R_readDefinition I_U I_T A_T I_C A_C (fun r_1 I_U_3 => ((r_1 = 0) → Q (0 : Int32) I_R A_R I_U_3 A_C) ∧ ((¬ r_1 = 0) → wp_U_expect I_U_3 I_T A_T (32 : Int32) (fun r_4 I_U_6 => ((r_4 = 0) → Q (0 : Int32) I_R A_R I_U_6 A_C) ∧ ((¬ r_4 = 0) → vp_in v2 7 ∧ (wp_R_readLatches_b71 I_T A_T I_C Q (wp_R_readLatches_L2 I_T A_T I_C Q X2 n2) X2 I_R A_R I_U_6 (va_up A_C 1 (upd (A_C 1) (v2).toNatClampNeg ((I_U_6 2) >>> ((1 : Int32) &&& 31)))) v2)))))) ∧ ((¬ (I_R 1) = 0) → vp_in v2 7 ∧ (wp_R_readLatches_b71 I_T A_T I_C Q (wp_R_readLatches_L2 I_T A_T I_C Q X2 n2) X2 I_R A_R I_U (va_up A_C 1 (upd (A_C 1) (v2).toNatClampNeg (((I_C 1) + v2) + (1 : Int32)))) v2)))
def wp_R_readLatches (I_R : (Nat → Int32)) (A_R : (Nat → Nat → Int32)) (I_U : (Nat → Int32)) (I_T : (Nat → Int32)) (A_T : (Nat → Nat → Int32)) (I_C : (Nat → Int32)) (A_C : (Nat → Nat → Int32)) (Q : Int32 → (Nat → Int32) → (Nat → Nat → Int32) → (Nat → Int32) → (Nat → Nat → Int32) → Prop) : Prop := ∃ m2, wp_R_readLatches_L2 I_T A_T I_C Q (fun I_R_19 A_R_20 I_U_21 A_C_22 => Q (1 : Int32) I_R_19 A_R_20 I_U_21 A_C_22) m2 I_R A_R I_U A_C (0 : Int32)
def wp_R_readOutputs_L2 (I_T : (Nat → Int32)) (A_T : (Nat → Nat → Int32)) (I_C : (Nat → Int32)) (Q : Int32 → (Nat → Int32) → (Nat → Nat → Int32) → (Nat → Int32) → (Nat → Nat → Int32) → Prop) (X2 : (Nat → Int32) → (Nat → Nat → Int32) → (Nat → Int32) → (Nat → Nat → Int32) → Prop) : Nat → (Nat → Int32) → (Nat → Nat → Int32) → (Nat → Int32) → (Nat → Nat → Int32) → Int32 → Prop
  | 0 => fun _ _ _ _ _ => False
  | n2 + 1 => fun I_R A_R I_U A_C v2 => (((I_C 3) ≤ v2) → X2 I_R A_R I_U A_C) ∧ ((¬ (I_C 3) ≤ v2) → wp_R_readUse I_R A_R I_U I_T A_T I_C (fun r_1 I_R_3 A_R_4 I_U_5 => ((r_1 = 0) → Q (0 : Int32) I_R_3 A_R_4 I_U_5 A_C) ∧ ((¬ r_1 = 0) → wp_U_expect I_U_5 I_T A_T (10 : Int32) (fun r_6 I_U_8 => ((r_6 = 0) → Q (0 : Int32) I_R_3 A_R_4 I_U_8 A_C) ∧ ((¬ r_6 = 0) → vp_in v2 8 ∧ ((wp_R_readOutputs_L2 I_T A_T I_C Q X2 n2) I_R_3 A_R_4 I_U_8 (va_up A_C 3 (upd (A_C 3) (v2).toNatClampNeg (I_U_8 2))) (v2 + (1 : Int32))))))))
def wp_R_readOutputs (I_R : (Nat → Int32)) (A_R : (Nat → Nat → Int32)) (I_U : (Nat → Int32)) (I_T : (Nat → Int32)) (A_T : (Nat → Nat → Int32)) (I_C : (Nat → Int32)) (A_C : (Nat → Nat → Int32)) (Q : Int32 → (Nat → Int32) → (Nat → Nat → Int32) → (Nat → Int32) → (Nat → Nat → Int32) → Prop) : Prop := ∃ m2, wp_R_readOutputs_L2 I_T A_T I_C Q (fun I_R_10 A_R_11 I_U_12 A_C_13 => Q (1 : Int32) I_R_10 A_R_11 I_U_12 A_C_13) m2 I_R A_R I_U A_C (0 : Int32)
def wp_R_readTextAnds_L2 (I_T : (Nat → Int32)) (A_T : (Nat → Nat → Int32)) (I_C : (Nat → Int32)) (Q : Int32 → (Nat → Int32) → (Nat → Nat → Int32) → (Nat → Int32) → (Nat → Nat → Int32) → Prop) (X2 : (Nat → Int32) → (Nat → Nat → Int32) → (Nat → Int32) → (Nat → Nat → Int32) → Prop) : Nat → (Nat → Int32) → (Nat → Nat → Int32) → (Nat → Int32) → (Nat → Nat → Int32) → Int32 → Prop
  | 0 => fun _ _ _ _ _ => False
  | n2 + 1 => fun I_R A_R I_U A_C v2 => (((I_C 4) ≤ v2) → X2 I_R A_R I_U A_C) ∧ ((¬ (I_C 4) ≤ v2) → wp_R_readDefinition I_U I_T A_T I_C A_C (fun r_1 I_U_3 => ((r_1 = 0) → Q (0 : Int32) I_R A_R I_U_3 A_C) ∧ ((¬ r_1 = 0) → wp_U_expect I_U_3 I_T A_T (32 : Int32) (fun r_4 I_U_6 => ((r_4 = 0) → Q (0 : Int32) I_R A_R I_U_6 A_C) ∧ ((¬ r_4 = 0) → vp_in v2 300 ∧ (vp_in ((upd (A_C 4) (v2).toNatClampNeg ((I_U_6 2) >>> ((1 : Int32) &&& 31))) (v2).toNatClampNeg) 401 ∧ (wp_R_readUse I_R A_R I_U_6 I_T A_T I_C (fun r_9 I_R_11 A_R_12 I_U_13 => ((r_9 = 0) → Q (0 : Int32) I_R_11 A_R_12 I_U_13 (va_up (va_up A_C 4 (upd (A_C 4) (v2).toNatClampNeg ((I_U_6 2) >>> ((1 : Int32) &&& 31)))) 8 (upd (A_C 8) (((upd (A_C 4) (v2).toNatClampNeg ((I_U_6 2) >>> ((1 : Int32) &&& 31))) (v2).toNatClampNeg)).toNatClampNeg (1 : Int32)))) ∧ ((¬ r_9 = 0) → wp_U_expect I_U_13 I_T A_T (32 : Int32) (fun r_14 I_U_16 => ((r_14 = 0) → Q (0 : Int32) I_R_11 A_R_12 I_U_16 (va_up (va_up A_C 4 (upd (A_C 4) (v2).toNatClampNeg ((I_U_6 2) >>> ((1 : Int32) &&& 31)))) 8 (upd (A_C 8) (((upd (A_C 4) (v2).toNatClampNeg ((I_U_6 2) >>> ((1 : Int32) &&& 31))) (v2).toNatClampNeg)).toNatClampNeg (1 : Int32)))) ∧ ((¬ r_14 = 0) → wp_R_readUse I_R_11 A_R_12 I_U_16 I_T A_T I_C (fun r_17 I_R_19 A_R_20 I_U_21 => ((r_17 = 0) → Q (0 : Int32) I_R_19 A_R_20 I_U_21 (va_up (va_up (va_up A_C 4 (upd (A_C 4) (v2).toNatClampNeg ((I_U_6 2) >>> ((1 : Int32) &&& 31)))) 8 (upd (A_C 8) (((upd (A_C 4) (v2).toNatClampNeg ((I_U_6 2) >>> ((1 : Int32) &&& 31))) (v2).toNatClampNeg)).toNatClampNeg (1 : Int32))) 5 (upd (A_C 5) (v2).toNatClampNeg (I_U_16 2)))) ∧ ((¬ r_17 = 0) → wp_U_expect I_U_21 I_T A_T (10 : Int32) (fun r_22 I_U_24 => ((r_22 = 0) → Q (0 : Int32) I_R_19 A_R_20 I_U_24 (va_up (va_up (va_up A_C 4 (upd (A_C 4) (v2).toNatClampNeg ((I_U_6 2) >>> ((1 : Int32) &&& 31)))) 8 (upd (A_C 8) (((upd (A_C 4) (v2).toNatClampNeg ((I_U_6 2) >>> ((1 : Int32) &&& 31))) (v2).toNatClampNeg)).toNatClampNeg (1 : Int32))) 5 (upd (A_C 5) (v2).toNatClampNeg (I_U_16 2)))) ∧ ((¬ r_22 = 0) → (wp_R_readTextAnds_L2 I_T A_T I_C Q X2 n2) I_R_19 A_R_20 I_U_24 (va_up (va_up (va_up (va_up A_C 4 (upd (A_C 4) (v2).toNatClampNeg ((I_U_6 2) >>> ((1 : Int32) &&& 31)))) 8 (upd (A_C 8) (((upd (A_C 4) (v2).toNatClampNeg ((I_U_6 2) >>> ((1 : Int32) &&& 31))) (v2).toNatClampNeg)).toNatClampNeg (1 : Int32))) 5 (upd (A_C 5) (v2).toNatClampNeg (I_U_16 2))) 6 (upd (A_C 6) (v2).toNatClampNeg (I_U_24 2))) (v2 + (1 : Int32)))))))))))))))))
def wp_R_readTextAnds (I_R : (Nat → Int32)) (A_R : (Nat → Nat → Int32)) (I_U : (Nat → Int32)) (I_T : (Nat → Int32)) (A_T : (Nat → Nat → Int32)) (I_C : (Nat → Int32)) (A_C : (Nat → Nat → Int32)) (Q : Int32 → (Nat → Int32) → (Nat → Nat → Int32) → (Nat → Int32) → (Nat → Nat → Int32) → Prop) : Prop := ∃ m2, wp_R_readTextAnds_L2 I_T A_T I_C Q (fun I_R_25 A_R_26 I_U_27 A_C_28 => Q (1 : Int32) I_R_25 A_R_26 I_U_27 A_C_28) m2 I_R A_R I_U A_C (0 : Int32)
def wp_R_kindOf_L2 (Q : Int32 → Prop) (X2 : Prop) : Nat → Int32 → Int32 → Prop
  | 0 => fun _ _ => False
  | n2 + 1 => fun v0 v1 => (((3 : Int32) ≤ v1) → X2) ∧ ((¬ (3 : Int32) ≤ v1) → vp_in v1 3 ∧ ((((kl v1) = v0) → Q v1) ∧ ((¬ (kl v1) = v0) → (wp_R_kindOf_L2 Q X2 n2) v0 (v1 + (1 : Int32)))))
def wp_R_kindOf (x0 : Int32) (Q : Int32 → Prop) : Prop := ∃ m2, wp_R_kindOf_L2 Q (Q (-1 : Int32)) m2 x0 (0 : Int32)
def wp_R_readName_L2 (I_T : (Nat → Int32)) (A_T : (Nat → Nat → Int32)) (Q : Int32 → (Nat → Int32) → (Nat → Nat → Int32) → Prop) (X2 : (Nat → Int32) → (Nat → Nat → Int32) → Int32 → Prop) : Nat → (Nat → Int32) → (Nat → Nat → Int32) → Int32 → Int32 → Prop
  | 0 => fun _ _ _ _ => False
  | n2 + 1 => fun I_U A_C v2 v3 => (((40 : Int32) ≤ v3) → X2 I_U A_C v2) ∧ ((¬ (40 : Int32) ≤ v3) → wp_U_peek I_U I_T A_T (fun r_1 => ((r_1 = (-1 : Int32)) → X2 I_U A_C v2) ∧ ((¬ r_1 = (-1 : Int32)) → ((r_1 = (10 : Int32)) → X2 I_U A_C v2) ∧ ((¬ r_1 = (10 : Int32)) → vp_in ((v2 * (40 : Int32)) + v3) 960 ∧ (vp_in v2 24 ∧ ((wp_R_readName_L2 I_T A_T Q X2 n2) (va_up I_U 0 ((I_U 0) + (1 : Int32))) (va_up (va_up A_C 10 (upd (A_C 10) (((v2 * (40 : Int32)) + v3)).toNatClampNeg r_1)) 9 (upd (A_C 9) (v2).toNatClampNeg (v3 + (1 : Int32)))) v2 (v3 + (1 : Int32))))))))
def wp_R_readName (I_U : (Nat → Int32)) (I_T : (Nat → Int32)) (A_T : (Nat → Nat → Int32)) (A_C : (Nat → Nat → Int32)) (x2 : Int32) (Q : Int32 → (Nat → Int32) → (Nat → Nat → Int32) → Prop) : Prop := ∃ m2, wp_R_readName_L2 I_T A_T Q (fun I_U_5 A_C_6 v2_7 => vp_in v2_7 24 ∧ (((((A_C_6 9) (v2_7).toNatClampNeg) ≤ 0) → wp_U_fail I_U_5 (1 : Int32) (I_U_5 0) (fun r_9 I_U_11 => (narrow .boolean (.int r_9) = .int r_9) ∧ (Q r_9 I_U_11 A_C_6))) ∧ ((¬ ((A_C_6 9) (v2_7).toNatClampNeg) ≤ 0) → wp_U_expect I_U_5 I_T A_T (10 : Int32) (fun r_13 I_U_15 => (narrow .boolean (.int r_13) = .int r_13) ∧ (Q r_13 I_U_15 A_C_6))))) m2 I_U A_C x2 (0 : Int32)
def wp_R_readSymbol_b76 (I_T : (Nat → Int32)) (A_T : (Nat → Nat → Int32)) (I_C : (Nat → Int32)) (Q : Int32 → (Nat → Int32) → (Nat → Nat → Int32) → Prop) (I_U : (Nat → Int32)) (A_C : (Nat → Nat → Int32)) : Prop := wp_U_fail I_U (1 : Int32) (I_U 0) (fun r_6 I_U_8 => (narrow .boolean (.int r_6) = .int r_6) ∧ (Q r_6 I_U_8 A_C))
def wp_R_readSymbol (I_U : (Nat → Int32)) (I_T : (Nat → Int32)) (A_T : (Nat → Nat → Int32)) (I_C : (Nat → Int32)) (A_C : (Nat → Nat → Int32)) (x2 : Int32) (Q : Int32 → (Nat → Int32) → (Nat → Nat → Int32) → Prop) : Prop := ((x2 = (-1 : Int32)) → wp_U_fail I_U (1 : Int32) (I_U 0) (fun r_22 I_U_24 => (narrow .boolean (.int r_22) = .int r_22) ∧ (Q r_22 I_U_24 A_C))) ∧ ((¬ x2 = (-1 : Int32)) → wp_U_readNumber (va_up I_U 0 ((I_U 0) + (1 : Int32))) I_T A_T (fun r_1 I_U_3 => ((r_1 = 0) → Q (0 : Int32) I_U_3 A_C) ∧ ((¬ r_1 = 0) → wp_C_countOf I_C x2 (fun r_4 => ((r_4 ≤ (I_U_3 2)) → wp_R_readSymbol_b76 I_T A_T I_C Q I_U_3 A_C) ∧ ((¬ r_4 ≤ (I_U_3 2)) → wp_F_slotOf x2 (I_U_3 2) (fun r_10 => vp_in r_10 24 ∧ (((((A_C 9) (r_10).toNatClampNeg) ≤ 0) → wp_U_expect I_U_3 I_T A_T (32 : Int32) (fun r_13 I_U_15 => ((r_13 = 0) → Q (0 : Int32) I_U_15 A_C) ∧ ((¬ r_13 = 0) → wp_F_slotOf x2 (I_U_3 2) (fun r_16 => wp_R_readName I_U_15 I_T A_T A_C r_16 (fun r_18 I_U_20 A_C_21 => ((r_18 = 0) → Q (0 : Int32) I_U_20 A_C_21) ∧ ((¬ r_18 = 0) → Q (1 : Int32) I_U_20 A_C_21)))))) ∧ ((¬ ((A_C 9) (r_10).toNatClampNeg) ≤ 0) → wp_R_readSymbol_b76 I_T A_T I_C Q I_U_3 A_C))))))))
def wp_R_readSymbols_L2 (I_T : (Nat → Int32)) (A_T : (Nat → Nat → Int32)) (I_C : (Nat → Int32)) (Q : Int32 → (Nat → Int32) → (Nat → Nat → Int32) → Prop) (X2 : (Nat → Int32) → (Nat → Nat → Int32) → Prop) : Nat → (Nat → Int32) → (Nat → Nat → Int32) → Int32 → Prop
  | 0 => fun _ _ _ => False
  | n2 + 1 => fun I_U A_C v2 => (((24 : Int32) < v2) → X2 I_U A_C) ∧ ((¬ (24 : Int32) < v2) → wp_U_peek I_U I_T A_T (fun r_1 => ((r_1 = (-1 : Int32)) → Q (1 : Int32) I_U A_C) ∧ ((¬ r_1 = (-1 : Int32)) → ((r_1 = (99 : Int32)) → wp_U_expect (va_up I_U 0 ((I_U 0) + (1 : Int32))) I_T A_T (10 : Int32) (fun r_9 I_U_11 => (narrow .boolean (.int r_9) = .int r_9) ∧ (Q r_9 I_U_11 A_C))) ∧ ((¬ r_1 = (99 : Int32)) → wp_R_kindOf r_1 (fun r_3 => wp_R_readSymbol I_U I_T A_T I_C A_C r_3 (fun r_5 I_U_7 A_C_8 => ((r_5 = 0) → Q (0 : Int32) I_U_7 A_C_8) ∧ ((¬ r_5 = 0) → (wp_R_readSymbols_L2 I_T A_T I_C Q X2 n2) I_U_7 A_C_8 (v2 + (1 : Int32)))))))))
def wp_R_readSymbols (I_U : (Nat → Int32)) (I_T : (Nat → Int32)) (A_T : (Nat → Nat → Int32)) (I_C : (Nat → Int32)) (A_C : (Nat → Nat → Int32)) (Q : Int32 → (Nat → Int32) → (Nat → Nat → Int32) → Prop) : Prop := ∃ m2, wp_R_readSymbols_L2 I_T A_T I_C Q (fun I_U_13 A_C_14 => Q (1 : Int32) I_U_13 A_C_14) m2 I_U A_C (0 : Int32)
def wp_R_checkUses_L2 (I_R : (Nat → Int32)) (A_R : (Nat → Nat → Int32)) (A_C : (Nat → Nat → Int32)) (Q : Int32 → (Nat → Int32) → Prop) (X2 : (Nat → Int32) → Prop) : Nat → (Nat → Int32) → Int32 → Prop
  | 0 => fun _ _ => False
  | n2 + 1 => fun I_U v2 => (((I_R 0) ≤ v2) → X2 I_U) ∧ ((¬ (I_R 0) ≤ v2) → vp_in v2 615 ∧ (wp_C_isKnown A_C ((A_R 0) (v2).toNatClampNeg) (fun r_2 => ((r_2 = 0) → wp_U_fail I_U (5 : Int32) ((A_R 1) (v2).toNatClampNeg) (fun r_4 I_U_6 => (narrow .boolean (.int r_4) = .int r_4) ∧ (Q r_4 I_U_6))) ∧ ((¬ r_2 = 0) → (wp_R_checkUses_L2 I_R A_R A_C Q X2 n2) I_U (v2 + (1 : Int32))))))
def wp_R_checkUses (I_R : (Nat → Int32)) (A_R : (Nat → Nat → Int32)) (I_U : (Nat → Int32)) (A_C : (Nat → Nat → Int32)) (Q : Int32 → (Nat → Int32) → Prop) : Prop := ∃ m2, wp_R_checkUses_L2 I_R A_R A_C Q (fun I_U_8 => Q (1 : Int32) I_U_8) m2 I_U (0 : Int32)
def wp_R_checkLoops (I_U : (Nat → Int32)) (I_S : (Nat → Int32)) (A_S : (Nat → Nat → Int32)) (I_C : (Nat → Int32)) (A_C : (Nat → Nat → Int32)) (Q : Int32 → (Nat → Int32) → (Nat → Int32) → (Nat → Nat → Int32) → (Nat → Nat → Int32) → Prop) : Prop := wp_S_putInOrder A_S I_C A_C (fun r_1 A_S_3 A_C_4 => ((r_1 = 0) → wp_S_lowestOnLoop I_S A_S_3 I_C A_C_4 (fun r_5 I_S_7 A_S_8 => wp_U_fail I_U (6 : Int32) r_5 (fun r_9 I_U_11 => ((r_9 = 0) → Q (0 : Int32) I_U_11 I_S_7 A_S_8 A_C_4) ∧ ((¬ r_9 = 0) → Q (1 : Int32) I_U_11 I_S_7 A_S_8 A_C_4)))) ∧ ((¬ r_1 = 0) → Q (1 : Int32) I_U I_S A_S_3 A_C_4))
def wp_R_readDelta_b40 (I_T : (Nat → Int32)) (A_T : (Nat → Nat → Int32)) (Q : Int32 → (Nat → Int32) → Prop) (I_U : (Nat → Int32)) (v3 : Int32) : Prop := ((v3 = 0) → wp_U_fail I_U (3 : Int32) (I_U 1) (fun r_4 I_U_6 => ((r_4 = 0) → Q (0 : Int32) I_U_6) ∧ ((¬ r_4 = 0) → Q (1 : Int32) I_U_6))) ∧ ((¬ v3 = 0) → Q (1 : Int32) I_U)
def wp_R_readDelta_b38 (I_T : (Nat → Int32)) (A_T : (Nat → Nat → Int32)) (Q : Int32 → (Nat → Int32) → Prop) (I_U : (Nat → Int32)) : Prop := wp_R_readDelta_b40 I_T A_T Q I_U (0 : Int32)
def wp_R_readDelta (I_U : (Nat → Int32)) (I_T : (Nat → Int32)) (A_T : (Nat → Nat → Int32)) (x1 : Int32) (x2 : Int32) (Q : Int32 → (Nat → Int32) → Prop) : Prop := wp_U_readSevens I_U I_T A_T (fun r_1 I_U_3 => ((r_1 = 0) → Q (0 : Int32) I_U_3) ∧ ((¬ r_1 = 0) → (((I_U_3 2) < x1) → wp_R_readDelta_b38 I_T A_T Q I_U_3) ∧ ((¬ (I_U_3 2) < x1) → ((x2 < (I_U_3 2)) → wp_R_readDelta_b38 I_T A_T Q I_U_3) ∧ ((¬ x2 < (I_U_3 2)) → wp_R_readDelta_b40 I_T A_T Q I_U_3 (1 : Int32)))))
def wp_R_readBinaryAnds_L2 (I_T : (Nat → Int32)) (A_T : (Nat → Nat → Int32)) (I_C : (Nat → Int32)) (Q : Int32 → (Nat → Int32) → (Nat → Nat → Int32) → Prop) (X2 : (Nat → Int32) → (Nat → Nat → Int32) → Prop) : Nat → (Nat → Int32) → (Nat → Nat → Int32) → Int32 → Prop
  | 0 => fun _ _ _ => False
  | n2 + 1 => fun I_U A_C v2 => (((I_C 4) ≤ v2) → X2 I_U A_C) ∧ ((¬ (I_C 4) ≤ v2) → vp_in v2 300 ∧ (vp_in ((((I_C 1) + (I_C 2)) + v2) + (1 : Int32)) 401 ∧ (wp_R_readDelta I_U I_T A_T (1 : Int32) ((2 : Int32) * ((((I_C 1) + (I_C 2)) + v2) + (1 : Int32))) (fun r_3 I_U_5 => ((r_3 = 0) → Q (0 : Int32) I_U_5 (va_up (va_up A_C 4 (upd (A_C 4) (v2).toNatClampNeg ((((I_C 1) + (I_C 2)) + v2) + (1 : Int32)))) 8 (upd (A_C 8) (((((I_C 1) + (I_C 2)) + v2) + (1 : Int32))).toNatClampNeg (1 : Int32)))) ∧ ((¬ r_3 = 0) → wp_R_readDelta I_U_5 I_T A_T (0 : Int32) ((upd (A_C 5) (v2).toNatClampNeg (((2 : Int32) * ((((I_C 1) + (I_C 2)) + v2) + (1 : Int32))) - (I_U_5 2))) (v2).toNatClampNeg) (fun r_6 I_U_8 => ((r_6 = 0) → Q (0 : Int32) I_U_8 (va_up (va_up (va_up A_C 4 (upd (A_C 4) (v2).toNatClampNeg ((((I_C 1) + (I_C 2)) + v2) + (1 : Int32)))) 8 (upd (A_C 8) (((((I_C 1) + (I_C 2)) + v2) + (1 : Int32))).toNatClampNeg (1 : Int32))) 5 (upd (A_C 5) (v2).toNatClampNeg (((2 : Int32) * ((((I_C 1) + (I_C 2)) + v2) + (1 : Int32))) - (I_U_5 2))))) ∧ ((¬ r_6 = 0) → (wp_R_readBinaryAnds_L2 I_T A_T I_C Q X2 n2) I_U_8 (va_up (va_up (va_up (va_up A_C 4 (upd (A_C 4) (v2).toNatClampNeg ((((I_C 1) + (I_C 2)) + v2) + (1 : Int32)))) 8 (upd (A_C 8) (((((I_C 1) + (I_C 2)) + v2) + (1 : Int32))).toNatClampNeg (1 : Int32))) 5 (upd (A_C 5) (v2).toNatClampNeg (((2 : Int32) * ((((I_C 1) + (I_C 2)) + v2) + (1 : Int32))) - (I_U_5 2)))) 6 (upd (A_C 6) (v2).toNatClampNeg (((upd (A_C 5) (v2).toNatClampNeg (((2 : Int32) * ((((I_C 1) + (I_C 2)) + v2) + (1 : Int32))) - (I_U_5 2))) (v2).toNatClampNeg) - (I_U_8 2)))) (v2 + (1 : Int32)))))))))
def wp_R_readBinaryAnds (I_U : (Nat → Int32)) (I_T : (Nat → Int32)) (A_T : (Nat → Nat → Int32)) (I_C : (Nat → Int32)) (A_C : (Nat → Nat → Int32)) (Q : Int32 → (Nat → Int32) → (Nat → Nat → Int32) → Prop) : Prop := ∃ m2, wp_R_readBinaryAnds_L2 I_T A_T I_C Q (fun I_U_9 A_C_10 => Q (1 : Int32) I_U_9 A_C_10) m2 I_U A_C (0 : Int32)
def wp_R_readFile_b74 (I_T : (Nat → Int32)) (A_T : (Nat → Nat → Int32)) (Q : Int32 → (Nat → Int32) → (Nat → Nat → Int32) → (Nat → Int32) → (Nat → Int32) → (Nat → Nat → Int32) → (Nat → Int32) → (Nat → Nat → Int32) → Prop) (I_R : (Nat → Int32)) (A_R : (Nat → Nat → Int32)) (I_U : (Nat → Int32)) (I_S : (Nat → Int32)) (A_S : (Nat → Nat → Int32)) (I_C : (Nat → Int32)) (A_C : (Nat → Nat → Int32)) : Prop := wp_R_readSymbols I_U I_T A_T I_C A_C (fun r_33 I_U_35 A_C_36 => ((r_33 = 0) → Q (0 : Int32) I_R A_R I_U_35 I_S A_S I_C A_C_36) ∧ ((¬ r_33 = 0) → wp_R_checkUses I_R A_R I_U_35 A_C_36 (fun r_37 I_U_39 => ((r_37 = 0) → Q (0 : Int32) I_R A_R I_U_39 I_S A_S I_C A_C_36) ∧ ((¬ r_37 = 0) → wp_R_checkLoops I_U_39 I_S A_S I_C A_C_36 (fun r_40 I_U_42 I_S_43 A_S_44 A_C_45 => ((r_40 = 0) → Q (0 : Int32) I_R A_R I_U_42 I_S_43 A_S_44 I_C A_C_45) ∧ ((¬ r_40 = 0) → Q (1 : Int32) I_R A_R I_U_42 I_S_43 A_S_44 I_C A_C_45))))))
def wp_R_readFile (I_R : (Nat → Int32)) (A_R : (Nat → Nat → Int32)) (I_U : (Nat → Int32)) (I_T : (Nat → Int32)) (A_T : (Nat → Nat → Int32)) (I_S : (Nat → Int32)) (A_S : (Nat → Nat → Int32)) (I_C : (Nat → Int32)) (A_C : (Nat → Nat → Int32)) (Q : Int32 → (Nat → Int32) → (Nat → Nat → Int32) → (Nat → Int32) → (Nat → Int32) → (Nat → Nat → Int32) → (Nat → Int32) → (Nat → Nat → Int32) → Prop) : Prop := wp_U_restart I_U (fun I_U_2 => wp_C_forget I_C A_C (fun I_C_4 A_C_5 => wp_R_readHeader (va_up I_R 0 (0 : Int32)) I_U_2 I_T A_T I_C_4 (fun r_6 I_R_8 I_U_9 I_C_10 => ((r_6 = 0) → Q (0 : Int32) I_R_8 A_R I_U_9 I_S A_S I_C_10 A_C_5) ∧ ((¬ r_6 = 0) → wp_R_readInputs I_R_8 I_U_9 I_T A_T I_C_10 A_C_5 (fun r_11 I_U_13 A_C_14 => ((r_11 = 0) → Q (0 : Int32) I_R_8 A_R I_U_13 I_S A_S I_C_10 A_C_14) ∧ ((¬ r_11 = 0) → wp_R_readLatches I_R_8 A_R I_U_13 I_T A_T I_C_10 A_C_14 (fun r_15 I_R_17 A_R_18 I_U_19 A_C_20 => ((r_15 = 0) → Q (0 : Int32) I_R_17 A_R_18 I_U_19 I_S A_S I_C_10 A_C_20) ∧ ((¬ r_15 = 0) → wp_R_readOutputs I_R_17 A_R_18 I_U_19 I_T A_T I_C_10 A_C_20 (fun r_21 I_R_23 A_R_24 I_U_25 A_C_26 => ((r_21 = 0) → Q (0 : Int32) I_R_23 A_R_24 I_U_25 I_S A_S I_C_10 A_C_26) ∧ ((¬ r_21 = 0) → (((I_R_23 1) = 0) → wp_R_readTextAnds I_R_23 A_R_24 I_U_25 I_T A_T I_C_10 A_C_26 (fun r_27 I_R_29 A_R_30 I_U_31 A_C_32 => ((r_27 = 0) → Q (0 : Int32) I_R_29 A_R_30 I_U_31 I_S A_S I_C_10 A_C_32) ∧ ((¬ r_27 = 0) → wp_R_readFile_b74 I_T A_T Q I_R_29 A_R_30 I_U_31 I_S A_S I_C_10 A_C_32))) ∧ ((¬ (I_R_23 1) = 0) → wp_R_readBinaryAnds I_U_25 I_T A_T I_C_10 A_C_26 (fun r_46 I_U_48 A_C_49 => ((r_46 = 0) → Q (0 : Int32) I_R_23 A_R_24 I_U_48 I_S A_S I_C_10 A_C_49) ∧ ((¬ r_46 = 0) → wp_R_readFile_b74 I_T A_T Q I_R_23 A_R_24 I_U_48 I_S A_S I_C_10 A_C_49)))))))))))))
end
section
set_option maxHeartbeats 4000000 in
set_option maxRecDepth 100000 in
theorem c_R_faultKind (l : Launch) (D : va_G) (cA : Nat → ClassId) (sx : Nat → Nat) (a_R a_U a_T a_S : Nat → Nat) (I_R : (Nat → Int32)) (A_R : (Nat → Nat → Int32)) (I_U : (Nat → Int32)) (I_T : (Nat → Int32)) (A_T : (Nat → Nat → Int32)) (I_S : (Nat → Int32)) (A_S : (Nat → Nat → Int32)) (Q : Int32 → Prop) (hw : wp_R_faultKind I_U Q) : MetI l y_R_faultKind (Cond.code y_R_faultKind b_R_faultKind 1 (some .int) :: TB) ({ frames := 0, cells := 0, slots := 0, locals := 0 } : Room) D vwCl (tyl cA) (SPl sx) [.ref (a_R 0)] (kc_R cA a_R a_U a_S I_R A_R ++ kc_U cA a_U a_T I_U ++ kc_T cA a_T I_T A_T ++ kc_S cA a_S I_S A_S) (fun (r : Int32) (u : Unit) => Q r) (fun u : Unit => kc_R cA a_R a_U a_S I_R A_R ++ kc_U cA a_U a_T I_U ++ kc_T cA a_T I_T A_T ++ kc_S cA a_S I_S A_S) := by
  refine vv_entryI (cc := b_R_faultKind) (own := R_R) (L := [(0, .ref (a_R 0))]) (by decide) rfl rfl (Nat.le_of_ble_eq_true rfl) rfl (fun p e s m args below meth c A hC => ?_)
  unfold wp_R_faultKind at hw
  refine vv_aload_n hC d_R_faultKind_0 0 rfl rfl ?_
  refine vv_get hC (v := .ref (a_U 0)) hin_R 0 0 tb_104 d_R_faultKind_1 rfl rfl (by decide) rfl rfl ?_
  refine vv_get hC (v := .int (I_U 3)) hin_U 3 4 tb_88 d_R_faultKind_4 rfl rfl (by decide) rfl rfl ?_
  exact vv_iret hC d_R_faultKind_7 () hw rfl
set_option maxHeartbeats 4000000 in
set_option maxRecDepth 100000 in
theorem c_R_faultPlace (l : Launch) (D : va_G) (cA : Nat → ClassId) (sx : Nat → Nat) (a_R a_U a_T a_S : Nat → Nat) (I_R : (Nat → Int32)) (A_R : (Nat → Nat → Int32)) (I_U : (Nat → Int32)) (I_T : (Nat → Int32)) (A_T : (Nat → Nat → Int32)) (I_S : (Nat → Int32)) (A_S : (Nat → Nat → Int32)) (Q : Int32 → Prop) (hw : wp_R_faultPlace I_U Q) : MetI l y_R_faultPlace (Cond.code y_R_faultPlace b_R_faultPlace 1 (some .int) :: TB) ({ frames := 0, cells := 0, slots := 0, locals := 0 } : Room) D vwCl (tyl cA) (SPl sx) [.ref (a_R 0)] (kc_R cA a_R a_U a_S I_R A_R ++ kc_U cA a_U a_T I_U ++ kc_T cA a_T I_T A_T ++ kc_S cA a_S I_S A_S) (fun (r : Int32) (u : Unit) => Q r) (fun u : Unit => kc_R cA a_R a_U a_S I_R A_R ++ kc_U cA a_U a_T I_U ++ kc_T cA a_T I_T A_T ++ kc_S cA a_S I_S A_S) := by
  refine vv_entryI (cc := b_R_faultPlace) (own := R_R) (L := [(0, .ref (a_R 0))]) (by decide) rfl rfl (Nat.le_of_ble_eq_true rfl) rfl (fun p e s m args below meth c A hC => ?_)
  unfold wp_R_faultPlace at hw
  refine vv_aload_n hC d_R_faultPlace_0 0 rfl rfl ?_
  refine vv_get hC (v := .ref (a_U 0)) hin_R 0 0 tb_104 d_R_faultPlace_1 rfl rfl (by decide) rfl rfl ?_
  refine vv_get hC (v := .int (I_U 4)) hin_U 3 5 tb_90 d_R_faultPlace_4 rfl rfl (by decide) rfl rfl ?_
  exact vv_iret hC d_R_faultPlace_7 () hw rfl
set_option maxHeartbeats 4000000 in
set_option maxRecDepth 100000 in
theorem c_R_readCount (l : Launch) (D : va_G) (cA : Nat → ClassId) (sx : Nat → Nat) (a_R a_U a_T a_S : Nat → Nat) (I_R : (Nat → Int32)) (A_R : (Nat → Nat → Int32)) (I_U : (Nat → Int32)) (I_T : (Nat → Int32)) (A_T : (Nat → Nat → Int32)) (I_S : (Nat → Int32)) (A_S : (Nat → Nat → Int32)) (Q : Int32 → (Nat → Int32) → Prop) (hw : wp_R_readCount I_U I_T A_T Q) : MetI l y_R_readCount (Cond.code y_R_readCount b_R_readCount 1 (some .boolean) :: TB) ({ frames := 2, cells := 0, slots := 0, locals := 45 } : Room) D vwCl (tyl cA) (SPl sx) [.ref (a_R 0)] (kc_R cA a_R a_U a_S I_R A_R ++ kc_U cA a_U a_T I_U ++ kc_T cA a_T I_T A_T ++ kc_S cA a_S I_S A_S) (fun (r : Int32) (u : (Nat → Int32)) => Q r u) (fun u : (Nat → Int32) => kc_R cA a_R a_U a_S I_R A_R ++ kc_U cA a_U a_T u ++ kc_T cA a_T I_T A_T ++ kc_S cA a_S I_S A_S) := by
  refine vv_entryI (cc := b_R_readCount) (own := R_R) (L := [(0, .ref (a_R 0))]) (by decide) rfl rfl (Nat.le_of_ble_eq_true rfl) rfl (fun p e s m args below meth c A hC => ?_)
  unfold wp_R_readCount at hw
  refine vv_aload_n hC d_R_readCount_0 0 rfl rfl ?_
  refine vv_get hC (v := .ref (a_U 0)) hin_R 0 0 tb_104 d_R_readCount_1 rfl rfl (by decide) rfl rfl ?_
  refine vv_bipush hC d_R_readCount_4 (v := (32 : Int32)) (by decide) ?_
  refine vv_callVI (wr := kc_R cA a_R a_U a_S I_R A_R ++ kc_S cA a_S I_S A_S) hC (c_U_expect l D cA sx a_U a_T I_U I_T A_T (32 : Int32) _ hw) (cw_R_84 hC) d_R_readCount_6 [] [3, 4, 5, 6] [0, 1, 2, 7, 8, 9, 10, 11] [0, 1, 2, 8, 9, 10, 11, 3, 4, 5, 6, 7] (fun u_2 : (Nat → Int32) => kc_R cA a_R a_U a_S I_R A_R ++ kc_U cA a_U a_T u_2 ++ kc_T cA a_T I_T A_T ++ kc_S cA a_S I_S A_S) ⟨Nat.zero_le _, Nat.zero_le _⟩ rfl rfl (fun _ => rfl) rfl rfl rfl rfl rfl rfl rfl rfl (Nat.le_of_ble_eq_true rfl) (fun r_1 u_2 hw => ?_)
  refine vv_if_eq hC 26 d_R_readCount_9 (by decide) (fun cd => ?_) (fun cd => ?_)
  · have hw := hw.1 cd
    refine vv_iconst hC d_R_readCount_26 (v := (0 : Int32)) (by decide) ?_
    exact vv_zret hC d_R_readCount_27 rfl u_2 hw rfl
  · have hw := hw.2 cd
    refine vv_aload_n hC d_R_readCount_12 0 rfl rfl ?_
    refine vv_get hC (v := .ref (a_U 0)) hin_R 0 0 tb_104 d_R_readCount_13 rfl rfl (by decide) rfl rfl ?_
    refine vv_callVI (wr := kc_R cA a_R a_U a_S I_R A_R ++ kc_S cA a_S I_S A_S) hC (c_U_readNumber l D cA sx a_U a_T u_2 I_T A_T _ hw) (cw_R_125 hC) d_R_readCount_16 [] [3, 4, 5, 6] [0, 1, 2, 7, 8, 9, 10, 11] [0, 1, 2, 8, 9, 10, 11, 3, 4, 5, 6, 7] (fun u_5 : (Nat → Int32) => kc_R cA a_R a_U a_S I_R A_R ++ kc_U cA a_U a_T u_5 ++ kc_T cA a_T I_T A_T ++ kc_S cA a_S I_S A_S) ⟨Nat.zero_le _, Nat.zero_le _⟩ rfl rfl (fun _ => rfl) rfl rfl rfl rfl rfl rfl rfl rfl (Nat.le_of_ble_eq_true rfl) (fun r_4 u_5 hw => ?_)
    refine vv_if_eq hC 26 d_R_readCount_19 (by decide) (fun cd => ?_) (fun cd => ?_)
    · have hw := hw.1 cd
      refine vv_iconst hC d_R_readCount_26 (v := (0 : Int32)) (by decide) ?_
      exact vv_zret hC d_R_readCount_27 rfl u_5 hw rfl
    · have hw := hw.2 cd
      refine vv_iconst hC d_R_readCount_22 (v := (1 : Int32)) (by decide) ?_
      refine vv_goto hC 27 d_R_readCount_23 (by decide) ?_
      exact vv_zret hC d_R_readCount_27 rfl u_5 hw rfl
set_option maxHeartbeats 4000000 in
set_option maxRecDepth 100000 in
theorem l_R_readHeader_b59 {p : Program} {l : Launch} {e : Env} {s : State} {m : MethodId} {args : Array Value} {below : List Frame} {meth : Method} {c : Code} {D : va_G} {cA : Nat → ClassId} {sx : Nat → Nat} {A : Nat → Prop} (a_R a_U a_T a_S a_C : Nat → Nat) (A_R : (Nat → Nat → Int32)) (I_T : (Nat → Int32)) (A_T : (Nat → Nat → Int32)) (I_S : (Nat → Int32)) (A_S : (Nat → Nat → Int32)) (A_C : (Nat → Nat → Int32)) (Q : Int32 → (Nat → Int32) → (Nat → Int32) → (Nat → Int32) → Prop) (hC : CX p s m args meth c b_R_readHeader R_R TB 2 D vwCl (tyl cA) A (SPl sx) (some .boolean)) : ∀ (I_R : (Nat → Int32)) (I_U : (Nat → Int32)) (I_C : (Nat → Int32)), wp_R_readHeader_b59 I_T A_T Q I_R I_U I_C → VV p l e ({ frames := 3, cells := 0, slots := 0, locals := 65 } : Room) s m args below meth c 2 D vwCl A 0 0 (QI below args s D vwCl (tyl cA) A (fun (r : Int32) (u : (Nat → Int32) × (Nat → Int32) × (Nat → Int32)) => Q r u.1 u.2.1 u.2.2) (fun u : (Nat → Int32) × (Nat → Int32) × (Nat → Int32) => kc_R cA a_R a_U a_S u.1 A_R ++ kc_U cA a_U a_T u.2.1 ++ kc_T cA a_T I_T A_T ++ kc_S cA a_S I_S A_S ++ kc_C cA a_C u.2.2 A_C)) (kc_R cA a_R a_U a_S I_R A_R ++ kc_U cA a_U a_T I_U ++ kc_T cA a_T I_T A_T ++ kc_S cA a_S I_S A_S ++ kc_C cA a_C I_C A_C) 59 [(0, .ref (a_R 0)), (1, .ref (a_C 0))] [] := by
  intro I_R I_U I_C hw
  unfold wp_R_readHeader_b59 at hw
  refine vv_aload_n hC d_R_readHeader_59 0 rfl rfl ?_
  refine vv_get hC (v := .ref (a_U 0)) hin_R 0 0 tb_104 d_R_readHeader_60 rfl rfl (by decide) rfl rfl ?_
  refine vv_bipush hC d_R_readHeader_63 (v := (103 : Int32)) (by decide) ?_
  refine vv_callVI (wr := kc_R cA a_R a_U a_S I_R A_R ++ kc_S cA a_S I_S A_S ++ kc_C cA a_C I_C A_C) hC (c_U_expect l D cA sx a_U a_T I_U I_T A_T (103 : Int32) _ hw) (cw_R_84 hC) d_R_readHeader_65 [] [3, 4, 5, 6] [0, 1, 2, 7, 8, 9, 10, 11, 12, 13, 14, 15, 16, 17, 18, 19, 20, 21, 22, 23, 24] [0, 1, 2, 21, 22, 23, 24, 3, 4, 5, 6, 7, 8, 9, 10, 11, 12, 13, 14, 15, 16, 17, 18, 19, 20] (fun u_10 : (Nat → Int32) => kc_R cA a_R a_U a_S I_R A_R ++ kc_U cA a_U a_T u_10 ++ kc_T cA a_T I_T A_T ++ kc_S cA a_S I_S A_S ++ kc_C cA a_C I_C A_C) ⟨Nat.zero_le _, Nat.zero_le _⟩ rfl rfl (fun _ => rfl) rfl rfl rfl rfl rfl rfl rfl rfl (Nat.le_of_ble_eq_true rfl) (fun r_9 u_10 hw => ?_)
  refine vv_if_eq hC 78 d_R_readHeader_68 (by decide) (fun cd => ?_) (fun cd => ?_)
  · have hw := hw.1 cd
    refine vv_iconst hC d_R_readHeader_78 (v := (0 : Int32)) (by decide) ?_
    exact vv_zret hC d_R_readHeader_79 rfl (I_R, u_10, I_C) hw rfl
  · have hw := hw.2 cd
    refine vv_aload_n hC d_R_readHeader_71 0 rfl rfl ?_
    refine vv_callVI (wr := kc_C cA a_C I_C A_C) hC (c_R_readCount l D cA sx a_R a_U a_T a_S I_R A_R u_10 I_T A_T I_S A_S _ hw) (cw_R_92 hC) d_R_readHeader_72 [] [0, 1, 2, 3, 4, 5, 6, 7, 8, 9, 10, 11] [12, 13, 14, 15, 16, 17, 18, 19, 20, 21, 22, 23, 24] [13, 14, 15, 16, 17, 18, 19, 20, 21, 22, 23, 24, 0, 1, 2, 3, 4, 5, 6, 7, 8, 9, 10, 11, 12] (fun u_13 : (Nat → Int32) => kc_R cA a_R a_U a_S I_R A_R ++ kc_U cA a_U a_T u_13 ++ kc_T cA a_T I_T A_T ++ kc_S cA a_S I_S A_S ++ kc_C cA a_C I_C A_C) ⟨Nat.zero_le _, Nat.zero_le _⟩ rfl rfl (fun _ => rfl) rfl rfl rfl rfl rfl rfl rfl rfl (Nat.le_of_ble_eq_true rfl) (fun r_12 u_13 hw => ?_)
    refine vv_if_ne hC 80 d_R_readHeader_75 (by decide) (fun cd => ?_) (fun cd => ?_)
    · have hw := hw.2 cd
      refine vv_aload_n hC d_R_readHeader_80 1 rfl rfl ?_
      refine vv_aload_n hC d_R_readHeader_81 0 rfl rfl ?_
      refine vv_get hC (v := .ref (a_U 0)) hin_R 0 0 tb_104 d_R_readHeader_82 rfl rfl (by decide) rfl rfl ?_
      refine vv_get hC (v := .int (u_13 2)) hin_U 3 3 tb_86 d_R_readHeader_85 rfl rfl (by decide) rfl rfl ?_
      refine vv_put hC hin_C ty_C tyok_C nmok_C 12 0 tb_151 d_R_readHeader_88 rfl rfl (by decide) rfl rfl rfl rfl rfl (Nat.le_of_ble_eq_true rfl) (ws2 := kc_R cA a_R a_U a_S I_R A_R ++ kc_U cA a_U a_T u_13 ++ kc_T cA a_T I_T A_T ++ kc_S cA a_S I_S A_S ++ kc_C cA a_C (va_up I_C 0 (u_13 2)) A_C) (st_RUTSC_CI0 ..) ?_
      refine vv_aload_n hC d_R_readHeader_91 0 rfl rfl ?_
      refine vv_callVI (wr := kc_C cA a_C (va_up I_C 0 (u_13 2)) A_C) hC (c_R_readCount l D cA sx a_R a_U a_T a_S I_R A_R u_13 I_T A_T I_S A_S _ hw) (cw_R_92 hC) d_R_readHeader_92 [] [0, 1, 2, 3, 4, 5, 6, 7, 8, 9, 10, 11] [12, 13, 14, 15, 16, 17, 18, 19, 20, 21, 22, 23, 24] [13, 14, 15, 16, 17, 18, 19, 20, 21, 22, 23, 24, 0, 1, 2, 3, 4, 5, 6, 7, 8, 9, 10, 11, 12] (fun u_16 : (Nat → Int32) => kc_R cA a_R a_U a_S I_R A_R ++ kc_U cA a_U a_T u_16 ++ kc_T cA a_T I_T A_T ++ kc_S cA a_S I_S A_S ++ kc_C cA a_C (va_up I_C 0 (u_13 2)) A_C) ⟨Nat.zero_le _, Nat.zero_le _⟩ rfl rfl (fun _ => rfl) rfl rfl rfl rfl rfl rfl rfl rfl (Nat.le_of_ble_eq_true rfl) (fun r_15 u_16 hw => ?_)
      refine vv_if_ne hC 100 d_R_readHeader_95 (by decide) (fun cd => ?_) (fun cd => ?_)
      · have hw := hw.2 cd
        refine vv_aload_n hC d_R_readHeader_100 1 rfl rfl ?_
        refine vv_aload_n hC d_R_readHeader_101 0 rfl rfl ?_
        refine vv_get hC (v := .ref (a_U 0)) hin_R 0 0 tb_104 d_R_readHeader_102 rfl rfl (by decide) rfl rfl ?_
        refine vv_get hC (v := .int (u_16 2)) hin_U 3 3 tb_86 d_R_readHeader_105 rfl rfl (by decide) rfl rfl ?_
        refine vv_put hC hin_C ty_C tyok_C nmok_C 12 1 tb_155 d_R_readHeader_108 rfl rfl (by decide) rfl rfl rfl rfl rfl (Nat.le_of_ble_eq_true rfl) (ws2 := kc_R cA a_R a_U a_S I_R A_R ++ kc_U cA a_U a_T u_16 ++ kc_T cA a_T I_T A_T ++ kc_S cA a_S I_S A_S ++ kc_C cA a_C (va_up (va_up I_C 0 (u_13 2)) 1 (u_16 2)) A_C) (st_RUTSC_CI1 ..) ?_
        refine vv_aload_n hC d_R_readHeader_111 0 rfl rfl ?_
        refine vv_callVI (wr := kc_C cA a_C (va_up (va_up I_C 0 (u_13 2)) 1 (u_16 2)) A_C) hC (c_R_readCount l D cA sx a_R a_U a_T a_S I_R A_R u_16 I_T A_T I_S A_S _ hw) (cw_R_92 hC) d_R_readHeader_112 [] [0, 1, 2, 3, 4, 5, 6, 7, 8, 9, 10, 11] [12, 13, 14, 15, 16, 17, 18, 19, 20, 21, 22, 23, 24] [13, 14, 15, 16, 17, 18, 19, 20, 21, 22, 23, 24, 0, 1, 2, 3, 4, 5, 6, 7, 8, 9, 10, 11, 12] (fun u_19 : (Nat → Int32) => kc_R cA a_R a_U a_S I_R A_R ++ kc_U cA a_U a_T u_19 ++ kc_T cA a_T I_T A_T ++ kc_S cA a_S I_S A_S ++ kc_C cA a_C (va_up (va_up I_C 0 (u_13 2)) 1 (u_16 2)) A_C) ⟨Nat.zero_le _, Nat.zero_le _⟩ rfl rfl (fun _ => rfl) rfl rfl rfl rfl rfl rfl rfl rfl (Nat.le_of_ble_eq_true rfl) (fun r_18 u_19 hw => ?_)
        refine vv_if_ne hC 120 d_R_readHeader_115 (by decide) (fun cd => ?_) (fun cd => ?_)
        · have hw := hw.2 cd
          refine vv_aload_n hC d_R_readHeader_120 1 rfl rfl ?_
          refine vv_aload_n hC d_R_readHeader_121 0 rfl rfl ?_
          refine vv_get hC (v := .ref (a_U 0)) hin_R 0 0 tb_104 d_R_readHeader_122 rfl rfl (by decide) rfl rfl ?_
          refine vv_get hC (v := .int (u_19 2)) hin_U 3 3 tb_86 d_R_readHeader_125 rfl rfl (by decide) rfl rfl ?_
          refine vv_put hC hin_C ty_C tyok_C nmok_C 12 2 tb_159 d_R_readHeader_128 rfl rfl (by decide) rfl rfl rfl rfl rfl (Nat.le_of_ble_eq_true rfl) (ws2 := kc_R cA a_R a_U a_S I_R A_R ++ kc_U cA a_U a_T u_19 ++ kc_T cA a_T I_T A_T ++ kc_S cA a_S I_S A_S ++ kc_C cA a_C (va_up (va_up (va_up I_C 0 (u_13 2)) 1 (u_16 2)) 2 (u_19 2)) A_C) (st_RUTSC_CI2 ..) ?_
          refine vv_aload_n hC d_R_readHeader_131 0 rfl rfl ?_
          refine vv_callVI (wr := kc_C cA a_C (va_up (va_up (va_up I_C 0 (u_13 2)) 1 (u_16 2)) 2 (u_19 2)) A_C) hC (c_R_readCount l D cA sx a_R a_U a_T a_S I_R A_R u_19 I_T A_T I_S A_S _ hw) (cw_R_92 hC) d_R_readHeader_132 [] [0, 1, 2, 3, 4, 5, 6, 7, 8, 9, 10, 11] [12, 13, 14, 15, 16, 17, 18, 19, 20, 21, 22, 23, 24] [13, 14, 15, 16, 17, 18, 19, 20, 21, 22, 23, 24, 0, 1, 2, 3, 4, 5, 6, 7, 8, 9, 10, 11, 12] (fun u_22 : (Nat → Int32) => kc_R cA a_R a_U a_S I_R A_R ++ kc_U cA a_U a_T u_22 ++ kc_T cA a_T I_T A_T ++ kc_S cA a_S I_S A_S ++ kc_C cA a_C (va_up (va_up (va_up I_C 0 (u_13 2)) 1 (u_16 2)) 2 (u_19 2)) A_C) ⟨Nat.zero_le _, Nat.zero_le _⟩ rfl rfl (fun _ => rfl) rfl rfl rfl rfl rfl rfl rfl rfl (Nat.le_of_ble_eq_true rfl) (fun r_21 u_22 hw => ?_)
          refine vv_if_ne hC 140 d_R_readHeader_135 (by decide) (fun cd => ?_) (fun cd => ?_)
          · have hw := hw.2 cd
            refine vv_aload_n hC d_R_readHeader_140 1 rfl rfl ?_
            refine vv_aload_n hC d_R_readHeader_141 0 rfl rfl ?_
            refine vv_get hC (v := .ref (a_U 0)) hin_R 0 0 tb_104 d_R_readHeader_142 rfl rfl (by decide) rfl rfl ?_
            refine vv_get hC (v := .int (u_22 2)) hin_U 3 3 tb_86 d_R_readHeader_145 rfl rfl (by decide) rfl rfl ?_
            refine vv_put hC hin_C ty_C tyok_C nmok_C 12 3 tb_163 d_R_readHeader_148 rfl rfl (by decide) rfl rfl rfl rfl rfl (Nat.le_of_ble_eq_true rfl) (ws2 := kc_R cA a_R a_U a_S I_R A_R ++ kc_U cA a_U a_T u_22 ++ kc_T cA a_T I_T A_T ++ kc_S cA a_S I_S A_S ++ kc_C cA a_C (va_up (va_up (va_up (va_up I_C 0 (u_13 2)) 1 (u_16 2)) 2 (u_19 2)) 3 (u_22 2)) A_C) (st_RUTSC_CI3 ..) ?_
            refine vv_aload_n hC d_R_readHeader_151 0 rfl rfl ?_
            refine vv_callVI (wr := kc_C cA a_C (va_up (va_up (va_up (va_up I_C 0 (u_13 2)) 1 (u_16 2)) 2 (u_19 2)) 3 (u_22 2)) A_C) hC (c_R_readCount l D cA sx a_R a_U a_T a_S I_R A_R u_22 I_T A_T I_S A_S _ hw) (cw_R_92 hC) d_R_readHeader_152 [] [0, 1, 2, 3, 4, 5, 6, 7, 8, 9, 10, 11] [12, 13, 14, 15, 16, 17, 18, 19, 20, 21, 22, 23, 24] [13, 14, 15, 16, 17, 18, 19, 20, 21, 22, 23, 24, 0, 1, 2, 3, 4, 5, 6, 7, 8, 9, 10, 11, 12] (fun u_25 : (Nat → Int32) => kc_R cA a_R a_U a_S I_R A_R ++ kc_U cA a_U a_T u_25 ++ kc_T cA a_T I_T A_T ++ kc_S cA a_S I_S A_S ++ kc_C cA a_C (va_up (va_up (va_up (va_up I_C 0 (u_13 2)) 1 (u_16 2)) 2 (u_19 2)) 3 (u_22 2)) A_C) ⟨Nat.zero_le _, Nat.zero_le _⟩ rfl rfl (fun _ => rfl) rfl rfl rfl rfl rfl rfl rfl rfl (Nat.le_of_ble_eq_true rfl) (fun r_24 u_25 hw => ?_)
            refine vv_if_ne hC 160 d_R_readHeader_155 (by decide) (fun cd => ?_) (fun cd => ?_)
            · have hw := hw.2 cd
              refine vv_aload_n hC d_R_readHeader_160 1 rfl rfl ?_
              refine vv_aload_n hC d_R_readHeader_161 0 rfl rfl ?_
              refine vv_get hC (v := .ref (a_U 0)) hin_R 0 0 tb_104 d_R_readHeader_162 rfl rfl (by decide) rfl rfl ?_
              refine vv_get hC (v := .int (u_25 2)) hin_U 3 3 tb_86 d_R_readHeader_165 rfl rfl (by decide) rfl rfl ?_
              refine vv_put hC hin_C ty_C tyok_C nmok_C 12 4 tb_169 d_R_readHeader_168 rfl rfl (by decide) rfl rfl rfl rfl rfl (Nat.le_of_ble_eq_true rfl) (ws2 := kc_R cA a_R a_U a_S I_R A_R ++ kc_U cA a_U a_T u_25 ++ kc_T cA a_T I_T A_T ++ kc_S cA a_S I_S A_S ++ kc_C cA a_C (va_up (va_up (va_up (va_up (va_up I_C 0 (u_13 2)) 1 (u_16 2)) 2 (u_19 2)) 3 (u_22 2)) 4 (u_25 2)) A_C) (st_RUTSC_CI4 ..) ?_
              refine vv_aload_n hC d_R_readHeader_171 0 rfl rfl ?_
              refine vv_get hC (v := .ref (a_U 0)) hin_R 0 0 tb_104 d_R_readHeader_172 rfl rfl (by decide) rfl rfl ?_
              refine vv_bipush hC d_R_readHeader_175 (v := (10 : Int32)) (by decide) ?_
              refine vv_callVI (wr := kc_R cA a_R a_U a_S I_R A_R ++ kc_S cA a_S I_S A_S ++ kc_C cA a_C (va_up (va_up (va_up (va_up (va_up I_C 0 (u_13 2)) 1 (u_16 2)) 2 (u_19 2)) 3 (u_22 2)) 4 (u_25 2)) A_C) hC (c_U_expect l D cA sx a_U a_T u_25 I_T A_T (10 : Int32) _ hw) (cw_R_84 hC) d_R_readHeader_177 [] [3, 4, 5, 6] [0, 1, 2, 7, 8, 9, 10, 11, 12, 13, 14, 15, 16, 17, 18, 19, 20, 21, 22, 23, 24] [0, 1, 2, 21, 22, 23, 24, 3, 4, 5, 6, 7, 8, 9, 10, 11, 12, 13, 14, 15, 16, 17, 18, 19, 20] (fun u_28 : (Nat → Int32) => kc_R cA a_R a_U a_S I_R A_R ++ kc_U cA a_U a_T u_28 ++ kc_T cA a_T I_T A_T ++ kc_S cA a_S I_S A_S ++ kc_C cA a_C (va_up (va_up (va_up (va_up (va_up I_C 0 (u_13 2)) 1 (u_16 2)) 2 (u_19 2)) 3 (u_22 2)) 4 (u_25 2)) A_C) ⟨Nat.zero_le _, Nat.zero_le _⟩ rfl rfl (fun _ => rfl) rfl rfl rfl rfl rfl rfl rfl rfl (Nat.le_of_ble_eq_true rfl) (fun r_27 u_28 hw => ?_)
              refine vv_if_ne hC 185 d_R_readHeader_180 (by decide) (fun cd => ?_) (fun cd => ?_)
              · have hw := hw.2 cd
                refine vv_aload_n hC d_R_readHeader_185 1 rfl rfl ?_
                refine vv_aload_n hC d_R_readHeader_186 0 rfl rfl ?_
                refine vv_get hC (v := .int (I_R 1)) hin_R 0 5 tb_109 d_R_readHeader_187 rfl rfl (by decide) rfl rfl ?_
                refine vv_callVI (wr := kc_R cA a_R a_U a_S I_R A_R ++ kc_U cA a_U a_T u_28 ++ kc_T cA a_T I_T A_T ++ kc_S cA a_S I_S A_S) hC (c_C_isWithinBounds l D cA sx a_C (va_up (va_up (va_up (va_up (va_up I_C 0 (u_13 2)) 1 (u_16 2)) 2 (u_19 2)) 3 (u_22 2)) 4 (u_25 2)) A_C (I_R 1) _ hw) (cw_R_114 hC) d_R_readHeader_190 [] [12, 13, 14, 15, 16, 17, 18, 19, 20, 21, 22, 23, 24] [0, 1, 2, 3, 4, 5, 6, 7, 8, 9, 10, 11] [0, 1, 2, 3, 4, 5, 6, 7, 8, 9, 10, 11, 12, 13, 14, 15, 16, 17, 18, 19, 20, 21, 22, 23, 24] (fun u_31 : Unit => kc_R cA a_R a_U a_S I_R A_R ++ kc_U cA a_U a_T u_28 ++ kc_T cA a_T I_T A_T ++ kc_S cA a_S I_S A_S ++ kc_C cA a_C (va_up (va_up (va_up (va_up (va_up I_C 0 (u_13 2)) 1 (u_16 2)) 2 (u_19 2)) 3 (u_22 2)) 4 (u_25 2)) A_C) ⟨Nat.zero_le _, Nat.zero_le _⟩ rfl rfl (fun _ => rfl) rfl rfl rfl rfl rfl rfl rfl rfl (Nat.le_of_ble_eq_true rfl) (fun r_30 u_31 hw => ?_)
                refine vv_if_ne hC 214 d_R_readHeader_193 (by decide) (fun cd => ?_) (fun cd => ?_)
                · have hw := hw.2 cd
                  refine vv_iconst hC d_R_readHeader_214 (v := (1 : Int32)) (by decide) ?_
                  refine vv_goto hC 219 d_R_readHeader_215 (by decide) ?_
                  exact vv_zret hC d_R_readHeader_219 rfl (I_R, u_28, (va_up (va_up (va_up (va_up (va_up I_C 0 (u_13 2)) 1 (u_16 2)) 2 (u_19 2)) 3 (u_22 2)) 4 (u_25 2))) hw rfl
                · have hw := hw.1 cd
                  refine vv_aload_n hC d_R_readHeader_196 0 rfl rfl ?_
                  refine vv_get hC (v := .ref (a_U 0)) hin_R 0 0 tb_104 d_R_readHeader_197 rfl rfl (by decide) rfl rfl ?_
                  refine vv_iconst hC d_R_readHeader_200 (v := (2 : Int32)) (by decide) ?_
                  refine vv_aload_n hC d_R_readHeader_201 0 rfl rfl ?_
                  refine vv_get hC (v := .ref (a_U 0)) hin_R 0 0 tb_104 d_R_readHeader_202 rfl rfl (by decide) rfl rfl ?_
                  refine vv_get hC (v := .int (u_28 0)) hin_U 3 1 tb_82 d_R_readHeader_205 rfl rfl (by decide) rfl rfl ?_
                  refine vv_callVI (wr := kc_R cA a_R a_U a_S I_R A_R ++ kc_S cA a_S I_S A_S ++ kc_C cA a_C (va_up (va_up (va_up (va_up (va_up I_C 0 (u_13 2)) 1 (u_16 2)) 2 (u_19 2)) 3 (u_22 2)) 4 (u_25 2)) A_C) hC (c_U_fail l D cA sx a_U a_T u_28 I_T A_T (2 : Int32) (u_28 0) _ hw) (cw_R_121 hC) d_R_readHeader_208 [] [3, 4, 5, 6] [0, 1, 2, 7, 8, 9, 10, 11, 12, 13, 14, 15, 16, 17, 18, 19, 20, 21, 22, 23, 24] [0, 1, 2, 21, 22, 23, 24, 3, 4, 5, 6, 7, 8, 9, 10, 11, 12, 13, 14, 15, 16, 17, 18, 19, 20] (fun u_33 : (Nat → Int32) => kc_R cA a_R a_U a_S I_R A_R ++ kc_U cA a_U a_T u_33 ++ kc_T cA a_T I_T A_T ++ kc_S cA a_S I_S A_S ++ kc_C cA a_C (va_up (va_up (va_up (va_up (va_up I_C 0 (u_13 2)) 1 (u_16 2)) 2 (u_19 2)) 3 (u_22 2)) 4 (u_25 2)) A_C) ⟨Nat.zero_le _, Nat.zero_le _⟩ rfl rfl (fun _ => rfl) rfl rfl rfl rfl rfl rfl rfl rfl (Nat.le_of_ble_eq_true rfl) (fun r_32 u_33 hw => ?_)
                  refine vv_if_eq hC 218 d_R_readHeader_211 (by decide) (fun cd => ?_) (fun cd => ?_)
                  · have hw := hw.1 cd
                    refine vv_iconst hC d_R_readHeader_218 (v := (0 : Int32)) (by decide) ?_
                    exact vv_zret hC d_R_readHeader_219 rfl (I_R, u_33, (va_up (va_up (va_up (va_up (va_up I_C 0 (u_13 2)) 1 (u_16 2)) 2 (u_19 2)) 3 (u_22 2)) 4 (u_25 2))) hw rfl
                  · have hw := hw.2 cd
                    refine vv_iconst hC d_R_readHeader_214 (v := (1 : Int32)) (by decide) ?_
                    refine vv_goto hC 219 d_R_readHeader_215 (by decide) ?_
                    exact vv_zret hC d_R_readHeader_219 rfl (I_R, u_33, (va_up (va_up (va_up (va_up (va_up I_C 0 (u_13 2)) 1 (u_16 2)) 2 (u_19 2)) 3 (u_22 2)) 4 (u_25 2))) hw rfl
              · have hw := hw.1 cd
                refine vv_iconst hC d_R_readHeader_183 (v := (0 : Int32)) (by decide) ?_
                exact vv_zret hC d_R_readHeader_184 rfl (I_R, u_28, (va_up (va_up (va_up (va_up (va_up I_C 0 (u_13 2)) 1 (u_16 2)) 2 (u_19 2)) 3 (u_22 2)) 4 (u_25 2))) hw rfl
            · have hw := hw.1 cd
              refine vv_iconst hC d_R_readHeader_158 (v := (0 : Int32)) (by decide) ?_
              exact vv_zret hC d_R_readHeader_159 rfl (I_R, u_25, (va_up (va_up (va_up (va_up I_C 0 (u_13 2)) 1 (u_16 2)) 2 (u_19 2)) 3 (u_22 2))) hw rfl
          · have hw := hw.1 cd
            refine vv_iconst hC d_R_readHeader_138 (v := (0 : Int32)) (by decide) ?_
            exact vv_zret hC d_R_readHeader_139 rfl (I_R, u_22, (va_up (va_up (va_up I_C 0 (u_13 2)) 1 (u_16 2)) 2 (u_19 2))) hw rfl
        · have hw := hw.1 cd
          refine vv_iconst hC d_R_readHeader_118 (v := (0 : Int32)) (by decide) ?_
          exact vv_zret hC d_R_readHeader_119 rfl (I_R, u_19, (va_up (va_up I_C 0 (u_13 2)) 1 (u_16 2))) hw rfl
      · have hw := hw.1 cd
        refine vv_iconst hC d_R_readHeader_98 (v := (0 : Int32)) (by decide) ?_
        exact vv_zret hC d_R_readHeader_99 rfl (I_R, u_16, (va_up I_C 0 (u_13 2))) hw rfl
    · have hw := hw.1 cd
      refine vv_iconst hC d_R_readHeader_78 (v := (0 : Int32)) (by decide) ?_
      exact vv_zret hC d_R_readHeader_79 rfl (I_R, u_13, I_C) hw rfl
set_option maxHeartbeats 4000000 in
set_option maxRecDepth 100000 in
theorem l_R_readHeader_b35 {p : Program} {l : Launch} {e : Env} {s : State} {m : MethodId} {args : Array Value} {below : List Frame} {meth : Method} {c : Code} {D : va_G} {cA : Nat → ClassId} {sx : Nat → Nat} {A : Nat → Prop} (a_R a_U a_T a_S a_C : Nat → Nat) (A_R : (Nat → Nat → Int32)) (I_T : (Nat → Int32)) (A_T : (Nat → Nat → Int32)) (I_S : (Nat → Int32)) (A_S : (Nat → Nat → Int32)) (A_C : (Nat → Nat → Int32)) (Q : Int32 → (Nat → Int32) → (Nat → Int32) → (Nat → Int32) → Prop) (hC : CX p s m args meth c b_R_readHeader R_R TB 2 D vwCl (tyl cA) A (SPl sx) (some .boolean)) : ∀ (I_R : (Nat → Int32)) (I_U : (Nat → Int32)) (I_C : (Nat → Int32)), wp_R_readHeader_b35 I_T A_T Q I_R I_U I_C → VV p l e ({ frames := 3, cells := 0, slots := 0, locals := 65 } : Room) s m args below meth c 2 D vwCl A 0 0 (QI below args s D vwCl (tyl cA) A (fun (r : Int32) (u : (Nat → Int32) × (Nat → Int32) × (Nat → Int32)) => Q r u.1 u.2.1 u.2.2) (fun u : (Nat → Int32) × (Nat → Int32) × (Nat → Int32) => kc_R cA a_R a_U a_S u.1 A_R ++ kc_U cA a_U a_T u.2.1 ++ kc_T cA a_T I_T A_T ++ kc_S cA a_S I_S A_S ++ kc_C cA a_C u.2.2 A_C)) (kc_R cA a_R a_U a_S I_R A_R ++ kc_U cA a_U a_T I_U ++ kc_T cA a_T I_T A_T ++ kc_S cA a_S I_S A_S ++ kc_C cA a_C I_C A_C) 35 [(0, .ref (a_R 0)), (1, .ref (a_C 0))] [] := by
  intro I_R I_U I_C hw
  unfold wp_R_readHeader_b35 at hw
  refine vv_aload_n hC d_R_readHeader_35 0 rfl rfl ?_
  refine vv_get hC (v := .ref (a_U 0)) hin_R 0 0 tb_104 d_R_readHeader_36 rfl rfl (by decide) rfl rfl ?_
  refine vv_aload_n hC d_R_readHeader_39 0 rfl rfl ?_
  refine vv_get hC (v := .int (I_R 1)) hin_R 0 5 tb_109 d_R_readHeader_40 rfl rfl (by decide) rfl rfl ?_
  refine vv_if_eq hC 51 d_R_readHeader_43 (by decide) (fun cd => ?_) (fun cd => ?_)
  · have hw := hw.1 cd
    refine vv_bipush hC d_R_readHeader_51 (v := (97 : Int32)) (by decide) ?_
    refine vv_callVI (wr := kc_R cA a_R a_U a_S I_R A_R ++ kc_S cA a_S I_S A_S ++ kc_C cA a_C I_C A_C) hC (c_U_expect l D cA sx a_U a_T I_U I_T A_T (97 : Int32) _ hw) (cw_R_84 hC) d_R_readHeader_53 [] [3, 4, 5, 6] [0, 1, 2, 7, 8, 9, 10, 11, 12, 13, 14, 15, 16, 17, 18, 19, 20, 21, 22, 23, 24] [0, 1, 2, 21, 22, 23, 24, 3, 4, 5, 6, 7, 8, 9, 10, 11, 12, 13, 14, 15, 16, 17, 18, 19, 20] (fun u_7 : (Nat → Int32) => kc_R cA a_R a_U a_S I_R A_R ++ kc_U cA a_U a_T u_7 ++ kc_T cA a_T I_T A_T ++ kc_S cA a_S I_S A_S ++ kc_C cA a_C I_C A_C) ⟨Nat.zero_le _, Nat.zero_le _⟩ rfl rfl (fun _ => rfl) rfl rfl rfl rfl rfl rfl rfl rfl (Nat.le_of_ble_eq_true rfl) (fun r_6 u_7 hw => ?_)
    refine vv_if_eq hC 78 d_R_readHeader_56 (by decide) (fun cd => ?_) (fun cd => ?_)
    · have hw := hw.1 cd
      refine vv_iconst hC d_R_readHeader_78 (v := (0 : Int32)) (by decide) ?_
      exact vv_zret hC d_R_readHeader_79 rfl (I_R, u_7, I_C) hw rfl
    · have hw := hw.2 cd
      exact vv_sub [0, 1] (by rfl) (l_R_readHeader_b59 a_R a_U a_T a_S a_C A_R I_T A_T I_S A_S A_C Q hC I_R u_7 I_C hw)
  · have hw := hw.2 cd
    refine vv_bipush hC d_R_readHeader_46 (v := (105 : Int32)) (by decide) ?_
    refine vv_goto hC 53 d_R_readHeader_48 (by decide) ?_
    refine vv_callVI (wr := kc_R cA a_R a_U a_S I_R A_R ++ kc_S cA a_S I_S A_S ++ kc_C cA a_C I_C A_C) hC (c_U_expect l D cA sx a_U a_T I_U I_T A_T (105 : Int32) _ hw) (cw_R_84 hC) d_R_readHeader_53 [] [3, 4, 5, 6] [0, 1, 2, 7, 8, 9, 10, 11, 12, 13, 14, 15, 16, 17, 18, 19, 20, 21, 22, 23, 24] [0, 1, 2, 21, 22, 23, 24, 3, 4, 5, 6, 7, 8, 9, 10, 11, 12, 13, 14, 15, 16, 17, 18, 19, 20] (fun u_36 : (Nat → Int32) => kc_R cA a_R a_U a_S I_R A_R ++ kc_U cA a_U a_T u_36 ++ kc_T cA a_T I_T A_T ++ kc_S cA a_S I_S A_S ++ kc_C cA a_C I_C A_C) ⟨Nat.zero_le _, Nat.zero_le _⟩ rfl rfl (fun _ => rfl) rfl rfl rfl rfl rfl rfl rfl rfl (Nat.le_of_ble_eq_true rfl) (fun r_35 u_36 hw => ?_)
    refine vv_if_eq hC 78 d_R_readHeader_56 (by decide) (fun cd => ?_) (fun cd => ?_)
    · have hw := hw.1 cd
      refine vv_iconst hC d_R_readHeader_78 (v := (0 : Int32)) (by decide) ?_
      exact vv_zret hC d_R_readHeader_79 rfl (I_R, u_36, I_C) hw rfl
    · have hw := hw.2 cd
      exact vv_sub [0, 1] (by rfl) (l_R_readHeader_b59 a_R a_U a_T a_S a_C A_R I_T A_T I_S A_S A_C Q hC I_R u_36 I_C hw)
set_option maxHeartbeats 4000000 in
set_option maxRecDepth 100000 in
theorem c_R_readHeader (l : Launch) (D : va_G) (cA : Nat → ClassId) (sx : Nat → Nat) (a_R a_U a_T a_S a_C : Nat → Nat) (I_R : (Nat → Int32)) (A_R : (Nat → Nat → Int32)) (I_U : (Nat → Int32)) (I_T : (Nat → Int32)) (A_T : (Nat → Nat → Int32)) (I_S : (Nat → Int32)) (A_S : (Nat → Nat → Int32)) (I_C : (Nat → Int32)) (A_C : (Nat → Nat → Int32)) (Q : Int32 → (Nat → Int32) → (Nat → Int32) → (Nat → Int32) → Prop) (hw : wp_R_readHeader I_R I_U I_T A_T I_C Q) : MetI l y_R_readHeader (Cond.code y_R_readHeader b_R_readHeader 2 (some .boolean) :: TB) ({ frames := 3, cells := 0, slots := 0, locals := 65 } : Room) D vwCl (tyl cA) (SPl sx) [.ref (a_R 0), .ref (a_C 0)] (kc_R cA a_R a_U a_S I_R A_R ++ kc_U cA a_U a_T I_U ++ kc_T cA a_T I_T A_T ++ kc_S cA a_S I_S A_S ++ kc_C cA a_C I_C A_C) (fun (r : Int32) (u : (Nat → Int32) × (Nat → Int32) × (Nat → Int32)) => Q r u.1 u.2.1 u.2.2) (fun u : (Nat → Int32) × (Nat → Int32) × (Nat → Int32) => kc_R cA a_R a_U a_S u.1 A_R ++ kc_U cA a_U a_T u.2.1 ++ kc_T cA a_T I_T A_T ++ kc_S cA a_S I_S A_S ++ kc_C cA a_C u.2.2 A_C) := by
  refine vv_entryI (cc := b_R_readHeader) (own := R_R) (L := [(0, .ref (a_R 0)), (1, .ref (a_C 0))]) (by decide) rfl rfl (Nat.le_of_ble_eq_true rfl) rfl (fun p e s m args below meth c A hC => ?_)
  unfold wp_R_readHeader at hw
  refine vv_aload_n hC d_R_readHeader_0 0 rfl rfl ?_
  refine vv_get hC (v := .ref (a_U 0)) hin_R 0 0 tb_104 d_R_readHeader_1 rfl rfl (by decide) rfl rfl ?_
  refine vv_bipush hC d_R_readHeader_4 (v := (97 : Int32)) (by decide) ?_
  refine vv_callVI (wr := kc_R cA a_R a_U a_S I_R A_R ++ kc_S cA a_S I_S A_S ++ kc_C cA a_C I_C A_C) hC (c_U_expect l D cA sx a_U a_T I_U I_T A_T (97 : Int32) _ hw) (cw_R_84 hC) d_R_readHeader_6 [] [3, 4, 5, 6] [0, 1, 2, 7, 8, 9, 10, 11, 12, 13, 14, 15, 16, 17, 18, 19, 20, 21, 22, 23, 24] [0, 1, 2, 21, 22, 23, 24, 3, 4, 5, 6, 7, 8, 9, 10, 11, 12, 13, 14, 15, 16, 17, 18, 19, 20] (fun u_2 : (Nat → Int32) => kc_R cA a_R a_U a_S I_R A_R ++ kc_U cA a_U a_T u_2 ++ kc_T cA a_T I_T A_T ++ kc_S cA a_S I_S A_S ++ kc_C cA a_C I_C A_C) ⟨Nat.zero_le _, Nat.zero_le _⟩ rfl rfl (fun _ => rfl) rfl rfl rfl rfl rfl rfl rfl rfl (Nat.le_of_ble_eq_true rfl) (fun r_1 u_2 hw => ?_)
  refine vv_if_ne hC 14 d_R_readHeader_9 (by decide) (fun cd => ?_) (fun cd => ?_)
  · have hw := hw.2 cd
    refine vv_aload_n hC d_R_readHeader_14 0 rfl rfl ?_
    refine vv_aload_n hC d_R_readHeader_15 0 rfl rfl ?_
    refine vv_get hC (v := .ref (a_U 0)) hin_R 0 0 tb_104 d_R_readHeader_16 rfl rfl (by decide) rfl rfl ?_
    refine vv_callVI (wr := kc_R cA a_R a_U a_S I_R A_R ++ kc_S cA a_S I_S A_S ++ kc_C cA a_C I_C A_C) hC (c_U_peek l D cA sx a_U a_T u_2 I_T A_T _ hw) (cw_R_88 hC) d_R_readHeader_19 [.ref (a_R 0)] [3, 4, 5, 6] [0, 1, 2, 7, 8, 9, 10, 11, 12, 13, 14, 15, 16, 17, 18, 19, 20, 21, 22, 23, 24] [0, 1, 2, 21, 22, 23, 24, 3, 4, 5, 6, 7, 8, 9, 10, 11, 12, 13, 14, 15, 16, 17, 18, 19, 20] (fun u_5 : Unit => kc_R cA a_R a_U a_S I_R A_R ++ kc_U cA a_U a_T u_2 ++ kc_T cA a_T I_T A_T ++ kc_S cA a_S I_S A_S ++ kc_C cA a_C I_C A_C) ⟨Nat.zero_le _, Nat.zero_le _⟩ rfl rfl (fun _ => rfl) rfl rfl rfl rfl rfl rfl rfl rfl (Nat.le_of_ble_eq_true rfl) (fun r_4 u_5 hw => ?_)
    refine vv_bipush hC d_R_readHeader_22 (v := (105 : Int32)) (by decide) ?_
    refine vv_icmp_ne hC 31 d_R_readHeader_24 (by decide) (fun cd => ?_) (fun cd => ?_)
    · have hw := hw.2 cd
      refine vv_iconst hC d_R_readHeader_31 (v := (0 : Int32)) (by decide) ?_
      refine vv_put hC hin_R ty_R tyok_R nmok_R 0 5 tb_109 d_R_readHeader_32 rfl rfl (by decide) rfl rfl rfl rfl rfl (Nat.le_of_ble_eq_true rfl) (ws2 := kc_R cA a_R a_U a_S (va_up I_R 1 (0 : Int32)) A_R ++ kc_U cA a_U a_T u_2 ++ kc_T cA a_T I_T A_T ++ kc_S cA a_S I_S A_S ++ kc_C cA a_C I_C A_C) (st_RUTSC_RI1 ..) ?_
      exact vv_sub [0, 1] (by rfl) (l_R_readHeader_b35 a_R a_U a_T a_S a_C A_R I_T A_T I_S A_S A_C Q hC (va_up I_R 1 (0 : Int32)) u_2 I_C hw)
    · have hw := hw.1 cd
      refine vv_iconst hC d_R_readHeader_27 (v := (1 : Int32)) (by decide) ?_
      refine vv_goto hC 32 d_R_readHeader_28 (by decide) ?_
      refine vv_put hC hin_R ty_R tyok_R nmok_R 0 5 tb_109 d_R_readHeader_32 rfl rfl (by decide) rfl rfl rfl rfl rfl (Nat.le_of_ble_eq_true rfl) (ws2 := kc_R cA a_R a_U a_S (va_up I_R 1 (1 : Int32)) A_R ++ kc_U cA a_U a_T u_2 ++ kc_T cA a_T I_T A_T ++ kc_S cA a_S I_S A_S ++ kc_C cA a_C I_C A_C) (st_RUTSC_RI1 ..) ?_
      exact vv_sub [0, 1] (by rfl) (l_R_readHeader_b35 a_R a_U a_T a_S a_C A_R I_T A_T I_S A_S A_C Q hC (va_up I_R 1 (1 : Int32)) u_2 I_C hw)
  · have hw := hw.1 cd
    refine vv_iconst hC d_R_readHeader_12 (v := (0 : Int32)) (by decide) ?_
    exact vv_zret hC d_R_readHeader_13 rfl (I_R, u_2, I_C) hw rfl
set_option maxHeartbeats 4000000 in
set_option maxRecDepth 100000 in
theorem c_R_readLiteral (l : Launch) (D : va_G) (cA : Nat → ClassId) (sx : Nat → Nat) (a_R a_U a_T a_S a_C : Nat → Nat) (I_R : (Nat → Int32)) (A_R : (Nat → Nat → Int32)) (I_U : (Nat → Int32)) (I_T : (Nat → Int32)) (A_T : (Nat → Nat → Int32)) (I_S : (Nat → Int32)) (A_S : (Nat → Nat → Int32)) (I_C : (Nat → Int32)) (A_C : (Nat → Nat → Int32)) (Q : Int32 → (Nat → Int32) → Prop) (hw : wp_R_readLiteral I_U I_T A_T I_C Q) : MetI l y_R_readLiteral (Cond.code y_R_readLiteral b_R_readLiteral 2 (some .boolean) :: TB) ({ frames := 2, cells := 0, slots := 0, locals := 45 } : Room) D vwCl (tyl cA) (SPl sx) [.ref (a_R 0), .ref (a_C 0)] (kc_R cA a_R a_U a_S I_R A_R ++ kc_U cA a_U a_T I_U ++ kc_T cA a_T I_T A_T ++ kc_S cA a_S I_S A_S ++ kc_C cA a_C I_C A_C) (fun (r : Int32) (u : (Nat → Int32)) => Q r u) (fun u : (Nat → Int32) => kc_R cA a_R a_U a_S I_R A_R ++ kc_U cA a_U a_T u ++ kc_T cA a_T I_T A_T ++ kc_S cA a_S I_S A_S ++ kc_C cA a_C I_C A_C) := by
  refine vv_entryI (cc := b_R_readLiteral) (own := R_R) (L := [(0, .ref (a_R 0)), (1, .ref (a_C 0))]) (by decide) rfl rfl (Nat.le_of_ble_eq_true rfl) rfl (fun p e s m args below meth c A hC => ?_)
  unfold wp_R_readLiteral at hw
  refine vv_aload_n hC d_R_readLiteral_0 0 rfl rfl ?_
  refine vv_get hC (v := .ref (a_U 0)) hin_R 0 0 tb_104 d_R_readLiteral_1 rfl rfl (by decide) rfl rfl ?_
  refine vv_callVI (wr := kc_R cA a_R a_U a_S I_R A_R ++ kc_S cA a_S I_S A_S ++ kc_C cA a_C I_C A_C) hC (c_U_readNumber l D cA sx a_U a_T I_U I_T A_T _ hw) (cw_R_125 hC) d_R_readLiteral_4 [] [3, 4, 5, 6] [0, 1, 2, 7, 8, 9, 10, 11, 12, 13, 14, 15, 16, 17, 18, 19, 20, 21, 22, 23, 24] [0, 1, 2, 21, 22, 23, 24, 3, 4, 5, 6, 7, 8, 9, 10, 11, 12, 13, 14, 15, 16, 17, 18, 19, 20] (fun u_2 : (Nat → Int32) => kc_R cA a_R a_U a_S I_R A_R ++ kc_U cA a_U a_T u_2 ++ kc_T cA a_T I_T A_T ++ kc_S cA a_S I_S A_S ++ kc_C cA a_C I_C A_C) ⟨Nat.zero_le _, Nat.zero_le _⟩ rfl rfl (fun _ => rfl) rfl rfl rfl rfl rfl rfl rfl rfl (Nat.le_of_ble_eq_true rfl) (fun r_1 u_2 hw => ?_)
  refine vv_if_ne hC 12 d_R_readLiteral_7 (by decide) (fun cd => ?_) (fun cd => ?_)
  · have hw := hw.2 cd
    refine vv_aload_n hC d_R_readLiteral_12 0 rfl rfl ?_
    refine vv_get hC (v := .ref (a_U 0)) hin_R 0 0 tb_104 d_R_readLiteral_13 rfl rfl (by decide) rfl rfl ?_
    refine vv_get hC (v := .int (u_2 2)) hin_U 3 3 tb_86 d_R_readLiteral_16 rfl rfl (by decide) rfl rfl ?_
    refine vv_aload_n hC d_R_readLiteral_19 1 rfl rfl ?_
    refine vv_callVI (wr := kc_R cA a_R a_U a_S I_R A_R ++ kc_U cA a_U a_T u_2 ++ kc_T cA a_T I_T A_T ++ kc_S cA a_S I_S A_S) hC (c_C_highestLiteral l D cA sx a_C I_C A_C _ hw) (cw_R_168 hC) d_R_readLiteral_20 [.int (u_2 2)] [12, 13, 14, 15, 16, 17, 18, 19, 20, 21, 22, 23, 24] [0, 1, 2, 3, 4, 5, 6, 7, 8, 9, 10, 11] [0, 1, 2, 3, 4, 5, 6, 7, 8, 9, 10, 11, 12, 13, 14, 15, 16, 17, 18, 19, 20, 21, 22, 23, 24] (fun u_5 : Unit => kc_R cA a_R a_U a_S I_R A_R ++ kc_U cA a_U a_T u_2 ++ kc_T cA a_T I_T A_T ++ kc_S cA a_S I_S A_S ++ kc_C cA a_C I_C A_C) ⟨Nat.zero_le _, Nat.zero_le _⟩ rfl rfl (fun _ => rfl) rfl rfl rfl rfl rfl rfl rfl rfl (Nat.le_of_ble_eq_true rfl) (fun r_4 u_5 hw => ?_)
    refine vv_icmp_le hC 44 d_R_readLiteral_23 (by decide) (fun cd => ?_) (fun cd => ?_)
    · have hw := hw.1 cd
      refine vv_iconst hC d_R_readLiteral_44 (v := (1 : Int32)) (by decide) ?_
      refine vv_goto hC 49 d_R_readLiteral_45 (by decide) ?_
      exact vv_zret hC d_R_readLiteral_49 rfl u_2 hw rfl
    · have hw := hw.2 cd
      refine vv_aload_n hC d_R_readLiteral_26 0 rfl rfl ?_
      refine vv_get hC (v := .ref (a_U 0)) hin_R 0 0 tb_104 d_R_readLiteral_27 rfl rfl (by decide) rfl rfl ?_
      refine vv_iconst hC d_R_readLiteral_30 (v := (3 : Int32)) (by decide) ?_
      refine vv_aload_n hC d_R_readLiteral_31 0 rfl rfl ?_
      refine vv_get hC (v := .ref (a_U 0)) hin_R 0 0 tb_104 d_R_readLiteral_32 rfl rfl (by decide) rfl rfl ?_
      refine vv_get hC (v := .int (u_2 1)) hin_U 3 2 tb_84 d_R_readLiteral_35 rfl rfl (by decide) rfl rfl ?_
      refine vv_callVI (wr := kc_R cA a_R a_U a_S I_R A_R ++ kc_S cA a_S I_S A_S ++ kc_C cA a_C I_C A_C) hC (c_U_fail l D cA sx a_U a_T u_2 I_T A_T (3 : Int32) (u_2 1) _ hw) (cw_R_121 hC) d_R_readLiteral_38 [] [3, 4, 5, 6] [0, 1, 2, 7, 8, 9, 10, 11, 12, 13, 14, 15, 16, 17, 18, 19, 20, 21, 22, 23, 24] [0, 1, 2, 21, 22, 23, 24, 3, 4, 5, 6, 7, 8, 9, 10, 11, 12, 13, 14, 15, 16, 17, 18, 19, 20] (fun u_7 : (Nat → Int32) => kc_R cA a_R a_U a_S I_R A_R ++ kc_U cA a_U a_T u_7 ++ kc_T cA a_T I_T A_T ++ kc_S cA a_S I_S A_S ++ kc_C cA a_C I_C A_C) ⟨Nat.zero_le _, Nat.zero_le _⟩ rfl rfl (fun _ => rfl) rfl rfl rfl rfl rfl rfl rfl rfl (Nat.le_of_ble_eq_true rfl) (fun r_6 u_7 hw => ?_)
      refine vv_if_eq hC 48 d_R_readLiteral_41 (by decide) (fun cd => ?_) (fun cd => ?_)
      · have hw := hw.1 cd
        refine vv_iconst hC d_R_readLiteral_48 (v := (0 : Int32)) (by decide) ?_
        exact vv_zret hC d_R_readLiteral_49 rfl u_7 hw rfl
      · have hw := hw.2 cd
        refine vv_iconst hC d_R_readLiteral_44 (v := (1 : Int32)) (by decide) ?_
        refine vv_goto hC 49 d_R_readLiteral_45 (by decide) ?_
        exact vv_zret hC d_R_readLiteral_49 rfl u_7 hw rfl
  · have hw := hw.1 cd
    refine vv_iconst hC d_R_readLiteral_10 (v := (0 : Int32)) (by decide) ?_
    exact vv_zret hC d_R_readLiteral_11 rfl u_2 hw rfl
set_option maxHeartbeats 4000000 in
set_option maxRecDepth 100000 in
theorem l_R_readDefinition_b46 {p : Program} {l : Launch} {e : Env} {s : State} {m : MethodId} {args : Array Value} {below : List Frame} {meth : Method} {c : Code} {D : va_G} {cA : Nat → ClassId} {sx : Nat → Nat} {A : Nat → Prop} (a_R a_U a_T a_S a_C : Nat → Nat) (I_R : (Nat → Int32)) (A_R : (Nat → Nat → Int32)) (I_T : (Nat → Int32)) (A_T : (Nat → Nat → Int32)) (I_S : (Nat → Int32)) (A_S : (Nat → Nat → Int32)) (I_C : (Nat → Int32)) (A_C : (Nat → Nat → Int32)) (Q : Int32 → (Nat → Int32) → Prop) (hC : CX p s m args meth c b_R_readDefinition R_R TB 4 D vwCl (tyl cA) A (SPl sx) (some .boolean)) : ∀ (I_U : (Nat → Int32)) (v3 : Int32), wp_R_readDefinition_b46 I_T A_T I_C A_C Q I_U v3 → VV p l e ({ frames := 3, cells := 0, slots := 0, locals := 66 } : Room) s m args below meth c 4 D vwCl A 0 0 (QI below args s D vwCl (tyl cA) A (fun (r : Int32) (u : (Nat → Int32)) => Q r u) (fun u : (Nat → Int32) => kc_R cA a_R a_U a_S I_R A_R ++ kc_U cA a_U a_T u ++ kc_T cA a_T I_T A_T ++ kc_S cA a_S I_S A_S ++ kc_C cA a_C I_C A_C)) (kc_R cA a_R a_U a_S I_R A_R ++ kc_U cA a_U a_T I_U ++ kc_T cA a_T I_T A_T ++ kc_S cA a_S I_S A_S ++ kc_C cA a_C I_C A_C) 46 [(0, .ref (a_R 0)), (3, .int v3)] [] := by
  intro I_U v3 hw
  unfold wp_R_readDefinition_b46 at hw
  refine vv_iload_n hC d_R_readDefinition_46 1 rfl rfl ?_
  refine vv_if_ne hC 68 d_R_readDefinition_47 (by decide) (fun cd => ?_) (fun cd => ?_)
  · have hw := hw.2 cd
    refine vv_iconst hC d_R_readDefinition_68 (v := (1 : Int32)) (by decide) ?_
    refine vv_goto hC 73 d_R_readDefinition_69 (by decide) ?_
    exact vv_zret hC d_R_readDefinition_73 rfl I_U hw rfl
  · have hw := hw.1 cd
    refine vv_aload_n hC d_R_readDefinition_50 0 rfl rfl ?_
    refine vv_get hC (v := .ref (a_U 0)) hin_R 0 0 tb_104 d_R_readDefinition_51 rfl rfl (by decide) rfl rfl ?_
    refine vv_iconst hC d_R_readDefinition_54 (v := (4 : Int32)) (by decide) ?_
    refine vv_aload_n hC d_R_readDefinition_55 0 rfl rfl ?_
    refine vv_get hC (v := .ref (a_U 0)) hin_R 0 0 tb_104 d_R_readDefinition_56 rfl rfl (by decide) rfl rfl ?_
    refine vv_get hC (v := .int (I_U 1)) hin_U 3 2 tb_84 d_R_readDefinition_59 rfl rfl (by decide) rfl rfl ?_
    refine vv_callVI (wr := kc_R cA a_R a_U a_S I_R A_R ++ kc_S cA a_S I_S A_S ++ kc_C cA a_C I_C A_C) hC (c_U_fail l D cA sx a_U a_T I_U I_T A_T (4 : Int32) (I_U 1) _ hw) (cw_R_121 hC) d_R_readDefinition_62 [] [3, 4, 5, 6] [0, 1, 2, 7, 8, 9, 10, 11, 12, 13, 14, 15, 16, 17, 18, 19, 20, 21, 22, 23, 24] [0, 1, 2, 21, 22, 23, 24, 3, 4, 5, 6, 7, 8, 9, 10, 11, 12, 13, 14, 15, 16, 17, 18, 19, 20] (fun u_5 : (Nat → Int32) => kc_R cA a_R a_U a_S I_R A_R ++ kc_U cA a_U a_T u_5 ++ kc_T cA a_T I_T A_T ++ kc_S cA a_S I_S A_S ++ kc_C cA a_C I_C A_C) ⟨Nat.zero_le _, Nat.zero_le _⟩ rfl rfl (fun _ => rfl) rfl rfl rfl rfl rfl rfl rfl rfl (Nat.le_of_ble_eq_true rfl) (fun r_4 u_5 hw => ?_)
    refine vv_if_eq hC 72 d_R_readDefinition_65 (by decide) (fun cd => ?_) (fun cd => ?_)
    · have hw := hw.1 cd
      refine vv_iconst hC d_R_readDefinition_72 (v := (0 : Int32)) (by decide) ?_
      exact vv_zret hC d_R_readDefinition_73 rfl u_5 hw rfl
    · have hw := hw.2 cd
      refine vv_iconst hC d_R_readDefinition_68 (v := (1 : Int32)) (by decide) ?_
      refine vv_goto hC 73 d_R_readDefinition_69 (by decide) ?_
      exact vv_zret hC d_R_readDefinition_73 rfl u_5 hw rfl
set_option maxHeartbeats 4000000 in
set_option maxRecDepth 100000 in
theorem l_R_readDefinition_b44 {p : Program} {l : Launch} {e : Env} {s : State} {m : MethodId} {args : Array Value} {below : List Frame} {meth : Method} {c : Code} {D : va_G} {cA : Nat → ClassId} {sx : Nat → Nat} {A : Nat → Prop} (a_R a_U a_T a_S a_C : Nat → Nat) (I_R : (Nat → Int32)) (A_R : (Nat → Nat → Int32)) (I_T : (Nat → Int32)) (A_T : (Nat → Nat → Int32)) (I_S : (Nat → Int32)) (A_S : (Nat → Nat → Int32)) (I_C : (Nat → Int32)) (A_C : (Nat → Nat → Int32)) (Q : Int32 → (Nat → Int32) → Prop) (hC : CX p s m args meth c b_R_readDefinition R_R TB 4 D vwCl (tyl cA) A (SPl sx) (some .boolean)) : ∀ (I_U : (Nat → Int32)), wp_R_readDefinition_b44 I_T A_T I_C A_C Q I_U → VV p l e ({ frames := 3, cells := 0, slots := 0, locals := 66 } : Room) s m args below meth c 4 D vwCl A 0 0 (QI below args s D vwCl (tyl cA) A (fun (r : Int32) (u : (Nat → Int32)) => Q r u) (fun u : (Nat → Int32) => kc_R cA a_R a_U a_S I_R A_R ++ kc_U cA a_U a_T u ++ kc_T cA a_T I_T A_T ++ kc_S cA a_S I_S A_S ++ kc_C cA a_C I_C A_C)) (kc_R cA a_R a_U a_S I_R A_R ++ kc_U cA a_U a_T I_U ++ kc_T cA a_T I_T A_T ++ kc_S cA a_S I_S A_S ++ kc_C cA a_C I_C A_C) 44 [(0, .ref (a_R 0))] [] := by
  intro I_U hw
  unfold wp_R_readDefinition_b44 at hw
  refine vv_iconst hC d_R_readDefinition_44 (v := (0 : Int32)) (by decide) ?_
  refine vv_istore_n hC d_R_readDefinition_45 rfl (by decide) [1, 0] (L2 := [(0, .ref (a_R 0)), (3, .int (0 : Int32))]) rfl ?_
  exact vv_sub [0, 1] (by rfl) (l_R_readDefinition_b46 a_R a_U a_T a_S a_C I_R A_R I_T A_T I_S A_S I_C A_C Q hC I_U (0 : Int32) hw)
set_option maxHeartbeats 4000000 in
set_option maxRecDepth 100000 in
theorem c_R_readDefinition (l : Launch) (D : va_G) (cA : Nat → ClassId) (sx : Nat → Nat) (a_R a_U a_T a_S a_C : Nat → Nat) (I_R : (Nat → Int32)) (A_R : (Nat → Nat → Int32)) (I_U : (Nat → Int32)) (I_T : (Nat → Int32)) (A_T : (Nat → Nat → Int32)) (I_S : (Nat → Int32)) (A_S : (Nat → Nat → Int32)) (I_C : (Nat → Int32)) (A_C : (Nat → Nat → Int32)) (Q : Int32 → (Nat → Int32) → Prop) (hw : wp_R_readDefinition I_U I_T A_T I_C A_C Q) : MetI l y_R_readDefinition (Cond.code y_R_readDefinition b_R_readDefinition 4 (some .boolean) :: TB) ({ frames := 3, cells := 0, slots := 0, locals := 66 } : Room) D vwCl (tyl cA) (SPl sx) [.ref (a_R 0), .ref (a_C 0)] (kc_R cA a_R a_U a_S I_R A_R ++ kc_U cA a_U a_T I_U ++ kc_T cA a_T I_T A_T ++ kc_S cA a_S I_S A_S ++ kc_C cA a_C I_C A_C) (fun (r : Int32) (u : (Nat → Int32)) => Q r u) (fun u : (Nat → Int32) => kc_R cA a_R a_U a_S I_R A_R ++ kc_U cA a_U a_T u ++ kc_T cA a_T I_T A_T ++ kc_S cA a_S I_S A_S ++ kc_C cA a_C I_C A_C) := by
  refine vv_entryI (cc := b_R_readDefinition) (own := R_R) (L := [(0, .ref (a_R 0)), (1, .ref (a_C 0))]) (by decide) rfl rfl (Nat.le_of_ble_eq_true rfl) rfl (fun p e s m args below meth c A hC => ?_)
  unfold wp_R_readDefinition at hw
  refine vv_aload_n hC d_R_readDefinition_0 0 rfl rfl ?_
  refine vv_aload_n hC d_R_readDefinition_1 1 rfl rfl ?_
  refine vv_callVI (wr := []) hC (c_R_readLiteral l D cA sx a_R a_U a_T a_S a_C I_R A_R I_U I_T A_T I_S A_S I_C A_C _ hw) (cw_R_171 hC) d_R_readDefinition_2 [] [0, 1, 2, 3, 4, 5, 6, 7, 8, 9, 10, 11, 12, 13, 14, 15, 16, 17, 18, 19, 20, 21, 22, 23, 24] [] [0, 1, 2, 3, 4, 5, 6, 7, 8, 9, 10, 11, 12, 13, 14, 15, 16, 17, 18, 19, 20, 21, 22, 23, 24] (fun u_2 : (Nat → Int32) => kc_R cA a_R a_U a_S I_R A_R ++ kc_U cA a_U a_T u_2 ++ kc_T cA a_T I_T A_T ++ kc_S cA a_S I_S A_S ++ kc_C cA a_C I_C A_C) ⟨Nat.zero_le _, Nat.zero_le _⟩ rfl rfl (fun _ => rfl) rfl rfl rfl rfl rfl rfl rfl rfl (Nat.le_of_ble_eq_true rfl) (fun r_1 u_2 hw => ?_)
  refine vv_if_ne hC 10 d_R_readDefinition_5 (by decide) (fun cd => ?_) (fun cd => ?_)
  · have hw := hw.2 cd
    refine vv_aload_n hC d_R_readDefinition_10 0 rfl rfl ?_
    refine vv_get hC (v := .ref (a_U 0)) hin_R 0 0 tb_104 d_R_readDefinition_11 rfl rfl (by decide) rfl rfl ?_
    refine vv_get hC (v := .int (u_2 2)) hin_U 3 3 tb_86 d_R_readDefinition_14 rfl rfl (by decide) rfl rfl ?_
    refine vv_istore_n hC d_R_readDefinition_17 rfl (by decide) [1, 2, 0] (L2 := [(0, .ref (a_R 0)), (1, .ref (a_C 0)), (2, .int (u_2 2))]) rfl ?_
    refine vv_iload_n hC d_R_readDefinition_18 2 rfl rfl ?_
    refine vv_iconst hC d_R_readDefinition_19 (v := (2 : Int32)) (by decide) ?_
    refine vv_icmp_lt hC 44 d_R_readDefinition_20 (by decide) (fun cd => ?_) (fun cd => ?_)
    · have hw := hw.1 cd
      exact vv_sub [0] (by rfl) (l_R_readDefinition_b44 a_R a_U a_T a_S a_C I_R A_R I_T A_T I_S A_S I_C A_C Q hC u_2 hw)
    · have hw := hw.2 cd
      refine vv_iload_n hC d_R_readDefinition_23 2 rfl rfl ?_
      refine vv_iconst hC d_R_readDefinition_24 (v := (1 : Int32)) (by decide) ?_
      refine vv_iand hC d_R_readDefinition_25 ?_
      refine vv_if_ne hC 44 d_R_readDefinition_26 (by decide) (fun cd => ?_) (fun cd => ?_)
      · have hw := hw.2 cd
        exact vv_sub [0] (by rfl) (l_R_readDefinition_b44 a_R a_U a_T a_S a_C I_R A_R I_T A_T I_S A_S I_C A_C Q hC u_2 hw)
      · have hw := hw.1 cd
        refine vv_aload_n hC d_R_readDefinition_29 1 rfl rfl ?_
        refine vv_get hC (v := .ref (a_C 9)) hin_C 12 14 tb_202 d_R_readDefinition_30 rfl rfl (by decide) rfl rfl ?_
        refine vv_iload_n hC d_R_readDefinition_33 2 rfl rfl ?_
        refine vv_iconst hC d_R_readDefinition_34 (v := (1 : Int32)) (by decide) ?_
        refine vv_ishr hC d_R_readDefinition_35 ?_
        obtain ⟨hin_7, hw⟩ := hw
        refine vv_zald hC 21 1 d_R_readDefinition_36 rfl rfl hin_7 ?_
        refine vv_if_ne hC 44 d_R_readDefinition_37 (by decide) (fun cd => ?_) (fun cd => ?_)
        · have hw := hw.2 cd
          exact vv_sub [0] (by rfl) (l_R_readDefinition_b44 a_R a_U a_T a_S a_C I_R A_R I_T A_T I_S A_S I_C A_C Q hC u_2 hw)
        · have hw := hw.1 cd
          refine vv_iconst hC d_R_readDefinition_40 (v := (1 : Int32)) (by decide) ?_
          refine vv_goto hC 45 d_R_readDefinition_41 (by decide) ?_
          refine vv_istore_n hC d_R_readDefinition_45 rfl (by decide) [1, 2, 3, 0] (L2 := [(0, .ref (a_R 0)), (1, .ref (a_C 0)), (2, .int (u_2 2)), (3, .int (1 : Int32))]) rfl ?_
          exact vv_sub [0, 3] (by rfl) (l_R_readDefinition_b46 a_R a_U a_T a_S a_C I_R A_R I_T A_T I_S A_S I_C A_C Q hC u_2 (1 : Int32) hw)
  · have hw := hw.1 cd
    refine vv_iconst hC d_R_readDefinition_8 (v := (0 : Int32)) (by decide) ?_
    exact vv_zret hC d_R_readDefinition_9 rfl u_2 hw rfl
set_option maxHeartbeats 4000000 in
set_option maxRecDepth 100000 in
theorem l_R_readInputs_b66 {p : Program} {l : Launch} {e : Env} {s : State} {m : MethodId} {args : Array Value} {below : List Frame} {meth : Method} {c : Code} {D : va_G} {cA : Nat → ClassId} {sx : Nat → Nat} {A : Nat → Prop} (a_R a_U a_T a_S a_C : Nat → Nat) (I_R : (Nat → Int32)) (A_R : (Nat → Nat → Int32)) (I_T : (Nat → Int32)) (A_T : (Nat → Nat → Int32)) (I_S : (Nat → Int32)) (A_S : (Nat → Nat → Int32)) (I_C : (Nat → Int32)) (Q : Int32 → (Nat → Int32) → (Nat → Nat → Int32) → Prop) (K2 : (Nat → Int32) → (Nat → Nat → Int32) → Int32 → Prop) (X2 : (Nat → Int32) → (Nat → Nat → Int32) → Prop) (hC : CX p s m args meth c b_R_readInputs R_R TB 3 D vwCl (tyl cA) A (SPl sx) (some .boolean)) (hK2 : ∀ (I_U : (Nat → Int32)) (A_C : (Nat → Nat → Int32)) (v2 : Int32), K2 I_U A_C v2 → VV p l e ({ frames := 4, cells := 0, slots := 0, locals := 89 } : Room) s m args below meth c 3 D vwCl A 0 0 (QI below args s D vwCl (tyl cA) A (fun (r : Int32) (u : (Nat → Int32) × (Nat → Nat → Int32)) => Q r u.1 u.2) (fun u : (Nat → Int32) × (Nat → Nat → Int32) => kc_R cA a_R a_U a_S I_R A_R ++ kc_U cA a_U a_T u.1 ++ kc_T cA a_T I_T A_T ++ kc_S cA a_S I_S A_S ++ kc_C cA a_C I_C u.2)) (kc_R cA a_R a_U a_S I_R A_R ++ kc_U cA a_U a_T I_U ++ kc_T cA a_T I_T A_T ++ kc_S cA a_S I_S A_S ++ kc_C cA a_C I_C A_C) 2 [(0, .ref (a_R 0)), (1, .ref (a_C 0)), (2, .int v2)] []) (hX2 : ∀ (I_U : (Nat → Int32)) (A_C : (Nat → Nat → Int32)), X2 I_U A_C → VV p l e ({ frames := 4, cells := 0, slots := 0, locals := 89 } : Room) s m args below meth c 3 D vwCl A 0 0 (QI below args s D vwCl (tyl cA) A (fun (r : Int32) (u : (Nat → Int32) × (Nat → Nat → Int32)) => Q r u.1 u.2) (fun u : (Nat → Int32) × (Nat → Nat → Int32) => kc_R cA a_R a_U a_S I_R A_R ++ kc_U cA a_U a_T u.1 ++ kc_T cA a_T I_T A_T ++ kc_S cA a_S I_S A_S ++ kc_C cA a_C I_C u.2)) (kc_R cA a_R a_U a_S I_R A_R ++ kc_U cA a_U a_T I_U ++ kc_T cA a_T I_T A_T ++ kc_S cA a_S I_S A_S ++ kc_C cA a_C I_C A_C) 84 [] []) : ∀ (I_U : (Nat → Int32)) (A_C : (Nat → Nat → Int32)) (v2 : Int32), wp_R_readInputs_b66 I_R I_T A_T I_C Q K2 X2 I_U A_C v2 → VV p l e ({ frames := 4, cells := 0, slots := 0, locals := 89 } : Room) s m args below meth c 3 D vwCl A 0 0 (QI below args s D vwCl (tyl cA) A (fun (r : Int32) (u : (Nat → Int32) × (Nat → Nat → Int32)) => Q r u.1 u.2) (fun u : (Nat → Int32) × (Nat → Nat → Int32) => kc_R cA a_R a_U a_S I_R A_R ++ kc_U cA a_U a_T u.1 ++ kc_T cA a_T I_T A_T ++ kc_S cA a_S I_S A_S ++ kc_C cA a_C I_C u.2)) (kc_R cA a_R a_U a_S I_R A_R ++ kc_U cA a_U a_T I_U ++ kc_T cA a_T I_T A_T ++ kc_S cA a_S I_S A_S ++ kc_C cA a_C I_C A_C) 66 [(0, .ref (a_R 0)), (1, .ref (a_C 0)), (2, .int v2)] [] := by
  intro I_U A_C v2 hw
  unfold wp_R_readInputs_b66 at hw
  refine vv_aload_n hC d_R_readInputs_66 1 rfl rfl ?_
  refine vv_get hC (v := .ref (a_C 9)) hin_C 12 14 tb_202 d_R_readInputs_67 rfl rfl (by decide) rfl rfl ?_
  refine vv_aload_n hC d_R_readInputs_70 1 rfl rfl ?_
  refine vv_get hC (v := .ref (a_C 1)) hin_C 12 6 tb_174 d_R_readInputs_71 rfl rfl (by decide) rfl rfl ?_
  refine vv_iload_n hC d_R_readInputs_74 2 rfl rfl ?_
  obtain ⟨hin_8, hw⟩ := hw
  refine vv_iald hC 13 0 d_R_readInputs_75 rfl rfl hin_8 ?_
  refine vv_iconst hC d_R_readInputs_76 (v := (1 : Int32)) (by decide) ?_
  obtain ⟨hin_9, hw⟩ := hw
  refine vv_zast hC 21 1 d_R_readInputs_77 rfl rfl hin_9 (ws2 := kc_R cA a_R a_U a_S I_R A_R ++ kc_U cA a_U a_T I_U ++ kc_T cA a_T I_T A_T ++ kc_S cA a_S I_S A_S ++ kc_C cA a_C I_C (va_up A_C 8 (upd (A_C 8) (((A_C 0) (v2).toNatClampNeg)).toNatClampNeg (1 : Int32)))) (st_RUTSC_CA8 ..) ?_
  refine vv_iinc hC d_R_readInputs_78 2 rfl (v := (v2 + (1 : Int32))) rfl (by decide) [1, 2, 0] (L2 := [(0, .ref (a_R 0)), (1, .ref (a_C 0)), (2, .int (v2 + (1 : Int32)))]) rfl ?_
  refine vv_goto hC 2 d_R_readInputs_81 (by decide) ?_
  exact vv_sub [0, 1, 2] (by rfl) (hK2 I_U (va_up A_C 8 (upd (A_C 8) (((A_C 0) (v2).toNatClampNeg)).toNatClampNeg (1 : Int32))) (v2 + (1 : Int32)) hw)
set_option maxHeartbeats 4000000 in
set_option maxRecDepth 100000 in
theorem l_R_readInputs_L2 {p : Program} {l : Launch} {e : Env} {s : State} {m : MethodId} {args : Array Value} {below : List Frame} {meth : Method} {c : Code} {D : va_G} {cA : Nat → ClassId} {sx : Nat → Nat} {A : Nat → Prop} (a_R a_U a_T a_S a_C : Nat → Nat) (I_R : (Nat → Int32)) (A_R : (Nat → Nat → Int32)) (I_T : (Nat → Int32)) (A_T : (Nat → Nat → Int32)) (I_S : (Nat → Int32)) (A_S : (Nat → Nat → Int32)) (I_C : (Nat → Int32)) (Q : Int32 → (Nat → Int32) → (Nat → Nat → Int32) → Prop) (X2 : (Nat → Int32) → (Nat → Nat → Int32) → Prop) (hC : CX p s m args meth c b_R_readInputs R_R TB 3 D vwCl (tyl cA) A (SPl sx) (some .boolean)) (hX2 : ∀ (I_U : (Nat → Int32)) (A_C : (Nat → Nat → Int32)), X2 I_U A_C → VV p l e ({ frames := 4, cells := 0, slots := 0, locals := 89 } : Room) s m args below meth c 3 D vwCl A 0 0 (QI below args s D vwCl (tyl cA) A (fun (r : Int32) (u : (Nat → Int32) × (Nat → Nat → Int32)) => Q r u.1 u.2) (fun u : (Nat → Int32) × (Nat → Nat → Int32) => kc_R cA a_R a_U a_S I_R A_R ++ kc_U cA a_U a_T u.1 ++ kc_T cA a_T I_T A_T ++ kc_S cA a_S I_S A_S ++ kc_C cA a_C I_C u.2)) (kc_R cA a_R a_U a_S I_R A_R ++ kc_U cA a_U a_T I_U ++ kc_T cA a_T I_T A_T ++ kc_S cA a_S I_S A_S ++ kc_C cA a_C I_C A_C) 84 [] []) : ∀ (n2 : Nat) (I_U : (Nat → Int32)) (A_C : (Nat → Nat → Int32)) (v2 : Int32), wp_R_readInputs_L2 I_R I_T A_T I_C Q X2 n2 I_U A_C v2 → VV p l e ({ frames := 4, cells := 0, slots := 0, locals := 89 } : Room) s m args below meth c 3 D vwCl A 0 0 (QI below args s D vwCl (tyl cA) A (fun (r : Int32) (u : (Nat → Int32) × (Nat → Nat → Int32)) => Q r u.1 u.2) (fun u : (Nat → Int32) × (Nat → Nat → Int32) => kc_R cA a_R a_U a_S I_R A_R ++ kc_U cA a_U a_T u.1 ++ kc_T cA a_T I_T A_T ++ kc_S cA a_S I_S A_S ++ kc_C cA a_C I_C u.2)) (kc_R cA a_R a_U a_S I_R A_R ++ kc_U cA a_U a_T I_U ++ kc_T cA a_T I_T A_T ++ kc_S cA a_S I_S A_S ++ kc_C cA a_C I_C A_C) 2 [(0, .ref (a_R 0)), (1, .ref (a_C 0)), (2, .int v2)] [] := by
  intro n2
  induction n2 with
  | zero =>
    intro I_U A_C v2 hw
    exact absurd hw (fun z => z)
  | succ n2 ih =>
    intro I_U A_C v2 hw
    unfold wp_R_readInputs_L2 at hw
    refine vv_iload_n hC d_R_readInputs_2 2 rfl rfl ?_
    refine vv_aload_n hC d_R_readInputs_3 1 rfl rfl ?_
    refine vv_get hC (v := .int (I_C 1)) hin_C 12 1 tb_155 d_R_readInputs_4 rfl rfl (by decide) rfl rfl ?_
    refine vv_icmp_ge hC 84 d_R_readInputs_7 (by decide) (fun cd => ?_) (fun cd => ?_)
    · have hw := hw.1 cd
      exact vv_sub [] (by rfl) (hX2 I_U A_C hw)
    · have hw := hw.2 cd
      refine vv_aload_n hC d_R_readInputs_10 0 rfl rfl ?_
      refine vv_get hC (v := .int (I_R 1)) hin_R 0 5 tb_109 d_R_readInputs_11 rfl rfl (by decide) rfl rfl ?_
      refine vv_if_eq hC 29 d_R_readInputs_14 (by decide) (fun cd => ?_) (fun cd => ?_)
      · have hw := hw.1 cd
        refine vv_aload_n hC d_R_readInputs_29 0 rfl rfl ?_
        refine vv_aload_n hC d_R_readInputs_30 1 rfl rfl ?_
        refine vv_callVI (wr := []) hC (c_R_readDefinition l D cA sx a_R a_U a_T a_S a_C I_R A_R I_U I_T A_T I_S A_S I_C A_C _ hw) (cw_R_131 hC) d_R_readInputs_31 [] [0, 1, 2, 3, 4, 5, 6, 7, 8, 9, 10, 11, 12, 13, 14, 15, 16, 17, 18, 19, 20, 21, 22, 23, 24] [] [0, 1, 2, 3, 4, 5, 6, 7, 8, 9, 10, 11, 12, 13, 14, 15, 16, 17, 18, 19, 20, 21, 22, 23, 24] (fun u_2 : (Nat → Int32) => kc_R cA a_R a_U a_S I_R A_R ++ kc_U cA a_U a_T u_2 ++ kc_T cA a_T I_T A_T ++ kc_S cA a_S I_S A_S ++ kc_C cA a_C I_C A_C) ⟨Nat.zero_le _, Nat.zero_le _⟩ rfl rfl (fun _ => rfl) rfl rfl rfl rfl rfl rfl rfl rfl (Nat.le_of_ble_eq_true rfl) (fun r_1 u_2 hw => ?_)
        refine vv_if_eq hC 49 d_R_readInputs_34 (by decide) (fun cd => ?_) (fun cd => ?_)
        · have hw := hw.1 cd
          refine vv_iconst hC d_R_readInputs_49 (v := (0 : Int32)) (by decide) ?_
          exact vv_zret hC d_R_readInputs_50 rfl (u_2, A_C) hw rfl
        · have hw := hw.2 cd
          refine vv_aload_n hC d_R_readInputs_37 0 rfl rfl ?_
          refine vv_get hC (v := .ref (a_U 0)) hin_R 0 0 tb_104 d_R_readInputs_38 rfl rfl (by decide) rfl rfl ?_
          refine vv_bipush hC d_R_readInputs_41 (v := (10 : Int32)) (by decide) ?_
          refine vv_callVI (wr := kc_R cA a_R a_U a_S I_R A_R ++ kc_S cA a_S I_S A_S ++ kc_C cA a_C I_C A_C) hC (c_U_expect l D cA sx a_U a_T u_2 I_T A_T (10 : Int32) _ hw) (cw_R_84 hC) d_R_readInputs_43 [] [3, 4, 5, 6] [0, 1, 2, 7, 8, 9, 10, 11, 12, 13, 14, 15, 16, 17, 18, 19, 20, 21, 22, 23, 24] [0, 1, 2, 21, 22, 23, 24, 3, 4, 5, 6, 7, 8, 9, 10, 11, 12, 13, 14, 15, 16, 17, 18, 19, 20] (fun u_5 : (Nat → Int32) => kc_R cA a_R a_U a_S I_R A_R ++ kc_U cA a_U a_T u_5 ++ kc_T cA a_T I_T A_T ++ kc_S cA a_S I_S A_S ++ kc_C cA a_C I_C A_C) ⟨Nat.zero_le _, Nat.zero_le _⟩ rfl rfl (fun _ => rfl) rfl rfl rfl rfl rfl rfl rfl rfl (Nat.le_of_ble_eq_true rfl) (fun r_4 u_5 hw => ?_)
          refine vv_if_ne hC 51 d_R_readInputs_46 (by decide) (fun cd => ?_) (fun cd => ?_)
          · have hw := hw.2 cd
            refine vv_aload_n hC d_R_readInputs_51 1 rfl rfl ?_
            refine vv_get hC (v := .ref (a_C 1)) hin_C 12 6 tb_174 d_R_readInputs_52 rfl rfl (by decide) rfl rfl ?_
            refine vv_iload_n hC d_R_readInputs_55 2 rfl rfl ?_
            refine vv_aload_n hC d_R_readInputs_56 0 rfl rfl ?_
            refine vv_get hC (v := .ref (a_U 0)) hin_R 0 0 tb_104 d_R_readInputs_57 rfl rfl (by decide) rfl rfl ?_
            refine vv_get hC (v := .int (u_5 2)) hin_U 3 3 tb_86 d_R_readInputs_60 rfl rfl (by decide) rfl rfl ?_
            refine vv_iconst hC d_R_readInputs_63 (v := (1 : Int32)) (by decide) ?_
            refine vv_ishr hC d_R_readInputs_64 ?_
            obtain ⟨hin_7, hw⟩ := hw
            refine vv_iast hC 13 0 d_R_readInputs_65 rfl rfl hin_7 (ws2 := kc_R cA a_R a_U a_S I_R A_R ++ kc_U cA a_U a_T u_5 ++ kc_T cA a_T I_T A_T ++ kc_S cA a_S I_S A_S ++ kc_C cA a_C I_C (va_up A_C 0 (upd (A_C 0) (v2).toNatClampNeg ((u_5 2) >>> ((1 : Int32) &&& 31))))) (st_RUTSC_CA0 ..) ?_
            exact vv_sub [0, 1, 2] (by rfl) (l_R_readInputs_b66 a_R a_U a_T a_S a_C I_R A_R I_T A_T I_S A_S I_C Q (wp_R_readInputs_L2 I_R I_T A_T I_C Q X2 n2) X2 hC ih hX2 u_5 (va_up A_C 0 (upd (A_C 0) (v2).toNatClampNeg ((u_5 2) >>> ((1 : Int32) &&& 31)))) v2 hw)
          · have hw := hw.1 cd
            refine vv_iconst hC d_R_readInputs_49 (v := (0 : Int32)) (by decide) ?_
            exact vv_zret hC d_R_readInputs_50 rfl (u_5, A_C) hw rfl
      · have hw := hw.2 cd
        refine vv_aload_n hC d_R_readInputs_17 1 rfl rfl ?_
        refine vv_get hC (v := .ref (a_C 1)) hin_C 12 6 tb_174 d_R_readInputs_18 rfl rfl (by decide) rfl rfl ?_
        refine vv_iload_n hC d_R_readInputs_21 2 rfl rfl ?_
        refine vv_iload_n hC d_R_readInputs_22 2 rfl rfl ?_
        refine vv_iconst hC d_R_readInputs_23 (v := (1 : Int32)) (by decide) ?_
        refine vv_iadd hC d_R_readInputs_24 ?_
        obtain ⟨hin_10, hw⟩ := hw
        refine vv_iast hC 13 0 d_R_readInputs_25 rfl rfl hin_10 (ws2 := kc_R cA a_R a_U a_S I_R A_R ++ kc_U cA a_U a_T I_U ++ kc_T cA a_T I_T A_T ++ kc_S cA a_S I_S A_S ++ kc_C cA a_C I_C (va_up A_C 0 (upd (A_C 0) (v2).toNatClampNeg (v2 + (1 : Int32))))) (st_RUTSC_CA0 ..) ?_
        refine vv_goto hC 66 d_R_readInputs_26 (by decide) ?_
        exact vv_sub [0, 1, 2] (by rfl) (l_R_readInputs_b66 a_R a_U a_T a_S a_C I_R A_R I_T A_T I_S A_S I_C Q (wp_R_readInputs_L2 I_R I_T A_T I_C Q X2 n2) X2 hC ih hX2 I_U (va_up A_C 0 (upd (A_C 0) (v2).toNatClampNeg (v2 + (1 : Int32)))) v2 hw)
set_option maxHeartbeats 4000000 in
set_option maxRecDepth 100000 in
theorem c_R_readInputs (l : Launch) (D : va_G) (cA : Nat → ClassId) (sx : Nat → Nat) (a_R a_U a_T a_S a_C : Nat → Nat) (I_R : (Nat → Int32)) (A_R : (Nat → Nat → Int32)) (I_U : (Nat → Int32)) (I_T : (Nat → Int32)) (A_T : (Nat → Nat → Int32)) (I_S : (Nat → Int32)) (A_S : (Nat → Nat → Int32)) (I_C : (Nat → Int32)) (A_C : (Nat → Nat → Int32)) (Q : Int32 → (Nat → Int32) → (Nat → Nat → Int32) → Prop) (hw : wp_R_readInputs I_R I_U I_T A_T I_C A_C Q) : MetI l y_R_readInputs (Cond.code y_R_readInputs b_R_readInputs 3 (some .boolean) :: TB) ({ frames := 4, cells := 0, slots := 0, locals := 89 } : Room) D vwCl (tyl cA) (SPl sx) [.ref (a_R 0), .ref (a_C 0)] (kc_R cA a_R a_U a_S I_R A_R ++ kc_U cA a_U a_T I_U ++ kc_T cA a_T I_T A_T ++ kc_S cA a_S I_S A_S ++ kc_C cA a_C I_C A_C) (fun (r : Int32) (u : (Nat → Int32) × (Nat → Nat → Int32)) => Q r u.1 u.2) (fun u : (Nat → Int32) × (Nat → Nat → Int32) => kc_R cA a_R a_U a_S I_R A_R ++ kc_U cA a_U a_T u.1 ++ kc_T cA a_T I_T A_T ++ kc_S cA a_S I_S A_S ++ kc_C cA a_C I_C u.2) := by
  refine vv_entryI (cc := b_R_readInputs) (own := R_R) (L := [(0, .ref (a_R 0)), (1, .ref (a_C 0))]) (by decide) rfl rfl (Nat.le_of_ble_eq_true rfl) rfl (fun p e s m args below meth c A hC => ?_)
  unfold wp_R_readInputs at hw
  refine vv_iconst hC d_R_readInputs_0 (v := (0 : Int32)) (by decide) ?_
  refine vv_istore_n hC d_R_readInputs_1 rfl (by decide) [1, 2, 0] (L2 := [(0, .ref (a_R 0)), (1, .ref (a_C 0)), (2, .int (0 : Int32))]) rfl ?_
  obtain ⟨m2, hw⟩ := hw
  refine vv_sub [0, 1, 2] (by rfl) (l_R_readInputs_L2 a_R a_U a_T a_S a_C I_R A_R I_T A_T I_S A_S I_C Q _ hC (fun I_U_11 A_C_12 hw => ?_) m2 I_U A_C (0 : Int32) hw)
  refine vv_iconst hC d_R_readInputs_84 (v := (1 : Int32)) (by decide) ?_
  exact vv_zret hC d_R_readInputs_85 rfl (I_U_11, A_C_12) hw rfl
set_option maxHeartbeats 4000000 in
set_option maxRecDepth 100000 in
theorem c_R_readUse (l : Launch) (D : va_G) (cA : Nat → ClassId) (sx : Nat → Nat) (a_R a_U a_T a_S a_C : Nat → Nat) (I_R : (Nat → Int32)) (A_R : (Nat → Nat → Int32)) (I_U : (Nat → Int32)) (I_T : (Nat → Int32)) (A_T : (Nat → Nat → Int32)) (I_S : (Nat → Int32)) (A_S : (Nat → Nat → Int32)) (I_C : (Nat → Int32)) (A_C : (Nat → Nat → Int32)) (Q : Int32 → (Nat → Int32) → (Nat → Nat → Int32) → (Nat → Int32) → Prop) (hw : wp_R_readUse I_R A_R I_U I_T A_T I_C Q) : MetI l y_R_readUse (Cond.code y_R_readUse b_R_readUse 2 (some .boolean) :: TB) ({ frames := 3, cells := 0, slots := 0, locals := 66 } : Room) D vwCl (tyl cA) (SPl sx) [.ref (a_R 0), .ref (a_C 0)] (kc_R cA a_R a_U a_S I_R A_R ++ kc_U cA a_U a_T I_U ++ kc_T cA a_T I_T A_T ++ kc_S cA a_S I_S A_S ++ kc_C cA a_C I_C A_C) (fun (r : Int32) (u : (Nat → Int32) × (Nat → Nat → Int32) × (Nat → Int32)) => Q r u.1 u.2.1 u.2.2) (fun u : (Nat → Int32) × (Nat → Nat → Int32) × (Nat → Int32) => kc_R cA a_R a_U a_S u.1 u.2.1 ++ kc_U cA a_U a_T u.2.2 ++ kc_T cA a_T I_T A_T ++ kc_S cA a_S I_S A_S ++ kc_C cA a_C I_C A_C) := by
  refine vv_entryI (cc := b_R_readUse) (own := R_R) (L := [(0, .ref (a_R 0)), (1, .ref (a_C 0))]) (by decide) rfl rfl (Nat.le_of_ble_eq_true rfl) rfl (fun p e s m args below meth c A hC => ?_)
  unfold wp_R_readUse at hw
  refine vv_aload_n hC d_R_readUse_0 0 rfl rfl ?_
  refine vv_aload_n hC d_R_readUse_1 1 rfl rfl ?_
  refine vv_callVI (wr := []) hC (c_R_readLiteral l D cA sx a_R a_U a_T a_S a_C I_R A_R I_U I_T A_T I_S A_S I_C A_C _ hw) (cw_R_171 hC) d_R_readUse_2 [] [0, 1, 2, 3, 4, 5, 6, 7, 8, 9, 10, 11, 12, 13, 14, 15, 16, 17, 18, 19, 20, 21, 22, 23, 24] [] [0, 1, 2, 3, 4, 5, 6, 7, 8, 9, 10, 11, 12, 13, 14, 15, 16, 17, 18, 19, 20, 21, 22, 23, 24] (fun u_2 : (Nat → Int32) => kc_R cA a_R a_U a_S I_R A_R ++ kc_U cA a_U a_T u_2 ++ kc_T cA a_T I_T A_T ++ kc_S cA a_S I_S A_S ++ kc_C cA a_C I_C A_C) ⟨Nat.zero_le _, Nat.zero_le _⟩ rfl rfl (fun _ => rfl) rfl rfl rfl rfl rfl rfl rfl rfl (Nat.le_of_ble_eq_true rfl) (fun r_1 u_2 hw => ?_)
  refine vv_if_ne hC 10 d_R_readUse_5 (by decide) (fun cd => ?_) (fun cd => ?_)
  · have hw := hw.2 cd
    refine vv_aload_n hC d_R_readUse_10 0 rfl rfl ?_
    refine vv_get hC (v := .int (I_R 0)) hin_R 0 4 tb_108 d_R_readUse_11 rfl rfl (by decide) rfl rfl ?_
    refine vv_sipush hC d_R_readUse_14 (v := (615 : Int32)) (by decide) ?_
    refine vv_icmp_ge hC 62 d_R_readUse_17 (by decide) (fun cd => ?_) (fun cd => ?_)
    · have hw := hw.1 cd
      refine vv_iconst hC d_R_readUse_62 (v := (1 : Int32)) (by decide) ?_
      exact vv_zret hC d_R_readUse_63 rfl (I_R, A_R, u_2) hw rfl
    · have hw := hw.2 cd
      refine vv_aload_n hC d_R_readUse_20 0 rfl rfl ?_
      refine vv_get hC (v := .ref (a_R 1)) hin_R 0 2 tb_106 d_R_readUse_21 rfl rfl (by decide) rfl rfl ?_
      refine vv_aload_n hC d_R_readUse_24 0 rfl rfl ?_
      refine vv_get hC (v := .int (I_R 0)) hin_R 0 4 tb_108 d_R_readUse_25 rfl rfl (by decide) rfl rfl ?_
      refine vv_aload_n hC d_R_readUse_28 0 rfl rfl ?_
      refine vv_get hC (v := .ref (a_U 0)) hin_R 0 0 tb_104 d_R_readUse_29 rfl rfl (by decide) rfl rfl ?_
      refine vv_get hC (v := .int (u_2 2)) hin_U 3 3 tb_86 d_R_readUse_32 rfl rfl (by decide) rfl rfl ?_
      obtain ⟨hin_4, hw⟩ := hw
      refine vv_iast hC 1 0 d_R_readUse_35 rfl rfl hin_4 (ws2 := kc_R cA a_R a_U a_S I_R (va_up A_R 0 (upd (A_R 0) ((I_R 0)).toNatClampNeg (u_2 2))) ++ kc_U cA a_U a_T u_2 ++ kc_T cA a_T I_T A_T ++ kc_S cA a_S I_S A_S ++ kc_C cA a_C I_C A_C) (st_RUTSC_RA0 ..) ?_
      refine vv_aload_n hC d_R_readUse_36 0 rfl rfl ?_
      refine vv_get hC (v := .ref (a_R 2)) hin_R 0 3 tb_107 d_R_readUse_37 rfl rfl (by decide) rfl rfl ?_
      refine vv_aload_n hC d_R_readUse_40 0 rfl rfl ?_
      refine vv_get hC (v := .int (I_R 0)) hin_R 0 4 tb_108 d_R_readUse_41 rfl rfl (by decide) rfl rfl ?_
      refine vv_aload_n hC d_R_readUse_44 0 rfl rfl ?_
      refine vv_get hC (v := .ref (a_U 0)) hin_R 0 0 tb_104 d_R_readUse_45 rfl rfl (by decide) rfl rfl ?_
      refine vv_get hC (v := .int (u_2 1)) hin_U 3 2 tb_84 d_R_readUse_48 rfl rfl (by decide) rfl rfl ?_
      refine vv_iast hC 2 0 d_R_readUse_51 rfl rfl hin_4 (ws2 := kc_R cA a_R a_U a_S I_R (va_up (va_up A_R 0 (upd (A_R 0) ((I_R 0)).toNatClampNeg (u_2 2))) 1 (upd (A_R 1) ((I_R 0)).toNatClampNeg (u_2 1))) ++ kc_U cA a_U a_T u_2 ++ kc_T cA a_T I_T A_T ++ kc_S cA a_S I_S A_S ++ kc_C cA a_C I_C A_C) (st_RUTSC_RA1 ..) ?_
      refine vv_aload_n hC d_R_readUse_52 0 rfl rfl ?_
      refine vv_dup hC d_R_readUse_53 rfl ?_
      refine vv_get hC (v := .int (I_R 0)) hin_R 0 4 tb_108 d_R_readUse_54 rfl rfl (by decide) rfl rfl ?_
      refine vv_iconst hC d_R_readUse_57 (v := (1 : Int32)) (by decide) ?_
      refine vv_iadd hC d_R_readUse_58 ?_
      refine vv_put hC hin_R ty_R tyok_R nmok_R 0 4 tb_108 d_R_readUse_59 rfl rfl (by decide) rfl rfl rfl rfl rfl (Nat.le_of_ble_eq_true rfl) (ws2 := kc_R cA a_R a_U a_S (va_up I_R 0 ((I_R 0) + (1 : Int32))) (va_up (va_up A_R 0 (upd (A_R 0) ((I_R 0)).toNatClampNeg (u_2 2))) 1 (upd (A_R 1) ((I_R 0)).toNatClampNeg (u_2 1))) ++ kc_U cA a_U a_T u_2 ++ kc_T cA a_T I_T A_T ++ kc_S cA a_S I_S A_S ++ kc_C cA a_C I_C A_C) (st_RUTSC_RI0 ..) ?_
      refine vv_iconst hC d_R_readUse_62 (v := (1 : Int32)) (by decide) ?_
      exact vv_zret hC d_R_readUse_63 rfl ((va_up I_R 0 ((I_R 0) + (1 : Int32))), (va_up (va_up A_R 0 (upd (A_R 0) ((I_R 0)).toNatClampNeg (u_2 2))) 1 (upd (A_R 1) ((I_R 0)).toNatClampNeg (u_2 1))), u_2) hw rfl
  · have hw := hw.1 cd
    refine vv_iconst hC d_R_readUse_8 (v := (0 : Int32)) (by decide) ?_
    exact vv_zret hC d_R_readUse_9 rfl (I_R, A_R, u_2) hw rfl
set_option maxHeartbeats 4000000 in
set_option maxRecDepth 100000 in
theorem l_R_readLatches_b71 {p : Program} {l : Launch} {e : Env} {s : State} {m : MethodId} {args : Array Value} {below : List Frame} {meth : Method} {c : Code} {D : va_G} {cA : Nat → ClassId} {sx : Nat → Nat} {A : Nat → Prop} (a_R a_U a_T a_S a_C : Nat → Nat) (I_T : (Nat → Int32)) (A_T : (Nat → Nat → Int32)) (I_S : (Nat → Int32)) (A_S : (Nat → Nat → Int32)) (I_C : (Nat → Int32)) (Q : Int32 → (Nat → Int32) → (Nat → Nat → Int32) → (Nat → Int32) → (Nat → Nat → Int32) → Prop) (K2 : (Nat → Int32) → (Nat → Nat → Int32) → (Nat → Int32) → (Nat → Nat → Int32) → Int32 → Prop) (X2 : (Nat → Int32) → (Nat → Nat → Int32) → (Nat → Int32) → (Nat → Nat → Int32) → Prop) (hC : CX p s m args meth c b_R_readLatches R_R TB 3 D vwCl (tyl cA) A (SPl sx) (some .boolean)) (hK2 : ∀ (I_R : (Nat → Int32)) (A_R : (Nat → Nat → Int32)) (I_U : (Nat → Int32)) (A_C : (Nat → Nat → Int32)) (v2 : Int32), K2 I_R A_R I_U A_C v2 → VV p l e ({ frames := 4, cells := 0, slots := 0, locals := 89 } : Room) s m args below meth c 3 D vwCl A 0 0 (QI below args s D vwCl (tyl cA) A (fun (r : Int32) (u : (Nat → Int32) × (Nat → Nat → Int32) × (Nat → Int32) × (Nat → Nat → Int32)) => Q r u.1 u.2.1 u.2.2.1 u.2.2.2) (fun u : (Nat → Int32) × (Nat → Nat → Int32) × (Nat → Int32) × (Nat → Nat → Int32) => kc_R cA a_R a_U a_S u.1 u.2.1 ++ kc_U cA a_U a_T u.2.2.1 ++ kc_T cA a_T I_T A_T ++ kc_S cA a_S I_S A_S ++ kc_C cA a_C I_C u.2.2.2)) (kc_R cA a_R a_U a_S I_R A_R ++ kc_U cA a_U a_T I_U ++ kc_T cA a_T I_T A_T ++ kc_S cA a_S I_S A_S ++ kc_C cA a_C I_C A_C) 2 [(0, .ref (a_R 0)), (1, .ref (a_C 0)), (2, .int v2)] []) (hX2 : ∀ (I_R : (Nat → Int32)) (A_R : (Nat → Nat → Int32)) (I_U : (Nat → Int32)) (A_C : (Nat → Nat → Int32)), X2 I_R A_R I_U A_C → VV p l e ({ frames := 4, cells := 0, slots := 0, locals := 89 } : Room) s m args below meth c 3 D vwCl A 0 0 (QI below args s D vwCl (tyl cA) A (fun (r : Int32) (u : (Nat → Int32) × (Nat → Nat → Int32) × (Nat → Int32) × (Nat → Nat → Int32)) => Q r u.1 u.2.1 u.2.2.1 u.2.2.2) (fun u : (Nat → Int32) × (Nat → Nat → Int32) × (Nat → Int32) × (Nat → Nat → Int32) => kc_R cA a_R a_U a_S u.1 u.2.1 ++ kc_U cA a_U a_T u.2.2.1 ++ kc_T cA a_T I_T A_T ++ kc_S cA a_S I_S A_S ++ kc_C cA a_C I_C u.2.2.2)) (kc_R cA a_R a_U a_S I_R A_R ++ kc_U cA a_U a_T I_U ++ kc_T cA a_T I_T A_T ++ kc_S cA a_S I_S A_S ++ kc_C cA a_C I_C A_C) 124 [] []) : ∀ (I_R : (Nat → Int32)) (A_R : (Nat → Nat → Int32)) (I_U : (Nat → Int32)) (A_C : (Nat → Nat → Int32)) (v2 : Int32), wp_R_readLatches_b71 I_T A_T I_C Q K2 X2 I_R A_R I_U A_C v2 → VV p l e ({ frames := 4, cells := 0, slots := 0, locals := 89 } : Room) s m args below meth c 3 D vwCl A 0 0 (QI below args s D vwCl (tyl cA) A (fun (r : Int32) (u : (Nat → Int32) × (Nat → Nat → Int32) × (Nat → Int32) × (Nat → Nat → Int32)) => Q r u.1 u.2.1 u.2.2.1 u.2.2.2) (fun u : (Nat → Int32) × (Nat → Nat → Int32) × (Nat → Int32) × (Nat → Nat → Int32) => kc_R cA a_R a_U a_S u.1 u.2.1 ++ kc_U cA a_U a_T u.2.2.1 ++ kc_T cA a_T I_T A_T ++ kc_S cA a_S I_S A_S ++ kc_C cA a_C I_C u.2.2.2)) (kc_R cA a_R a_U a_S I_R A_R ++ kc_U cA a_U a_T I_U ++ kc_T cA a_T I_T A_T ++ kc_S cA a_S I_S A_S ++ kc_C cA a_C I_C A_C) 71 [(0, .ref (a_R 0)), (1, .ref (a_C 0)), (2, .int v2)] [] := by
  intro I_R A_R I_U A_C v2 hw
  unfold wp_R_readLatches_b71 at hw
  refine vv_aload_n hC d_R_readLatches_71 1 rfl rfl ?_
  refine vv_get hC (v := .ref (a_C 9)) hin_C 12 14 tb_202 d_R_readLatches_72 rfl rfl (by decide) rfl rfl ?_
  refine vv_aload_n hC d_R_readLatches_75 1 rfl rfl ?_
  refine vv_get hC (v := .ref (a_C 2)) hin_C 12 7 tb_177 d_R_readLatches_76 rfl rfl (by decide) rfl rfl ?_
  refine vv_iload_n hC d_R_readLatches_79 2 rfl rfl ?_
  obtain ⟨hin_8, hw⟩ := hw
  refine vv_iald hC 14 0 d_R_readLatches_80 rfl rfl hin_8 ?_
  refine vv_iconst hC d_R_readLatches_81 (v := (1 : Int32)) (by decide) ?_
  obtain ⟨hin_9, hw⟩ := hw
  refine vv_zast hC 21 1 d_R_readLatches_82 rfl rfl hin_9 (ws2 := kc_R cA a_R a_U a_S I_R A_R ++ kc_U cA a_U a_T I_U ++ kc_T cA a_T I_T A_T ++ kc_S cA a_S I_S A_S ++ kc_C cA a_C I_C (va_up A_C 8 (upd (A_C 8) (((A_C 1) (v2).toNatClampNeg)).toNatClampNeg (1 : Int32)))) (st_RUTSC_CA8 ..) ?_
  refine vv_aload_n hC d_R_readLatches_83 0 rfl rfl ?_
  refine vv_aload_n hC d_R_readLatches_84 1 rfl rfl ?_
  refine vv_callVI (wr := []) hC (c_R_readUse l D cA sx a_R a_U a_T a_S a_C I_R A_R I_U I_T A_T I_S A_S I_C (va_up A_C 8 (upd (A_C 8) (((A_C 1) (v2).toNatClampNeg)).toNatClampNeg (1 : Int32))) _ hw) (cw_R_141 hC) d_R_readLatches_85 [] [0, 1, 2, 3, 4, 5, 6, 7, 8, 9, 10, 11, 12, 13, 14, 15, 16, 17, 18, 19, 20, 21, 22, 23, 24] [] [0, 1, 2, 3, 4, 5, 6, 7, 8, 9, 10, 11, 12, 13, 14, 15, 16, 17, 18, 19, 20, 21, 22, 23, 24] (fun u_11 : (Nat → Int32) × (Nat → Nat → Int32) × (Nat → Int32) => kc_R cA a_R a_U a_S u_11.1 u_11.2.1 ++ kc_U cA a_U a_T u_11.2.2 ++ kc_T cA a_T I_T A_T ++ kc_S cA a_S I_S A_S ++ kc_C cA a_C I_C (va_up A_C 8 (upd (A_C 8) (((A_C 1) (v2).toNatClampNeg)).toNatClampNeg (1 : Int32)))) ⟨Nat.zero_le _, Nat.zero_le _⟩ rfl rfl (fun _ => rfl) rfl rfl rfl rfl rfl rfl rfl rfl (Nat.le_of_ble_eq_true rfl) (fun r_10 u_11 hw => ?_)
  refine vv_if_eq hC 103 d_R_readLatches_88 (by decide) (fun cd => ?_) (fun cd => ?_)
  · have hw := hw.1 cd
    refine vv_iconst hC d_R_readLatches_103 (v := (0 : Int32)) (by decide) ?_
    exact vv_zret hC d_R_readLatches_104 rfl (u_11.1, u_11.2.1, u_11.2.2, (va_up A_C 8 (upd (A_C 8) (((A_C 1) (v2).toNatClampNeg)).toNatClampNeg (1 : Int32)))) hw rfl
  · have hw := hw.2 cd
    refine vv_aload_n hC d_R_readLatches_91 0 rfl rfl ?_
    refine vv_get hC (v := .ref (a_U 0)) hin_R 0 0 tb_104 d_R_readLatches_92 rfl rfl (by decide) rfl rfl ?_
    refine vv_bipush hC d_R_readLatches_95 (v := (10 : Int32)) (by decide) ?_
    refine vv_callVI (wr := kc_R cA a_R a_U a_S u_11.1 u_11.2.1 ++ kc_S cA a_S I_S A_S ++ kc_C cA a_C I_C (va_up A_C 8 (upd (A_C 8) (((A_C 1) (v2).toNatClampNeg)).toNatClampNeg (1 : Int32)))) hC (c_U_expect l D cA sx a_U a_T u_11.2.2 I_T A_T (10 : Int32) _ hw) (cw_R_84 hC) d_R_readLatches_97 [] [3, 4, 5, 6] [0, 1, 2, 7, 8, 9, 10, 11, 12, 13, 14, 15, 16, 17, 18, 19, 20, 21, 22, 23, 24] [0, 1, 2, 21, 22, 23, 24, 3, 4, 5, 6, 7, 8, 9, 10, 11, 12, 13, 14, 15, 16, 17, 18, 19, 20] (fun u_16 : (Nat → Int32) => kc_R cA a_R a_U a_S u_11.1 u_11.2.1 ++ kc_U cA a_U a_T u_16 ++ kc_T cA a_T I_T A_T ++ kc_S cA a_S I_S A_S ++ kc_C cA a_C I_C (va_up A_C 8 (upd (A_C 8) (((A_C 1) (v2).toNatClampNeg)).toNatClampNeg (1 : Int32)))) ⟨Nat.zero_le _, Nat.zero_le _⟩ rfl rfl (fun _ => rfl) rfl rfl rfl rfl rfl rfl rfl rfl (Nat.le_of_ble_eq_true rfl) (fun r_15 u_16 hw => ?_)
    refine vv_if_ne hC 105 d_R_readLatches_100 (by decide) (fun cd => ?_) (fun cd => ?_)
    · have hw := hw.2 cd
      refine vv_aload_n hC d_R_readLatches_105 1 rfl rfl ?_
      refine vv_get hC (v := .ref (a_C 3)) hin_C 12 8 tb_180 d_R_readLatches_106 rfl rfl (by decide) rfl rfl ?_
      refine vv_iload_n hC d_R_readLatches_109 2 rfl rfl ?_
      refine vv_aload_n hC d_R_readLatches_110 0 rfl rfl ?_
      refine vv_get hC (v := .ref (a_U 0)) hin_R 0 0 tb_104 d_R_readLatches_111 rfl rfl (by decide) rfl rfl ?_
      refine vv_get hC (v := .int (u_16 2)) hin_U 3 3 tb_86 d_R_readLatches_114 rfl rfl (by decide) rfl rfl ?_
      refine vv_iast hC 15 0 d_R_readLatches_117 rfl rfl hin_8 (ws2 := kc_R cA a_R a_U a_S u_11.1 u_11.2.1 ++ kc_U cA a_U a_T u_16 ++ kc_T cA a_T I_T A_T ++ kc_S cA a_S I_S A_S ++ kc_C cA a_C I_C (va_up (va_up A_C 8 (upd (A_C 8) (((A_C 1) (v2).toNatClampNeg)).toNatClampNeg (1 : Int32))) 2 (upd (A_C 2) (v2).toNatClampNeg (u_16 2)))) (st_RUTSC_CA2 ..) ?_
      refine vv_iinc hC d_R_readLatches_118 2 rfl (v := (v2 + (1 : Int32))) rfl (by decide) [1, 2, 0] (L2 := [(0, .ref (a_R 0)), (1, .ref (a_C 0)), (2, .int (v2 + (1 : Int32)))]) rfl ?_
      refine vv_goto hC 2 d_R_readLatches_121 (by decide) ?_
      exact vv_sub [0, 1, 2] (by rfl) (hK2 u_11.1 u_11.2.1 u_16 (va_up (va_up A_C 8 (upd (A_C 8) (((A_C 1) (v2).toNatClampNeg)).toNatClampNeg (1 : Int32))) 2 (upd (A_C 2) (v2).toNatClampNeg (u_16 2))) (v2 + (1 : Int32)) hw)
    · have hw := hw.1 cd
      refine vv_iconst hC d_R_readLatches_103 (v := (0 : Int32)) (by decide) ?_
      exact vv_zret hC d_R_readLatches_104 rfl (u_11.1, u_11.2.1, u_16, (va_up A_C 8 (upd (A_C 8) (((A_C 1) (v2).toNatClampNeg)).toNatClampNeg (1 : Int32)))) hw rfl
set_option maxHeartbeats 4000000 in
set_option maxRecDepth 100000 in
theorem l_R_readLatches_L2 {p : Program} {l : Launch} {e : Env} {s : State} {m : MethodId} {args : Array Value} {below : List Frame} {meth : Method} {c : Code} {D : va_G} {cA : Nat → ClassId} {sx : Nat → Nat} {A : Nat → Prop} (a_R a_U a_T a_S a_C : Nat → Nat) (I_T : (Nat → Int32)) (A_T : (Nat → Nat → Int32)) (I_S : (Nat → Int32)) (A_S : (Nat → Nat → Int32)) (I_C : (Nat → Int32)) (Q : Int32 → (Nat → Int32) → (Nat → Nat → Int32) → (Nat → Int32) → (Nat → Nat → Int32) → Prop) (X2 : (Nat → Int32) → (Nat → Nat → Int32) → (Nat → Int32) → (Nat → Nat → Int32) → Prop) (hC : CX p s m args meth c b_R_readLatches R_R TB 3 D vwCl (tyl cA) A (SPl sx) (some .boolean)) (hX2 : ∀ (I_R : (Nat → Int32)) (A_R : (Nat → Nat → Int32)) (I_U : (Nat → Int32)) (A_C : (Nat → Nat → Int32)), X2 I_R A_R I_U A_C → VV p l e ({ frames := 4, cells := 0, slots := 0, locals := 89 } : Room) s m args below meth c 3 D vwCl A 0 0 (QI below args s D vwCl (tyl cA) A (fun (r : Int32) (u : (Nat → Int32) × (Nat → Nat → Int32) × (Nat → Int32) × (Nat → Nat → Int32)) => Q r u.1 u.2.1 u.2.2.1 u.2.2.2) (fun u : (Nat → Int32) × (Nat → Nat → Int32) × (Nat → Int32) × (Nat → Nat → Int32) => kc_R cA a_R a_U a_S u.1 u.2.1 ++ kc_U cA a_U a_T u.2.2.1 ++ kc_T cA a_T I_T A_T ++ kc_S cA a_S I_S A_S ++ kc_C cA a_C I_C u.2.2.2)) (kc_R cA a_R a_U a_S I_R A_R ++ kc_U cA a_U a_T I_U ++ kc_T cA a_T I_T A_T ++ kc_S cA a_S I_S A_S ++ kc_C cA a_C I_C A_C) 124 [] []) : ∀ (n2 : Nat) (I_R : (Nat → Int32)) (A_R : (Nat → Nat → Int32)) (I_U : (Nat → Int32)) (A_C : (Nat → Nat → Int32)) (v2 : Int32), wp_R_readLatches_L2 I_T A_T I_C Q X2 n2 I_R A_R I_U A_C v2 → VV p l e ({ frames := 4, cells := 0, slots := 0, locals := 89 } : Room) s m args below meth c 3 D vwCl A 0 0 (QI below args s D vwCl (tyl cA) A (fun (r : Int32) (u : (Nat → Int32) × (Nat → Nat → Int32) × (Nat → Int32) × (Nat → Nat → Int32)) => Q r u.1 u.2.1 u.2.2.1 u.2.2.2) (fun u : (Nat → Int32) × (Nat → Nat → Int32) × (Nat → Int32) × (Nat → Nat → Int32) => kc_R cA a_R a_U a_S u.1 u.2.1 ++ kc_U cA a_U a_T u.2.2.1 ++ kc_T cA a_T I_T A_T ++ kc_S cA a_S I_S A_S ++ kc_C cA a_C I_C u.2.2.2)) (kc_R cA a_R a_U a_S I_R A_R ++ kc_U cA a_U a_T I_U ++ kc_T cA a_T I_T A_T ++ kc_S cA a_S I_S A_S ++ kc_C cA a_C I_C A_C) 2 [(0, .ref (a_R 0)), (1, .ref (a_C 0)), (2, .int v2)] [] := by
  intro n2
  induction n2 with
  | zero =>
    intro I_R A_R I_U A_C v2 hw
    exact absurd hw (fun z => z)
  | succ n2 ih =>
    intro I_R A_R I_U A_C v2 hw
    unfold wp_R_readLatches_L2 at hw
    refine vv_iload_n hC d_R_readLatches_2 2 rfl rfl ?_
    refine vv_aload_n hC d_R_readLatches_3 1 rfl rfl ?_
    refine vv_get hC (v := .int (I_C 2)) hin_C 12 2 tb_159 d_R_readLatches_4 rfl rfl (by decide) rfl rfl ?_
    refine vv_icmp_ge hC 124 d_R_readLatches_7 (by decide) (fun cd => ?_) (fun cd => ?_)
    · have hw := hw.1 cd
      exact vv_sub [] (by rfl) (hX2 I_R A_R I_U A_C hw)
    · have hw := hw.2 cd
      refine vv_aload_n hC d_R_readLatches_10 0 rfl rfl ?_
      refine vv_get hC (v := .int (I_R 1)) hin_R 0 5 tb_109 d_R_readLatches_11 rfl rfl (by decide) rfl rfl ?_
      refine vv_if_eq hC 34 d_R_readLatches_14 (by decide) (fun cd => ?_) (fun cd => ?_)
      · have hw := hw.1 cd
        refine vv_aload_n hC d_R_readLatches_34 0 rfl rfl ?_
        refine vv_aload_n hC d_R_readLatches_35 1 rfl rfl ?_
        refine vv_callVI (wr := []) hC (c_R_readDefinition l D cA sx a_R a_U a_T a_S a_C I_R A_R I_U I_T A_T I_S A_S I_C A_C _ hw) (cw_R_131 hC) d_R_readLatches_36 [] [0, 1, 2, 3, 4, 5, 6, 7, 8, 9, 10, 11, 12, 13, 14, 15, 16, 17, 18, 19, 20, 21, 22, 23, 24] [] [0, 1, 2, 3, 4, 5, 6, 7, 8, 9, 10, 11, 12, 13, 14, 15, 16, 17, 18, 19, 20, 21, 22, 23, 24] (fun u_2 : (Nat → Int32) => kc_R cA a_R a_U a_S I_R A_R ++ kc_U cA a_U a_T u_2 ++ kc_T cA a_T I_T A_T ++ kc_S cA a_S I_S A_S ++ kc_C cA a_C I_C A_C) ⟨Nat.zero_le _, Nat.zero_le _⟩ rfl rfl (fun _ => rfl) rfl rfl rfl rfl rfl rfl rfl rfl (Nat.le_of_ble_eq_true rfl) (fun r_1 u_2 hw => ?_)
        refine vv_if_eq hC 54 d_R_readLatches_39 (by decide) (fun cd => ?_) (fun cd => ?_)
        · have hw := hw.1 cd
          refine vv_iconst hC d_R_readLatches_54 (v := (0 : Int32)) (by decide) ?_
          exact vv_zret hC d_R_readLatches_55 rfl (I_R, A_R, u_2, A_C) hw rfl
        · have hw := hw.2 cd
          refine vv_aload_n hC d_R_readLatches_42 0 rfl rfl ?_
          refine vv_get hC (v := .ref (a_U 0)) hin_R 0 0 tb_104 d_R_readLatches_43 rfl rfl (by decide) rfl rfl ?_
          refine vv_bipush hC d_R_readLatches_46 (v := (32 : Int32)) (by decide) ?_
          refine vv_callVI (wr := kc_R cA a_R a_U a_S I_R A_R ++ kc_S cA a_S I_S A_S ++ kc_C cA a_C I_C A_C) hC (c_U_expect l D cA sx a_U a_T u_2 I_T A_T (32 : Int32) _ hw) (cw_R_84 hC) d_R_readLatches_48 [] [3, 4, 5, 6] [0, 1, 2, 7, 8, 9, 10, 11, 12, 13, 14, 15, 16, 17, 18, 19, 20, 21, 22, 23, 24] [0, 1, 2, 21, 22, 23, 24, 3, 4, 5, 6, 7, 8, 9, 10, 11, 12, 13, 14, 15, 16, 17, 18, 19, 20] (fun u_5 : (Nat → Int32) => kc_R cA a_R a_U a_S I_R A_R ++ kc_U cA a_U a_T u_5 ++ kc_T cA a_T I_T A_T ++ kc_S cA a_S I_S A_S ++ kc_C cA a_C I_C A_C) ⟨Nat.zero_le _, Nat.zero_le _⟩ rfl rfl (fun _ => rfl) rfl rfl rfl rfl rfl rfl rfl rfl (Nat.le_of_ble_eq_true rfl) (fun r_4 u_5 hw => ?_)
          refine vv_if_ne hC 56 d_R_readLatches_51 (by decide) (fun cd => ?_) (fun cd => ?_)
          · have hw := hw.2 cd
            refine vv_aload_n hC d_R_readLatches_56 1 rfl rfl ?_
            refine vv_get hC (v := .ref (a_C 2)) hin_C 12 7 tb_177 d_R_readLatches_57 rfl rfl (by decide) rfl rfl ?_
            refine vv_iload_n hC d_R_readLatches_60 2 rfl rfl ?_
            refine vv_aload_n hC d_R_readLatches_61 0 rfl rfl ?_
            refine vv_get hC (v := .ref (a_U 0)) hin_R 0 0 tb_104 d_R_readLatches_62 rfl rfl (by decide) rfl rfl ?_
            refine vv_get hC (v := .int (u_5 2)) hin_U 3 3 tb_86 d_R_readLatches_65 rfl rfl (by decide) rfl rfl ?_
            refine vv_iconst hC d_R_readLatches_68 (v := (1 : Int32)) (by decide) ?_
            refine vv_ishr hC d_R_readLatches_69 ?_
            obtain ⟨hin_7, hw⟩ := hw
            refine vv_iast hC 14 0 d_R_readLatches_70 rfl rfl hin_7 (ws2 := kc_R cA a_R a_U a_S I_R A_R ++ kc_U cA a_U a_T u_5 ++ kc_T cA a_T I_T A_T ++ kc_S cA a_S I_S A_S ++ kc_C cA a_C I_C (va_up A_C 1 (upd (A_C 1) (v2).toNatClampNeg ((u_5 2) >>> ((1 : Int32) &&& 31))))) (st_RUTSC_CA1 ..) ?_
            exact vv_sub [0, 1, 2] (by rfl) (l_R_readLatches_b71 a_R a_U a_T a_S a_C I_T A_T I_S A_S I_C Q (wp_R_readLatches_L2 I_T A_T I_C Q X2 n2) X2 hC ih hX2 I_R A_R u_5 (va_up A_C 1 (upd (A_C 1) (v2).toNatClampNeg ((u_5 2) >>> ((1 : Int32) &&& 31)))) v2 hw)
          · have hw := hw.1 cd
            refine vv_iconst hC d_R_readLatches_54 (v := (0 : Int32)) (by decide) ?_
            exact vv_zret hC d_R_readLatches_55 rfl (I_R, A_R, u_5, A_C) hw rfl
      · have hw := hw.2 cd
        refine vv_aload_n hC d_R_readLatches_17 1 rfl rfl ?_
        refine vv_get hC (v := .ref (a_C 2)) hin_C 12 7 tb_177 d_R_readLatches_18 rfl rfl (by decide) rfl rfl ?_
        refine vv_iload_n hC d_R_readLatches_21 2 rfl rfl ?_
        refine vv_aload_n hC d_R_readLatches_22 1 rfl rfl ?_
        refine vv_get hC (v := .int (I_C 1)) hin_C 12 1 tb_155 d_R_readLatches_23 rfl rfl (by decide) rfl rfl ?_
        refine vv_iload_n hC d_R_readLatches_26 2 rfl rfl ?_
        refine vv_iadd hC d_R_readLatches_27 ?_
        refine vv_iconst hC d_R_readLatches_28 (v := (1 : Int32)) (by decide) ?_
        refine vv_iadd hC d_R_readLatches_29 ?_
        obtain ⟨hin_18, hw⟩ := hw
        refine vv_iast hC 14 0 d_R_readLatches_30 rfl rfl hin_18 (ws2 := kc_R cA a_R a_U a_S I_R A_R ++ kc_U cA a_U a_T I_U ++ kc_T cA a_T I_T A_T ++ kc_S cA a_S I_S A_S ++ kc_C cA a_C I_C (va_up A_C 1 (upd (A_C 1) (v2).toNatClampNeg (((I_C 1) + v2) + (1 : Int32))))) (st_RUTSC_CA1 ..) ?_
        refine vv_goto hC 71 d_R_readLatches_31 (by decide) ?_
        exact vv_sub [0, 1, 2] (by rfl) (l_R_readLatches_b71 a_R a_U a_T a_S a_C I_T A_T I_S A_S I_C Q (wp_R_readLatches_L2 I_T A_T I_C Q X2 n2) X2 hC ih hX2 I_R A_R I_U (va_up A_C 1 (upd (A_C 1) (v2).toNatClampNeg (((I_C 1) + v2) + (1 : Int32)))) v2 hw)
set_option maxHeartbeats 4000000 in
set_option maxRecDepth 100000 in
theorem c_R_readLatches (l : Launch) (D : va_G) (cA : Nat → ClassId) (sx : Nat → Nat) (a_R a_U a_T a_S a_C : Nat → Nat) (I_R : (Nat → Int32)) (A_R : (Nat → Nat → Int32)) (I_U : (Nat → Int32)) (I_T : (Nat → Int32)) (A_T : (Nat → Nat → Int32)) (I_S : (Nat → Int32)) (A_S : (Nat → Nat → Int32)) (I_C : (Nat → Int32)) (A_C : (Nat → Nat → Int32)) (Q : Int32 → (Nat → Int32) → (Nat → Nat → Int32) → (Nat → Int32) → (Nat → Nat → Int32) → Prop) (hw : wp_R_readLatches I_R A_R I_U I_T A_T I_C A_C Q) : MetI l y_R_readLatches (Cond.code y_R_readLatches b_R_readLatches 3 (some .boolean) :: TB) ({ frames := 4, cells := 0, slots := 0, locals := 89 } : Room) D vwCl (tyl cA) (SPl sx) [.ref (a_R 0), .ref (a_C 0)] (kc_R cA a_R a_U a_S I_R A_R ++ kc_U cA a_U a_T I_U ++ kc_T cA a_T I_T A_T ++ kc_S cA a_S I_S A_S ++ kc_C cA a_C I_C A_C) (fun (r : Int32) (u : (Nat → Int32) × (Nat → Nat → Int32) × (Nat → Int32) × (Nat → Nat → Int32)) => Q r u.1 u.2.1 u.2.2.1 u.2.2.2) (fun u : (Nat → Int32) × (Nat → Nat → Int32) × (Nat → Int32) × (Nat → Nat → Int32) => kc_R cA a_R a_U a_S u.1 u.2.1 ++ kc_U cA a_U a_T u.2.2.1 ++ kc_T cA a_T I_T A_T ++ kc_S cA a_S I_S A_S ++ kc_C cA a_C I_C u.2.2.2) := by
  refine vv_entryI (cc := b_R_readLatches) (own := R_R) (L := [(0, .ref (a_R 0)), (1, .ref (a_C 0))]) (by decide) rfl rfl (Nat.le_of_ble_eq_true rfl) rfl (fun p e s m args below meth c A hC => ?_)
  unfold wp_R_readLatches at hw
  refine vv_iconst hC d_R_readLatches_0 (v := (0 : Int32)) (by decide) ?_
  refine vv_istore_n hC d_R_readLatches_1 rfl (by decide) [1, 2, 0] (L2 := [(0, .ref (a_R 0)), (1, .ref (a_C 0)), (2, .int (0 : Int32))]) rfl ?_
  obtain ⟨m2, hw⟩ := hw
  refine vv_sub [0, 1, 2] (by rfl) (l_R_readLatches_L2 a_R a_U a_T a_S a_C I_T A_T I_S A_S I_C Q _ hC (fun I_R_19 A_R_20 I_U_21 A_C_22 hw => ?_) m2 I_R A_R I_U A_C (0 : Int32) hw)
  refine vv_iconst hC d_R_readLatches_124 (v := (1 : Int32)) (by decide) ?_
  exact vv_zret hC d_R_readLatches_125 rfl (I_R_19, A_R_20, I_U_21, A_C_22) hw rfl
set_option maxHeartbeats 4000000 in
set_option maxRecDepth 100000 in
theorem l_R_readOutputs_L2 {p : Program} {l : Launch} {e : Env} {s : State} {m : MethodId} {args : Array Value} {below : List Frame} {meth : Method} {c : Code} {D : va_G} {cA : Nat → ClassId} {sx : Nat → Nat} {A : Nat → Prop} (a_R a_U a_T a_S a_C : Nat → Nat) (I_T : (Nat → Int32)) (A_T : (Nat → Nat → Int32)) (I_S : (Nat → Int32)) (A_S : (Nat → Nat → Int32)) (I_C : (Nat → Int32)) (Q : Int32 → (Nat → Int32) → (Nat → Nat → Int32) → (Nat → Int32) → (Nat → Nat → Int32) → Prop) (X2 : (Nat → Int32) → (Nat → Nat → Int32) → (Nat → Int32) → (Nat → Nat → Int32) → Prop) (hC : CX p s m args meth c b_R_readOutputs R_R TB 3 D vwCl (tyl cA) A (SPl sx) (some .boolean)) (hX2 : ∀ (I_R : (Nat → Int32)) (A_R : (Nat → Nat → Int32)) (I_U : (Nat → Int32)) (A_C : (Nat → Nat → Int32)), X2 I_R A_R I_U A_C → VV p l e ({ frames := 4, cells := 0, slots := 0, locals := 87 } : Room) s m args below meth c 3 D vwCl A 0 0 (QI below args s D vwCl (tyl cA) A (fun (r : Int32) (u : (Nat → Int32) × (Nat → Nat → Int32) × (Nat → Int32) × (Nat → Nat → Int32)) => Q r u.1 u.2.1 u.2.2.1 u.2.2.2) (fun u : (Nat → Int32) × (Nat → Nat → Int32) × (Nat → Int32) × (Nat → Nat → Int32) => kc_R cA a_R a_U a_S u.1 u.2.1 ++ kc_U cA a_U a_T u.2.2.1 ++ kc_T cA a_T I_T A_T ++ kc_S cA a_S I_S A_S ++ kc_C cA a_C I_C u.2.2.2)) (kc_R cA a_R a_U a_S I_R A_R ++ kc_U cA a_U a_T I_U ++ kc_T cA a_T I_T A_T ++ kc_S cA a_S I_S A_S ++ kc_C cA a_C I_C A_C) 51 [] []) : ∀ (n2 : Nat) (I_R : (Nat → Int32)) (A_R : (Nat → Nat → Int32)) (I_U : (Nat → Int32)) (A_C : (Nat → Nat → Int32)) (v2 : Int32), wp_R_readOutputs_L2 I_T A_T I_C Q X2 n2 I_R A_R I_U A_C v2 → VV p l e ({ frames := 4, cells := 0, slots := 0, locals := 87 } : Room) s m args below meth c 3 D vwCl A 0 0 (QI below args s D vwCl (tyl cA) A (fun (r : Int32) (u : (Nat → Int32) × (Nat → Nat → Int32) × (Nat → Int32) × (Nat → Nat → Int32)) => Q r u.1 u.2.1 u.2.2.1 u.2.2.2) (fun u : (Nat → Int32) × (Nat → Nat → Int32) × (Nat → Int32) × (Nat → Nat → Int32) => kc_R cA a_R a_U a_S u.1 u.2.1 ++ kc_U cA a_U a_T u.2.2.1 ++ kc_T cA a_T I_T A_T ++ kc_S cA a_S I_S A_S ++ kc_C cA a_C I_C u.2.2.2)) (kc_R cA a_R a_U a_S I_R A_R ++ kc_U cA a_U a_T I_U ++ kc_T cA a_T I_T A_T ++ kc_S cA a_S I_S A_S ++ kc_C cA a_C I_C A_C) 2 [(0, .ref (a_R 0)), (1, .ref (a_C 0)), (2, .int v2)] [] := by
  intro n2
  induction n2 with
  | zero =>
    intro I_R A_R I_U A_C v2 hw
    exact absurd hw (fun z => z)
  | succ n2 ih =>
    intro I_R A_R I_U A_C v2 hw
    unfold wp_R_readOutputs_L2 at hw
    refine vv_iload_n hC d_R_readOutputs_2 2 rfl rfl ?_
    refine vv_aload_n hC d_R_readOutputs_3 1 rfl rfl ?_
    refine vv_get hC (v := .int (I_C 3)) hin_C 12 3 tb_163 d_R_readOutputs_4 rfl rfl (by decide) rfl rfl ?_
    refine vv_icmp_ge hC 51 d_R_readOutputs_7 (by decide) (fun cd => ?_) (fun cd => ?_)
    · have hw := hw.1 cd
      exact vv_sub [] (by rfl) (hX2 I_R A_R I_U A_C hw)
    · have hw := hw.2 cd
      refine vv_aload_n hC d_R_readOutputs_10 0 rfl rfl ?_
      refine vv_aload_n hC d_R_readOutputs_11 1 rfl rfl ?_
      refine vv_callVI (wr := []) hC (c_R_readUse l D cA sx a_R a_U a_T a_S a_C I_R A_R I_U I_T A_T I_S A_S I_C A_C _ hw) (cw_R_141 hC) d_R_readOutputs_12 [] [0, 1, 2, 3, 4, 5, 6, 7, 8, 9, 10, 11, 12, 13, 14, 15, 16, 17, 18, 19, 20, 21, 22, 23, 24] [] [0, 1, 2, 3, 4, 5, 6, 7, 8, 9, 10, 11, 12, 13, 14, 15, 16, 17, 18, 19, 20, 21, 22, 23, 24] (fun u_2 : (Nat → Int32) × (Nat → Nat → Int32) × (Nat → Int32) => kc_R cA a_R a_U a_S u_2.1 u_2.2.1 ++ kc_U cA a_U a_T u_2.2.2 ++ kc_T cA a_T I_T A_T ++ kc_S cA a_S I_S A_S ++ kc_C cA a_C I_C A_C) ⟨Nat.zero_le _, Nat.zero_le _⟩ rfl rfl (fun _ => rfl) rfl rfl rfl rfl rfl rfl rfl rfl (Nat.le_of_ble_eq_true rfl) (fun r_1 u_2 hw => ?_)
      refine vv_if_eq hC 30 d_R_readOutputs_15 (by decide) (fun cd => ?_) (fun cd => ?_)
      · have hw := hw.1 cd
        refine vv_iconst hC d_R_readOutputs_30 (v := (0 : Int32)) (by decide) ?_
        exact vv_zret hC d_R_readOutputs_31 rfl (u_2.1, u_2.2.1, u_2.2.2, A_C) hw rfl
      · have hw := hw.2 cd
        refine vv_aload_n hC d_R_readOutputs_18 0 rfl rfl ?_
        refine vv_get hC (v := .ref (a_U 0)) hin_R 0 0 tb_104 d_R_readOutputs_19 rfl rfl (by decide) rfl rfl ?_
        refine vv_bipush hC d_R_readOutputs_22 (v := (10 : Int32)) (by decide) ?_
        refine vv_callVI (wr := kc_R cA a_R a_U a_S u_2.1 u_2.2.1 ++ kc_S cA a_S I_S A_S ++ kc_C cA a_C I_C A_C) hC (c_U_expect l D cA sx a_U a_T u_2.2.2 I_T A_T (10 : Int32) _ hw) (cw_R_84 hC) d_R_readOutputs_24 [] [3, 4, 5, 6] [0, 1, 2, 7, 8, 9, 10, 11, 12, 13, 14, 15, 16, 17, 18, 19, 20, 21, 22, 23, 24] [0, 1, 2, 21, 22, 23, 24, 3, 4, 5, 6, 7, 8, 9, 10, 11, 12, 13, 14, 15, 16, 17, 18, 19, 20] (fun u_7 : (Nat → Int32) => kc_R cA a_R a_U a_S u_2.1 u_2.2.1 ++ kc_U cA a_U a_T u_7 ++ kc_T cA a_T I_T A_T ++ kc_S cA a_S I_S A_S ++ kc_C cA a_C I_C A_C) ⟨Nat.zero_le _, Nat.zero_le _⟩ rfl rfl (fun _ => rfl) rfl rfl rfl rfl rfl rfl rfl rfl (Nat.le_of_ble_eq_true rfl) (fun r_6 u_7 hw => ?_)
        refine vv_if_ne hC 32 d_R_readOutputs_27 (by decide) (fun cd => ?_) (fun cd => ?_)
        · have hw := hw.2 cd
          refine vv_aload_n hC d_R_readOutputs_32 1 rfl rfl ?_
          refine vv_get hC (v := .ref (a_C 4)) hin_C 12 9 tb_184 d_R_readOutputs_33 rfl rfl (by decide) rfl rfl ?_
          refine vv_iload_n hC d_R_readOutputs_36 2 rfl rfl ?_
          refine vv_aload_n hC d_R_readOutputs_37 0 rfl rfl ?_
          refine vv_get hC (v := .ref (a_U 0)) hin_R 0 0 tb_104 d_R_readOutputs_38 rfl rfl (by decide) rfl rfl ?_
          refine vv_get hC (v := .int (u_7 2)) hin_U 3 3 tb_86 d_R_readOutputs_41 rfl rfl (by decide) rfl rfl ?_
          obtain ⟨hin_9, hw⟩ := hw
          refine vv_iast hC 16 0 d_R_readOutputs_44 rfl rfl hin_9 (ws2 := kc_R cA a_R a_U a_S u_2.1 u_2.2.1 ++ kc_U cA a_U a_T u_7 ++ kc_T cA a_T I_T A_T ++ kc_S cA a_S I_S A_S ++ kc_C cA a_C I_C (va_up A_C 3 (upd (A_C 3) (v2).toNatClampNeg (u_7 2)))) (st_RUTSC_CA3 ..) ?_
          refine vv_iinc hC d_R_readOutputs_45 2 rfl (v := (v2 + (1 : Int32))) rfl (by decide) [1, 2, 0] (L2 := [(0, .ref (a_R 0)), (1, .ref (a_C 0)), (2, .int (v2 + (1 : Int32)))]) rfl ?_
          refine vv_goto hC 2 d_R_readOutputs_48 (by decide) ?_
          exact vv_sub [0, 1, 2] (by rfl) (ih u_2.1 u_2.2.1 u_7 (va_up A_C 3 (upd (A_C 3) (v2).toNatClampNeg (u_7 2))) (v2 + (1 : Int32)) hw)
        · have hw := hw.1 cd
          refine vv_iconst hC d_R_readOutputs_30 (v := (0 : Int32)) (by decide) ?_
          exact vv_zret hC d_R_readOutputs_31 rfl (u_2.1, u_2.2.1, u_7, A_C) hw rfl
set_option maxHeartbeats 4000000 in
set_option maxRecDepth 100000 in
theorem c_R_readOutputs (l : Launch) (D : va_G) (cA : Nat → ClassId) (sx : Nat → Nat) (a_R a_U a_T a_S a_C : Nat → Nat) (I_R : (Nat → Int32)) (A_R : (Nat → Nat → Int32)) (I_U : (Nat → Int32)) (I_T : (Nat → Int32)) (A_T : (Nat → Nat → Int32)) (I_S : (Nat → Int32)) (A_S : (Nat → Nat → Int32)) (I_C : (Nat → Int32)) (A_C : (Nat → Nat → Int32)) (Q : Int32 → (Nat → Int32) → (Nat → Nat → Int32) → (Nat → Int32) → (Nat → Nat → Int32) → Prop) (hw : wp_R_readOutputs I_R A_R I_U I_T A_T I_C A_C Q) : MetI l y_R_readOutputs (Cond.code y_R_readOutputs b_R_readOutputs 3 (some .boolean) :: TB) ({ frames := 4, cells := 0, slots := 0, locals := 87 } : Room) D vwCl (tyl cA) (SPl sx) [.ref (a_R 0), .ref (a_C 0)] (kc_R cA a_R a_U a_S I_R A_R ++ kc_U cA a_U a_T I_U ++ kc_T cA a_T I_T A_T ++ kc_S cA a_S I_S A_S ++ kc_C cA a_C I_C A_C) (fun (r : Int32) (u : (Nat → Int32) × (Nat → Nat → Int32) × (Nat → Int32) × (Nat → Nat → Int32)) => Q r u.1 u.2.1 u.2.2.1 u.2.2.2) (fun u : (Nat → Int32) × (Nat → Nat → Int32) × (Nat → Int32) × (Nat → Nat → Int32) => kc_R cA a_R a_U a_S u.1 u.2.1 ++ kc_U cA a_U a_T u.2.2.1 ++ kc_T cA a_T I_T A_T ++ kc_S cA a_S I_S A_S ++ kc_C cA a_C I_C u.2.2.2) := by
  refine vv_entryI (cc := b_R_readOutputs) (own := R_R) (L := [(0, .ref (a_R 0)), (1, .ref (a_C 0))]) (by decide) rfl rfl (Nat.le_of_ble_eq_true rfl) rfl (fun p e s m args below meth c A hC => ?_)
  unfold wp_R_readOutputs at hw
  refine vv_iconst hC d_R_readOutputs_0 (v := (0 : Int32)) (by decide) ?_
  refine vv_istore_n hC d_R_readOutputs_1 rfl (by decide) [1, 2, 0] (L2 := [(0, .ref (a_R 0)), (1, .ref (a_C 0)), (2, .int (0 : Int32))]) rfl ?_
  obtain ⟨m2, hw⟩ := hw
  refine vv_sub [0, 1, 2] (by rfl) (l_R_readOutputs_L2 a_R a_U a_T a_S a_C I_T A_T I_S A_S I_C Q _ hC (fun I_R_10 A_R_11 I_U_12 A_C_13 hw => ?_) m2 I_R A_R I_U A_C (0 : Int32) hw)
  refine vv_iconst hC d_R_readOutputs_51 (v := (1 : Int32)) (by decide) ?_
  exact vv_zret hC d_R_readOutputs_52 rfl (I_R_10, A_R_11, I_U_12, A_C_13) hw rfl
set_option maxHeartbeats 4000000 in
set_option maxRecDepth 100000 in
theorem l_R_readTextAnds_L2 {p : Program} {l : Launch} {e : Env} {s : State} {m : MethodId} {args : Array Value} {below : List Frame} {meth : Method} {c : Code} {D : va_G} {cA : Nat → ClassId} {sx : Nat → Nat} {A : Nat → Prop} (a_R a_U a_T a_S a_C : Nat → Nat) (I_T : (Nat → Int32)) (A_T : (Nat → Nat → Int32)) (I_S : (Nat → Int32)) (A_S : (Nat → Nat → Int32)) (I_C : (Nat → Int32)) (Q : Int32 → (Nat → Int32) → (Nat → Nat → Int32) → (Nat → Int32) → (Nat → Nat → Int32) → Prop) (X2 : (Nat → Int32) → (Nat → Nat → Int32) → (Nat → Int32) → (Nat → Nat → Int32) → Prop) (hC : CX p s m args meth c b_R_readTextAnds R_R TB 3 D vwCl (tyl cA) A (SPl sx) (some .boolean)) (hX2 : ∀ (I_R : (Nat → Int32)) (A_R : (Nat → Nat → Int32)) (I_U : (Nat → Int32)) (A_C : (Nat → Nat → Int32)), X2 I_R A_R I_U A_C → VV p l e ({ frames := 4, cells := 0, slots := 0, locals := 89 } : Room) s m args below meth c 3 D vwCl A 0 0 (QI below args s D vwCl (tyl cA) A (fun (r : Int32) (u : (Nat → Int32) × (Nat → Nat → Int32) × (Nat → Int32) × (Nat → Nat → Int32)) => Q r u.1 u.2.1 u.2.2.1 u.2.2.2) (fun u : (Nat → Int32) × (Nat → Nat → Int32) × (Nat → Int32) × (Nat → Nat → Int32) => kc_R cA a_R a_U a_S u.1 u.2.1 ++ kc_U cA a_U a_T u.2.2.1 ++ kc_T cA a_T I_T A_T ++ kc_S cA a_S I_S A_S ++ kc_C cA a_C I_C u.2.2.2)) (kc_R cA a_R a_U a_S I_R A_R ++ kc_U cA a_U a_T I_U ++ kc_T cA a_T I_T A_T ++ kc_S cA a_S I_S A_S ++ kc_C cA a_C I_C A_C) 135 [] []) : ∀ (n2 : Nat) (I_R : (Nat → Int32)) (A_R : (Nat → Nat → Int32)) (I_U : (Nat → Int32)) (A_C : (Nat → Nat → Int32)) (v2 : Int32), wp_R_readTextAnds_L2 I_T A_T I_C Q X2 n2 I_R A_R I_U A_C v2 → VV p l e ({ frames := 4, cells := 0, slots := 0, locals := 89 } : Room) s m args below meth c 3 D vwCl A 0 0 (QI below args s D vwCl (tyl cA) A (fun (r : Int32) (u : (Nat → Int32) × (Nat → Nat → Int32) × (Nat → Int32) × (Nat → Nat → Int32)) => Q r u.1 u.2.1 u.2.2.1 u.2.2.2) (fun u : (Nat → Int32) × (Nat → Nat → Int32) × (Nat → Int32) × (Nat → Nat → Int32) => kc_R cA a_R a_U a_S u.1 u.2.1 ++ kc_U cA a_U a_T u.2.2.1 ++ kc_T cA a_T I_T A_T ++ kc_S cA a_S I_S A_S ++ kc_C cA a_C I_C u.2.2.2)) (kc_R cA a_R a_U a_S I_R A_R ++ kc_U cA a_U a_T I_U ++ kc_T cA a_T I_T A_T ++ kc_S cA a_S I_S A_S ++ kc_C cA a_C I_C A_C) 2 [(0, .ref (a_R 0)), (1, .ref (a_C 0)), (2, .int v2)] [] := by
  intro n2
  induction n2 with
  | zero =>
    intro I_R A_R I_U A_C v2 hw
    exact absurd hw (fun z => z)
  | succ n2 ih =>
    intro I_R A_R I_U A_C v2 hw
    unfold wp_R_readTextAnds_L2 at hw
    refine vv_iload_n hC d_R_readTextAnds_2 2 rfl rfl ?_
    refine vv_aload_n hC d_R_readTextAnds_3 1 rfl rfl ?_
    refine vv_get hC (v := .int (I_C 4)) hin_C 12 4 tb_169 d_R_readTextAnds_4 rfl rfl (by decide) rfl rfl ?_
    refine vv_icmp_ge hC 135 d_R_readTextAnds_7 (by decide) (fun cd => ?_) (fun cd => ?_)
    · have hw := hw.1 cd
      exact vv_sub [] (by rfl) (hX2 I_R A_R I_U A_C hw)
    · have hw := hw.2 cd
      refine vv_aload_n hC d_R_readTextAnds_10 0 rfl rfl ?_
      refine vv_aload_n hC d_R_readTextAnds_11 1 rfl rfl ?_
      refine vv_callVI (wr := []) hC (c_R_readDefinition l D cA sx a_R a_U a_T a_S a_C I_R A_R I_U I_T A_T I_S A_S I_C A_C _ hw) (cw_R_131 hC) d_R_readTextAnds_12 [] [0, 1, 2, 3, 4, 5, 6, 7, 8, 9, 10, 11, 12, 13, 14, 15, 16, 17, 18, 19, 20, 21, 22, 23, 24] [] [0, 1, 2, 3, 4, 5, 6, 7, 8, 9, 10, 11, 12, 13, 14, 15, 16, 17, 18, 19, 20, 21, 22, 23, 24] (fun u_2 : (Nat → Int32) => kc_R cA a_R a_U a_S I_R A_R ++ kc_U cA a_U a_T u_2 ++ kc_T cA a_T I_T A_T ++ kc_S cA a_S I_S A_S ++ kc_C cA a_C I_C A_C) ⟨Nat.zero_le _, Nat.zero_le _⟩ rfl rfl (fun _ => rfl) rfl rfl rfl rfl rfl rfl rfl rfl (Nat.le_of_ble_eq_true rfl) (fun r_1 u_2 hw => ?_)
      refine vv_if_eq hC 30 d_R_readTextAnds_15 (by decide) (fun cd => ?_) (fun cd => ?_)
      · have hw := hw.1 cd
        refine vv_iconst hC d_R_readTextAnds_30 (v := (0 : Int32)) (by decide) ?_
        exact vv_zret hC d_R_readTextAnds_31 rfl (I_R, A_R, u_2, A_C) hw rfl
      · have hw := hw.2 cd
        refine vv_aload_n hC d_R_readTextAnds_18 0 rfl rfl ?_
        refine vv_get hC (v := .ref (a_U 0)) hin_R 0 0 tb_104 d_R_readTextAnds_19 rfl rfl (by decide) rfl rfl ?_
        refine vv_bipush hC d_R_readTextAnds_22 (v := (32 : Int32)) (by decide) ?_
        refine vv_callVI (wr := kc_R cA a_R a_U a_S I_R A_R ++ kc_S cA a_S I_S A_S ++ kc_C cA a_C I_C A_C) hC (c_U_expect l D cA sx a_U a_T u_2 I_T A_T (32 : Int32) _ hw) (cw_R_84 hC) d_R_readTextAnds_24 [] [3, 4, 5, 6] [0, 1, 2, 7, 8, 9, 10, 11, 12, 13, 14, 15, 16, 17, 18, 19, 20, 21, 22, 23, 24] [0, 1, 2, 21, 22, 23, 24, 3, 4, 5, 6, 7, 8, 9, 10, 11, 12, 13, 14, 15, 16, 17, 18, 19, 20] (fun u_5 : (Nat → Int32) => kc_R cA a_R a_U a_S I_R A_R ++ kc_U cA a_U a_T u_5 ++ kc_T cA a_T I_T A_T ++ kc_S cA a_S I_S A_S ++ kc_C cA a_C I_C A_C) ⟨Nat.zero_le _, Nat.zero_le _⟩ rfl rfl (fun _ => rfl) rfl rfl rfl rfl rfl rfl rfl rfl (Nat.le_of_ble_eq_true rfl) (fun r_4 u_5 hw => ?_)
        refine vv_if_ne hC 32 d_R_readTextAnds_27 (by decide) (fun cd => ?_) (fun cd => ?_)
        · have hw := hw.2 cd
          refine vv_aload_n hC d_R_readTextAnds_32 1 rfl rfl ?_
          refine vv_get hC (v := .ref (a_C 5)) hin_C 12 10 tb_189 d_R_readTextAnds_33 rfl rfl (by decide) rfl rfl ?_
          refine vv_iload_n hC d_R_readTextAnds_36 2 rfl rfl ?_
          refine vv_aload_n hC d_R_readTextAnds_37 0 rfl rfl ?_
          refine vv_get hC (v := .ref (a_U 0)) hin_R 0 0 tb_104 d_R_readTextAnds_38 rfl rfl (by decide) rfl rfl ?_
          refine vv_get hC (v := .int (u_5 2)) hin_U 3 3 tb_86 d_R_readTextAnds_41 rfl rfl (by decide) rfl rfl ?_
          refine vv_iconst hC d_R_readTextAnds_44 (v := (1 : Int32)) (by decide) ?_
          refine vv_ishr hC d_R_readTextAnds_45 ?_
          obtain ⟨hin_7, hw⟩ := hw
          refine vv_iast hC 17 0 d_R_readTextAnds_46 rfl rfl hin_7 (ws2 := kc_R cA a_R a_U a_S I_R A_R ++ kc_U cA a_U a_T u_5 ++ kc_T cA a_T I_T A_T ++ kc_S cA a_S I_S A_S ++ kc_C cA a_C I_C (va_up A_C 4 (upd (A_C 4) (v2).toNatClampNeg ((u_5 2) >>> ((1 : Int32) &&& 31))))) (st_RUTSC_CA4 ..) ?_
          refine vv_aload_n hC d_R_readTextAnds_47 1 rfl rfl ?_
          refine vv_get hC (v := .ref (a_C 9)) hin_C 12 14 tb_202 d_R_readTextAnds_48 rfl rfl (by decide) rfl rfl ?_
          refine vv_aload_n hC d_R_readTextAnds_51 1 rfl rfl ?_
          refine vv_get hC (v := .ref (a_C 5)) hin_C 12 10 tb_189 d_R_readTextAnds_52 rfl rfl (by decide) rfl rfl ?_
          refine vv_iload_n hC d_R_readTextAnds_55 2 rfl rfl ?_
          refine vv_iald hC 17 0 d_R_readTextAnds_56 rfl rfl hin_7 ?_
          refine vv_iconst hC d_R_readTextAnds_57 (v := (1 : Int32)) (by decide) ?_
          obtain ⟨hin_8, hw⟩ := hw
          refine vv_zast hC 21 1 d_R_readTextAnds_58 rfl rfl hin_8 (ws2 := kc_R cA a_R a_U a_S I_R A_R ++ kc_U cA a_U a_T u_5 ++ kc_T cA a_T I_T A_T ++ kc_S cA a_S I_S A_S ++ kc_C cA a_C I_C (va_up (va_up A_C 4 (upd (A_C 4) (v2).toNatClampNeg ((u_5 2) >>> ((1 : Int32) &&& 31)))) 8 (upd (A_C 8) (((upd (A_C 4) (v2).toNatClampNeg ((u_5 2) >>> ((1 : Int32) &&& 31))) (v2).toNatClampNeg)).toNatClampNeg (1 : Int32)))) (st_RUTSC_CA8 ..) ?_
          refine vv_aload_n hC d_R_readTextAnds_59 0 rfl rfl ?_
          refine vv_aload_n hC d_R_readTextAnds_60 1 rfl rfl ?_
          refine vv_callVI (wr := []) hC (c_R_readUse l D cA sx a_R a_U a_T a_S a_C I_R A_R u_5 I_T A_T I_S A_S I_C (va_up (va_up A_C 4 (upd (A_C 4) (v2).toNatClampNeg ((u_5 2) >>> ((1 : Int32) &&& 31)))) 8 (upd (A_C 8) (((upd (A_C 4) (v2).toNatClampNeg ((u_5 2) >>> ((1 : Int32) &&& 31))) (v2).toNatClampNeg)).toNatClampNeg (1 : Int32))) _ hw) (cw_R_141 hC) d_R_readTextAnds_61 [] [0, 1, 2, 3, 4, 5, 6, 7, 8, 9, 10, 11, 12, 13, 14, 15, 16, 17, 18, 19, 20, 21, 22, 23, 24] [] [0, 1, 2, 3, 4, 5, 6, 7, 8, 9, 10, 11, 12, 13, 14, 15, 16, 17, 18, 19, 20, 21, 22, 23, 24] (fun u_10 : (Nat → Int32) × (Nat → Nat → Int32) × (Nat → Int32) => kc_R cA a_R a_U a_S u_10.1 u_10.2.1 ++ kc_U cA a_U a_T u_10.2.2 ++ kc_T cA a_T I_T A_T ++ kc_S cA a_S I_S A_S ++ kc_C cA a_C I_C (va_up (va_up A_C 4 (upd (A_C 4) (v2).toNatClampNeg ((u_5 2) >>> ((1 : Int32) &&& 31)))) 8 (upd (A_C 8) (((upd (A_C 4) (v2).toNatClampNeg ((u_5 2) >>> ((1 : Int32) &&& 31))) (v2).toNatClampNeg)).toNatClampNeg (1 : Int32)))) ⟨Nat.zero_le _, Nat.zero_le _⟩ rfl rfl (fun _ => rfl) rfl rfl rfl rfl rfl rfl rfl rfl (Nat.le_of_ble_eq_true rfl) (fun r_9 u_10 hw => ?_)
          refine vv_if_eq hC 79 d_R_readTextAnds_64 (by decide) (fun cd => ?_) (fun cd => ?_)
          · have hw := hw.1 cd
            refine vv_iconst hC d_R_readTextAnds_79 (v := (0 : Int32)) (by decide) ?_
            exact vv_zret hC d_R_readTextAnds_80 rfl (u_10.1, u_10.2.1, u_10.2.2, (va_up (va_up A_C 4 (upd (A_C 4) (v2).toNatClampNeg ((u_5 2) >>> ((1 : Int32) &&& 31)))) 8 (upd (A_C 8) (((upd (A_C 4) (v2).toNatClampNeg ((u_5 2) >>> ((1 : Int32) &&& 31))) (v2).toNatClampNeg)).toNatClampNeg (1 : Int32)))) hw rfl
          · have hw := hw.2 cd
            refine vv_aload_n hC d_R_readTextAnds_67 0 rfl rfl ?_
            refine vv_get hC (v := .ref (a_U 0)) hin_R 0 0 tb_104 d_R_readTextAnds_68 rfl rfl (by decide) rfl rfl ?_
            refine vv_bipush hC d_R_readTextAnds_71 (v := (32 : Int32)) (by decide) ?_
            refine vv_callVI (wr := kc_R cA a_R a_U a_S u_10.1 u_10.2.1 ++ kc_S cA a_S I_S A_S ++ kc_C cA a_C I_C (va_up (va_up A_C 4 (upd (A_C 4) (v2).toNatClampNeg ((u_5 2) >>> ((1 : Int32) &&& 31)))) 8 (upd (A_C 8) (((upd (A_C 4) (v2).toNatClampNeg ((u_5 2) >>> ((1 : Int32) &&& 31))) (v2).toNatClampNeg)).toNatClampNeg (1 : Int32)))) hC (c_U_expect l D cA sx a_U a_T u_10.2.2 I_T A_T (32 : Int32) _ hw) (cw_R_84 hC) d_R_readTextAnds_73 [] [3, 4, 5, 6] [0, 1, 2, 7, 8, 9, 10, 11, 12, 13, 14, 15, 16, 17, 18, 19, 20, 21, 22, 23, 24] [0, 1, 2, 21, 22, 23, 24, 3, 4, 5, 6, 7, 8, 9, 10, 11, 12, 13, 14, 15, 16, 17, 18, 19, 20] (fun u_15 : (Nat → Int32) => kc_R cA a_R a_U a_S u_10.1 u_10.2.1 ++ kc_U cA a_U a_T u_15 ++ kc_T cA a_T I_T A_T ++ kc_S cA a_S I_S A_S ++ kc_C cA a_C I_C (va_up (va_up A_C 4 (upd (A_C 4) (v2).toNatClampNeg ((u_5 2) >>> ((1 : Int32) &&& 31)))) 8 (upd (A_C 8) (((upd (A_C 4) (v2).toNatClampNeg ((u_5 2) >>> ((1 : Int32) &&& 31))) (v2).toNatClampNeg)).toNatClampNeg (1 : Int32)))) ⟨Nat.zero_le _, Nat.zero_le _⟩ rfl rfl (fun _ => rfl) rfl rfl rfl rfl rfl rfl rfl rfl (Nat.le_of_ble_eq_true rfl) (fun r_14 u_15 hw => ?_)
            refine vv_if_ne hC 81 d_R_readTextAnds_76 (by decide) (fun cd => ?_) (fun cd => ?_)
            · have hw := hw.2 cd
              refine vv_aload_n hC d_R_readTextAnds_81 1 rfl rfl ?_
              refine vv_get hC (v := .ref (a_C 6)) hin_C 12 11 tb_193 d_R_readTextAnds_82 rfl rfl (by decide) rfl rfl ?_
              refine vv_iload_n hC d_R_readTextAnds_85 2 rfl rfl ?_
              refine vv_aload_n hC d_R_readTextAnds_86 0 rfl rfl ?_
              refine vv_get hC (v := .ref (a_U 0)) hin_R 0 0 tb_104 d_R_readTextAnds_87 rfl rfl (by decide) rfl rfl ?_
              refine vv_get hC (v := .int (u_15 2)) hin_U 3 3 tb_86 d_R_readTextAnds_90 rfl rfl (by decide) rfl rfl ?_
              refine vv_iast hC 18 0 d_R_readTextAnds_93 rfl rfl hin_7 (ws2 := kc_R cA a_R a_U a_S u_10.1 u_10.2.1 ++ kc_U cA a_U a_T u_15 ++ kc_T cA a_T I_T A_T ++ kc_S cA a_S I_S A_S ++ kc_C cA a_C I_C (va_up (va_up (va_up A_C 4 (upd (A_C 4) (v2).toNatClampNeg ((u_5 2) >>> ((1 : Int32) &&& 31)))) 8 (upd (A_C 8) (((upd (A_C 4) (v2).toNatClampNeg ((u_5 2) >>> ((1 : Int32) &&& 31))) (v2).toNatClampNeg)).toNatClampNeg (1 : Int32))) 5 (upd (A_C 5) (v2).toNatClampNeg (u_15 2)))) (st_RUTSC_CA5 ..) ?_
              refine vv_aload_n hC d_R_readTextAnds_94 0 rfl rfl ?_
              refine vv_aload_n hC d_R_readTextAnds_95 1 rfl rfl ?_
              refine vv_callVI (wr := []) hC (c_R_readUse l D cA sx a_R a_U a_T a_S a_C u_10.1 u_10.2.1 u_15 I_T A_T I_S A_S I_C (va_up (va_up (va_up A_C 4 (upd (A_C 4) (v2).toNatClampNeg ((u_5 2) >>> ((1 : Int32) &&& 31)))) 8 (upd (A_C 8) (((upd (A_C 4) (v2).toNatClampNeg ((u_5 2) >>> ((1 : Int32) &&& 31))) (v2).toNatClampNeg)).toNatClampNeg (1 : Int32))) 5 (upd (A_C 5) (v2).toNatClampNeg (u_15 2))) _ hw) (cw_R_141 hC) d_R_readTextAnds_96 [] [0, 1, 2, 3, 4, 5, 6, 7, 8, 9, 10, 11, 12, 13, 14, 15, 16, 17, 18, 19, 20, 21, 22, 23, 24] [] [0, 1, 2, 3, 4, 5, 6, 7, 8, 9, 10, 11, 12, 13, 14, 15, 16, 17, 18, 19, 20, 21, 22, 23, 24] (fun u_18 : (Nat → Int32) × (Nat → Nat → Int32) × (Nat → Int32) => kc_R cA a_R a_U a_S u_18.1 u_18.2.1 ++ kc_U cA a_U a_T u_18.2.2 ++ kc_T cA a_T I_T A_T ++ kc_S cA a_S I_S A_S ++ kc_C cA a_C I_C (va_up (va_up (va_up A_C 4 (upd (A_C 4) (v2).toNatClampNeg ((u_5 2) >>> ((1 : Int32) &&& 31)))) 8 (upd (A_C 8) (((upd (A_C 4) (v2).toNatClampNeg ((u_5 2) >>> ((1 : Int32) &&& 31))) (v2).toNatClampNeg)).toNatClampNeg (1 : Int32))) 5 (upd (A_C 5) (v2).toNatClampNeg (u_15 2)))) ⟨Nat.zero_le _, Nat.zero_le _⟩ rfl rfl (fun _ => rfl) rfl rfl rfl rfl rfl rfl rfl rfl (Nat.le_of_ble_eq_true rfl) (fun r_17 u_18 hw => ?_)
              refine vv_if_eq hC 114 d_R_readTextAnds_99 (by decide) (fun cd => ?_) (fun cd => ?_)
              · have hw := hw.1 cd
                refine vv_iconst hC d_R_readTextAnds_114 (v := (0 : Int32)) (by decide) ?_
                exact vv_zret hC d_R_readTextAnds_115 rfl (u_18.1, u_18.2.1, u_18.2.2, (va_up (va_up (va_up A_C 4 (upd (A_C 4) (v2).toNatClampNeg ((u_5 2) >>> ((1 : Int32) &&& 31)))) 8 (upd (A_C 8) (((upd (A_C 4) (v2).toNatClampNeg ((u_5 2) >>> ((1 : Int32) &&& 31))) (v2).toNatClampNeg)).toNatClampNeg (1 : Int32))) 5 (upd (A_C 5) (v2).toNatClampNeg (u_15 2)))) hw rfl
              · have hw := hw.2 cd
                refine vv_aload_n hC d_R_readTextAnds_102 0 rfl rfl ?_
                refine vv_get hC (v := .ref (a_U 0)) hin_R 0 0 tb_104 d_R_readTextAnds_103 rfl rfl (by decide) rfl rfl ?_
                refine vv_bipush hC d_R_readTextAnds_106 (v := (10 : Int32)) (by decide) ?_
                refine vv_callVI (wr := kc_R cA a_R a_U a_S u_18.1 u_18.2.1 ++ kc_S cA a_S I_S A_S ++ kc_C cA a_C I_C (va_up (va_up (va_up A_C 4 (upd (A_C 4) (v2).toNatClampNeg ((u_5 2) >>> ((1 : Int32) &&& 31)))) 8 (upd (A_C 8) (((upd (A_C 4) (v2).toNatClampNeg ((u_5 2) >>> ((1 : Int32) &&& 31))) (v2).toNatClampNeg)).toNatClampNeg (1 : Int32))) 5 (upd (A_C 5) (v2).toNatClampNeg (u_15 2)))) hC (c_U_expect l D cA sx a_U a_T u_18.2.2 I_T A_T (10 : Int32) _ hw) (cw_R_84 hC) d_R_readTextAnds_108 [] [3, 4, 5, 6] [0, 1, 2, 7, 8, 9, 10, 11, 12, 13, 14, 15, 16, 17, 18, 19, 20, 21, 22, 23, 24] [0, 1, 2, 21, 22, 23, 24, 3, 4, 5, 6, 7, 8, 9, 10, 11, 12, 13, 14, 15, 16, 17, 18, 19, 20] (fun u_23 : (Nat → Int32) => kc_R cA a_R a_U a_S u_18.1 u_18.2.1 ++ kc_U cA a_U a_T u_23 ++ kc_T cA a_T I_T A_T ++ kc_S cA a_S I_S A_S ++ kc_C cA a_C I_C (va_up (va_up (va_up A_C 4 (upd (A_C 4) (v2).toNatClampNeg ((u_5 2) >>> ((1 : Int32) &&& 31)))) 8 (upd (A_C 8) (((upd (A_C 4) (v2).toNatClampNeg ((u_5 2) >>> ((1 : Int32) &&& 31))) (v2).toNatClampNeg)).toNatClampNeg (1 : Int32))) 5 (upd (A_C 5) (v2).toNatClampNeg (u_15 2)))) ⟨Nat.zero_le _, Nat.zero_le _⟩ rfl rfl (fun _ => rfl) rfl rfl rfl rfl rfl rfl rfl rfl (Nat.le_of_ble_eq_true rfl) (fun r_22 u_23 hw => ?_)
                refine vv_if_ne hC 116 d_R_readTextAnds_111 (by decide) (fun cd => ?_) (fun cd => ?_)
                · have hw := hw.2 cd
                  refine vv_aload_n hC d_R_readTextAnds_116 1 rfl rfl ?_
                  refine vv_get hC (v := .ref (a_C 7)) hin_C 12 12 tb_197 d_R_readTextAnds_117 rfl rfl (by decide) rfl rfl ?_
                  refine vv_iload_n hC d_R_readTextAnds_120 2 rfl rfl ?_
                  refine vv_aload_n hC d_R_readTextAnds_121 0 rfl rfl ?_
                  refine vv_get hC (v := .ref (a_U 0)) hin_R 0 0 tb_104 d_R_readTextAnds_122 rfl rfl (by decide) rfl rfl ?_
                  refine vv_get hC (v := .int (u_23 2)) hin_U 3 3 tb_86 d_R_readTextAnds_125 rfl rfl (by decide) rfl rfl ?_
                  refine vv_iast hC 19 0 d_R_readTextAnds_128 rfl rfl hin_7 (ws2 := kc_R cA a_R a_U a_S u_18.1 u_18.2.1 ++ kc_U cA a_U a_T u_23 ++ kc_T cA a_T I_T A_T ++ kc_S cA a_S I_S A_S ++ kc_C cA a_C I_C (va_up (va_up (va_up (va_up A_C 4 (upd (A_C 4) (v2).toNatClampNeg ((u_5 2) >>> ((1 : Int32) &&& 31)))) 8 (upd (A_C 8) (((upd (A_C 4) (v2).toNatClampNeg ((u_5 2) >>> ((1 : Int32) &&& 31))) (v2).toNatClampNeg)).toNatClampNeg (1 : Int32))) 5 (upd (A_C 5) (v2).toNatClampNeg (u_15 2))) 6 (upd (A_C 6) (v2).toNatClampNeg (u_23 2)))) (st_RUTSC_CA6 ..) ?_
                  refine vv_iinc hC d_R_readTextAnds_129 2 rfl (v := (v2 + (1 : Int32))) rfl (by decide) [1, 2, 0] (L2 := [(0, .ref (a_R 0)), (1, .ref (a_C 0)), (2, .int (v2 + (1 : Int32)))]) rfl ?_
                  refine vv_goto hC 2 d_R_readTextAnds_132 (by decide) ?_
                  exact vv_sub [0, 1, 2] (by rfl) (ih u_18.1 u_18.2.1 u_23 (va_up (va_up (va_up (va_up A_C 4 (upd (A_C 4) (v2).toNatClampNeg ((u_5 2) >>> ((1 : Int32) &&& 31)))) 8 (upd (A_C 8) (((upd (A_C 4) (v2).toNatClampNeg ((u_5 2) >>> ((1 : Int32) &&& 31))) (v2).toNatClampNeg)).toNatClampNeg (1 : Int32))) 5 (upd (A_C 5) (v2).toNatClampNeg (u_15 2))) 6 (upd (A_C 6) (v2).toNatClampNeg (u_23 2))) (v2 + (1 : Int32)) hw)
                · have hw := hw.1 cd
                  refine vv_iconst hC d_R_readTextAnds_114 (v := (0 : Int32)) (by decide) ?_
                  exact vv_zret hC d_R_readTextAnds_115 rfl (u_18.1, u_18.2.1, u_23, (va_up (va_up (va_up A_C 4 (upd (A_C 4) (v2).toNatClampNeg ((u_5 2) >>> ((1 : Int32) &&& 31)))) 8 (upd (A_C 8) (((upd (A_C 4) (v2).toNatClampNeg ((u_5 2) >>> ((1 : Int32) &&& 31))) (v2).toNatClampNeg)).toNatClampNeg (1 : Int32))) 5 (upd (A_C 5) (v2).toNatClampNeg (u_15 2)))) hw rfl
            · have hw := hw.1 cd
              refine vv_iconst hC d_R_readTextAnds_79 (v := (0 : Int32)) (by decide) ?_
              exact vv_zret hC d_R_readTextAnds_80 rfl (u_10.1, u_10.2.1, u_15, (va_up (va_up A_C 4 (upd (A_C 4) (v2).toNatClampNeg ((u_5 2) >>> ((1 : Int32) &&& 31)))) 8 (upd (A_C 8) (((upd (A_C 4) (v2).toNatClampNeg ((u_5 2) >>> ((1 : Int32) &&& 31))) (v2).toNatClampNeg)).toNatClampNeg (1 : Int32)))) hw rfl
        · have hw := hw.1 cd
          refine vv_iconst hC d_R_readTextAnds_30 (v := (0 : Int32)) (by decide) ?_
          exact vv_zret hC d_R_readTextAnds_31 rfl (I_R, A_R, u_5, A_C) hw rfl
set_option maxHeartbeats 4000000 in
set_option maxRecDepth 100000 in
theorem c_R_readTextAnds (l : Launch) (D : va_G) (cA : Nat → ClassId) (sx : Nat → Nat) (a_R a_U a_T a_S a_C : Nat → Nat) (I_R : (Nat → Int32)) (A_R : (Nat → Nat → Int32)) (I_U : (Nat → Int32)) (I_T : (Nat → Int32)) (A_T : (Nat → Nat → Int32)) (I_S : (Nat → Int32)) (A_S : (Nat → Nat → Int32)) (I_C : (Nat → Int32)) (A_C : (Nat → Nat → Int32)) (Q : Int32 → (Nat → Int32) → (Nat → Nat → Int32) → (Nat → Int32) → (Nat → Nat → Int32) → Prop) (hw : wp_R_readTextAnds I_R A_R I_U I_T A_T I_C A_C Q) : MetI l y_R_readTextAnds (Cond.code y_R_readTextAnds b_R_readTextAnds 3 (some .boolean) :: TB) ({ frames := 4, cells := 0, slots := 0, locals := 89 } : Room) D vwCl (tyl cA) (SPl sx) [.ref (a_R 0), .ref (a_C 0)] (kc_R cA a_R a_U a_S I_R A_R ++ kc_U cA a_U a_T I_U ++ kc_T cA a_T I_T A_T ++ kc_S cA a_S I_S A_S ++ kc_C cA a_C I_C A_C) (fun (r : Int32) (u : (Nat → Int32) × (Nat → Nat → Int32) × (Nat → Int32) × (Nat → Nat → Int32)) => Q r u.1 u.2.1 u.2.2.1 u.2.2.2) (fun u : (Nat → Int32) × (Nat → Nat → Int32) × (Nat → Int32) × (Nat → Nat → Int32) => kc_R cA a_R a_U a_S u.1 u.2.1 ++ kc_U cA a_U a_T u.2.2.1 ++ kc_T cA a_T I_T A_T ++ kc_S cA a_S I_S A_S ++ kc_C cA a_C I_C u.2.2.2) := by
  refine vv_entryI (cc := b_R_readTextAnds) (own := R_R) (L := [(0, .ref (a_R 0)), (1, .ref (a_C 0))]) (by decide) rfl rfl (Nat.le_of_ble_eq_true rfl) rfl (fun p e s m args below meth c A hC => ?_)
  unfold wp_R_readTextAnds at hw
  refine vv_iconst hC d_R_readTextAnds_0 (v := (0 : Int32)) (by decide) ?_
  refine vv_istore_n hC d_R_readTextAnds_1 rfl (by decide) [1, 2, 0] (L2 := [(0, .ref (a_R 0)), (1, .ref (a_C 0)), (2, .int (0 : Int32))]) rfl ?_
  obtain ⟨m2, hw⟩ := hw
  refine vv_sub [0, 1, 2] (by rfl) (l_R_readTextAnds_L2 a_R a_U a_T a_S a_C I_T A_T I_S A_S I_C Q _ hC (fun I_R_25 A_R_26 I_U_27 A_C_28 hw => ?_) m2 I_R A_R I_U A_C (0 : Int32) hw)
  refine vv_iconst hC d_R_readTextAnds_135 (v := (1 : Int32)) (by decide) ?_
  exact vv_zret hC d_R_readTextAnds_136 rfl (I_R_25, A_R_26, I_U_27, A_C_28) hw rfl
set_option maxHeartbeats 4000000 in
set_option maxRecDepth 100000 in
theorem l_R_kindOf_L2 {p : Program} {l : Launch} {e : Env} {s : State} {m : MethodId} {args : Array Value} {below : List Frame} {meth : Method} {c : Code} {D : va_G} {cA : Nat → ClassId} {sx : Nat → Nat} {A : Nat → Prop} (Q : Int32 → Prop) (X2 : Prop) (hC : CX p s m args meth c b_R_kindOf R_R TB 2 D vwCl (tyl cA) A (SPl sx) (some .int)) (hX2 : X2 → VV p l e ({ frames := 4, cells := 0, slots := 0, locals := 85 } : Room) s m args below meth c 2 D vwCl A 0 0 (QI below args s D vwCl (tyl cA) A (fun (r : Int32) (u : Unit) => Q r) (fun u : Unit => [])) ([]) 25 [] []) : ∀ (n2 : Nat) (v0 : Int32) (v1 : Int32), wp_R_kindOf_L2 Q X2 n2 v0 v1 → VV p l e ({ frames := 4, cells := 0, slots := 0, locals := 85 } : Room) s m args below meth c 2 D vwCl A 0 0 (QI below args s D vwCl (tyl cA) A (fun (r : Int32) (u : Unit) => Q r) (fun u : Unit => [])) ([]) 2 [(0, .int v0), (1, .int v1)] [] := by
  intro n2
  induction n2 with
  | zero =>
    intro v0 v1 hw
    exact absurd hw (fun z => z)
  | succ n2 ih =>
    intro v0 v1 hw
    unfold wp_R_kindOf_L2 at hw
    refine vv_iload_n hC d_R_kindOf_2 1 rfl rfl ?_
    refine vv_iconst hC d_R_kindOf_3 (v := (3 : Int32)) (by decide) ?_
    refine vv_icmp_ge hC 25 d_R_kindOf_4 (by decide) (fun cd => ?_) (fun cd => ?_)
    · have hw := hw.1 cd
      exact vv_sub [] (by rfl) (hX2 hw)
    · have hw := hw.2 cd
      refine vv_ldcS hC hC.2.2.2.2.2.2.2.1.2.2.1.2.1 d_R_kindOf_7 ?_
      refine vv_iload_n hC d_R_kindOf_9 1 rfl rfl ?_
      obtain ⟨hin_1, hw⟩ := hw
      refine vv_charAt hC tb_549 d_R_kindOf_10 hin_1 (Nat.le_of_ble_eq_true rfl) ⟨Nat.zero_le _, Nat.zero_le _⟩ ⟨Nat.le_of_ble_eq_true rfl, Nat.le_of_ble_eq_true rfl⟩ ?_
      refine vv_iload_n hC d_R_kindOf_13 0 rfl rfl ?_
      refine vv_icmp_ne hC 19 d_R_kindOf_14 (by decide) (fun cd => ?_) (fun cd => ?_)
      · have hw := hw.2 cd
        refine vv_iinc hC d_R_kindOf_19 1 rfl (v := (v1 + (1 : Int32))) rfl (by decide) [1, 0] (L2 := [(0, .int v0), (1, .int (v1 + (1 : Int32)))]) rfl ?_
        refine vv_goto hC 2 d_R_kindOf_22 (by decide) ?_
        exact vv_sub [0, 1] (by rfl) (ih v0 (v1 + (1 : Int32)) hw)
      · have hw := hw.1 cd
        refine vv_iload_n hC d_R_kindOf_17 1 rfl rfl ?_
        exact vv_iret hC d_R_kindOf_18 () hw rfl
set_option maxHeartbeats 4000000 in
set_option maxRecDepth 100000 in
theorem c_R_kindOf (l : Launch) (D : va_G) (cA : Nat → ClassId) (sx : Nat → Nat) (x0 : Int32) (Q : Int32 → Prop) (hw : wp_R_kindOf x0 Q) : MetI l y_R_kindOf (Cond.code y_R_kindOf b_R_kindOf 2 (some .int) :: TB) ({ frames := 4, cells := 0, slots := 0, locals := 85 } : Room) D vwCl (tyl cA) (SPl sx) [.int x0] ([]) (fun (r : Int32) (u : Unit) => Q r) (fun u : Unit => []) := by
  refine vv_entryI (cc := b_R_kindOf) (own := R_R) (L := [(0, .int x0)]) (by decide) rfl rfl (Nat.le_of_ble_eq_true rfl) rfl (fun p e s m args below meth c A hC => ?_)
  unfold wp_R_kindOf at hw
  refine vv_iconst hC d_R_kindOf_0 (v := (0 : Int32)) (by decide) ?_
  refine vv_istore_n hC d_R_kindOf_1 rfl (by decide) [1, 0] (L2 := [(0, .int x0), (1, .int (0 : Int32))]) rfl ?_
  obtain ⟨m2, hw⟩ := hw
  refine vv_sub [0, 1] (by rfl) (l_R_kindOf_L2 Q _ hC (fun  hw => ?_) m2 x0 (0 : Int32) hw)
  refine vv_iconst hC d_R_kindOf_25 (v := (-1 : Int32)) (by decide) ?_
  exact vv_iret hC d_R_kindOf_26 () hw rfl
set_option maxHeartbeats 4000000 in
set_option maxRecDepth 100000 in
theorem l_R_readName_L2 {p : Program} {l : Launch} {e : Env} {s : State} {m : MethodId} {args : Array Value} {below : List Frame} {meth : Method} {c : Code} {D : va_G} {cA : Nat → ClassId} {sx : Nat → Nat} {A : Nat → Prop} (a_R a_U a_T a_S a_C : Nat → Nat) (I_R : (Nat → Int32)) (A_R : (Nat → Nat → Int32)) (I_T : (Nat → Int32)) (A_T : (Nat → Nat → Int32)) (I_S : (Nat → Int32)) (A_S : (Nat → Nat → Int32)) (I_C : (Nat → Int32)) (Q : Int32 → (Nat → Int32) → (Nat → Nat → Int32) → Prop) (X2 : (Nat → Int32) → (Nat → Nat → Int32) → Int32 → Prop) (hC : CX p s m args meth c b_R_readName R_R TB 5 D vwCl (tyl cA) A (SPl sx) (some .boolean)) (hX2 : ∀ (I_U : (Nat → Int32)) (A_C : (Nat → Nat → Int32)) (v2 : Int32), X2 I_U A_C v2 → VV p l e ({ frames := 2, cells := 0, slots := 0, locals := 43 } : Room) s m args below meth c 5 D vwCl A 0 0 (QI below args s D vwCl (tyl cA) A (fun (r : Int32) (u : (Nat → Int32) × (Nat → Nat → Int32)) => Q r u.1 u.2) (fun u : (Nat → Int32) × (Nat → Nat → Int32) => kc_R cA a_R a_U a_S I_R A_R ++ kc_U cA a_U a_T u.1 ++ kc_T cA a_T I_T A_T ++ kc_S cA a_S I_S A_S ++ kc_C cA a_C I_C u.2)) (kc_R cA a_R a_U a_S I_R A_R ++ kc_U cA a_U a_T I_U ++ kc_T cA a_T I_T A_T ++ kc_S cA a_S I_S A_S ++ kc_C cA a_C I_C A_C) 74 [(0, .ref (a_R 0)), (1, .ref (a_C 0)), (2, .int v2)] []) : ∀ (n2 : Nat) (I_U : (Nat → Int32)) (A_C : (Nat → Nat → Int32)) (v2 : Int32) (v3 : Int32), wp_R_readName_L2 I_T A_T Q X2 n2 I_U A_C v2 v3 → VV p l e ({ frames := 2, cells := 0, slots := 0, locals := 43 } : Room) s m args below meth c 5 D vwCl A 0 0 (QI below args s D vwCl (tyl cA) A (fun (r : Int32) (u : (Nat → Int32) × (Nat → Nat → Int32)) => Q r u.1 u.2) (fun u : (Nat → Int32) × (Nat → Nat → Int32) => kc_R cA a_R a_U a_S I_R A_R ++ kc_U cA a_U a_T u.1 ++ kc_T cA a_T I_T A_T ++ kc_S cA a_S I_S A_S ++ kc_C cA a_C I_C u.2)) (kc_R cA a_R a_U a_S I_R A_R ++ kc_U cA a_U a_T I_U ++ kc_T cA a_T I_T A_T ++ kc_S cA a_S I_S A_S ++ kc_C cA a_C I_C A_C) 2 [(0, .ref (a_R 0)), (1, .ref (a_C 0)), (2, .int v2), (3, .int v3)] [] := by
  intro n2
  induction n2 with
  | zero =>
    intro I_U A_C v2 v3 hw
    exact absurd hw (fun z => z)
  | succ n2 ih =>
    intro I_U A_C v2 v3 hw
    unfold wp_R_readName_L2 at hw
    refine vv_iload_n hC d_R_readName_2 3 rfl rfl ?_
    refine vv_bipush hC d_R_readName_3 (v := (40 : Int32)) (by decide) ?_
    refine vv_icmp_ge hC 74 d_R_readName_5 (by decide) (fun cd => ?_) (fun cd => ?_)
    · have hw := hw.1 cd
      exact vv_sub [0, 1, 2] (by rfl) (hX2 I_U A_C v2 hw)
    · have hw := hw.2 cd
      refine vv_aload_n hC d_R_readName_8 0 rfl rfl ?_
      refine vv_get hC (v := .ref (a_U 0)) hin_R 0 0 tb_104 d_R_readName_9 rfl rfl (by decide) rfl rfl ?_
      refine vv_callVI (wr := kc_R cA a_R a_U a_S I_R A_R ++ kc_S cA a_S I_S A_S ++ kc_C cA a_C I_C A_C) hC (c_U_peek l D cA sx a_U a_T I_U I_T A_T _ hw) (cw_R_88 hC) d_R_readName_12 [] [3, 4, 5, 6] [0, 1, 2, 7, 8, 9, 10, 11, 12, 13, 14, 15, 16, 17, 18, 19, 20, 21, 22, 23, 24] [0, 1, 2, 21, 22, 23, 24, 3, 4, 5, 6, 7, 8, 9, 10, 11, 12, 13, 14, 15, 16, 17, 18, 19, 20] (fun u_2 : Unit => kc_R cA a_R a_U a_S I_R A_R ++ kc_U cA a_U a_T I_U ++ kc_T cA a_T I_T A_T ++ kc_S cA a_S I_S A_S ++ kc_C cA a_C I_C A_C) ⟨Nat.zero_le _, Nat.zero_le _⟩ rfl rfl (fun _ => rfl) rfl rfl rfl rfl rfl rfl rfl rfl (Nat.le_of_ble_eq_true rfl) (fun r_1 u_2 hw => ?_)
      refine vv_istore hC d_R_readName_15 (by decide) [1, 2, 3, 4, 0] (L2 := [(0, .ref (a_R 0)), (1, .ref (a_C 0)), (2, .int v2), (3, .int v3), (4, .int r_1)]) rfl ?_
      refine vv_iload hC d_R_readName_17 4 rfl ?_
      refine vv_iconst hC d_R_readName_19 (v := (-1 : Int32)) (by decide) ?_
      refine vv_icmp_eq hC 74 d_R_readName_20 (by decide) (fun cd => ?_) (fun cd => ?_)
      · have hw := hw.1 cd
        exact vv_sub [0, 1, 2] (by rfl) (hX2 I_U A_C v2 hw)
      · have hw := hw.2 cd
        refine vv_iload hC d_R_readName_23 4 rfl ?_
        refine vv_bipush hC d_R_readName_25 (v := (10 : Int32)) (by decide) ?_
        refine vv_icmp_ne hC 33 d_R_readName_27 (by decide) (fun cd => ?_) (fun cd => ?_)
        · have hw := hw.2 cd
          refine vv_aload_n hC d_R_readName_33 1 rfl rfl ?_
          refine vv_get hC (v := .ref (a_C 11)) hin_C 12 16 tb_210 d_R_readName_34 rfl rfl (by decide) rfl rfl ?_
          refine vv_iload_n hC d_R_readName_37 2 rfl rfl ?_
          refine vv_bipush hC d_R_readName_38 (v := (40 : Int32)) (by decide) ?_
          refine vv_imul hC d_R_readName_40 ?_
          refine vv_iload_n hC d_R_readName_41 3 rfl rfl ?_
          refine vv_iadd hC d_R_readName_42 ?_
          refine vv_iload hC d_R_readName_43 4 rfl ?_
          obtain ⟨hin_3, hw⟩ := hw
          refine vv_iast hC 23 0 d_R_readName_45 rfl rfl hin_3 (ws2 := kc_R cA a_R a_U a_S I_R A_R ++ kc_U cA a_U a_T I_U ++ kc_T cA a_T I_T A_T ++ kc_S cA a_S I_S A_S ++ kc_C cA a_C I_C (va_up A_C 10 (upd (A_C 10) (((v2 * (40 : Int32)) + v3)).toNatClampNeg r_1))) (st_RUTSC_CA10 ..) ?_
          refine vv_aload_n hC d_R_readName_46 1 rfl rfl ?_
          refine vv_get hC (v := .ref (a_C 10)) hin_C 12 15 tb_206 d_R_readName_47 rfl rfl (by decide) rfl rfl ?_
          refine vv_iload_n hC d_R_readName_50 2 rfl rfl ?_
          refine vv_iload_n hC d_R_readName_51 3 rfl rfl ?_
          refine vv_iconst hC d_R_readName_52 (v := (1 : Int32)) (by decide) ?_
          refine vv_iadd hC d_R_readName_53 ?_
          obtain ⟨hin_4, hw⟩ := hw
          refine vv_iast hC 22 0 d_R_readName_54 rfl rfl hin_4 (ws2 := kc_R cA a_R a_U a_S I_R A_R ++ kc_U cA a_U a_T I_U ++ kc_T cA a_T I_T A_T ++ kc_S cA a_S I_S A_S ++ kc_C cA a_C I_C (va_up (va_up A_C 10 (upd (A_C 10) (((v2 * (40 : Int32)) + v3)).toNatClampNeg r_1)) 9 (upd (A_C 9) (v2).toNatClampNeg (v3 + (1 : Int32))))) (st_RUTSC_CA9 ..) ?_
          refine vv_aload_n hC d_R_readName_55 0 rfl rfl ?_
          refine vv_get hC (v := .ref (a_U 0)) hin_R 0 0 tb_104 d_R_readName_56 rfl rfl (by decide) rfl rfl ?_
          refine vv_dup hC d_R_readName_59 rfl ?_
          refine vv_get hC (v := .int (I_U 0)) hin_U 3 1 tb_82 d_R_readName_60 rfl rfl (by decide) rfl rfl ?_
          refine vv_iconst hC d_R_readName_63 (v := (1 : Int32)) (by decide) ?_
          refine vv_iadd hC d_R_readName_64 ?_
          refine vv_put hC hin_U ty_U tyok_U nmok_U 3 1 tb_82 d_R_readName_65 rfl rfl (by decide) rfl rfl rfl rfl rfl (Nat.le_of_ble_eq_true rfl) (ws2 := kc_R cA a_R a_U a_S I_R A_R ++ kc_U cA a_U a_T (va_up I_U 0 ((I_U 0) + (1 : Int32))) ++ kc_T cA a_T I_T A_T ++ kc_S cA a_S I_S A_S ++ kc_C cA a_C I_C (va_up (va_up A_C 10 (upd (A_C 10) (((v2 * (40 : Int32)) + v3)).toNatClampNeg r_1)) 9 (upd (A_C 9) (v2).toNatClampNeg (v3 + (1 : Int32))))) (st_RUTSC_UI0 ..) ?_
          refine vv_iinc hC d_R_readName_68 3 rfl (v := (v3 + (1 : Int32))) rfl (by decide) [1, 2, 3, 0, 4] (L2 := [(0, .ref (a_R 0)), (1, .ref (a_C 0)), (2, .int v2), (3, .int (v3 + (1 : Int32))), (4, .int r_1)]) rfl ?_
          refine vv_goto hC 2 d_R_readName_71 (by decide) ?_
          exact vv_sub [0, 1, 2, 3] (by rfl) (ih (va_up I_U 0 ((I_U 0) + (1 : Int32))) (va_up (va_up A_C 10 (upd (A_C 10) (((v2 * (40 : Int32)) + v3)).toNatClampNeg r_1)) 9 (upd (A_C 9) (v2).toNatClampNeg (v3 + (1 : Int32)))) v2 (v3 + (1 : Int32)) hw)
        · have hw := hw.1 cd
          refine vv_goto hC 74 d_R_readName_30 (by decide) ?_
          exact vv_sub [0, 1, 2] (by rfl) (hX2 I_U A_C v2 hw)
set_option maxHeartbeats 4000000 in
set_option maxRecDepth 100000 in
theorem c_R_readName (l : Launch) (D : va_G) (cA : Nat → ClassId) (sx : Nat → Nat) (a_R a_U a_T a_S a_C : Nat → Nat) (I_R : (Nat → Int32)) (A_R : (Nat → Nat → Int32)) (I_U : (Nat → Int32)) (I_T : (Nat → Int32)) (A_T : (Nat → Nat → Int32)) (I_S : (Nat → Int32)) (A_S : (Nat → Nat → Int32)) (I_C : (Nat → Int32)) (A_C : (Nat → Nat → Int32)) (x2 : Int32) (Q : Int32 → (Nat → Int32) → (Nat → Nat → Int32) → Prop) (hw : wp_R_readName I_U I_T A_T A_C x2 Q) : MetI l y_R_readName (Cond.code y_R_readName b_R_readName 5 (some .boolean) :: TB) ({ frames := 2, cells := 0, slots := 0, locals := 43 } : Room) D vwCl (tyl cA) (SPl sx) [.ref (a_R 0), .ref (a_C 0), .int x2] (kc_R cA a_R a_U a_S I_R A_R ++ kc_U cA a_U a_T I_U ++ kc_T cA a_T I_T A_T ++ kc_S cA a_S I_S A_S ++ kc_C cA a_C I_C A_C) (fun (r : Int32) (u : (Nat → Int32) × (Nat → Nat → Int32)) => Q r u.1 u.2) (fun u : (Nat → Int32) × (Nat → Nat → Int32) => kc_R cA a_R a_U a_S I_R A_R ++ kc_U cA a_U a_T u.1 ++ kc_T cA a_T I_T A_T ++ kc_S cA a_S I_S A_S ++ kc_C cA a_C I_C u.2) := by
  refine vv_entryI (cc := b_R_readName) (own := R_R) (L := [(0, .ref (a_R 0)), (1, .ref (a_C 0)), (2, .int x2)]) (by decide) rfl rfl (Nat.le_of_ble_eq_true rfl) rfl (fun p e s m args below meth c A hC => ?_)
  unfold wp_R_readName at hw
  refine vv_iconst hC d_R_readName_0 (v := (0 : Int32)) (by decide) ?_
  refine vv_istore_n hC d_R_readName_1 rfl (by decide) [1, 2, 3, 0] (L2 := [(0, .ref (a_R 0)), (1, .ref (a_C 0)), (2, .int x2), (3, .int (0 : Int32))]) rfl ?_
  obtain ⟨m2, hw⟩ := hw
  refine vv_sub [0, 1, 2, 3] (by rfl) (l_R_readName_L2 a_R a_U a_T a_S a_C I_R A_R I_T A_T I_S A_S I_C Q _ hC (fun I_U_5 A_C_6 v2_7 hw => ?_) m2 I_U A_C x2 (0 : Int32) hw)
  refine vv_aload_n hC d_R_readName_74 1 rfl rfl ?_
  refine vv_get hC (v := .ref (a_C 10)) hin_C 12 15 tb_206 d_R_readName_75 rfl rfl (by decide) rfl rfl ?_
  refine vv_iload_n hC d_R_readName_78 2 rfl rfl ?_
  obtain ⟨hin_8, hw⟩ := hw
  refine vv_iald hC 22 0 d_R_readName_79 rfl rfl hin_8 ?_
  refine vv_if_le hC 95 d_R_readName_80 (by decide) (fun cd => ?_) (fun cd => ?_)
  · have hw := hw.1 cd
    refine vv_aload_n hC d_R_readName_95 0 rfl rfl ?_
    refine vv_get hC (v := .ref (a_U 0)) hin_R 0 0 tb_104 d_R_readName_96 rfl rfl (by decide) rfl rfl ?_
    refine vv_iconst hC d_R_readName_99 (v := (1 : Int32)) (by decide) ?_
    refine vv_aload_n hC d_R_readName_100 0 rfl rfl ?_
    refine vv_get hC (v := .ref (a_U 0)) hin_R 0 0 tb_104 d_R_readName_101 rfl rfl (by decide) rfl rfl ?_
    refine vv_get hC (v := .int (I_U_5 0)) hin_U 3 1 tb_82 d_R_readName_104 rfl rfl (by decide) rfl rfl ?_
    refine vv_callVI (wr := kc_R cA a_R a_U a_S I_R A_R ++ kc_S cA a_S I_S A_S ++ kc_C cA a_C I_C A_C_6) hC (c_U_fail l D cA sx a_U a_T I_U_5 I_T A_T (1 : Int32) (I_U_5 0) _ hw) (cw_R_121 hC) d_R_readName_107 [] [3, 4, 5, 6] [0, 1, 2, 7, 8, 9, 10, 11, 12, 13, 14, 15, 16, 17, 18, 19, 20, 21, 22, 23, 24] [0, 1, 2, 21, 22, 23, 24, 3, 4, 5, 6, 7, 8, 9, 10, 11, 12, 13, 14, 15, 16, 17, 18, 19, 20] (fun u_10 : (Nat → Int32) => kc_R cA a_R a_U a_S I_R A_R ++ kc_U cA a_U a_T u_10 ++ kc_T cA a_T I_T A_T ++ kc_S cA a_S I_S A_S ++ kc_C cA a_C I_C A_C_6) ⟨Nat.zero_le _, Nat.zero_le _⟩ rfl rfl (fun _ => rfl) rfl rfl rfl rfl rfl rfl rfl rfl (Nat.le_of_ble_eq_true rfl) (fun r_9 u_10 hw => ?_)
    obtain ⟨hnr_12, hw⟩ := hw
    exact vv_zret hC d_R_readName_110 hnr_12 (u_10, A_C_6) hw rfl
  · have hw := hw.2 cd
    refine vv_aload_n hC d_R_readName_83 0 rfl rfl ?_
    refine vv_get hC (v := .ref (a_U 0)) hin_R 0 0 tb_104 d_R_readName_84 rfl rfl (by decide) rfl rfl ?_
    refine vv_bipush hC d_R_readName_87 (v := (10 : Int32)) (by decide) ?_
    refine vv_callVI (wr := kc_R cA a_R a_U a_S I_R A_R ++ kc_S cA a_S I_S A_S ++ kc_C cA a_C I_C A_C_6) hC (c_U_expect l D cA sx a_U a_T I_U_5 I_T A_T (10 : Int32) _ hw) (cw_R_84 hC) d_R_readName_89 [] [3, 4, 5, 6] [0, 1, 2, 7, 8, 9, 10, 11, 12, 13, 14, 15, 16, 17, 18, 19, 20, 21, 22, 23, 24] [0, 1, 2, 21, 22, 23, 24, 3, 4, 5, 6, 7, 8, 9, 10, 11, 12, 13, 14, 15, 16, 17, 18, 19, 20] (fun u_14 : (Nat → Int32) => kc_R cA a_R a_U a_S I_R A_R ++ kc_U cA a_U a_T u_14 ++ kc_T cA a_T I_T A_T ++ kc_S cA a_S I_S A_S ++ kc_C cA a_C I_C A_C_6) ⟨Nat.zero_le _, Nat.zero_le _⟩ rfl rfl (fun _ => rfl) rfl rfl rfl rfl rfl rfl rfl rfl (Nat.le_of_ble_eq_true rfl) (fun r_13 u_14 hw => ?_)
    refine vv_goto hC 110 d_R_readName_92 (by decide) ?_
    obtain ⟨hnr_16, hw⟩ := hw
    exact vv_zret hC d_R_readName_110 hnr_16 (u_14, A_C_6) hw rfl
set_option maxHeartbeats 4000000 in
set_option maxRecDepth 100000 in
theorem l_R_readSymbol_b76 {p : Program} {l : Launch} {e : Env} {s : State} {m : MethodId} {args : Array Value} {below : List Frame} {meth : Method} {c : Code} {D : va_G} {cA : Nat → ClassId} {sx : Nat → Nat} {A : Nat → Prop} (a_R a_U a_T a_S a_C : Nat → Nat) (I_R : (Nat → Int32)) (A_R : (Nat → Nat → Int32)) (I_T : (Nat → Int32)) (A_T : (Nat → Nat → Int32)) (I_S : (Nat → Int32)) (A_S : (Nat → Nat → Int32)) (I_C : (Nat → Int32)) (Q : Int32 → (Nat → Int32) → (Nat → Nat → Int32) → Prop) (hC : CX p s m args meth c b_R_readSymbol R_R TB 4 D vwCl (tyl cA) A (SPl sx) (some .boolean)) : ∀ (I_U : (Nat → Int32)) (A_C : (Nat → Nat → Int32)), wp_R_readSymbol_b76 I_T A_T I_C Q I_U A_C → VV p l e ({ frames := 3, cells := 0, slots := 0, locals := 67 } : Room) s m args below meth c 4 D vwCl A 0 0 (QI below args s D vwCl (tyl cA) A (fun (r : Int32) (u : (Nat → Int32) × (Nat → Nat → Int32)) => Q r u.1 u.2) (fun u : (Nat → Int32) × (Nat → Nat → Int32) => kc_R cA a_R a_U a_S I_R A_R ++ kc_U cA a_U a_T u.1 ++ kc_T cA a_T I_T A_T ++ kc_S cA a_S I_S A_S ++ kc_C cA a_C I_C u.2)) (kc_R cA a_R a_U a_S I_R A_R ++ kc_U cA a_U a_T I_U ++ kc_T cA a_T I_T A_T ++ kc_S cA a_S I_S A_S ++ kc_C cA a_C I_C A_C) 76 [(0, .ref (a_R 0))] [] := by
  intro I_U A_C hw
  unfold wp_R_readSymbol_b76 at hw
  refine vv_aload_n hC d_R_readSymbol_76 0 rfl rfl ?_
  refine vv_get hC (v := .ref (a_U 0)) hin_R 0 0 tb_104 d_R_readSymbol_77 rfl rfl (by decide) rfl rfl ?_
  refine vv_iconst hC d_R_readSymbol_80 (v := (1 : Int32)) (by decide) ?_
  refine vv_aload_n hC d_R_readSymbol_81 0 rfl rfl ?_
  refine vv_get hC (v := .ref (a_U 0)) hin_R 0 0 tb_104 d_R_readSymbol_82 rfl rfl (by decide) rfl rfl ?_
  refine vv_get hC (v := .int (I_U 0)) hin_U 3 1 tb_82 d_R_readSymbol_85 rfl rfl (by decide) rfl rfl ?_
  refine vv_callVI (wr := kc_R cA a_R a_U a_S I_R A_R ++ kc_S cA a_S I_S A_S ++ kc_C cA a_C I_C A_C) hC (c_U_fail l D cA sx a_U a_T I_U I_T A_T (1 : Int32) (I_U 0) _ hw) (cw_R_121 hC) d_R_readSymbol_88 [] [3, 4, 5, 6] [0, 1, 2, 7, 8, 9, 10, 11, 12, 13, 14, 15, 16, 17, 18, 19, 20, 21, 22, 23, 24] [0, 1, 2, 21, 22, 23, 24, 3, 4, 5, 6, 7, 8, 9, 10, 11, 12, 13, 14, 15, 16, 17, 18, 19, 20] (fun u_7 : (Nat → Int32) => kc_R cA a_R a_U a_S I_R A_R ++ kc_U cA a_U a_T u_7 ++ kc_T cA a_T I_T A_T ++ kc_S cA a_S I_S A_S ++ kc_C cA a_C I_C A_C) ⟨Nat.zero_le _, Nat.zero_le _⟩ rfl rfl (fun _ => rfl) rfl rfl rfl rfl rfl rfl rfl rfl (Nat.le_of_ble_eq_true rfl) (fun r_6 u_7 hw => ?_)
  obtain ⟨hnr_9, hw⟩ := hw
  exact vv_zret hC d_R_readSymbol_91 hnr_9 (u_7, A_C) hw rfl
set_option maxHeartbeats 4000000 in
set_option maxRecDepth 100000 in
theorem c_R_readSymbol (l : Launch) (D : va_G) (cA : Nat → ClassId) (sx : Nat → Nat) (a_R a_U a_T a_S a_C : Nat → Nat) (I_R : (Nat → Int32)) (A_R : (Nat → Nat → Int32)) (I_U : (Nat → Int32)) (I_T : (Nat → Int32)) (A_T : (Nat → Nat → Int32)) (I_S : (Nat → Int32)) (A_S : (Nat → Nat → Int32)) (I_C : (Nat → Int32)) (A_C : (Nat → Nat → Int32)) (x2 : Int32) (Q : Int32 → (Nat → Int32) → (Nat → Nat → Int32) → Prop) (hw : wp_R_readSymbol I_U I_T A_T I_C A_C x2 Q) : MetI l y_R_readSymbol (Cond.code y_R_readSymbol b_R_readSymbol 4 (some .boolean) :: TB) ({ frames := 3, cells := 0, slots := 0, locals := 67 } : Room) D vwCl (tyl cA) (SPl sx) [.ref (a_R 0), .ref (a_C 0), .int x2] (kc_R cA a_R a_U a_S I_R A_R ++ kc_U cA a_U a_T I_U ++ kc_T cA a_T I_T A_T ++ kc_S cA a_S I_S A_S ++ kc_C cA a_C I_C A_C) (fun (r : Int32) (u : (Nat → Int32) × (Nat → Nat → Int32)) => Q r u.1 u.2) (fun u : (Nat → Int32) × (Nat → Nat → Int32) => kc_R cA a_R a_U a_S I_R A_R ++ kc_U cA a_U a_T u.1 ++ kc_T cA a_T I_T A_T ++ kc_S cA a_S I_S A_S ++ kc_C cA a_C I_C u.2) := by
  refine vv_entryI (cc := b_R_readSymbol) (own := R_R) (L := [(0, .ref (a_R 0)), (1, .ref (a_C 0)), (2, .int x2)]) (by decide) rfl rfl (Nat.le_of_ble_eq_true rfl) rfl (fun p e s m args below meth c A hC => ?_)
  unfold wp_R_readSymbol at hw
  refine vv_iload_n hC d_R_readSymbol_0 2 rfl rfl ?_
  refine vv_iconst hC d_R_readSymbol_1 (v := (-1 : Int32)) (by decide) ?_
  refine vv_icmp_ne hC 21 d_R_readSymbol_2 (by decide) (fun cd => ?_) (fun cd => ?_)
  · have hw := hw.2 cd
    refine vv_aload_n hC d_R_readSymbol_21 0 rfl rfl ?_
    refine vv_get hC (v := .ref (a_U 0)) hin_R 0 0 tb_104 d_R_readSymbol_22 rfl rfl (by decide) rfl rfl ?_
    refine vv_dup hC d_R_readSymbol_25 rfl ?_
    refine vv_get hC (v := .int (I_U 0)) hin_U 3 1 tb_82 d_R_readSymbol_26 rfl rfl (by decide) rfl rfl ?_
    refine vv_iconst hC d_R_readSymbol_29 (v := (1 : Int32)) (by decide) ?_
    refine vv_iadd hC d_R_readSymbol_30 ?_
    refine vv_put hC hin_U ty_U tyok_U nmok_U 3 1 tb_82 d_R_readSymbol_31 rfl rfl (by decide) rfl rfl rfl rfl rfl (Nat.le_of_ble_eq_true rfl) (ws2 := kc_R cA a_R a_U a_S I_R A_R ++ kc_U cA a_U a_T (va_up I_U 0 ((I_U 0) + (1 : Int32))) ++ kc_T cA a_T I_T A_T ++ kc_S cA a_S I_S A_S ++ kc_C cA a_C I_C A_C) (st_RUTSC_UI0 ..) ?_
    refine vv_aload_n hC d_R_readSymbol_34 0 rfl rfl ?_
    refine vv_get hC (v := .ref (a_U 0)) hin_R 0 0 tb_104 d_R_readSymbol_35 rfl rfl (by decide) rfl rfl ?_
    refine vv_callVI (wr := kc_R cA a_R a_U a_S I_R A_R ++ kc_S cA a_S I_S A_S ++ kc_C cA a_C I_C A_C) hC (c_U_readNumber l D cA sx a_U a_T (va_up I_U 0 ((I_U 0) + (1 : Int32))) I_T A_T _ hw) (cw_R_125 hC) d_R_readSymbol_38 [] [3, 4, 5, 6] [0, 1, 2, 7, 8, 9, 10, 11, 12, 13, 14, 15, 16, 17, 18, 19, 20, 21, 22, 23, 24] [0, 1, 2, 21, 22, 23, 24, 3, 4, 5, 6, 7, 8, 9, 10, 11, 12, 13, 14, 15, 16, 17, 18, 19, 20] (fun u_2 : (Nat → Int32) => kc_R cA a_R a_U a_S I_R A_R ++ kc_U cA a_U a_T u_2 ++ kc_T cA a_T I_T A_T ++ kc_S cA a_S I_S A_S ++ kc_C cA a_C I_C A_C) ⟨Nat.zero_le _, Nat.zero_le _⟩ rfl rfl (fun _ => rfl) rfl rfl rfl rfl rfl rfl rfl rfl (Nat.le_of_ble_eq_true rfl) (fun r_1 u_2 hw => ?_)
    refine vv_if_ne hC 46 d_R_readSymbol_41 (by decide) (fun cd => ?_) (fun cd => ?_)
    · have hw := hw.2 cd
      refine vv_aload_n hC d_R_readSymbol_46 0 rfl rfl ?_
      refine vv_get hC (v := .ref (a_U 0)) hin_R 0 0 tb_104 d_R_readSymbol_47 rfl rfl (by decide) rfl rfl ?_
      refine vv_get hC (v := .int (u_2 2)) hin_U 3 3 tb_86 d_R_readSymbol_50 rfl rfl (by decide) rfl rfl ?_
      refine vv_istore_n hC d_R_readSymbol_53 rfl (by decide) [1, 2, 3, 0] (L2 := [(0, .ref (a_R 0)), (1, .ref (a_C 0)), (2, .int x2), (3, .int (u_2 2))]) rfl ?_
      refine vv_iload_n hC d_R_readSymbol_54 3 rfl rfl ?_
      refine vv_aload_n hC d_R_readSymbol_55 1 rfl rfl ?_
      refine vv_iload_n hC d_R_readSymbol_56 2 rfl rfl ?_
      refine vv_callVI (wr := kc_R cA a_R a_U a_S I_R A_R ++ kc_U cA a_U a_T u_2 ++ kc_T cA a_T I_T A_T ++ kc_S cA a_S I_S A_S) hC (c_C_countOf l D cA sx a_C I_C A_C x2 _ hw) (cw_R_190 hC) d_R_readSymbol_57 [.int (u_2 2)] [12, 13, 14, 15, 16, 17, 18, 19, 20, 21, 22, 23, 24] [0, 1, 2, 3, 4, 5, 6, 7, 8, 9, 10, 11] [0, 1, 2, 3, 4, 5, 6, 7, 8, 9, 10, 11, 12, 13, 14, 15, 16, 17, 18, 19, 20, 21, 22, 23, 24] (fun u_5 : Unit => kc_R cA a_R a_U a_S I_R A_R ++ kc_U cA a_U a_T u_2 ++ kc_T cA a_T I_T A_T ++ kc_S cA a_S I_S A_S ++ kc_C cA a_C I_C A_C) ⟨Nat.zero_le _, Nat.zero_le _⟩ rfl rfl (fun _ => rfl) rfl rfl rfl rfl rfl rfl rfl rfl (Nat.le_of_ble_eq_true rfl) (fun r_4 u_5 hw => ?_)
      refine vv_icmp_ge hC 76 d_R_readSymbol_60 (by decide) (fun cd => ?_) (fun cd => ?_)
      · have hw := hw.1 cd
        exact vv_sub [0] (by rfl) (l_R_readSymbol_b76 a_R a_U a_T a_S a_C I_R A_R I_T A_T I_S A_S I_C Q hC u_2 A_C hw)
      · have hw := hw.2 cd
        refine vv_aload_n hC d_R_readSymbol_63 1 rfl rfl ?_
        refine vv_get hC (v := .ref (a_C 10)) hin_C 12 15 tb_206 d_R_readSymbol_64 rfl rfl (by decide) rfl rfl ?_
        refine vv_iload_n hC d_R_readSymbol_67 2 rfl rfl ?_
        refine vv_iload_n hC d_R_readSymbol_68 3 rfl rfl ?_
        refine vv_callSNI (wr := kc_R cA a_R a_U a_S I_R A_R ++ kc_U cA a_U a_T u_2 ++ kc_T cA a_T I_T A_T ++ kc_S cA a_S I_S A_S ++ kc_C cA a_C I_C A_C) hC (c_F_slotOf l D cA sx x2 (u_2 2) _ hw) (cw_R_196 hC) d_R_readSymbol_69 [.ref (a_C 10)] [] [0, 1, 2, 3, 4, 5, 6, 7, 8, 9, 10, 11, 12, 13, 14, 15, 16, 17, 18, 19, 20, 21, 22, 23, 24] [0, 1, 2, 3, 4, 5, 6, 7, 8, 9, 10, 11, 12, 13, 14, 15, 16, 17, 18, 19, 20, 21, 22, 23, 24] (fun u_11 : Unit => kc_R cA a_R a_U a_S I_R A_R ++ kc_U cA a_U a_T u_2 ++ kc_T cA a_T I_T A_T ++ kc_S cA a_S I_S A_S ++ kc_C cA a_C I_C A_C) ⟨Nat.zero_le _, Nat.zero_le _⟩ rfl rfl (fun _ => rfl) rfl rfl rfl rfl rfl rfl (Nat.le_of_ble_eq_true rfl) (fun r_10 u_11 hw => ?_)
        obtain ⟨hin_12, hw⟩ := hw
        refine vv_iald hC 22 0 d_R_readSymbol_72 rfl rfl hin_12 ?_
        refine vv_if_le hC 92 d_R_readSymbol_73 (by decide) (fun cd => ?_) (fun cd => ?_)
        · have hw := hw.1 cd
          refine vv_aload_n hC d_R_readSymbol_92 0 rfl rfl ?_
          refine vv_get hC (v := .ref (a_U 0)) hin_R 0 0 tb_104 d_R_readSymbol_93 rfl rfl (by decide) rfl rfl ?_
          refine vv_bipush hC d_R_readSymbol_96 (v := (32 : Int32)) (by decide) ?_
          refine vv_callVI (wr := kc_R cA a_R a_U a_S I_R A_R ++ kc_S cA a_S I_S A_S ++ kc_C cA a_C I_C A_C) hC (c_U_expect l D cA sx a_U a_T u_2 I_T A_T (32 : Int32) _ hw) (cw_R_84 hC) d_R_readSymbol_98 [] [3, 4, 5, 6] [0, 1, 2, 7, 8, 9, 10, 11, 12, 13, 14, 15, 16, 17, 18, 19, 20, 21, 22, 23, 24] [0, 1, 2, 21, 22, 23, 24, 3, 4, 5, 6, 7, 8, 9, 10, 11, 12, 13, 14, 15, 16, 17, 18, 19, 20] (fun u_14 : (Nat → Int32) => kc_R cA a_R a_U a_S I_R A_R ++ kc_U cA a_U a_T u_14 ++ kc_T cA a_T I_T A_T ++ kc_S cA a_S I_S A_S ++ kc_C cA a_C I_C A_C) ⟨Nat.zero_le _, Nat.zero_le _⟩ rfl rfl (fun _ => rfl) rfl rfl rfl rfl rfl rfl rfl rfl (Nat.le_of_ble_eq_true rfl) (fun r_13 u_14 hw => ?_)
          refine vv_if_eq hC 121 d_R_readSymbol_101 (by decide) (fun cd => ?_) (fun cd => ?_)
          · have hw := hw.1 cd
            refine vv_iconst hC d_R_readSymbol_121 (v := (0 : Int32)) (by decide) ?_
            exact vv_zret hC d_R_readSymbol_122 rfl (u_14, A_C) hw rfl
          · have hw := hw.2 cd
            refine vv_aload_n hC d_R_readSymbol_104 0 rfl rfl ?_
            refine vv_aload_n hC d_R_readSymbol_105 1 rfl rfl ?_
            refine vv_iload_n hC d_R_readSymbol_106 2 rfl rfl ?_
            refine vv_iload_n hC d_R_readSymbol_107 3 rfl rfl ?_
            refine vv_callSNI (wr := kc_R cA a_R a_U a_S I_R A_R ++ kc_U cA a_U a_T u_14 ++ kc_T cA a_T I_T A_T ++ kc_S cA a_S I_S A_S ++ kc_C cA a_C I_C A_C) hC (c_F_slotOf l D cA sx x2 (u_2 2) _ hw) (cw_R_196 hC) d_R_readSymbol_108 [.ref (a_C 0), .ref (a_R 0)] [] [0, 1, 2, 3, 4, 5, 6, 7, 8, 9, 10, 11, 12, 13, 14, 15, 16, 17, 18, 19, 20, 21, 22, 23, 24] [0, 1, 2, 3, 4, 5, 6, 7, 8, 9, 10, 11, 12, 13, 14, 15, 16, 17, 18, 19, 20, 21, 22, 23, 24] (fun u_17 : Unit => kc_R cA a_R a_U a_S I_R A_R ++ kc_U cA a_U a_T u_14 ++ kc_T cA a_T I_T A_T ++ kc_S cA a_S I_S A_S ++ kc_C cA a_C I_C A_C) ⟨Nat.zero_le _, Nat.zero_le _⟩ rfl rfl (fun _ => rfl) rfl rfl rfl rfl rfl rfl (Nat.le_of_ble_eq_true rfl) (fun r_16 u_17 hw => ?_)
            refine vv_callVI (wr := []) hC (c_R_readName l D cA sx a_R a_U a_T a_S a_C I_R A_R u_14 I_T A_T I_S A_S I_C A_C r_16 _ hw) (cw_R_200 hC) d_R_readSymbol_111 [] [0, 1, 2, 3, 4, 5, 6, 7, 8, 9, 10, 11, 12, 13, 14, 15, 16, 17, 18, 19, 20, 21, 22, 23, 24] [] [0, 1, 2, 3, 4, 5, 6, 7, 8, 9, 10, 11, 12, 13, 14, 15, 16, 17, 18, 19, 20, 21, 22, 23, 24] (fun u_19 : (Nat → Int32) × (Nat → Nat → Int32) => kc_R cA a_R a_U a_S I_R A_R ++ kc_U cA a_U a_T u_19.1 ++ kc_T cA a_T I_T A_T ++ kc_S cA a_S I_S A_S ++ kc_C cA a_C I_C u_19.2) ⟨Nat.zero_le _, Nat.zero_le _⟩ rfl rfl (fun _ => rfl) rfl rfl rfl rfl rfl rfl rfl rfl (Nat.le_of_ble_eq_true rfl) (fun r_18 u_19 hw => ?_)
            refine vv_if_eq hC 121 d_R_readSymbol_114 (by decide) (fun cd => ?_) (fun cd => ?_)
            · have hw := hw.1 cd
              refine vv_iconst hC d_R_readSymbol_121 (v := (0 : Int32)) (by decide) ?_
              exact vv_zret hC d_R_readSymbol_122 rfl (u_19.1, u_19.2) hw rfl
            · have hw := hw.2 cd
              refine vv_iconst hC d_R_readSymbol_117 (v := (1 : Int32)) (by decide) ?_
              refine vv_goto hC 122 d_R_readSymbol_118 (by decide) ?_
              exact vv_zret hC d_R_readSymbol_122 rfl (u_19.1, u_19.2) hw rfl
        · have hw := hw.2 cd
          exact vv_sub [0] (by rfl) (l_R_readSymbol_b76 a_R a_U a_T a_S a_C I_R A_R I_T A_T I_S A_S I_C Q hC u_2 A_C hw)
    · have hw := hw.1 cd
      refine vv_iconst hC d_R_readSymbol_44 (v := (0 : Int32)) (by decide) ?_
      exact vv_zret hC d_R_readSymbol_45 rfl (u_2, A_C) hw rfl
  · have hw := hw.1 cd
    refine vv_aload_n hC d_R_readSymbol_5 0 rfl rfl ?_
    refine vv_get hC (v := .ref (a_U 0)) hin_R 0 0 tb_104 d_R_readSymbol_6 rfl rfl (by decide) rfl rfl ?_
    refine vv_iconst hC d_R_readSymbol_9 (v := (1 : Int32)) (by decide) ?_
    refine vv_aload_n hC d_R_readSymbol_10 0 rfl rfl ?_
    refine vv_get hC (v := .ref (a_U 0)) hin_R 0 0 tb_104 d_R_readSymbol_11 rfl rfl (by decide) rfl rfl ?_
    refine vv_get hC (v := .int (I_U 0)) hin_U 3 1 tb_82 d_R_readSymbol_14 rfl rfl (by decide) rfl rfl ?_
    refine vv_callVI (wr := kc_R cA a_R a_U a_S I_R A_R ++ kc_S cA a_S I_S A_S ++ kc_C cA a_C I_C A_C) hC (c_U_fail l D cA sx a_U a_T I_U I_T A_T (1 : Int32) (I_U 0) _ hw) (cw_R_121 hC) d_R_readSymbol_17 [] [3, 4, 5, 6] [0, 1, 2, 7, 8, 9, 10, 11, 12, 13, 14, 15, 16, 17, 18, 19, 20, 21, 22, 23, 24] [0, 1, 2, 21, 22, 23, 24, 3, 4, 5, 6, 7, 8, 9, 10, 11, 12, 13, 14, 15, 16, 17, 18, 19, 20] (fun u_23 : (Nat → Int32) => kc_R cA a_R a_U a_S I_R A_R ++ kc_U cA a_U a_T u_23 ++ kc_T cA a_T I_T A_T ++ kc_S cA a_S I_S A_S ++ kc_C cA a_C I_C A_C) ⟨Nat.zero_le _, Nat.zero_le _⟩ rfl rfl (fun _ => rfl) rfl rfl rfl rfl rfl rfl rfl rfl (Nat.le_of_ble_eq_true rfl) (fun r_22 u_23 hw => ?_)
    obtain ⟨hnr_25, hw⟩ := hw
    exact vv_zret hC d_R_readSymbol_20 hnr_25 (u_23, A_C) hw rfl
set_option maxHeartbeats 4000000 in
set_option maxRecDepth 100000 in
theorem l_R_readSymbols_L2 {p : Program} {l : Launch} {e : Env} {s : State} {m : MethodId} {args : Array Value} {below : List Frame} {meth : Method} {c : Code} {D : va_G} {cA : Nat → ClassId} {sx : Nat → Nat} {A : Nat → Prop} (a_R a_U a_T a_S a_C : Nat → Nat) (I_R : (Nat → Int32)) (A_R : (Nat → Nat → Int32)) (I_T : (Nat → Int32)) (A_T : (Nat → Nat → Int32)) (I_S : (Nat → Int32)) (A_S : (Nat → Nat → Int32)) (I_C : (Nat → Int32)) (Q : Int32 → (Nat → Int32) → (Nat → Nat → Int32) → Prop) (X2 : (Nat → Int32) → (Nat → Nat → Int32) → Prop) (hC : CX p s m args meth c b_R_readSymbols R_R TB 4 D vwCl (tyl cA) A (SPl sx) (some .boolean)) (hX2 : ∀ (I_U : (Nat → Int32)) (A_C : (Nat → Nat → Int32)), X2 I_U A_C → VV p l e ({ frames := 5, cells := 0, slots := 0, locals := 106 } : Room) s m args below meth c 4 D vwCl A 0 0 (QI below args s D vwCl (tyl cA) A (fun (r : Int32) (u : (Nat → Int32) × (Nat → Nat → Int32)) => Q r u.1 u.2) (fun u : (Nat → Int32) × (Nat → Nat → Int32) => kc_R cA a_R a_U a_S I_R A_R ++ kc_U cA a_U a_T u.1 ++ kc_T cA a_T I_T A_T ++ kc_S cA a_S I_S A_S ++ kc_C cA a_C I_C u.2)) (kc_R cA a_R a_U a_S I_R A_R ++ kc_U cA a_U a_T I_U ++ kc_T cA a_T I_T A_T ++ kc_S cA a_S I_S A_S ++ kc_C cA a_C I_C A_C) 72 [] []) : ∀ (n2 : Nat) (I_U : (Nat → Int32)) (A_C : (Nat → Nat → Int32)) (v2 : Int32), wp_R_readSymbols_L2 I_T A_T I_C Q X2 n2 I_U A_C v2 → VV p l e ({ frames := 5, cells := 0, slots := 0, locals := 106 } : Room) s m args below meth c 4 D vwCl A 0 0 (QI below args s D vwCl (tyl cA) A (fun (r : Int32) (u : (Nat → Int32) × (Nat → Nat → Int32)) => Q r u.1 u.2) (fun u : (Nat → Int32) × (Nat → Nat → Int32) => kc_R cA a_R a_U a_S I_R A_R ++ kc_U cA a_U a_T u.1 ++ kc_T cA a_T I_T A_T ++ kc_S cA a_S I_S A_S ++ kc_C cA a_C I_C u.2)) (kc_R cA a_R a_U a_S I_R A_R ++ kc_U cA a_U a_T I_U ++ kc_T cA a_T I_T A_T ++ kc_S cA a_S I_S A_S ++ kc_C cA a_C I_C A_C) 2 [(0, .ref (a_R 0)), (1, .ref (a_C 0)), (2, .int v2)] [] := by
  intro n2
  induction n2 with
  | zero =>
    intro I_U A_C v2 hw
    exact absurd hw (fun z => z)
  | succ n2 ih =>
    intro I_U A_C v2 hw
    unfold wp_R_readSymbols_L2 at hw
    refine vv_iload_n hC d_R_readSymbols_2 2 rfl rfl ?_
    refine vv_bipush hC d_R_readSymbols_3 (v := (24 : Int32)) (by decide) ?_
    refine vv_icmp_gt hC 72 d_R_readSymbols_5 (by decide) (fun cd => ?_) (fun cd => ?_)
    · have hw := hw.1 cd
      exact vv_sub [] (by rfl) (hX2 I_U A_C hw)
    · have hw := hw.2 cd
      refine vv_aload_n hC d_R_readSymbols_8 0 rfl rfl ?_
      refine vv_get hC (v := .ref (a_U 0)) hin_R 0 0 tb_104 d_R_readSymbols_9 rfl rfl (by decide) rfl rfl ?_
      refine vv_callVI (wr := kc_R cA a_R a_U a_S I_R A_R ++ kc_S cA a_S I_S A_S ++ kc_C cA a_C I_C A_C) hC (c_U_peek l D cA sx a_U a_T I_U I_T A_T _ hw) (cw_R_88 hC) d_R_readSymbols_12 [] [3, 4, 5, 6] [0, 1, 2, 7, 8, 9, 10, 11, 12, 13, 14, 15, 16, 17, 18, 19, 20, 21, 22, 23, 24] [0, 1, 2, 21, 22, 23, 24, 3, 4, 5, 6, 7, 8, 9, 10, 11, 12, 13, 14, 15, 16, 17, 18, 19, 20] (fun u_2 : Unit => kc_R cA a_R a_U a_S I_R A_R ++ kc_U cA a_U a_T I_U ++ kc_T cA a_T I_T A_T ++ kc_S cA a_S I_S A_S ++ kc_C cA a_C I_C A_C) ⟨Nat.zero_le _, Nat.zero_le _⟩ rfl rfl (fun _ => rfl) rfl rfl rfl rfl rfl rfl rfl rfl (Nat.le_of_ble_eq_true rfl) (fun r_1 u_2 hw => ?_)
      refine vv_istore_n hC d_R_readSymbols_15 rfl (by decide) [1, 2, 3, 0] (L2 := [(0, .ref (a_R 0)), (1, .ref (a_C 0)), (2, .int v2), (3, .int r_1)]) rfl ?_
      refine vv_iload_n hC d_R_readSymbols_16 3 rfl rfl ?_
      refine vv_iconst hC d_R_readSymbols_17 (v := (-1 : Int32)) (by decide) ?_
      refine vv_icmp_ne hC 23 d_R_readSymbols_18 (by decide) (fun cd => ?_) (fun cd => ?_)
      · have hw := hw.2 cd
        refine vv_iload_n hC d_R_readSymbols_23 3 rfl rfl ?_
        refine vv_bipush hC d_R_readSymbols_24 (v := (99 : Int32)) (by decide) ?_
        refine vv_icmp_ne hC 52 d_R_readSymbols_26 (by decide) (fun cd => ?_) (fun cd => ?_)
        · have hw := hw.2 cd
          refine vv_aload_n hC d_R_readSymbols_52 0 rfl rfl ?_
          refine vv_aload_n hC d_R_readSymbols_53 1 rfl rfl ?_
          refine vv_iload_n hC d_R_readSymbols_54 3 rfl rfl ?_
          refine vv_callSI (wr := kc_R cA a_R a_U a_S I_R A_R ++ kc_U cA a_U a_T I_U ++ kc_T cA a_T I_T A_T ++ kc_S cA a_S I_S A_S ++ kc_C cA a_C I_C A_C) hC (c_R_kindOf l D cA sx r_1 _ hw) (cw_R_174 hC) d_R_readSymbols_55 [.ref (a_C 0), .ref (a_R 0)] [] [0, 1, 2, 3, 4, 5, 6, 7, 8, 9, 10, 11, 12, 13, 14, 15, 16, 17, 18, 19, 20, 21, 22, 23, 24] [0, 1, 2, 3, 4, 5, 6, 7, 8, 9, 10, 11, 12, 13, 14, 15, 16, 17, 18, 19, 20, 21, 22, 23, 24] (fun u_4 : Unit => kc_R cA a_R a_U a_S I_R A_R ++ kc_U cA a_U a_T I_U ++ kc_T cA a_T I_T A_T ++ kc_S cA a_S I_S A_S ++ kc_C cA a_C I_C A_C) ⟨Nat.zero_le _, Nat.zero_le _⟩ rfl rfl (fun _ => rfl) rfl rfl rfl rfl rfl rfl (Nat.le_of_ble_eq_true rfl) (fun r_3 u_4 hw => ?_)
          refine vv_callVI (wr := []) hC (c_R_readSymbol l D cA sx a_R a_U a_T a_S a_C I_R A_R I_U I_T A_T I_S A_S I_C A_C r_3 _ hw) (cw_R_178 hC) d_R_readSymbols_58 [] [0, 1, 2, 3, 4, 5, 6, 7, 8, 9, 10, 11, 12, 13, 14, 15, 16, 17, 18, 19, 20, 21, 22, 23, 24] [] [0, 1, 2, 3, 4, 5, 6, 7, 8, 9, 10, 11, 12, 13, 14, 15, 16, 17, 18, 19, 20, 21, 22, 23, 24] (fun u_6 : (Nat → Int32) × (Nat → Nat → Int32) => kc_R cA a_R a_U a_S I_R A_R ++ kc_U cA a_U a_T u_6.1 ++ kc_T cA a_T I_T A_T ++ kc_S cA a_S I_S A_S ++ kc_C cA a_C I_C u_6.2) ⟨Nat.zero_le _, Nat.zero_le _⟩ rfl rfl (fun _ => rfl) rfl rfl rfl rfl rfl rfl rfl rfl (Nat.le_of_ble_eq_true rfl) (fun r_5 u_6 hw => ?_)
          refine vv_if_ne hC 66 d_R_readSymbols_61 (by decide) (fun cd => ?_) (fun cd => ?_)
          · have hw := hw.2 cd
            refine vv_iinc hC d_R_readSymbols_66 2 rfl (v := (v2 + (1 : Int32))) rfl (by decide) [1, 2, 0, 3] (L2 := [(0, .ref (a_R 0)), (1, .ref (a_C 0)), (2, .int (v2 + (1 : Int32))), (3, .int r_1)]) rfl ?_
            refine vv_goto hC 2 d_R_readSymbols_69 (by decide) ?_
            exact vv_sub [0, 1, 2] (by rfl) (ih u_6.1 u_6.2 (v2 + (1 : Int32)) hw)
          · have hw := hw.1 cd
            refine vv_iconst hC d_R_readSymbols_64 (v := (0 : Int32)) (by decide) ?_
            exact vv_zret hC d_R_readSymbols_65 rfl (u_6.1, u_6.2) hw rfl
        · have hw := hw.1 cd
          refine vv_aload_n hC d_R_readSymbols_29 0 rfl rfl ?_
          refine vv_get hC (v := .ref (a_U 0)) hin_R 0 0 tb_104 d_R_readSymbols_30 rfl rfl (by decide) rfl rfl ?_
          refine vv_dup hC d_R_readSymbols_33 rfl ?_
          refine vv_get hC (v := .int (I_U 0)) hin_U 3 1 tb_82 d_R_readSymbols_34 rfl rfl (by decide) rfl rfl ?_
          refine vv_iconst hC d_R_readSymbols_37 (v := (1 : Int32)) (by decide) ?_
          refine vv_iadd hC d_R_readSymbols_38 ?_
          refine vv_put hC hin_U ty_U tyok_U nmok_U 3 1 tb_82 d_R_readSymbols_39 rfl rfl (by decide) rfl rfl rfl rfl rfl (Nat.le_of_ble_eq_true rfl) (ws2 := kc_R cA a_R a_U a_S I_R A_R ++ kc_U cA a_U a_T (va_up I_U 0 ((I_U 0) + (1 : Int32))) ++ kc_T cA a_T I_T A_T ++ kc_S cA a_S I_S A_S ++ kc_C cA a_C I_C A_C) (st_RUTSC_UI0 ..) ?_
          refine vv_aload_n hC d_R_readSymbols_42 0 rfl rfl ?_
          refine vv_get hC (v := .ref (a_U 0)) hin_R 0 0 tb_104 d_R_readSymbols_43 rfl rfl (by decide) rfl rfl ?_
          refine vv_bipush hC d_R_readSymbols_46 (v := (10 : Int32)) (by decide) ?_
          refine vv_callVI (wr := kc_R cA a_R a_U a_S I_R A_R ++ kc_S cA a_S I_S A_S ++ kc_C cA a_C I_C A_C) hC (c_U_expect l D cA sx a_U a_T (va_up I_U 0 ((I_U 0) + (1 : Int32))) I_T A_T (10 : Int32) _ hw) (cw_R_84 hC) d_R_readSymbols_48 [] [3, 4, 5, 6] [0, 1, 2, 7, 8, 9, 10, 11, 12, 13, 14, 15, 16, 17, 18, 19, 20, 21, 22, 23, 24] [0, 1, 2, 21, 22, 23, 24, 3, 4, 5, 6, 7, 8, 9, 10, 11, 12, 13, 14, 15, 16, 17, 18, 19, 20] (fun u_10 : (Nat → Int32) => kc_R cA a_R a_U a_S I_R A_R ++ kc_U cA a_U a_T u_10 ++ kc_T cA a_T I_T A_T ++ kc_S cA a_S I_S A_S ++ kc_C cA a_C I_C A_C) ⟨Nat.zero_le _, Nat.zero_le _⟩ rfl rfl (fun _ => rfl) rfl rfl rfl rfl rfl rfl rfl rfl (Nat.le_of_ble_eq_true rfl) (fun r_9 u_10 hw => ?_)
          obtain ⟨hnr_12, hw⟩ := hw
          exact vv_zret hC d_R_readSymbols_51 hnr_12 (u_10, A_C) hw rfl
      · have hw := hw.1 cd
        refine vv_iconst hC d_R_readSymbols_21 (v := (1 : Int32)) (by decide) ?_
        exact vv_zret hC d_R_readSymbols_22 rfl (I_U, A_C) hw rfl
set_option maxHeartbeats 4000000 in
set_option maxRecDepth 100000 in
theorem c_R_readSymbols (l : Launch) (D : va_G) (cA : Nat → ClassId) (sx : Nat → Nat) (a_R a_U a_T a_S a_C : Nat → Nat) (I_R : (Nat → Int32)) (A_R : (Nat → Nat → Int32)) (I_U : (Nat → Int32)) (I_T : (Nat → Int32)) (A_T : (Nat → Nat → Int32)) (I_S : (Nat → Int32)) (A_S : (Nat → Nat → Int32)) (I_C : (Nat → Int32)) (A_C : (Nat → Nat → Int32)) (Q : Int32 → (Nat → Int32) → (Nat → Nat → Int32) → Prop) (hw : wp_R_readSymbols I_U I_T A_T I_C A_C Q) : MetI l y_R_readSymbols (Cond.code y_R_readSymbols b_R_readSymbols 4 (some .boolean) :: TB) ({ frames := 5, cells := 0, slots := 0, locals := 106 } : Room) D vwCl (tyl cA) (SPl sx) [.ref (a_R 0), .ref (a_C 0)] (kc_R cA a_R a_U a_S I_R A_R ++ kc_U cA a_U a_T I_U ++ kc_T cA a_T I_T A_T ++ kc_S cA a_S I_S A_S ++ kc_C cA a_C I_C A_C) (fun (r : Int32) (u : (Nat → Int32) × (Nat → Nat → Int32)) => Q r u.1 u.2) (fun u : (Nat → Int32) × (Nat → Nat → Int32) => kc_R cA a_R a_U a_S I_R A_R ++ kc_U cA a_U a_T u.1 ++ kc_T cA a_T I_T A_T ++ kc_S cA a_S I_S A_S ++ kc_C cA a_C I_C u.2) := by
  refine vv_entryI (cc := b_R_readSymbols) (own := R_R) (L := [(0, .ref (a_R 0)), (1, .ref (a_C 0))]) (by decide) rfl rfl (Nat.le_of_ble_eq_true rfl) rfl (fun p e s m args below meth c A hC => ?_)
  unfold wp_R_readSymbols at hw
  refine vv_iconst hC d_R_readSymbols_0 (v := (0 : Int32)) (by decide) ?_
  refine vv_istore_n hC d_R_readSymbols_1 rfl (by decide) [1, 2, 0] (L2 := [(0, .ref (a_R 0)), (1, .ref (a_C 0)), (2, .int (0 : Int32))]) rfl ?_
  obtain ⟨m2, hw⟩ := hw
  refine vv_sub [0, 1, 2] (by rfl) (l_R_readSymbols_L2 a_R a_U a_T a_S a_C I_R A_R I_T A_T I_S A_S I_C Q _ hC (fun I_U_13 A_C_14 hw => ?_) m2 I_U A_C (0 : Int32) hw)
  refine vv_iconst hC d_R_readSymbols_72 (v := (1 : Int32)) (by decide) ?_
  exact vv_zret hC d_R_readSymbols_73 rfl (I_U_13, A_C_14) hw rfl
set_option maxHeartbeats 4000000 in
set_option maxRecDepth 100000 in
theorem l_R_checkUses_L2 {p : Program} {l : Launch} {e : Env} {s : State} {m : MethodId} {args : Array Value} {below : List Frame} {meth : Method} {c : Code} {D : va_G} {cA : Nat → ClassId} {sx : Nat → Nat} {A : Nat → Prop} (a_R a_U a_T a_S a_C : Nat → Nat) (I_R : (Nat → Int32)) (A_R : (Nat → Nat → Int32)) (I_T : (Nat → Int32)) (A_T : (Nat → Nat → Int32)) (I_S : (Nat → Int32)) (A_S : (Nat → Nat → Int32)) (I_C : (Nat → Int32)) (A_C : (Nat → Nat → Int32)) (Q : Int32 → (Nat → Int32) → Prop) (X2 : (Nat → Int32) → Prop) (hC : CX p s m args meth c b_R_checkUses R_R TB 3 D vwCl (tyl cA) A (SPl sx) (some .boolean)) (hX2 : ∀ (I_U : (Nat → Int32)), X2 I_U → VV p l e ({ frames := 1, cells := 0, slots := 0, locals := 22 } : Room) s m args below meth c 3 D vwCl A 0 0 (QI below args s D vwCl (tyl cA) A (fun (r : Int32) (u : (Nat → Int32)) => Q r u) (fun u : (Nat → Int32) => kc_R cA a_R a_U a_S I_R A_R ++ kc_U cA a_U a_T u ++ kc_T cA a_T I_T A_T ++ kc_S cA a_S I_S A_S ++ kc_C cA a_C I_C A_C)) (kc_R cA a_R a_U a_S I_R A_R ++ kc_U cA a_U a_T I_U ++ kc_T cA a_T I_T A_T ++ kc_S cA a_S I_S A_S ++ kc_C cA a_C I_C A_C) 44 [] []) : ∀ (n2 : Nat) (I_U : (Nat → Int32)) (v2 : Int32), wp_R_checkUses_L2 I_R A_R A_C Q X2 n2 I_U v2 → VV p l e ({ frames := 1, cells := 0, slots := 0, locals := 22 } : Room) s m args below meth c 3 D vwCl A 0 0 (QI below args s D vwCl (tyl cA) A (fun (r : Int32) (u : (Nat → Int32)) => Q r u) (fun u : (Nat → Int32) => kc_R cA a_R a_U a_S I_R A_R ++ kc_U cA a_U a_T u ++ kc_T cA a_T I_T A_T ++ kc_S cA a_S I_S A_S ++ kc_C cA a_C I_C A_C)) (kc_R cA a_R a_U a_S I_R A_R ++ kc_U cA a_U a_T I_U ++ kc_T cA a_T I_T A_T ++ kc_S cA a_S I_S A_S ++ kc_C cA a_C I_C A_C) 2 [(0, .ref (a_R 0)), (1, .ref (a_C 0)), (2, .int v2)] [] := by
  intro n2
  induction n2 with
  | zero =>
    intro I_U v2 hw
    exact absurd hw (fun z => z)
  | succ n2 ih =>
    intro I_U v2 hw
    unfold wp_R_checkUses_L2 at hw
    refine vv_iload_n hC d_R_checkUses_2 2 rfl rfl ?_
    refine vv_aload_n hC d_R_checkUses_3 0 rfl rfl ?_
    refine vv_get hC (v := .int (I_R 0)) hin_R 0 4 tb_108 d_R_checkUses_4 rfl rfl (by decide) rfl rfl ?_
    refine vv_icmp_ge hC 44 d_R_checkUses_7 (by decide) (fun cd => ?_) (fun cd => ?_)
    · have hw := hw.1 cd
      exact vv_sub [] (by rfl) (hX2 I_U hw)
    · have hw := hw.2 cd
      refine vv_aload_n hC d_R_checkUses_10 1 rfl rfl ?_
      refine vv_aload_n hC d_R_checkUses_11 0 rfl rfl ?_
      refine vv_get hC (v := .ref (a_R 1)) hin_R 0 2 tb_106 d_R_checkUses_12 rfl rfl (by decide) rfl rfl ?_
      refine vv_iload_n hC d_R_checkUses_15 2 rfl rfl ?_
      obtain ⟨hin_1, hw⟩ := hw
      refine vv_iald hC 1 0 d_R_checkUses_16 rfl rfl hin_1 ?_
      refine vv_callVI (wr := kc_R cA a_R a_U a_S I_R A_R ++ kc_U cA a_U a_T I_U ++ kc_T cA a_T I_T A_T ++ kc_S cA a_S I_S A_S) hC (c_C_isKnown l D cA sx a_C I_C A_C ((A_R 0) (v2).toNatClampNeg) _ hw) (cw_R_206 hC) d_R_checkUses_17 [] [12, 13, 14, 15, 16, 17, 18, 19, 20, 21, 22, 23, 24] [0, 1, 2, 3, 4, 5, 6, 7, 8, 9, 10, 11] [0, 1, 2, 3, 4, 5, 6, 7, 8, 9, 10, 11, 12, 13, 14, 15, 16, 17, 18, 19, 20, 21, 22, 23, 24] (fun u_3 : Unit => kc_R cA a_R a_U a_S I_R A_R ++ kc_U cA a_U a_T I_U ++ kc_T cA a_T I_T A_T ++ kc_S cA a_S I_S A_S ++ kc_C cA a_C I_C A_C) ⟨Nat.zero_le _, Nat.zero_le _⟩ rfl rfl (fun _ => rfl) rfl rfl rfl rfl rfl rfl rfl rfl (Nat.le_of_ble_eq_true rfl) (fun r_2 u_3 hw => ?_)
      refine vv_if_ne hC 38 d_R_checkUses_20 (by decide) (fun cd => ?_) (fun cd => ?_)
      · have hw := hw.2 cd
        refine vv_iinc hC d_R_checkUses_38 2 rfl (v := (v2 + (1 : Int32))) rfl (by decide) [1, 2, 0] (L2 := [(0, .ref (a_R 0)), (1, .ref (a_C 0)), (2, .int (v2 + (1 : Int32)))]) rfl ?_
        refine vv_goto hC 2 d_R_checkUses_41 (by decide) ?_
        exact vv_sub [0, 1, 2] (by rfl) (ih I_U (v2 + (1 : Int32)) hw)
      · have hw := hw.1 cd
        refine vv_aload_n hC d_R_checkUses_23 0 rfl rfl ?_
        refine vv_get hC (v := .ref (a_U 0)) hin_R 0 0 tb_104 d_R_checkUses_24 rfl rfl (by decide) rfl rfl ?_
        refine vv_iconst hC d_R_checkUses_27 (v := (5 : Int32)) (by decide) ?_
        refine vv_aload_n hC d_R_checkUses_28 0 rfl rfl ?_
        refine vv_get hC (v := .ref (a_R 2)) hin_R 0 3 tb_107 d_R_checkUses_29 rfl rfl (by decide) rfl rfl ?_
        refine vv_iload_n hC d_R_checkUses_32 2 rfl rfl ?_
        refine vv_iald hC 2 0 d_R_checkUses_33 rfl rfl hin_1 ?_
        refine vv_callVI (wr := kc_R cA a_R a_U a_S I_R A_R ++ kc_S cA a_S I_S A_S ++ kc_C cA a_C I_C A_C) hC (c_U_fail l D cA sx a_U a_T I_U I_T A_T (5 : Int32) ((A_R 1) (v2).toNatClampNeg) _ hw) (cw_R_121 hC) d_R_checkUses_34 [] [3, 4, 5, 6] [0, 1, 2, 7, 8, 9, 10, 11, 12, 13, 14, 15, 16, 17, 18, 19, 20, 21, 22, 23, 24] [0, 1, 2, 21, 22, 23, 24, 3, 4, 5, 6, 7, 8, 9, 10, 11, 12, 13, 14, 15, 16, 17, 18, 19, 20] (fun u_5 : (Nat → Int32) => kc_R cA a_R a_U a_S I_R A_R ++ kc_U cA a_U a_T u_5 ++ kc_T cA a_T I_T A_T ++ kc_S cA a_S I_S A_S ++ kc_C cA a_C I_C A_C) ⟨Nat.zero_le _, Nat.zero_le _⟩ rfl rfl (fun _ => rfl) rfl rfl rfl rfl rfl rfl rfl rfl (Nat.le_of_ble_eq_true rfl) (fun r_4 u_5 hw => ?_)
        obtain ⟨hnr_7, hw⟩ := hw
        exact vv_zret hC d_R_checkUses_37 hnr_7 u_5 hw rfl
set_option maxHeartbeats 4000000 in
set_option maxRecDepth 100000 in
theorem c_R_checkUses (l : Launch) (D : va_G) (cA : Nat → ClassId) (sx : Nat → Nat) (a_R a_U a_T a_S a_C : Nat → Nat) (I_R : (Nat → Int32)) (A_R : (Nat → Nat → Int32)) (I_U : (Nat → Int32)) (I_T : (Nat → Int32)) (A_T : (Nat → Nat → Int32)) (I_S : (Nat → Int32)) (A_S : (Nat → Nat → Int32)) (I_C : (Nat → Int32)) (A_C : (Nat → Nat → Int32)) (Q : Int32 → (Nat → Int32) → Prop) (hw : wp_R_checkUses I_R A_R I_U A_C Q) : MetI l y_R_checkUses (Cond.code y_R_checkUses b_R_checkUses 3 (some .boolean) :: TB) ({ frames := 1, cells := 0, slots := 0, locals := 22 } : Room) D vwCl (tyl cA) (SPl sx) [.ref (a_R 0), .ref (a_C 0)] (kc_R cA a_R a_U a_S I_R A_R ++ kc_U cA a_U a_T I_U ++ kc_T cA a_T I_T A_T ++ kc_S cA a_S I_S A_S ++ kc_C cA a_C I_C A_C) (fun (r : Int32) (u : (Nat → Int32)) => Q r u) (fun u : (Nat → Int32) => kc_R cA a_R a_U a_S I_R A_R ++ kc_U cA a_U a_T u ++ kc_T cA a_T I_T A_T ++ kc_S cA a_S I_S A_S ++ kc_C cA a_C I_C A_C) := by
  refine vv_entryI (cc := b_R_checkUses) (own := R_R) (L := [(0, .ref (a_R 0)), (1, .ref (a_C 0))]) (by decide) rfl rfl (Nat.le_of_ble_eq_true rfl) rfl (fun p e s m args below meth c A hC => ?_)
  unfold wp_R_checkUses at hw
  refine vv_iconst hC d_R_checkUses_0 (v := (0 : Int32)) (by decide) ?_
  refine vv_istore_n hC d_R_checkUses_1 rfl (by decide) [1, 2, 0] (L2 := [(0, .ref (a_R 0)), (1, .ref (a_C 0)), (2, .int (0 : Int32))]) rfl ?_
  obtain ⟨m2, hw⟩ := hw
  refine vv_sub [0, 1, 2] (by rfl) (l_R_checkUses_L2 a_R a_U a_T a_S a_C I_R A_R I_T A_T I_S A_S I_C A_C Q _ hC (fun I_U_8 hw => ?_) m2 I_U (0 : Int32) hw)
  refine vv_iconst hC d_R_checkUses_44 (v := (1 : Int32)) (by decide) ?_
  exact vv_zret hC d_R_checkUses_45 rfl I_U_8 hw rfl
set_option maxHeartbeats 4000000 in
set_option maxRecDepth 100000 in
theorem c_R_checkLoops (l : Launch) (D : va_G) (cA : Nat → ClassId) (sx : Nat → Nat) (a_R a_U a_T a_S a_C : Nat → Nat) (I_R : (Nat → Int32)) (A_R : (Nat → Nat → Int32)) (I_U : (Nat → Int32)) (I_T : (Nat → Int32)) (A_T : (Nat → Nat → Int32)) (I_S : (Nat → Int32)) (A_S : (Nat → Nat → Int32)) (I_C : (Nat → Int32)) (A_C : (Nat → Nat → Int32)) (Q : Int32 → (Nat → Int32) → (Nat → Int32) → (Nat → Nat → Int32) → (Nat → Nat → Int32) → Prop) (hw : wp_R_checkLoops I_U I_S A_S I_C A_C Q) : MetI l y_R_checkLoops (Cond.code y_R_checkLoops b_R_checkLoops 2 (some .boolean) :: TB) ({ frames := 3, cells := 0, slots := 0, locals := 67 } : Room) D vwCl (tyl cA) (SPl sx) [.ref (a_R 0), .ref (a_C 0)] (kc_R cA a_R a_U a_S I_R A_R ++ kc_U cA a_U a_T I_U ++ kc_T cA a_T I_T A_T ++ kc_S cA a_S I_S A_S ++ kc_C cA a_C I_C A_C) (fun (r : Int32) (u : (Nat → Int32) × (Nat → Int32) × (Nat → Nat → Int32) × (Nat → Nat → Int32)) => Q r u.1 u.2.1 u.2.2.1 u.2.2.2) (fun u : (Nat → Int32) × (Nat → Int32) × (Nat → Nat → Int32) × (Nat → Nat → Int32) => kc_R cA a_R a_U a_S I_R A_R ++ kc_U cA a_U a_T u.1 ++ kc_T cA a_T I_T A_T ++ kc_S cA a_S u.2.1 u.2.2.1 ++ kc_C cA a_C I_C u.2.2.2) := by
  refine vv_entryI (cc := b_R_checkLoops) (own := R_R) (L := [(0, .ref (a_R 0)), (1, .ref (a_C 0))]) (by decide) rfl rfl (Nat.le_of_ble_eq_true rfl) rfl (fun p e s m args below meth c A hC => ?_)
  unfold wp_R_checkLoops at hw
  refine vv_aload_n hC d_R_checkLoops_0 0 rfl rfl ?_
  refine vv_get hC (v := .ref (a_S 0)) hin_R 0 1 tb_105 d_R_checkLoops_1 rfl rfl (by decide) rfl rfl ?_
  refine vv_aload_n hC d_R_checkLoops_4 1 rfl rfl ?_
  refine vv_callVI (wr := kc_R cA a_R a_U a_S I_R A_R ++ kc_U cA a_U a_T I_U ++ kc_T cA a_T I_T A_T) hC (c_S_putInOrder l D cA sx a_S a_C I_S A_S I_C A_C _ hw) (cw_R_209 hC) d_R_checkLoops_5 [] [7, 8, 9, 10, 11, 12, 13, 14, 15, 16, 17, 18, 19, 20, 21, 22, 23, 24] [0, 1, 2, 3, 4, 5, 6] [0, 1, 2, 3, 4, 5, 6, 7, 8, 9, 10, 11, 12, 13, 14, 15, 16, 17, 18, 19, 20, 21, 22, 23, 24] (fun u_2 : (Nat → Nat → Int32) × (Nat → Nat → Int32) => kc_R cA a_R a_U a_S I_R A_R ++ kc_U cA a_U a_T I_U ++ kc_T cA a_T I_T A_T ++ kc_S cA a_S I_S u_2.1 ++ kc_C cA a_C I_C u_2.2) ⟨Nat.zero_le _, Nat.zero_le _⟩ rfl rfl (fun _ => rfl) rfl rfl rfl rfl rfl rfl rfl rfl (Nat.le_of_ble_eq_true rfl) (fun r_1 u_2 hw => ?_)
  refine vv_if_ne hC 31 d_R_checkLoops_8 (by decide) (fun cd => ?_) (fun cd => ?_)
  · have hw := hw.2 cd
    refine vv_iconst hC d_R_checkLoops_31 (v := (1 : Int32)) (by decide) ?_
    refine vv_goto hC 36 d_R_checkLoops_32 (by decide) ?_
    exact vv_zret hC d_R_checkLoops_36 rfl (I_U, I_S, u_2.1, u_2.2) hw rfl
  · have hw := hw.1 cd
    refine vv_aload_n hC d_R_checkLoops_11 0 rfl rfl ?_
    refine vv_get hC (v := .ref (a_U 0)) hin_R 0 0 tb_104 d_R_checkLoops_12 rfl rfl (by decide) rfl rfl ?_
    refine vv_bipush hC d_R_checkLoops_15 (v := (6 : Int32)) (by decide) ?_
    refine vv_aload_n hC d_R_checkLoops_17 0 rfl rfl ?_
    refine vv_get hC (v := .ref (a_S 0)) hin_R 0 1 tb_105 d_R_checkLoops_18 rfl rfl (by decide) rfl rfl ?_
    refine vv_aload_n hC d_R_checkLoops_21 1 rfl rfl ?_
    refine vv_callVI (wr := kc_R cA a_R a_U a_S I_R A_R ++ kc_U cA a_U a_T I_U ++ kc_T cA a_T I_T A_T) hC (c_S_lowestOnLoop l D cA sx a_S a_C I_S u_2.1 I_C u_2.2 _ hw) (cw_R_212 hC) d_R_checkLoops_22 [.int (6 : Int32), .ref (a_U 0)] [7, 8, 9, 10, 11, 12, 13, 14, 15, 16, 17, 18, 19, 20, 21, 22, 23, 24] [0, 1, 2, 3, 4, 5, 6] [0, 1, 2, 3, 4, 5, 6, 7, 8, 9, 10, 11, 12, 13, 14, 15, 16, 17, 18, 19, 20, 21, 22, 23, 24] (fun u_6 : (Nat → Int32) × (Nat → Nat → Int32) => kc_R cA a_R a_U a_S I_R A_R ++ kc_U cA a_U a_T I_U ++ kc_T cA a_T I_T A_T ++ kc_S cA a_S u_6.1 u_6.2 ++ kc_C cA a_C I_C u_2.2) ⟨Nat.zero_le _, Nat.zero_le _⟩ rfl rfl (fun _ => rfl) rfl rfl rfl rfl rfl rfl rfl rfl (Nat.le_of_ble_eq_true rfl) (fun r_5 u_6 hw => ?_)
    refine vv_callVI (wr := kc_R cA a_R a_U a_S I_R A_R ++ kc_S cA a_S u_6.1 u_6.2 ++ kc_C cA a_C I_C u_2.2) hC (c_U_fail l D cA sx a_U a_T I_U I_T A_T (6 : Int32) r_5 _ hw) (cw_R_121 hC) d_R_checkLoops_25 [] [3, 4, 5, 6] [0, 1, 2, 7, 8, 9, 10, 11, 12, 13, 14, 15, 16, 17, 18, 19, 20, 21, 22, 23, 24] [0, 1, 2, 21, 22, 23, 24, 3, 4, 5, 6, 7, 8, 9, 10, 11, 12, 13, 14, 15, 16, 17, 18, 19, 20] (fun u_10 : (Nat → Int32) => kc_R cA a_R a_U a_S I_R A_R ++ kc_U cA a_U a_T u_10 ++ kc_T cA a_T I_T A_T ++ kc_S cA a_S u_6.1 u_6.2 ++ kc_C cA a_C I_C u_2.2) ⟨Nat.zero_le _, Nat.zero_le _⟩ rfl rfl (fun _ => rfl) rfl rfl rfl rfl rfl rfl rfl rfl (Nat.le_of_ble_eq_true rfl) (fun r_9 u_10 hw => ?_)
    refine vv_if_eq hC 35 d_R_checkLoops_28 (by decide) (fun cd => ?_) (fun cd => ?_)
    · have hw := hw.1 cd
      refine vv_iconst hC d_R_checkLoops_35 (v := (0 : Int32)) (by decide) ?_
      exact vv_zret hC d_R_checkLoops_36 rfl (u_10, u_6.1, u_6.2, u_2.2) hw rfl
    · have hw := hw.2 cd
      refine vv_iconst hC d_R_checkLoops_31 (v := (1 : Int32)) (by decide) ?_
      refine vv_goto hC 36 d_R_checkLoops_32 (by decide) ?_
      exact vv_zret hC d_R_checkLoops_36 rfl (u_10, u_6.1, u_6.2, u_2.2) hw rfl
set_option maxHeartbeats 4000000 in
set_option maxRecDepth 100000 in
theorem l_R_readDelta_b40 {p : Program} {l : Launch} {e : Env} {s : State} {m : MethodId} {args : Array Value} {below : List Frame} {meth : Method} {c : Code} {D : va_G} {cA : Nat → ClassId} {sx : Nat → Nat} {A : Nat → Prop} (a_R a_U a_T a_S : Nat → Nat) (I_R : (Nat → Int32)) (A_R : (Nat → Nat → Int32)) (I_T : (Nat → Int32)) (A_T : (Nat → Nat → Int32)) (I_S : (Nat → Int32)) (A_S : (Nat → Nat → Int32)) (Q : Int32 → (Nat → Int32) → Prop) (hC : CX p s m args meth c b_R_readDelta R_R TB 4 D vwCl (tyl cA) A (SPl sx) (some .boolean)) : ∀ (I_U : (Nat → Int32)) (v3 : Int32), wp_R_readDelta_b40 I_T A_T Q I_U v3 → VV p l e ({ frames := 2, cells := 0, slots := 0, locals := 44 } : Room) s m args below meth c 4 D vwCl A 0 0 (QI below args s D vwCl (tyl cA) A (fun (r : Int32) (u : (Nat → Int32)) => Q r u) (fun u : (Nat → Int32) => kc_R cA a_R a_U a_S I_R A_R ++ kc_U cA a_U a_T u ++ kc_T cA a_T I_T A_T ++ kc_S cA a_S I_S A_S)) (kc_R cA a_R a_U a_S I_R A_R ++ kc_U cA a_U a_T I_U ++ kc_T cA a_T I_T A_T ++ kc_S cA a_S I_S A_S) 40 [(0, .ref (a_R 0)), (3, .int v3)] [] := by
  intro I_U v3 hw
  unfold wp_R_readDelta_b40 at hw
  refine vv_iload_n hC d_R_readDelta_40 1 rfl rfl ?_
  refine vv_if_ne hC 62 d_R_readDelta_41 (by decide) (fun cd => ?_) (fun cd => ?_)
  · have hw := hw.2 cd
    refine vv_iconst hC d_R_readDelta_62 (v := (1 : Int32)) (by decide) ?_
    refine vv_goto hC 67 d_R_readDelta_63 (by decide) ?_
    exact vv_zret hC d_R_readDelta_67 rfl I_U hw rfl
  · have hw := hw.1 cd
    refine vv_aload_n hC d_R_readDelta_44 0 rfl rfl ?_
    refine vv_get hC (v := .ref (a_U 0)) hin_R 0 0 tb_104 d_R_readDelta_45 rfl rfl (by decide) rfl rfl ?_
    refine vv_iconst hC d_R_readDelta_48 (v := (3 : Int32)) (by decide) ?_
    refine vv_aload_n hC d_R_readDelta_49 0 rfl rfl ?_
    refine vv_get hC (v := .ref (a_U 0)) hin_R 0 0 tb_104 d_R_readDelta_50 rfl rfl (by decide) rfl rfl ?_
    refine vv_get hC (v := .int (I_U 1)) hin_U 3 2 tb_84 d_R_readDelta_53 rfl rfl (by decide) rfl rfl ?_
    refine vv_callVI (wr := kc_R cA a_R a_U a_S I_R A_R ++ kc_S cA a_S I_S A_S) hC (c_U_fail l D cA sx a_U a_T I_U I_T A_T (3 : Int32) (I_U 1) _ hw) (cw_R_121 hC) d_R_readDelta_56 [] [3, 4, 5, 6] [0, 1, 2, 7, 8, 9, 10, 11] [0, 1, 2, 8, 9, 10, 11, 3, 4, 5, 6, 7] (fun u_5 : (Nat → Int32) => kc_R cA a_R a_U a_S I_R A_R ++ kc_U cA a_U a_T u_5 ++ kc_T cA a_T I_T A_T ++ kc_S cA a_S I_S A_S) ⟨Nat.zero_le _, Nat.zero_le _⟩ rfl rfl (fun _ => rfl) rfl rfl rfl rfl rfl rfl rfl rfl (Nat.le_of_ble_eq_true rfl) (fun r_4 u_5 hw => ?_)
    refine vv_if_eq hC 66 d_R_readDelta_59 (by decide) (fun cd => ?_) (fun cd => ?_)
    · have hw := hw.1 cd
      refine vv_iconst hC d_R_readDelta_66 (v := (0 : Int32)) (by decide) ?_
      exact vv_zret hC d_R_readDelta_67 rfl u_5 hw rfl
    · have hw := hw.2 cd
      refine vv_iconst hC d_R_readDelta_62 (v := (1 : Int32)) (by decide) ?_
      refine vv_goto hC 67 d_R_readDelta_63 (by decide) ?_
      exact vv_zret hC d_R_readDelta_67 rfl u_5 hw rfl
set_option maxHeartbeats 4000000 in
set_option maxRecDepth 100000 in
theorem l_R_readDelta_b38 {p : Program} {l : Launch} {e : Env} {s : State} {m : MethodId} {args : Array Value} {below : List Frame} {meth : Method} {c : Code} {D : va_G} {cA : Nat → ClassId} {sx : Nat → Nat} {A : Nat → Prop} (a_R a_U a_T a_S : Nat → Nat) (I_R : (Nat → Int32)) (A_R : (Nat → Nat → Int32)) (I_T : (Nat → Int32)) (A_T : (Nat → Nat → Int32)) (I_S : (Nat → Int32)) (A_S : (Nat → Nat → Int32)) (Q : Int32 → (Nat → Int32) → Prop) (hC : CX p s m args meth c b_R_readDelta R_R TB 4 D vwCl (tyl cA) A (SPl sx) (some .boolean)) : ∀ (I_U : (Nat → Int32)), wp_R_readDelta_b38 I_T A_T Q I_U → VV p l e ({ frames := 2, cells := 0, slots := 0, locals := 44 } : Room) s m args below meth c 4 D vwCl A 0 0 (QI below args s D vwCl (tyl cA) A (fun (r : Int32) (u : (Nat → Int32)) => Q r u) (fun u : (Nat → Int32) => kc_R cA a_R a_U a_S I_R A_R ++ kc_U cA a_U a_T u ++ kc_T cA a_T I_T A_T ++ kc_S cA a_S I_S A_S)) (kc_R cA a_R a_U a_S I_R A_R ++ kc_U cA a_U a_T I_U ++ kc_T cA a_T I_T A_T ++ kc_S cA a_S I_S A_S) 38 [(0, .ref (a_R 0))] [] := by
  intro I_U hw
  unfold wp_R_readDelta_b38 at hw
  refine vv_iconst hC d_R_readDelta_38 (v := (0 : Int32)) (by decide) ?_
  refine vv_istore_n hC d_R_readDelta_39 rfl (by decide) [1, 0] (L2 := [(0, .ref (a_R 0)), (3, .int (0 : Int32))]) rfl ?_
  exact vv_sub [0, 1] (by rfl) (l_R_readDelta_b40 a_R a_U a_T a_S I_R A_R I_T A_T I_S A_S Q hC I_U (0 : Int32) hw)
set_option maxHeartbeats 4000000 in
set_option maxRecDepth 100000 in
theorem c_R_readDelta (l : Launch) (D : va_G) (cA : Nat → ClassId) (sx : Nat → Nat) (a_R a_U a_T a_S : Nat → Nat) (I_R : (Nat → Int32)) (A_R : (Nat → Nat → Int32)) (I_U : (Nat → Int32)) (I_T : (Nat → Int32)) (A_T : (Nat → Nat → Int32)) (I_S : (Nat → Int32)) (A_S : (Nat → Nat → Int32)) (x1 x2 : Int32) (Q : Int32 → (Nat → Int32) → Prop) (hw : wp_R_readDelta I_U I_T A_T x1 x2 Q) : MetI l y_R_readDelta (Cond.code y_R_readDelta b_R_readDelta 4 (some .boolean) :: TB) ({ frames := 2, cells := 0, slots := 0, locals := 44 } : Room) D vwCl (tyl cA) (SPl sx) [.ref (a_R 0), .int x1, .int x2] (kc_R cA a_R a_U a_S I_R A_R ++ kc_U cA a_U a_T I_U ++ kc_T cA a_T I_T A_T ++ kc_S cA a_S I_S A_S) (fun (r : Int32) (u : (Nat → Int32)) => Q r u) (fun u : (Nat → Int32) => kc_R cA a_R a_U a_S I_R A_R ++ kc_U cA a_U a_T u ++ kc_T cA a_T I_T A_T ++ kc_S cA a_S I_S A_S) := by
  refine vv_entryI (cc := b_R_readDelta) (own := R_R) (L := [(0, .ref (a_R 0)), (1, .int x1), (2, .int x2)]) (by decide) rfl rfl (Nat.le_of_ble_eq_true rfl) rfl (fun p e s m args below meth c A hC => ?_)
  unfold wp_R_readDelta at hw
  refine vv_aload_n hC d_R_readDelta_0 0 rfl rfl ?_
  refine vv_get hC (v := .ref (a_U 0)) hin_R 0 0 tb_104 d_R_readDelta_1 rfl rfl (by decide) rfl rfl ?_
  refine vv_callVI (wr := kc_R cA a_R a_U a_S I_R A_R ++ kc_S cA a_S I_S A_S) hC (c_U_readSevens l D cA sx a_U a_T I_U I_T A_T _ hw) (cw_R_162 hC) d_R_readDelta_4 [] [3, 4, 5, 6] [0, 1, 2, 7, 8, 9, 10, 11] [0, 1, 2, 8, 9, 10, 11, 3, 4, 5, 6, 7] (fun u_2 : (Nat → Int32) => kc_R cA a_R a_U a_S I_R A_R ++ kc_U cA a_U a_T u_2 ++ kc_T cA a_T I_T A_T ++ kc_S cA a_S I_S A_S) ⟨Nat.zero_le _, Nat.zero_le _⟩ rfl rfl (fun _ => rfl) rfl rfl rfl rfl rfl rfl rfl rfl (Nat.le_of_ble_eq_true rfl) (fun r_1 u_2 hw => ?_)
  refine vv_if_ne hC 12 d_R_readDelta_7 (by decide) (fun cd => ?_) (fun cd => ?_)
  · have hw := hw.2 cd
    refine vv_aload_n hC d_R_readDelta_12 0 rfl rfl ?_
    refine vv_get hC (v := .ref (a_U 0)) hin_R 0 0 tb_104 d_R_readDelta_13 rfl rfl (by decide) rfl rfl ?_
    refine vv_get hC (v := .int (u_2 2)) hin_U 3 3 tb_86 d_R_readDelta_16 rfl rfl (by decide) rfl rfl ?_
    refine vv_iload_n hC d_R_readDelta_19 1 rfl rfl ?_
    refine vv_icmp_lt hC 38 d_R_readDelta_20 (by decide) (fun cd => ?_) (fun cd => ?_)
    · have hw := hw.1 cd
      exact vv_sub [0] (by rfl) (l_R_readDelta_b38 a_R a_U a_T a_S I_R A_R I_T A_T I_S A_S Q hC u_2 hw)
    · have hw := hw.2 cd
      refine vv_aload_n hC d_R_readDelta_23 0 rfl rfl ?_
      refine vv_get hC (v := .ref (a_U 0)) hin_R 0 0 tb_104 d_R_readDelta_24 rfl rfl (by decide) rfl rfl ?_
      refine vv_get hC (v := .int (u_2 2)) hin_U 3 3 tb_86 d_R_readDelta_27 rfl rfl (by decide) rfl rfl ?_
      refine vv_iload_n hC d_R_readDelta_30 2 rfl rfl ?_
      refine vv_icmp_gt hC 38 d_R_readDelta_31 (by decide) (fun cd => ?_) (fun cd => ?_)
      · have hw := hw.1 cd
        exact vv_sub [0] (by rfl) (l_R_readDelta_b38 a_R a_U a_T a_S I_R A_R I_T A_T I_S A_S Q hC u_2 hw)
      · have hw := hw.2 cd
        refine vv_iconst hC d_R_readDelta_34 (v := (1 : Int32)) (by decide) ?_
        refine vv_goto hC 39 d_R_readDelta_35 (by decide) ?_
        refine vv_istore_n hC d_R_readDelta_39 rfl (by decide) [1, 2, 3, 0] (L2 := [(0, .ref (a_R 0)), (1, .int x1), (2, .int x2), (3, .int (1 : Int32))]) rfl ?_
        exact vv_sub [0, 3] (by rfl) (l_R_readDelta_b40 a_R a_U a_T a_S I_R A_R I_T A_T I_S A_S Q hC u_2 (1 : Int32) hw)
  · have hw := hw.1 cd
    refine vv_iconst hC d_R_readDelta_10 (v := (0 : Int32)) (by decide) ?_
    exact vv_zret hC d_R_readDelta_11 rfl u_2 hw rfl
set_option maxHeartbeats 4000000 in
set_option maxRecDepth 100000 in
theorem l_R_readBinaryAnds_L2 {p : Program} {l : Launch} {e : Env} {s : State} {m : MethodId} {args : Array Value} {below : List Frame} {meth : Method} {c : Code} {D : va_G} {cA : Nat → ClassId} {sx : Nat → Nat} {A : Nat → Prop} (a_R a_U a_T a_S a_C : Nat → Nat) (I_R : (Nat → Int32)) (A_R : (Nat → Nat → Int32)) (I_T : (Nat → Int32)) (A_T : (Nat → Nat → Int32)) (I_S : (Nat → Int32)) (A_S : (Nat → Nat → Int32)) (I_C : (Nat → Int32)) (Q : Int32 → (Nat → Int32) → (Nat → Nat → Int32) → Prop) (X2 : (Nat → Int32) → (Nat → Nat → Int32) → Prop) (hC : CX p s m args meth c b_R_readBinaryAnds R_R TB 4 D vwCl (tyl cA) A (SPl sx) (some .boolean)) (hX2 : ∀ (I_U : (Nat → Int32)) (A_C : (Nat → Nat → Int32)), X2 I_U A_C → VV p l e ({ frames := 3, cells := 0, slots := 0, locals := 67 } : Room) s m args below meth c 4 D vwCl A 0 0 (QI below args s D vwCl (tyl cA) A (fun (r : Int32) (u : (Nat → Int32) × (Nat → Nat → Int32)) => Q r u.1 u.2) (fun u : (Nat → Int32) × (Nat → Nat → Int32) => kc_R cA a_R a_U a_S I_R A_R ++ kc_U cA a_U a_T u.1 ++ kc_T cA a_T I_T A_T ++ kc_S cA a_S I_S A_S ++ kc_C cA a_C I_C u.2)) (kc_R cA a_R a_U a_S I_R A_R ++ kc_U cA a_U a_T I_U ++ kc_T cA a_T I_T A_T ++ kc_S cA a_S I_S A_S ++ kc_C cA a_C I_C A_C) 110 [] []) : ∀ (n2 : Nat) (I_U : (Nat → Int32)) (A_C : (Nat → Nat → Int32)) (v2 : Int32), wp_R_readBinaryAnds_L2 I_T A_T I_C Q X2 n2 I_U A_C v2 → VV p l e ({ frames := 3, cells := 0, slots := 0, locals := 67 } : Room) s m args below meth c 4 D vwCl A 0 0 (QI below args s D vwCl (tyl cA) A (fun (r : Int32) (u : (Nat → Int32) × (Nat → Nat → Int32)) => Q r u.1 u.2) (fun u : (Nat → Int32) × (Nat → Nat → Int32) => kc_R cA a_R a_U a_S I_R A_R ++ kc_U cA a_U a_T u.1 ++ kc_T cA a_T I_T A_T ++ kc_S cA a_S I_S A_S ++ kc_C cA a_C I_C u.2)) (kc_R cA a_R a_U a_S I_R A_R ++ kc_U cA a_U a_T I_U ++ kc_T cA a_T I_T A_T ++ kc_S cA a_S I_S A_S ++ kc_C cA a_C I_C A_C) 2 [(0, .ref (a_R 0)), (1, .ref (a_C 0)), (2, .int v2)] [] := by
  intro n2
  induction n2 with
  | zero =>
    intro I_U A_C v2 hw
    exact absurd hw (fun z => z)
  | succ n2 ih =>
    intro I_U A_C v2 hw
    unfold wp_R_readBinaryAnds_L2 at hw
    refine vv_iload_n hC d_R_readBinaryAnds_2 2 rfl rfl ?_
    refine vv_aload_n hC d_R_readBinaryAnds_3 1 rfl rfl ?_
    refine vv_get hC (v := .int (I_C 4)) hin_C 12 4 tb_169 d_R_readBinaryAnds_4 rfl rfl (by decide) rfl rfl ?_
    refine vv_icmp_ge hC 110 d_R_readBinaryAnds_7 (by decide) (fun cd => ?_) (fun cd => ?_)
    · have hw := hw.1 cd
      exact vv_sub [] (by rfl) (hX2 I_U A_C hw)
    · have hw := hw.2 cd
      refine vv_aload_n hC d_R_readBinaryAnds_10 1 rfl rfl ?_
      refine vv_get hC (v := .int (I_C 1)) hin_C 12 1 tb_155 d_R_readBinaryAnds_11 rfl rfl (by decide) rfl rfl ?_
      refine vv_aload_n hC d_R_readBinaryAnds_14 1 rfl rfl ?_
      refine vv_get hC (v := .int (I_C 2)) hin_C 12 2 tb_159 d_R_readBinaryAnds_15 rfl rfl (by decide) rfl rfl ?_
      refine vv_iadd hC d_R_readBinaryAnds_18 ?_
      refine vv_iload_n hC d_R_readBinaryAnds_19 2 rfl rfl ?_
      refine vv_iadd hC d_R_readBinaryAnds_20 ?_
      refine vv_iconst hC d_R_readBinaryAnds_21 (v := (1 : Int32)) (by decide) ?_
      refine vv_iadd hC d_R_readBinaryAnds_22 ?_
      refine vv_istore_n hC d_R_readBinaryAnds_23 rfl (by decide) [1, 2, 3, 0] (L2 := [(0, .ref (a_R 0)), (1, .ref (a_C 0)), (2, .int v2), (3, .int ((((I_C 1) + (I_C 2)) + v2) + (1 : Int32)))]) rfl ?_
      refine vv_aload_n hC d_R_readBinaryAnds_24 1 rfl rfl ?_
      refine vv_get hC (v := .ref (a_C 5)) hin_C 12 10 tb_189 d_R_readBinaryAnds_25 rfl rfl (by decide) rfl rfl ?_
      refine vv_iload_n hC d_R_readBinaryAnds_28 2 rfl rfl ?_
      refine vv_iload_n hC d_R_readBinaryAnds_29 3 rfl rfl ?_
      obtain ⟨hin_1, hw⟩ := hw
      refine vv_iast hC 17 0 d_R_readBinaryAnds_30 rfl rfl hin_1 (ws2 := kc_R cA a_R a_U a_S I_R A_R ++ kc_U cA a_U a_T I_U ++ kc_T cA a_T I_T A_T ++ kc_S cA a_S I_S A_S ++ kc_C cA a_C I_C (va_up A_C 4 (upd (A_C 4) (v2).toNatClampNeg ((((I_C 1) + (I_C 2)) + v2) + (1 : Int32))))) (st_RUTSC_CA4 ..) ?_
      refine vv_aload_n hC d_R_readBinaryAnds_31 1 rfl rfl ?_
      refine vv_get hC (v := .ref (a_C 9)) hin_C 12 14 tb_202 d_R_readBinaryAnds_32 rfl rfl (by decide) rfl rfl ?_
      refine vv_iload_n hC d_R_readBinaryAnds_35 3 rfl rfl ?_
      refine vv_iconst hC d_R_readBinaryAnds_36 (v := (1 : Int32)) (by decide) ?_
      obtain ⟨hin_2, hw⟩ := hw
      refine vv_zast hC 21 1 d_R_readBinaryAnds_37 rfl rfl hin_2 (ws2 := kc_R cA a_R a_U a_S I_R A_R ++ kc_U cA a_U a_T I_U ++ kc_T cA a_T I_T A_T ++ kc_S cA a_S I_S A_S ++ kc_C cA a_C I_C (va_up (va_up A_C 4 (upd (A_C 4) (v2).toNatClampNeg ((((I_C 1) + (I_C 2)) + v2) + (1 : Int32)))) 8 (upd (A_C 8) (((((I_C 1) + (I_C 2)) + v2) + (1 : Int32))).toNatClampNeg (1 : Int32)))) (st_RUTSC_CA8 ..) ?_
      refine vv_aload_n hC d_R_readBinaryAnds_38 0 rfl rfl ?_
      refine vv_iconst hC d_R_readBinaryAnds_39 (v := (1 : Int32)) (by decide) ?_
      refine vv_iconst hC d_R_readBinaryAnds_40 (v := (2 : Int32)) (by decide) ?_
      refine vv_iload_n hC d_R_readBinaryAnds_41 3 rfl rfl ?_
      refine vv_imul hC d_R_readBinaryAnds_42 ?_
      refine vv_callVI (wr := kc_C cA a_C I_C (va_up (va_up A_C 4 (upd (A_C 4) (v2).toNatClampNeg ((((I_C 1) + (I_C 2)) + v2) + (1 : Int32)))) 8 (upd (A_C 8) (((((I_C 1) + (I_C 2)) + v2) + (1 : Int32))).toNatClampNeg (1 : Int32)))) hC (c_R_readDelta l D cA sx a_R a_U a_T a_S I_R A_R I_U I_T A_T I_S A_S (1 : Int32) ((2 : Int32) * ((((I_C 1) + (I_C 2)) + v2) + (1 : Int32))) _ hw) (cw_R_159 hC) d_R_readBinaryAnds_43 [] [0, 1, 2, 3, 4, 5, 6, 7, 8, 9, 10, 11] [12, 13, 14, 15, 16, 17, 18, 19, 20, 21, 22, 23, 24] [13, 14, 15, 16, 17, 18, 19, 20, 21, 22, 23, 24, 0, 1, 2, 3, 4, 5, 6, 7, 8, 9, 10, 11, 12] (fun u_4 : (Nat → Int32) => kc_R cA a_R a_U a_S I_R A_R ++ kc_U cA a_U a_T u_4 ++ kc_T cA a_T I_T A_T ++ kc_S cA a_S I_S A_S ++ kc_C cA a_C I_C (va_up (va_up A_C 4 (upd (A_C 4) (v2).toNatClampNeg ((((I_C 1) + (I_C 2)) + v2) + (1 : Int32)))) 8 (upd (A_C 8) (((((I_C 1) + (I_C 2)) + v2) + (1 : Int32))).toNatClampNeg (1 : Int32)))) ⟨Nat.zero_le _, Nat.zero_le _⟩ rfl rfl (fun _ => rfl) rfl rfl rfl rfl rfl rfl rfl rfl (Nat.le_of_ble_eq_true rfl) (fun r_3 u_4 hw => ?_)
      refine vv_if_ne hC 51 d_R_readBinaryAnds_46 (by decide) (fun cd => ?_) (fun cd => ?_)
      · have hw := hw.2 cd
        refine vv_aload_n hC d_R_readBinaryAnds_51 1 rfl rfl ?_
        refine vv_get hC (v := .ref (a_C 6)) hin_C 12 11 tb_193 d_R_readBinaryAnds_52 rfl rfl (by decide) rfl rfl ?_
        refine vv_iload_n hC d_R_readBinaryAnds_55 2 rfl rfl ?_
        refine vv_iconst hC d_R_readBinaryAnds_56 (v := (2 : Int32)) (by decide) ?_
        refine vv_iload_n hC d_R_readBinaryAnds_57 3 rfl rfl ?_
        refine vv_imul hC d_R_readBinaryAnds_58 ?_
        refine vv_aload_n hC d_R_readBinaryAnds_59 0 rfl rfl ?_
        refine vv_get hC (v := .ref (a_U 0)) hin_R 0 0 tb_104 d_R_readBinaryAnds_60 rfl rfl (by decide) rfl rfl ?_
        refine vv_get hC (v := .int (u_4 2)) hin_U 3 3 tb_86 d_R_readBinaryAnds_63 rfl rfl (by decide) rfl rfl ?_
        refine vv_isub hC d_R_readBinaryAnds_66 ?_
        refine vv_iast hC 18 0 d_R_readBinaryAnds_67 rfl rfl hin_1 (ws2 := kc_R cA a_R a_U a_S I_R A_R ++ kc_U cA a_U a_T u_4 ++ kc_T cA a_T I_T A_T ++ kc_S cA a_S I_S A_S ++ kc_C cA a_C I_C (va_up (va_up (va_up A_C 4 (upd (A_C 4) (v2).toNatClampNeg ((((I_C 1) + (I_C 2)) + v2) + (1 : Int32)))) 8 (upd (A_C 8) (((((I_C 1) + (I_C 2)) + v2) + (1 : Int32))).toNatClampNeg (1 : Int32))) 5 (upd (A_C 5) (v2).toNatClampNeg (((2 : Int32) * ((((I_C 1) + (I_C 2)) + v2) + (1 : Int32))) - (u_4 2))))) (st_RUTSC_CA5 ..) ?_
        refine vv_aload_n hC d_R_readBinaryAnds_68 0 rfl rfl ?_
        refine vv_iconst hC d_R_readBinaryAnds_69 (v := (0 : Int32)) (by decide) ?_
        refine vv_aload_n hC d_R_readBinaryAnds_70 1 rfl rfl ?_
        refine vv_get hC (v := .ref (a_C 6)) hin_C 12 11 tb_193 d_R_readBinaryAnds_71 rfl rfl (by decide) rfl rfl ?_
        refine vv_iload_n hC d_R_readBinaryAnds_74 2 rfl rfl ?_
        refine vv_iald hC 18 0 d_R_readBinaryAnds_75 rfl rfl hin_1 ?_
        refine vv_callVI (wr := kc_C cA a_C I_C (va_up (va_up (va_up A_C 4 (upd (A_C 4) (v2).toNatClampNeg ((((I_C 1) + (I_C 2)) + v2) + (1 : Int32)))) 8 (upd (A_C 8) (((((I_C 1) + (I_C 2)) + v2) + (1 : Int32))).toNatClampNeg (1 : Int32))) 5 (upd (A_C 5) (v2).toNatClampNeg (((2 : Int32) * ((((I_C 1) + (I_C 2)) + v2) + (1 : Int32))) - (u_4 2))))) hC (c_R_readDelta l D cA sx a_R a_U a_T a_S I_R A_R u_4 I_T A_T I_S A_S (0 : Int32) ((upd (A_C 5) (v2).toNatClampNeg (((2 : Int32) * ((((I_C 1) + (I_C 2)) + v2) + (1 : Int32))) - (u_4 2))) (v2).toNatClampNeg) _ hw) (cw_R_159 hC) d_R_readBinaryAnds_76 [] [0, 1, 2, 3, 4, 5, 6, 7, 8, 9, 10, 11] [12, 13, 14, 15, 16, 17, 18, 19, 20, 21, 22, 23, 24] [13, 14, 15, 16, 17, 18, 19, 20, 21, 22, 23, 24, 0, 1, 2, 3, 4, 5, 6, 7, 8, 9, 10, 11, 12] (fun u_7 : (Nat → Int32) => kc_R cA a_R a_U a_S I_R A_R ++ kc_U cA a_U a_T u_7 ++ kc_T cA a_T I_T A_T ++ kc_S cA a_S I_S A_S ++ kc_C cA a_C I_C (va_up (va_up (va_up A_C 4 (upd (A_C 4) (v2).toNatClampNeg ((((I_C 1) + (I_C 2)) + v2) + (1 : Int32)))) 8 (upd (A_C 8) (((((I_C 1) + (I_C 2)) + v2) + (1 : Int32))).toNatClampNeg (1 : Int32))) 5 (upd (A_C 5) (v2).toNatClampNeg (((2 : Int32) * ((((I_C 1) + (I_C 2)) + v2) + (1 : Int32))) - (u_4 2))))) ⟨Nat.zero_le _, Nat.zero_le _⟩ rfl rfl (fun _ => rfl) rfl rfl rfl rfl rfl rfl rfl rfl (Nat.le_of_ble_eq_true rfl) (fun r_6 u_7 hw => ?_)
        refine vv_if_ne hC 84 d_R_readBinaryAnds_79 (by decide) (fun cd => ?_) (fun cd => ?_)
        · have hw := hw.2 cd
          refine vv_aload_n hC d_R_readBinaryAnds_84 1 rfl rfl ?_
          refine vv_get hC (v := .ref (a_C 7)) hin_C 12 12 tb_197 d_R_readBinaryAnds_85 rfl rfl (by decide) rfl rfl ?_
          refine vv_iload_n hC d_R_readBinaryAnds_88 2 rfl rfl ?_
          refine vv_aload_n hC d_R_readBinaryAnds_89 1 rfl rfl ?_
          refine vv_get hC (v := .ref (a_C 6)) hin_C 12 11 tb_193 d_R_readBinaryAnds_90 rfl rfl (by decide) rfl rfl ?_
          refine vv_iload_n hC d_R_readBinaryAnds_93 2 rfl rfl ?_
          refine vv_iald hC 18 0 d_R_readBinaryAnds_94 rfl rfl hin_1 ?_
          refine vv_aload_n hC d_R_readBinaryAnds_95 0 rfl rfl ?_
          refine vv_get hC (v := .ref (a_U 0)) hin_R 0 0 tb_104 d_R_readBinaryAnds_96 rfl rfl (by decide) rfl rfl ?_
          refine vv_get hC (v := .int (u_7 2)) hin_U 3 3 tb_86 d_R_readBinaryAnds_99 rfl rfl (by decide) rfl rfl ?_
          refine vv_isub hC d_R_readBinaryAnds_102 ?_
          refine vv_iast hC 19 0 d_R_readBinaryAnds_103 rfl rfl hin_1 (ws2 := kc_R cA a_R a_U a_S I_R A_R ++ kc_U cA a_U a_T u_7 ++ kc_T cA a_T I_T A_T ++ kc_S cA a_S I_S A_S ++ kc_C cA a_C I_C (va_up (va_up (va_up (va_up A_C 4 (upd (A_C 4) (v2).toNatClampNeg ((((I_C 1) + (I_C 2)) + v2) + (1 : Int32)))) 8 (upd (A_C 8) (((((I_C 1) + (I_C 2)) + v2) + (1 : Int32))).toNatClampNeg (1 : Int32))) 5 (upd (A_C 5) (v2).toNatClampNeg (((2 : Int32) * ((((I_C 1) + (I_C 2)) + v2) + (1 : Int32))) - (u_4 2)))) 6 (upd (A_C 6) (v2).toNatClampNeg (((upd (A_C 5) (v2).toNatClampNeg (((2 : Int32) * ((((I_C 1) + (I_C 2)) + v2) + (1 : Int32))) - (u_4 2))) (v2).toNatClampNeg) - (u_7 2))))) (st_RUTSC_CA6 ..) ?_
          refine vv_iinc hC d_R_readBinaryAnds_104 2 rfl (v := (v2 + (1 : Int32))) rfl (by decide) [1, 2, 0, 3] (L2 := [(0, .ref (a_R 0)), (1, .ref (a_C 0)), (2, .int (v2 + (1 : Int32))), (3, .int ((((I_C 1) + (I_C 2)) + v2) + (1 : Int32)))]) rfl ?_
          refine vv_goto hC 2 d_R_readBinaryAnds_107 (by decide) ?_
          exact vv_sub [0, 1, 2] (by rfl) (ih u_7 (va_up (va_up (va_up (va_up A_C 4 (upd (A_C 4) (v2).toNatClampNeg ((((I_C 1) + (I_C 2)) + v2) + (1 : Int32)))) 8 (upd (A_C 8) (((((I_C 1) + (I_C 2)) + v2) + (1 : Int32))).toNatClampNeg (1 : Int32))) 5 (upd (A_C 5) (v2).toNatClampNeg (((2 : Int32) * ((((I_C 1) + (I_C 2)) + v2) + (1 : Int32))) - (u_4 2)))) 6 (upd (A_C 6) (v2).toNatClampNeg (((upd (A_C 5) (v2).toNatClampNeg (((2 : Int32) * ((((I_C 1) + (I_C 2)) + v2) + (1 : Int32))) - (u_4 2))) (v2).toNatClampNeg) - (u_7 2)))) (v2 + (1 : Int32)) hw)
        · have hw := hw.1 cd
          refine vv_iconst hC d_R_readBinaryAnds_82 (v := (0 : Int32)) (by decide) ?_
          exact vv_zret hC d_R_readBinaryAnds_83 rfl (u_7, (va_up (va_up (va_up A_C 4 (upd (A_C 4) (v2).toNatClampNeg ((((I_C 1) + (I_C 2)) + v2) + (1 : Int32)))) 8 (upd (A_C 8) (((((I_C 1) + (I_C 2)) + v2) + (1 : Int32))).toNatClampNeg (1 : Int32))) 5 (upd (A_C 5) (v2).toNatClampNeg (((2 : Int32) * ((((I_C 1) + (I_C 2)) + v2) + (1 : Int32))) - (u_4 2))))) hw rfl
      · have hw := hw.1 cd
        refine vv_iconst hC d_R_readBinaryAnds_49 (v := (0 : Int32)) (by decide) ?_
        exact vv_zret hC d_R_readBinaryAnds_50 rfl (u_4, (va_up (va_up A_C 4 (upd (A_C 4) (v2).toNatClampNeg ((((I_C 1) + (I_C 2)) + v2) + (1 : Int32)))) 8 (upd (A_C 8) (((((I_C 1) + (I_C 2)) + v2) + (1 : Int32))).toNatClampNeg (1 : Int32)))) hw rfl
set_option maxHeartbeats 4000000 in
set_option maxRecDepth 100000 in
theorem c_R_readBinaryAnds (l : Launch) (D : va_G) (cA : Nat → ClassId) (sx : Nat → Nat) (a_R a_U a_T a_S a_C : Nat → Nat) (I_R : (Nat → Int32)) (A_R : (Nat → Nat → Int32)) (I_U : (Nat → Int32)) (I_T : (Nat → Int32)) (A_T : (Nat → Nat → Int32)) (I_S : (Nat → Int32)) (A_S : (Nat → Nat → Int32)) (I_C : (Nat → Int32)) (A_C : (Nat → Nat → Int32)) (Q : Int32 → (Nat → Int32) → (Nat → Nat → Int32) → Prop) (hw : wp_R_readBinaryAnds I_U I_T A_T I_C A_C Q) : MetI l y_R_readBinaryAnds (Cond.code y_R_readBinaryAnds b_R_readBinaryAnds 4 (some .boolean) :: TB) ({ frames := 3, cells := 0, slots := 0, locals := 67 } : Room) D vwCl (tyl cA) (SPl sx) [.ref (a_R 0), .ref (a_C 0)] (kc_R cA a_R a_U a_S I_R A_R ++ kc_U cA a_U a_T I_U ++ kc_T cA a_T I_T A_T ++ kc_S cA a_S I_S A_S ++ kc_C cA a_C I_C A_C) (fun (r : Int32) (u : (Nat → Int32) × (Nat → Nat → Int32)) => Q r u.1 u.2) (fun u : (Nat → Int32) × (Nat → Nat → Int32) => kc_R cA a_R a_U a_S I_R A_R ++ kc_U cA a_U a_T u.1 ++ kc_T cA a_T I_T A_T ++ kc_S cA a_S I_S A_S ++ kc_C cA a_C I_C u.2) := by
  refine vv_entryI (cc := b_R_readBinaryAnds) (own := R_R) (L := [(0, .ref (a_R 0)), (1, .ref (a_C 0))]) (by decide) rfl rfl (Nat.le_of_ble_eq_true rfl) rfl (fun p e s m args below meth c A hC => ?_)
  unfold wp_R_readBinaryAnds at hw
  refine vv_iconst hC d_R_readBinaryAnds_0 (v := (0 : Int32)) (by decide) ?_
  refine vv_istore_n hC d_R_readBinaryAnds_1 rfl (by decide) [1, 2, 0] (L2 := [(0, .ref (a_R 0)), (1, .ref (a_C 0)), (2, .int (0 : Int32))]) rfl ?_
  obtain ⟨m2, hw⟩ := hw
  refine vv_sub [0, 1, 2] (by rfl) (l_R_readBinaryAnds_L2 a_R a_U a_T a_S a_C I_R A_R I_T A_T I_S A_S I_C Q _ hC (fun I_U_9 A_C_10 hw => ?_) m2 I_U A_C (0 : Int32) hw)
  refine vv_iconst hC d_R_readBinaryAnds_110 (v := (1 : Int32)) (by decide) ?_
  exact vv_zret hC d_R_readBinaryAnds_111 rfl (I_U_9, A_C_10) hw rfl
set_option maxHeartbeats 4000000 in
set_option maxRecDepth 100000 in
theorem l_R_readFile_b74 {p : Program} {l : Launch} {e : Env} {s : State} {m : MethodId} {args : Array Value} {below : List Frame} {meth : Method} {c : Code} {D : va_G} {cA : Nat → ClassId} {sx : Nat → Nat} {A : Nat → Prop} (a_R a_U a_T a_S a_C : Nat → Nat) (I_T : (Nat → Int32)) (A_T : (Nat → Nat → Int32)) (Q : Int32 → (Nat → Int32) → (Nat → Nat → Int32) → (Nat → Int32) → (Nat → Int32) → (Nat → Nat → Int32) → (Nat → Int32) → (Nat → Nat → Int32) → Prop) (hC : CX p s m args meth c b_R_readFile R_R TB 2 D vwCl (tyl cA) A (SPl sx) (some .boolean)) : ∀ (I_R : (Nat → Int32)) (A_R : (Nat → Nat → Int32)) (I_U : (Nat → Int32)) (I_S : (Nat → Int32)) (A_S : (Nat → Nat → Int32)) (I_C : (Nat → Int32)) (A_C : (Nat → Nat → Int32)), wp_R_readFile_b74 I_T A_T Q I_R A_R I_U I_S A_S I_C A_C → VV p l e ({ frames := 6, cells := 0, slots := 0, locals := 129 } : Room) s m args below meth c 2 D vwCl A 0 0 (QI below args s D vwCl (tyl cA) A (fun (r : Int32) (u : (Nat → Int32) × (Nat → Nat → Int32) × (Nat → Int32) × (Nat → Int32) × (Nat → Nat → Int32) × (Nat → Int32) × (Nat → Nat → Int32)) => Q r u.1 u.2.1 u.2.2.1 u.2.2.2.1 u.2.2.2.2.1 u.2.2.2.2.2.1 u.2.2.2.2.2.2) (fun u : (Nat → Int32) × (Nat → Nat → Int32) × (Nat → Int32) × (Nat → Int32) × (Nat → Nat → Int32) × (Nat → Int32) × (Nat → Nat → Int32) => kc_R cA a_R a_U a_S u.1 u.2.1 ++ kc_U cA a_U a_T u.2.2.1 ++ kc_T cA a_T I_T A_T ++ kc_S cA a_S u.2.2.2.1 u.2.2.2.2.1 ++ kc_C cA a_C u.2.2.2.2.2.1 u.2.2.2.2.2.2)) (kc_R cA a_R a_U a_S I_R A_R ++ kc_U cA a_U a_T I_U ++ kc_T cA a_T I_T A_T ++ kc_S cA a_S I_S A_S ++ kc_C cA a_C I_C A_C) 74 [(0, .ref (a_R 0)), (1, .ref (a_C 0))] [] := by
  intro I_R A_R I_U I_S A_S I_C A_C hw
  unfold wp_R_readFile_b74 at hw
  refine vv_aload_n hC d_R_readFile_74 0 rfl rfl ?_
  refine vv_aload_n hC d_R_readFile_75 1 rfl rfl ?_
  refine vv_callVI (wr := []) hC (c_R_readSymbols l D cA sx a_R a_U a_T a_S a_C I_R A_R I_U I_T A_T I_S A_S I_C A_C _ hw) (cw_R_75 hC) d_R_readFile_76 [] [0, 1, 2, 3, 4, 5, 6, 7, 8, 9, 10, 11, 12, 13, 14, 15, 16, 17, 18, 19, 20, 21, 22, 23, 24] [] [0, 1, 2, 3, 4, 5, 6, 7, 8, 9, 10, 11, 12, 13, 14, 15, 16, 17, 18, 19, 20, 21, 22, 23, 24] (fun u_34 : (Nat → Int32) × (Nat → Nat → Int32) => kc_R cA a_R a_U a_S I_R A_R ++ kc_U cA a_U a_T u_34.1 ++ kc_T cA a_T I_T A_T ++ kc_S cA a_S I_S A_S ++ kc_C cA a_C I_C u_34.2) ⟨Nat.zero_le _, Nat.zero_le _⟩ rfl rfl (fun _ => rfl) rfl rfl rfl rfl rfl rfl rfl rfl (Nat.le_of_ble_eq_true rfl) (fun r_33 u_34 hw => ?_)
  refine vv_if_eq hC 102 d_R_readFile_79 (by decide) (fun cd => ?_) (fun cd => ?_)
  · have hw := hw.1 cd
    refine vv_iconst hC d_R_readFile_102 (v := (0 : Int32)) (by decide) ?_
    exact vv_zret hC d_R_readFile_103 rfl (I_R, A_R, u_34.1, I_S, A_S, I_C, u_34.2) hw rfl
  · have hw := hw.2 cd
    refine vv_aload_n hC d_R_readFile_82 0 rfl rfl ?_
    refine vv_aload_n hC d_R_readFile_83 1 rfl rfl ?_
    refine vv_callVI (wr := []) hC (c_R_checkUses l D cA sx a_R a_U a_T a_S a_C I_R A_R u_34.1 I_T A_T I_S A_S I_C u_34.2 _ hw) (cw_R_78 hC) d_R_readFile_84 [] [0, 1, 2, 3, 4, 5, 6, 7, 8, 9, 10, 11, 12, 13, 14, 15, 16, 17, 18, 19, 20, 21, 22, 23, 24] [] [0, 1, 2, 3, 4, 5, 6, 7, 8, 9, 10, 11, 12, 13, 14, 15, 16, 17, 18, 19, 20, 21, 22, 23, 24] (fun u_38 : (Nat → Int32) => kc_R cA a_R a_U a_S I_R A_R ++ kc_U cA a_U a_T u_38 ++ kc_T cA a_T I_T A_T ++ kc_S cA a_S I_S A_S ++ kc_C cA a_C I_C u_34.2) ⟨Nat.zero_le _, Nat.zero_le _⟩ rfl rfl (fun _ => rfl) rfl rfl rfl rfl rfl rfl rfl rfl (Nat.le_of_ble_eq_true rfl) (fun r_37 u_38 hw => ?_)
    refine vv_if_eq hC 102 d_R_readFile_87 (by decide) (fun cd => ?_) (fun cd => ?_)
    · have hw := hw.1 cd
      refine vv_iconst hC d_R_readFile_102 (v := (0 : Int32)) (by decide) ?_
      exact vv_zret hC d_R_readFile_103 rfl (I_R, A_R, u_38, I_S, A_S, I_C, u_34.2) hw rfl
    · have hw := hw.2 cd
      refine vv_aload_n hC d_R_readFile_90 0 rfl rfl ?_
      refine vv_aload_n hC d_R_readFile_91 1 rfl rfl ?_
      refine vv_callVI (wr := []) hC (c_R_checkLoops l D cA sx a_R a_U a_T a_S a_C I_R A_R u_38 I_T A_T I_S A_S I_C u_34.2 _ hw) (cw_R_81 hC) d_R_readFile_92 [] [0, 1, 2, 3, 4, 5, 6, 7, 8, 9, 10, 11, 12, 13, 14, 15, 16, 17, 18, 19, 20, 21, 22, 23, 24] [] [0, 1, 2, 3, 4, 5, 6, 7, 8, 9, 10, 11, 12, 13, 14, 15, 16, 17, 18, 19, 20, 21, 22, 23, 24] (fun u_41 : (Nat → Int32) × (Nat → Int32) × (Nat → Nat → Int32) × (Nat → Nat → Int32) => kc_R cA a_R a_U a_S I_R A_R ++ kc_U cA a_U a_T u_41.1 ++ kc_T cA a_T I_T A_T ++ kc_S cA a_S u_41.2.1 u_41.2.2.1 ++ kc_C cA a_C I_C u_41.2.2.2) ⟨Nat.zero_le _, Nat.zero_le _⟩ rfl rfl (fun _ => rfl) rfl rfl rfl rfl rfl rfl rfl rfl (Nat.le_of_ble_eq_true rfl) (fun r_40 u_41 hw => ?_)
      refine vv_if_eq hC 102 d_R_readFile_95 (by decide) (fun cd => ?_) (fun cd => ?_)
      · have hw := hw.1 cd
        refine vv_iconst hC d_R_readFile_102 (v := (0 : Int32)) (by decide) ?_
        exact vv_zret hC d_R_readFile_103 rfl (I_R, A_R, u_41.1, u_41.2.1, u_41.2.2.1, I_C, u_41.2.2.2) hw rfl
      · have hw := hw.2 cd
        refine vv_iconst hC d_R_readFile_98 (v := (1 : Int32)) (by decide) ?_
        refine vv_goto hC 103 d_R_readFile_99 (by decide) ?_
        exact vv_zret hC d_R_readFile_103 rfl (I_R, A_R, u_41.1, u_41.2.1, u_41.2.2.1, I_C, u_41.2.2.2) hw rfl
set_option maxHeartbeats 4000000 in
set_option maxRecDepth 100000 in
theorem c_R_readFile (l : Launch) (D : va_G) (cA : Nat → ClassId) (sx : Nat → Nat) (a_R a_U a_T a_S a_C : Nat → Nat) (I_R : (Nat → Int32)) (A_R : (Nat → Nat → Int32)) (I_U : (Nat → Int32)) (I_T : (Nat → Int32)) (A_T : (Nat → Nat → Int32)) (I_S : (Nat → Int32)) (A_S : (Nat → Nat → Int32)) (I_C : (Nat → Int32)) (A_C : (Nat → Nat → Int32)) (Q : Int32 → (Nat → Int32) → (Nat → Nat → Int32) → (Nat → Int32) → (Nat → Int32) → (Nat → Nat → Int32) → (Nat → Int32) → (Nat → Nat → Int32) → Prop) (hw : wp_R_readFile I_R A_R I_U I_T A_T I_S A_S I_C A_C Q) : MetI l y_R_readFile (Cond.code y_R_readFile b_R_readFile 2 (some .boolean) :: TB) ({ frames := 6, cells := 0, slots := 0, locals := 129 } : Room) D vwCl (tyl cA) (SPl sx) [.ref (a_R 0), .ref (a_C 0)] (kc_R cA a_R a_U a_S I_R A_R ++ kc_U cA a_U a_T I_U ++ kc_T cA a_T I_T A_T ++ kc_S cA a_S I_S A_S ++ kc_C cA a_C I_C A_C) (fun (r : Int32) (u : (Nat → Int32) × (Nat → Nat → Int32) × (Nat → Int32) × (Nat → Int32) × (Nat → Nat → Int32) × (Nat → Int32) × (Nat → Nat → Int32)) => Q r u.1 u.2.1 u.2.2.1 u.2.2.2.1 u.2.2.2.2.1 u.2.2.2.2.2.1 u.2.2.2.2.2.2) (fun u : (Nat → Int32) × (Nat → Nat → Int32) × (Nat → Int32) × (Nat → Int32) × (Nat → Nat → Int32) × (Nat → Int32) × (Nat → Nat → Int32) => kc_R cA a_R a_U a_S u.1 u.2.1 ++ kc_U cA a_U a_T u.2.2.1 ++ kc_T cA a_T I_T A_T ++ kc_S cA a_S u.2.2.2.1 u.2.2.2.2.1 ++ kc_C cA a_C u.2.2.2.2.2.1 u.2.2.2.2.2.2) := by
  refine vv_entryI (cc := b_R_readFile) (own := R_R) (L := [(0, .ref (a_R 0)), (1, .ref (a_C 0))]) (by decide) rfl rfl (Nat.le_of_ble_eq_true rfl) rfl (fun p e s m args below meth c A hC => ?_)
  unfold wp_R_readFile at hw
  refine vv_aload_n hC d_R_readFile_0 0 rfl rfl ?_
  refine vv_get hC (v := .ref (a_U 0)) hin_R 0 0 tb_104 d_R_readFile_1 rfl rfl (by decide) rfl rfl ?_
  refine vv_callVV (wr := kc_R cA a_R a_U a_S I_R A_R ++ kc_S cA a_S I_S A_S ++ kc_C cA a_C I_C A_C) hC (c_U_restart l D cA sx a_U a_T I_U I_T A_T _ hw) (cw_R_48 hC) d_R_readFile_4 [] [3, 4, 5, 6] [0, 1, 2, 7, 8, 9, 10, 11, 12, 13, 14, 15, 16, 17, 18, 19, 20, 21, 22, 23, 24] [0, 1, 2, 21, 22, 23, 24, 3, 4, 5, 6, 7, 8, 9, 10, 11, 12, 13, 14, 15, 16, 17, 18, 19, 20] (fun u_1 : (Nat → Int32) => kc_R cA a_R a_U a_S I_R A_R ++ kc_U cA a_U a_T u_1 ++ kc_T cA a_T I_T A_T ++ kc_S cA a_S I_S A_S ++ kc_C cA a_C I_C A_C) ⟨Nat.zero_le _, Nat.zero_le _⟩ rfl rfl (fun _ => rfl) rfl rfl rfl rfl rfl rfl rfl rfl (Nat.le_of_ble_eq_true rfl) (fun u_1 hw => ?_)
  refine vv_aload_n hC d_R_readFile_7 0 rfl rfl ?_
  refine vv_iconst hC d_R_readFile_8 (v := (0 : Int32)) (by decide) ?_
  refine vv_put hC hin_R ty_R tyok_R nmok_R 0 4 tb_108 d_R_readFile_9 rfl rfl (by decide) rfl rfl rfl rfl rfl (Nat.le_of_ble_eq_true rfl) (ws2 := kc_R cA a_R a_U a_S (va_up I_R 0 (0 : Int32)) A_R ++ kc_U cA a_U a_T u_1 ++ kc_T cA a_T I_T A_T ++ kc_S cA a_S I_S A_S ++ kc_C cA a_C I_C A_C) (st_RUTSC_RI0 ..) ?_
  refine vv_aload_n hC d_R_readFile_12 1 rfl rfl ?_
  refine vv_callVV (wr := kc_R cA a_R a_U a_S (va_up I_R 0 (0 : Int32)) A_R ++ kc_U cA a_U a_T u_1 ++ kc_T cA a_T I_T A_T ++ kc_S cA a_S I_S A_S) hC (c_C_forget l D cA sx a_C I_C A_C _ hw) (cw_R_51 hC) d_R_readFile_13 [] [12, 13, 14, 15, 16, 17, 18, 19, 20, 21, 22, 23, 24] [0, 1, 2, 3, 4, 5, 6, 7, 8, 9, 10, 11] [0, 1, 2, 3, 4, 5, 6, 7, 8, 9, 10, 11, 12, 13, 14, 15, 16, 17, 18, 19, 20, 21, 22, 23, 24] (fun u_3 : (Nat → Int32) × (Nat → Nat → Int32) => kc_R cA a_R a_U a_S (va_up I_R 0 (0 : Int32)) A_R ++ kc_U cA a_U a_T u_1 ++ kc_T cA a_T I_T A_T ++ kc_S cA a_S I_S A_S ++ kc_C cA a_C u_3.1 u_3.2) ⟨Nat.zero_le _, Nat.zero_le _⟩ rfl rfl (fun _ => rfl) rfl rfl rfl rfl rfl rfl rfl rfl (Nat.le_of_ble_eq_true rfl) (fun u_3 hw => ?_)
  refine vv_aload_n hC d_R_readFile_16 0 rfl rfl ?_
  refine vv_aload_n hC d_R_readFile_17 1 rfl rfl ?_
  refine vv_callVI (wr := []) hC (c_R_readHeader l D cA sx a_R a_U a_T a_S a_C (va_up I_R 0 (0 : Int32)) A_R u_1 I_T A_T I_S A_S u_3.1 u_3.2 _ hw) (cw_R_56 hC) d_R_readFile_18 [] [0, 1, 2, 3, 4, 5, 6, 7, 8, 9, 10, 11, 12, 13, 14, 15, 16, 17, 18, 19, 20, 21, 22, 23, 24] [] [0, 1, 2, 3, 4, 5, 6, 7, 8, 9, 10, 11, 12, 13, 14, 15, 16, 17, 18, 19, 20, 21, 22, 23, 24] (fun u_7 : (Nat → Int32) × (Nat → Int32) × (Nat → Int32) => kc_R cA a_R a_U a_S u_7.1 A_R ++ kc_U cA a_U a_T u_7.2.1 ++ kc_T cA a_T I_T A_T ++ kc_S cA a_S I_S A_S ++ kc_C cA a_C u_7.2.2 u_3.2) ⟨Nat.zero_le _, Nat.zero_le _⟩ rfl rfl (fun _ => rfl) rfl rfl rfl rfl rfl rfl rfl rfl (Nat.le_of_ble_eq_true rfl) (fun r_6 u_7 hw => ?_)
  refine vv_if_eq hC 102 d_R_readFile_21 (by decide) (fun cd => ?_) (fun cd => ?_)
  · have hw := hw.1 cd
    refine vv_iconst hC d_R_readFile_102 (v := (0 : Int32)) (by decide) ?_
    exact vv_zret hC d_R_readFile_103 rfl (u_7.1, A_R, u_7.2.1, I_S, A_S, u_7.2.2, u_3.2) hw rfl
  · have hw := hw.2 cd
    refine vv_aload_n hC d_R_readFile_24 0 rfl rfl ?_
    refine vv_aload_n hC d_R_readFile_25 1 rfl rfl ?_
    refine vv_callVI (wr := []) hC (c_R_readInputs l D cA sx a_R a_U a_T a_S a_C u_7.1 A_R u_7.2.1 I_T A_T I_S A_S u_7.2.2 u_3.2 _ hw) (cw_R_60 hC) d_R_readFile_26 [] [0, 1, 2, 3, 4, 5, 6, 7, 8, 9, 10, 11, 12, 13, 14, 15, 16, 17, 18, 19, 20, 21, 22, 23, 24] [] [0, 1, 2, 3, 4, 5, 6, 7, 8, 9, 10, 11, 12, 13, 14, 15, 16, 17, 18, 19, 20, 21, 22, 23, 24] (fun u_12 : (Nat → Int32) × (Nat → Nat → Int32) => kc_R cA a_R a_U a_S u_7.1 A_R ++ kc_U cA a_U a_T u_12.1 ++ kc_T cA a_T I_T A_T ++ kc_S cA a_S I_S A_S ++ kc_C cA a_C u_7.2.2 u_12.2) ⟨Nat.zero_le _, Nat.zero_le _⟩ rfl rfl (fun _ => rfl) rfl rfl rfl rfl rfl rfl rfl rfl (Nat.le_of_ble_eq_true rfl) (fun r_11 u_12 hw => ?_)
    refine vv_if_eq hC 102 d_R_readFile_29 (by decide) (fun cd => ?_) (fun cd => ?_)
    · have hw := hw.1 cd
      refine vv_iconst hC d_R_readFile_102 (v := (0 : Int32)) (by decide) ?_
      exact vv_zret hC d_R_readFile_103 rfl (u_7.1, A_R, u_12.1, I_S, A_S, u_7.2.2, u_12.2) hw rfl
    · have hw := hw.2 cd
      refine vv_aload_n hC d_R_readFile_32 0 rfl rfl ?_
      refine vv_aload_n hC d_R_readFile_33 1 rfl rfl ?_
      refine vv_callVI (wr := []) hC (c_R_readLatches l D cA sx a_R a_U a_T a_S a_C u_7.1 A_R u_12.1 I_T A_T I_S A_S u_7.2.2 u_12.2 _ hw) (cw_R_63 hC) d_R_readFile_34 [] [0, 1, 2, 3, 4, 5, 6, 7, 8, 9, 10, 11, 12, 13, 14, 15, 16, 17, 18, 19, 20, 21, 22, 23, 24] [] [0, 1, 2, 3, 4, 5, 6, 7, 8, 9, 10, 11, 12, 13, 14, 15, 16, 17, 18, 19, 20, 21, 22, 23, 24] (fun u_16 : (Nat → Int32) × (Nat → Nat → Int32) × (Nat → Int32) × (Nat → Nat → Int32) => kc_R cA a_R a_U a_S u_16.1 u_16.2.1 ++ kc_U cA a_U a_T u_16.2.2.1 ++ kc_T cA a_T I_T A_T ++ kc_S cA a_S I_S A_S ++ kc_C cA a_C u_7.2.2 u_16.2.2.2) ⟨Nat.zero_le _, Nat.zero_le _⟩ rfl rfl (fun _ => rfl) rfl rfl rfl rfl rfl rfl rfl rfl (Nat.le_of_ble_eq_true rfl) (fun r_15 u_16 hw => ?_)
      refine vv_if_eq hC 102 d_R_readFile_37 (by decide) (fun cd => ?_) (fun cd => ?_)
      · have hw := hw.1 cd
        refine vv_iconst hC d_R_readFile_102 (v := (0 : Int32)) (by decide) ?_
        exact vv_zret hC d_R_readFile_103 rfl (u_16.1, u_16.2.1, u_16.2.2.1, I_S, A_S, u_7.2.2, u_16.2.2.2) hw rfl
      · have hw := hw.2 cd
        refine vv_aload_n hC d_R_readFile_40 0 rfl rfl ?_
        refine vv_aload_n hC d_R_readFile_41 1 rfl rfl ?_
        refine vv_callVI (wr := []) hC (c_R_readOutputs l D cA sx a_R a_U a_T a_S a_C u_16.1 u_16.2.1 u_16.2.2.1 I_T A_T I_S A_S u_7.2.2 u_16.2.2.2 _ hw) (cw_R_66 hC) d_R_readFile_42 [] [0, 1, 2, 3, 4, 5, 6, 7, 8, 9, 10, 11, 12, 13, 14, 15, 16, 17, 18, 19, 20, 21, 22, 23, 24] [] [0, 1, 2, 3, 4, 5, 6, 7, 8, 9, 10, 11, 12, 13, 14, 15, 16, 17, 18, 19, 20, 21, 22, 23, 24] (fun u_22 : (Nat → Int32) × (Nat → Nat → Int32) × (Nat → Int32) × (Nat → Nat → Int32) => kc_R cA a_R a_U a_S u_22.1 u_22.2.1 ++ kc_U cA a_U a_T u_22.2.2.1 ++ kc_T cA a_T I_T A_T ++ kc_S cA a_S I_S A_S ++ kc_C cA a_C u_7.2.2 u_22.2.2.2) ⟨Nat.zero_le _, Nat.zero_le _⟩ rfl rfl (fun _ => rfl) rfl rfl rfl rfl rfl rfl rfl rfl (Nat.le_of_ble_eq_true rfl) (fun r_21 u_22 hw => ?_)
        refine vv_if_eq hC 102 d_R_readFile_45 (by decide) (fun cd => ?_) (fun cd => ?_)
        · have hw := hw.1 cd
          refine vv_iconst hC d_R_readFile_102 (v := (0 : Int32)) (by decide) ?_
          exact vv_zret hC d_R_readFile_103 rfl (u_22.1, u_22.2.1, u_22.2.2.1, I_S, A_S, u_7.2.2, u_22.2.2.2) hw rfl
        · have hw := hw.2 cd
          refine vv_aload_n hC d_R_readFile_48 0 rfl rfl ?_
          refine vv_get hC (v := .int (u_22.1 1)) hin_R 0 5 tb_109 d_R_readFile_49 rfl rfl (by decide) rfl rfl ?_
          refine vv_if_eq hC 66 d_R_readFile_52 (by decide) (fun cd => ?_) (fun cd => ?_)
          · have hw := hw.1 cd
            refine vv_aload_n hC d_R_readFile_66 0 rfl rfl ?_
            refine vv_aload_n hC d_R_readFile_67 1 rfl rfl ?_
            refine vv_callVI (wr := []) hC (c_R_readTextAnds l D cA sx a_R a_U a_T a_S a_C u_22.1 u_22.2.1 u_22.2.2.1 I_T A_T I_S A_S u_7.2.2 u_22.2.2.2 _ hw) (cw_R_72 hC) d_R_readFile_68 [] [0, 1, 2, 3, 4, 5, 6, 7, 8, 9, 10, 11, 12, 13, 14, 15, 16, 17, 18, 19, 20, 21, 22, 23, 24] [] [0, 1, 2, 3, 4, 5, 6, 7, 8, 9, 10, 11, 12, 13, 14, 15, 16, 17, 18, 19, 20, 21, 22, 23, 24] (fun u_28 : (Nat → Int32) × (Nat → Nat → Int32) × (Nat → Int32) × (Nat → Nat → Int32) => kc_R cA a_R a_U a_S u_28.1 u_28.2.1 ++ kc_U cA a_U a_T u_28.2.2.1 ++ kc_T cA a_T I_T A_T ++ kc_S cA a_S I_S A_S ++ kc_C cA a_C u_7.2.2 u_28.2.2.2) ⟨Nat.zero_le _, Nat.zero_le _⟩ rfl rfl (fun _ => rfl) rfl rfl rfl rfl rfl rfl rfl rfl (Nat.le_of_ble_eq_true rfl) (fun r_27 u_28 hw => ?_)
            refine vv_if_eq hC 102 d_R_readFile_71 (by decide) (fun cd => ?_) (fun cd => ?_)
            · have hw := hw.1 cd
              refine vv_iconst hC d_R_readFile_102 (v := (0 : Int32)) (by decide) ?_
              exact vv_zret hC d_R_readFile_103 rfl (u_28.1, u_28.2.1, u_28.2.2.1, I_S, A_S, u_7.2.2, u_28.2.2.2) hw rfl
            · have hw := hw.2 cd
              exact vv_sub [0, 1] (by rfl) (l_R_readFile_b74 a_R a_U a_T a_S a_C I_T A_T Q hC u_28.1 u_28.2.1 u_28.2.2.1 I_S A_S u_7.2.2 u_28.2.2.2 hw)
          · have hw := hw.2 cd
            refine vv_aload_n hC d_R_readFile_55 0 rfl rfl ?_
            refine vv_aload_n hC d_R_readFile_56 1 rfl rfl ?_
            refine vv_callVI (wr := []) hC (c_R_readBinaryAnds l D cA sx a_R a_U a_T a_S a_C u_22.1 u_22.2.1 u_22.2.2.1 I_T A_T I_S A_S u_7.2.2 u_22.2.2.2 _ hw) (cw_R_69 hC) d_R_readFile_57 [] [0, 1, 2, 3, 4, 5, 6, 7, 8, 9, 10, 11, 12, 13, 14, 15, 16, 17, 18, 19, 20, 21, 22, 23, 24] [] [0, 1, 2, 3, 4, 5, 6, 7, 8, 9, 10, 11, 12, 13, 14, 15, 16, 17, 18, 19, 20, 21, 22, 23, 24] (fun u_47 : (Nat → Int32) × (Nat → Nat → Int32) => kc_R cA a_R a_U a_S u_22.1 u_22.2.1 ++ kc_U cA a_U a_T u_47.1 ++ kc_T cA a_T I_T A_T ++ kc_S cA a_S I_S A_S ++ kc_C cA a_C u_7.2.2 u_47.2) ⟨Nat.zero_le _, Nat.zero_le _⟩ rfl rfl (fun _ => rfl) rfl rfl rfl rfl rfl rfl rfl rfl (Nat.le_of_ble_eq_true rfl) (fun r_46 u_47 hw => ?_)
            refine vv_if_eq hC 102 d_R_readFile_60 (by decide) (fun cd => ?_) (fun cd => ?_)
            · have hw := hw.1 cd
              refine vv_iconst hC d_R_readFile_102 (v := (0 : Int32)) (by decide) ?_
              exact vv_zret hC d_R_readFile_103 rfl (u_22.1, u_22.2.1, u_47.1, I_S, A_S, u_7.2.2, u_47.2) hw rfl
            · have hw := hw.2 cd
              refine vv_goto hC 74 d_R_readFile_63 (by decide) ?_
              exact vv_sub [0, 1] (by rfl) (l_R_readFile_b74 a_R a_U a_T a_S a_C I_T A_T Q hC u_22.1 u_22.2.1 u_47.1 I_S A_S u_7.2.2 u_47.2 hw)
end
