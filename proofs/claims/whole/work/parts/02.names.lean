def R_T : String := "CircuitFiles$Tape"
def T_T : u_T := fun k => match k with
  | 0 => ("CircuitFiles$Tape", "ready", "[I", true)
  | 1 => ("CircuitFiles$Tape", "bytes", "[I", true)
  | _ => ("CircuitFiles$Tape", "length", "I", false)
def ty_T : Nat → FieldType := fun k => match k with
  | 0 => .array .int
  | 1 => .array .int
  | _ => .int
def R_U : String := "CircuitFiles$Cursor"
def T_U : u_T := fun k => match k with
  | 0 => ("CircuitFiles$Cursor", "tape", "LCircuitFiles$Tape;", true)
  | 1 => ("CircuitFiles$Cursor", "at", "I", false)
  | 2 => ("CircuitFiles$Cursor", "start", "I", false)
  | 3 => ("CircuitFiles$Cursor", "number", "I", false)
  | 4 => ("CircuitFiles$Cursor", "faultKind", "I", false)
  | _ => ("CircuitFiles$Cursor", "faultPlace", "I", false)
def ty_U : Nat → FieldType := fun k => match k with
  | 0 => .object "CircuitFiles$Tape"
  | 1 => .int
  | 2 => .int
  | 3 => .int
  | 4 => .int
  | _ => .int
def R_R : String := "CircuitFiles$Reader"
def T_R : u_T := fun k => match k with
  | 0 => ("CircuitFiles$Reader", "cursor", "LCircuitFiles$Cursor;", true)
  | 1 => ("CircuitFiles$Reader", "sorter", "LCircuitFiles$AndSorter;", true)
  | 2 => ("CircuitFiles$Reader", "useLiteral", "[I", true)
  | 3 => ("CircuitFiles$Reader", "usePlace", "[I", true)
  | 4 => ("CircuitFiles$Reader", "uses", "I", false)
  | _ => ("CircuitFiles$Reader", "binary", "Z", false)
def ty_R : Nat → FieldType := fun k => match k with
  | 0 => .object "CircuitFiles$Cursor"
  | 1 => .object "CircuitFiles$AndSorter"
  | 2 => .array .int
  | 3 => .array .int
  | 4 => .int
  | _ => .boolean
def R_S : String := "CircuitFiles$AndSorter"
def T_S : u_T := fun k => match k with
  | 0 => ("CircuitFiles$AndSorter", "come", "[Z", true)
  | 1 => ("CircuitFiles$AndSorter", "reached", "[Z", true)
  | 2 => ("CircuitFiles$AndSorter", "andOf", "[I", true)
  | 3 => ("CircuitFiles$AndSorter", "stack", "[I", true)
  | _ => ("CircuitFiles$AndSorter", "height", "I", false)
def ty_S : Nat → FieldType := fun k => match k with
  | 0 => .array .boolean
  | 1 => .array .boolean
  | 2 => .array .int
  | 3 => .array .int
  | _ => .int
def R_X : String := "CircuitFiles$Form"
def T_X : u_T := fun k => match k with
  | 0 => ("CircuitFiles$Form", "bytes", "[I", true)
  | 1 => ("CircuitFiles$Form", "newVariable", "[I", true)
  | 2 => ("CircuitFiles$Form", "length", "I", false)
  | _ => ("CircuitFiles$Form", "written", "Z", false)
def ty_X : Nat → FieldType := fun k => match k with
  | 0 => .array .int
  | 1 => .array .int
  | 2 => .int
  | _ => .boolean
def R_C : String := "CircuitFiles$Circuit"
def T_C : u_T := fun k => match k with
  | 0 => ("CircuitFiles$Circuit", "top", "I", false)
  | 1 => ("CircuitFiles$Circuit", "inputs", "I", false)
  | 2 => ("CircuitFiles$Circuit", "latches", "I", false)
  | 3 => ("CircuitFiles$Circuit", "outputs", "I", false)
  | 4 => ("CircuitFiles$Circuit", "ands", "I", false)
  | 5 => ("CircuitFiles$Circuit", "latchBits", "I", false)
  | 6 => ("CircuitFiles$Circuit", "inputVariable", "[I", true)
  | 7 => ("CircuitFiles$Circuit", "latchVariable", "[I", true)
  | 8 => ("CircuitFiles$Circuit", "latchNext", "[I", true)
  | 9 => ("CircuitFiles$Circuit", "outputLiteral", "[I", true)
  | 10 => ("CircuitFiles$Circuit", "andVariable", "[I", true)
  | 11 => ("CircuitFiles$Circuit", "andFirst", "[I", true)
  | 12 => ("CircuitFiles$Circuit", "andSecond", "[I", true)
  | 13 => ("CircuitFiles$Circuit", "order", "[I", true)
  | 14 => ("CircuitFiles$Circuit", "defined", "[Z", true)
  | 15 => ("CircuitFiles$Circuit", "nameLength", "[I", true)
  | 16 => ("CircuitFiles$Circuit", "nameBytes", "[I", true)
  | _ => ("CircuitFiles$Circuit", "bit", "[I", true)
def ty_C : Nat → FieldType := fun k => match k with
  | 0 => .int
  | 1 => .int
  | 2 => .int
  | 3 => .int
  | 4 => .int
  | 5 => .int
  | 6 => .array .int
  | 7 => .array .int
  | 8 => .array .int
  | 9 => .array .int
  | 10 => .array .int
  | 11 => .array .int
  | 12 => .array .int
  | 13 => .array .int
  | 14 => .array .boolean
  | 15 => .array .int
  | 16 => .array .int
  | _ => .array .int
def R_F : String := "CircuitFiles"
def T_F : u_T := fun k => match k with
  | 0 => ("CircuitFiles", "tape", "LCircuitFiles$Tape;", true)
  | 1 => ("CircuitFiles", "reader", "LCircuitFiles$Reader;", true)
  | 2 => ("CircuitFiles", "textForm", "LCircuitFiles$Form;", true)
  | 3 => ("CircuitFiles", "binaryForm", "LCircuitFiles$Form;", true)
  | 4 => ("CircuitFiles", "circuit", "LCircuitFiles$Circuit;", false)
  | _ => ("CircuitFiles", "draft", "LCircuitFiles$Circuit;", false)
def ty_F : Nat → FieldType := fun k => match k with
  | 0 => .object "CircuitFiles$Tape"
  | 1 => .object "CircuitFiles$Reader"
  | 2 => .object "CircuitFiles$Form"
  | 3 => .object "CircuitFiles$Form"
  | 4 => .object "CircuitFiles$Circuit"
  | _ => .object "CircuitFiles$Circuit"
def R_M : String := "CircuitFilesModel"
def T_M : u_T := fun k => match k with
  | 0 => ("CircuitFilesModel", "thrown", "I", false)
  | 1 => ("CircuitFilesModel", "tape", "[B", true)
  | 2 => ("CircuitFilesModel", "ready", "[B", true)
  | 3 => ("CircuitFilesModel", "taped", "I", false)
  | 4 => ("CircuitFilesModel", "fault", "I", false)
  | 5 => ("CircuitFilesModel", "faultPlace", "I", false)
  | 6 => ("CircuitFilesModel", "at", "I", false)
  | 7 => ("CircuitFilesModel", "bad", "I", false)
  | 8 => ("CircuitFilesModel", "badPlace", "I", false)
  | 9 => ("CircuitFilesModel", "number", "I", false)
  | 10 => ("CircuitFilesModel", "head", "[I", true)
  | 11 => ("CircuitFilesModel", "inputs", "[I", true)
  | 12 => ("CircuitFilesModel", "latches", "[I", true)
  | 13 => ("CircuitFilesModel", "nexts", "[I", true)
  | 14 => ("CircuitFilesModel", "outputs", "[I", true)
  | 15 => ("CircuitFilesModel", "ands", "[I", true)
  | 16 => ("CircuitFilesModel", "left", "[I", true)
  | 17 => ("CircuitFilesModel", "right", "[I", true)
  | 18 => ("CircuitFilesModel", "kinds", "[I", true)
  | 19 => ("CircuitFilesModel", "places", "[I", true)
  | 20 => ("CircuitFilesModel", "nextAt", "[I", true)
  | 21 => ("CircuitFilesModel", "outputAt", "[I", true)
  | 22 => ("CircuitFilesModel", "leftAt", "[I", true)
  | 23 => ("CircuitFilesModel", "rightAt", "[I", true)
  | 24 => ("CircuitFilesModel", "names", "[B", true)
  | 25 => ("CircuitFilesModel", "lengths", "[I", true)
  | 26 => ("CircuitFilesModel", "order", "[I", true)
  | 27 => ("CircuitFilesModel", "anew", "[I", true)
  | 28 => ("CircuitFilesModel", "come", "[Z", true)
  | 29 => ("CircuitFilesModel", "ordered", "I", false)
  | 30 => ("CircuitFilesModel", "state", "I", false)
  | 31 => ("CircuitFilesModel", "values", "[I", true)
  | 32 => ("CircuitFilesModel", "made", "[B", true)
  | _ => ("CircuitFilesModel", "size", "I", false)
def ty_M : Nat → FieldType := fun k => match k with
  | 0 => .int
  | 1 => .array .byte
  | 2 => .array .byte
  | 3 => .int
  | 4 => .int
  | 5 => .int
  | 6 => .int
  | 7 => .int
  | 8 => .int
  | 9 => .int
  | 10 => .array .int
  | 11 => .array .int
  | 12 => .array .int
  | 13 => .array .int
  | 14 => .array .int
  | 15 => .array .int
  | 16 => .array .int
  | 17 => .array .int
  | 18 => .array .int
  | 19 => .array .int
  | 20 => .array .int
  | 21 => .array .int
  | 22 => .array .int
  | 23 => .array .int
  | 24 => .array .byte
  | 25 => .array .int
  | 26 => .array .int
  | 27 => .array .int
  | 28 => .array .boolean
  | 29 => .int
  | 30 => .int
  | 31 => .array .int
  | 32 => .array .byte
  | _ => .int
def R_L : String := "CircuitFilesLaw"
def R_A : String := "java/lang/Math"
abbrev vwCl : List vw_C := [(R_T, T_T, 3), (R_U, T_U, 6), (R_R, T_R, 6), (R_S, T_S, 5), (R_X, T_X, 4), (R_C, T_C, 18), (R_F, T_F, 6), (R_M, T_M, 34)]
abbrev b_F_init : ByteArray := prog_1_method_1_code
def y_F_init : MethodName := ⟨R_F, "<init>", "()V"⟩
abbrev b_T_init : ByteArray := prog_7_method_1_code
def y_T_init : MethodName := ⟨R_T, "<init>", "()V"⟩
abbrev b_R_init : ByteArray := prog_6_method_1_code
def y_R_init : MethodName := ⟨R_R, "<init>", "(LCircuitFiles$Tape;)V"⟩
abbrev b_S_init : ByteArray := prog_2_method_1_code
def y_S_init : MethodName := ⟨R_S, "<init>", "()V"⟩
abbrev b_U_init : ByteArray := prog_4_method_1_code
def y_U_init : MethodName := ⟨R_U, "<init>", "(LCircuitFiles$Tape;)V"⟩
abbrev b_X_init : ByteArray := prog_5_method_1_code
def y_X_init : MethodName := ⟨R_X, "<init>", "()V"⟩
abbrev b_C_init : ByteArray := prog_3_method_1_code
def y_C_init : MethodName := ⟨R_C, "<init>", "()V"⟩
abbrev b_F_feed : ByteArray := prog_1_method_2_code
def y_F_feed : MethodName := ⟨R_F, "feed", "(IIIII)V"⟩
abbrev b_T_makeReady : ByteArray := prog_7_method_2_code
def y_T_makeReady : MethodName := ⟨R_T, "makeReady", "(II)V"⟩
abbrev b_F_end : ByteArray := prog_1_method_3_code
def y_F_end : MethodName := ⟨R_F, "end", "(I)I"⟩
abbrev b_T_take : ByteArray := prog_7_method_3_code
def y_T_take : MethodName := ⟨R_T, "take", "(I)I"⟩
abbrev b_F_fault : ByteArray := prog_1_method_5_code
def y_F_fault : MethodName := ⟨R_F, "fault", "(I)I"⟩
abbrev b_R_faultKind : ByteArray := prog_6_method_2_code
def y_R_faultKind : MethodName := ⟨R_R, "faultKind", "()I"⟩
abbrev b_R_faultPlace : ByteArray := prog_6_method_3_code
def y_R_faultPlace : MethodName := ⟨R_R, "faultPlace", "()I"⟩
abbrev b_F_many : ByteArray := prog_1_method_6_code
def y_F_many : MethodName := ⟨R_F, "many", "(I)I"⟩
abbrev b_F_symbol : ByteArray := prog_1_method_7_code
def y_F_symbol : MethodName := ⟨R_F, "symbol", "(III)I"⟩
abbrev b_C_countOf : ByteArray := prog_3_method_5_code
def y_C_countOf : MethodName := ⟨R_C, "countOf", "(I)I"⟩
abbrev b_F_slotOf : ByteArray := prog_1_method_13_code
def y_F_slotOf : MethodName := ⟨R_F, "slotOf", "(II)I"⟩
abbrev b_F_form : ByteArray := prog_1_method_8_code
def y_F_form : MethodName := ⟨R_F, "form", "(ZI)I"⟩
abbrev b_X_writeBinary : ByteArray := prog_5_method_5_code
def y_X_writeBinary : MethodName := ⟨R_X, "writeBinary", "(LCircuitFiles$Circuit;)V"⟩
abbrev b_X_numberAnew : ByteArray := prog_5_method_6_code
def y_X_numberAnew : MethodName := ⟨R_X, "numberAnew", "(LCircuitFiles$Circuit;)V"⟩
abbrev b_X_putHeader : ByteArray := prog_5_method_8_code
def y_X_putHeader : MethodName := ⟨R_X, "putHeader", "(LCircuitFiles$Circuit;II)V"⟩
abbrev b_X_put : ByteArray := prog_5_method_14_code
def y_X_put : MethodName := ⟨R_X, "put", "(I)V"⟩
abbrev b_X_putNumber : ByteArray := prog_5_method_12_code
def y_X_putNumber : MethodName := ⟨R_X, "putNumber", "(II)V"⟩
abbrev b_X_newLiteral : ByteArray := prog_5_method_7_code
def y_X_newLiteral : MethodName := ⟨R_X, "newLiteral", "(I)I"⟩
abbrev b_X_putBinaryAnd : ByteArray := prog_5_method_9_code
def y_X_putBinaryAnd : MethodName := ⟨R_X, "putBinaryAnd", "(LCircuitFiles$Circuit;I)V"⟩
abbrev b_A_max : ByteArray := prog_12_method_65_code
def y_A_max : MethodName := ⟨R_A, "max", "(II)I"⟩
abbrev b_X_putDelta : ByteArray := prog_5_method_13_code
def y_X_putDelta : MethodName := ⟨R_X, "putDelta", "(I)V"⟩
abbrev b_A_min : ByteArray := prog_12_method_69_code
def y_A_min : MethodName := ⟨R_A, "min", "(II)I"⟩
abbrev b_X_putSymbols : ByteArray := prog_5_method_10_code
def y_X_putSymbols : MethodName := ⟨R_X, "putSymbols", "(LCircuitFiles$Circuit;)V"⟩
abbrev b_X_putName : ByteArray := prog_5_method_11_code
def y_X_putName : MethodName := ⟨R_X, "putName", "(LCircuitFiles$Circuit;I)V"⟩
abbrev b_X_byteOf : ByteArray := prog_5_method_3_code
def y_X_byteOf : MethodName := ⟨R_X, "byteOf", "(I)I"⟩
abbrev b_X_writeText : ByteArray := prog_5_method_4_code
def y_X_writeText : MethodName := ⟨R_X, "writeText", "(LCircuitFiles$Circuit;)V"⟩
abbrev b_F_reset : ByteArray := prog_1_method_9_code
def y_F_reset : MethodName := ⟨R_F, "reset", "()V"⟩
abbrev b_F_state : ByteArray := prog_1_method_10_code
def y_F_state : MethodName := ⟨R_F, "state", "()I"⟩
abbrev b_F_value : ByteArray := prog_1_method_11_code
def y_F_value : MethodName := ⟨R_F, "value", "(II)I"⟩
abbrev b_C_highestLiteral : ByteArray := prog_3_method_4_code
def y_C_highestLiteral : MethodName := ⟨R_C, "highestLiteral", "()I"⟩
abbrev b_C_isKnown : ByteArray := prog_3_method_6_code
def y_C_isKnown : MethodName := ⟨R_C, "isKnown", "(I)Z"⟩
abbrev b_C_settle : ByteArray := prog_3_method_7_code
def y_C_settle : MethodName := ⟨R_C, "settle", "(I)V"⟩
abbrev b_C_bitOf : ByteArray := prog_3_method_8_code
def y_C_bitOf : MethodName := ⟨R_C, "bitOf", "(I)I"⟩
abbrev b_F_step : ByteArray := prog_1_method_12_code
def y_F_step : MethodName := ⟨R_F, "step", "(I)I"⟩
abbrev b_C_bitsOf : ByteArray := prog_3_method_9_code
def y_C_bitsOf : MethodName := ⟨R_C, "bitsOf", "([II)I"⟩
abbrev b_L_load : ByteArray := method_3_code
def y_L_load : MethodName := ⟨R_L, "load", "(LCircuitFiles;[J)I"⟩
abbrev b_F_load : ByteArray := prog_1_method_4_code
def y_F_load : MethodName := ⟨R_F, "load", "()I"⟩
abbrev b_R_readFile : ByteArray := prog_6_method_4_code
def y_R_readFile : MethodName := ⟨R_R, "readFile", "(LCircuitFiles$Circuit;)Z"⟩
abbrev b_U_restart : ByteArray := prog_4_method_2_code
def y_U_restart : MethodName := ⟨R_U, "restart", "()V"⟩
abbrev b_C_forget : ByteArray := prog_3_method_2_code
def y_C_forget : MethodName := ⟨R_C, "forget", "()V"⟩
abbrev b_R_readHeader : ByteArray := prog_6_method_5_code
def y_R_readHeader : MethodName := ⟨R_R, "readHeader", "(LCircuitFiles$Circuit;)Z"⟩
abbrev b_U_expect : ByteArray := prog_4_method_5_code
def y_U_expect : MethodName := ⟨R_U, "expect", "(I)Z"⟩
abbrev b_U_peek : ByteArray := prog_4_method_4_code
def y_U_peek : MethodName := ⟨R_U, "peek", "()I"⟩
abbrev b_U_fail : ByteArray := prog_4_method_3_code
def y_U_fail : MethodName := ⟨R_U, "fail", "(II)Z"⟩
abbrev b_R_readCount : ByteArray := prog_6_method_6_code
def y_R_readCount : MethodName := ⟨R_R, "readCount", "()Z"⟩
abbrev b_U_readNumber : ByteArray := prog_4_method_6_code
def y_U_readNumber : MethodName := ⟨R_U, "readNumber", "()Z"⟩
abbrev b_C_isWithinBounds : ByteArray := prog_3_method_3_code
def y_C_isWithinBounds : MethodName := ⟨R_C, "isWithinBounds", "(Z)Z"⟩
abbrev b_R_readInputs : ByteArray := prog_6_method_7_code
def y_R_readInputs : MethodName := ⟨R_R, "readInputs", "(LCircuitFiles$Circuit;)Z"⟩
abbrev b_R_readDefinition : ByteArray := prog_6_method_14_code
def y_R_readDefinition : MethodName := ⟨R_R, "readDefinition", "(LCircuitFiles$Circuit;)Z"⟩
abbrev b_R_readLiteral : ByteArray := prog_6_method_13_code
def y_R_readLiteral : MethodName := ⟨R_R, "readLiteral", "(LCircuitFiles$Circuit;)Z"⟩
abbrev b_R_readLatches : ByteArray := prog_6_method_8_code
def y_R_readLatches : MethodName := ⟨R_R, "readLatches", "(LCircuitFiles$Circuit;)Z"⟩
abbrev b_R_readUse : ByteArray := prog_6_method_15_code
def y_R_readUse : MethodName := ⟨R_R, "readUse", "(LCircuitFiles$Circuit;)Z"⟩
abbrev b_R_readOutputs : ByteArray := prog_6_method_9_code
def y_R_readOutputs : MethodName := ⟨R_R, "readOutputs", "(LCircuitFiles$Circuit;)Z"⟩
abbrev b_R_readBinaryAnds : ByteArray := prog_6_method_11_code
def y_R_readBinaryAnds : MethodName := ⟨R_R, "readBinaryAnds", "(LCircuitFiles$Circuit;)Z"⟩
abbrev b_R_readDelta : ByteArray := prog_6_method_12_code
def y_R_readDelta : MethodName := ⟨R_R, "readDelta", "(II)Z"⟩
abbrev b_U_readSevens : ByteArray := prog_4_method_7_code
def y_U_readSevens : MethodName := ⟨R_U, "readSevens", "()Z"⟩
abbrev b_R_readTextAnds : ByteArray := prog_6_method_10_code
def y_R_readTextAnds : MethodName := ⟨R_R, "readTextAnds", "(LCircuitFiles$Circuit;)Z"⟩
abbrev b_R_readSymbols : ByteArray := prog_6_method_16_code
def y_R_readSymbols : MethodName := ⟨R_R, "readSymbols", "(LCircuitFiles$Circuit;)Z"⟩
abbrev b_R_kindOf : ByteArray := prog_6_method_17_code
def y_R_kindOf : MethodName := ⟨R_R, "kindOf", "(I)I"⟩
abbrev b_R_readSymbol : ByteArray := prog_6_method_18_code
def y_R_readSymbol : MethodName := ⟨R_R, "readSymbol", "(LCircuitFiles$Circuit;I)Z"⟩
abbrev b_R_readName : ByteArray := prog_6_method_19_code
def y_R_readName : MethodName := ⟨R_R, "readName", "(LCircuitFiles$Circuit;I)Z"⟩
abbrev b_R_checkUses : ByteArray := prog_6_method_20_code
def y_R_checkUses : MethodName := ⟨R_R, "checkUses", "(LCircuitFiles$Circuit;)Z"⟩
abbrev b_R_checkLoops : ByteArray := prog_6_method_21_code
def y_R_checkLoops : MethodName := ⟨R_R, "checkLoops", "(LCircuitFiles$Circuit;)Z"⟩
abbrev b_S_putInOrder : ByteArray := prog_2_method_2_code
def y_S_putInOrder : MethodName := ⟨R_S, "putInOrder", "(LCircuitFiles$Circuit;)Z"⟩
abbrev b_S_awaitAnds : ByteArray := prog_2_method_3_code
def y_S_awaitAnds : MethodName := ⟨R_S, "awaitAnds", "(LCircuitFiles$Circuit;)V"⟩
abbrev b_S_firstReady : ByteArray := prog_2_method_4_code
def y_S_firstReady : MethodName := ⟨R_S, "firstReady", "(LCircuitFiles$Circuit;I)I"⟩
abbrev b_S_lowestOnLoop : ByteArray := prog_2_method_5_code
def y_S_lowestOnLoop : MethodName := ⟨R_S, "lowestOnLoop", "(LCircuitFiles$Circuit;)I"⟩
abbrev b_S_reachesItself : ByteArray := prog_2_method_6_code
def y_S_reachesItself : MethodName := ⟨R_S, "reachesItself", "(LCircuitFiles$Circuit;I)Z"⟩
abbrev b_S_reach : ByteArray := prog_2_method_7_code
def y_S_reach : MethodName := ⟨R_S, "reach", "(I)V"⟩
abbrev b_T_makeEmpty : ByteArray := prog_7_method_4_code
def y_T_makeEmpty : MethodName := ⟨R_T, "makeEmpty", "()V"⟩
abbrev b_X_forget : ByteArray := prog_5_method_2_code
def y_X_forget : MethodName := ⟨R_X, "forget", "()V"⟩
abbrev b_M_init : ByteArray := prog_9_method_1_code
def y_M_init : MethodName := ⟨R_M, "<init>", "()V"⟩
abbrev b_M_thrown : ByteArray := prog_9_method_2_code
def y_M_thrown : MethodName := ⟨R_M, "thrown", "()I"⟩
abbrev b_M_feed : ByteArray := prog_9_method_3_code
def y_M_feed : MethodName := ⟨R_M, "feed", "(IIIII)V"⟩
abbrev b_M_end : ByteArray := prog_9_method_4_code
def y_M_end : MethodName := ⟨R_M, "end", "(I)I"⟩
abbrev b_M_load : ByteArray := prog_9_method_27_code
def y_M_load : MethodName := ⟨R_M, "load", "()I"⟩
abbrev b_M_takeHead : ByteArray := prog_9_method_13_code
def y_M_takeHead : MethodName := ⟨R_M, "takeHead", "()Z"⟩
abbrev b_M_take : ByteArray := prog_9_method_7_code
def y_M_take : MethodName := ⟨R_M, "take", "(I)V"⟩
abbrev b_M_here : ByteArray := prog_9_method_5_code
def y_M_here : MethodName := ⟨R_M, "here", "()I"⟩
abbrev b_M_wrong : ByteArray := prog_9_method_6_code
def y_M_wrong : MethodName := ⟨R_M, "wrong", "(II)V"⟩
abbrev b_M_takeNumber : ByteArray := prog_9_method_9_code
def y_M_takeNumber : MethodName := ⟨R_M, "takeNumber", "()V"⟩
abbrev b_M_isDigit : ByteArray := prog_9_method_8_code
def y_M_isDigit : MethodName := ⟨R_M, "isDigit", "()Z"⟩
abbrev b_M_takeBinary : ByteArray := prog_9_method_18_code
def y_M_takeBinary : MethodName := ⟨R_M, "takeBinary", "()V"⟩
abbrev b_M_define : ByteArray := prog_9_method_12_code
def y_M_define : MethodName := ⟨R_M, "define", "(III)V"⟩
abbrev b_M_takeNext : ByteArray := prog_9_method_15_code
def y_M_takeNext : MethodName := ⟨R_M, "takeNext", "(I)V"⟩
abbrev b_M_literal : ByteArray := prog_9_method_10_code
def y_M_literal : MethodName := ⟨R_M, "literal", "()I"⟩
abbrev b_M_takeOutputs : ByteArray := prog_9_method_16_code
def y_M_takeOutputs : MethodName := ⟨R_M, "takeOutputs", "()V"⟩
abbrev b_M_delta : ByteArray := prog_9_method_17_code
def y_M_delta : MethodName := ⟨R_M, "delta", "(II)I"⟩
abbrev b_M_takeText : ByteArray := prog_9_method_14_code
def y_M_takeText : MethodName := ⟨R_M, "takeText", "()V"⟩
abbrev b_M_defines : ByteArray := prog_9_method_11_code
def y_M_defines : MethodName := ⟨R_M, "defines", "(II)I"⟩
abbrev b_M_takeSymbols : ByteArray := prog_9_method_19_code
def y_M_takeSymbols : MethodName := ⟨R_M, "takeSymbols", "()V"⟩
abbrev b_M_findNowhere : ByteArray := prog_9_method_21_code
def y_M_findNowhere : MethodName := ⟨R_M, "findNowhere", "()V"⟩
abbrev b_M_isNowhere : ByteArray := prog_9_method_20_code
def y_M_isNowhere : MethodName := ⟨R_M, "isNowhere", "(I)Z"⟩
abbrev b_M_findRing : ByteArray := prog_9_method_25_code
def y_M_findRing : MethodName := ⟨R_M, "findRing", "()V"⟩
abbrev b_M_sort : ByteArray := prog_9_method_23_code
def y_M_sort : MethodName := ⟨R_M, "sort", "()V"⟩
abbrev b_M_hasCome : ByteArray := prog_9_method_22_code
def y_M_hasCome : MethodName := ⟨R_M, "hasCome", "(I)Z"⟩
abbrev b_M_hangs : ByteArray := prog_9_method_24_code
def y_M_hangs : MethodName := ⟨R_M, "hangs", "(I)Z"⟩
abbrev b_M_keep : ByteArray := prog_9_method_26_code
def y_M_keep : MethodName := ⟨R_M, "keep", "()V"⟩
abbrev b_M_fault : ByteArray := prog_9_method_28_code
def y_M_fault : MethodName := ⟨R_M, "fault", "(I)I"⟩
abbrev b_M_many : ByteArray := prog_9_method_29_code
def y_M_many : MethodName := ⟨R_M, "many", "(I)I"⟩
abbrev b_M_symbol : ByteArray := prog_9_method_31_code
def y_M_symbol : MethodName := ⟨R_M, "symbol", "(III)I"⟩
abbrev b_M_row : ByteArray := prog_9_method_30_code
def y_M_row : MethodName := ⟨R_M, "row", "(II)I"⟩
abbrev b_M_form : ByteArray := prog_9_method_41_code
def y_M_form : MethodName := ⟨R_M, "form", "(ZI)I"⟩
abbrev b_M_sortAgain : ByteArray := prog_9_method_40_code
def y_M_sortAgain : MethodName := ⟨R_M, "sortAgain", "()V"⟩
abbrev b_M_layHead : ByteArray := prog_9_method_36_code
def y_M_layHead : MethodName := ⟨R_M, "layHead", "(Z)V"⟩
abbrev b_M_lay : ByteArray := prog_9_method_32_code
def y_M_lay : MethodName := ⟨R_M, "lay", "(I)V"⟩
abbrev b_M_layNumber : ByteArray := prog_9_method_33_code
def y_M_layNumber : MethodName := ⟨R_M, "layNumber", "(II)V"⟩
abbrev b_M_layBinary : ByteArray := prog_9_method_38_code
def y_M_layBinary : MethodName := ⟨R_M, "layBinary", "()V"⟩
abbrev b_M_renamed : ByteArray := prog_9_method_35_code
def y_M_renamed : MethodName := ⟨R_M, "renamed", "(I)I"⟩
abbrev b_M_layDelta : ByteArray := prog_9_method_34_code
def y_M_layDelta : MethodName := ⟨R_M, "layDelta", "(I)V"⟩
abbrev b_M_layText : ByteArray := prog_9_method_37_code
def y_M_layText : MethodName := ⟨R_M, "layText", "()V"⟩
abbrev b_M_laySymbols : ByteArray := prog_9_method_39_code
def y_M_laySymbols : MethodName := ⟨R_M, "laySymbols", "()V"⟩
abbrev b_M_reset : ByteArray := prog_9_method_42_code
def y_M_reset : MethodName := ⟨R_M, "reset", "()V"⟩
abbrev b_M_state : ByteArray := prog_9_method_43_code
def y_M_state : MethodName := ⟨R_M, "state", "()I"⟩
abbrev b_M_value : ByteArray := prog_9_method_46_code
def y_M_value : MethodName := ⟨R_M, "value", "(II)I"⟩
abbrev b_M_reckon : ByteArray := prog_9_method_45_code
def y_M_reckon : MethodName := ⟨R_M, "reckon", "(I)V"⟩
abbrev b_M_of : ByteArray := prog_9_method_44_code
def y_M_of : MethodName := ⟨R_M, "of", "(I)I"⟩
abbrev b_M_step : ByteArray := prog_9_method_47_code
def y_M_step : MethodName := ⟨R_M, "step", "(I)I"⟩
theorem nmok_T : ∀ a, a < 3 → ∀ b, b < 3 → a ≠ b → (T_T a).2.1 ≠ (T_T b).2.1 := by decide +kernel
theorem tyok_T : ∀ k, k < 3 → parseFieldDescriptor (T_T k).2.2.1 = some (ty_T k) := by decide +kernel
theorem hin_T : ∀ w ∈ u_ws R_T T_T 3, w ∈ TB := fun w h => tb_sub [100, 102, 104] (by decide +kernel) (by decide +kernel) w h
theorem nmok_U : ∀ a, a < 6 → ∀ b, b < 6 → a ≠ b → (T_U a).2.1 ≠ (T_U b).2.1 := by decide +kernel
theorem tyok_U : ∀ k, k < 6 → parseFieldDescriptor (T_U k).2.2.1 = some (ty_U k) := by decide +kernel
theorem hin_U : ∀ w ∈ u_ws R_U T_U 6, w ∈ TB := fun w h => tb_sub [154, 156, 158, 160, 162, 164] (by decide +kernel) (by decide +kernel) w h
theorem nmok_R : ∀ a, a < 6 → ∀ b, b < 6 → a ≠ b → (T_R a).2.1 ≠ (T_R b).2.1 := by decide +kernel
theorem tyok_R : ∀ k, k < 6 → parseFieldDescriptor (T_R k).2.2.1 = some (ty_R k) := by decide +kernel
theorem hin_R : ∀ w ∈ u_ws R_R T_R 6, w ∈ TB := fun w h => tb_sub [173, 175, 177, 179, 181, 183] (by decide +kernel) (by decide +kernel) w h
theorem nmok_S : ∀ a, a < 5 → ∀ b, b < 5 → a ≠ b → (T_S a).2.1 ≠ (T_S b).2.1 := by decide +kernel
theorem tyok_S : ∀ k, k < 5 → parseFieldDescriptor (T_S k).2.2.1 = some (ty_S k) := by decide +kernel
theorem hin_S : ∀ w ∈ u_ws R_S T_S 5, w ∈ TB := fun w h => tb_sub [125, 127, 129, 131, 133] (by decide +kernel) (by decide +kernel) w h
theorem nmok_X : ∀ a, a < 4 → ∀ b, b < 4 → a ≠ b → (T_X a).2.1 ≠ (T_X b).2.1 := by decide +kernel
theorem tyok_X : ∀ k, k < 4 → parseFieldDescriptor (T_X k).2.2.1 = some (ty_X k) := by decide +kernel
theorem hin_X : ∀ w ∈ u_ws R_X T_X 4, w ∈ TB := fun w h => tb_sub [196, 198, 200, 202] (by decide +kernel) (by decide +kernel) w h
theorem nmok_C : ∀ a, a < 18 → ∀ b, b < 18 → a ≠ b → (T_C a).2.1 ≠ (T_C b).2.1 := by decide +kernel
theorem tyok_C : ∀ k, k < 18 → parseFieldDescriptor (T_C k).2.2.1 = some (ty_C k) := by decide +kernel
theorem hin_C : ∀ w ∈ u_ws R_C T_C 18, w ∈ TB := fun w h => tb_sub [275, 277, 279, 281, 283, 285, 287, 289, 291, 293, 295, 297, 299, 301, 303, 305, 307, 309] (by decide +kernel) (by decide +kernel) w h
theorem nmok_F : ∀ a, a < 6 → ∀ b, b < 6 → a ≠ b → (T_F a).2.1 ≠ (T_F b).2.1 := by decide +kernel
theorem tyok_F : ∀ k, k < 6 → parseFieldDescriptor (T_F k).2.2.1 = some (ty_F k) := by decide +kernel
theorem hin_F : ∀ w ∈ u_ws R_F T_F 6, w ∈ TB := fun w h => tb_sub [318, 320, 322, 324, 326, 328] (by decide +kernel) (by decide +kernel) w h
theorem nmok_M : ∀ a, a < 34 → ∀ b, b < 34 → a ≠ b → (T_M a).2.1 ≠ (T_M b).2.1 := by decide +kernel
theorem tyok_M : ∀ k, k < 34 → parseFieldDescriptor (T_M k).2.2.1 = some (ty_M k) := by decide +kernel
theorem hin_M : ∀ w ∈ u_ws R_M T_M 34, w ∈ TB := fun w h => tb_sub [769, 771, 773, 775, 777, 779, 781, 783, 785, 787, 789, 791, 793, 795, 797, 799, 801, 803, 805, 807, 809, 811, 813, 815, 817, 819, 821, 823, 825, 827, 829, 831, 833, 835] (by decide +kernel) (by decide +kernel) w h
def kc_T (cA : Nat → ClassId) (a : Nat → Nat) (I : Nat → Int32) (A : Nat → Nat → Int32) : va_W := [(a 0, .inr (0, [.ref (a 1), .ref (a 2), .int (I 0)])), (a 1, .inl (cA 0, 20, .inl (A 0))), (a 2, .inl (cA 0, 6000, .inl (A 1)))]
def kc_U (cA : Nat → ClassId) (a : Nat → Nat) (a_tape : Nat → Nat) (I : Nat → Int32) : va_W := [(a 0, .inr (1, [.ref (a_tape 0), .int (I 0), .int (I 1), .int (I 2), .int (I 3), .int (I 4)]))]
def kc_R (cA : Nat → ClassId) (a : Nat → Nat) (a_cursor a_sorter : Nat → Nat) (I : Nat → Int32) (A : Nat → Nat → Int32) : va_W := [(a 0, .inr (2, [.ref (a_cursor 0), .ref (a_sorter 0), .ref (a 1), .ref (a 2), .int (I 0), .int (I 1)])), (a 1, .inl (cA 0, 615, .inl (A 0))), (a 2, .inl (cA 0, 615, .inl (A 1)))]
def kc_S (cA : Nat → ClassId) (a : Nat → Nat) (I : Nat → Int32) (A : Nat → Nat → Int32) : va_W := [(a 0, .inr (3, [.ref (a 1), .ref (a 2), .ref (a 3), .ref (a 4), .int (I 0)])), (a 1, .inl (cA 1, 401, .inl (A 0))), (a 2, .inl (cA 1, 401, .inl (A 1))), (a 3, .inl (cA 0, 401, .inl (A 2))), (a 4, .inl (cA 0, 301, .inl (A 3)))]
def kc_X (cA : Nat → ClassId) (a : Nat → Nat) (I : Nat → Int32) (A : Nat → Nat → Int32) : va_W := [(a 0, .inr (4, [.ref (a 1), .ref (a 2), .int (I 0), .int (I 1)])), (a 1, .inl (cA 0, 4654, .inl (A 0))), (a 2, .inl (cA 0, 401, .inl (A 1)))]
def kc_C (cA : Nat → ClassId) (a : Nat → Nat) (I : Nat → Int32) (A : Nat → Nat → Int32) : va_W := [(a 0, .inr (5, [.int (I 0), .int (I 1), .int (I 2), .int (I 3), .int (I 4), .int (I 5), .ref (a 1), .ref (a 2), .ref (a 3), .ref (a 4), .ref (a 5), .ref (a 6), .ref (a 7), .ref (a 8), .ref (a 9), .ref (a 10), .ref (a 11), .ref (a 12)])), (a 1, .inl (cA 0, 6, .inl (A 0))), (a 2, .inl (cA 0, 7, .inl (A 1))), (a 3, .inl (cA 0, 7, .inl (A 2))), (a 4, .inl (cA 0, 8, .inl (A 3))), (a 5, .inl (cA 0, 300, .inl (A 4))), (a 6, .inl (cA 0, 300, .inl (A 5))), (a 7, .inl (cA 0, 300, .inl (A 6))), (a 8, .inl (cA 0, 300, .inl (A 7))), (a 9, .inl (cA 1, 401, .inl (A 8))), (a 10, .inl (cA 0, 24, .inl (A 9))), (a 11, .inl (cA 0, 960, .inl (A 10))), (a 12, .inl (cA 0, 401, .inl (A 11)))]
def kc_F (cA : Nat → ClassId) (a : Nat → Nat) (a_tape a_reader a_textForm a_binaryForm a_circuit a_draft : Nat → Nat) : va_W := [(a 0, .inr (6, [.ref (a_tape 0), .ref (a_reader 0), .ref (a_textForm 0), .ref (a_binaryForm 0), .ref (a_circuit 0), .ref (a_draft 0)]))]
def kc_M (cA : Nat → ClassId) (a : Nat → Nat) (I : Nat → Int32) (A : Nat → Nat → Int32) : va_W := [(a 0, .inr (7, [.int (I 0), .ref (a 1), .ref (a 2), .int (I 1), .int (I 2), .int (I 3), .int (I 4), .int (I 5), .int (I 6), .int (I 7), .ref (a 3), .ref (a 4), .ref (a 5), .ref (a 6), .ref (a 7), .ref (a 8), .ref (a 9), .ref (a 10), .ref (a 11), .ref (a 12), .ref (a 13), .ref (a 14), .ref (a 15), .ref (a 16), .ref (a 17), .ref (a 18), .ref (a 19), .ref (a 20), .ref (a 21), .int (I 8), .int (I 9), .ref (a 22), .ref (a 23), .int (I 10)])), (a 1, .inl (cA 2, 6000, .inl (A 0))), (a 2, .inl (cA 2, 20, .inl (A 1))), (a 3, .inl (cA 0, 10, .inl (A 2))), (a 4, .inl (cA 0, 12, .inl (A 3))), (a 5, .inl (cA 0, 16, .inl (A 4))), (a 6, .inl (cA 0, 16, .inl (A 5))), (a 7, .inl (cA 0, 16, .inl (A 6))), (a 8, .inl (cA 0, 600, .inl (A 7))), (a 9, .inl (cA 0, 600, .inl (A 8))), (a 10, .inl (cA 0, 600, .inl (A 9))), (a 11, .inl (cA 0, 802, .inl (A 10))), (a 12, .inl (cA 0, 802, .inl (A 11))), (a 13, .inl (cA 0, 8, .inl (A 12))), (a 14, .inl (cA 0, 8, .inl (A 13))), (a 15, .inl (cA 0, 300, .inl (A 14))), (a 16, .inl (cA 0, 300, .inl (A 15))), (a 17, .inl (cA 2, 1760, .inl (A 16))), (a 18, .inl (cA 0, 44, .inl (A 17))), (a 19, .inl (cA 0, 300, .inl (A 18))), (a 20, .inl (cA 0, 401, .inl (A 19))), (a 21, .inl (cA 1, 401, .inl (A 20))), (a 22, .inl (cA 0, 401, .inl (A 21))), (a 23, .inl (cA 2, 12000, .inl (A 22)))]
def tyl (cA : Nat → ClassId) : List (ClassId × FieldType) := [(cA 0, .int), (cA 1, .boolean), (cA 2, .byte), (cA 3, .long)]
def NWl : List Cond := [Cond.methodLinkNest R_F 11 y_T_init "CircuitFiles", Cond.fieldLinkNest R_U 36 "CircuitFiles$Tape" "bytes" "[I" "CircuitFiles", Cond.fieldLinkNest R_U 31 "CircuitFiles$Tape" "length" "I" "CircuitFiles", Cond.methodLinkNest R_R 11 y_S_init "CircuitFiles", Cond.methodLinkNest R_F 27 y_X_init "CircuitFiles", Cond.methodLinkNest R_F 37 y_C_init "CircuitFiles", Cond.methodLinkNest R_X 112 y_F_slotOf "CircuitFiles", Cond.methodLinkNest R_R 196 y_F_slotOf "CircuitFiles"]
theorem NWl_nest : NWl.all isNest = true := by decide +kernel
/-! STANDING FACTS: what holds from the law's first instruction on, and of cells that no method of ours writes -/
/-- a static of a reference type: its place, and that it holds a reference or null -/
def zs (C n d : String) (A : Nat → Prop) (U : State) (H : Heap) : Prop := ∃ (c : ClassId) (k : Class) (i : Nat) (f : Field) (a : Nat) (cell : Cell) (v : Value), U.vm.findClass C = some c ∧ U.fieldFound? C n d = some (c, k, i, f) ∧ f.isStatic = true ∧ k.statics = some a ∧ H[a]? = some cell ∧ cell.vm.isStatics = true ∧ cell.cls = c ∧ f.slot < cell.slots.size ∧ k.staticTypes[f.slot]? = some f.type ∧ cell.slots[f.slot]? = some v ∧ v.isRef = true ∧ ¬ A a
theorem zs.moved {C n d : String} {A : Nat → Prop} {u U : State} {H : Heap} (hvm : u.vm.Alike U.vm) (h : zs C n d A u H) : zs C n d A U H := by
  obtain ⟨c, k, i, f, a, cell, v, h1, h2, h3, h4, h5, h6, h7, h8, h9, h10⟩ := h
  obtain ⟨k', hi', he⟩ := State.fieldFound?_setVm hvm h2
  exact ⟨c, k', i, f, a, cell, v, by rw [hvm.findClass]; exact h1, hi', h3, by rw [he]; exact h4, h5, h6, h7, h8, by rw [he]; exact h9, h10⟩
theorem zs.kept {C n d : String} {A : Nat → Prop} {U : State} {H H1 : Heap} (h : zs C n d A U H) (hq : ∀ a : Nat, a < H.size → ¬ A a → H1[a]? = H[a]?) : zs C n d A U H1 := by
  obtain ⟨c, k, i, f, a, cell, v, h1, h2, h3, h4, h5, h6, h7, h8, h9, h10, h11, h12⟩ := h
  exact ⟨c, k, i, f, a, cell, v, h1, h2, h3, h4, by rw [hq a (Array.getElem?_eq_some_iff.mp h5).1 h12]; exact h5, h6, h7, h8, h9, h10, h11, h12⟩
theorem zs.narrow {C n d : String} {A B : Nat → Prop} {U : State} {H : Heap} (h : zs C n d A U H) (hAB : ∀ q, B q → A q) : zs C n d B U H := by
  obtain ⟨c, k, i, f, a, cell, v, h1, h2, h3, h4, h5, h6, h7, h8, h9, h10, h11, h12⟩ := h
  exact ⟨c, k, i, f, a, cell, v, h1, h2, h3, h4, h5, h6, h7, h8, h9, h10, h11, fun z => h12 (hAB a z)⟩
def CWl : List (String × String) := [("java/lang/IllegalArgumentException", "java/lang/IllegalArgumentException")]
def DWl : List MethodName := [⟨"java/lang/RuntimeException", "<init>", "(Ljava/lang/String;)V"⟩, ⟨"java/lang/Exception", "<init>", "(Ljava/lang/String;)V"⟩, ⟨"java/lang/Throwable", "<init>", "(Ljava/lang/String;)V"⟩]
def SPl (sx : Nat → Nat) (A : Nat → Prop) (U : State) (H : Heap) : Prop :=
  (∀ w ∈ NWl, va_Nw w U) ∧ (vk_R R_X 115 "ilo" (sx 0) U ∧ vk_R R_R 182 "ilo" (sx 0) U ∧ vk_R R_F 62 "the file has a fault" (sx 2) U) ∧
  vk_S 1 [3] [[105, 108, 111]] (fun _ => sx 0) (fun _ => sx 1) A U H ∧ va_Z "java/lang/String" "COMPACT_STRINGS" "Z" (.int 1) A U H ∧
  (zs Bundle.tN "UNASSIGNED_STACK" Bundle.steD A U H ∧ zs Bundle.tN "SUPPRESSED_SENTINEL" Bundle.listD A U H) ∧ (∀ q ∈ CWl, va_Nw (.castable q.1 q.2) U) ∧ va_Zq "jdk/internal/util/Preconditions" "SIOOBE_FORMATTER" "Ljava/util/function/BiFunction;" A U H ∧ (∀ x ∈ DWl, va_Nw (.declares x) U)
theorem SPl_form {sx : Nat → Nat} {A : Nat → Prop} {U : State} {H : Heap} (h : SPl sx A U H) : va_Zq "jdk/internal/util/Preconditions" "SIOOBE_FORMATTER" "Ljava/util/function/BiFunction;" A U H := h.2.2.2.2.2.2.1
theorem SPl_ok (sx : Nat → Nat) : SPok (SPl sx) := by
  have al : ∀ {u U : State}, u.vm = U.vm → u.vm.Alike U.vm := fun h => by rw [h]; exact Vm.Alike.refl _
  refine ⟨fun A U H H1 h hq => ?_, fun A B U H h hAB => ?_, fun A s U H hW h => ?_, fun A u U H hv h => ?_⟩
  · exact ⟨h.1, h.2.1, h.2.2.1.kept hq, h.2.2.2.1.kept hq, ⟨h.2.2.2.2.1.1.kept hq, h.2.2.2.2.1.2.kept hq⟩, h.2.2.2.2.2.1, h.2.2.2.2.2.2.1.kept hq, h.2.2.2.2.2.2.2⟩
  · exact ⟨h.1, h.2.1, h.2.2.1.narrow hAB, h.2.2.2.1.narrow hAB, ⟨h.2.2.2.2.1.1.narrow hAB, h.2.2.2.2.1.2.narrow hAB⟩, h.2.2.2.2.2.1, h.2.2.2.2.2.2.1.narrow hAB, h.2.2.2.2.2.2.2⟩
  · exact ⟨fun w hw => nw_warm (List.all_eq_true.mp NWl_nest w hw) hW (h.1 w hw), ⟨h.2.1.1.warm hW, h.2.1.2.1.warm hW, h.2.1.2.2.warm hW⟩, vk_S.moved hW.alike h.2.2.1, va_Z.moved hW.alike h.2.2.2.1, ⟨zs.moved hW.alike h.2.2.2.2.1.1, zs.moved hW.alike h.2.2.2.2.1.2⟩, fun q hq => va_Nw.warmC hW (h.2.2.2.2.2.1 q hq), va_Zq.moved hW.alike h.2.2.2.2.2.2.1, fun x hx => va_Nw.warmD hW (h.2.2.2.2.2.2.2 x hx)⟩
  · exact ⟨fun w hw => nw_same (List.all_eq_true.mp NWl_nest w hw) hv (h.1 w hw), ⟨vk_R.same hv.symm h.2.1.1, vk_R.same hv.symm h.2.1.2.1, vk_R.same hv.symm h.2.1.2.2⟩, vk_S.moved (al hv) h.2.2.1, va_Z.moved (al hv) h.2.2.2.1, ⟨zs.moved (al hv) h.2.2.2.2.1.1, zs.moved (al hv) h.2.2.2.2.1.2⟩, fun q hq => va_Nw.same rfl hv (h.2.2.2.2.2.1 q hq), va_Zq.moved (al hv) h.2.2.2.2.2.2.1, fun x hx => va_Nw.same rfl hv (h.2.2.2.2.2.2.2 x hx)⟩
theorem nw_28 {sx : Nat → Nat} : ∀ {A : Nat → Prop} {U : State} {H : Heap}, SPl sx A U H → va_Nw (Cond.methodLinkNest R_F 11 y_T_init "CircuitFiles") U := fun h => h.1 _ (List.mem_of_getElem? (i := 0) (by decide +kernel))
theorem nw_34 {sx : Nat → Nat} : ∀ {A : Nat → Prop} {U : State} {H : Heap}, SPl sx A U H → va_Nw (Cond.fieldLinkNest R_U 36 "CircuitFiles$Tape" "bytes" "[I" "CircuitFiles") U := fun h => h.1 _ (List.mem_of_getElem? (i := 1) (by decide +kernel))
theorem nw_36 {sx : Nat → Nat} : ∀ {A : Nat → Prop} {U : State} {H : Heap}, SPl sx A U H → va_Nw (Cond.fieldLinkNest R_U 31 "CircuitFiles$Tape" "length" "I" "CircuitFiles") U := fun h => h.1 _ (List.mem_of_getElem? (i := 2) (by decide +kernel))
theorem nw_53 {sx : Nat → Nat} : ∀ {A : Nat → Prop} {U : State} {H : Heap}, SPl sx A U H → va_Nw (Cond.methodLinkNest R_R 11 y_S_init "CircuitFiles") U := fun h => h.1 _ (List.mem_of_getElem? (i := 3) (by decide +kernel))
theorem nw_125 {sx : Nat → Nat} : ∀ {A : Nat → Prop} {U : State} {H : Heap}, SPl sx A U H → va_Nw (Cond.methodLinkNest R_F 27 y_X_init "CircuitFiles") U := fun h => h.1 _ (List.mem_of_getElem? (i := 4) (by decide +kernel))
theorem nw_144 {sx : Nat → Nat} : ∀ {A : Nat → Prop} {U : State} {H : Heap}, SPl sx A U H → va_Nw (Cond.methodLinkNest R_F 37 y_C_init "CircuitFiles") U := fun h => h.1 _ (List.mem_of_getElem? (i := 5) (by decide +kernel))
theorem nw_358 {sx : Nat → Nat} : ∀ {A : Nat → Prop} {U : State} {H : Heap}, SPl sx A U H → va_Nw (Cond.methodLinkNest R_X 112 y_F_slotOf "CircuitFiles") U := fun h => h.1 _ (List.mem_of_getElem? (i := 6) (by decide +kernel))
theorem nw_555 {sx : Nat → Nat} : ∀ {A : Nat → Prop} {U : State} {H : Heap}, SPl sx A U H → va_Nw (Cond.methodLinkNest R_R 196 y_F_slotOf "CircuitFiles") U := fun h => h.1 _ (List.mem_of_getElem? (i := 7) (by decide +kernel))
