theorem tb_7 : Cond.initialized R_C ∈ TB := tb_mem (i := 70) (by decide +kernel) (by decide +kernel)
theorem tb_148 : Cond.fieldLink R_C 9 "CircuitFiles$Circuit" "top" "I" ∈ TB := tb_mem (i := 211) (by decide +kernel) (by decide +kernel)
theorem tb_153 : Cond.fieldLink R_C 15 "CircuitFiles$Circuit" "inputs" "I" ∈ TB := tb_mem (i := 216) (by decide +kernel) (by decide +kernel)
theorem tb_157 : Cond.fieldLink R_C 18 "CircuitFiles$Circuit" "latches" "I" ∈ TB := tb_mem (i := 220) (by decide +kernel) (by decide +kernel)
theorem tb_161 : Cond.fieldLink R_C 21 "CircuitFiles$Circuit" "outputs" "I" ∈ TB := tb_mem (i := 224) (by decide +kernel) (by decide +kernel)
theorem tb_165 : Cond.fieldLink R_C 24 "CircuitFiles$Circuit" "ands" "I" ∈ TB := tb_mem (i := 228) (by decide +kernel) (by decide +kernel)
theorem tb_170 : Cond.fieldLink R_C 27 "CircuitFiles$Circuit" "latchBits" "I" ∈ TB := tb_mem (i := 233) (by decide +kernel) (by decide +kernel)
theorem tb_172 : Cond.fieldLink R_C 30 "CircuitFiles$Circuit" "inputVariable" "[I" ∈ TB := tb_mem (i := 235) (by decide +kernel) (by decide +kernel)
theorem tb_175 : Cond.fieldLink R_C 34 "CircuitFiles$Circuit" "latchVariable" "[I" ∈ TB := tb_mem (i := 238) (by decide +kernel) (by decide +kernel)
theorem tb_186 : Cond.fieldLink R_C 43 "CircuitFiles$Circuit" "andVariable" "[I" ∈ TB := tb_mem (i := 249) (by decide +kernel) (by decide +kernel)
theorem tb_190 : Cond.fieldLink R_C 46 "CircuitFiles$Circuit" "andFirst" "[I" ∈ TB := tb_mem (i := 253) (by decide +kernel) (by decide +kernel)
theorem tb_194 : Cond.fieldLink R_C 49 "CircuitFiles$Circuit" "andSecond" "[I" ∈ TB := tb_mem (i := 257) (by decide +kernel) (by decide +kernel)
theorem tb_198 : Cond.fieldLink R_C 52 "CircuitFiles$Circuit" "order" "[I" ∈ TB := tb_mem (i := 261) (by decide +kernel) (by decide +kernel)
theorem tb_201 : Cond.fieldLink R_C 55 "CircuitFiles$Circuit" "defined" "[Z" ∈ TB := tb_mem (i := 264) (by decide +kernel) (by decide +kernel)
theorem tb_203 : Cond.fieldLink R_C 59 "CircuitFiles$Circuit" "nameLength" "[I" ∈ TB := tb_mem (i := 266) (by decide +kernel) (by decide +kernel)
theorem tb_211 : Cond.fieldLink R_C 65 "CircuitFiles$Circuit" "bit" "[I" ∈ TB := tb_mem (i := 274) (by decide +kernel) (by decide +kernel)
theorem tb_437 : Cond.methodLink R_C 68 y_C_bitOf ∈ TB := tb_mem (i := 500) (by decide +kernel) (by decide +kernel)
theorem tb_438 : Cond.instanceMethod y_C_bitOf ∈ TB := tb_mem (i := 501) (by decide +kernel) (by decide +kernel)
theorem tb_439 : Cond.selects R_C y_C_bitOf y_C_bitOf ∈ TB := tb_mem (i := 502) (by decide +kernel) (by decide +kernel)
theorem tb_440 : Cond.code y_C_bitOf b_C_bitOf 2 (some .int) ∈ TB := tb_mem (i := 503) (by decide +kernel) (by decide +kernel)
theorem cw_C_68 {p : Program} {R : Room} {s : State} {m : MethodId} {args : Array Value} {meth : Method} {c : Code} {cc : ByteArray} {nL : Nat} {D : va_G} {sx : Nat → Nat} {tys : List (ClassId × FieldType)} {A : Nat → Prop} {ret : Option FieldType} (hC : CX p s m args meth c cc R_C TB nL D vwCl tys A (SPl sx) ret) (hR : ({ frames := 0, cells := 0, slots := 0, locals := 0 } : Room).frames + 1 ≤ R.frames ∧ 8 + (2 + 11) + ({ frames := 0, cells := 0, slots := 0, locals := 0 } : Room).locals ≤ R.locals := by exact ⟨Nat.le_of_ble_eq_true rfl, Nat.le_of_ble_eq_true rfl⟩) : CallW R s args R_C R_C 68 y_C_bitOf b_C_bitOf 2 (some .int) (Cond.code y_C_bitOf b_C_bitOf 2 (some .int) :: TB) ({ frames := 0, cells := 0, slots := 0, locals := 0 } : Room) 0 0 1 := cwV 1 hC.2.2.2.2.1 (gV tb_437 tb_438 tb_439 tb_7 tb_440) rfl rfl rfl (by decide +kernel) hR
theorem st_C_CA11 {cA : Nat → ClassId} {a_C : Nat → Nat} {I_C : Nat → Int32} {A_C : Nat → Nat → Int32} {f : Nat → Int32} : (kc_C cA a_C I_C A_C).set 12 (a_C 12, .inl (cA 0, 401, .inl f)) = kc_C cA a_C I_C (va_up A_C 11 f) := rfl
theorem st_C_CA8 {cA : Nat → ClassId} {a_C : Nat → Nat} {I_C : Nat → Int32} {A_C : Nat → Nat → Int32} {f : Nat → Int32} : (kc_C cA a_C I_C A_C).set 9 (a_C 9, .inl (cA 1, 401, .inl f)) = kc_C cA a_C I_C (va_up A_C 8 f) := rfl
theorem st_C_CA9 {cA : Nat → ClassId} {a_C : Nat → Nat} {I_C : Nat → Int32} {A_C : Nat → Nat → Int32} {f : Nat → Int32} : (kc_C cA a_C I_C A_C).set 10 (a_C 10, .inl (cA 0, 24, .inl f)) = kc_C cA a_C I_C (va_up A_C 9 f) := rfl
theorem st_C_CI5 {cA : Nat → ClassId} {a_C : Nat → Nat} {I_C : Nat → Int32} {A_C : Nat → Nat → Int32} {v : Int32} : (kc_C cA a_C I_C A_C).set 0 (a_C 0, .inr (5, ([.int (I_C 0), .int (I_C 1), .int (I_C 2), .int (I_C 3), .int (I_C 4), .int (I_C 5), .ref (a_C 1), .ref (a_C 2), .ref (a_C 3), .ref (a_C 4), .ref (a_C 5), .ref (a_C 6), .ref (a_C 7), .ref (a_C 8), .ref (a_C 9), .ref (a_C 10), .ref (a_C 11), .ref (a_C 12)] : List Value).set 5 (.int v))) = kc_C cA a_C (va_up I_C 5 v) A_C := rfl
