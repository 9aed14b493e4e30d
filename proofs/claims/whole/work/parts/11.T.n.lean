theorem tb_32 : Cond.fieldLink R_T 9 "CircuitFiles$Tape" "ready" "[I" ∈ TB := tb_mem (i := 95) (by decide +kernel) (by decide +kernel)
theorem tb_33 : Cond.fieldLink R_T 15 "CircuitFiles$Tape" "bytes" "[I" ∈ TB := tb_mem (i := 96) (by decide +kernel) (by decide +kernel)
theorem tb_35 : Cond.fieldLink R_T 18 "CircuitFiles$Tape" "length" "I" ∈ TB := tb_mem (i := 98) (by decide +kernel) (by decide +kernel)
theorem st_T_TA0 {cA : Nat → ClassId} {a_T : Nat → Nat} {I_T : Nat → Int32} {A_T : Nat → Nat → Int32} {f : Nat → Int32} : (kc_T cA a_T I_T A_T).set 1 (a_T 1, .inl (cA 0, 20, .inl f)) = kc_T cA a_T I_T (va_up A_T 0 f) := rfl
theorem st_T_TA1 {cA : Nat → ClassId} {a_T : Nat → Nat} {I_T : Nat → Int32} {A_T : Nat → Nat → Int32} {f : Nat → Int32} : (kc_T cA a_T I_T A_T).set 2 (a_T 2, .inl (cA 0, 6000, .inl f)) = kc_T cA a_T I_T (va_up A_T 1 f) := rfl
theorem st_T_TI0 {cA : Nat → ClassId} {a_T : Nat → Nat} {I_T : Nat → Int32} {A_T : Nat → Nat → Int32} {v : Int32} : (kc_T cA a_T I_T A_T).set 0 (a_T 0, .inr (0, ([.ref (a_T 1), .ref (a_T 2), .int (I_T 0)] : List Value).set 2 (.int v))) = kc_T cA a_T (va_up I_T 0 v) A_T := rfl
