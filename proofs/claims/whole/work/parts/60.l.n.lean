theorem d_L_load_0 : decode b_L_load 0 = .ok (.aload_n 1, 1) := by decide +kernel
theorem d_L_load_1 : decode b_L_load 1 = .ok (.iconst 0, 1) := by decide +kernel
theorem d_L_load_2 : decode b_L_load 2 = .ok (.aload_n 0, 1) := by decide +kernel
theorem d_L_load_3 : decode b_L_load 3 = .ok (.invokevirtual 7, 3) := by decide +kernel
theorem d_L_load_6 : decode b_L_load 6 = .ok (.i2l, 1) := by decide +kernel
theorem d_L_load_7 : decode b_L_load 7 = .ok (.lastore, 1) := by decide +kernel
theorem d_L_load_8 : decode b_L_load 8 = .ok (.goto 6, 3) := by decide +kernel
theorem d_L_load_11 : decode b_L_load 11 = .ok (.astore_n 2, 1) := by decide +kernel
theorem d_L_load_12 : decode b_L_load 12 = .ok (.iconst 1, 1) := by decide +kernel
theorem d_L_load_13 : decode b_L_load 13 = .ok (.ireturn, 1) := by decide +kernel
theorem d_L_load_14 : decode b_L_load 14 = .ok (.iconst 0, 1) := by decide +kernel
theorem d_L_load_15 : decode b_L_load 15 = .ok (.ireturn, 1) := by decide +kernel
theorem tb_453 : Cond.classLink R_L 13 XE ∈ TB := tb_mem (i := 516) (by decide +kernel) (by decide +kernel)
theorem tb_454 : Cond.methodLink R_L 7 y_F_load ∈ TB := tb_mem (i := 517) (by decide +kernel) (by decide +kernel)
theorem tb_455 : Cond.instanceMethod y_F_load ∈ TB := tb_mem (i := 518) (by decide +kernel) (by decide +kernel)
theorem tb_456 : Cond.selects R_F y_F_load y_F_load ∈ TB := tb_mem (i := 519) (by decide +kernel) (by decide +kernel)
theorem tb_457 : Cond.code y_F_load b_F_load 3 (some .int) ∈ TB := tb_mem (i := 520) (by decide +kernel) (by decide +kernel)
def wp_L_load (I_R : (Nat → Int32)) (A_R : (Nat → Nat → Int32)) (I_U : (Nat → Int32)) (I_T : (Nat → Int32)) (A_T : (Nat → Nat → Int32)) (I_S : (Nat → Int32)) (A_S : (Nat → Nat → Int32)) (I_X : (Nat → Int32)) (I_Y : (Nat → Int32)) (I_C : (Nat → Int32)) (A_C : (Nat → Nat → Int32)) (I_D : (Nat → Int32)) (A_D : (Nat → Nat → Int32)) (J : Nat → Int64) (Q : Int32 → (Nat → Int32) → (Nat → Nat → Int32) → (Nat → Int32) → (Nat → Int32) → (Nat → Int32) → (Nat → Nat → Int32) → (Nat → Int32) → (Nat → Int32) → (Nat → Int32) → (Nat → Nat → Int32) → (Nat → Int32) → (Nat → Nat → Int32) → (Nat → Int64) → Prop) : Prop := wp_F_load I_R A_R I_U I_T A_T I_S A_S I_X I_Y I_C A_C I_D A_D (fun r z0 z1 z2 z3 z4 z5 z6 z7 z8 z9 z10 z11 => Q 0 z0 z1 z2 z3 z4 z5 z6 z7 z8 z9 z10 z11 (vp_updL J ((0 : Int32)).toNatClampNeg (r).toInt64)) (fun z0 z1 z2 z3 z4 z5 z6 z7 z8 z9 z10 z11 => Q 1 z0 z1 z2 z3 z4 z5 z6 z7 z8 z9 z10 z11 J)
