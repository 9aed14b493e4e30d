theorem d_F_load_0 : decode b_F_load 0 = .ok (.aload_n 0, 1) := by decide +kernel
theorem d_F_load_1 : decode b_F_load 1 = .ok (.getfield 21, 3) := by decide +kernel
theorem d_F_load_4 : decode b_F_load 4 = .ok (.aload_n 0, 1) := by decide +kernel
theorem d_F_load_5 : decode b_F_load 5 = .ok (.getfield 42, 3) := by decide +kernel
theorem d_F_load_8 : decode b_F_load 8 = .ok (.invokevirtual 53, 3) := by decide +kernel
theorem d_F_load_11 : decode b_F_load 11 = .ok (.istore_n 1, 1) := by decide +kernel
theorem d_F_load_12 : decode b_F_load 12 = .ok (.aload_n 0, 1) := by decide +kernel
theorem d_F_load_13 : decode b_F_load 13 = .ok (.getfield 12, 3) := by decide +kernel
theorem d_F_load_16 : decode b_F_load 16 = .ok (.invokevirtual 57, 3) := by decide +kernel
theorem d_F_load_19 : decode b_F_load 19 = .ok (.iload_n 1, 1) := by decide +kernel
theorem d_F_load_20 : decode b_F_load 20 = .ok (.ifCond .ne 13, 3) := by decide +kernel
theorem d_F_load_23 : decode b_F_load 23 = .ok (.new 60, 3) := by decide +kernel
theorem d_F_load_26 : decode b_F_load 26 = .ok (.dup, 1) := by decide +kernel
theorem d_F_load_27 : decode b_F_load 27 = .ok (.ldc 62, 2) := by decide +kernel
theorem d_F_load_29 : decode b_F_load 29 = .ok (.invokespecial 64, 3) := by decide +kernel
theorem d_F_load_32 : decode b_F_load 32 = .ok (.athrow, 1) := by decide +kernel
theorem d_F_load_33 : decode b_F_load 33 = .ok (.aload_n 0, 1) := by decide +kernel
theorem d_F_load_34 : decode b_F_load 34 = .ok (.getfield 38, 3) := by decide +kernel
theorem d_F_load_37 : decode b_F_load 37 = .ok (.astore_n 2, 1) := by decide +kernel
theorem d_F_load_38 : decode b_F_load 38 = .ok (.aload_n 0, 1) := by decide +kernel
theorem d_F_load_39 : decode b_F_load 39 = .ok (.aload_n 0, 1) := by decide +kernel
theorem d_F_load_40 : decode b_F_load 40 = .ok (.getfield 42, 3) := by decide +kernel
theorem d_F_load_43 : decode b_F_load 43 = .ok (.putfield 38, 3) := by decide +kernel
theorem d_F_load_46 : decode b_F_load 46 = .ok (.aload_n 0, 1) := by decide +kernel
theorem d_F_load_47 : decode b_F_load 47 = .ok (.aload_n 2, 1) := by decide +kernel
theorem d_F_load_48 : decode b_F_load 48 = .ok (.putfield 42, 3) := by decide +kernel
theorem d_F_load_51 : decode b_F_load 51 = .ok (.aload_n 0, 1) := by decide +kernel
theorem d_F_load_52 : decode b_F_load 52 = .ok (.getfield 28, 3) := by decide +kernel
theorem d_F_load_55 : decode b_F_load 55 = .ok (.invokevirtual 67, 3) := by decide +kernel
theorem d_F_load_58 : decode b_F_load 58 = .ok (.aload_n 0, 1) := by decide +kernel
theorem d_F_load_59 : decode b_F_load 59 = .ok (.getfield 32, 3) := by decide +kernel
theorem d_F_load_62 : decode b_F_load 62 = .ok (.invokevirtual 67, 3) := by decide +kernel
theorem d_F_load_65 : decode b_F_load 65 = .ok (.aload_n 0, 1) := by decide +kernel
theorem d_F_load_66 : decode b_F_load 66 = .ok (.getfield 38, 3) := by decide +kernel
theorem d_F_load_69 : decode b_F_load 69 = .ok (.getfield 70, 3) := by decide +kernel
theorem d_F_load_72 : decode b_F_load 72 = .ok (.ireturn, 1) := by decide +kernel
theorem tb_16 : Cond.initialized XE ∈ TB := tb_mem (i := 79) (by decide +kernel) (by decide +kernel)
theorem tb_458 : Cond.methodLink R_F 53 y_R_readFile ∈ TB := tb_mem (i := 521) (by decide +kernel) (by decide +kernel)
theorem tb_459 : Cond.instanceMethod y_R_readFile ∈ TB := tb_mem (i := 522) (by decide +kernel) (by decide +kernel)
theorem tb_460 : Cond.selects R_R y_R_readFile y_R_readFile ∈ TB := tb_mem (i := 523) (by decide +kernel) (by decide +kernel)
theorem tb_461 : Cond.code y_R_readFile b_R_readFile 2 (some .boolean) ∈ TB := tb_mem (i := 524) (by decide +kernel) (by decide +kernel)
theorem tb_593 : Cond.methodLink R_F 57 y_T_makeEmpty ∈ TB := tb_mem (i := 656) (by decide +kernel) (by decide +kernel)
theorem tb_594 : Cond.instanceMethod y_T_makeEmpty ∈ TB := tb_mem (i := 657) (by decide +kernel) (by decide +kernel)
theorem tb_595 : Cond.selects R_T y_T_makeEmpty y_T_makeEmpty ∈ TB := tb_mem (i := 658) (by decide +kernel) (by decide +kernel)
theorem tb_596 : Cond.code y_T_makeEmpty b_T_makeEmpty 1 none ∈ TB := tb_mem (i := 659) (by decide +kernel) (by decide +kernel)
theorem tb_597 : Cond.classLink R_F 60 XE ∈ TB := tb_mem (i := 660) (by decide +kernel) (by decide +kernel)
theorem tb_598 : Cond.instantiable XE 6 ∈ TB := tb_mem (i := 661) (by decide +kernel) (by decide +kernel)
theorem tb_662 : Cond.methodLink R_F 67 y_X_forget ∈ TB := tb_mem (i := 725) (by decide +kernel) (by decide +kernel)
theorem tb_663 : Cond.instanceMethod y_X_forget ∈ TB := tb_mem (i := 726) (by decide +kernel) (by decide +kernel)
theorem tb_664 : Cond.selects R_X y_X_forget y_X_forget ∈ TB := tb_mem (i := 727) (by decide +kernel) (by decide +kernel)
theorem tb_665 : Cond.code y_X_forget b_X_forget 1 none ∈ TB := tb_mem (i := 728) (by decide +kernel) (by decide +kernel)
theorem cw_F_53 {p : Program} {R : Room} {s : State} {m : MethodId} {args : Array Value} {meth : Method} {c : Code} {cc : ByteArray} {nL : Nat} {D : va_G} {sx : Nat → Nat} {tys : List (ClassId × FieldType)} {A : Nat → Prop} {ret : Option FieldType} (hC : CX p s m args meth c cc R_F TB nL D vwCl tys A (SPl sx) ret) (hR : ({ frames := 6, cells := 0, slots := 0, locals := 129 } : Room).frames + 1 ≤ R.frames ∧ 8 + (2 + 11) + ({ frames := 6, cells := 0, slots := 0, locals := 129 } : Room).locals ≤ R.locals := by exact ⟨Nat.le_of_ble_eq_true rfl, Nat.le_of_ble_eq_true rfl⟩) : CallW R s args R_F R_R 53 y_R_readFile b_R_readFile 2 (some .boolean) (Cond.code y_R_readFile b_R_readFile 2 (some .boolean) :: TB) ({ frames := 6, cells := 0, slots := 0, locals := 129 } : Room) 0 0 1 := cwV 1 hC.2.2.2.2.1 (gV tb_458 tb_459 tb_460 tb_3 tb_461) rfl rfl rfl (by decide +kernel) hR
theorem cw_F_57 {p : Program} {R : Room} {s : State} {m : MethodId} {args : Array Value} {meth : Method} {c : Code} {cc : ByteArray} {nL : Nat} {D : va_G} {sx : Nat → Nat} {tys : List (ClassId × FieldType)} {A : Nat → Prop} {ret : Option FieldType} (hC : CX p s m args meth c cc R_F TB nL D vwCl tys A (SPl sx) ret) (hR : ({ frames := 0, cells := 0, slots := 0, locals := 0 } : Room).frames + 1 ≤ R.frames ∧ 8 + (1 + 11) + ({ frames := 0, cells := 0, slots := 0, locals := 0 } : Room).locals ≤ R.locals := by exact ⟨Nat.le_of_ble_eq_true rfl, Nat.le_of_ble_eq_true rfl⟩) : CallW R s args R_F R_T 57 y_T_makeEmpty b_T_makeEmpty 1 none (Cond.code y_T_makeEmpty b_T_makeEmpty 1 none :: TB) ({ frames := 0, cells := 0, slots := 0, locals := 0 } : Room) 0 0 0 := cwV 0 hC.2.2.2.2.1 (gV tb_593 tb_594 tb_595 tb_2 tb_596) rfl rfl rfl (by decide +kernel) hR
theorem cw_F_67 {p : Program} {R : Room} {s : State} {m : MethodId} {args : Array Value} {meth : Method} {c : Code} {cc : ByteArray} {nL : Nat} {D : va_G} {sx : Nat → Nat} {tys : List (ClassId × FieldType)} {A : Nat → Prop} {ret : Option FieldType} (hC : CX p s m args meth c cc R_F TB nL D vwCl tys A (SPl sx) ret) (hR : ({ frames := 0, cells := 0, slots := 0, locals := 0 } : Room).frames + 1 ≤ R.frames ∧ 8 + (1 + 11) + ({ frames := 0, cells := 0, slots := 0, locals := 0 } : Room).locals ≤ R.locals := by exact ⟨Nat.le_of_ble_eq_true rfl, Nat.le_of_ble_eq_true rfl⟩) : CallW R s args R_F R_X 67 y_X_forget b_X_forget 1 none (Cond.code y_X_forget b_X_forget 1 none :: TB) ({ frames := 0, cells := 0, slots := 0, locals := 0 } : Room) 0 0 0 := cwV 0 hC.2.2.2.2.1 (gV tb_662 tb_663 tb_664 tb_6 tb_665) rfl rfl rfl (by decide +kernel) hR
