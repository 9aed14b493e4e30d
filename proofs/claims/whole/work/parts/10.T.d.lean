theorem d_T_makeReady_0 : decode b_T_makeReady 0 = .ok (.iconst 0, 1) := by decide +kernel
theorem d_T_makeReady_1 : decode b_T_makeReady 1 = .ok (.istore_n 3, 1) := by decide +kernel
theorem d_T_makeReady_2 : decode b_T_makeReady 2 = .ok (.iload_n 3, 1) := by decide +kernel
theorem d_T_makeReady_3 : decode b_T_makeReady 3 = .ok (.iconst 4, 1) := by decide +kernel
theorem d_T_makeReady_4 : decode b_T_makeReady 4 = .ok (.if_icmp .ge 31, 3) := by decide +kernel
theorem d_T_makeReady_7 : decode b_T_makeReady 7 = .ok (.aload_n 0, 1) := by decide +kernel
theorem d_T_makeReady_8 : decode b_T_makeReady 8 = .ok (.getfield 9, 3) := by decide +kernel
theorem d_T_makeReady_11 : decode b_T_makeReady 11 = .ok (.iload_n 1, 1) := by decide +kernel
theorem d_T_makeReady_12 : decode b_T_makeReady 12 = .ok (.iconst 4, 1) := by decide +kernel
theorem d_T_makeReady_13 : decode b_T_makeReady 13 = .ok (.imul, 1) := by decide +kernel
theorem d_T_makeReady_14 : decode b_T_makeReady 14 = .ok (.iload_n 3, 1) := by decide +kernel
theorem d_T_makeReady_15 : decode b_T_makeReady 15 = .ok (.iadd, 1) := by decide +kernel
theorem d_T_makeReady_16 : decode b_T_makeReady 16 = .ok (.iload_n 2, 1) := by decide +kernel
theorem d_T_makeReady_17 : decode b_T_makeReady 17 = .ok (.bipush 8, 2) := by decide +kernel
theorem d_T_makeReady_19 : decode b_T_makeReady 19 = .ok (.iconst 3, 1) := by decide +kernel
theorem d_T_makeReady_20 : decode b_T_makeReady 20 = .ok (.iload_n 3, 1) := by decide +kernel
theorem d_T_makeReady_21 : decode b_T_makeReady 21 = .ok (.isub, 1) := by decide +kernel
theorem d_T_makeReady_22 : decode b_T_makeReady 22 = .ok (.imul, 1) := by decide +kernel
theorem d_T_makeReady_23 : decode b_T_makeReady 23 = .ok (.iushr, 1) := by decide +kernel
theorem d_T_makeReady_24 : decode b_T_makeReady 24 = .ok (.sipush 255, 3) := by decide +kernel
theorem d_T_makeReady_27 : decode b_T_makeReady 27 = .ok (.iand, 1) := by decide +kernel
theorem d_T_makeReady_28 : decode b_T_makeReady 28 = .ok (.iastore, 1) := by decide +kernel
theorem d_T_makeReady_29 : decode b_T_makeReady 29 = .ok (.iinc 3 1, 3) := by decide +kernel
theorem d_T_makeReady_32 : decode b_T_makeReady 32 = .ok (.goto (-30), 3) := by decide +kernel
theorem d_T_makeReady_35 : decode b_T_makeReady 35 = .ok (.return_, 1) := by decide +kernel
theorem d_T_take_0 : decode b_T_take 0 = .ok (.iload_n 1, 1) := by decide +kernel
theorem d_T_take_1 : decode b_T_take 1 = .ok (.ifCond .lt 21, 3) := by decide +kernel
theorem d_T_take_4 : decode b_T_take 4 = .ok (.iload_n 1, 1) := by decide +kernel
theorem d_T_take_5 : decode b_T_take 5 = .ok (.bipush 20, 2) := by decide +kernel
theorem d_T_take_7 : decode b_T_take 7 = .ok (.if_icmp .gt 15, 3) := by decide +kernel
theorem d_T_take_10 : decode b_T_take 10 = .ok (.aload_n 0, 1) := by decide +kernel
theorem d_T_take_11 : decode b_T_take 11 = .ok (.getfield 18, 3) := by decide +kernel
theorem d_T_take_14 : decode b_T_take 14 = .ok (.iload_n 1, 1) := by decide +kernel
theorem d_T_take_15 : decode b_T_take 15 = .ok (.iadd, 1) := by decide +kernel
theorem d_T_take_16 : decode b_T_take 16 = .ok (.sipush 6000, 3) := by decide +kernel
theorem d_T_take_19 : decode b_T_take 19 = .ok (.if_icmp .le 5, 3) := by decide +kernel
theorem d_T_take_22 : decode b_T_take 22 = .ok (.iconst (-1), 1) := by decide +kernel
theorem d_T_take_23 : decode b_T_take 23 = .ok (.ireturn, 1) := by decide +kernel
theorem d_T_take_24 : decode b_T_take 24 = .ok (.iconst 0, 1) := by decide +kernel
theorem d_T_take_25 : decode b_T_take 25 = .ok (.istore_n 2, 1) := by decide +kernel
theorem d_T_take_26 : decode b_T_take 26 = .ok (.iload_n 2, 1) := by decide +kernel
theorem d_T_take_27 : decode b_T_take 27 = .ok (.iload_n 1, 1) := by decide +kernel
theorem d_T_take_28 : decode b_T_take 28 = .ok (.if_icmp .ge 26, 3) := by decide +kernel
theorem d_T_take_31 : decode b_T_take 31 = .ok (.aload_n 0, 1) := by decide +kernel
theorem d_T_take_32 : decode b_T_take 32 = .ok (.getfield 15, 3) := by decide +kernel
theorem d_T_take_35 : decode b_T_take 35 = .ok (.aload_n 0, 1) := by decide +kernel
theorem d_T_take_36 : decode b_T_take 36 = .ok (.getfield 18, 3) := by decide +kernel
theorem d_T_take_39 : decode b_T_take 39 = .ok (.iload_n 2, 1) := by decide +kernel
theorem d_T_take_40 : decode b_T_take 40 = .ok (.iadd, 1) := by decide +kernel
theorem d_T_take_41 : decode b_T_take 41 = .ok (.aload_n 0, 1) := by decide +kernel
theorem d_T_take_42 : decode b_T_take 42 = .ok (.getfield 9, 3) := by decide +kernel
theorem d_T_take_45 : decode b_T_take 45 = .ok (.iload_n 2, 1) := by decide +kernel
theorem d_T_take_46 : decode b_T_take 46 = .ok (.iaload, 1) := by decide +kernel
theorem d_T_take_47 : decode b_T_take 47 = .ok (.iastore, 1) := by decide +kernel
theorem d_T_take_48 : decode b_T_take 48 = .ok (.iinc 2 1, 3) := by decide +kernel
theorem d_T_take_51 : decode b_T_take 51 = .ok (.goto (-25), 3) := by decide +kernel
theorem d_T_take_54 : decode b_T_take 54 = .ok (.iconst 0, 1) := by decide +kernel
theorem d_T_take_55 : decode b_T_take 55 = .ok (.istore_n 2, 1) := by decide +kernel
theorem d_T_take_56 : decode b_T_take 56 = .ok (.iload_n 2, 1) := by decide +kernel
theorem d_T_take_57 : decode b_T_take 57 = .ok (.bipush 20, 2) := by decide +kernel
theorem d_T_take_59 : decode b_T_take 59 = .ok (.if_icmp .ge 16, 3) := by decide +kernel
theorem d_T_take_62 : decode b_T_take 62 = .ok (.aload_n 0, 1) := by decide +kernel
theorem d_T_take_63 : decode b_T_take 63 = .ok (.getfield 9, 3) := by decide +kernel
theorem d_T_take_66 : decode b_T_take 66 = .ok (.iload_n 2, 1) := by decide +kernel
theorem d_T_take_67 : decode b_T_take 67 = .ok (.iconst 0, 1) := by decide +kernel
theorem d_T_take_68 : decode b_T_take 68 = .ok (.iastore, 1) := by decide +kernel
theorem d_T_take_69 : decode b_T_take 69 = .ok (.iinc 2 1, 3) := by decide +kernel
theorem d_T_take_72 : decode b_T_take 72 = .ok (.goto (-16), 3) := by decide +kernel
theorem d_T_take_75 : decode b_T_take 75 = .ok (.aload_n 0, 1) := by decide +kernel
theorem d_T_take_76 : decode b_T_take 76 = .ok (.dup, 1) := by decide +kernel
theorem d_T_take_77 : decode b_T_take 77 = .ok (.getfield 18, 3) := by decide +kernel
theorem d_T_take_80 : decode b_T_take 80 = .ok (.iload_n 1, 1) := by decide +kernel
theorem d_T_take_81 : decode b_T_take 81 = .ok (.iadd, 1) := by decide +kernel
theorem d_T_take_82 : decode b_T_take 82 = .ok (.putfield 18, 3) := by decide +kernel
theorem d_T_take_85 : decode b_T_take 85 = .ok (.aload_n 0, 1) := by decide +kernel
theorem d_T_take_86 : decode b_T_take 86 = .ok (.getfield 18, 3) := by decide +kernel
theorem d_T_take_89 : decode b_T_take 89 = .ok (.ireturn, 1) := by decide +kernel
theorem d_T_makeEmpty_0 : decode b_T_makeEmpty 0 = .ok (.aload_n 0, 1) := by decide +kernel
theorem d_T_makeEmpty_1 : decode b_T_makeEmpty 1 = .ok (.iconst 0, 1) := by decide +kernel
theorem d_T_makeEmpty_2 : decode b_T_makeEmpty 2 = .ok (.putfield 18, 3) := by decide +kernel
theorem d_T_makeEmpty_5 : decode b_T_makeEmpty 5 = .ok (.return_, 1) := by decide +kernel
