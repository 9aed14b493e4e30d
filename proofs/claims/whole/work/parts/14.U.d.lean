theorem d_U_restart_0 : decode b_U_restart 0 = .ok (.aload_n 0, 1) := by decide +kernel
theorem d_U_restart_1 : decode b_U_restart 1 = .ok (.iconst 0, 1) := by decide +kernel
theorem d_U_restart_2 : decode b_U_restart 2 = .ok (.putfield 9, 3) := by decide +kernel
theorem d_U_restart_5 : decode b_U_restart 5 = .ok (.aload_n 0, 1) := by decide +kernel
theorem d_U_restart_6 : decode b_U_restart 6 = .ok (.iconst 0, 1) := by decide +kernel
theorem d_U_restart_7 : decode b_U_restart 7 = .ok (.putfield 21, 3) := by decide +kernel
theorem d_U_restart_10 : decode b_U_restart 10 = .ok (.aload_n 0, 1) := by decide +kernel
theorem d_U_restart_11 : decode b_U_restart 11 = .ok (.iconst (-1), 1) := by decide +kernel
theorem d_U_restart_12 : decode b_U_restart 12 = .ok (.putfield 24, 3) := by decide +kernel
theorem d_U_restart_15 : decode b_U_restart 15 = .ok (.return_, 1) := by decide +kernel
theorem d_U_peek_0 : decode b_U_peek 0 = .ok (.aload_n 0, 1) := by decide +kernel
theorem d_U_peek_1 : decode b_U_peek 1 = .ok (.getfield 9, 3) := by decide +kernel
theorem d_U_peek_4 : decode b_U_peek 4 = .ok (.ifCond .lt 17, 3) := by decide +kernel
theorem d_U_peek_7 : decode b_U_peek 7 = .ok (.aload_n 0, 1) := by decide +kernel
theorem d_U_peek_8 : decode b_U_peek 8 = .ok (.getfield 9, 3) := by decide +kernel
theorem d_U_peek_11 : decode b_U_peek 11 = .ok (.aload_n 0, 1) := by decide +kernel
theorem d_U_peek_12 : decode b_U_peek 12 = .ok (.getfield 27, 3) := by decide +kernel
theorem d_U_peek_15 : decode b_U_peek 15 = .ok (.getfield 31, 3) := by decide +kernel
theorem d_U_peek_18 : decode b_U_peek 18 = .ok (.if_icmp .lt 7, 3) := by decide +kernel
theorem d_U_peek_21 : decode b_U_peek 21 = .ok (.iconst (-1), 1) := by decide +kernel
theorem d_U_peek_22 : decode b_U_peek 22 = .ok (.goto 15, 3) := by decide +kernel
theorem d_U_peek_25 : decode b_U_peek 25 = .ok (.aload_n 0, 1) := by decide +kernel
theorem d_U_peek_26 : decode b_U_peek 26 = .ok (.getfield 27, 3) := by decide +kernel
theorem d_U_peek_29 : decode b_U_peek 29 = .ok (.getfield 36, 3) := by decide +kernel
theorem d_U_peek_32 : decode b_U_peek 32 = .ok (.aload_n 0, 1) := by decide +kernel
theorem d_U_peek_33 : decode b_U_peek 33 = .ok (.getfield 9, 3) := by decide +kernel
theorem d_U_peek_36 : decode b_U_peek 36 = .ok (.iaload, 1) := by decide +kernel
theorem d_U_peek_37 : decode b_U_peek 37 = .ok (.ireturn, 1) := by decide +kernel
theorem d_U_fail_0 : decode b_U_fail 0 = .ok (.aload_n 0, 1) := by decide +kernel
theorem d_U_fail_1 : decode b_U_fail 1 = .ok (.iload_n 1, 1) := by decide +kernel
theorem d_U_fail_2 : decode b_U_fail 2 = .ok (.putfield 21, 3) := by decide +kernel
theorem d_U_fail_5 : decode b_U_fail 5 = .ok (.aload_n 0, 1) := by decide +kernel
theorem d_U_fail_6 : decode b_U_fail 6 = .ok (.iload_n 2, 1) := by decide +kernel
theorem d_U_fail_7 : decode b_U_fail 7 = .ok (.putfield 24, 3) := by decide +kernel
theorem d_U_fail_10 : decode b_U_fail 10 = .ok (.iconst 0, 1) := by decide +kernel
theorem d_U_fail_11 : decode b_U_fail 11 = .ok (.ireturn, 1) := by decide +kernel
theorem d_U_expect_0 : decode b_U_expect 0 = .ok (.aload_n 0, 1) := by decide +kernel
theorem d_U_expect_1 : decode b_U_expect 1 = .ok (.invokevirtual 40, 3) := by decide +kernel
theorem d_U_expect_4 : decode b_U_expect 4 = .ok (.iload_n 1, 1) := by decide +kernel
theorem d_U_expect_5 : decode b_U_expect 5 = .ok (.if_icmp .eq 13, 3) := by decide +kernel
theorem d_U_expect_8 : decode b_U_expect 8 = .ok (.aload_n 0, 1) := by decide +kernel
theorem d_U_expect_9 : decode b_U_expect 9 = .ok (.iconst 1, 1) := by decide +kernel
theorem d_U_expect_10 : decode b_U_expect 10 = .ok (.aload_n 0, 1) := by decide +kernel
theorem d_U_expect_11 : decode b_U_expect 11 = .ok (.getfield 9, 3) := by decide +kernel
theorem d_U_expect_14 : decode b_U_expect 14 = .ok (.invokevirtual 44, 3) := by decide +kernel
theorem d_U_expect_17 : decode b_U_expect 17 = .ok (.ireturn, 1) := by decide +kernel
theorem d_U_expect_18 : decode b_U_expect 18 = .ok (.aload_n 0, 1) := by decide +kernel
theorem d_U_expect_19 : decode b_U_expect 19 = .ok (.dup, 1) := by decide +kernel
theorem d_U_expect_20 : decode b_U_expect 20 = .ok (.getfield 9, 3) := by decide +kernel
theorem d_U_expect_23 : decode b_U_expect 23 = .ok (.iconst 1, 1) := by decide +kernel
theorem d_U_expect_24 : decode b_U_expect 24 = .ok (.iadd, 1) := by decide +kernel
theorem d_U_expect_25 : decode b_U_expect 25 = .ok (.putfield 9, 3) := by decide +kernel
theorem d_U_expect_28 : decode b_U_expect 28 = .ok (.iconst 1, 1) := by decide +kernel
theorem d_U_expect_29 : decode b_U_expect 29 = .ok (.ireturn, 1) := by decide +kernel
theorem d_U_readNumber_0 : decode b_U_readNumber 0 = .ok (.aload_n 0, 1) := by decide +kernel
theorem d_U_readNumber_1 : decode b_U_readNumber 1 = .ok (.aload_n 0, 1) := by decide +kernel
theorem d_U_readNumber_2 : decode b_U_readNumber 2 = .ok (.getfield 9, 3) := by decide +kernel
theorem d_U_readNumber_5 : decode b_U_readNumber 5 = .ok (.putfield 15, 3) := by decide +kernel
theorem d_U_readNumber_8 : decode b_U_readNumber 8 = .ok (.aload_n 0, 1) := by decide +kernel
theorem d_U_readNumber_9 : decode b_U_readNumber 9 = .ok (.iconst 0, 1) := by decide +kernel
theorem d_U_readNumber_10 : decode b_U_readNumber 10 = .ok (.putfield 18, 3) := by decide +kernel
theorem d_U_readNumber_13 : decode b_U_readNumber 13 = .ok (.iconst 0, 1) := by decide +kernel
theorem d_U_readNumber_14 : decode b_U_readNumber 14 = .ok (.istore_n 1, 1) := by decide +kernel
theorem d_U_readNumber_15 : decode b_U_readNumber 15 = .ok (.iload_n 1, 1) := by decide +kernel
theorem d_U_readNumber_16 : decode b_U_readNumber 16 = .ok (.iconst 4, 1) := by decide +kernel
theorem d_U_readNumber_17 : decode b_U_readNumber 17 = .ok (.if_icmp .gt 110, 3) := by decide +kernel
theorem d_U_readNumber_20 : decode b_U_readNumber 20 = .ok (.aload_n 0, 1) := by decide +kernel
theorem d_U_readNumber_21 : decode b_U_readNumber 21 = .ok (.invokevirtual 40, 3) := by decide +kernel
theorem d_U_readNumber_24 : decode b_U_readNumber 24 = .ok (.istore_n 2, 1) := by decide +kernel
theorem d_U_readNumber_25 : decode b_U_readNumber 25 = .ok (.iload_n 2, 1) := by decide +kernel
theorem d_U_readNumber_26 : decode b_U_readNumber 26 = .ok (.bipush 48, 2) := by decide +kernel
theorem d_U_readNumber_28 : decode b_U_readNumber 28 = .ok (.if_icmp .lt 9, 3) := by decide +kernel
theorem d_U_readNumber_31 : decode b_U_readNumber 31 = .ok (.iload_n 2, 1) := by decide +kernel
theorem d_U_readNumber_32 : decode b_U_readNumber 32 = .ok (.bipush 57, 2) := by decide +kernel
theorem d_U_readNumber_34 : decode b_U_readNumber 34 = .ok (.if_icmp .le 25, 3) := by decide +kernel
theorem d_U_readNumber_37 : decode b_U_readNumber 37 = .ok (.iload_n 1, 1) := by decide +kernel
theorem d_U_readNumber_38 : decode b_U_readNumber 38 = .ok (.ifCond .gt 15, 3) := by decide +kernel
theorem d_U_readNumber_41 : decode b_U_readNumber 41 = .ok (.aload_n 0, 1) := by decide +kernel
theorem d_U_readNumber_42 : decode b_U_readNumber 42 = .ok (.iconst 1, 1) := by decide +kernel
theorem d_U_readNumber_43 : decode b_U_readNumber 43 = .ok (.aload_n 0, 1) := by decide +kernel
theorem d_U_readNumber_44 : decode b_U_readNumber 44 = .ok (.getfield 9, 3) := by decide +kernel
theorem d_U_readNumber_47 : decode b_U_readNumber 47 = .ok (.invokevirtual 44, 3) := by decide +kernel
theorem d_U_readNumber_50 : decode b_U_readNumber 50 = .ok (.ifCond .eq 7, 3) := by decide +kernel
theorem d_U_readNumber_53 : decode b_U_readNumber 53 = .ok (.iconst 1, 1) := by decide +kernel
theorem d_U_readNumber_54 : decode b_U_readNumber 54 = .ok (.goto 4, 3) := by decide +kernel
theorem d_U_readNumber_57 : decode b_U_readNumber 57 = .ok (.iconst 0, 1) := by decide +kernel
theorem d_U_readNumber_58 : decode b_U_readNumber 58 = .ok (.ireturn, 1) := by decide +kernel
theorem d_U_readNumber_59 : decode b_U_readNumber 59 = .ok (.iload_n 1, 1) := by decide +kernel
theorem d_U_readNumber_60 : decode b_U_readNumber 60 = .ok (.ifCond .le 14, 3) := by decide +kernel
theorem d_U_readNumber_63 : decode b_U_readNumber 63 = .ok (.aload_n 0, 1) := by decide +kernel
theorem d_U_readNumber_64 : decode b_U_readNumber 64 = .ok (.getfield 18, 3) := by decide +kernel
theorem d_U_readNumber_67 : decode b_U_readNumber 67 = .ok (.ifCond .ne 7, 3) := by decide +kernel
theorem d_U_readNumber_70 : decode b_U_readNumber 70 = .ok (.iconst 1, 1) := by decide +kernel
theorem d_U_readNumber_71 : decode b_U_readNumber 71 = .ok (.goto 4, 3) := by decide +kernel
theorem d_U_readNumber_74 : decode b_U_readNumber 74 = .ok (.iconst 0, 1) := by decide +kernel
theorem d_U_readNumber_75 : decode b_U_readNumber 75 = .ok (.istore_n 3, 1) := by decide +kernel
theorem d_U_readNumber_76 : decode b_U_readNumber 76 = .ok (.iload_n 3, 1) := by decide +kernel
theorem d_U_readNumber_77 : decode b_U_readNumber 77 = .ok (.ifCond .ne 8, 3) := by decide +kernel
theorem d_U_readNumber_80 : decode b_U_readNumber 80 = .ok (.iload_n 1, 1) := by decide +kernel
theorem d_U_readNumber_81 : decode b_U_readNumber 81 = .ok (.iconst 4, 1) := by decide +kernel
theorem d_U_readNumber_82 : decode b_U_readNumber 82 = .ok (.if_icmp .ne 13, 3) := by decide +kernel
theorem d_U_readNumber_85 : decode b_U_readNumber 85 = .ok (.aload_n 0, 1) := by decide +kernel
theorem d_U_readNumber_86 : decode b_U_readNumber 86 = .ok (.iconst 1, 1) := by decide +kernel
theorem d_U_readNumber_87 : decode b_U_readNumber 87 = .ok (.aload_n 0, 1) := by decide +kernel
theorem d_U_readNumber_88 : decode b_U_readNumber 88 = .ok (.getfield 9, 3) := by decide +kernel
theorem d_U_readNumber_91 : decode b_U_readNumber 91 = .ok (.invokevirtual 44, 3) := by decide +kernel
theorem d_U_readNumber_94 : decode b_U_readNumber 94 = .ok (.ireturn, 1) := by decide +kernel
theorem d_U_readNumber_95 : decode b_U_readNumber 95 = .ok (.aload_n 0, 1) := by decide +kernel
theorem d_U_readNumber_96 : decode b_U_readNumber 96 = .ok (.bipush 10, 2) := by decide +kernel
theorem d_U_readNumber_98 : decode b_U_readNumber 98 = .ok (.aload_n 0, 1) := by decide +kernel
theorem d_U_readNumber_99 : decode b_U_readNumber 99 = .ok (.getfield 18, 3) := by decide +kernel
theorem d_U_readNumber_102 : decode b_U_readNumber 102 = .ok (.imul, 1) := by decide +kernel
theorem d_U_readNumber_103 : decode b_U_readNumber 103 = .ok (.iload_n 2, 1) := by decide +kernel
theorem d_U_readNumber_104 : decode b_U_readNumber 104 = .ok (.iadd, 1) := by decide +kernel
theorem d_U_readNumber_105 : decode b_U_readNumber 105 = .ok (.bipush 48, 2) := by decide +kernel
theorem d_U_readNumber_107 : decode b_U_readNumber 107 = .ok (.isub, 1) := by decide +kernel
theorem d_U_readNumber_108 : decode b_U_readNumber 108 = .ok (.putfield 18, 3) := by decide +kernel
theorem d_U_readNumber_111 : decode b_U_readNumber 111 = .ok (.aload_n 0, 1) := by decide +kernel
theorem d_U_readNumber_112 : decode b_U_readNumber 112 = .ok (.dup, 1) := by decide +kernel
theorem d_U_readNumber_113 : decode b_U_readNumber 113 = .ok (.getfield 9, 3) := by decide +kernel
theorem d_U_readNumber_116 : decode b_U_readNumber 116 = .ok (.iconst 1, 1) := by decide +kernel
theorem d_U_readNumber_117 : decode b_U_readNumber 117 = .ok (.iadd, 1) := by decide +kernel
theorem d_U_readNumber_118 : decode b_U_readNumber 118 = .ok (.putfield 9, 3) := by decide +kernel
theorem d_U_readNumber_121 : decode b_U_readNumber 121 = .ok (.iinc 1 1, 3) := by decide +kernel
theorem d_U_readNumber_124 : decode b_U_readNumber 124 = .ok (.goto (-109), 3) := by decide +kernel
theorem d_U_readNumber_127 : decode b_U_readNumber 127 = .ok (.iconst 1, 1) := by decide +kernel
theorem d_U_readNumber_128 : decode b_U_readNumber 128 = .ok (.ireturn, 1) := by decide +kernel
theorem d_U_readSevens_0 : decode b_U_readSevens 0 = .ok (.aload_n 0, 1) := by decide +kernel
theorem d_U_readSevens_1 : decode b_U_readSevens 1 = .ok (.aload_n 0, 1) := by decide +kernel
theorem d_U_readSevens_2 : decode b_U_readSevens 2 = .ok (.getfield 9, 3) := by decide +kernel
theorem d_U_readSevens_5 : decode b_U_readSevens 5 = .ok (.putfield 15, 3) := by decide +kernel
theorem d_U_readSevens_8 : decode b_U_readSevens 8 = .ok (.aload_n 0, 1) := by decide +kernel
theorem d_U_readSevens_9 : decode b_U_readSevens 9 = .ok (.iconst 0, 1) := by decide +kernel
theorem d_U_readSevens_10 : decode b_U_readSevens 10 = .ok (.putfield 18, 3) := by decide +kernel
theorem d_U_readSevens_13 : decode b_U_readSevens 13 = .ok (.iconst 0, 1) := by decide +kernel
theorem d_U_readSevens_14 : decode b_U_readSevens 14 = .ok (.istore_n 1, 1) := by decide +kernel
theorem d_U_readSevens_15 : decode b_U_readSevens 15 = .ok (.iload_n 1, 1) := by decide +kernel
theorem d_U_readSevens_16 : decode b_U_readSevens 16 = .ok (.iconst 3, 1) := by decide +kernel
theorem d_U_readSevens_17 : decode b_U_readSevens 17 = .ok (.if_icmp .ge 66, 3) := by decide +kernel
theorem d_U_readSevens_20 : decode b_U_readSevens 20 = .ok (.aload_n 0, 1) := by decide +kernel
theorem d_U_readSevens_21 : decode b_U_readSevens 21 = .ok (.invokevirtual 40, 3) := by decide +kernel
theorem d_U_readSevens_24 : decode b_U_readSevens 24 = .ok (.istore_n 2, 1) := by decide +kernel
theorem d_U_readSevens_25 : decode b_U_readSevens 25 = .ok (.iload_n 2, 1) := by decide +kernel
theorem d_U_readSevens_26 : decode b_U_readSevens 26 = .ok (.iconst (-1), 1) := by decide +kernel
theorem d_U_readSevens_27 : decode b_U_readSevens 27 = .ok (.if_icmp .ne 13, 3) := by decide +kernel
theorem d_U_readSevens_30 : decode b_U_readSevens 30 = .ok (.aload_n 0, 1) := by decide +kernel
theorem d_U_readSevens_31 : decode b_U_readSevens 31 = .ok (.iconst 1, 1) := by decide +kernel
theorem d_U_readSevens_32 : decode b_U_readSevens 32 = .ok (.aload_n 0, 1) := by decide +kernel
theorem d_U_readSevens_33 : decode b_U_readSevens 33 = .ok (.getfield 9, 3) := by decide +kernel
theorem d_U_readSevens_36 : decode b_U_readSevens 36 = .ok (.invokevirtual 44, 3) := by decide +kernel
theorem d_U_readSevens_39 : decode b_U_readSevens 39 = .ok (.ireturn, 1) := by decide +kernel
theorem d_U_readSevens_40 : decode b_U_readSevens 40 = .ok (.aload_n 0, 1) := by decide +kernel
theorem d_U_readSevens_41 : decode b_U_readSevens 41 = .ok (.dup, 1) := by decide +kernel
theorem d_U_readSevens_42 : decode b_U_readSevens 42 = .ok (.getfield 9, 3) := by decide +kernel
theorem d_U_readSevens_45 : decode b_U_readSevens 45 = .ok (.iconst 1, 1) := by decide +kernel
theorem d_U_readSevens_46 : decode b_U_readSevens 46 = .ok (.iadd, 1) := by decide +kernel
theorem d_U_readSevens_47 : decode b_U_readSevens 47 = .ok (.putfield 9, 3) := by decide +kernel
theorem d_U_readSevens_50 : decode b_U_readSevens 50 = .ok (.aload_n 0, 1) := by decide +kernel
theorem d_U_readSevens_51 : decode b_U_readSevens 51 = .ok (.dup, 1) := by decide +kernel
theorem d_U_readSevens_52 : decode b_U_readSevens 52 = .ok (.getfield 18, 3) := by decide +kernel
theorem d_U_readSevens_55 : decode b_U_readSevens 55 = .ok (.iload_n 2, 1) := by decide +kernel
theorem d_U_readSevens_56 : decode b_U_readSevens 56 = .ok (.bipush 127, 2) := by decide +kernel
theorem d_U_readSevens_58 : decode b_U_readSevens 58 = .ok (.iand, 1) := by decide +kernel
theorem d_U_readSevens_59 : decode b_U_readSevens 59 = .ok (.bipush 7, 2) := by decide +kernel
theorem d_U_readSevens_61 : decode b_U_readSevens 61 = .ok (.iload_n 1, 1) := by decide +kernel
theorem d_U_readSevens_62 : decode b_U_readSevens 62 = .ok (.imul, 1) := by decide +kernel
theorem d_U_readSevens_63 : decode b_U_readSevens 63 = .ok (.ishl, 1) := by decide +kernel
theorem d_U_readSevens_64 : decode b_U_readSevens 64 = .ok (.ior, 1) := by decide +kernel
theorem d_U_readSevens_65 : decode b_U_readSevens 65 = .ok (.putfield 18, 3) := by decide +kernel
theorem d_U_readSevens_68 : decode b_U_readSevens 68 = .ok (.iload_n 2, 1) := by decide +kernel
theorem d_U_readSevens_69 : decode b_U_readSevens 69 = .ok (.sipush 128, 3) := by decide +kernel
theorem d_U_readSevens_72 : decode b_U_readSevens 72 = .ok (.if_icmp .ge 5, 3) := by decide +kernel
theorem d_U_readSevens_75 : decode b_U_readSevens 75 = .ok (.iconst 1, 1) := by decide +kernel
theorem d_U_readSevens_76 : decode b_U_readSevens 76 = .ok (.ireturn, 1) := by decide +kernel
theorem d_U_readSevens_77 : decode b_U_readSevens 77 = .ok (.iinc 1 1, 3) := by decide +kernel
theorem d_U_readSevens_80 : decode b_U_readSevens 80 = .ok (.goto (-65), 3) := by decide +kernel
theorem d_U_readSevens_83 : decode b_U_readSevens 83 = .ok (.aload_n 0, 1) := by decide +kernel
theorem d_U_readSevens_84 : decode b_U_readSevens 84 = .ok (.iconst 1, 1) := by decide +kernel
theorem d_U_readSevens_85 : decode b_U_readSevens 85 = .ok (.aload_n 0, 1) := by decide +kernel
theorem d_U_readSevens_86 : decode b_U_readSevens 86 = .ok (.getfield 9, 3) := by decide +kernel
theorem d_U_readSevens_89 : decode b_U_readSevens 89 = .ok (.invokevirtual 44, 3) := by decide +kernel
theorem d_U_readSevens_92 : decode b_U_readSevens 92 = .ok (.ireturn, 1) := by decide +kernel
