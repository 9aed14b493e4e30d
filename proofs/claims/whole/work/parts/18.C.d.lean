theorem d_C_forget_0 : decode b_C_forget 0 = .ok (.iconst 0, 1) := by decide +kernel
theorem d_C_forget_1 : decode b_C_forget 1 = .ok (.istore_n 1, 1) := by decide +kernel
theorem d_C_forget_2 : decode b_C_forget 2 = .ok (.iload_n 1, 1) := by decide +kernel
theorem d_C_forget_3 : decode b_C_forget 3 = .ok (.sipush 400, 3) := by decide +kernel
theorem d_C_forget_6 : decode b_C_forget 6 = .ok (.if_icmp .gt 16, 3) := by decide +kernel
theorem d_C_forget_9 : decode b_C_forget 9 = .ok (.aload_n 0, 1) := by decide +kernel
theorem d_C_forget_10 : decode b_C_forget 10 = .ok (.getfield 55, 3) := by decide +kernel
theorem d_C_forget_13 : decode b_C_forget 13 = .ok (.iload_n 1, 1) := by decide +kernel
theorem d_C_forget_14 : decode b_C_forget 14 = .ok (.iconst 0, 1) := by decide +kernel
theorem d_C_forget_15 : decode b_C_forget 15 = .ok (.bastore, 1) := by decide +kernel
theorem d_C_forget_16 : decode b_C_forget 16 = .ok (.iinc 1 1, 3) := by decide +kernel
theorem d_C_forget_19 : decode b_C_forget 19 = .ok (.goto (-17), 3) := by decide +kernel
theorem d_C_forget_22 : decode b_C_forget 22 = .ok (.iconst 0, 1) := by decide +kernel
theorem d_C_forget_23 : decode b_C_forget 23 = .ok (.istore_n 1, 1) := by decide +kernel
theorem d_C_forget_24 : decode b_C_forget 24 = .ok (.iload_n 1, 1) := by decide +kernel
theorem d_C_forget_25 : decode b_C_forget 25 = .ok (.bipush 24, 2) := by decide +kernel
theorem d_C_forget_27 : decode b_C_forget 27 = .ok (.if_icmp .ge 16, 3) := by decide +kernel
theorem d_C_forget_30 : decode b_C_forget 30 = .ok (.aload_n 0, 1) := by decide +kernel
theorem d_C_forget_31 : decode b_C_forget 31 = .ok (.getfield 59, 3) := by decide +kernel
theorem d_C_forget_34 : decode b_C_forget 34 = .ok (.iload_n 1, 1) := by decide +kernel
theorem d_C_forget_35 : decode b_C_forget 35 = .ok (.iconst 0, 1) := by decide +kernel
theorem d_C_forget_36 : decode b_C_forget 36 = .ok (.iastore, 1) := by decide +kernel
theorem d_C_forget_37 : decode b_C_forget 37 = .ok (.iinc 1 1, 3) := by decide +kernel
theorem d_C_forget_40 : decode b_C_forget 40 = .ok (.goto (-16), 3) := by decide +kernel
theorem d_C_forget_43 : decode b_C_forget 43 = .ok (.aload_n 0, 1) := by decide +kernel
theorem d_C_forget_44 : decode b_C_forget 44 = .ok (.iconst 0, 1) := by decide +kernel
theorem d_C_forget_45 : decode b_C_forget 45 = .ok (.putfield 27, 3) := by decide +kernel
theorem d_C_forget_48 : decode b_C_forget 48 = .ok (.return_, 1) := by decide +kernel
theorem d_C_isWithinBounds_0 : decode b_C_isWithinBounds 0 = .ok (.aload_n 0, 1) := by decide +kernel
theorem d_C_isWithinBounds_1 : decode b_C_isWithinBounds 1 = .ok (.getfield 15, 3) := by decide +kernel
theorem d_C_isWithinBounds_4 : decode b_C_isWithinBounds 4 = .ok (.aload_n 0, 1) := by decide +kernel
theorem d_C_isWithinBounds_5 : decode b_C_isWithinBounds 5 = .ok (.getfield 18, 3) := by decide +kernel
theorem d_C_isWithinBounds_8 : decode b_C_isWithinBounds 8 = .ok (.iadd, 1) := by decide +kernel
theorem d_C_isWithinBounds_9 : decode b_C_isWithinBounds 9 = .ok (.aload_n 0, 1) := by decide +kernel
theorem d_C_isWithinBounds_10 : decode b_C_isWithinBounds 10 = .ok (.getfield 24, 3) := by decide +kernel
theorem d_C_isWithinBounds_13 : decode b_C_isWithinBounds 13 = .ok (.iadd, 1) := by decide +kernel
theorem d_C_isWithinBounds_14 : decode b_C_isWithinBounds 14 = .ok (.istore_n 2, 1) := by decide +kernel
theorem d_C_isWithinBounds_15 : decode b_C_isWithinBounds 15 = .ok (.aload_n 0, 1) := by decide +kernel
theorem d_C_isWithinBounds_16 : decode b_C_isWithinBounds 16 = .ok (.getfield 9, 3) := by decide +kernel
theorem d_C_isWithinBounds_19 : decode b_C_isWithinBounds 19 = .ok (.sipush 400, 3) := by decide +kernel
theorem d_C_isWithinBounds_22 : decode b_C_isWithinBounds 22 = .ok (.if_icmp .gt 67, 3) := by decide +kernel
theorem d_C_isWithinBounds_25 : decode b_C_isWithinBounds 25 = .ok (.aload_n 0, 1) := by decide +kernel
theorem d_C_isWithinBounds_26 : decode b_C_isWithinBounds 26 = .ok (.getfield 15, 3) := by decide +kernel
theorem d_C_isWithinBounds_29 : decode b_C_isWithinBounds 29 = .ok (.bipush 6, 2) := by decide +kernel
theorem d_C_isWithinBounds_31 : decode b_C_isWithinBounds 31 = .ok (.if_icmp .gt 58, 3) := by decide +kernel
theorem d_C_isWithinBounds_34 : decode b_C_isWithinBounds 34 = .ok (.aload_n 0, 1) := by decide +kernel
theorem d_C_isWithinBounds_35 : decode b_C_isWithinBounds 35 = .ok (.getfield 18, 3) := by decide +kernel
theorem d_C_isWithinBounds_38 : decode b_C_isWithinBounds 38 = .ok (.bipush 7, 2) := by decide +kernel
theorem d_C_isWithinBounds_40 : decode b_C_isWithinBounds 40 = .ok (.if_icmp .gt 49, 3) := by decide +kernel
theorem d_C_isWithinBounds_43 : decode b_C_isWithinBounds 43 = .ok (.aload_n 0, 1) := by decide +kernel
theorem d_C_isWithinBounds_44 : decode b_C_isWithinBounds 44 = .ok (.getfield 21, 3) := by decide +kernel
theorem d_C_isWithinBounds_47 : decode b_C_isWithinBounds 47 = .ok (.bipush 8, 2) := by decide +kernel
theorem d_C_isWithinBounds_49 : decode b_C_isWithinBounds 49 = .ok (.if_icmp .gt 40, 3) := by decide +kernel
theorem d_C_isWithinBounds_52 : decode b_C_isWithinBounds 52 = .ok (.aload_n 0, 1) := by decide +kernel
theorem d_C_isWithinBounds_53 : decode b_C_isWithinBounds 53 = .ok (.getfield 24, 3) := by decide +kernel
theorem d_C_isWithinBounds_56 : decode b_C_isWithinBounds 56 = .ok (.sipush 300, 3) := by decide +kernel
theorem d_C_isWithinBounds_59 : decode b_C_isWithinBounds 59 = .ok (.if_icmp .gt 30, 3) := by decide +kernel
theorem d_C_isWithinBounds_62 : decode b_C_isWithinBounds 62 = .ok (.iload_n 1, 1) := by decide +kernel
theorem d_C_isWithinBounds_63 : decode b_C_isWithinBounds 63 = .ok (.ifCond .eq 14, 3) := by decide +kernel
theorem d_C_isWithinBounds_66 : decode b_C_isWithinBounds 66 = .ok (.aload_n 0, 1) := by decide +kernel
theorem d_C_isWithinBounds_67 : decode b_C_isWithinBounds 67 = .ok (.getfield 9, 3) := by decide +kernel
theorem d_C_isWithinBounds_70 : decode b_C_isWithinBounds 70 = .ok (.iload_n 2, 1) := by decide +kernel
theorem d_C_isWithinBounds_71 : decode b_C_isWithinBounds 71 = .ok (.if_icmp .ne 18, 3) := by decide +kernel
theorem d_C_isWithinBounds_74 : decode b_C_isWithinBounds 74 = .ok (.goto 11, 3) := by decide +kernel
theorem d_C_isWithinBounds_77 : decode b_C_isWithinBounds 77 = .ok (.aload_n 0, 1) := by decide +kernel
theorem d_C_isWithinBounds_78 : decode b_C_isWithinBounds 78 = .ok (.getfield 9, 3) := by decide +kernel
theorem d_C_isWithinBounds_81 : decode b_C_isWithinBounds 81 = .ok (.iload_n 2, 1) := by decide +kernel
theorem d_C_isWithinBounds_82 : decode b_C_isWithinBounds 82 = .ok (.if_icmp .lt 7, 3) := by decide +kernel
theorem d_C_isWithinBounds_85 : decode b_C_isWithinBounds 85 = .ok (.iconst 1, 1) := by decide +kernel
theorem d_C_isWithinBounds_86 : decode b_C_isWithinBounds 86 = .ok (.goto 4, 3) := by decide +kernel
theorem d_C_isWithinBounds_89 : decode b_C_isWithinBounds 89 = .ok (.iconst 0, 1) := by decide +kernel
theorem d_C_isWithinBounds_90 : decode b_C_isWithinBounds 90 = .ok (.ireturn, 1) := by decide +kernel
theorem d_C_highestLiteral_0 : decode b_C_highestLiteral 0 = .ok (.iconst 2, 1) := by decide +kernel
theorem d_C_highestLiteral_1 : decode b_C_highestLiteral 1 = .ok (.aload_n 0, 1) := by decide +kernel
theorem d_C_highestLiteral_2 : decode b_C_highestLiteral 2 = .ok (.getfield 9, 3) := by decide +kernel
theorem d_C_highestLiteral_5 : decode b_C_highestLiteral 5 = .ok (.imul, 1) := by decide +kernel
theorem d_C_highestLiteral_6 : decode b_C_highestLiteral 6 = .ok (.iconst 1, 1) := by decide +kernel
theorem d_C_highestLiteral_7 : decode b_C_highestLiteral 7 = .ok (.iadd, 1) := by decide +kernel
theorem d_C_highestLiteral_8 : decode b_C_highestLiteral 8 = .ok (.ireturn, 1) := by decide +kernel
theorem d_C_countOf_0 : decode b_C_countOf 0 = .ok (.iload_n 1, 1) := by decide +kernel
theorem d_C_countOf_1 : decode b_C_countOf 1 = .ok (.tableswitch 42 0 2 #[27, 32, 37], 27) := by decide +kernel
theorem d_C_countOf_28 : decode b_C_countOf 28 = .ok (.aload_n 0, 1) := by decide +kernel
theorem d_C_countOf_29 : decode b_C_countOf 29 = .ok (.getfield 15, 3) := by decide +kernel
theorem d_C_countOf_32 : decode b_C_countOf 32 = .ok (.ireturn, 1) := by decide +kernel
theorem d_C_countOf_33 : decode b_C_countOf 33 = .ok (.aload_n 0, 1) := by decide +kernel
theorem d_C_countOf_34 : decode b_C_countOf 34 = .ok (.getfield 18, 3) := by decide +kernel
theorem d_C_countOf_37 : decode b_C_countOf 37 = .ok (.ireturn, 1) := by decide +kernel
theorem d_C_countOf_38 : decode b_C_countOf 38 = .ok (.aload_n 0, 1) := by decide +kernel
theorem d_C_countOf_39 : decode b_C_countOf 39 = .ok (.getfield 21, 3) := by decide +kernel
theorem d_C_countOf_42 : decode b_C_countOf 42 = .ok (.ireturn, 1) := by decide +kernel
theorem d_C_countOf_43 : decode b_C_countOf 43 = .ok (.iconst 0, 1) := by decide +kernel
theorem d_C_countOf_44 : decode b_C_countOf 44 = .ok (.ireturn, 1) := by decide +kernel
theorem d_C_isKnown_0 : decode b_C_isKnown 0 = .ok (.iload_n 1, 1) := by decide +kernel
theorem d_C_isKnown_1 : decode b_C_isKnown 1 = .ok (.iconst 2, 1) := by decide +kernel
theorem d_C_isKnown_2 : decode b_C_isKnown 2 = .ok (.if_icmp .lt 14, 3) := by decide +kernel
theorem d_C_isKnown_5 : decode b_C_isKnown 5 = .ok (.aload_n 0, 1) := by decide +kernel
theorem d_C_isKnown_6 : decode b_C_isKnown 6 = .ok (.getfield 55, 3) := by decide +kernel
theorem d_C_isKnown_9 : decode b_C_isKnown 9 = .ok (.iload_n 1, 1) := by decide +kernel
theorem d_C_isKnown_10 : decode b_C_isKnown 10 = .ok (.iconst 1, 1) := by decide +kernel
theorem d_C_isKnown_11 : decode b_C_isKnown 11 = .ok (.ishr, 1) := by decide +kernel
theorem d_C_isKnown_12 : decode b_C_isKnown 12 = .ok (.baload, 1) := by decide +kernel
theorem d_C_isKnown_13 : decode b_C_isKnown 13 = .ok (.ifCond .eq 7, 3) := by decide +kernel
theorem d_C_isKnown_16 : decode b_C_isKnown 16 = .ok (.iconst 1, 1) := by decide +kernel
theorem d_C_isKnown_17 : decode b_C_isKnown 17 = .ok (.goto 4, 3) := by decide +kernel
theorem d_C_isKnown_20 : decode b_C_isKnown 20 = .ok (.iconst 0, 1) := by decide +kernel
theorem d_C_isKnown_21 : decode b_C_isKnown 21 = .ok (.ireturn, 1) := by decide +kernel
theorem d_C_bitOf_0 : decode b_C_bitOf 0 = .ok (.aload_n 0, 1) := by decide +kernel
theorem d_C_bitOf_1 : decode b_C_bitOf 1 = .ok (.getfield 65, 3) := by decide +kernel
theorem d_C_bitOf_4 : decode b_C_bitOf 4 = .ok (.iload_n 1, 1) := by decide +kernel
theorem d_C_bitOf_5 : decode b_C_bitOf 5 = .ok (.iconst 1, 1) := by decide +kernel
theorem d_C_bitOf_6 : decode b_C_bitOf 6 = .ok (.ishr, 1) := by decide +kernel
theorem d_C_bitOf_7 : decode b_C_bitOf 7 = .ok (.iaload, 1) := by decide +kernel
theorem d_C_bitOf_8 : decode b_C_bitOf 8 = .ok (.iload_n 1, 1) := by decide +kernel
theorem d_C_bitOf_9 : decode b_C_bitOf 9 = .ok (.iconst 1, 1) := by decide +kernel
theorem d_C_bitOf_10 : decode b_C_bitOf 10 = .ok (.iand, 1) := by decide +kernel
theorem d_C_bitOf_11 : decode b_C_bitOf 11 = .ok (.ixor, 1) := by decide +kernel
theorem d_C_bitOf_12 : decode b_C_bitOf 12 = .ok (.ireturn, 1) := by decide +kernel
theorem d_C_settle_0 : decode b_C_settle 0 = .ok (.iconst 0, 1) := by decide +kernel
theorem d_C_settle_1 : decode b_C_settle 1 = .ok (.istore_n 2, 1) := by decide +kernel
theorem d_C_settle_2 : decode b_C_settle 2 = .ok (.iload_n 2, 1) := by decide +kernel
theorem d_C_settle_3 : decode b_C_settle 3 = .ok (.aload_n 0, 1) := by decide +kernel
theorem d_C_settle_4 : decode b_C_settle 4 = .ok (.getfield 15, 3) := by decide +kernel
theorem d_C_settle_7 : decode b_C_settle 7 = .ok (.if_icmp .ge 25, 3) := by decide +kernel
theorem d_C_settle_10 : decode b_C_settle 10 = .ok (.aload_n 0, 1) := by decide +kernel
theorem d_C_settle_11 : decode b_C_settle 11 = .ok (.getfield 65, 3) := by decide +kernel
theorem d_C_settle_14 : decode b_C_settle 14 = .ok (.aload_n 0, 1) := by decide +kernel
theorem d_C_settle_15 : decode b_C_settle 15 = .ok (.getfield 30, 3) := by decide +kernel
theorem d_C_settle_18 : decode b_C_settle 18 = .ok (.iload_n 2, 1) := by decide +kernel
theorem d_C_settle_19 : decode b_C_settle 19 = .ok (.iaload, 1) := by decide +kernel
theorem d_C_settle_20 : decode b_C_settle 20 = .ok (.iload_n 1, 1) := by decide +kernel
theorem d_C_settle_21 : decode b_C_settle 21 = .ok (.iload_n 2, 1) := by decide +kernel
theorem d_C_settle_22 : decode b_C_settle 22 = .ok (.ishr, 1) := by decide +kernel
theorem d_C_settle_23 : decode b_C_settle 23 = .ok (.iconst 1, 1) := by decide +kernel
theorem d_C_settle_24 : decode b_C_settle 24 = .ok (.iand, 1) := by decide +kernel
theorem d_C_settle_25 : decode b_C_settle 25 = .ok (.iastore, 1) := by decide +kernel
theorem d_C_settle_26 : decode b_C_settle 26 = .ok (.iinc 2 1, 3) := by decide +kernel
theorem d_C_settle_29 : decode b_C_settle 29 = .ok (.goto (-27), 3) := by decide +kernel
theorem d_C_settle_32 : decode b_C_settle 32 = .ok (.iconst 0, 1) := by decide +kernel
theorem d_C_settle_33 : decode b_C_settle 33 = .ok (.istore_n 2, 1) := by decide +kernel
theorem d_C_settle_34 : decode b_C_settle 34 = .ok (.iload_n 2, 1) := by decide +kernel
theorem d_C_settle_35 : decode b_C_settle 35 = .ok (.aload_n 0, 1) := by decide +kernel
theorem d_C_settle_36 : decode b_C_settle 36 = .ok (.getfield 18, 3) := by decide +kernel
theorem d_C_settle_39 : decode b_C_settle 39 = .ok (.if_icmp .ge 28, 3) := by decide +kernel
theorem d_C_settle_42 : decode b_C_settle 42 = .ok (.aload_n 0, 1) := by decide +kernel
theorem d_C_settle_43 : decode b_C_settle 43 = .ok (.getfield 65, 3) := by decide +kernel
theorem d_C_settle_46 : decode b_C_settle 46 = .ok (.aload_n 0, 1) := by decide +kernel
theorem d_C_settle_47 : decode b_C_settle 47 = .ok (.getfield 34, 3) := by decide +kernel
theorem d_C_settle_50 : decode b_C_settle 50 = .ok (.iload_n 2, 1) := by decide +kernel
theorem d_C_settle_51 : decode b_C_settle 51 = .ok (.iaload, 1) := by decide +kernel
theorem d_C_settle_52 : decode b_C_settle 52 = .ok (.aload_n 0, 1) := by decide +kernel
theorem d_C_settle_53 : decode b_C_settle 53 = .ok (.getfield 27, 3) := by decide +kernel
theorem d_C_settle_56 : decode b_C_settle 56 = .ok (.iload_n 2, 1) := by decide +kernel
theorem d_C_settle_57 : decode b_C_settle 57 = .ok (.ishr, 1) := by decide +kernel
theorem d_C_settle_58 : decode b_C_settle 58 = .ok (.iconst 1, 1) := by decide +kernel
theorem d_C_settle_59 : decode b_C_settle 59 = .ok (.iand, 1) := by decide +kernel
theorem d_C_settle_60 : decode b_C_settle 60 = .ok (.iastore, 1) := by decide +kernel
theorem d_C_settle_61 : decode b_C_settle 61 = .ok (.iinc 2 1, 3) := by decide +kernel
theorem d_C_settle_64 : decode b_C_settle 64 = .ok (.goto (-30), 3) := by decide +kernel
theorem d_C_settle_67 : decode b_C_settle 67 = .ok (.iconst 0, 1) := by decide +kernel
theorem d_C_settle_68 : decode b_C_settle 68 = .ok (.istore_n 2, 1) := by decide +kernel
theorem d_C_settle_69 : decode b_C_settle 69 = .ok (.iload_n 2, 1) := by decide +kernel
theorem d_C_settle_70 : decode b_C_settle 70 = .ok (.aload_n 0, 1) := by decide +kernel
theorem d_C_settle_71 : decode b_C_settle 71 = .ok (.getfield 24, 3) := by decide +kernel
theorem d_C_settle_74 : decode b_C_settle 74 = .ok (.if_icmp .ge 48, 3) := by decide +kernel
theorem d_C_settle_77 : decode b_C_settle 77 = .ok (.aload_n 0, 1) := by decide +kernel
theorem d_C_settle_78 : decode b_C_settle 78 = .ok (.getfield 52, 3) := by decide +kernel
theorem d_C_settle_81 : decode b_C_settle 81 = .ok (.iload_n 2, 1) := by decide +kernel
theorem d_C_settle_82 : decode b_C_settle 82 = .ok (.iaload, 1) := by decide +kernel
theorem d_C_settle_83 : decode b_C_settle 83 = .ok (.istore_n 3, 1) := by decide +kernel
theorem d_C_settle_84 : decode b_C_settle 84 = .ok (.aload_n 0, 1) := by decide +kernel
theorem d_C_settle_85 : decode b_C_settle 85 = .ok (.getfield 65, 3) := by decide +kernel
theorem d_C_settle_88 : decode b_C_settle 88 = .ok (.aload_n 0, 1) := by decide +kernel
theorem d_C_settle_89 : decode b_C_settle 89 = .ok (.getfield 43, 3) := by decide +kernel
theorem d_C_settle_92 : decode b_C_settle 92 = .ok (.iload_n 3, 1) := by decide +kernel
theorem d_C_settle_93 : decode b_C_settle 93 = .ok (.iaload, 1) := by decide +kernel
theorem d_C_settle_94 : decode b_C_settle 94 = .ok (.aload_n 0, 1) := by decide +kernel
theorem d_C_settle_95 : decode b_C_settle 95 = .ok (.aload_n 0, 1) := by decide +kernel
theorem d_C_settle_96 : decode b_C_settle 96 = .ok (.getfield 46, 3) := by decide +kernel
theorem d_C_settle_99 : decode b_C_settle 99 = .ok (.iload_n 3, 1) := by decide +kernel
theorem d_C_settle_100 : decode b_C_settle 100 = .ok (.iaload, 1) := by decide +kernel
theorem d_C_settle_101 : decode b_C_settle 101 = .ok (.invokevirtual 68, 3) := by decide +kernel
theorem d_C_settle_104 : decode b_C_settle 104 = .ok (.aload_n 0, 1) := by decide +kernel
theorem d_C_settle_105 : decode b_C_settle 105 = .ok (.aload_n 0, 1) := by decide +kernel
theorem d_C_settle_106 : decode b_C_settle 106 = .ok (.getfield 49, 3) := by decide +kernel
theorem d_C_settle_109 : decode b_C_settle 109 = .ok (.iload_n 3, 1) := by decide +kernel
theorem d_C_settle_110 : decode b_C_settle 110 = .ok (.iaload, 1) := by decide +kernel
theorem d_C_settle_111 : decode b_C_settle 111 = .ok (.invokevirtual 68, 3) := by decide +kernel
theorem d_C_settle_114 : decode b_C_settle 114 = .ok (.iand, 1) := by decide +kernel
theorem d_C_settle_115 : decode b_C_settle 115 = .ok (.iastore, 1) := by decide +kernel
theorem d_C_settle_116 : decode b_C_settle 116 = .ok (.iinc 2 1, 3) := by decide +kernel
theorem d_C_settle_119 : decode b_C_settle 119 = .ok (.goto (-50), 3) := by decide +kernel
theorem d_C_settle_122 : decode b_C_settle 122 = .ok (.return_, 1) := by decide +kernel
theorem d_C_bitsOf_0 : decode b_C_bitsOf 0 = .ok (.iconst 0, 1) := by decide +kernel
theorem d_C_bitsOf_1 : decode b_C_bitsOf 1 = .ok (.istore_n 3, 1) := by decide +kernel
theorem d_C_bitsOf_2 : decode b_C_bitsOf 2 = .ok (.iconst 0, 1) := by decide +kernel
theorem d_C_bitsOf_3 : decode b_C_bitsOf 3 = .ok (.istore 4, 2) := by decide +kernel
theorem d_C_bitsOf_5 : decode b_C_bitsOf 5 = .ok (.iload 4, 2) := by decide +kernel
theorem d_C_bitsOf_7 : decode b_C_bitsOf 7 = .ok (.iload_n 2, 1) := by decide +kernel
theorem d_C_bitsOf_8 : decode b_C_bitsOf 8 = .ok (.if_icmp .ge 23, 3) := by decide +kernel
theorem d_C_bitsOf_11 : decode b_C_bitsOf 11 = .ok (.iload_n 3, 1) := by decide +kernel
theorem d_C_bitsOf_12 : decode b_C_bitsOf 12 = .ok (.aload_n 0, 1) := by decide +kernel
theorem d_C_bitsOf_13 : decode b_C_bitsOf 13 = .ok (.aload_n 1, 1) := by decide +kernel
theorem d_C_bitsOf_14 : decode b_C_bitsOf 14 = .ok (.iload 4, 2) := by decide +kernel
theorem d_C_bitsOf_16 : decode b_C_bitsOf 16 = .ok (.iaload, 1) := by decide +kernel
theorem d_C_bitsOf_17 : decode b_C_bitsOf 17 = .ok (.invokevirtual 68, 3) := by decide +kernel
theorem d_C_bitsOf_20 : decode b_C_bitsOf 20 = .ok (.iload 4, 2) := by decide +kernel
theorem d_C_bitsOf_22 : decode b_C_bitsOf 22 = .ok (.ishl, 1) := by decide +kernel
theorem d_C_bitsOf_23 : decode b_C_bitsOf 23 = .ok (.ior, 1) := by decide +kernel
theorem d_C_bitsOf_24 : decode b_C_bitsOf 24 = .ok (.istore_n 3, 1) := by decide +kernel
theorem d_C_bitsOf_25 : decode b_C_bitsOf 25 = .ok (.iinc 4 1, 3) := by decide +kernel
theorem d_C_bitsOf_28 : decode b_C_bitsOf 28 = .ok (.goto (-23), 3) := by decide +kernel
theorem d_C_bitsOf_31 : decode b_C_bitsOf 31 = .ok (.iload_n 3, 1) := by decide +kernel
theorem d_C_bitsOf_32 : decode b_C_bitsOf 32 = .ok (.ireturn, 1) := by decide +kernel
