theorem d_M_thrown_0 : decode b_M_thrown 0 = .ok (.aload_n 0, 1) := by decide +kernel
theorem d_M_thrown_1 : decode b_M_thrown 1 = .ok (.getfield 85, 3) := by decide +kernel
theorem d_M_thrown_4 : decode b_M_thrown 4 = .ok (.ireturn, 1) := by decide +kernel
theorem d_M_feed_0 : decode b_M_feed 0 = .ok (.aload_n 0, 1) := by decide +kernel
theorem d_M_feed_1 : decode b_M_feed 1 = .ok (.iconst 0, 1) := by decide +kernel
theorem d_M_feed_2 : decode b_M_feed 2 = .ok (.putfield 85, 3) := by decide +kernel
theorem d_M_feed_5 : decode b_M_feed 5 = .ok (.iconst 0, 1) := by decide +kernel
theorem d_M_feed_6 : decode b_M_feed 6 = .ok (.istore 6, 2) := by decide +kernel
theorem d_M_feed_8 : decode b_M_feed 8 = .ok (.iload 6, 2) := by decide +kernel
theorem d_M_feed_10 : decode b_M_feed 10 = .ok (.bipush 20, 2) := by decide +kernel
theorem d_M_feed_12 : decode b_M_feed 12 = .ok (.if_icmp .ge 78, 3) := by decide +kernel
theorem d_M_feed_15 : decode b_M_feed 15 = .ok (.iload 6, 2) := by decide +kernel
theorem d_M_feed_17 : decode b_M_feed 17 = .ok (.iconst 4, 1) := by decide +kernel
theorem d_M_feed_18 : decode b_M_feed 18 = .ok (.if_icmp .ge 7, 3) := by decide +kernel
theorem d_M_feed_21 : decode b_M_feed 21 = .ok (.iload_n 1, 1) := by decide +kernel
theorem d_M_feed_22 : decode b_M_feed 22 = .ok (.goto 39, 3) := by decide +kernel
theorem d_M_feed_25 : decode b_M_feed 25 = .ok (.iload 6, 2) := by decide +kernel
theorem d_M_feed_27 : decode b_M_feed 27 = .ok (.bipush 8, 2) := by decide +kernel
theorem d_M_feed_29 : decode b_M_feed 29 = .ok (.if_icmp .ge 7, 3) := by decide +kernel
theorem d_M_feed_32 : decode b_M_feed 32 = .ok (.iload_n 2, 1) := by decide +kernel
theorem d_M_feed_33 : decode b_M_feed 33 = .ok (.goto 28, 3) := by decide +kernel
theorem d_M_feed_36 : decode b_M_feed 36 = .ok (.iload 6, 2) := by decide +kernel
theorem d_M_feed_38 : decode b_M_feed 38 = .ok (.bipush 12, 2) := by decide +kernel
theorem d_M_feed_40 : decode b_M_feed 40 = .ok (.if_icmp .ge 7, 3) := by decide +kernel
theorem d_M_feed_43 : decode b_M_feed 43 = .ok (.iload_n 3, 1) := by decide +kernel
theorem d_M_feed_44 : decode b_M_feed 44 = .ok (.goto 17, 3) := by decide +kernel
theorem d_M_feed_47 : decode b_M_feed 47 = .ok (.iload 6, 2) := by decide +kernel
theorem d_M_feed_49 : decode b_M_feed 49 = .ok (.bipush 16, 2) := by decide +kernel
theorem d_M_feed_51 : decode b_M_feed 51 = .ok (.if_icmp .ge 8, 3) := by decide +kernel
theorem d_M_feed_54 : decode b_M_feed 54 = .ok (.iload 4, 2) := by decide +kernel
theorem d_M_feed_56 : decode b_M_feed 56 = .ok (.goto 5, 3) := by decide +kernel
theorem d_M_feed_59 : decode b_M_feed 59 = .ok (.iload 5, 2) := by decide +kernel
theorem d_M_feed_61 : decode b_M_feed 61 = .ok (.istore 7, 2) := by decide +kernel
theorem d_M_feed_63 : decode b_M_feed 63 = .ok (.aload_n 0, 1) := by decide +kernel
theorem d_M_feed_64 : decode b_M_feed 64 = .ok (.getfield 13, 3) := by decide +kernel
theorem d_M_feed_67 : decode b_M_feed 67 = .ok (.iload 6, 2) := by decide +kernel
theorem d_M_feed_69 : decode b_M_feed 69 = .ok (.iload 7, 2) := by decide +kernel
theorem d_M_feed_71 : decode b_M_feed 71 = .ok (.bipush 24, 2) := by decide +kernel
theorem d_M_feed_73 : decode b_M_feed 73 = .ok (.bipush 8, 2) := by decide +kernel
theorem d_M_feed_75 : decode b_M_feed 75 = .ok (.iload 6, 2) := by decide +kernel
theorem d_M_feed_77 : decode b_M_feed 77 = .ok (.iconst 4, 1) := by decide +kernel
theorem d_M_feed_78 : decode b_M_feed 78 = .ok (.irem, 1) := by decide +kernel
theorem d_M_feed_79 : decode b_M_feed 79 = .ok (.imul, 1) := by decide +kernel
theorem d_M_feed_80 : decode b_M_feed 80 = .ok (.isub, 1) := by decide +kernel
theorem d_M_feed_81 : decode b_M_feed 81 = .ok (.ishr, 1) := by decide +kernel
theorem d_M_feed_82 : decode b_M_feed 82 = .ok (.i2b, 1) := by decide +kernel
theorem d_M_feed_83 : decode b_M_feed 83 = .ok (.bastore, 1) := by decide +kernel
theorem d_M_feed_84 : decode b_M_feed 84 = .ok (.iinc 6 1, 3) := by decide +kernel
theorem d_M_feed_87 : decode b_M_feed 87 = .ok (.goto (-79), 3) := by decide +kernel
theorem d_M_feed_90 : decode b_M_feed 90 = .ok (.return_, 1) := by decide +kernel
theorem d_M_end_0 : decode b_M_end 0 = .ok (.aload_n 0, 1) := by decide +kernel
theorem d_M_end_1 : decode b_M_end 1 = .ok (.iconst 0, 1) := by decide +kernel
theorem d_M_end_2 : decode b_M_end 2 = .ok (.putfield 85, 3) := by decide +kernel
theorem d_M_end_5 : decode b_M_end 5 = .ok (.iload_n 1, 1) := by decide +kernel
theorem d_M_end_6 : decode b_M_end 6 = .ok (.ifCond .lt 21, 3) := by decide +kernel
theorem d_M_end_9 : decode b_M_end 9 = .ok (.iload_n 1, 1) := by decide +kernel
theorem d_M_end_10 : decode b_M_end 10 = .ok (.bipush 20, 2) := by decide +kernel
theorem d_M_end_12 : decode b_M_end 12 = .ok (.if_icmp .gt 15, 3) := by decide +kernel
theorem d_M_end_15 : decode b_M_end 15 = .ok (.aload_n 0, 1) := by decide +kernel
theorem d_M_end_16 : decode b_M_end 16 = .ok (.getfield 88, 3) := by decide +kernel
theorem d_M_end_19 : decode b_M_end 19 = .ok (.iload_n 1, 1) := by decide +kernel
theorem d_M_end_20 : decode b_M_end 20 = .ok (.iadd, 1) := by decide +kernel
theorem d_M_end_21 : decode b_M_end 21 = .ok (.sipush 6000, 3) := by decide +kernel
theorem d_M_end_24 : decode b_M_end 24 = .ok (.if_icmp .le 5, 3) := by decide +kernel
theorem d_M_end_27 : decode b_M_end 27 = .ok (.iconst (-1), 1) := by decide +kernel
theorem d_M_end_28 : decode b_M_end 28 = .ok (.ireturn, 1) := by decide +kernel
theorem d_M_end_29 : decode b_M_end 29 = .ok (.iconst 0, 1) := by decide +kernel
theorem d_M_end_30 : decode b_M_end 30 = .ok (.istore_n 2, 1) := by decide +kernel
theorem d_M_end_31 : decode b_M_end 31 = .ok (.iload_n 2, 1) := by decide +kernel
theorem d_M_end_32 : decode b_M_end 32 = .ok (.iload_n 1, 1) := by decide +kernel
theorem d_M_end_33 : decode b_M_end 33 = .ok (.if_icmp .ge 26, 3) := by decide +kernel
theorem d_M_end_36 : decode b_M_end 36 = .ok (.aload_n 0, 1) := by decide +kernel
theorem d_M_end_37 : decode b_M_end 37 = .ok (.getfield 7, 3) := by decide +kernel
theorem d_M_end_40 : decode b_M_end 40 = .ok (.aload_n 0, 1) := by decide +kernel
theorem d_M_end_41 : decode b_M_end 41 = .ok (.getfield 88, 3) := by decide +kernel
theorem d_M_end_44 : decode b_M_end 44 = .ok (.iload_n 2, 1) := by decide +kernel
theorem d_M_end_45 : decode b_M_end 45 = .ok (.iadd, 1) := by decide +kernel
theorem d_M_end_46 : decode b_M_end 46 = .ok (.aload_n 0, 1) := by decide +kernel
theorem d_M_end_47 : decode b_M_end 47 = .ok (.getfield 13, 3) := by decide +kernel
theorem d_M_end_50 : decode b_M_end 50 = .ok (.iload_n 2, 1) := by decide +kernel
theorem d_M_end_51 : decode b_M_end 51 = .ok (.baload, 1) := by decide +kernel
theorem d_M_end_52 : decode b_M_end 52 = .ok (.bastore, 1) := by decide +kernel
theorem d_M_end_53 : decode b_M_end 53 = .ok (.iinc 2 1, 3) := by decide +kernel
theorem d_M_end_56 : decode b_M_end 56 = .ok (.goto (-25), 3) := by decide +kernel
theorem d_M_end_59 : decode b_M_end 59 = .ok (.iconst 0, 1) := by decide +kernel
theorem d_M_end_60 : decode b_M_end 60 = .ok (.istore_n 2, 1) := by decide +kernel
theorem d_M_end_61 : decode b_M_end 61 = .ok (.iload_n 2, 1) := by decide +kernel
theorem d_M_end_62 : decode b_M_end 62 = .ok (.bipush 20, 2) := by decide +kernel
theorem d_M_end_64 : decode b_M_end 64 = .ok (.if_icmp .ge 16, 3) := by decide +kernel
theorem d_M_end_67 : decode b_M_end 67 = .ok (.aload_n 0, 1) := by decide +kernel
theorem d_M_end_68 : decode b_M_end 68 = .ok (.getfield 13, 3) := by decide +kernel
theorem d_M_end_71 : decode b_M_end 71 = .ok (.iload_n 2, 1) := by decide +kernel
theorem d_M_end_72 : decode b_M_end 72 = .ok (.iconst 0, 1) := by decide +kernel
theorem d_M_end_73 : decode b_M_end 73 = .ok (.bastore, 1) := by decide +kernel
theorem d_M_end_74 : decode b_M_end 74 = .ok (.iinc 2 1, 3) := by decide +kernel
theorem d_M_end_77 : decode b_M_end 77 = .ok (.goto (-16), 3) := by decide +kernel
theorem d_M_end_80 : decode b_M_end 80 = .ok (.aload_n 0, 1) := by decide +kernel
theorem d_M_end_81 : decode b_M_end 81 = .ok (.dup, 1) := by decide +kernel
theorem d_M_end_82 : decode b_M_end 82 = .ok (.getfield 88, 3) := by decide +kernel
theorem d_M_end_85 : decode b_M_end 85 = .ok (.iload_n 1, 1) := by decide +kernel
theorem d_M_end_86 : decode b_M_end 86 = .ok (.iadd, 1) := by decide +kernel
theorem d_M_end_87 : decode b_M_end 87 = .ok (.putfield 88, 3) := by decide +kernel
theorem d_M_end_90 : decode b_M_end 90 = .ok (.aload_n 0, 1) := by decide +kernel
theorem d_M_end_91 : decode b_M_end 91 = .ok (.getfield 88, 3) := by decide +kernel
theorem d_M_end_94 : decode b_M_end 94 = .ok (.ireturn, 1) := by decide +kernel
theorem d_M_here_0 : decode b_M_here 0 = .ok (.aload_n 0, 1) := by decide +kernel
theorem d_M_here_1 : decode b_M_here 1 = .ok (.getfield 91, 3) := by decide +kernel
theorem d_M_here_4 : decode b_M_here 4 = .ok (.aload_n 0, 1) := by decide +kernel
theorem d_M_here_5 : decode b_M_here 5 = .ok (.getfield 88, 3) := by decide +kernel
theorem d_M_here_8 : decode b_M_here 8 = .ok (.if_icmp .ge 19, 3) := by decide +kernel
theorem d_M_here_11 : decode b_M_here 11 = .ok (.aload_n 0, 1) := by decide +kernel
theorem d_M_here_12 : decode b_M_here 12 = .ok (.getfield 7, 3) := by decide +kernel
theorem d_M_here_15 : decode b_M_here 15 = .ok (.aload_n 0, 1) := by decide +kernel
theorem d_M_here_16 : decode b_M_here 16 = .ok (.getfield 91, 3) := by decide +kernel
theorem d_M_here_19 : decode b_M_here 19 = .ok (.baload, 1) := by decide +kernel
theorem d_M_here_20 : decode b_M_here 20 = .ok (.sipush 255, 3) := by decide +kernel
theorem d_M_here_23 : decode b_M_here 23 = .ok (.iand, 1) := by decide +kernel
theorem d_M_here_24 : decode b_M_here 24 = .ok (.goto 4, 3) := by decide +kernel
theorem d_M_here_27 : decode b_M_here 27 = .ok (.iconst (-1), 1) := by decide +kernel
theorem d_M_here_28 : decode b_M_here 28 = .ok (.ireturn, 1) := by decide +kernel
theorem d_M_wrong_0 : decode b_M_wrong 0 = .ok (.aload_n 0, 1) := by decide +kernel
theorem d_M_wrong_1 : decode b_M_wrong 1 = .ok (.getfield 94, 3) := by decide +kernel
theorem d_M_wrong_4 : decode b_M_wrong 4 = .ok (.ifCond .le 4, 3) := by decide +kernel
theorem d_M_wrong_7 : decode b_M_wrong 7 = .ok (.return_, 1) := by decide +kernel
theorem d_M_wrong_8 : decode b_M_wrong 8 = .ok (.aload_n 0, 1) := by decide +kernel
theorem d_M_wrong_9 : decode b_M_wrong 9 = .ok (.iload_n 1, 1) := by decide +kernel
theorem d_M_wrong_10 : decode b_M_wrong 10 = .ok (.putfield 94, 3) := by decide +kernel
theorem d_M_wrong_13 : decode b_M_wrong 13 = .ok (.aload_n 0, 1) := by decide +kernel
theorem d_M_wrong_14 : decode b_M_wrong 14 = .ok (.iload_n 2, 1) := by decide +kernel
theorem d_M_wrong_15 : decode b_M_wrong 15 = .ok (.putfield 97, 3) := by decide +kernel
theorem d_M_wrong_18 : decode b_M_wrong 18 = .ok (.return_, 1) := by decide +kernel
theorem d_M_take_0 : decode b_M_take 0 = .ok (.aload_n 0, 1) := by decide +kernel
theorem d_M_take_1 : decode b_M_take 1 = .ok (.getfield 94, 3) := by decide +kernel
theorem d_M_take_4 : decode b_M_take 4 = .ok (.ifCond .le 4, 3) := by decide +kernel
theorem d_M_take_7 : decode b_M_take 7 = .ok (.return_, 1) := by decide +kernel
theorem d_M_take_8 : decode b_M_take 8 = .ok (.aload_n 0, 1) := by decide +kernel
theorem d_M_take_9 : decode b_M_take 9 = .ok (.invokevirtual 100, 3) := by decide +kernel
theorem d_M_take_12 : decode b_M_take 12 = .ok (.iload_n 1, 1) := by decide +kernel
theorem d_M_take_13 : decode b_M_take 13 = .ok (.if_icmp .ne 16, 3) := by decide +kernel
theorem d_M_take_16 : decode b_M_take 16 = .ok (.aload_n 0, 1) := by decide +kernel
theorem d_M_take_17 : decode b_M_take 17 = .ok (.dup, 1) := by decide +kernel
theorem d_M_take_18 : decode b_M_take 18 = .ok (.getfield 91, 3) := by decide +kernel
theorem d_M_take_21 : decode b_M_take 21 = .ok (.iconst 1, 1) := by decide +kernel
theorem d_M_take_22 : decode b_M_take 22 = .ok (.iadd, 1) := by decide +kernel
theorem d_M_take_23 : decode b_M_take 23 = .ok (.putfield 91, 3) := by decide +kernel
theorem d_M_take_26 : decode b_M_take 26 = .ok (.goto 12, 3) := by decide +kernel
theorem d_M_take_29 : decode b_M_take 29 = .ok (.aload_n 0, 1) := by decide +kernel
theorem d_M_take_30 : decode b_M_take 30 = .ok (.iconst 1, 1) := by decide +kernel
theorem d_M_take_31 : decode b_M_take 31 = .ok (.aload_n 0, 1) := by decide +kernel
theorem d_M_take_32 : decode b_M_take 32 = .ok (.getfield 91, 3) := by decide +kernel
theorem d_M_take_35 : decode b_M_take 35 = .ok (.invokevirtual 104, 3) := by decide +kernel
theorem d_M_take_38 : decode b_M_take 38 = .ok (.return_, 1) := by decide +kernel
theorem d_M_isDigit_0 : decode b_M_isDigit 0 = .ok (.aload_n 0, 1) := by decide +kernel
theorem d_M_isDigit_1 : decode b_M_isDigit 1 = .ok (.invokevirtual 100, 3) := by decide +kernel
theorem d_M_isDigit_4 : decode b_M_isDigit 4 = .ok (.bipush 48, 2) := by decide +kernel
theorem d_M_isDigit_6 : decode b_M_isDigit 6 = .ok (.if_icmp .lt 16, 3) := by decide +kernel
theorem d_M_isDigit_9 : decode b_M_isDigit 9 = .ok (.aload_n 0, 1) := by decide +kernel
theorem d_M_isDigit_10 : decode b_M_isDigit 10 = .ok (.invokevirtual 100, 3) := by decide +kernel
theorem d_M_isDigit_13 : decode b_M_isDigit 13 = .ok (.bipush 57, 2) := by decide +kernel
theorem d_M_isDigit_15 : decode b_M_isDigit 15 = .ok (.if_icmp .gt 7, 3) := by decide +kernel
theorem d_M_isDigit_18 : decode b_M_isDigit 18 = .ok (.iconst 1, 1) := by decide +kernel
theorem d_M_isDigit_19 : decode b_M_isDigit 19 = .ok (.goto 4, 3) := by decide +kernel
theorem d_M_isDigit_22 : decode b_M_isDigit 22 = .ok (.iconst 0, 1) := by decide +kernel
theorem d_M_isDigit_23 : decode b_M_isDigit 23 = .ok (.ireturn, 1) := by decide +kernel
theorem d_M_takeNumber_0 : decode b_M_takeNumber 0 = .ok (.aload_n 0, 1) := by decide +kernel
theorem d_M_takeNumber_1 : decode b_M_takeNumber 1 = .ok (.getfield 94, 3) := by decide +kernel
theorem d_M_takeNumber_4 : decode b_M_takeNumber 4 = .ok (.ifCond .le 4, 3) := by decide +kernel
theorem d_M_takeNumber_7 : decode b_M_takeNumber 7 = .ok (.return_, 1) := by decide +kernel
theorem d_M_takeNumber_8 : decode b_M_takeNumber 8 = .ok (.iconst 0, 1) := by decide +kernel
theorem d_M_takeNumber_9 : decode b_M_takeNumber 9 = .ok (.istore_n 1, 1) := by decide +kernel
theorem d_M_takeNumber_10 : decode b_M_takeNumber 10 = .ok (.aload_n 0, 1) := by decide +kernel
theorem d_M_takeNumber_11 : decode b_M_takeNumber 11 = .ok (.iconst 0, 1) := by decide +kernel
theorem d_M_takeNumber_12 : decode b_M_takeNumber 12 = .ok (.putfield 108, 3) := by decide +kernel
theorem d_M_takeNumber_15 : decode b_M_takeNumber 15 = .ok (.aload_n 0, 1) := by decide +kernel
theorem d_M_takeNumber_16 : decode b_M_takeNumber 16 = .ok (.invokevirtual 111, 3) := by decide +kernel
theorem d_M_takeNumber_19 : decode b_M_takeNumber 19 = .ok (.ifCond .ne 12, 3) := by decide +kernel
theorem d_M_takeNumber_22 : decode b_M_takeNumber 22 = .ok (.aload_n 0, 1) := by decide +kernel
theorem d_M_takeNumber_23 : decode b_M_takeNumber 23 = .ok (.iconst 1, 1) := by decide +kernel
theorem d_M_takeNumber_24 : decode b_M_takeNumber 24 = .ok (.aload_n 0, 1) := by decide +kernel
theorem d_M_takeNumber_25 : decode b_M_takeNumber 25 = .ok (.getfield 91, 3) := by decide +kernel
theorem d_M_takeNumber_28 : decode b_M_takeNumber 28 = .ok (.invokevirtual 104, 3) := by decide +kernel
theorem d_M_takeNumber_31 : decode b_M_takeNumber 31 = .ok (.aload_n 0, 1) := by decide +kernel
theorem d_M_takeNumber_32 : decode b_M_takeNumber 32 = .ok (.invokevirtual 111, 3) := by decide +kernel
theorem d_M_takeNumber_35 : decode b_M_takeNumber 35 = .ok (.ifCond .eq 74, 3) := by decide +kernel
theorem d_M_takeNumber_38 : decode b_M_takeNumber 38 = .ok (.aload_n 0, 1) := by decide +kernel
theorem d_M_takeNumber_39 : decode b_M_takeNumber 39 = .ok (.getfield 94, 3) := by decide +kernel
theorem d_M_takeNumber_42 : decode b_M_takeNumber 42 = .ok (.ifCond .ne 67, 3) := by decide +kernel
theorem d_M_takeNumber_45 : decode b_M_takeNumber 45 = .ok (.iload_n 1, 1) := by decide +kernel
theorem d_M_takeNumber_46 : decode b_M_takeNumber 46 = .ok (.iconst 4, 1) := by decide +kernel
theorem d_M_takeNumber_47 : decode b_M_takeNumber 47 = .ok (.if_icmp .eq 15, 3) := by decide +kernel
theorem d_M_takeNumber_50 : decode b_M_takeNumber 50 = .ok (.iload_n 1, 1) := by decide +kernel
theorem d_M_takeNumber_51 : decode b_M_takeNumber 51 = .ok (.iconst 1, 1) := by decide +kernel
theorem d_M_takeNumber_52 : decode b_M_takeNumber 52 = .ok (.if_icmp .ne 22, 3) := by decide +kernel
theorem d_M_takeNumber_55 : decode b_M_takeNumber 55 = .ok (.aload_n 0, 1) := by decide +kernel
theorem d_M_takeNumber_56 : decode b_M_takeNumber 56 = .ok (.getfield 108, 3) := by decide +kernel
theorem d_M_takeNumber_59 : decode b_M_takeNumber 59 = .ok (.ifCond .ne 15, 3) := by decide +kernel
theorem d_M_takeNumber_62 : decode b_M_takeNumber 62 = .ok (.aload_n 0, 1) := by decide +kernel
theorem d_M_takeNumber_63 : decode b_M_takeNumber 63 = .ok (.iconst 1, 1) := by decide +kernel
theorem d_M_takeNumber_64 : decode b_M_takeNumber 64 = .ok (.aload_n 0, 1) := by decide +kernel
theorem d_M_takeNumber_65 : decode b_M_takeNumber 65 = .ok (.getfield 91, 3) := by decide +kernel
theorem d_M_takeNumber_68 : decode b_M_takeNumber 68 = .ok (.invokevirtual 104, 3) := by decide +kernel
theorem d_M_takeNumber_71 : decode b_M_takeNumber 71 = .ok (.goto (-40), 3) := by decide +kernel
theorem d_M_takeNumber_74 : decode b_M_takeNumber 74 = .ok (.aload_n 0, 1) := by decide +kernel
theorem d_M_takeNumber_75 : decode b_M_takeNumber 75 = .ok (.bipush 10, 2) := by decide +kernel
theorem d_M_takeNumber_77 : decode b_M_takeNumber 77 = .ok (.aload_n 0, 1) := by decide +kernel
theorem d_M_takeNumber_78 : decode b_M_takeNumber 78 = .ok (.getfield 108, 3) := by decide +kernel
theorem d_M_takeNumber_81 : decode b_M_takeNumber 81 = .ok (.imul, 1) := by decide +kernel
theorem d_M_takeNumber_82 : decode b_M_takeNumber 82 = .ok (.aload_n 0, 1) := by decide +kernel
theorem d_M_takeNumber_83 : decode b_M_takeNumber 83 = .ok (.invokevirtual 100, 3) := by decide +kernel
theorem d_M_takeNumber_86 : decode b_M_takeNumber 86 = .ok (.iadd, 1) := by decide +kernel
theorem d_M_takeNumber_87 : decode b_M_takeNumber 87 = .ok (.bipush 48, 2) := by decide +kernel
theorem d_M_takeNumber_89 : decode b_M_takeNumber 89 = .ok (.isub, 1) := by decide +kernel
theorem d_M_takeNumber_90 : decode b_M_takeNumber 90 = .ok (.putfield 108, 3) := by decide +kernel
theorem d_M_takeNumber_93 : decode b_M_takeNumber 93 = .ok (.iinc 1 1, 3) := by decide +kernel
theorem d_M_takeNumber_96 : decode b_M_takeNumber 96 = .ok (.aload_n 0, 1) := by decide +kernel
theorem d_M_takeNumber_97 : decode b_M_takeNumber 97 = .ok (.dup, 1) := by decide +kernel
theorem d_M_takeNumber_98 : decode b_M_takeNumber 98 = .ok (.getfield 91, 3) := by decide +kernel
theorem d_M_takeNumber_101 : decode b_M_takeNumber 101 = .ok (.iconst 1, 1) := by decide +kernel
theorem d_M_takeNumber_102 : decode b_M_takeNumber 102 = .ok (.iadd, 1) := by decide +kernel
theorem d_M_takeNumber_103 : decode b_M_takeNumber 103 = .ok (.putfield 91, 3) := by decide +kernel
theorem d_M_takeNumber_106 : decode b_M_takeNumber 106 = .ok (.goto (-75), 3) := by decide +kernel
theorem d_M_takeNumber_109 : decode b_M_takeNumber 109 = .ok (.return_, 1) := by decide +kernel
theorem d_M_literal_0 : decode b_M_literal 0 = .ok (.aload_n 0, 1) := by decide +kernel
theorem d_M_literal_1 : decode b_M_literal 1 = .ok (.getfield 91, 3) := by decide +kernel
theorem d_M_literal_4 : decode b_M_literal 4 = .ok (.istore_n 1, 1) := by decide +kernel
theorem d_M_literal_5 : decode b_M_literal 5 = .ok (.aload_n 0, 1) := by decide +kernel
theorem d_M_literal_6 : decode b_M_literal 6 = .ok (.invokevirtual 115, 3) := by decide +kernel
theorem d_M_literal_9 : decode b_M_literal 9 = .ok (.aload_n 0, 1) := by decide +kernel
theorem d_M_literal_10 : decode b_M_literal 10 = .ok (.getfield 94, 3) := by decide +kernel
theorem d_M_literal_13 : decode b_M_literal 13 = .ok (.ifCond .ne 26, 3) := by decide +kernel
theorem d_M_literal_16 : decode b_M_literal 16 = .ok (.aload_n 0, 1) := by decide +kernel
theorem d_M_literal_17 : decode b_M_literal 17 = .ok (.getfield 108, 3) := by decide +kernel
theorem d_M_literal_20 : decode b_M_literal 20 = .ok (.iconst 2, 1) := by decide +kernel
theorem d_M_literal_21 : decode b_M_literal 21 = .ok (.aload_n 0, 1) := by decide +kernel
theorem d_M_literal_22 : decode b_M_literal 22 = .ok (.getfield 20, 3) := by decide +kernel
theorem d_M_literal_25 : decode b_M_literal 25 = .ok (.iconst 5, 1) := by decide +kernel
theorem d_M_literal_26 : decode b_M_literal 26 = .ok (.iaload, 1) := by decide +kernel
theorem d_M_literal_27 : decode b_M_literal 27 = .ok (.imul, 1) := by decide +kernel
theorem d_M_literal_28 : decode b_M_literal 28 = .ok (.iconst 1, 1) := by decide +kernel
theorem d_M_literal_29 : decode b_M_literal 29 = .ok (.iadd, 1) := by decide +kernel
theorem d_M_literal_30 : decode b_M_literal 30 = .ok (.if_icmp .le 9, 3) := by decide +kernel
theorem d_M_literal_33 : decode b_M_literal 33 = .ok (.aload_n 0, 1) := by decide +kernel
theorem d_M_literal_34 : decode b_M_literal 34 = .ok (.iconst 3, 1) := by decide +kernel
theorem d_M_literal_35 : decode b_M_literal 35 = .ok (.iload_n 1, 1) := by decide +kernel
theorem d_M_literal_36 : decode b_M_literal 36 = .ok (.invokevirtual 104, 3) := by decide +kernel
theorem d_M_literal_39 : decode b_M_literal 39 = .ok (.aload_n 0, 1) := by decide +kernel
theorem d_M_literal_40 : decode b_M_literal 40 = .ok (.getfield 108, 3) := by decide +kernel
theorem d_M_literal_43 : decode b_M_literal 43 = .ok (.ireturn, 1) := by decide +kernel
theorem d_M_define_0 : decode b_M_define 0 = .ok (.aload_n 0, 1) := by decide +kernel
theorem d_M_define_1 : decode b_M_define 1 = .ok (.getfield 45, 3) := by decide +kernel
theorem d_M_define_4 : decode b_M_define 4 = .ok (.sipush 401, 3) := by decide +kernel
theorem d_M_define_7 : decode b_M_define 7 = .ok (.iload_n 1, 1) := by decide +kernel
theorem d_M_define_8 : decode b_M_define 8 = .ok (.iadd, 1) := by decide +kernel
theorem d_M_define_9 : decode b_M_define 9 = .ok (.iload_n 2, 1) := by decide +kernel
theorem d_M_define_10 : decode b_M_define 10 = .ok (.iastore, 1) := by decide +kernel
theorem d_M_define_11 : decode b_M_define 11 = .ok (.aload_n 0, 1) := by decide +kernel
theorem d_M_define_12 : decode b_M_define 12 = .ok (.getfield 48, 3) := by decide +kernel
theorem d_M_define_15 : decode b_M_define 15 = .ok (.sipush 401, 3) := by decide +kernel
theorem d_M_define_18 : decode b_M_define 18 = .ok (.iload_n 1, 1) := by decide +kernel
theorem d_M_define_19 : decode b_M_define 19 = .ok (.iadd, 1) := by decide +kernel
theorem d_M_define_20 : decode b_M_define 20 = .ok (.iload_n 3, 1) := by decide +kernel
theorem d_M_define_21 : decode b_M_define 21 = .ok (.iastore, 1) := by decide +kernel
theorem d_M_define_22 : decode b_M_define 22 = .ok (.return_, 1) := by decide +kernel
theorem d_M_defines_0 : decode b_M_defines 0 = .ok (.aload_n 0, 1) := by decide +kernel
theorem d_M_defines_1 : decode b_M_defines 1 = .ok (.getfield 91, 3) := by decide +kernel
theorem d_M_defines_4 : decode b_M_defines 4 = .ok (.istore_n 3, 1) := by decide +kernel
theorem d_M_defines_5 : decode b_M_defines 5 = .ok (.aload_n 0, 1) := by decide +kernel
theorem d_M_defines_6 : decode b_M_defines 6 = .ok (.invokevirtual 118, 3) := by decide +kernel
theorem d_M_defines_9 : decode b_M_defines 9 = .ok (.istore 4, 2) := by decide +kernel
theorem d_M_defines_11 : decode b_M_defines 11 = .ok (.aload_n 0, 1) := by decide +kernel
theorem d_M_defines_12 : decode b_M_defines 12 = .ok (.getfield 94, 3) := by decide +kernel
theorem d_M_defines_15 : decode b_M_defines 15 = .ok (.ifCond .ne 39, 3) := by decide +kernel
theorem d_M_defines_18 : decode b_M_defines 18 = .ok (.iload 4, 2) := by decide +kernel
theorem d_M_defines_20 : decode b_M_defines 20 = .ok (.iconst 2, 1) := by decide +kernel
theorem d_M_defines_21 : decode b_M_defines 21 = .ok (.if_icmp .lt 27, 3) := by decide +kernel
theorem d_M_defines_24 : decode b_M_defines 24 = .ok (.iload 4, 2) := by decide +kernel
theorem d_M_defines_26 : decode b_M_defines 26 = .ok (.iconst 2, 1) := by decide +kernel
theorem d_M_defines_27 : decode b_M_defines 27 = .ok (.irem, 1) := by decide +kernel
theorem d_M_defines_28 : decode b_M_defines 28 = .ok (.iconst 1, 1) := by decide +kernel
theorem d_M_defines_29 : decode b_M_defines 29 = .ok (.if_icmp .eq 19, 3) := by decide +kernel
theorem d_M_defines_32 : decode b_M_defines 32 = .ok (.aload_n 0, 1) := by decide +kernel
theorem d_M_defines_33 : decode b_M_defines 33 = .ok (.getfield 45, 3) := by decide +kernel
theorem d_M_defines_36 : decode b_M_defines 36 = .ok (.sipush 401, 3) := by decide +kernel
theorem d_M_defines_39 : decode b_M_defines 39 = .ok (.iload 4, 2) := by decide +kernel
theorem d_M_defines_41 : decode b_M_defines 41 = .ok (.iconst 2, 1) := by decide +kernel
theorem d_M_defines_42 : decode b_M_defines 42 = .ok (.idiv, 1) := by decide +kernel
theorem d_M_defines_43 : decode b_M_defines 43 = .ok (.iadd, 1) := by decide +kernel
theorem d_M_defines_44 : decode b_M_defines 44 = .ok (.iaload, 1) := by decide +kernel
theorem d_M_defines_45 : decode b_M_defines 45 = .ok (.ifCond .eq 9, 3) := by decide +kernel
theorem d_M_defines_48 : decode b_M_defines 48 = .ok (.aload_n 0, 1) := by decide +kernel
theorem d_M_defines_49 : decode b_M_defines 49 = .ok (.iconst 4, 1) := by decide +kernel
theorem d_M_defines_50 : decode b_M_defines 50 = .ok (.iload_n 3, 1) := by decide +kernel
theorem d_M_defines_51 : decode b_M_defines 51 = .ok (.invokevirtual 104, 3) := by decide +kernel
theorem d_M_defines_54 : decode b_M_defines 54 = .ok (.aload_n 0, 1) := by decide +kernel
theorem d_M_defines_55 : decode b_M_defines 55 = .ok (.getfield 94, 3) := by decide +kernel
theorem d_M_defines_58 : decode b_M_defines 58 = .ok (.ifCond .ne 13, 3) := by decide +kernel
theorem d_M_defines_61 : decode b_M_defines 61 = .ok (.aload_n 0, 1) := by decide +kernel
theorem d_M_defines_62 : decode b_M_defines 62 = .ok (.iload 4, 2) := by decide +kernel
theorem d_M_defines_64 : decode b_M_defines 64 = .ok (.iconst 2, 1) := by decide +kernel
theorem d_M_defines_65 : decode b_M_defines 65 = .ok (.idiv, 1) := by decide +kernel
theorem d_M_defines_66 : decode b_M_defines 66 = .ok (.iload_n 1, 1) := by decide +kernel
theorem d_M_defines_67 : decode b_M_defines 67 = .ok (.iload_n 2, 1) := by decide +kernel
theorem d_M_defines_68 : decode b_M_defines 68 = .ok (.invokevirtual 121, 3) := by decide +kernel
theorem d_M_defines_71 : decode b_M_defines 71 = .ok (.iload 4, 2) := by decide +kernel
theorem d_M_defines_73 : decode b_M_defines 73 = .ok (.ireturn, 1) := by decide +kernel
theorem d_M_takeHead_0 : decode b_M_takeHead 0 = .ok (.aload_n 0, 1) := by decide +kernel
theorem d_M_takeHead_1 : decode b_M_takeHead 1 = .ok (.bipush 97, 2) := by decide +kernel
theorem d_M_takeHead_3 : decode b_M_takeHead 3 = .ok (.invokevirtual 125, 3) := by decide +kernel
theorem d_M_takeHead_6 : decode b_M_takeHead 6 = .ok (.aload_n 0, 1) := by decide +kernel
theorem d_M_takeHead_7 : decode b_M_takeHead 7 = .ok (.invokevirtual 100, 3) := by decide +kernel
theorem d_M_takeHead_10 : decode b_M_takeHead 10 = .ok (.bipush 105, 2) := by decide +kernel
theorem d_M_takeHead_12 : decode b_M_takeHead 12 = .ok (.if_icmp .ne 7, 3) := by decide +kernel
theorem d_M_takeHead_15 : decode b_M_takeHead 15 = .ok (.iconst 1, 1) := by decide +kernel
theorem d_M_takeHead_16 : decode b_M_takeHead 16 = .ok (.goto 4, 3) := by decide +kernel
theorem d_M_takeHead_19 : decode b_M_takeHead 19 = .ok (.iconst 0, 1) := by decide +kernel
theorem d_M_takeHead_20 : decode b_M_takeHead 20 = .ok (.istore_n 1, 1) := by decide +kernel
theorem d_M_takeHead_21 : decode b_M_takeHead 21 = .ok (.aload_n 0, 1) := by decide +kernel
theorem d_M_takeHead_22 : decode b_M_takeHead 22 = .ok (.iload_n 1, 1) := by decide +kernel
theorem d_M_takeHead_23 : decode b_M_takeHead 23 = .ok (.ifCond .eq 8, 3) := by decide +kernel
theorem d_M_takeHead_26 : decode b_M_takeHead 26 = .ok (.bipush 105, 2) := by decide +kernel
theorem d_M_takeHead_28 : decode b_M_takeHead 28 = .ok (.goto 5, 3) := by decide +kernel
theorem d_M_takeHead_31 : decode b_M_takeHead 31 = .ok (.bipush 97, 2) := by decide +kernel
theorem d_M_takeHead_33 : decode b_M_takeHead 33 = .ok (.invokevirtual 125, 3) := by decide +kernel
theorem d_M_takeHead_36 : decode b_M_takeHead 36 = .ok (.aload_n 0, 1) := by decide +kernel
theorem d_M_takeHead_37 : decode b_M_takeHead 37 = .ok (.bipush 103, 2) := by decide +kernel
theorem d_M_takeHead_39 : decode b_M_takeHead 39 = .ok (.invokevirtual 125, 3) := by decide +kernel
theorem d_M_takeHead_42 : decode b_M_takeHead 42 = .ok (.iconst 0, 1) := by decide +kernel
theorem d_M_takeHead_43 : decode b_M_takeHead 43 = .ok (.istore_n 2, 1) := by decide +kernel
theorem d_M_takeHead_44 : decode b_M_takeHead 44 = .ok (.iload_n 2, 1) := by decide +kernel
theorem d_M_takeHead_45 : decode b_M_takeHead 45 = .ok (.iconst 5, 1) := by decide +kernel
theorem d_M_takeHead_46 : decode b_M_takeHead 46 = .ok (.if_icmp .ge 31, 3) := by decide +kernel
theorem d_M_takeHead_49 : decode b_M_takeHead 49 = .ok (.aload_n 0, 1) := by decide +kernel
theorem d_M_takeHead_50 : decode b_M_takeHead 50 = .ok (.bipush 32, 2) := by decide +kernel
theorem d_M_takeHead_52 : decode b_M_takeHead 52 = .ok (.invokevirtual 125, 3) := by decide +kernel
theorem d_M_takeHead_55 : decode b_M_takeHead 55 = .ok (.aload_n 0, 1) := by decide +kernel
theorem d_M_takeHead_56 : decode b_M_takeHead 56 = .ok (.invokevirtual 115, 3) := by decide +kernel
theorem d_M_takeHead_59 : decode b_M_takeHead 59 = .ok (.aload_n 0, 1) := by decide +kernel
theorem d_M_takeHead_60 : decode b_M_takeHead 60 = .ok (.getfield 20, 3) := by decide +kernel
theorem d_M_takeHead_63 : decode b_M_takeHead 63 = .ok (.iconst 5, 1) := by decide +kernel
theorem d_M_takeHead_64 : decode b_M_takeHead 64 = .ok (.iload_n 2, 1) := by decide +kernel
theorem d_M_takeHead_65 : decode b_M_takeHead 65 = .ok (.iadd, 1) := by decide +kernel
theorem d_M_takeHead_66 : decode b_M_takeHead 66 = .ok (.aload_n 0, 1) := by decide +kernel
theorem d_M_takeHead_67 : decode b_M_takeHead 67 = .ok (.getfield 108, 3) := by decide +kernel
theorem d_M_takeHead_70 : decode b_M_takeHead 70 = .ok (.iastore, 1) := by decide +kernel
theorem d_M_takeHead_71 : decode b_M_takeHead 71 = .ok (.iinc 2 1, 3) := by decide +kernel
theorem d_M_takeHead_74 : decode b_M_takeHead 74 = .ok (.goto (-30), 3) := by decide +kernel
theorem d_M_takeHead_77 : decode b_M_takeHead 77 = .ok (.aload_n 0, 1) := by decide +kernel
theorem d_M_takeHead_78 : decode b_M_takeHead 78 = .ok (.bipush 10, 2) := by decide +kernel
theorem d_M_takeHead_80 : decode b_M_takeHead 80 = .ok (.invokevirtual 125, 3) := by decide +kernel
theorem d_M_takeHead_83 : decode b_M_takeHead 83 = .ok (.aload_n 0, 1) := by decide +kernel
theorem d_M_takeHead_84 : decode b_M_takeHead 84 = .ok (.getfield 20, 3) := by decide +kernel
theorem d_M_takeHead_87 : decode b_M_takeHead 87 = .ok (.bipush 6, 2) := by decide +kernel
theorem d_M_takeHead_89 : decode b_M_takeHead 89 = .ok (.iaload, 1) := by decide +kernel
theorem d_M_takeHead_90 : decode b_M_takeHead 90 = .ok (.aload_n 0, 1) := by decide +kernel
theorem d_M_takeHead_91 : decode b_M_takeHead 91 = .ok (.getfield 20, 3) := by decide +kernel
theorem d_M_takeHead_94 : decode b_M_takeHead 94 = .ok (.bipush 7, 2) := by decide +kernel
theorem d_M_takeHead_96 : decode b_M_takeHead 96 = .ok (.iaload, 1) := by decide +kernel
theorem d_M_takeHead_97 : decode b_M_takeHead 97 = .ok (.iadd, 1) := by decide +kernel
theorem d_M_takeHead_98 : decode b_M_takeHead 98 = .ok (.aload_n 0, 1) := by decide +kernel
theorem d_M_takeHead_99 : decode b_M_takeHead 99 = .ok (.getfield 20, 3) := by decide +kernel
theorem d_M_takeHead_102 : decode b_M_takeHead 102 = .ok (.bipush 9, 2) := by decide +kernel
theorem d_M_takeHead_104 : decode b_M_takeHead 104 = .ok (.iaload, 1) := by decide +kernel
theorem d_M_takeHead_105 : decode b_M_takeHead 105 = .ok (.iadd, 1) := by decide +kernel
theorem d_M_takeHead_106 : decode b_M_takeHead 106 = .ok (.istore_n 2, 1) := by decide +kernel
theorem d_M_takeHead_107 : decode b_M_takeHead 107 = .ok (.aload_n 0, 1) := by decide +kernel
theorem d_M_takeHead_108 : decode b_M_takeHead 108 = .ok (.getfield 20, 3) := by decide +kernel
theorem d_M_takeHead_111 : decode b_M_takeHead 111 = .ok (.iconst 5, 1) := by decide +kernel
theorem d_M_takeHead_112 : decode b_M_takeHead 112 = .ok (.iaload, 1) := by decide +kernel
theorem d_M_takeHead_113 : decode b_M_takeHead 113 = .ok (.sipush 400, 3) := by decide +kernel
theorem d_M_takeHead_116 : decode b_M_takeHead 116 = .ok (.if_icmp .gt 83, 3) := by decide +kernel
theorem d_M_takeHead_119 : decode b_M_takeHead 119 = .ok (.aload_n 0, 1) := by decide +kernel
theorem d_M_takeHead_120 : decode b_M_takeHead 120 = .ok (.getfield 20, 3) := by decide +kernel
theorem d_M_takeHead_123 : decode b_M_takeHead 123 = .ok (.bipush 6, 2) := by decide +kernel
theorem d_M_takeHead_125 : decode b_M_takeHead 125 = .ok (.iaload, 1) := by decide +kernel
theorem d_M_takeHead_126 : decode b_M_takeHead 126 = .ok (.bipush 6, 2) := by decide +kernel
theorem d_M_takeHead_128 : decode b_M_takeHead 128 = .ok (.if_icmp .gt 71, 3) := by decide +kernel
theorem d_M_takeHead_131 : decode b_M_takeHead 131 = .ok (.aload_n 0, 1) := by decide +kernel
theorem d_M_takeHead_132 : decode b_M_takeHead 132 = .ok (.getfield 20, 3) := by decide +kernel
theorem d_M_takeHead_135 : decode b_M_takeHead 135 = .ok (.bipush 7, 2) := by decide +kernel
theorem d_M_takeHead_137 : decode b_M_takeHead 137 = .ok (.iaload, 1) := by decide +kernel
theorem d_M_takeHead_138 : decode b_M_takeHead 138 = .ok (.bipush 7, 2) := by decide +kernel
theorem d_M_takeHead_140 : decode b_M_takeHead 140 = .ok (.if_icmp .gt 59, 3) := by decide +kernel
theorem d_M_takeHead_143 : decode b_M_takeHead 143 = .ok (.aload_n 0, 1) := by decide +kernel
theorem d_M_takeHead_144 : decode b_M_takeHead 144 = .ok (.getfield 20, 3) := by decide +kernel
theorem d_M_takeHead_147 : decode b_M_takeHead 147 = .ok (.bipush 8, 2) := by decide +kernel
theorem d_M_takeHead_149 : decode b_M_takeHead 149 = .ok (.iaload, 1) := by decide +kernel
theorem d_M_takeHead_150 : decode b_M_takeHead 150 = .ok (.bipush 8, 2) := by decide +kernel
theorem d_M_takeHead_152 : decode b_M_takeHead 152 = .ok (.if_icmp .gt 47, 3) := by decide +kernel
theorem d_M_takeHead_155 : decode b_M_takeHead 155 = .ok (.aload_n 0, 1) := by decide +kernel
theorem d_M_takeHead_156 : decode b_M_takeHead 156 = .ok (.getfield 20, 3) := by decide +kernel
theorem d_M_takeHead_159 : decode b_M_takeHead 159 = .ok (.bipush 9, 2) := by decide +kernel
theorem d_M_takeHead_161 : decode b_M_takeHead 161 = .ok (.iaload, 1) := by decide +kernel
theorem d_M_takeHead_162 : decode b_M_takeHead 162 = .ok (.sipush 300, 3) := by decide +kernel
theorem d_M_takeHead_165 : decode b_M_takeHead 165 = .ok (.if_icmp .gt 34, 3) := by decide +kernel
theorem d_M_takeHead_168 : decode b_M_takeHead 168 = .ok (.iload_n 1, 1) := by decide +kernel
theorem d_M_takeHead_169 : decode b_M_takeHead 169 = .ok (.ifCond .eq 16, 3) := by decide +kernel
theorem d_M_takeHead_172 : decode b_M_takeHead 172 = .ok (.aload_n 0, 1) := by decide +kernel
theorem d_M_takeHead_173 : decode b_M_takeHead 173 = .ok (.getfield 20, 3) := by decide +kernel
theorem d_M_takeHead_176 : decode b_M_takeHead 176 = .ok (.iconst 5, 1) := by decide +kernel
theorem d_M_takeHead_177 : decode b_M_takeHead 177 = .ok (.iaload, 1) := by decide +kernel
theorem d_M_takeHead_178 : decode b_M_takeHead 178 = .ok (.iload_n 2, 1) := by decide +kernel
theorem d_M_takeHead_179 : decode b_M_takeHead 179 = .ok (.if_icmp .ne 20, 3) := by decide +kernel
theorem d_M_takeHead_182 : decode b_M_takeHead 182 = .ok (.goto 13, 3) := by decide +kernel
theorem d_M_takeHead_185 : decode b_M_takeHead 185 = .ok (.aload_n 0, 1) := by decide +kernel
theorem d_M_takeHead_186 : decode b_M_takeHead 186 = .ok (.getfield 20, 3) := by decide +kernel
theorem d_M_takeHead_189 : decode b_M_takeHead 189 = .ok (.iconst 5, 1) := by decide +kernel
theorem d_M_takeHead_190 : decode b_M_takeHead 190 = .ok (.iaload, 1) := by decide +kernel
theorem d_M_takeHead_191 : decode b_M_takeHead 191 = .ok (.iload_n 2, 1) := by decide +kernel
theorem d_M_takeHead_192 : decode b_M_takeHead 192 = .ok (.if_icmp .lt 7, 3) := by decide +kernel
theorem d_M_takeHead_195 : decode b_M_takeHead 195 = .ok (.iconst 1, 1) := by decide +kernel
theorem d_M_takeHead_196 : decode b_M_takeHead 196 = .ok (.goto 4, 3) := by decide +kernel
theorem d_M_takeHead_199 : decode b_M_takeHead 199 = .ok (.iconst 0, 1) := by decide +kernel
theorem d_M_takeHead_200 : decode b_M_takeHead 200 = .ok (.istore_n 3, 1) := by decide +kernel
theorem d_M_takeHead_201 : decode b_M_takeHead 201 = .ok (.aload_n 0, 1) := by decide +kernel
theorem d_M_takeHead_202 : decode b_M_takeHead 202 = .ok (.getfield 94, 3) := by decide +kernel
theorem d_M_takeHead_205 : decode b_M_takeHead 205 = .ok (.ifCond .ne 16, 3) := by decide +kernel
theorem d_M_takeHead_208 : decode b_M_takeHead 208 = .ok (.iload_n 3, 1) := by decide +kernel
theorem d_M_takeHead_209 : decode b_M_takeHead 209 = .ok (.ifCond .ne 12, 3) := by decide +kernel
theorem d_M_takeHead_212 : decode b_M_takeHead 212 = .ok (.aload_n 0, 1) := by decide +kernel
theorem d_M_takeHead_213 : decode b_M_takeHead 213 = .ok (.iconst 2, 1) := by decide +kernel
theorem d_M_takeHead_214 : decode b_M_takeHead 214 = .ok (.aload_n 0, 1) := by decide +kernel
theorem d_M_takeHead_215 : decode b_M_takeHead 215 = .ok (.getfield 91, 3) := by decide +kernel
theorem d_M_takeHead_218 : decode b_M_takeHead 218 = .ok (.invokevirtual 104, 3) := by decide +kernel
theorem d_M_takeHead_221 : decode b_M_takeHead 221 = .ok (.iload_n 1, 1) := by decide +kernel
theorem d_M_takeHead_222 : decode b_M_takeHead 222 = .ok (.ireturn, 1) := by decide +kernel
theorem d_M_takeNext_0 : decode b_M_takeNext 0 = .ok (.aload_n 0, 1) := by decide +kernel
theorem d_M_takeNext_1 : decode b_M_takeNext 1 = .ok (.getfield 51, 3) := by decide +kernel
theorem d_M_takeNext_4 : decode b_M_takeNext 4 = .ok (.iload_n 1, 1) := by decide +kernel
theorem d_M_takeNext_5 : decode b_M_takeNext 5 = .ok (.aload_n 0, 1) := by decide +kernel
theorem d_M_takeNext_6 : decode b_M_takeNext 6 = .ok (.getfield 91, 3) := by decide +kernel
theorem d_M_takeNext_9 : decode b_M_takeNext 9 = .ok (.iastore, 1) := by decide +kernel
theorem d_M_takeNext_10 : decode b_M_takeNext 10 = .ok (.aload_n 0, 1) := by decide +kernel
theorem d_M_takeNext_11 : decode b_M_takeNext 11 = .ok (.getfield 30, 3) := by decide +kernel
theorem d_M_takeNext_14 : decode b_M_takeNext 14 = .ok (.bipush 8, 2) := by decide +kernel
theorem d_M_takeNext_16 : decode b_M_takeNext 16 = .ok (.iload_n 1, 1) := by decide +kernel
theorem d_M_takeNext_17 : decode b_M_takeNext 17 = .ok (.iadd, 1) := by decide +kernel
theorem d_M_takeNext_18 : decode b_M_takeNext 18 = .ok (.aload_n 0, 1) := by decide +kernel
theorem d_M_takeNext_19 : decode b_M_takeNext 19 = .ok (.invokevirtual 118, 3) := by decide +kernel
theorem d_M_takeNext_22 : decode b_M_takeNext 22 = .ok (.iastore, 1) := by decide +kernel
theorem d_M_takeNext_23 : decode b_M_takeNext 23 = .ok (.aload_n 0, 1) := by decide +kernel
theorem d_M_takeNext_24 : decode b_M_takeNext 24 = .ok (.bipush 10, 2) := by decide +kernel
theorem d_M_takeNext_26 : decode b_M_takeNext 26 = .ok (.invokevirtual 125, 3) := by decide +kernel
theorem d_M_takeNext_29 : decode b_M_takeNext 29 = .ok (.return_, 1) := by decide +kernel
theorem d_M_takeOutputs_0 : decode b_M_takeOutputs 0 = .ok (.iconst 0, 1) := by decide +kernel
theorem d_M_takeOutputs_1 : decode b_M_takeOutputs 1 = .ok (.istore_n 1, 1) := by decide +kernel
theorem d_M_takeOutputs_2 : decode b_M_takeOutputs 2 = .ok (.iload_n 1, 1) := by decide +kernel
theorem d_M_takeOutputs_3 : decode b_M_takeOutputs 3 = .ok (.aload_n 0, 1) := by decide +kernel
theorem d_M_takeOutputs_4 : decode b_M_takeOutputs 4 = .ok (.getfield 20, 3) := by decide +kernel
theorem d_M_takeOutputs_7 : decode b_M_takeOutputs 7 = .ok (.bipush 8, 2) := by decide +kernel
theorem d_M_takeOutputs_9 : decode b_M_takeOutputs 9 = .ok (.iaload, 1) := by decide +kernel
theorem d_M_takeOutputs_10 : decode b_M_takeOutputs 10 = .ok (.if_icmp .ge 45, 3) := by decide +kernel
theorem d_M_takeOutputs_13 : decode b_M_takeOutputs 13 = .ok (.aload_n 0, 1) := by decide +kernel
theorem d_M_takeOutputs_14 : decode b_M_takeOutputs 14 = .ok (.getfield 94, 3) := by decide +kernel
theorem d_M_takeOutputs_17 : decode b_M_takeOutputs 17 = .ok (.ifCond .ne 38, 3) := by decide +kernel
theorem d_M_takeOutputs_20 : decode b_M_takeOutputs 20 = .ok (.aload_n 0, 1) := by decide +kernel
theorem d_M_takeOutputs_21 : decode b_M_takeOutputs 21 = .ok (.getfield 54, 3) := by decide +kernel
theorem d_M_takeOutputs_24 : decode b_M_takeOutputs 24 = .ok (.iload_n 1, 1) := by decide +kernel
theorem d_M_takeOutputs_25 : decode b_M_takeOutputs 25 = .ok (.aload_n 0, 1) := by decide +kernel
theorem d_M_takeOutputs_26 : decode b_M_takeOutputs 26 = .ok (.getfield 91, 3) := by decide +kernel
theorem d_M_takeOutputs_29 : decode b_M_takeOutputs 29 = .ok (.iastore, 1) := by decide +kernel
theorem d_M_takeOutputs_30 : decode b_M_takeOutputs 30 = .ok (.aload_n 0, 1) := by decide +kernel
theorem d_M_takeOutputs_31 : decode b_M_takeOutputs 31 = .ok (.getfield 33, 3) := by decide +kernel
theorem d_M_takeOutputs_34 : decode b_M_takeOutputs 34 = .ok (.bipush 8, 2) := by decide +kernel
theorem d_M_takeOutputs_36 : decode b_M_takeOutputs 36 = .ok (.iload_n 1, 1) := by decide +kernel
theorem d_M_takeOutputs_37 : decode b_M_takeOutputs 37 = .ok (.iadd, 1) := by decide +kernel
theorem d_M_takeOutputs_38 : decode b_M_takeOutputs 38 = .ok (.aload_n 0, 1) := by decide +kernel
theorem d_M_takeOutputs_39 : decode b_M_takeOutputs 39 = .ok (.invokevirtual 118, 3) := by decide +kernel
theorem d_M_takeOutputs_42 : decode b_M_takeOutputs 42 = .ok (.iastore, 1) := by decide +kernel
theorem d_M_takeOutputs_43 : decode b_M_takeOutputs 43 = .ok (.aload_n 0, 1) := by decide +kernel
theorem d_M_takeOutputs_44 : decode b_M_takeOutputs 44 = .ok (.bipush 10, 2) := by decide +kernel
theorem d_M_takeOutputs_46 : decode b_M_takeOutputs 46 = .ok (.invokevirtual 125, 3) := by decide +kernel
theorem d_M_takeOutputs_49 : decode b_M_takeOutputs 49 = .ok (.iinc 1 1, 3) := by decide +kernel
theorem d_M_takeOutputs_52 : decode b_M_takeOutputs 52 = .ok (.goto (-50), 3) := by decide +kernel
theorem d_M_takeOutputs_55 : decode b_M_takeOutputs 55 = .ok (.return_, 1) := by decide +kernel
theorem d_M_takeText_0 : decode b_M_takeText 0 = .ok (.iconst 0, 1) := by decide +kernel
theorem d_M_takeText_1 : decode b_M_takeText 1 = .ok (.istore_n 1, 1) := by decide +kernel
theorem d_M_takeText_2 : decode b_M_takeText 2 = .ok (.iload_n 1, 1) := by decide +kernel
theorem d_M_takeText_3 : decode b_M_takeText 3 = .ok (.aload_n 0, 1) := by decide +kernel
theorem d_M_takeText_4 : decode b_M_takeText 4 = .ok (.getfield 20, 3) := by decide +kernel
theorem d_M_takeText_7 : decode b_M_takeText 7 = .ok (.bipush 6, 2) := by decide +kernel
theorem d_M_takeText_9 : decode b_M_takeText 9 = .ok (.iaload, 1) := by decide +kernel
theorem d_M_takeText_10 : decode b_M_takeText 10 = .ok (.if_icmp .ge 37, 3) := by decide +kernel
theorem d_M_takeText_13 : decode b_M_takeText 13 = .ok (.aload_n 0, 1) := by decide +kernel
theorem d_M_takeText_14 : decode b_M_takeText 14 = .ok (.getfield 94, 3) := by decide +kernel
theorem d_M_takeText_17 : decode b_M_takeText 17 = .ok (.ifCond .ne 30, 3) := by decide +kernel
theorem d_M_takeText_20 : decode b_M_takeText 20 = .ok (.aload_n 0, 1) := by decide +kernel
theorem d_M_takeText_21 : decode b_M_takeText 21 = .ok (.getfield 24, 3) := by decide +kernel
theorem d_M_takeText_24 : decode b_M_takeText 24 = .ok (.bipush 6, 2) := by decide +kernel
theorem d_M_takeText_26 : decode b_M_takeText 26 = .ok (.iload_n 1, 1) := by decide +kernel
theorem d_M_takeText_27 : decode b_M_takeText 27 = .ok (.iadd, 1) := by decide +kernel
theorem d_M_takeText_28 : decode b_M_takeText 28 = .ok (.aload_n 0, 1) := by decide +kernel
theorem d_M_takeText_29 : decode b_M_takeText 29 = .ok (.iconst 1, 1) := by decide +kernel
theorem d_M_takeText_30 : decode b_M_takeText 30 = .ok (.iload_n 1, 1) := by decide +kernel
theorem d_M_takeText_31 : decode b_M_takeText 31 = .ok (.invokevirtual 129, 3) := by decide +kernel
theorem d_M_takeText_34 : decode b_M_takeText 34 = .ok (.iastore, 1) := by decide +kernel
theorem d_M_takeText_35 : decode b_M_takeText 35 = .ok (.aload_n 0, 1) := by decide +kernel
theorem d_M_takeText_36 : decode b_M_takeText 36 = .ok (.bipush 10, 2) := by decide +kernel
theorem d_M_takeText_38 : decode b_M_takeText 38 = .ok (.invokevirtual 125, 3) := by decide +kernel
theorem d_M_takeText_41 : decode b_M_takeText 41 = .ok (.iinc 1 1, 3) := by decide +kernel
theorem d_M_takeText_44 : decode b_M_takeText 44 = .ok (.goto (-42), 3) := by decide +kernel
theorem d_M_takeText_47 : decode b_M_takeText 47 = .ok (.iconst 0, 1) := by decide +kernel
theorem d_M_takeText_48 : decode b_M_takeText 48 = .ok (.istore_n 1, 1) := by decide +kernel
theorem d_M_takeText_49 : decode b_M_takeText 49 = .ok (.iload_n 1, 1) := by decide +kernel
theorem d_M_takeText_50 : decode b_M_takeText 50 = .ok (.aload_n 0, 1) := by decide +kernel
theorem d_M_takeText_51 : decode b_M_takeText 51 = .ok (.getfield 20, 3) := by decide +kernel
theorem d_M_takeText_54 : decode b_M_takeText 54 = .ok (.bipush 7, 2) := by decide +kernel
theorem d_M_takeText_56 : decode b_M_takeText 56 = .ok (.iaload, 1) := by decide +kernel
theorem d_M_takeText_57 : decode b_M_takeText 57 = .ok (.if_icmp .ge 42, 3) := by decide +kernel
theorem d_M_takeText_60 : decode b_M_takeText 60 = .ok (.aload_n 0, 1) := by decide +kernel
theorem d_M_takeText_61 : decode b_M_takeText 61 = .ok (.getfield 94, 3) := by decide +kernel
theorem d_M_takeText_64 : decode b_M_takeText 64 = .ok (.ifCond .ne 35, 3) := by decide +kernel
theorem d_M_takeText_67 : decode b_M_takeText 67 = .ok (.aload_n 0, 1) := by decide +kernel
theorem d_M_takeText_68 : decode b_M_takeText 68 = .ok (.getfield 27, 3) := by decide +kernel
theorem d_M_takeText_71 : decode b_M_takeText 71 = .ok (.bipush 8, 2) := by decide +kernel
theorem d_M_takeText_73 : decode b_M_takeText 73 = .ok (.iload_n 1, 1) := by decide +kernel
theorem d_M_takeText_74 : decode b_M_takeText 74 = .ok (.iadd, 1) := by decide +kernel
theorem d_M_takeText_75 : decode b_M_takeText 75 = .ok (.aload_n 0, 1) := by decide +kernel
theorem d_M_takeText_76 : decode b_M_takeText 76 = .ok (.iconst 2, 1) := by decide +kernel
theorem d_M_takeText_77 : decode b_M_takeText 77 = .ok (.iload_n 1, 1) := by decide +kernel
theorem d_M_takeText_78 : decode b_M_takeText 78 = .ok (.invokevirtual 129, 3) := by decide +kernel
theorem d_M_takeText_81 : decode b_M_takeText 81 = .ok (.iastore, 1) := by decide +kernel
theorem d_M_takeText_82 : decode b_M_takeText 82 = .ok (.aload_n 0, 1) := by decide +kernel
theorem d_M_takeText_83 : decode b_M_takeText 83 = .ok (.bipush 32, 2) := by decide +kernel
theorem d_M_takeText_85 : decode b_M_takeText 85 = .ok (.invokevirtual 125, 3) := by decide +kernel
theorem d_M_takeText_88 : decode b_M_takeText 88 = .ok (.aload_n 0, 1) := by decide +kernel
theorem d_M_takeText_89 : decode b_M_takeText 89 = .ok (.iload_n 1, 1) := by decide +kernel
theorem d_M_takeText_90 : decode b_M_takeText 90 = .ok (.invokevirtual 133, 3) := by decide +kernel
theorem d_M_takeText_93 : decode b_M_takeText 93 = .ok (.iinc 1 1, 3) := by decide +kernel
theorem d_M_takeText_96 : decode b_M_takeText 96 = .ok (.goto (-47), 3) := by decide +kernel
theorem d_M_takeText_99 : decode b_M_takeText 99 = .ok (.aload_n 0, 1) := by decide +kernel
theorem d_M_takeText_100 : decode b_M_takeText 100 = .ok (.invokevirtual 136, 3) := by decide +kernel
theorem d_M_takeText_103 : decode b_M_takeText 103 = .ok (.iconst 0, 1) := by decide +kernel
theorem d_M_takeText_104 : decode b_M_takeText 104 = .ok (.istore_n 1, 1) := by decide +kernel
theorem d_M_takeText_105 : decode b_M_takeText 105 = .ok (.iload_n 1, 1) := by decide +kernel
theorem d_M_takeText_106 : decode b_M_takeText 106 = .ok (.aload_n 0, 1) := by decide +kernel
theorem d_M_takeText_107 : decode b_M_takeText 107 = .ok (.getfield 20, 3) := by decide +kernel
theorem d_M_takeText_110 : decode b_M_takeText 110 = .ok (.bipush 9, 2) := by decide +kernel
theorem d_M_takeText_112 : decode b_M_takeText 112 = .ok (.iaload, 1) := by decide +kernel
theorem d_M_takeText_113 : decode b_M_takeText 113 = .ok (.if_icmp .ge 98, 3) := by decide +kernel
theorem d_M_takeText_116 : decode b_M_takeText 116 = .ok (.aload_n 0, 1) := by decide +kernel
theorem d_M_takeText_117 : decode b_M_takeText 117 = .ok (.getfield 94, 3) := by decide +kernel
theorem d_M_takeText_120 : decode b_M_takeText 120 = .ok (.ifCond .ne 91, 3) := by decide +kernel
theorem d_M_takeText_123 : decode b_M_takeText 123 = .ok (.aload_n 0, 1) := by decide +kernel
theorem d_M_takeText_124 : decode b_M_takeText 124 = .ok (.getfield 36, 3) := by decide +kernel
theorem d_M_takeText_127 : decode b_M_takeText 127 = .ok (.sipush 300, 3) := by decide +kernel
theorem d_M_takeText_130 : decode b_M_takeText 130 = .ok (.iload_n 1, 1) := by decide +kernel
theorem d_M_takeText_131 : decode b_M_takeText 131 = .ok (.iadd, 1) := by decide +kernel
theorem d_M_takeText_132 : decode b_M_takeText 132 = .ok (.aload_n 0, 1) := by decide +kernel
theorem d_M_takeText_133 : decode b_M_takeText 133 = .ok (.iconst 3, 1) := by decide +kernel
theorem d_M_takeText_134 : decode b_M_takeText 134 = .ok (.iload_n 1, 1) := by decide +kernel
theorem d_M_takeText_135 : decode b_M_takeText 135 = .ok (.invokevirtual 129, 3) := by decide +kernel
theorem d_M_takeText_138 : decode b_M_takeText 138 = .ok (.iastore, 1) := by decide +kernel
theorem d_M_takeText_139 : decode b_M_takeText 139 = .ok (.aload_n 0, 1) := by decide +kernel
theorem d_M_takeText_140 : decode b_M_takeText 140 = .ok (.bipush 32, 2) := by decide +kernel
theorem d_M_takeText_142 : decode b_M_takeText 142 = .ok (.invokevirtual 125, 3) := by decide +kernel
theorem d_M_takeText_145 : decode b_M_takeText 145 = .ok (.aload_n 0, 1) := by decide +kernel
theorem d_M_takeText_146 : decode b_M_takeText 146 = .ok (.getfield 57, 3) := by decide +kernel
theorem d_M_takeText_149 : decode b_M_takeText 149 = .ok (.iload_n 1, 1) := by decide +kernel
theorem d_M_takeText_150 : decode b_M_takeText 150 = .ok (.aload_n 0, 1) := by decide +kernel
theorem d_M_takeText_151 : decode b_M_takeText 151 = .ok (.getfield 91, 3) := by decide +kernel
theorem d_M_takeText_154 : decode b_M_takeText 154 = .ok (.iastore, 1) := by decide +kernel
theorem d_M_takeText_155 : decode b_M_takeText 155 = .ok (.aload_n 0, 1) := by decide +kernel
theorem d_M_takeText_156 : decode b_M_takeText 156 = .ok (.getfield 39, 3) := by decide +kernel
theorem d_M_takeText_159 : decode b_M_takeText 159 = .ok (.sipush 300, 3) := by decide +kernel
theorem d_M_takeText_162 : decode b_M_takeText 162 = .ok (.iload_n 1, 1) := by decide +kernel
theorem d_M_takeText_163 : decode b_M_takeText 163 = .ok (.iadd, 1) := by decide +kernel
theorem d_M_takeText_164 : decode b_M_takeText 164 = .ok (.aload_n 0, 1) := by decide +kernel
theorem d_M_takeText_165 : decode b_M_takeText 165 = .ok (.invokevirtual 118, 3) := by decide +kernel
theorem d_M_takeText_168 : decode b_M_takeText 168 = .ok (.iastore, 1) := by decide +kernel
theorem d_M_takeText_169 : decode b_M_takeText 169 = .ok (.aload_n 0, 1) := by decide +kernel
theorem d_M_takeText_170 : decode b_M_takeText 170 = .ok (.bipush 32, 2) := by decide +kernel
theorem d_M_takeText_172 : decode b_M_takeText 172 = .ok (.invokevirtual 125, 3) := by decide +kernel
theorem d_M_takeText_175 : decode b_M_takeText 175 = .ok (.aload_n 0, 1) := by decide +kernel
theorem d_M_takeText_176 : decode b_M_takeText 176 = .ok (.getfield 60, 3) := by decide +kernel
theorem d_M_takeText_179 : decode b_M_takeText 179 = .ok (.iload_n 1, 1) := by decide +kernel
theorem d_M_takeText_180 : decode b_M_takeText 180 = .ok (.aload_n 0, 1) := by decide +kernel
theorem d_M_takeText_181 : decode b_M_takeText 181 = .ok (.getfield 91, 3) := by decide +kernel
theorem d_M_takeText_184 : decode b_M_takeText 184 = .ok (.iastore, 1) := by decide +kernel
theorem d_M_takeText_185 : decode b_M_takeText 185 = .ok (.aload_n 0, 1) := by decide +kernel
theorem d_M_takeText_186 : decode b_M_takeText 186 = .ok (.getfield 42, 3) := by decide +kernel
theorem d_M_takeText_189 : decode b_M_takeText 189 = .ok (.sipush 300, 3) := by decide +kernel
theorem d_M_takeText_192 : decode b_M_takeText 192 = .ok (.iload_n 1, 1) := by decide +kernel
theorem d_M_takeText_193 : decode b_M_takeText 193 = .ok (.iadd, 1) := by decide +kernel
theorem d_M_takeText_194 : decode b_M_takeText 194 = .ok (.aload_n 0, 1) := by decide +kernel
theorem d_M_takeText_195 : decode b_M_takeText 195 = .ok (.invokevirtual 118, 3) := by decide +kernel
theorem d_M_takeText_198 : decode b_M_takeText 198 = .ok (.iastore, 1) := by decide +kernel
theorem d_M_takeText_199 : decode b_M_takeText 199 = .ok (.aload_n 0, 1) := by decide +kernel
theorem d_M_takeText_200 : decode b_M_takeText 200 = .ok (.bipush 10, 2) := by decide +kernel
theorem d_M_takeText_202 : decode b_M_takeText 202 = .ok (.invokevirtual 125, 3) := by decide +kernel
theorem d_M_takeText_205 : decode b_M_takeText 205 = .ok (.iinc 1 1, 3) := by decide +kernel
theorem d_M_takeText_208 : decode b_M_takeText 208 = .ok (.goto (-103), 3) := by decide +kernel
theorem d_M_takeText_211 : decode b_M_takeText 211 = .ok (.return_, 1) := by decide +kernel
theorem d_M_delta_0 : decode b_M_delta 0 = .ok (.aload_n 0, 1) := by decide +kernel
theorem d_M_delta_1 : decode b_M_delta 1 = .ok (.getfield 91, 3) := by decide +kernel
theorem d_M_delta_4 : decode b_M_delta 4 = .ok (.istore_n 3, 1) := by decide +kernel
theorem d_M_delta_5 : decode b_M_delta 5 = .ok (.iconst 0, 1) := by decide +kernel
theorem d_M_delta_6 : decode b_M_delta 6 = .ok (.istore 4, 2) := by decide +kernel
theorem d_M_delta_8 : decode b_M_delta 8 = .ok (.iconst 1, 1) := by decide +kernel
theorem d_M_delta_9 : decode b_M_delta 9 = .ok (.istore 5, 2) := by decide +kernel
theorem d_M_delta_11 : decode b_M_delta 11 = .ok (.iconst 0, 1) := by decide +kernel
theorem d_M_delta_12 : decode b_M_delta 12 = .ok (.istore 6, 2) := by decide +kernel
theorem d_M_delta_14 : decode b_M_delta 14 = .ok (.iload 6, 2) := by decide +kernel
theorem d_M_delta_16 : decode b_M_delta 16 = .ok (.iconst 3, 1) := by decide +kernel
theorem d_M_delta_17 : decode b_M_delta 17 = .ok (.if_icmp .ge 88, 3) := by decide +kernel
theorem d_M_delta_20 : decode b_M_delta 20 = .ok (.iload 5, 2) := by decide +kernel
theorem d_M_delta_22 : decode b_M_delta 22 = .ok (.ifCond .eq 83, 3) := by decide +kernel
theorem d_M_delta_25 : decode b_M_delta 25 = .ok (.aload_n 0, 1) := by decide +kernel
theorem d_M_delta_26 : decode b_M_delta 26 = .ok (.getfield 94, 3) := by decide +kernel
theorem d_M_delta_29 : decode b_M_delta 29 = .ok (.ifCond .ne 76, 3) := by decide +kernel
theorem d_M_delta_32 : decode b_M_delta 32 = .ok (.aload_n 0, 1) := by decide +kernel
theorem d_M_delta_33 : decode b_M_delta 33 = .ok (.invokevirtual 100, 3) := by decide +kernel
theorem d_M_delta_36 : decode b_M_delta 36 = .ok (.istore 7, 2) := by decide +kernel
theorem d_M_delta_38 : decode b_M_delta 38 = .ok (.iload 7, 2) := by decide +kernel
theorem d_M_delta_40 : decode b_M_delta 40 = .ok (.ifCond .ge 12, 3) := by decide +kernel
theorem d_M_delta_43 : decode b_M_delta 43 = .ok (.aload_n 0, 1) := by decide +kernel
theorem d_M_delta_44 : decode b_M_delta 44 = .ok (.iconst 1, 1) := by decide +kernel
theorem d_M_delta_45 : decode b_M_delta 45 = .ok (.aload_n 0, 1) := by decide +kernel
theorem d_M_delta_46 : decode b_M_delta 46 = .ok (.getfield 91, 3) := by decide +kernel
theorem d_M_delta_49 : decode b_M_delta 49 = .ok (.invokevirtual 104, 3) := by decide +kernel
theorem d_M_delta_52 : decode b_M_delta 52 = .ok (.iload 4, 2) := by decide +kernel
theorem d_M_delta_54 : decode b_M_delta 54 = .ok (.iload 7, 2) := by decide +kernel
theorem d_M_delta_56 : decode b_M_delta 56 = .ok (.bipush 127, 2) := by decide +kernel
theorem d_M_delta_58 : decode b_M_delta 58 = .ok (.iand, 1) := by decide +kernel
theorem d_M_delta_59 : decode b_M_delta 59 = .ok (.bipush 7, 2) := by decide +kernel
theorem d_M_delta_61 : decode b_M_delta 61 = .ok (.iload 6, 2) := by decide +kernel
theorem d_M_delta_63 : decode b_M_delta 63 = .ok (.imul, 1) := by decide +kernel
theorem d_M_delta_64 : decode b_M_delta 64 = .ok (.ishl, 1) := by decide +kernel
theorem d_M_delta_65 : decode b_M_delta 65 = .ok (.iadd, 1) := by decide +kernel
theorem d_M_delta_66 : decode b_M_delta 66 = .ok (.istore 4, 2) := by decide +kernel
theorem d_M_delta_68 : decode b_M_delta 68 = .ok (.iload 7, 2) := by decide +kernel
theorem d_M_delta_70 : decode b_M_delta 70 = .ok (.bipush 127, 2) := by decide +kernel
theorem d_M_delta_72 : decode b_M_delta 72 = .ok (.if_icmp .le 7, 3) := by decide +kernel
theorem d_M_delta_75 : decode b_M_delta 75 = .ok (.iconst 1, 1) := by decide +kernel
theorem d_M_delta_76 : decode b_M_delta 76 = .ok (.goto 4, 3) := by decide +kernel
theorem d_M_delta_79 : decode b_M_delta 79 = .ok (.iconst 0, 1) := by decide +kernel
theorem d_M_delta_80 : decode b_M_delta 80 = .ok (.istore 5, 2) := by decide +kernel
theorem d_M_delta_82 : decode b_M_delta 82 = .ok (.aload_n 0, 1) := by decide +kernel
theorem d_M_delta_83 : decode b_M_delta 83 = .ok (.getfield 94, 3) := by decide +kernel
theorem d_M_delta_86 : decode b_M_delta 86 = .ok (.ifCond .ne 13, 3) := by decide +kernel
theorem d_M_delta_89 : decode b_M_delta 89 = .ok (.aload_n 0, 1) := by decide +kernel
theorem d_M_delta_90 : decode b_M_delta 90 = .ok (.dup, 1) := by decide +kernel
theorem d_M_delta_91 : decode b_M_delta 91 = .ok (.getfield 91, 3) := by decide +kernel
theorem d_M_delta_94 : decode b_M_delta 94 = .ok (.iconst 1, 1) := by decide +kernel
theorem d_M_delta_95 : decode b_M_delta 95 = .ok (.iadd, 1) := by decide +kernel
theorem d_M_delta_96 : decode b_M_delta 96 = .ok (.putfield 91, 3) := by decide +kernel
theorem d_M_delta_99 : decode b_M_delta 99 = .ok (.iinc 6 1, 3) := by decide +kernel
theorem d_M_delta_102 : decode b_M_delta 102 = .ok (.goto (-88), 3) := by decide +kernel
theorem d_M_delta_105 : decode b_M_delta 105 = .ok (.iload 5, 2) := by decide +kernel
theorem d_M_delta_107 : decode b_M_delta 107 = .ok (.ifCond .eq 12, 3) := by decide +kernel
theorem d_M_delta_110 : decode b_M_delta 110 = .ok (.aload_n 0, 1) := by decide +kernel
theorem d_M_delta_111 : decode b_M_delta 111 = .ok (.iconst 1, 1) := by decide +kernel
theorem d_M_delta_112 : decode b_M_delta 112 = .ok (.aload_n 0, 1) := by decide +kernel
theorem d_M_delta_113 : decode b_M_delta 113 = .ok (.getfield 91, 3) := by decide +kernel
theorem d_M_delta_116 : decode b_M_delta 116 = .ok (.invokevirtual 104, 3) := by decide +kernel
theorem d_M_delta_119 : decode b_M_delta 119 = .ok (.aload_n 0, 1) := by decide +kernel
theorem d_M_delta_120 : decode b_M_delta 120 = .ok (.getfield 94, 3) := by decide +kernel
theorem d_M_delta_123 : decode b_M_delta 123 = .ok (.ifCond .ne 21, 3) := by decide +kernel
theorem d_M_delta_126 : decode b_M_delta 126 = .ok (.iload 4, 2) := by decide +kernel
theorem d_M_delta_128 : decode b_M_delta 128 = .ok (.iload_n 2, 1) := by decide +kernel
theorem d_M_delta_129 : decode b_M_delta 129 = .ok (.if_icmp .lt 9, 3) := by decide +kernel
theorem d_M_delta_132 : decode b_M_delta 132 = .ok (.iload 4, 2) := by decide +kernel
theorem d_M_delta_134 : decode b_M_delta 134 = .ok (.iload_n 1, 1) := by decide +kernel
theorem d_M_delta_135 : decode b_M_delta 135 = .ok (.if_icmp .le 9, 3) := by decide +kernel
theorem d_M_delta_138 : decode b_M_delta 138 = .ok (.aload_n 0, 1) := by decide +kernel
theorem d_M_delta_139 : decode b_M_delta 139 = .ok (.iconst 3, 1) := by decide +kernel
theorem d_M_delta_140 : decode b_M_delta 140 = .ok (.iload_n 3, 1) := by decide +kernel
theorem d_M_delta_141 : decode b_M_delta 141 = .ok (.invokevirtual 104, 3) := by decide +kernel
theorem d_M_delta_144 : decode b_M_delta 144 = .ok (.iload_n 1, 1) := by decide +kernel
theorem d_M_delta_145 : decode b_M_delta 145 = .ok (.iload 4, 2) := by decide +kernel
theorem d_M_delta_147 : decode b_M_delta 147 = .ok (.isub, 1) := by decide +kernel
theorem d_M_delta_148 : decode b_M_delta 148 = .ok (.ireturn, 1) := by decide +kernel
theorem d_M_takeBinary_0 : decode b_M_takeBinary 0 = .ok (.iconst 1, 1) := by decide +kernel
theorem d_M_takeBinary_1 : decode b_M_takeBinary 1 = .ok (.istore_n 1, 1) := by decide +kernel
theorem d_M_takeBinary_2 : decode b_M_takeBinary 2 = .ok (.iload_n 1, 1) := by decide +kernel
theorem d_M_takeBinary_3 : decode b_M_takeBinary 3 = .ok (.aload_n 0, 1) := by decide +kernel
theorem d_M_takeBinary_4 : decode b_M_takeBinary 4 = .ok (.getfield 20, 3) := by decide +kernel
theorem d_M_takeBinary_7 : decode b_M_takeBinary 7 = .ok (.iconst 5, 1) := by decide +kernel
theorem d_M_takeBinary_8 : decode b_M_takeBinary 8 = .ok (.iaload, 1) := by decide +kernel
theorem d_M_takeBinary_9 : decode b_M_takeBinary 9 = .ok (.if_icmp .gt 169, 3) := by decide +kernel
theorem d_M_takeBinary_12 : decode b_M_takeBinary 12 = .ok (.iload_n 1, 1) := by decide +kernel
theorem d_M_takeBinary_13 : decode b_M_takeBinary 13 = .ok (.iconst 1, 1) := by decide +kernel
theorem d_M_takeBinary_14 : decode b_M_takeBinary 14 = .ok (.isub, 1) := by decide +kernel
theorem d_M_takeBinary_15 : decode b_M_takeBinary 15 = .ok (.istore_n 2, 1) := by decide +kernel
theorem d_M_takeBinary_16 : decode b_M_takeBinary 16 = .ok (.iload_n 2, 1) := by decide +kernel
theorem d_M_takeBinary_17 : decode b_M_takeBinary 17 = .ok (.aload_n 0, 1) := by decide +kernel
theorem d_M_takeBinary_18 : decode b_M_takeBinary 18 = .ok (.getfield 20, 3) := by decide +kernel
theorem d_M_takeBinary_21 : decode b_M_takeBinary 21 = .ok (.bipush 6, 2) := by decide +kernel
theorem d_M_takeBinary_23 : decode b_M_takeBinary 23 = .ok (.iaload, 1) := by decide +kernel
theorem d_M_takeBinary_24 : decode b_M_takeBinary 24 = .ok (.if_icmp .ge 7, 3) := by decide +kernel
theorem d_M_takeBinary_27 : decode b_M_takeBinary 27 = .ok (.iconst 1, 1) := by decide +kernel
theorem d_M_takeBinary_28 : decode b_M_takeBinary 28 = .ok (.goto 4, 3) := by decide +kernel
theorem d_M_takeBinary_31 : decode b_M_takeBinary 31 = .ok (.iconst 0, 1) := by decide +kernel
theorem d_M_takeBinary_32 : decode b_M_takeBinary 32 = .ok (.istore_n 3, 1) := by decide +kernel
theorem d_M_takeBinary_33 : decode b_M_takeBinary 33 = .ok (.iload_n 3, 1) := by decide +kernel
theorem d_M_takeBinary_34 : decode b_M_takeBinary 34 = .ok (.ifCond .ne 26, 3) := by decide +kernel
theorem d_M_takeBinary_37 : decode b_M_takeBinary 37 = .ok (.iload_n 2, 1) := by decide +kernel
theorem d_M_takeBinary_38 : decode b_M_takeBinary 38 = .ok (.aload_n 0, 1) := by decide +kernel
theorem d_M_takeBinary_39 : decode b_M_takeBinary 39 = .ok (.getfield 20, 3) := by decide +kernel
theorem d_M_takeBinary_42 : decode b_M_takeBinary 42 = .ok (.bipush 6, 2) := by decide +kernel
theorem d_M_takeBinary_44 : decode b_M_takeBinary 44 = .ok (.iaload, 1) := by decide +kernel
theorem d_M_takeBinary_45 : decode b_M_takeBinary 45 = .ok (.aload_n 0, 1) := by decide +kernel
theorem d_M_takeBinary_46 : decode b_M_takeBinary 46 = .ok (.getfield 20, 3) := by decide +kernel
theorem d_M_takeBinary_49 : decode b_M_takeBinary 49 = .ok (.bipush 7, 2) := by decide +kernel
theorem d_M_takeBinary_51 : decode b_M_takeBinary 51 = .ok (.iaload, 1) := by decide +kernel
theorem d_M_takeBinary_52 : decode b_M_takeBinary 52 = .ok (.iadd, 1) := by decide +kernel
theorem d_M_takeBinary_53 : decode b_M_takeBinary 53 = .ok (.if_icmp .ge 7, 3) := by decide +kernel
theorem d_M_takeBinary_56 : decode b_M_takeBinary 56 = .ok (.iconst 1, 1) := by decide +kernel
theorem d_M_takeBinary_57 : decode b_M_takeBinary 57 = .ok (.goto 4, 3) := by decide +kernel
theorem d_M_takeBinary_60 : decode b_M_takeBinary 60 = .ok (.iconst 0, 1) := by decide +kernel
theorem d_M_takeBinary_61 : decode b_M_takeBinary 61 = .ok (.istore 4, 2) := by decide +kernel
theorem d_M_takeBinary_63 : decode b_M_takeBinary 63 = .ok (.aload_n 0, 1) := by decide +kernel
theorem d_M_takeBinary_64 : decode b_M_takeBinary 64 = .ok (.iload_n 1, 1) := by decide +kernel
theorem d_M_takeBinary_65 : decode b_M_takeBinary 65 = .ok (.iload_n 3, 1) := by decide +kernel
theorem d_M_takeBinary_66 : decode b_M_takeBinary 66 = .ok (.ifCond .eq 7, 3) := by decide +kernel
theorem d_M_takeBinary_69 : decode b_M_takeBinary 69 = .ok (.iconst 1, 1) := by decide +kernel
theorem d_M_takeBinary_70 : decode b_M_takeBinary 70 = .ok (.goto 13, 3) := by decide +kernel
theorem d_M_takeBinary_73 : decode b_M_takeBinary 73 = .ok (.iload 4, 2) := by decide +kernel
theorem d_M_takeBinary_75 : decode b_M_takeBinary 75 = .ok (.ifCond .eq 7, 3) := by decide +kernel
theorem d_M_takeBinary_78 : decode b_M_takeBinary 78 = .ok (.iconst 2, 1) := by decide +kernel
theorem d_M_takeBinary_79 : decode b_M_takeBinary 79 = .ok (.goto 4, 3) := by decide +kernel
theorem d_M_takeBinary_82 : decode b_M_takeBinary 82 = .ok (.iconst 3, 1) := by decide +kernel
theorem d_M_takeBinary_83 : decode b_M_takeBinary 83 = .ok (.iload_n 3, 1) := by decide +kernel
theorem d_M_takeBinary_84 : decode b_M_takeBinary 84 = .ok (.ifCond .eq 7, 3) := by decide +kernel
theorem d_M_takeBinary_87 : decode b_M_takeBinary 87 = .ok (.iload_n 2, 1) := by decide +kernel
theorem d_M_takeBinary_88 : decode b_M_takeBinary 88 = .ok (.goto 37, 3) := by decide +kernel
theorem d_M_takeBinary_91 : decode b_M_takeBinary 91 = .ok (.iload 4, 2) := by decide +kernel
theorem d_M_takeBinary_93 : decode b_M_takeBinary 93 = .ok (.ifCond .eq 15, 3) := by decide +kernel
theorem d_M_takeBinary_96 : decode b_M_takeBinary 96 = .ok (.iload_n 2, 1) := by decide +kernel
theorem d_M_takeBinary_97 : decode b_M_takeBinary 97 = .ok (.aload_n 0, 1) := by decide +kernel
theorem d_M_takeBinary_98 : decode b_M_takeBinary 98 = .ok (.getfield 20, 3) := by decide +kernel
theorem d_M_takeBinary_101 : decode b_M_takeBinary 101 = .ok (.bipush 6, 2) := by decide +kernel
theorem d_M_takeBinary_103 : decode b_M_takeBinary 103 = .ok (.iaload, 1) := by decide +kernel
theorem d_M_takeBinary_104 : decode b_M_takeBinary 104 = .ok (.isub, 1) := by decide +kernel
theorem d_M_takeBinary_105 : decode b_M_takeBinary 105 = .ok (.goto 20, 3) := by decide +kernel
theorem d_M_takeBinary_108 : decode b_M_takeBinary 108 = .ok (.iload_n 2, 1) := by decide +kernel
theorem d_M_takeBinary_109 : decode b_M_takeBinary 109 = .ok (.aload_n 0, 1) := by decide +kernel
theorem d_M_takeBinary_110 : decode b_M_takeBinary 110 = .ok (.getfield 20, 3) := by decide +kernel
theorem d_M_takeBinary_113 : decode b_M_takeBinary 113 = .ok (.bipush 6, 2) := by decide +kernel
theorem d_M_takeBinary_115 : decode b_M_takeBinary 115 = .ok (.iaload, 1) := by decide +kernel
theorem d_M_takeBinary_116 : decode b_M_takeBinary 116 = .ok (.isub, 1) := by decide +kernel
theorem d_M_takeBinary_117 : decode b_M_takeBinary 117 = .ok (.aload_n 0, 1) := by decide +kernel
theorem d_M_takeBinary_118 : decode b_M_takeBinary 118 = .ok (.getfield 20, 3) := by decide +kernel
theorem d_M_takeBinary_121 : decode b_M_takeBinary 121 = .ok (.bipush 7, 2) := by decide +kernel
theorem d_M_takeBinary_123 : decode b_M_takeBinary 123 = .ok (.iaload, 1) := by decide +kernel
theorem d_M_takeBinary_124 : decode b_M_takeBinary 124 = .ok (.isub, 1) := by decide +kernel
theorem d_M_takeBinary_125 : decode b_M_takeBinary 125 = .ok (.invokevirtual 121, 3) := by decide +kernel
theorem d_M_takeBinary_128 : decode b_M_takeBinary 128 = .ok (.iload_n 3, 1) := by decide +kernel
theorem d_M_takeBinary_129 : decode b_M_takeBinary 129 = .ok (.ifCond .eq 18, 3) := by decide +kernel
theorem d_M_takeBinary_132 : decode b_M_takeBinary 132 = .ok (.aload_n 0, 1) := by decide +kernel
theorem d_M_takeBinary_133 : decode b_M_takeBinary 133 = .ok (.getfield 24, 3) := by decide +kernel
theorem d_M_takeBinary_136 : decode b_M_takeBinary 136 = .ok (.bipush 6, 2) := by decide +kernel
theorem d_M_takeBinary_138 : decode b_M_takeBinary 138 = .ok (.iload_n 2, 1) := by decide +kernel
theorem d_M_takeBinary_139 : decode b_M_takeBinary 139 = .ok (.iadd, 1) := by decide +kernel
theorem d_M_takeBinary_140 : decode b_M_takeBinary 140 = .ok (.iconst 2, 1) := by decide +kernel
theorem d_M_takeBinary_141 : decode b_M_takeBinary 141 = .ok (.iload_n 1, 1) := by decide +kernel
theorem d_M_takeBinary_142 : decode b_M_takeBinary 142 = .ok (.imul, 1) := by decide +kernel
theorem d_M_takeBinary_143 : decode b_M_takeBinary 143 = .ok (.iastore, 1) := by decide +kernel
theorem d_M_takeBinary_144 : decode b_M_takeBinary 144 = .ok (.goto 28, 3) := by decide +kernel
theorem d_M_takeBinary_147 : decode b_M_takeBinary 147 = .ok (.iload 4, 2) := by decide +kernel
theorem d_M_takeBinary_149 : decode b_M_takeBinary 149 = .ok (.ifCond .eq 23, 3) := by decide +kernel
theorem d_M_takeBinary_152 : decode b_M_takeBinary 152 = .ok (.aload_n 0, 1) := by decide +kernel
theorem d_M_takeBinary_153 : decode b_M_takeBinary 153 = .ok (.getfield 27, 3) := by decide +kernel
theorem d_M_takeBinary_156 : decode b_M_takeBinary 156 = .ok (.bipush 8, 2) := by decide +kernel
theorem d_M_takeBinary_158 : decode b_M_takeBinary 158 = .ok (.iload_n 2, 1) := by decide +kernel
theorem d_M_takeBinary_159 : decode b_M_takeBinary 159 = .ok (.iadd, 1) := by decide +kernel
theorem d_M_takeBinary_160 : decode b_M_takeBinary 160 = .ok (.aload_n 0, 1) := by decide +kernel
theorem d_M_takeBinary_161 : decode b_M_takeBinary 161 = .ok (.getfield 20, 3) := by decide +kernel
theorem d_M_takeBinary_164 : decode b_M_takeBinary 164 = .ok (.bipush 6, 2) := by decide +kernel
theorem d_M_takeBinary_166 : decode b_M_takeBinary 166 = .ok (.iaload, 1) := by decide +kernel
theorem d_M_takeBinary_167 : decode b_M_takeBinary 167 = .ok (.isub, 1) := by decide +kernel
theorem d_M_takeBinary_168 : decode b_M_takeBinary 168 = .ok (.iconst 2, 1) := by decide +kernel
theorem d_M_takeBinary_169 : decode b_M_takeBinary 169 = .ok (.iload_n 1, 1) := by decide +kernel
theorem d_M_takeBinary_170 : decode b_M_takeBinary 170 = .ok (.imul, 1) := by decide +kernel
theorem d_M_takeBinary_171 : decode b_M_takeBinary 171 = .ok (.iastore, 1) := by decide +kernel
theorem d_M_takeBinary_172 : decode b_M_takeBinary 172 = .ok (.iinc 1 1, 3) := by decide +kernel
theorem d_M_takeBinary_175 : decode b_M_takeBinary 175 = .ok (.goto (-173), 3) := by decide +kernel
theorem d_M_takeBinary_178 : decode b_M_takeBinary 178 = .ok (.iconst 0, 1) := by decide +kernel
theorem d_M_takeBinary_179 : decode b_M_takeBinary 179 = .ok (.istore_n 1, 1) := by decide +kernel
theorem d_M_takeBinary_180 : decode b_M_takeBinary 180 = .ok (.iload_n 1, 1) := by decide +kernel
theorem d_M_takeBinary_181 : decode b_M_takeBinary 181 = .ok (.aload_n 0, 1) := by decide +kernel
theorem d_M_takeBinary_182 : decode b_M_takeBinary 182 = .ok (.getfield 20, 3) := by decide +kernel
theorem d_M_takeBinary_185 : decode b_M_takeBinary 185 = .ok (.bipush 7, 2) := by decide +kernel
theorem d_M_takeBinary_187 : decode b_M_takeBinary 187 = .ok (.iaload, 1) := by decide +kernel
theorem d_M_takeBinary_188 : decode b_M_takeBinary 188 = .ok (.if_icmp .ge 21, 3) := by decide +kernel
theorem d_M_takeBinary_191 : decode b_M_takeBinary 191 = .ok (.aload_n 0, 1) := by decide +kernel
theorem d_M_takeBinary_192 : decode b_M_takeBinary 192 = .ok (.getfield 94, 3) := by decide +kernel
theorem d_M_takeBinary_195 : decode b_M_takeBinary 195 = .ok (.ifCond .ne 14, 3) := by decide +kernel
theorem d_M_takeBinary_198 : decode b_M_takeBinary 198 = .ok (.aload_n 0, 1) := by decide +kernel
theorem d_M_takeBinary_199 : decode b_M_takeBinary 199 = .ok (.iload_n 1, 1) := by decide +kernel
theorem d_M_takeBinary_200 : decode b_M_takeBinary 200 = .ok (.invokevirtual 133, 3) := by decide +kernel
theorem d_M_takeBinary_203 : decode b_M_takeBinary 203 = .ok (.iinc 1 1, 3) := by decide +kernel
theorem d_M_takeBinary_206 : decode b_M_takeBinary 206 = .ok (.goto (-26), 3) := by decide +kernel
theorem d_M_takeBinary_209 : decode b_M_takeBinary 209 = .ok (.aload_n 0, 1) := by decide +kernel
theorem d_M_takeBinary_210 : decode b_M_takeBinary 210 = .ok (.invokevirtual 136, 3) := by decide +kernel
theorem d_M_takeBinary_213 : decode b_M_takeBinary 213 = .ok (.iconst 0, 1) := by decide +kernel
theorem d_M_takeBinary_214 : decode b_M_takeBinary 214 = .ok (.istore_n 1, 1) := by decide +kernel
theorem d_M_takeBinary_215 : decode b_M_takeBinary 215 = .ok (.iload_n 1, 1) := by decide +kernel
theorem d_M_takeBinary_216 : decode b_M_takeBinary 216 = .ok (.aload_n 0, 1) := by decide +kernel
theorem d_M_takeBinary_217 : decode b_M_takeBinary 217 = .ok (.getfield 20, 3) := by decide +kernel
theorem d_M_takeBinary_220 : decode b_M_takeBinary 220 = .ok (.bipush 9, 2) := by decide +kernel
theorem d_M_takeBinary_222 : decode b_M_takeBinary 222 = .ok (.iaload, 1) := by decide +kernel
theorem d_M_takeBinary_223 : decode b_M_takeBinary 223 = .ok (.if_icmp .ge 128, 3) := by decide +kernel
theorem d_M_takeBinary_226 : decode b_M_takeBinary 226 = .ok (.aload_n 0, 1) := by decide +kernel
theorem d_M_takeBinary_227 : decode b_M_takeBinary 227 = .ok (.getfield 94, 3) := by decide +kernel
theorem d_M_takeBinary_230 : decode b_M_takeBinary 230 = .ok (.ifCond .ne 121, 3) := by decide +kernel
theorem d_M_takeBinary_233 : decode b_M_takeBinary 233 = .ok (.aload_n 0, 1) := by decide +kernel
theorem d_M_takeBinary_234 : decode b_M_takeBinary 234 = .ok (.getfield 36, 3) := by decide +kernel
theorem d_M_takeBinary_237 : decode b_M_takeBinary 237 = .ok (.sipush 300, 3) := by decide +kernel
theorem d_M_takeBinary_240 : decode b_M_takeBinary 240 = .ok (.iload_n 1, 1) := by decide +kernel
theorem d_M_takeBinary_241 : decode b_M_takeBinary 241 = .ok (.iadd, 1) := by decide +kernel
theorem d_M_takeBinary_242 : decode b_M_takeBinary 242 = .ok (.iconst 2, 1) := by decide +kernel
theorem d_M_takeBinary_243 : decode b_M_takeBinary 243 = .ok (.aload_n 0, 1) := by decide +kernel
theorem d_M_takeBinary_244 : decode b_M_takeBinary 244 = .ok (.getfield 20, 3) := by decide +kernel
theorem d_M_takeBinary_247 : decode b_M_takeBinary 247 = .ok (.bipush 6, 2) := by decide +kernel
theorem d_M_takeBinary_249 : decode b_M_takeBinary 249 = .ok (.iaload, 1) := by decide +kernel
theorem d_M_takeBinary_250 : decode b_M_takeBinary 250 = .ok (.aload_n 0, 1) := by decide +kernel
theorem d_M_takeBinary_251 : decode b_M_takeBinary 251 = .ok (.getfield 20, 3) := by decide +kernel
theorem d_M_takeBinary_254 : decode b_M_takeBinary 254 = .ok (.bipush 7, 2) := by decide +kernel
theorem d_M_takeBinary_256 : decode b_M_takeBinary 256 = .ok (.iaload, 1) := by decide +kernel
theorem d_M_takeBinary_257 : decode b_M_takeBinary 257 = .ok (.iadd, 1) := by decide +kernel
theorem d_M_takeBinary_258 : decode b_M_takeBinary 258 = .ok (.iload_n 1, 1) := by decide +kernel
theorem d_M_takeBinary_259 : decode b_M_takeBinary 259 = .ok (.iadd, 1) := by decide +kernel
theorem d_M_takeBinary_260 : decode b_M_takeBinary 260 = .ok (.iconst 1, 1) := by decide +kernel
theorem d_M_takeBinary_261 : decode b_M_takeBinary 261 = .ok (.iadd, 1) := by decide +kernel
theorem d_M_takeBinary_262 : decode b_M_takeBinary 262 = .ok (.imul, 1) := by decide +kernel
theorem d_M_takeBinary_263 : decode b_M_takeBinary 263 = .ok (.iastore, 1) := by decide +kernel
theorem d_M_takeBinary_264 : decode b_M_takeBinary 264 = .ok (.aload_n 0, 1) := by decide +kernel
theorem d_M_takeBinary_265 : decode b_M_takeBinary 265 = .ok (.getfield 57, 3) := by decide +kernel
theorem d_M_takeBinary_268 : decode b_M_takeBinary 268 = .ok (.iload_n 1, 1) := by decide +kernel
theorem d_M_takeBinary_269 : decode b_M_takeBinary 269 = .ok (.aload_n 0, 1) := by decide +kernel
theorem d_M_takeBinary_270 : decode b_M_takeBinary 270 = .ok (.getfield 91, 3) := by decide +kernel
theorem d_M_takeBinary_273 : decode b_M_takeBinary 273 = .ok (.iastore, 1) := by decide +kernel
theorem d_M_takeBinary_274 : decode b_M_takeBinary 274 = .ok (.aload_n 0, 1) := by decide +kernel
theorem d_M_takeBinary_275 : decode b_M_takeBinary 275 = .ok (.getfield 39, 3) := by decide +kernel
theorem d_M_takeBinary_278 : decode b_M_takeBinary 278 = .ok (.sipush 300, 3) := by decide +kernel
theorem d_M_takeBinary_281 : decode b_M_takeBinary 281 = .ok (.iload_n 1, 1) := by decide +kernel
theorem d_M_takeBinary_282 : decode b_M_takeBinary 282 = .ok (.iadd, 1) := by decide +kernel
theorem d_M_takeBinary_283 : decode b_M_takeBinary 283 = .ok (.aload_n 0, 1) := by decide +kernel
theorem d_M_takeBinary_284 : decode b_M_takeBinary 284 = .ok (.aload_n 0, 1) := by decide +kernel
theorem d_M_takeBinary_285 : decode b_M_takeBinary 285 = .ok (.getfield 36, 3) := by decide +kernel
theorem d_M_takeBinary_288 : decode b_M_takeBinary 288 = .ok (.sipush 300, 3) := by decide +kernel
theorem d_M_takeBinary_291 : decode b_M_takeBinary 291 = .ok (.iload_n 1, 1) := by decide +kernel
theorem d_M_takeBinary_292 : decode b_M_takeBinary 292 = .ok (.iadd, 1) := by decide +kernel
theorem d_M_takeBinary_293 : decode b_M_takeBinary 293 = .ok (.iaload, 1) := by decide +kernel
theorem d_M_takeBinary_294 : decode b_M_takeBinary 294 = .ok (.iconst 1, 1) := by decide +kernel
theorem d_M_takeBinary_295 : decode b_M_takeBinary 295 = .ok (.invokevirtual 139, 3) := by decide +kernel
theorem d_M_takeBinary_298 : decode b_M_takeBinary 298 = .ok (.iastore, 1) := by decide +kernel
theorem d_M_takeBinary_299 : decode b_M_takeBinary 299 = .ok (.aload_n 0, 1) := by decide +kernel
theorem d_M_takeBinary_300 : decode b_M_takeBinary 300 = .ok (.getfield 60, 3) := by decide +kernel
theorem d_M_takeBinary_303 : decode b_M_takeBinary 303 = .ok (.iload_n 1, 1) := by decide +kernel
theorem d_M_takeBinary_304 : decode b_M_takeBinary 304 = .ok (.aload_n 0, 1) := by decide +kernel
theorem d_M_takeBinary_305 : decode b_M_takeBinary 305 = .ok (.getfield 91, 3) := by decide +kernel
theorem d_M_takeBinary_308 : decode b_M_takeBinary 308 = .ok (.iastore, 1) := by decide +kernel
theorem d_M_takeBinary_309 : decode b_M_takeBinary 309 = .ok (.aload_n 0, 1) := by decide +kernel
theorem d_M_takeBinary_310 : decode b_M_takeBinary 310 = .ok (.getfield 42, 3) := by decide +kernel
theorem d_M_takeBinary_313 : decode b_M_takeBinary 313 = .ok (.sipush 300, 3) := by decide +kernel
theorem d_M_takeBinary_316 : decode b_M_takeBinary 316 = .ok (.iload_n 1, 1) := by decide +kernel
theorem d_M_takeBinary_317 : decode b_M_takeBinary 317 = .ok (.iadd, 1) := by decide +kernel
theorem d_M_takeBinary_318 : decode b_M_takeBinary 318 = .ok (.aload_n 0, 1) := by decide +kernel
theorem d_M_takeBinary_319 : decode b_M_takeBinary 319 = .ok (.getfield 94, 3) := by decide +kernel
theorem d_M_takeBinary_322 : decode b_M_takeBinary 322 = .ok (.ifCond .ne 21, 3) := by decide +kernel
theorem d_M_takeBinary_325 : decode b_M_takeBinary 325 = .ok (.aload_n 0, 1) := by decide +kernel
theorem d_M_takeBinary_326 : decode b_M_takeBinary 326 = .ok (.aload_n 0, 1) := by decide +kernel
theorem d_M_takeBinary_327 : decode b_M_takeBinary 327 = .ok (.getfield 39, 3) := by decide +kernel
theorem d_M_takeBinary_330 : decode b_M_takeBinary 330 = .ok (.sipush 300, 3) := by decide +kernel
theorem d_M_takeBinary_333 : decode b_M_takeBinary 333 = .ok (.iload_n 1, 1) := by decide +kernel
theorem d_M_takeBinary_334 : decode b_M_takeBinary 334 = .ok (.iadd, 1) := by decide +kernel
theorem d_M_takeBinary_335 : decode b_M_takeBinary 335 = .ok (.iaload, 1) := by decide +kernel
theorem d_M_takeBinary_336 : decode b_M_takeBinary 336 = .ok (.iconst 0, 1) := by decide +kernel
theorem d_M_takeBinary_337 : decode b_M_takeBinary 337 = .ok (.invokevirtual 139, 3) := by decide +kernel
theorem d_M_takeBinary_340 : decode b_M_takeBinary 340 = .ok (.goto 4, 3) := by decide +kernel
theorem d_M_takeBinary_343 : decode b_M_takeBinary 343 = .ok (.iconst 0, 1) := by decide +kernel
theorem d_M_takeBinary_344 : decode b_M_takeBinary 344 = .ok (.iastore, 1) := by decide +kernel
theorem d_M_takeBinary_345 : decode b_M_takeBinary 345 = .ok (.iinc 1 1, 3) := by decide +kernel
theorem d_M_takeBinary_348 : decode b_M_takeBinary 348 = .ok (.goto (-133), 3) := by decide +kernel
theorem d_M_takeBinary_351 : decode b_M_takeBinary 351 = .ok (.return_, 1) := by decide +kernel
theorem d_M_takeSymbols_0 : decode b_M_takeSymbols 0 = .ok (.aload_n 0, 1) := by decide +kernel
theorem d_M_takeSymbols_1 : decode b_M_takeSymbols 1 = .ok (.getfield 94, 3) := by decide +kernel
theorem d_M_takeSymbols_4 : decode b_M_takeSymbols 4 = .ok (.ifCond .ne 270, 3) := by decide +kernel
theorem d_M_takeSymbols_7 : decode b_M_takeSymbols 7 = .ok (.aload_n 0, 1) := by decide +kernel
theorem d_M_takeSymbols_8 : decode b_M_takeSymbols 8 = .ok (.invokevirtual 100, 3) := by decide +kernel
theorem d_M_takeSymbols_11 : decode b_M_takeSymbols 11 = .ok (.bipush 105, 2) := by decide +kernel
theorem d_M_takeSymbols_13 : decode b_M_takeSymbols 13 = .ok (.if_icmp .eq 21, 3) := by decide +kernel
theorem d_M_takeSymbols_16 : decode b_M_takeSymbols 16 = .ok (.aload_n 0, 1) := by decide +kernel
theorem d_M_takeSymbols_17 : decode b_M_takeSymbols 17 = .ok (.invokevirtual 100, 3) := by decide +kernel
theorem d_M_takeSymbols_20 : decode b_M_takeSymbols 20 = .ok (.bipush 108, 2) := by decide +kernel
theorem d_M_takeSymbols_22 : decode b_M_takeSymbols 22 = .ok (.if_icmp .eq 12, 3) := by decide +kernel
theorem d_M_takeSymbols_25 : decode b_M_takeSymbols 25 = .ok (.aload_n 0, 1) := by decide +kernel
theorem d_M_takeSymbols_26 : decode b_M_takeSymbols 26 = .ok (.invokevirtual 100, 3) := by decide +kernel
theorem d_M_takeSymbols_29 : decode b_M_takeSymbols 29 = .ok (.bipush 111, 2) := by decide +kernel
theorem d_M_takeSymbols_31 : decode b_M_takeSymbols 31 = .ok (.if_icmp .ne 243, 3) := by decide +kernel
theorem d_M_takeSymbols_34 : decode b_M_takeSymbols 34 = .ok (.aload_n 0, 1) := by decide +kernel
theorem d_M_takeSymbols_35 : decode b_M_takeSymbols 35 = .ok (.invokevirtual 100, 3) := by decide +kernel
theorem d_M_takeSymbols_38 : decode b_M_takeSymbols 38 = .ok (.bipush 105, 2) := by decide +kernel
theorem d_M_takeSymbols_40 : decode b_M_takeSymbols 40 = .ok (.if_icmp .ne 7, 3) := by decide +kernel
theorem d_M_takeSymbols_43 : decode b_M_takeSymbols 43 = .ok (.iconst 0, 1) := by decide +kernel
theorem d_M_takeSymbols_44 : decode b_M_takeSymbols 44 = .ok (.goto 17, 3) := by decide +kernel
theorem d_M_takeSymbols_47 : decode b_M_takeSymbols 47 = .ok (.aload_n 0, 1) := by decide +kernel
theorem d_M_takeSymbols_48 : decode b_M_takeSymbols 48 = .ok (.invokevirtual 100, 3) := by decide +kernel
theorem d_M_takeSymbols_51 : decode b_M_takeSymbols 51 = .ok (.bipush 108, 2) := by decide +kernel
theorem d_M_takeSymbols_53 : decode b_M_takeSymbols 53 = .ok (.if_icmp .ne 7, 3) := by decide +kernel
theorem d_M_takeSymbols_56 : decode b_M_takeSymbols 56 = .ok (.iconst 1, 1) := by decide +kernel
theorem d_M_takeSymbols_57 : decode b_M_takeSymbols 57 = .ok (.goto 4, 3) := by decide +kernel
theorem d_M_takeSymbols_60 : decode b_M_takeSymbols 60 = .ok (.iconst 2, 1) := by decide +kernel
theorem d_M_takeSymbols_61 : decode b_M_takeSymbols 61 = .ok (.istore_n 1, 1) := by decide +kernel
theorem d_M_takeSymbols_62 : decode b_M_takeSymbols 62 = .ok (.aload_n 0, 1) := by decide +kernel
theorem d_M_takeSymbols_63 : decode b_M_takeSymbols 63 = .ok (.dup, 1) := by decide +kernel
theorem d_M_takeSymbols_64 : decode b_M_takeSymbols 64 = .ok (.getfield 91, 3) := by decide +kernel
theorem d_M_takeSymbols_67 : decode b_M_takeSymbols 67 = .ok (.iconst 1, 1) := by decide +kernel
theorem d_M_takeSymbols_68 : decode b_M_takeSymbols 68 = .ok (.iadd, 1) := by decide +kernel
theorem d_M_takeSymbols_69 : decode b_M_takeSymbols 69 = .ok (.putfield 91, 3) := by decide +kernel
theorem d_M_takeSymbols_72 : decode b_M_takeSymbols 72 = .ok (.aload_n 0, 1) := by decide +kernel
theorem d_M_takeSymbols_73 : decode b_M_takeSymbols 73 = .ok (.invokevirtual 115, 3) := by decide +kernel
theorem d_M_takeSymbols_76 : decode b_M_takeSymbols 76 = .ok (.iload_n 1, 1) := by decide +kernel
theorem d_M_takeSymbols_77 : decode b_M_takeSymbols 77 = .ok (.ifCond .ne 8, 3) := by decide +kernel
theorem d_M_takeSymbols_80 : decode b_M_takeSymbols 80 = .ok (.bipush 22, 2) := by decide +kernel
theorem d_M_takeSymbols_82 : decode b_M_takeSymbols 82 = .ok (.goto 15, 3) := by decide +kernel
theorem d_M_takeSymbols_85 : decode b_M_takeSymbols 85 = .ok (.iload_n 1, 1) := by decide +kernel
theorem d_M_takeSymbols_86 : decode b_M_takeSymbols 86 = .ok (.iconst 1, 1) := by decide +kernel
theorem d_M_takeSymbols_87 : decode b_M_takeSymbols 87 = .ok (.if_icmp .ne 8, 3) := by decide +kernel
theorem d_M_takeSymbols_90 : decode b_M_takeSymbols 90 = .ok (.bipush 28, 2) := by decide +kernel
theorem d_M_takeSymbols_92 : decode b_M_takeSymbols 92 = .ok (.goto 5, 3) := by decide +kernel
theorem d_M_takeSymbols_95 : decode b_M_takeSymbols 95 = .ok (.bipush 36, 2) := by decide +kernel
theorem d_M_takeSymbols_97 : decode b_M_takeSymbols 97 = .ok (.aload_n 0, 1) := by decide +kernel
theorem d_M_takeSymbols_98 : decode b_M_takeSymbols 98 = .ok (.getfield 108, 3) := by decide +kernel
theorem d_M_takeSymbols_101 : decode b_M_takeSymbols 101 = .ok (.iadd, 1) := by decide +kernel
theorem d_M_takeSymbols_102 : decode b_M_takeSymbols 102 = .ok (.istore_n 2, 1) := by decide +kernel
theorem d_M_takeSymbols_103 : decode b_M_takeSymbols 103 = .ok (.aload_n 0, 1) := by decide +kernel
theorem d_M_takeSymbols_104 : decode b_M_takeSymbols 104 = .ok (.getfield 94, 3) := by decide +kernel
theorem d_M_takeSymbols_107 : decode b_M_takeSymbols 107 = .ok (.ifCond .ne 37, 3) := by decide +kernel
theorem d_M_takeSymbols_110 : decode b_M_takeSymbols 110 = .ok (.aload_n 0, 1) := by decide +kernel
theorem d_M_takeSymbols_111 : decode b_M_takeSymbols 111 = .ok (.getfield 108, 3) := by decide +kernel
theorem d_M_takeSymbols_114 : decode b_M_takeSymbols 114 = .ok (.aload_n 0, 1) := by decide +kernel
theorem d_M_takeSymbols_115 : decode b_M_takeSymbols 115 = .ok (.getfield 20, 3) := by decide +kernel
theorem d_M_takeSymbols_118 : decode b_M_takeSymbols 118 = .ok (.bipush 6, 2) := by decide +kernel
theorem d_M_takeSymbols_120 : decode b_M_takeSymbols 120 = .ok (.iload_n 1, 1) := by decide +kernel
theorem d_M_takeSymbols_121 : decode b_M_takeSymbols 121 = .ok (.iadd, 1) := by decide +kernel
theorem d_M_takeSymbols_122 : decode b_M_takeSymbols 122 = .ok (.iaload, 1) := by decide +kernel
theorem d_M_takeSymbols_123 : decode b_M_takeSymbols 123 = .ok (.if_icmp .ge 12, 3) := by decide +kernel
theorem d_M_takeSymbols_126 : decode b_M_takeSymbols 126 = .ok (.aload_n 0, 1) := by decide +kernel
theorem d_M_takeSymbols_127 : decode b_M_takeSymbols 127 = .ok (.getfield 66, 3) := by decide +kernel
theorem d_M_takeSymbols_130 : decode b_M_takeSymbols 130 = .ok (.iload_n 2, 1) := by decide +kernel
theorem d_M_takeSymbols_131 : decode b_M_takeSymbols 131 = .ok (.iaload, 1) := by decide +kernel
theorem d_M_takeSymbols_132 : decode b_M_takeSymbols 132 = .ok (.ifCond .le 12, 3) := by decide +kernel
theorem d_M_takeSymbols_135 : decode b_M_takeSymbols 135 = .ok (.aload_n 0, 1) := by decide +kernel
theorem d_M_takeSymbols_136 : decode b_M_takeSymbols 136 = .ok (.iconst 1, 1) := by decide +kernel
theorem d_M_takeSymbols_137 : decode b_M_takeSymbols 137 = .ok (.aload_n 0, 1) := by decide +kernel
theorem d_M_takeSymbols_138 : decode b_M_takeSymbols 138 = .ok (.getfield 91, 3) := by decide +kernel
theorem d_M_takeSymbols_141 : decode b_M_takeSymbols 141 = .ok (.invokevirtual 104, 3) := by decide +kernel
theorem d_M_takeSymbols_144 : decode b_M_takeSymbols 144 = .ok (.aload_n 0, 1) := by decide +kernel
theorem d_M_takeSymbols_145 : decode b_M_takeSymbols 145 = .ok (.bipush 32, 2) := by decide +kernel
theorem d_M_takeSymbols_147 : decode b_M_takeSymbols 147 = .ok (.invokevirtual 125, 3) := by decide +kernel
theorem d_M_takeSymbols_150 : decode b_M_takeSymbols 150 = .ok (.aload_n 0, 1) := by decide +kernel
theorem d_M_takeSymbols_151 : decode b_M_takeSymbols 151 = .ok (.getfield 94, 3) := by decide +kernel
theorem d_M_takeSymbols_154 : decode b_M_takeSymbols 154 = .ok (.ifCond .ne 86, 3) := by decide +kernel
theorem d_M_takeSymbols_157 : decode b_M_takeSymbols 157 = .ok (.aload_n 0, 1) := by decide +kernel
theorem d_M_takeSymbols_158 : decode b_M_takeSymbols 158 = .ok (.invokevirtual 100, 3) := by decide +kernel
theorem d_M_takeSymbols_161 : decode b_M_takeSymbols 161 = .ok (.ifCond .lt 79, 3) := by decide +kernel
theorem d_M_takeSymbols_164 : decode b_M_takeSymbols 164 = .ok (.aload_n 0, 1) := by decide +kernel
theorem d_M_takeSymbols_165 : decode b_M_takeSymbols 165 = .ok (.invokevirtual 100, 3) := by decide +kernel
theorem d_M_takeSymbols_168 : decode b_M_takeSymbols 168 = .ok (.bipush 10, 2) := by decide +kernel
theorem d_M_takeSymbols_170 : decode b_M_takeSymbols 170 = .ok (.if_icmp .eq 70, 3) := by decide +kernel
theorem d_M_takeSymbols_173 : decode b_M_takeSymbols 173 = .ok (.aload_n 0, 1) := by decide +kernel
theorem d_M_takeSymbols_174 : decode b_M_takeSymbols 174 = .ok (.getfield 66, 3) := by decide +kernel
theorem d_M_takeSymbols_177 : decode b_M_takeSymbols 177 = .ok (.iload_n 2, 1) := by decide +kernel
theorem d_M_takeSymbols_178 : decode b_M_takeSymbols 178 = .ok (.iaload, 1) := by decide +kernel
theorem d_M_takeSymbols_179 : decode b_M_takeSymbols 179 = .ok (.bipush 40, 2) := by decide +kernel
theorem d_M_takeSymbols_181 : decode b_M_takeSymbols 181 = .ok (.if_icmp .ne 15, 3) := by decide +kernel
theorem d_M_takeSymbols_184 : decode b_M_takeSymbols 184 = .ok (.aload_n 0, 1) := by decide +kernel
theorem d_M_takeSymbols_185 : decode b_M_takeSymbols 185 = .ok (.iconst 1, 1) := by decide +kernel
theorem d_M_takeSymbols_186 : decode b_M_takeSymbols 186 = .ok (.aload_n 0, 1) := by decide +kernel
theorem d_M_takeSymbols_187 : decode b_M_takeSymbols 187 = .ok (.getfield 91, 3) := by decide +kernel
theorem d_M_takeSymbols_190 : decode b_M_takeSymbols 190 = .ok (.invokevirtual 104, 3) := by decide +kernel
theorem d_M_takeSymbols_193 : decode b_M_takeSymbols 193 = .ok (.goto (-43), 3) := by decide +kernel
theorem d_M_takeSymbols_196 : decode b_M_takeSymbols 196 = .ok (.aload_n 0, 1) := by decide +kernel
theorem d_M_takeSymbols_197 : decode b_M_takeSymbols 197 = .ok (.getfield 63, 3) := by decide +kernel
theorem d_M_takeSymbols_200 : decode b_M_takeSymbols 200 = .ok (.bipush 40, 2) := by decide +kernel
theorem d_M_takeSymbols_202 : decode b_M_takeSymbols 202 = .ok (.iload_n 2, 1) := by decide +kernel
theorem d_M_takeSymbols_203 : decode b_M_takeSymbols 203 = .ok (.imul, 1) := by decide +kernel
theorem d_M_takeSymbols_204 : decode b_M_takeSymbols 204 = .ok (.aload_n 0, 1) := by decide +kernel
theorem d_M_takeSymbols_205 : decode b_M_takeSymbols 205 = .ok (.getfield 66, 3) := by decide +kernel
theorem d_M_takeSymbols_208 : decode b_M_takeSymbols 208 = .ok (.iload_n 2, 1) := by decide +kernel
theorem d_M_takeSymbols_209 : decode b_M_takeSymbols 209 = .ok (.iaload, 1) := by decide +kernel
theorem d_M_takeSymbols_210 : decode b_M_takeSymbols 210 = .ok (.iadd, 1) := by decide +kernel
theorem d_M_takeSymbols_211 : decode b_M_takeSymbols 211 = .ok (.aload_n 0, 1) := by decide +kernel
theorem d_M_takeSymbols_212 : decode b_M_takeSymbols 212 = .ok (.invokevirtual 100, 3) := by decide +kernel
theorem d_M_takeSymbols_215 : decode b_M_takeSymbols 215 = .ok (.i2b, 1) := by decide +kernel
theorem d_M_takeSymbols_216 : decode b_M_takeSymbols 216 = .ok (.bastore, 1) := by decide +kernel
theorem d_M_takeSymbols_217 : decode b_M_takeSymbols 217 = .ok (.aload_n 0, 1) := by decide +kernel
theorem d_M_takeSymbols_218 : decode b_M_takeSymbols 218 = .ok (.getfield 66, 3) := by decide +kernel
theorem d_M_takeSymbols_221 : decode b_M_takeSymbols 221 = .ok (.iload_n 2, 1) := by decide +kernel
theorem d_M_takeSymbols_222 : decode b_M_takeSymbols 222 = .ok (.dup2, 1) := by decide +kernel
theorem d_M_takeSymbols_223 : decode b_M_takeSymbols 223 = .ok (.iaload, 1) := by decide +kernel
theorem d_M_takeSymbols_224 : decode b_M_takeSymbols 224 = .ok (.iconst 1, 1) := by decide +kernel
theorem d_M_takeSymbols_225 : decode b_M_takeSymbols 225 = .ok (.iadd, 1) := by decide +kernel
theorem d_M_takeSymbols_226 : decode b_M_takeSymbols 226 = .ok (.iastore, 1) := by decide +kernel
theorem d_M_takeSymbols_227 : decode b_M_takeSymbols 227 = .ok (.aload_n 0, 1) := by decide +kernel
theorem d_M_takeSymbols_228 : decode b_M_takeSymbols 228 = .ok (.dup, 1) := by decide +kernel
theorem d_M_takeSymbols_229 : decode b_M_takeSymbols 229 = .ok (.getfield 91, 3) := by decide +kernel
theorem d_M_takeSymbols_232 : decode b_M_takeSymbols 232 = .ok (.iconst 1, 1) := by decide +kernel
theorem d_M_takeSymbols_233 : decode b_M_takeSymbols 233 = .ok (.iadd, 1) := by decide +kernel
theorem d_M_takeSymbols_234 : decode b_M_takeSymbols 234 = .ok (.putfield 91, 3) := by decide +kernel
theorem d_M_takeSymbols_237 : decode b_M_takeSymbols 237 = .ok (.goto (-87), 3) := by decide +kernel
theorem d_M_takeSymbols_240 : decode b_M_takeSymbols 240 = .ok (.aload_n 0, 1) := by decide +kernel
theorem d_M_takeSymbols_241 : decode b_M_takeSymbols 241 = .ok (.getfield 94, 3) := by decide +kernel
theorem d_M_takeSymbols_244 : decode b_M_takeSymbols 244 = .ok (.ifCond .ne 21, 3) := by decide +kernel
theorem d_M_takeSymbols_247 : decode b_M_takeSymbols 247 = .ok (.aload_n 0, 1) := by decide +kernel
theorem d_M_takeSymbols_248 : decode b_M_takeSymbols 248 = .ok (.getfield 66, 3) := by decide +kernel
theorem d_M_takeSymbols_251 : decode b_M_takeSymbols 251 = .ok (.iload_n 2, 1) := by decide +kernel
theorem d_M_takeSymbols_252 : decode b_M_takeSymbols 252 = .ok (.iaload, 1) := by decide +kernel
theorem d_M_takeSymbols_253 : decode b_M_takeSymbols 253 = .ok (.ifCond .ne 12, 3) := by decide +kernel
theorem d_M_takeSymbols_256 : decode b_M_takeSymbols 256 = .ok (.aload_n 0, 1) := by decide +kernel
theorem d_M_takeSymbols_257 : decode b_M_takeSymbols 257 = .ok (.iconst 1, 1) := by decide +kernel
theorem d_M_takeSymbols_258 : decode b_M_takeSymbols 258 = .ok (.aload_n 0, 1) := by decide +kernel
theorem d_M_takeSymbols_259 : decode b_M_takeSymbols 259 = .ok (.getfield 91, 3) := by decide +kernel
theorem d_M_takeSymbols_262 : decode b_M_takeSymbols 262 = .ok (.invokevirtual 104, 3) := by decide +kernel
theorem d_M_takeSymbols_265 : decode b_M_takeSymbols 265 = .ok (.aload_n 0, 1) := by decide +kernel
theorem d_M_takeSymbols_266 : decode b_M_takeSymbols 266 = .ok (.bipush 10, 2) := by decide +kernel
theorem d_M_takeSymbols_268 : decode b_M_takeSymbols 268 = .ok (.invokevirtual 125, 3) := by decide +kernel
theorem d_M_takeSymbols_271 : decode b_M_takeSymbols 271 = .ok (.goto (-271), 3) := by decide +kernel
theorem d_M_takeSymbols_274 : decode b_M_takeSymbols 274 = .ok (.aload_n 0, 1) := by decide +kernel
theorem d_M_takeSymbols_275 : decode b_M_takeSymbols 275 = .ok (.getfield 94, 3) := by decide +kernel
theorem d_M_takeSymbols_278 : decode b_M_takeSymbols 278 = .ok (.ifCond .gt 11, 3) := by decide +kernel
theorem d_M_takeSymbols_281 : decode b_M_takeSymbols 281 = .ok (.aload_n 0, 1) := by decide +kernel
theorem d_M_takeSymbols_282 : decode b_M_takeSymbols 282 = .ok (.invokevirtual 100, 3) := by decide +kernel
theorem d_M_takeSymbols_285 : decode b_M_takeSymbols 285 = .ok (.iconst (-1), 1) := by decide +kernel
theorem d_M_takeSymbols_286 : decode b_M_takeSymbols 286 = .ok (.if_icmp .ne 4, 3) := by decide +kernel
theorem d_M_takeSymbols_289 : decode b_M_takeSymbols 289 = .ok (.return_, 1) := by decide +kernel
theorem d_M_takeSymbols_290 : decode b_M_takeSymbols 290 = .ok (.aload_n 0, 1) := by decide +kernel
theorem d_M_takeSymbols_291 : decode b_M_takeSymbols 291 = .ok (.bipush 99, 2) := by decide +kernel
theorem d_M_takeSymbols_293 : decode b_M_takeSymbols 293 = .ok (.invokevirtual 125, 3) := by decide +kernel
theorem d_M_takeSymbols_296 : decode b_M_takeSymbols 296 = .ok (.aload_n 0, 1) := by decide +kernel
theorem d_M_takeSymbols_297 : decode b_M_takeSymbols 297 = .ok (.bipush 10, 2) := by decide +kernel
theorem d_M_takeSymbols_299 : decode b_M_takeSymbols 299 = .ok (.invokevirtual 125, 3) := by decide +kernel
theorem d_M_takeSymbols_302 : decode b_M_takeSymbols 302 = .ok (.return_, 1) := by decide +kernel
theorem d_M_isNowhere_0 : decode b_M_isNowhere 0 = .ok (.iload_n 1, 1) := by decide +kernel
theorem d_M_isNowhere_1 : decode b_M_isNowhere 1 = .ok (.iconst 1, 1) := by decide +kernel
theorem d_M_isNowhere_2 : decode b_M_isNowhere 2 = .ok (.if_icmp .le 22, 3) := by decide +kernel
theorem d_M_isNowhere_5 : decode b_M_isNowhere 5 = .ok (.aload_n 0, 1) := by decide +kernel
theorem d_M_isNowhere_6 : decode b_M_isNowhere 6 = .ok (.getfield 45, 3) := by decide +kernel
theorem d_M_isNowhere_9 : decode b_M_isNowhere 9 = .ok (.sipush 401, 3) := by decide +kernel
theorem d_M_isNowhere_12 : decode b_M_isNowhere 12 = .ok (.iload_n 1, 1) := by decide +kernel
theorem d_M_isNowhere_13 : decode b_M_isNowhere 13 = .ok (.iconst 2, 1) := by decide +kernel
theorem d_M_isNowhere_14 : decode b_M_isNowhere 14 = .ok (.idiv, 1) := by decide +kernel
theorem d_M_isNowhere_15 : decode b_M_isNowhere 15 = .ok (.iadd, 1) := by decide +kernel
theorem d_M_isNowhere_16 : decode b_M_isNowhere 16 = .ok (.iaload, 1) := by decide +kernel
theorem d_M_isNowhere_17 : decode b_M_isNowhere 17 = .ok (.ifCond .ne 7, 3) := by decide +kernel
theorem d_M_isNowhere_20 : decode b_M_isNowhere 20 = .ok (.iconst 1, 1) := by decide +kernel
theorem d_M_isNowhere_21 : decode b_M_isNowhere 21 = .ok (.goto 4, 3) := by decide +kernel
theorem d_M_isNowhere_24 : decode b_M_isNowhere 24 = .ok (.iconst 0, 1) := by decide +kernel
theorem d_M_isNowhere_25 : decode b_M_isNowhere 25 = .ok (.ireturn, 1) := by decide +kernel
theorem d_M_findNowhere_0 : decode b_M_findNowhere 0 = .ok (.iconst 0, 1) := by decide +kernel
theorem d_M_findNowhere_1 : decode b_M_findNowhere 1 = .ok (.istore_n 1, 1) := by decide +kernel
theorem d_M_findNowhere_2 : decode b_M_findNowhere 2 = .ok (.iload_n 1, 1) := by decide +kernel
theorem d_M_findNowhere_3 : decode b_M_findNowhere 3 = .ok (.aload_n 0, 1) := by decide +kernel
theorem d_M_findNowhere_4 : decode b_M_findNowhere 4 = .ok (.getfield 20, 3) := by decide +kernel
theorem d_M_findNowhere_7 : decode b_M_findNowhere 7 = .ok (.bipush 7, 2) := by decide +kernel
theorem d_M_findNowhere_9 : decode b_M_findNowhere 9 = .ok (.iaload, 1) := by decide +kernel
theorem d_M_findNowhere_10 : decode b_M_findNowhere 10 = .ok (.if_icmp .ge 36, 3) := by decide +kernel
theorem d_M_findNowhere_13 : decode b_M_findNowhere 13 = .ok (.aload_n 0, 1) := by decide +kernel
theorem d_M_findNowhere_14 : decode b_M_findNowhere 14 = .ok (.aload_n 0, 1) := by decide +kernel
theorem d_M_findNowhere_15 : decode b_M_findNowhere 15 = .ok (.getfield 30, 3) := by decide +kernel
theorem d_M_findNowhere_18 : decode b_M_findNowhere 18 = .ok (.bipush 8, 2) := by decide +kernel
theorem d_M_findNowhere_20 : decode b_M_findNowhere 20 = .ok (.iload_n 1, 1) := by decide +kernel
theorem d_M_findNowhere_21 : decode b_M_findNowhere 21 = .ok (.iadd, 1) := by decide +kernel
theorem d_M_findNowhere_22 : decode b_M_findNowhere 22 = .ok (.iaload, 1) := by decide +kernel
theorem d_M_findNowhere_23 : decode b_M_findNowhere 23 = .ok (.invokevirtual 142, 3) := by decide +kernel
theorem d_M_findNowhere_26 : decode b_M_findNowhere 26 = .ok (.ifCond .eq 14, 3) := by decide +kernel
theorem d_M_findNowhere_29 : decode b_M_findNowhere 29 = .ok (.aload_n 0, 1) := by decide +kernel
theorem d_M_findNowhere_30 : decode b_M_findNowhere 30 = .ok (.iconst 5, 1) := by decide +kernel
theorem d_M_findNowhere_31 : decode b_M_findNowhere 31 = .ok (.aload_n 0, 1) := by decide +kernel
theorem d_M_findNowhere_32 : decode b_M_findNowhere 32 = .ok (.getfield 51, 3) := by decide +kernel
theorem d_M_findNowhere_35 : decode b_M_findNowhere 35 = .ok (.iload_n 1, 1) := by decide +kernel
theorem d_M_findNowhere_36 : decode b_M_findNowhere 36 = .ok (.iaload, 1) := by decide +kernel
theorem d_M_findNowhere_37 : decode b_M_findNowhere 37 = .ok (.invokevirtual 104, 3) := by decide +kernel
theorem d_M_findNowhere_40 : decode b_M_findNowhere 40 = .ok (.iinc 1 1, 3) := by decide +kernel
theorem d_M_findNowhere_43 : decode b_M_findNowhere 43 = .ok (.goto (-41), 3) := by decide +kernel
theorem d_M_findNowhere_46 : decode b_M_findNowhere 46 = .ok (.iconst 0, 1) := by decide +kernel
theorem d_M_findNowhere_47 : decode b_M_findNowhere 47 = .ok (.istore_n 1, 1) := by decide +kernel
theorem d_M_findNowhere_48 : decode b_M_findNowhere 48 = .ok (.iload_n 1, 1) := by decide +kernel
theorem d_M_findNowhere_49 : decode b_M_findNowhere 49 = .ok (.aload_n 0, 1) := by decide +kernel
theorem d_M_findNowhere_50 : decode b_M_findNowhere 50 = .ok (.getfield 20, 3) := by decide +kernel
theorem d_M_findNowhere_53 : decode b_M_findNowhere 53 = .ok (.bipush 8, 2) := by decide +kernel
theorem d_M_findNowhere_55 : decode b_M_findNowhere 55 = .ok (.iaload, 1) := by decide +kernel
theorem d_M_findNowhere_56 : decode b_M_findNowhere 56 = .ok (.if_icmp .ge 36, 3) := by decide +kernel
theorem d_M_findNowhere_59 : decode b_M_findNowhere 59 = .ok (.aload_n 0, 1) := by decide +kernel
theorem d_M_findNowhere_60 : decode b_M_findNowhere 60 = .ok (.aload_n 0, 1) := by decide +kernel
theorem d_M_findNowhere_61 : decode b_M_findNowhere 61 = .ok (.getfield 33, 3) := by decide +kernel
theorem d_M_findNowhere_64 : decode b_M_findNowhere 64 = .ok (.bipush 8, 2) := by decide +kernel
theorem d_M_findNowhere_66 : decode b_M_findNowhere 66 = .ok (.iload_n 1, 1) := by decide +kernel
theorem d_M_findNowhere_67 : decode b_M_findNowhere 67 = .ok (.iadd, 1) := by decide +kernel
theorem d_M_findNowhere_68 : decode b_M_findNowhere 68 = .ok (.iaload, 1) := by decide +kernel
theorem d_M_findNowhere_69 : decode b_M_findNowhere 69 = .ok (.invokevirtual 142, 3) := by decide +kernel
theorem d_M_findNowhere_72 : decode b_M_findNowhere 72 = .ok (.ifCond .eq 14, 3) := by decide +kernel
theorem d_M_findNowhere_75 : decode b_M_findNowhere 75 = .ok (.aload_n 0, 1) := by decide +kernel
theorem d_M_findNowhere_76 : decode b_M_findNowhere 76 = .ok (.iconst 5, 1) := by decide +kernel
theorem d_M_findNowhere_77 : decode b_M_findNowhere 77 = .ok (.aload_n 0, 1) := by decide +kernel
theorem d_M_findNowhere_78 : decode b_M_findNowhere 78 = .ok (.getfield 54, 3) := by decide +kernel
theorem d_M_findNowhere_81 : decode b_M_findNowhere 81 = .ok (.iload_n 1, 1) := by decide +kernel
theorem d_M_findNowhere_82 : decode b_M_findNowhere 82 = .ok (.iaload, 1) := by decide +kernel
theorem d_M_findNowhere_83 : decode b_M_findNowhere 83 = .ok (.invokevirtual 104, 3) := by decide +kernel
theorem d_M_findNowhere_86 : decode b_M_findNowhere 86 = .ok (.iinc 1 1, 3) := by decide +kernel
theorem d_M_findNowhere_89 : decode b_M_findNowhere 89 = .ok (.goto (-41), 3) := by decide +kernel
theorem d_M_findNowhere_92 : decode b_M_findNowhere 92 = .ok (.iconst 0, 1) := by decide +kernel
theorem d_M_findNowhere_93 : decode b_M_findNowhere 93 = .ok (.istore_n 1, 1) := by decide +kernel
theorem d_M_findNowhere_94 : decode b_M_findNowhere 94 = .ok (.iload_n 1, 1) := by decide +kernel
theorem d_M_findNowhere_95 : decode b_M_findNowhere 95 = .ok (.aload_n 0, 1) := by decide +kernel
theorem d_M_findNowhere_96 : decode b_M_findNowhere 96 = .ok (.getfield 20, 3) := by decide +kernel
theorem d_M_findNowhere_99 : decode b_M_findNowhere 99 = .ok (.bipush 9, 2) := by decide +kernel
theorem d_M_findNowhere_101 : decode b_M_findNowhere 101 = .ok (.iaload, 1) := by decide +kernel
theorem d_M_findNowhere_102 : decode b_M_findNowhere 102 = .ok (.if_icmp .ge 65, 3) := by decide +kernel
theorem d_M_findNowhere_105 : decode b_M_findNowhere 105 = .ok (.aload_n 0, 1) := by decide +kernel
theorem d_M_findNowhere_106 : decode b_M_findNowhere 106 = .ok (.aload_n 0, 1) := by decide +kernel
theorem d_M_findNowhere_107 : decode b_M_findNowhere 107 = .ok (.getfield 39, 3) := by decide +kernel
theorem d_M_findNowhere_110 : decode b_M_findNowhere 110 = .ok (.sipush 300, 3) := by decide +kernel
theorem d_M_findNowhere_113 : decode b_M_findNowhere 113 = .ok (.iload_n 1, 1) := by decide +kernel
theorem d_M_findNowhere_114 : decode b_M_findNowhere 114 = .ok (.iadd, 1) := by decide +kernel
theorem d_M_findNowhere_115 : decode b_M_findNowhere 115 = .ok (.iaload, 1) := by decide +kernel
theorem d_M_findNowhere_116 : decode b_M_findNowhere 116 = .ok (.invokevirtual 142, 3) := by decide +kernel
theorem d_M_findNowhere_119 : decode b_M_findNowhere 119 = .ok (.ifCond .eq 14, 3) := by decide +kernel
theorem d_M_findNowhere_122 : decode b_M_findNowhere 122 = .ok (.aload_n 0, 1) := by decide +kernel
theorem d_M_findNowhere_123 : decode b_M_findNowhere 123 = .ok (.iconst 5, 1) := by decide +kernel
theorem d_M_findNowhere_124 : decode b_M_findNowhere 124 = .ok (.aload_n 0, 1) := by decide +kernel
theorem d_M_findNowhere_125 : decode b_M_findNowhere 125 = .ok (.getfield 57, 3) := by decide +kernel
theorem d_M_findNowhere_128 : decode b_M_findNowhere 128 = .ok (.iload_n 1, 1) := by decide +kernel
theorem d_M_findNowhere_129 : decode b_M_findNowhere 129 = .ok (.iaload, 1) := by decide +kernel
theorem d_M_findNowhere_130 : decode b_M_findNowhere 130 = .ok (.invokevirtual 104, 3) := by decide +kernel
theorem d_M_findNowhere_133 : decode b_M_findNowhere 133 = .ok (.aload_n 0, 1) := by decide +kernel
theorem d_M_findNowhere_134 : decode b_M_findNowhere 134 = .ok (.aload_n 0, 1) := by decide +kernel
theorem d_M_findNowhere_135 : decode b_M_findNowhere 135 = .ok (.getfield 42, 3) := by decide +kernel
theorem d_M_findNowhere_138 : decode b_M_findNowhere 138 = .ok (.sipush 300, 3) := by decide +kernel
theorem d_M_findNowhere_141 : decode b_M_findNowhere 141 = .ok (.iload_n 1, 1) := by decide +kernel
theorem d_M_findNowhere_142 : decode b_M_findNowhere 142 = .ok (.iadd, 1) := by decide +kernel
theorem d_M_findNowhere_143 : decode b_M_findNowhere 143 = .ok (.iaload, 1) := by decide +kernel
theorem d_M_findNowhere_144 : decode b_M_findNowhere 144 = .ok (.invokevirtual 142, 3) := by decide +kernel
theorem d_M_findNowhere_147 : decode b_M_findNowhere 147 = .ok (.ifCond .eq 14, 3) := by decide +kernel
theorem d_M_findNowhere_150 : decode b_M_findNowhere 150 = .ok (.aload_n 0, 1) := by decide +kernel
theorem d_M_findNowhere_151 : decode b_M_findNowhere 151 = .ok (.iconst 5, 1) := by decide +kernel
theorem d_M_findNowhere_152 : decode b_M_findNowhere 152 = .ok (.aload_n 0, 1) := by decide +kernel
theorem d_M_findNowhere_153 : decode b_M_findNowhere 153 = .ok (.getfield 60, 3) := by decide +kernel
theorem d_M_findNowhere_156 : decode b_M_findNowhere 156 = .ok (.iload_n 1, 1) := by decide +kernel
theorem d_M_findNowhere_157 : decode b_M_findNowhere 157 = .ok (.iaload, 1) := by decide +kernel
theorem d_M_findNowhere_158 : decode b_M_findNowhere 158 = .ok (.invokevirtual 104, 3) := by decide +kernel
theorem d_M_findNowhere_161 : decode b_M_findNowhere 161 = .ok (.iinc 1 1, 3) := by decide +kernel
theorem d_M_findNowhere_164 : decode b_M_findNowhere 164 = .ok (.goto (-70), 3) := by decide +kernel
theorem d_M_findNowhere_167 : decode b_M_findNowhere 167 = .ok (.return_, 1) := by decide +kernel
theorem d_M_hasCome_0 : decode b_M_hasCome 0 = .ok (.iload_n 1, 1) := by decide +kernel
theorem d_M_hasCome_1 : decode b_M_hasCome 1 = .ok (.iconst 2, 1) := by decide +kernel
theorem d_M_hasCome_2 : decode b_M_hasCome 2 = .ok (.if_icmp .lt 14, 3) := by decide +kernel
theorem d_M_hasCome_5 : decode b_M_hasCome 5 = .ok (.aload_n 0, 1) := by decide +kernel
theorem d_M_hasCome_6 : decode b_M_hasCome 6 = .ok (.getfield 75, 3) := by decide +kernel
theorem d_M_hasCome_9 : decode b_M_hasCome 9 = .ok (.iload_n 1, 1) := by decide +kernel
theorem d_M_hasCome_10 : decode b_M_hasCome 10 = .ok (.iconst 2, 1) := by decide +kernel
theorem d_M_hasCome_11 : decode b_M_hasCome 11 = .ok (.idiv, 1) := by decide +kernel
theorem d_M_hasCome_12 : decode b_M_hasCome 12 = .ok (.baload, 1) := by decide +kernel
theorem d_M_hasCome_13 : decode b_M_hasCome 13 = .ok (.ifCond .eq 7, 3) := by decide +kernel
theorem d_M_hasCome_16 : decode b_M_hasCome 16 = .ok (.iconst 1, 1) := by decide +kernel
theorem d_M_hasCome_17 : decode b_M_hasCome 17 = .ok (.goto 4, 3) := by decide +kernel
theorem d_M_hasCome_20 : decode b_M_hasCome 20 = .ok (.iconst 0, 1) := by decide +kernel
theorem d_M_hasCome_21 : decode b_M_hasCome 21 = .ok (.ireturn, 1) := by decide +kernel
theorem d_M_sort_0 : decode b_M_sort 0 = .ok (.iconst 0, 1) := by decide +kernel
theorem d_M_sort_1 : decode b_M_sort 1 = .ok (.istore_n 1, 1) := by decide +kernel
theorem d_M_sort_2 : decode b_M_sort 2 = .ok (.iload_n 1, 1) := by decide +kernel
theorem d_M_sort_3 : decode b_M_sort 3 = .ok (.sipush 401, 3) := by decide +kernel
theorem d_M_sort_6 : decode b_M_sort 6 = .ok (.if_icmp .ge 55, 3) := by decide +kernel
theorem d_M_sort_9 : decode b_M_sort 9 = .ok (.aload_n 0, 1) := by decide +kernel
theorem d_M_sort_10 : decode b_M_sort 10 = .ok (.getfield 75, 3) := by decide +kernel
theorem d_M_sort_13 : decode b_M_sort 13 = .ok (.iload_n 1, 1) := by decide +kernel
theorem d_M_sort_14 : decode b_M_sort 14 = .ok (.aload_n 0, 1) := by decide +kernel
theorem d_M_sort_15 : decode b_M_sort 15 = .ok (.getfield 45, 3) := by decide +kernel
theorem d_M_sort_18 : decode b_M_sort 18 = .ok (.sipush 401, 3) := by decide +kernel
theorem d_M_sort_21 : decode b_M_sort 21 = .ok (.iload_n 1, 1) := by decide +kernel
theorem d_M_sort_22 : decode b_M_sort 22 = .ok (.iadd, 1) := by decide +kernel
theorem d_M_sort_23 : decode b_M_sort 23 = .ok (.iaload, 1) := by decide +kernel
theorem d_M_sort_24 : decode b_M_sort 24 = .ok (.iconst 1, 1) := by decide +kernel
theorem d_M_sort_25 : decode b_M_sort 25 = .ok (.if_icmp .eq 17, 3) := by decide +kernel
theorem d_M_sort_28 : decode b_M_sort 28 = .ok (.aload_n 0, 1) := by decide +kernel
theorem d_M_sort_29 : decode b_M_sort 29 = .ok (.getfield 45, 3) := by decide +kernel
theorem d_M_sort_32 : decode b_M_sort 32 = .ok (.sipush 401, 3) := by decide +kernel
theorem d_M_sort_35 : decode b_M_sort 35 = .ok (.iload_n 1, 1) := by decide +kernel
theorem d_M_sort_36 : decode b_M_sort 36 = .ok (.iadd, 1) := by decide +kernel
theorem d_M_sort_37 : decode b_M_sort 37 = .ok (.iaload, 1) := by decide +kernel
theorem d_M_sort_38 : decode b_M_sort 38 = .ok (.iconst 2, 1) := by decide +kernel
theorem d_M_sort_39 : decode b_M_sort 39 = .ok (.if_icmp .ne 7, 3) := by decide +kernel
theorem d_M_sort_42 : decode b_M_sort 42 = .ok (.iconst 1, 1) := by decide +kernel
theorem d_M_sort_43 : decode b_M_sort 43 = .ok (.goto 4, 3) := by decide +kernel
theorem d_M_sort_46 : decode b_M_sort 46 = .ok (.iconst 0, 1) := by decide +kernel
theorem d_M_sort_47 : decode b_M_sort 47 = .ok (.bastore, 1) := by decide +kernel
theorem d_M_sort_48 : decode b_M_sort 48 = .ok (.aload_n 0, 1) := by decide +kernel
theorem d_M_sort_49 : decode b_M_sort 49 = .ok (.getfield 72, 3) := by decide +kernel
theorem d_M_sort_52 : decode b_M_sort 52 = .ok (.iload_n 1, 1) := by decide +kernel
theorem d_M_sort_53 : decode b_M_sort 53 = .ok (.iconst 0, 1) := by decide +kernel
theorem d_M_sort_54 : decode b_M_sort 54 = .ok (.iastore, 1) := by decide +kernel
theorem d_M_sort_55 : decode b_M_sort 55 = .ok (.iinc 1 1, 3) := by decide +kernel
theorem d_M_sort_58 : decode b_M_sort 58 = .ok (.goto (-56), 3) := by decide +kernel
theorem d_M_sort_61 : decode b_M_sort 61 = .ok (.iconst 0, 1) := by decide +kernel
theorem d_M_sort_62 : decode b_M_sort 62 = .ok (.istore_n 1, 1) := by decide +kernel
theorem d_M_sort_63 : decode b_M_sort 63 = .ok (.iconst 0, 1) := by decide +kernel
theorem d_M_sort_64 : decode b_M_sort 64 = .ok (.istore_n 2, 1) := by decide +kernel
theorem d_M_sort_65 : decode b_M_sort 65 = .ok (.iload_n 2, 1) := by decide +kernel
theorem d_M_sort_66 : decode b_M_sort 66 = .ok (.aload_n 0, 1) := by decide +kernel
theorem d_M_sort_67 : decode b_M_sort 67 = .ok (.getfield 20, 3) := by decide +kernel
theorem d_M_sort_70 : decode b_M_sort 70 = .ok (.bipush 6, 2) := by decide +kernel
theorem d_M_sort_72 : decode b_M_sort 72 = .ok (.iaload, 1) := by decide +kernel
theorem d_M_sort_73 : decode b_M_sort 73 = .ok (.if_icmp .ge 29, 3) := by decide +kernel
theorem d_M_sort_76 : decode b_M_sort 76 = .ok (.aload_n 0, 1) := by decide +kernel
theorem d_M_sort_77 : decode b_M_sort 77 = .ok (.getfield 72, 3) := by decide +kernel
theorem d_M_sort_80 : decode b_M_sort 80 = .ok (.aload_n 0, 1) := by decide +kernel
theorem d_M_sort_81 : decode b_M_sort 81 = .ok (.getfield 24, 3) := by decide +kernel
theorem d_M_sort_84 : decode b_M_sort 84 = .ok (.bipush 6, 2) := by decide +kernel
theorem d_M_sort_86 : decode b_M_sort 86 = .ok (.iload_n 2, 1) := by decide +kernel
theorem d_M_sort_87 : decode b_M_sort 87 = .ok (.iadd, 1) := by decide +kernel
theorem d_M_sort_88 : decode b_M_sort 88 = .ok (.iaload, 1) := by decide +kernel
theorem d_M_sort_89 : decode b_M_sort 89 = .ok (.iconst 2, 1) := by decide +kernel
theorem d_M_sort_90 : decode b_M_sort 90 = .ok (.idiv, 1) := by decide +kernel
theorem d_M_sort_91 : decode b_M_sort 91 = .ok (.iinc 1 1, 3) := by decide +kernel
theorem d_M_sort_94 : decode b_M_sort 94 = .ok (.iload_n 1, 1) := by decide +kernel
theorem d_M_sort_95 : decode b_M_sort 95 = .ok (.iastore, 1) := by decide +kernel
theorem d_M_sort_96 : decode b_M_sort 96 = .ok (.iinc 2 1, 3) := by decide +kernel
theorem d_M_sort_99 : decode b_M_sort 99 = .ok (.goto (-34), 3) := by decide +kernel
theorem d_M_sort_102 : decode b_M_sort 102 = .ok (.iconst 0, 1) := by decide +kernel
theorem d_M_sort_103 : decode b_M_sort 103 = .ok (.istore_n 2, 1) := by decide +kernel
theorem d_M_sort_104 : decode b_M_sort 104 = .ok (.iload_n 2, 1) := by decide +kernel
theorem d_M_sort_105 : decode b_M_sort 105 = .ok (.aload_n 0, 1) := by decide +kernel
theorem d_M_sort_106 : decode b_M_sort 106 = .ok (.getfield 20, 3) := by decide +kernel
theorem d_M_sort_109 : decode b_M_sort 109 = .ok (.bipush 7, 2) := by decide +kernel
theorem d_M_sort_111 : decode b_M_sort 111 = .ok (.iaload, 1) := by decide +kernel
theorem d_M_sort_112 : decode b_M_sort 112 = .ok (.if_icmp .ge 29, 3) := by decide +kernel
theorem d_M_sort_115 : decode b_M_sort 115 = .ok (.aload_n 0, 1) := by decide +kernel
theorem d_M_sort_116 : decode b_M_sort 116 = .ok (.getfield 72, 3) := by decide +kernel
theorem d_M_sort_119 : decode b_M_sort 119 = .ok (.aload_n 0, 1) := by decide +kernel
theorem d_M_sort_120 : decode b_M_sort 120 = .ok (.getfield 27, 3) := by decide +kernel
theorem d_M_sort_123 : decode b_M_sort 123 = .ok (.bipush 8, 2) := by decide +kernel
theorem d_M_sort_125 : decode b_M_sort 125 = .ok (.iload_n 2, 1) := by decide +kernel
theorem d_M_sort_126 : decode b_M_sort 126 = .ok (.iadd, 1) := by decide +kernel
theorem d_M_sort_127 : decode b_M_sort 127 = .ok (.iaload, 1) := by decide +kernel
theorem d_M_sort_128 : decode b_M_sort 128 = .ok (.iconst 2, 1) := by decide +kernel
theorem d_M_sort_129 : decode b_M_sort 129 = .ok (.idiv, 1) := by decide +kernel
theorem d_M_sort_130 : decode b_M_sort 130 = .ok (.iinc 1 1, 3) := by decide +kernel
theorem d_M_sort_133 : decode b_M_sort 133 = .ok (.iload_n 1, 1) := by decide +kernel
theorem d_M_sort_134 : decode b_M_sort 134 = .ok (.iastore, 1) := by decide +kernel
theorem d_M_sort_135 : decode b_M_sort 135 = .ok (.iinc 2 1, 3) := by decide +kernel
theorem d_M_sort_138 : decode b_M_sort 138 = .ok (.goto (-34), 3) := by decide +kernel
theorem d_M_sort_141 : decode b_M_sort 141 = .ok (.aload_n 0, 1) := by decide +kernel
theorem d_M_sort_142 : decode b_M_sort 142 = .ok (.iconst 0, 1) := by decide +kernel
theorem d_M_sort_143 : decode b_M_sort 143 = .ok (.putfield 146, 3) := by decide +kernel
theorem d_M_sort_146 : decode b_M_sort 146 = .ok (.iconst 0, 1) := by decide +kernel
theorem d_M_sort_147 : decode b_M_sort 147 = .ok (.istore_n 2, 1) := by decide +kernel
theorem d_M_sort_148 : decode b_M_sort 148 = .ok (.iload_n 2, 1) := by decide +kernel
theorem d_M_sort_149 : decode b_M_sort 149 = .ok (.aload_n 0, 1) := by decide +kernel
theorem d_M_sort_150 : decode b_M_sort 150 = .ok (.getfield 20, 3) := by decide +kernel
theorem d_M_sort_153 : decode b_M_sort 153 = .ok (.bipush 9, 2) := by decide +kernel
theorem d_M_sort_155 : decode b_M_sort 155 = .ok (.iaload, 1) := by decide +kernel
theorem d_M_sort_156 : decode b_M_sort 156 = .ok (.if_icmp .ge 107, 3) := by decide +kernel
theorem d_M_sort_159 : decode b_M_sort 159 = .ok (.aload_n 0, 1) := by decide +kernel
theorem d_M_sort_160 : decode b_M_sort 160 = .ok (.getfield 36, 3) := by decide +kernel
theorem d_M_sort_163 : decode b_M_sort 163 = .ok (.sipush 300, 3) := by decide +kernel
theorem d_M_sort_166 : decode b_M_sort 166 = .ok (.iload_n 2, 1) := by decide +kernel
theorem d_M_sort_167 : decode b_M_sort 167 = .ok (.iadd, 1) := by decide +kernel
theorem d_M_sort_168 : decode b_M_sort 168 = .ok (.iaload, 1) := by decide +kernel
theorem d_M_sort_169 : decode b_M_sort 169 = .ok (.iconst 2, 1) := by decide +kernel
theorem d_M_sort_170 : decode b_M_sort 170 = .ok (.idiv, 1) := by decide +kernel
theorem d_M_sort_171 : decode b_M_sort 171 = .ok (.istore_n 3, 1) := by decide +kernel
theorem d_M_sort_172 : decode b_M_sort 172 = .ok (.aload_n 0, 1) := by decide +kernel
theorem d_M_sort_173 : decode b_M_sort 173 = .ok (.getfield 75, 3) := by decide +kernel
theorem d_M_sort_176 : decode b_M_sort 176 = .ok (.iload_n 3, 1) := by decide +kernel
theorem d_M_sort_177 : decode b_M_sort 177 = .ok (.baload, 1) := by decide +kernel
theorem d_M_sort_178 : decode b_M_sort 178 = .ok (.ifCond .ne 79, 3) := by decide +kernel
theorem d_M_sort_181 : decode b_M_sort 181 = .ok (.aload_n 0, 1) := by decide +kernel
theorem d_M_sort_182 : decode b_M_sort 182 = .ok (.aload_n 0, 1) := by decide +kernel
theorem d_M_sort_183 : decode b_M_sort 183 = .ok (.getfield 39, 3) := by decide +kernel
theorem d_M_sort_186 : decode b_M_sort 186 = .ok (.sipush 300, 3) := by decide +kernel
theorem d_M_sort_189 : decode b_M_sort 189 = .ok (.iload_n 2, 1) := by decide +kernel
theorem d_M_sort_190 : decode b_M_sort 190 = .ok (.iadd, 1) := by decide +kernel
theorem d_M_sort_191 : decode b_M_sort 191 = .ok (.iaload, 1) := by decide +kernel
theorem d_M_sort_192 : decode b_M_sort 192 = .ok (.invokevirtual 149, 3) := by decide +kernel
theorem d_M_sort_195 : decode b_M_sort 195 = .ok (.ifCond .eq 62, 3) := by decide +kernel
theorem d_M_sort_198 : decode b_M_sort 198 = .ok (.aload_n 0, 1) := by decide +kernel
theorem d_M_sort_199 : decode b_M_sort 199 = .ok (.aload_n 0, 1) := by decide +kernel
theorem d_M_sort_200 : decode b_M_sort 200 = .ok (.getfield 42, 3) := by decide +kernel
theorem d_M_sort_203 : decode b_M_sort 203 = .ok (.sipush 300, 3) := by decide +kernel
theorem d_M_sort_206 : decode b_M_sort 206 = .ok (.iload_n 2, 1) := by decide +kernel
theorem d_M_sort_207 : decode b_M_sort 207 = .ok (.iadd, 1) := by decide +kernel
theorem d_M_sort_208 : decode b_M_sort 208 = .ok (.iaload, 1) := by decide +kernel
theorem d_M_sort_209 : decode b_M_sort 209 = .ok (.invokevirtual 149, 3) := by decide +kernel
theorem d_M_sort_212 : decode b_M_sort 212 = .ok (.ifCond .eq 45, 3) := by decide +kernel
theorem d_M_sort_215 : decode b_M_sort 215 = .ok (.aload_n 0, 1) := by decide +kernel
theorem d_M_sort_216 : decode b_M_sort 216 = .ok (.getfield 75, 3) := by decide +kernel
theorem d_M_sort_219 : decode b_M_sort 219 = .ok (.iload_n 3, 1) := by decide +kernel
theorem d_M_sort_220 : decode b_M_sort 220 = .ok (.iconst 1, 1) := by decide +kernel
theorem d_M_sort_221 : decode b_M_sort 221 = .ok (.bastore, 1) := by decide +kernel
theorem d_M_sort_222 : decode b_M_sort 222 = .ok (.aload_n 0, 1) := by decide +kernel
theorem d_M_sort_223 : decode b_M_sort 223 = .ok (.getfield 69, 3) := by decide +kernel
theorem d_M_sort_226 : decode b_M_sort 226 = .ok (.aload_n 0, 1) := by decide +kernel
theorem d_M_sort_227 : decode b_M_sort 227 = .ok (.getfield 146, 3) := by decide +kernel
theorem d_M_sort_230 : decode b_M_sort 230 = .ok (.iload_n 2, 1) := by decide +kernel
theorem d_M_sort_231 : decode b_M_sort 231 = .ok (.iastore, 1) := by decide +kernel
theorem d_M_sort_232 : decode b_M_sort 232 = .ok (.aload_n 0, 1) := by decide +kernel
theorem d_M_sort_233 : decode b_M_sort 233 = .ok (.dup, 1) := by decide +kernel
theorem d_M_sort_234 : decode b_M_sort 234 = .ok (.getfield 146, 3) := by decide +kernel
theorem d_M_sort_237 : decode b_M_sort 237 = .ok (.iconst 1, 1) := by decide +kernel
theorem d_M_sort_238 : decode b_M_sort 238 = .ok (.iadd, 1) := by decide +kernel
theorem d_M_sort_239 : decode b_M_sort 239 = .ok (.putfield 146, 3) := by decide +kernel
theorem d_M_sort_242 : decode b_M_sort 242 = .ok (.aload_n 0, 1) := by decide +kernel
theorem d_M_sort_243 : decode b_M_sort 243 = .ok (.getfield 72, 3) := by decide +kernel
theorem d_M_sort_246 : decode b_M_sort 246 = .ok (.iload_n 3, 1) := by decide +kernel
theorem d_M_sort_247 : decode b_M_sort 247 = .ok (.iinc 1 1, 3) := by decide +kernel
theorem d_M_sort_250 : decode b_M_sort 250 = .ok (.iload_n 1, 1) := by decide +kernel
theorem d_M_sort_251 : decode b_M_sort 251 = .ok (.iastore, 1) := by decide +kernel
theorem d_M_sort_252 : decode b_M_sort 252 = .ok (.iconst 0, 1) := by decide +kernel
theorem d_M_sort_253 : decode b_M_sort 253 = .ok (.istore_n 2, 1) := by decide +kernel
theorem d_M_sort_254 : decode b_M_sort 254 = .ok (.goto 6, 3) := by decide +kernel
theorem d_M_sort_257 : decode b_M_sort 257 = .ok (.iinc 2 1, 3) := by decide +kernel
theorem d_M_sort_260 : decode b_M_sort 260 = .ok (.goto (-112), 3) := by decide +kernel
theorem d_M_sort_263 : decode b_M_sort 263 = .ok (.return_, 1) := by decide +kernel
theorem d_M_hangs_0 : decode b_M_hangs 0 = .ok (.aload_n 0, 1) := by decide +kernel
theorem d_M_hangs_1 : decode b_M_hangs 1 = .ok (.getfield 75, 3) := by decide +kernel
theorem d_M_hangs_4 : decode b_M_hangs 4 = .ok (.astore_n 2, 1) := by decide +kernel
theorem d_M_hangs_5 : decode b_M_hangs 5 = .ok (.iconst 0, 1) := by decide +kernel
theorem d_M_hangs_6 : decode b_M_hangs 6 = .ok (.istore_n 3, 1) := by decide +kernel
theorem d_M_hangs_7 : decode b_M_hangs 7 = .ok (.iload_n 3, 1) := by decide +kernel
theorem d_M_hangs_8 : decode b_M_hangs 8 = .ok (.sipush 401, 3) := by decide +kernel
theorem d_M_hangs_11 : decode b_M_hangs 11 = .ok (.if_icmp .ge 13, 3) := by decide +kernel
theorem d_M_hangs_14 : decode b_M_hangs 14 = .ok (.aload_n 2, 1) := by decide +kernel
theorem d_M_hangs_15 : decode b_M_hangs 15 = .ok (.iload_n 3, 1) := by decide +kernel
theorem d_M_hangs_16 : decode b_M_hangs 16 = .ok (.iconst 0, 1) := by decide +kernel
theorem d_M_hangs_17 : decode b_M_hangs 17 = .ok (.bastore, 1) := by decide +kernel
theorem d_M_hangs_18 : decode b_M_hangs 18 = .ok (.iinc 3 1, 3) := by decide +kernel
theorem d_M_hangs_21 : decode b_M_hangs 21 = .ok (.goto (-14), 3) := by decide +kernel
theorem d_M_hangs_24 : decode b_M_hangs 24 = .ok (.iconst 1, 1) := by decide +kernel
theorem d_M_hangs_25 : decode b_M_hangs 25 = .ok (.istore_n 3, 1) := by decide +kernel
theorem d_M_hangs_26 : decode b_M_hangs 26 = .ok (.iconst 0, 1) := by decide +kernel
theorem d_M_hangs_27 : decode b_M_hangs 27 = .ok (.istore 4, 2) := by decide +kernel
theorem d_M_hangs_29 : decode b_M_hangs 29 = .ok (.iload_n 3, 1) := by decide +kernel
theorem d_M_hangs_30 : decode b_M_hangs 30 = .ok (.ifCond .eq 137, 3) := by decide +kernel
theorem d_M_hangs_33 : decode b_M_hangs 33 = .ok (.iconst 0, 1) := by decide +kernel
theorem d_M_hangs_34 : decode b_M_hangs 34 = .ok (.istore_n 3, 1) := by decide +kernel
theorem d_M_hangs_35 : decode b_M_hangs 35 = .ok (.iconst 0, 1) := by decide +kernel
theorem d_M_hangs_36 : decode b_M_hangs 36 = .ok (.istore 5, 2) := by decide +kernel
theorem d_M_hangs_38 : decode b_M_hangs 38 = .ok (.iload 5, 2) := by decide +kernel
theorem d_M_hangs_40 : decode b_M_hangs 40 = .ok (.aload_n 0, 1) := by decide +kernel
theorem d_M_hangs_41 : decode b_M_hangs 41 = .ok (.getfield 20, 3) := by decide +kernel
theorem d_M_hangs_44 : decode b_M_hangs 44 = .ok (.bipush 9, 2) := by decide +kernel
theorem d_M_hangs_46 : decode b_M_hangs 46 = .ok (.iaload, 1) := by decide +kernel
theorem d_M_hangs_47 : decode b_M_hangs 47 = .ok (.if_icmp .ge 114, 3) := by decide +kernel
theorem d_M_hangs_50 : decode b_M_hangs 50 = .ok (.aload_n 0, 1) := by decide +kernel
theorem d_M_hangs_51 : decode b_M_hangs 51 = .ok (.getfield 36, 3) := by decide +kernel
theorem d_M_hangs_54 : decode b_M_hangs 54 = .ok (.sipush 300, 3) := by decide +kernel
theorem d_M_hangs_57 : decode b_M_hangs 57 = .ok (.iload 5, 2) := by decide +kernel
theorem d_M_hangs_59 : decode b_M_hangs 59 = .ok (.iadd, 1) := by decide +kernel
theorem d_M_hangs_60 : decode b_M_hangs 60 = .ok (.iaload, 1) := by decide +kernel
theorem d_M_hangs_61 : decode b_M_hangs 61 = .ok (.iconst 2, 1) := by decide +kernel
theorem d_M_hangs_62 : decode b_M_hangs 62 = .ok (.idiv, 1) := by decide +kernel
theorem d_M_hangs_63 : decode b_M_hangs 63 = .ok (.istore 6, 2) := by decide +kernel
theorem d_M_hangs_65 : decode b_M_hangs 65 = .ok (.iload 6, 2) := by decide +kernel
theorem d_M_hangs_67 : decode b_M_hangs 67 = .ok (.iload_n 1, 1) := by decide +kernel
theorem d_M_hangs_68 : decode b_M_hangs 68 = .ok (.if_icmp .eq 10, 3) := by decide +kernel
theorem d_M_hangs_71 : decode b_M_hangs 71 = .ok (.aload_n 2, 1) := by decide +kernel
theorem d_M_hangs_72 : decode b_M_hangs 72 = .ok (.iload 6, 2) := by decide +kernel
theorem d_M_hangs_74 : decode b_M_hangs 74 = .ok (.baload, 1) := by decide +kernel
theorem d_M_hangs_75 : decode b_M_hangs 75 = .ok (.ifCond .eq 80, 3) := by decide +kernel
theorem d_M_hangs_78 : decode b_M_hangs 78 = .ok (.iload 6, 2) := by decide +kernel
theorem d_M_hangs_80 : decode b_M_hangs 80 = .ok (.iload_n 1, 1) := by decide +kernel
theorem d_M_hangs_81 : decode b_M_hangs 81 = .ok (.if_icmp .ne 18, 3) := by decide +kernel
theorem d_M_hangs_84 : decode b_M_hangs 84 = .ok (.iload 4, 2) := by decide +kernel
theorem d_M_hangs_86 : decode b_M_hangs 86 = .ok (.ifCond .eq 13, 3) := by decide +kernel
theorem d_M_hangs_89 : decode b_M_hangs 89 = .ok (.aload_n 2, 1) := by decide +kernel
theorem d_M_hangs_90 : decode b_M_hangs 90 = .ok (.iload 6, 2) := by decide +kernel
theorem d_M_hangs_92 : decode b_M_hangs 92 = .ok (.baload, 1) := by decide +kernel
theorem d_M_hangs_93 : decode b_M_hangs 93 = .ok (.ifCond .ne 6, 3) := by decide +kernel
theorem d_M_hangs_96 : decode b_M_hangs 96 = .ok (.goto 59, 3) := by decide +kernel
theorem d_M_hangs_99 : decode b_M_hangs 99 = .ok (.aload_n 0, 1) := by decide +kernel
theorem d_M_hangs_100 : decode b_M_hangs 100 = .ok (.getfield 39, 3) := by decide +kernel
theorem d_M_hangs_103 : decode b_M_hangs 103 = .ok (.sipush 300, 3) := by decide +kernel
theorem d_M_hangs_106 : decode b_M_hangs 106 = .ok (.iload 5, 2) := by decide +kernel
theorem d_M_hangs_108 : decode b_M_hangs 108 = .ok (.iadd, 1) := by decide +kernel
theorem d_M_hangs_109 : decode b_M_hangs 109 = .ok (.iaload, 1) := by decide +kernel
theorem d_M_hangs_110 : decode b_M_hangs 110 = .ok (.iconst 2, 1) := by decide +kernel
theorem d_M_hangs_111 : decode b_M_hangs 111 = .ok (.idiv, 1) := by decide +kernel
theorem d_M_hangs_112 : decode b_M_hangs 112 = .ok (.istore 7, 2) := by decide +kernel
theorem d_M_hangs_114 : decode b_M_hangs 114 = .ok (.aload_n 0, 1) := by decide +kernel
theorem d_M_hangs_115 : decode b_M_hangs 115 = .ok (.getfield 42, 3) := by decide +kernel
theorem d_M_hangs_118 : decode b_M_hangs 118 = .ok (.sipush 300, 3) := by decide +kernel
theorem d_M_hangs_121 : decode b_M_hangs 121 = .ok (.iload 5, 2) := by decide +kernel
theorem d_M_hangs_123 : decode b_M_hangs 123 = .ok (.iadd, 1) := by decide +kernel
theorem d_M_hangs_124 : decode b_M_hangs 124 = .ok (.iaload, 1) := by decide +kernel
theorem d_M_hangs_125 : decode b_M_hangs 125 = .ok (.iconst 2, 1) := by decide +kernel
theorem d_M_hangs_126 : decode b_M_hangs 126 = .ok (.idiv, 1) := by decide +kernel
theorem d_M_hangs_127 : decode b_M_hangs 127 = .ok (.istore 8, 2) := by decide +kernel
theorem d_M_hangs_129 : decode b_M_hangs 129 = .ok (.aload_n 2, 1) := by decide +kernel
theorem d_M_hangs_130 : decode b_M_hangs 130 = .ok (.iload 7, 2) := by decide +kernel
theorem d_M_hangs_132 : decode b_M_hangs 132 = .ok (.baload, 1) := by decide +kernel
theorem d_M_hangs_133 : decode b_M_hangs 133 = .ok (.ifCond .eq 10, 3) := by decide +kernel
theorem d_M_hangs_136 : decode b_M_hangs 136 = .ok (.aload_n 2, 1) := by decide +kernel
theorem d_M_hangs_137 : decode b_M_hangs 137 = .ok (.iload 8, 2) := by decide +kernel
theorem d_M_hangs_139 : decode b_M_hangs 139 = .ok (.baload, 1) := by decide +kernel
theorem d_M_hangs_140 : decode b_M_hangs 140 = .ok (.ifCond .ne 5, 3) := by decide +kernel
theorem d_M_hangs_143 : decode b_M_hangs 143 = .ok (.iconst 1, 1) := by decide +kernel
theorem d_M_hangs_144 : decode b_M_hangs 144 = .ok (.istore_n 3, 1) := by decide +kernel
theorem d_M_hangs_145 : decode b_M_hangs 145 = .ok (.aload_n 2, 1) := by decide +kernel
theorem d_M_hangs_146 : decode b_M_hangs 146 = .ok (.iload 7, 2) := by decide +kernel
theorem d_M_hangs_148 : decode b_M_hangs 148 = .ok (.iconst 1, 1) := by decide +kernel
theorem d_M_hangs_149 : decode b_M_hangs 149 = .ok (.bastore, 1) := by decide +kernel
theorem d_M_hangs_150 : decode b_M_hangs 150 = .ok (.aload_n 2, 1) := by decide +kernel
theorem d_M_hangs_151 : decode b_M_hangs 151 = .ok (.iload 8, 2) := by decide +kernel
theorem d_M_hangs_153 : decode b_M_hangs 153 = .ok (.iconst 1, 1) := by decide +kernel
theorem d_M_hangs_154 : decode b_M_hangs 154 = .ok (.bastore, 1) := by decide +kernel
theorem d_M_hangs_155 : decode b_M_hangs 155 = .ok (.iinc 5 1, 3) := by decide +kernel
theorem d_M_hangs_158 : decode b_M_hangs 158 = .ok (.goto (-120), 3) := by decide +kernel
theorem d_M_hangs_161 : decode b_M_hangs 161 = .ok (.iconst 1, 1) := by decide +kernel
theorem d_M_hangs_162 : decode b_M_hangs 162 = .ok (.istore 4, 2) := by decide +kernel
theorem d_M_hangs_164 : decode b_M_hangs 164 = .ok (.goto (-135), 3) := by decide +kernel
theorem d_M_hangs_167 : decode b_M_hangs 167 = .ok (.aload_n 2, 1) := by decide +kernel
theorem d_M_hangs_168 : decode b_M_hangs 168 = .ok (.iload_n 1, 1) := by decide +kernel
theorem d_M_hangs_169 : decode b_M_hangs 169 = .ok (.baload, 1) := by decide +kernel
theorem d_M_hangs_170 : decode b_M_hangs 170 = .ok (.ireturn, 1) := by decide +kernel
theorem d_M_findRing_0 : decode b_M_findRing 0 = .ok (.aload_n 0, 1) := by decide +kernel
theorem d_M_findRing_1 : decode b_M_findRing 1 = .ok (.invokevirtual 152, 3) := by decide +kernel
theorem d_M_findRing_4 : decode b_M_findRing 4 = .ok (.aload_n 0, 1) := by decide +kernel
theorem d_M_findRing_5 : decode b_M_findRing 5 = .ok (.getfield 146, 3) := by decide +kernel
theorem d_M_findRing_8 : decode b_M_findRing 8 = .ok (.aload_n 0, 1) := by decide +kernel
theorem d_M_findRing_9 : decode b_M_findRing 9 = .ok (.getfield 20, 3) := by decide +kernel
theorem d_M_findRing_12 : decode b_M_findRing 12 = .ok (.bipush 9, 2) := by decide +kernel
theorem d_M_findRing_14 : decode b_M_findRing 14 = .ok (.iaload, 1) := by decide +kernel
theorem d_M_findRing_15 : decode b_M_findRing 15 = .ok (.if_icmp .ne 4, 3) := by decide +kernel
theorem d_M_findRing_18 : decode b_M_findRing 18 = .ok (.return_, 1) := by decide +kernel
theorem d_M_findRing_19 : decode b_M_findRing 19 = .ok (.iconst 1, 1) := by decide +kernel
theorem d_M_findRing_20 : decode b_M_findRing 20 = .ok (.istore_n 1, 1) := by decide +kernel
theorem d_M_findRing_21 : decode b_M_findRing 21 = .ok (.iload_n 1, 1) := by decide +kernel
theorem d_M_findRing_22 : decode b_M_findRing 22 = .ok (.aload_n 0, 1) := by decide +kernel
theorem d_M_findRing_23 : decode b_M_findRing 23 = .ok (.getfield 20, 3) := by decide +kernel
theorem d_M_findRing_26 : decode b_M_findRing 26 = .ok (.iconst 5, 1) := by decide +kernel
theorem d_M_findRing_27 : decode b_M_findRing 27 = .ok (.iaload, 1) := by decide +kernel
theorem d_M_findRing_28 : decode b_M_findRing 28 = .ok (.if_icmp .gt 45, 3) := by decide +kernel
theorem d_M_findRing_31 : decode b_M_findRing 31 = .ok (.aload_n 0, 1) := by decide +kernel
theorem d_M_findRing_32 : decode b_M_findRing 32 = .ok (.getfield 94, 3) := by decide +kernel
theorem d_M_findRing_35 : decode b_M_findRing 35 = .ok (.ifCond .ne 38, 3) := by decide +kernel
theorem d_M_findRing_38 : decode b_M_findRing 38 = .ok (.aload_n 0, 1) := by decide +kernel
theorem d_M_findRing_39 : decode b_M_findRing 39 = .ok (.getfield 45, 3) := by decide +kernel
theorem d_M_findRing_42 : decode b_M_findRing 42 = .ok (.sipush 401, 3) := by decide +kernel
theorem d_M_findRing_45 : decode b_M_findRing 45 = .ok (.iload_n 1, 1) := by decide +kernel
theorem d_M_findRing_46 : decode b_M_findRing 46 = .ok (.iadd, 1) := by decide +kernel
theorem d_M_findRing_47 : decode b_M_findRing 47 = .ok (.iaload, 1) := by decide +kernel
theorem d_M_findRing_48 : decode b_M_findRing 48 = .ok (.iconst 3, 1) := by decide +kernel
theorem d_M_findRing_49 : decode b_M_findRing 49 = .ok (.if_icmp .ne 18, 3) := by decide +kernel
theorem d_M_findRing_52 : decode b_M_findRing 52 = .ok (.aload_n 0, 1) := by decide +kernel
theorem d_M_findRing_53 : decode b_M_findRing 53 = .ok (.iload_n 1, 1) := by decide +kernel
theorem d_M_findRing_54 : decode b_M_findRing 54 = .ok (.invokevirtual 155, 3) := by decide +kernel
theorem d_M_findRing_57 : decode b_M_findRing 57 = .ok (.ifCond .eq 10, 3) := by decide +kernel
theorem d_M_findRing_60 : decode b_M_findRing 60 = .ok (.aload_n 0, 1) := by decide +kernel
theorem d_M_findRing_61 : decode b_M_findRing 61 = .ok (.bipush 6, 2) := by decide +kernel
theorem d_M_findRing_63 : decode b_M_findRing 63 = .ok (.iload_n 1, 1) := by decide +kernel
theorem d_M_findRing_64 : decode b_M_findRing 64 = .ok (.invokevirtual 104, 3) := by decide +kernel
theorem d_M_findRing_67 : decode b_M_findRing 67 = .ok (.iinc 1 1, 3) := by decide +kernel
theorem d_M_findRing_70 : decode b_M_findRing 70 = .ok (.goto (-49), 3) := by decide +kernel
theorem d_M_findRing_73 : decode b_M_findRing 73 = .ok (.return_, 1) := by decide +kernel
theorem d_M_keep_0 : decode b_M_keep 0 = .ok (.iconst 0, 1) := by decide +kernel
theorem d_M_keep_1 : decode b_M_keep 1 = .ok (.istore_n 1, 1) := by decide +kernel
theorem d_M_keep_2 : decode b_M_keep 2 = .ok (.iload_n 1, 1) := by decide +kernel
theorem d_M_keep_3 : decode b_M_keep 3 = .ok (.iconst 5, 1) := by decide +kernel
theorem d_M_keep_4 : decode b_M_keep 4 = .ok (.if_icmp .ge 23, 3) := by decide +kernel
theorem d_M_keep_7 : decode b_M_keep 7 = .ok (.aload_n 0, 1) := by decide +kernel
theorem d_M_keep_8 : decode b_M_keep 8 = .ok (.getfield 20, 3) := by decide +kernel
theorem d_M_keep_11 : decode b_M_keep 11 = .ok (.iload_n 1, 1) := by decide +kernel
theorem d_M_keep_12 : decode b_M_keep 12 = .ok (.aload_n 0, 1) := by decide +kernel
theorem d_M_keep_13 : decode b_M_keep 13 = .ok (.getfield 20, 3) := by decide +kernel
theorem d_M_keep_16 : decode b_M_keep 16 = .ok (.iconst 5, 1) := by decide +kernel
theorem d_M_keep_17 : decode b_M_keep 17 = .ok (.iload_n 1, 1) := by decide +kernel
theorem d_M_keep_18 : decode b_M_keep 18 = .ok (.iadd, 1) := by decide +kernel
theorem d_M_keep_19 : decode b_M_keep 19 = .ok (.iaload, 1) := by decide +kernel
theorem d_M_keep_20 : decode b_M_keep 20 = .ok (.iastore, 1) := by decide +kernel
theorem d_M_keep_21 : decode b_M_keep 21 = .ok (.iinc 1 1, 3) := by decide +kernel
theorem d_M_keep_24 : decode b_M_keep 24 = .ok (.goto (-22), 3) := by decide +kernel
theorem d_M_keep_27 : decode b_M_keep 27 = .ok (.iconst 0, 1) := by decide +kernel
theorem d_M_keep_28 : decode b_M_keep 28 = .ok (.istore_n 1, 1) := by decide +kernel
theorem d_M_keep_29 : decode b_M_keep 29 = .ok (.iload_n 1, 1) := by decide +kernel
theorem d_M_keep_30 : decode b_M_keep 30 = .ok (.bipush 6, 2) := by decide +kernel
theorem d_M_keep_32 : decode b_M_keep 32 = .ok (.if_icmp .ge 24, 3) := by decide +kernel
theorem d_M_keep_35 : decode b_M_keep 35 = .ok (.aload_n 0, 1) := by decide +kernel
theorem d_M_keep_36 : decode b_M_keep 36 = .ok (.getfield 24, 3) := by decide +kernel
theorem d_M_keep_39 : decode b_M_keep 39 = .ok (.iload_n 1, 1) := by decide +kernel
theorem d_M_keep_40 : decode b_M_keep 40 = .ok (.aload_n 0, 1) := by decide +kernel
theorem d_M_keep_41 : decode b_M_keep 41 = .ok (.getfield 24, 3) := by decide +kernel
theorem d_M_keep_44 : decode b_M_keep 44 = .ok (.bipush 6, 2) := by decide +kernel
theorem d_M_keep_46 : decode b_M_keep 46 = .ok (.iload_n 1, 1) := by decide +kernel
theorem d_M_keep_47 : decode b_M_keep 47 = .ok (.iadd, 1) := by decide +kernel
theorem d_M_keep_48 : decode b_M_keep 48 = .ok (.iaload, 1) := by decide +kernel
theorem d_M_keep_49 : decode b_M_keep 49 = .ok (.iastore, 1) := by decide +kernel
theorem d_M_keep_50 : decode b_M_keep 50 = .ok (.iinc 1 1, 3) := by decide +kernel
theorem d_M_keep_53 : decode b_M_keep 53 = .ok (.goto (-24), 3) := by decide +kernel
theorem d_M_keep_56 : decode b_M_keep 56 = .ok (.iconst 0, 1) := by decide +kernel
theorem d_M_keep_57 : decode b_M_keep 57 = .ok (.istore_n 1, 1) := by decide +kernel
theorem d_M_keep_58 : decode b_M_keep 58 = .ok (.iload_n 1, 1) := by decide +kernel
theorem d_M_keep_59 : decode b_M_keep 59 = .ok (.bipush 8, 2) := by decide +kernel
theorem d_M_keep_61 : decode b_M_keep 61 = .ok (.if_icmp .ge 54, 3) := by decide +kernel
theorem d_M_keep_64 : decode b_M_keep 64 = .ok (.aload_n 0, 1) := by decide +kernel
theorem d_M_keep_65 : decode b_M_keep 65 = .ok (.getfield 27, 3) := by decide +kernel
theorem d_M_keep_68 : decode b_M_keep 68 = .ok (.iload_n 1, 1) := by decide +kernel
theorem d_M_keep_69 : decode b_M_keep 69 = .ok (.aload_n 0, 1) := by decide +kernel
theorem d_M_keep_70 : decode b_M_keep 70 = .ok (.getfield 27, 3) := by decide +kernel
theorem d_M_keep_73 : decode b_M_keep 73 = .ok (.bipush 8, 2) := by decide +kernel
theorem d_M_keep_75 : decode b_M_keep 75 = .ok (.iload_n 1, 1) := by decide +kernel
theorem d_M_keep_76 : decode b_M_keep 76 = .ok (.iadd, 1) := by decide +kernel
theorem d_M_keep_77 : decode b_M_keep 77 = .ok (.iaload, 1) := by decide +kernel
theorem d_M_keep_78 : decode b_M_keep 78 = .ok (.iastore, 1) := by decide +kernel
theorem d_M_keep_79 : decode b_M_keep 79 = .ok (.aload_n 0, 1) := by decide +kernel
theorem d_M_keep_80 : decode b_M_keep 80 = .ok (.getfield 30, 3) := by decide +kernel
theorem d_M_keep_83 : decode b_M_keep 83 = .ok (.iload_n 1, 1) := by decide +kernel
theorem d_M_keep_84 : decode b_M_keep 84 = .ok (.aload_n 0, 1) := by decide +kernel
theorem d_M_keep_85 : decode b_M_keep 85 = .ok (.getfield 30, 3) := by decide +kernel
theorem d_M_keep_88 : decode b_M_keep 88 = .ok (.bipush 8, 2) := by decide +kernel
theorem d_M_keep_90 : decode b_M_keep 90 = .ok (.iload_n 1, 1) := by decide +kernel
theorem d_M_keep_91 : decode b_M_keep 91 = .ok (.iadd, 1) := by decide +kernel
theorem d_M_keep_92 : decode b_M_keep 92 = .ok (.iaload, 1) := by decide +kernel
theorem d_M_keep_93 : decode b_M_keep 93 = .ok (.iastore, 1) := by decide +kernel
theorem d_M_keep_94 : decode b_M_keep 94 = .ok (.aload_n 0, 1) := by decide +kernel
theorem d_M_keep_95 : decode b_M_keep 95 = .ok (.getfield 33, 3) := by decide +kernel
theorem d_M_keep_98 : decode b_M_keep 98 = .ok (.iload_n 1, 1) := by decide +kernel
theorem d_M_keep_99 : decode b_M_keep 99 = .ok (.aload_n 0, 1) := by decide +kernel
theorem d_M_keep_100 : decode b_M_keep 100 = .ok (.getfield 33, 3) := by decide +kernel
theorem d_M_keep_103 : decode b_M_keep 103 = .ok (.bipush 8, 2) := by decide +kernel
theorem d_M_keep_105 : decode b_M_keep 105 = .ok (.iload_n 1, 1) := by decide +kernel
theorem d_M_keep_106 : decode b_M_keep 106 = .ok (.iadd, 1) := by decide +kernel
theorem d_M_keep_107 : decode b_M_keep 107 = .ok (.iaload, 1) := by decide +kernel
theorem d_M_keep_108 : decode b_M_keep 108 = .ok (.iastore, 1) := by decide +kernel
theorem d_M_keep_109 : decode b_M_keep 109 = .ok (.iinc 1 1, 3) := by decide +kernel
theorem d_M_keep_112 : decode b_M_keep 112 = .ok (.goto (-54), 3) := by decide +kernel
theorem d_M_keep_115 : decode b_M_keep 115 = .ok (.iconst 0, 1) := by decide +kernel
theorem d_M_keep_116 : decode b_M_keep 116 = .ok (.istore_n 1, 1) := by decide +kernel
theorem d_M_keep_117 : decode b_M_keep 117 = .ok (.iload_n 1, 1) := by decide +kernel
theorem d_M_keep_118 : decode b_M_keep 118 = .ok (.sipush 300, 3) := by decide +kernel
theorem d_M_keep_121 : decode b_M_keep 121 = .ok (.if_icmp .ge 57, 3) := by decide +kernel
theorem d_M_keep_124 : decode b_M_keep 124 = .ok (.aload_n 0, 1) := by decide +kernel
theorem d_M_keep_125 : decode b_M_keep 125 = .ok (.getfield 36, 3) := by decide +kernel
theorem d_M_keep_128 : decode b_M_keep 128 = .ok (.iload_n 1, 1) := by decide +kernel
theorem d_M_keep_129 : decode b_M_keep 129 = .ok (.aload_n 0, 1) := by decide +kernel
theorem d_M_keep_130 : decode b_M_keep 130 = .ok (.getfield 36, 3) := by decide +kernel
theorem d_M_keep_133 : decode b_M_keep 133 = .ok (.sipush 300, 3) := by decide +kernel
theorem d_M_keep_136 : decode b_M_keep 136 = .ok (.iload_n 1, 1) := by decide +kernel
theorem d_M_keep_137 : decode b_M_keep 137 = .ok (.iadd, 1) := by decide +kernel
theorem d_M_keep_138 : decode b_M_keep 138 = .ok (.iaload, 1) := by decide +kernel
theorem d_M_keep_139 : decode b_M_keep 139 = .ok (.iastore, 1) := by decide +kernel
theorem d_M_keep_140 : decode b_M_keep 140 = .ok (.aload_n 0, 1) := by decide +kernel
theorem d_M_keep_141 : decode b_M_keep 141 = .ok (.getfield 39, 3) := by decide +kernel
theorem d_M_keep_144 : decode b_M_keep 144 = .ok (.iload_n 1, 1) := by decide +kernel
theorem d_M_keep_145 : decode b_M_keep 145 = .ok (.aload_n 0, 1) := by decide +kernel
theorem d_M_keep_146 : decode b_M_keep 146 = .ok (.getfield 39, 3) := by decide +kernel
theorem d_M_keep_149 : decode b_M_keep 149 = .ok (.sipush 300, 3) := by decide +kernel
theorem d_M_keep_152 : decode b_M_keep 152 = .ok (.iload_n 1, 1) := by decide +kernel
theorem d_M_keep_153 : decode b_M_keep 153 = .ok (.iadd, 1) := by decide +kernel
theorem d_M_keep_154 : decode b_M_keep 154 = .ok (.iaload, 1) := by decide +kernel
theorem d_M_keep_155 : decode b_M_keep 155 = .ok (.iastore, 1) := by decide +kernel
theorem d_M_keep_156 : decode b_M_keep 156 = .ok (.aload_n 0, 1) := by decide +kernel
theorem d_M_keep_157 : decode b_M_keep 157 = .ok (.getfield 42, 3) := by decide +kernel
theorem d_M_keep_160 : decode b_M_keep 160 = .ok (.iload_n 1, 1) := by decide +kernel
theorem d_M_keep_161 : decode b_M_keep 161 = .ok (.aload_n 0, 1) := by decide +kernel
theorem d_M_keep_162 : decode b_M_keep 162 = .ok (.getfield 42, 3) := by decide +kernel
theorem d_M_keep_165 : decode b_M_keep 165 = .ok (.sipush 300, 3) := by decide +kernel
theorem d_M_keep_168 : decode b_M_keep 168 = .ok (.iload_n 1, 1) := by decide +kernel
theorem d_M_keep_169 : decode b_M_keep 169 = .ok (.iadd, 1) := by decide +kernel
theorem d_M_keep_170 : decode b_M_keep 170 = .ok (.iaload, 1) := by decide +kernel
theorem d_M_keep_171 : decode b_M_keep 171 = .ok (.iastore, 1) := by decide +kernel
theorem d_M_keep_172 : decode b_M_keep 172 = .ok (.iinc 1 1, 3) := by decide +kernel
theorem d_M_keep_175 : decode b_M_keep 175 = .ok (.goto (-58), 3) := by decide +kernel
theorem d_M_keep_178 : decode b_M_keep 178 = .ok (.iconst 0, 1) := by decide +kernel
theorem d_M_keep_179 : decode b_M_keep 179 = .ok (.istore_n 1, 1) := by decide +kernel
theorem d_M_keep_180 : decode b_M_keep 180 = .ok (.iload_n 1, 1) := by decide +kernel
theorem d_M_keep_181 : decode b_M_keep 181 = .ok (.sipush 401, 3) := by decide +kernel
theorem d_M_keep_184 : decode b_M_keep 184 = .ok (.if_icmp .ge 41, 3) := by decide +kernel
theorem d_M_keep_187 : decode b_M_keep 187 = .ok (.aload_n 0, 1) := by decide +kernel
theorem d_M_keep_188 : decode b_M_keep 188 = .ok (.getfield 45, 3) := by decide +kernel
theorem d_M_keep_191 : decode b_M_keep 191 = .ok (.iload_n 1, 1) := by decide +kernel
theorem d_M_keep_192 : decode b_M_keep 192 = .ok (.aload_n 0, 1) := by decide +kernel
theorem d_M_keep_193 : decode b_M_keep 193 = .ok (.getfield 45, 3) := by decide +kernel
theorem d_M_keep_196 : decode b_M_keep 196 = .ok (.sipush 401, 3) := by decide +kernel
theorem d_M_keep_199 : decode b_M_keep 199 = .ok (.iload_n 1, 1) := by decide +kernel
theorem d_M_keep_200 : decode b_M_keep 200 = .ok (.iadd, 1) := by decide +kernel
theorem d_M_keep_201 : decode b_M_keep 201 = .ok (.iaload, 1) := by decide +kernel
theorem d_M_keep_202 : decode b_M_keep 202 = .ok (.iastore, 1) := by decide +kernel
theorem d_M_keep_203 : decode b_M_keep 203 = .ok (.aload_n 0, 1) := by decide +kernel
theorem d_M_keep_204 : decode b_M_keep 204 = .ok (.getfield 48, 3) := by decide +kernel
theorem d_M_keep_207 : decode b_M_keep 207 = .ok (.iload_n 1, 1) := by decide +kernel
theorem d_M_keep_208 : decode b_M_keep 208 = .ok (.aload_n 0, 1) := by decide +kernel
theorem d_M_keep_209 : decode b_M_keep 209 = .ok (.getfield 48, 3) := by decide +kernel
theorem d_M_keep_212 : decode b_M_keep 212 = .ok (.sipush 401, 3) := by decide +kernel
theorem d_M_keep_215 : decode b_M_keep 215 = .ok (.iload_n 1, 1) := by decide +kernel
theorem d_M_keep_216 : decode b_M_keep 216 = .ok (.iadd, 1) := by decide +kernel
theorem d_M_keep_217 : decode b_M_keep 217 = .ok (.iaload, 1) := by decide +kernel
theorem d_M_keep_218 : decode b_M_keep 218 = .ok (.iastore, 1) := by decide +kernel
theorem d_M_keep_219 : decode b_M_keep 219 = .ok (.iinc 1 1, 3) := by decide +kernel
theorem d_M_keep_222 : decode b_M_keep 222 = .ok (.goto (-42), 3) := by decide +kernel
theorem d_M_keep_225 : decode b_M_keep 225 = .ok (.iconst 0, 1) := by decide +kernel
theorem d_M_keep_226 : decode b_M_keep 226 = .ok (.istore_n 1, 1) := by decide +kernel
theorem d_M_keep_227 : decode b_M_keep 227 = .ok (.iload_n 1, 1) := by decide +kernel
theorem d_M_keep_228 : decode b_M_keep 228 = .ok (.bipush 22, 2) := by decide +kernel
theorem d_M_keep_230 : decode b_M_keep 230 = .ok (.if_icmp .ge 24, 3) := by decide +kernel
theorem d_M_keep_233 : decode b_M_keep 233 = .ok (.aload_n 0, 1) := by decide +kernel
theorem d_M_keep_234 : decode b_M_keep 234 = .ok (.getfield 66, 3) := by decide +kernel
theorem d_M_keep_237 : decode b_M_keep 237 = .ok (.iload_n 1, 1) := by decide +kernel
theorem d_M_keep_238 : decode b_M_keep 238 = .ok (.aload_n 0, 1) := by decide +kernel
theorem d_M_keep_239 : decode b_M_keep 239 = .ok (.getfield 66, 3) := by decide +kernel
theorem d_M_keep_242 : decode b_M_keep 242 = .ok (.bipush 22, 2) := by decide +kernel
theorem d_M_keep_244 : decode b_M_keep 244 = .ok (.iload_n 1, 1) := by decide +kernel
theorem d_M_keep_245 : decode b_M_keep 245 = .ok (.iadd, 1) := by decide +kernel
theorem d_M_keep_246 : decode b_M_keep 246 = .ok (.iaload, 1) := by decide +kernel
theorem d_M_keep_247 : decode b_M_keep 247 = .ok (.iastore, 1) := by decide +kernel
theorem d_M_keep_248 : decode b_M_keep 248 = .ok (.iinc 1 1, 3) := by decide +kernel
theorem d_M_keep_251 : decode b_M_keep 251 = .ok (.goto (-24), 3) := by decide +kernel
theorem d_M_keep_254 : decode b_M_keep 254 = .ok (.iconst 0, 1) := by decide +kernel
theorem d_M_keep_255 : decode b_M_keep 255 = .ok (.istore_n 1, 1) := by decide +kernel
theorem d_M_keep_256 : decode b_M_keep 256 = .ok (.iload_n 1, 1) := by decide +kernel
theorem d_M_keep_257 : decode b_M_keep 257 = .ok (.sipush 880, 3) := by decide +kernel
theorem d_M_keep_260 : decode b_M_keep 260 = .ok (.if_icmp .ge 25, 3) := by decide +kernel
theorem d_M_keep_263 : decode b_M_keep 263 = .ok (.aload_n 0, 1) := by decide +kernel
theorem d_M_keep_264 : decode b_M_keep 264 = .ok (.getfield 63, 3) := by decide +kernel
theorem d_M_keep_267 : decode b_M_keep 267 = .ok (.iload_n 1, 1) := by decide +kernel
theorem d_M_keep_268 : decode b_M_keep 268 = .ok (.aload_n 0, 1) := by decide +kernel
theorem d_M_keep_269 : decode b_M_keep 269 = .ok (.getfield 63, 3) := by decide +kernel
theorem d_M_keep_272 : decode b_M_keep 272 = .ok (.sipush 880, 3) := by decide +kernel
theorem d_M_keep_275 : decode b_M_keep 275 = .ok (.iload_n 1, 1) := by decide +kernel
theorem d_M_keep_276 : decode b_M_keep 276 = .ok (.iadd, 1) := by decide +kernel
theorem d_M_keep_277 : decode b_M_keep 277 = .ok (.baload, 1) := by decide +kernel
theorem d_M_keep_278 : decode b_M_keep 278 = .ok (.bastore, 1) := by decide +kernel
theorem d_M_keep_279 : decode b_M_keep 279 = .ok (.iinc 1 1, 3) := by decide +kernel
theorem d_M_keep_282 : decode b_M_keep 282 = .ok (.goto (-26), 3) := by decide +kernel
theorem d_M_keep_285 : decode b_M_keep 285 = .ok (.aload_n 0, 1) := by decide +kernel
theorem d_M_keep_286 : decode b_M_keep 286 = .ok (.iconst 0, 1) := by decide +kernel
theorem d_M_keep_287 : decode b_M_keep 287 = .ok (.putfield 158, 3) := by decide +kernel
theorem d_M_keep_290 : decode b_M_keep 290 = .ok (.return_, 1) := by decide +kernel
theorem d_M_load_0 : decode b_M_load 0 = .ok (.aload_n 0, 1) := by decide +kernel
theorem d_M_load_1 : decode b_M_load 1 = .ok (.iconst 0, 1) := by decide +kernel
theorem d_M_load_2 : decode b_M_load 2 = .ok (.putfield 91, 3) := by decide +kernel
theorem d_M_load_5 : decode b_M_load 5 = .ok (.aload_n 0, 1) := by decide +kernel
theorem d_M_load_6 : decode b_M_load 6 = .ok (.iconst 0, 1) := by decide +kernel
theorem d_M_load_7 : decode b_M_load 7 = .ok (.putfield 94, 3) := by decide +kernel
theorem d_M_load_10 : decode b_M_load 10 = .ok (.aload_n 0, 1) := by decide +kernel
theorem d_M_load_11 : decode b_M_load 11 = .ok (.iconst (-1), 1) := by decide +kernel
theorem d_M_load_12 : decode b_M_load 12 = .ok (.putfield 97, 3) := by decide +kernel
theorem d_M_load_15 : decode b_M_load 15 = .ok (.iconst 0, 1) := by decide +kernel
theorem d_M_load_16 : decode b_M_load 16 = .ok (.istore_n 1, 1) := by decide +kernel
theorem d_M_load_17 : decode b_M_load 17 = .ok (.iload_n 1, 1) := by decide +kernel
theorem d_M_load_18 : decode b_M_load 18 = .ok (.sipush 401, 3) := by decide +kernel
theorem d_M_load_21 : decode b_M_load 21 = .ok (.if_icmp .ge 20, 3) := by decide +kernel
theorem d_M_load_24 : decode b_M_load 24 = .ok (.aload_n 0, 1) := by decide +kernel
theorem d_M_load_25 : decode b_M_load 25 = .ok (.getfield 45, 3) := by decide +kernel
theorem d_M_load_28 : decode b_M_load 28 = .ok (.sipush 401, 3) := by decide +kernel
theorem d_M_load_31 : decode b_M_load 31 = .ok (.iload_n 1, 1) := by decide +kernel
theorem d_M_load_32 : decode b_M_load 32 = .ok (.iadd, 1) := by decide +kernel
theorem d_M_load_33 : decode b_M_load 33 = .ok (.iconst 0, 1) := by decide +kernel
theorem d_M_load_34 : decode b_M_load 34 = .ok (.iastore, 1) := by decide +kernel
theorem d_M_load_35 : decode b_M_load 35 = .ok (.iinc 1 1, 3) := by decide +kernel
theorem d_M_load_38 : decode b_M_load 38 = .ok (.goto (-21), 3) := by decide +kernel
theorem d_M_load_41 : decode b_M_load 41 = .ok (.bipush 22, 2) := by decide +kernel
theorem d_M_load_43 : decode b_M_load 43 = .ok (.istore_n 1, 1) := by decide +kernel
theorem d_M_load_44 : decode b_M_load 44 = .ok (.iload_n 1, 1) := by decide +kernel
theorem d_M_load_45 : decode b_M_load 45 = .ok (.bipush 44, 2) := by decide +kernel
theorem d_M_load_47 : decode b_M_load 47 = .ok (.if_icmp .ge 16, 3) := by decide +kernel
theorem d_M_load_50 : decode b_M_load 50 = .ok (.aload_n 0, 1) := by decide +kernel
theorem d_M_load_51 : decode b_M_load 51 = .ok (.getfield 66, 3) := by decide +kernel
theorem d_M_load_54 : decode b_M_load 54 = .ok (.iload_n 1, 1) := by decide +kernel
theorem d_M_load_55 : decode b_M_load 55 = .ok (.iconst 0, 1) := by decide +kernel
theorem d_M_load_56 : decode b_M_load 56 = .ok (.iastore, 1) := by decide +kernel
theorem d_M_load_57 : decode b_M_load 57 = .ok (.iinc 1 1, 3) := by decide +kernel
theorem d_M_load_60 : decode b_M_load 60 = .ok (.goto (-16), 3) := by decide +kernel
theorem d_M_load_63 : decode b_M_load 63 = .ok (.aload_n 0, 1) := by decide +kernel
theorem d_M_load_64 : decode b_M_load 64 = .ok (.invokevirtual 161, 3) := by decide +kernel
theorem d_M_load_67 : decode b_M_load 67 = .ok (.istore_n 1, 1) := by decide +kernel
theorem d_M_load_68 : decode b_M_load 68 = .ok (.aload_n 0, 1) := by decide +kernel
theorem d_M_load_69 : decode b_M_load 69 = .ok (.getfield 94, 3) := by decide +kernel
theorem d_M_load_72 : decode b_M_load 72 = .ok (.ifCond .ne 14, 3) := by decide +kernel
theorem d_M_load_75 : decode b_M_load 75 = .ok (.iload_n 1, 1) := by decide +kernel
theorem d_M_load_76 : decode b_M_load 76 = .ok (.ifCond .eq 10, 3) := by decide +kernel
theorem d_M_load_79 : decode b_M_load 79 = .ok (.aload_n 0, 1) := by decide +kernel
theorem d_M_load_80 : decode b_M_load 80 = .ok (.invokevirtual 164, 3) := by decide +kernel
theorem d_M_load_83 : decode b_M_load 83 = .ok (.goto 14, 3) := by decide +kernel
theorem d_M_load_86 : decode b_M_load 86 = .ok (.aload_n 0, 1) := by decide +kernel
theorem d_M_load_87 : decode b_M_load 87 = .ok (.getfield 94, 3) := by decide +kernel
theorem d_M_load_90 : decode b_M_load 90 = .ok (.ifCond .ne 7, 3) := by decide +kernel
theorem d_M_load_93 : decode b_M_load 93 = .ok (.aload_n 0, 1) := by decide +kernel
theorem d_M_load_94 : decode b_M_load 94 = .ok (.invokevirtual 167, 3) := by decide +kernel
theorem d_M_load_97 : decode b_M_load 97 = .ok (.aload_n 0, 1) := by decide +kernel
theorem d_M_load_98 : decode b_M_load 98 = .ok (.getfield 94, 3) := by decide +kernel
theorem d_M_load_101 : decode b_M_load 101 = .ok (.ifCond .ne 7, 3) := by decide +kernel
theorem d_M_load_104 : decode b_M_load 104 = .ok (.aload_n 0, 1) := by decide +kernel
theorem d_M_load_105 : decode b_M_load 105 = .ok (.invokevirtual 170, 3) := by decide +kernel
theorem d_M_load_108 : decode b_M_load 108 = .ok (.aload_n 0, 1) := by decide +kernel
theorem d_M_load_109 : decode b_M_load 109 = .ok (.getfield 94, 3) := by decide +kernel
theorem d_M_load_112 : decode b_M_load 112 = .ok (.ifCond .ne 7, 3) := by decide +kernel
theorem d_M_load_115 : decode b_M_load 115 = .ok (.aload_n 0, 1) := by decide +kernel
theorem d_M_load_116 : decode b_M_load 116 = .ok (.invokevirtual 173, 3) := by decide +kernel
theorem d_M_load_119 : decode b_M_load 119 = .ok (.aload_n 0, 1) := by decide +kernel
theorem d_M_load_120 : decode b_M_load 120 = .ok (.getfield 94, 3) := by decide +kernel
theorem d_M_load_123 : decode b_M_load 123 = .ok (.ifCond .ne 7, 3) := by decide +kernel
theorem d_M_load_126 : decode b_M_load 126 = .ok (.aload_n 0, 1) := by decide +kernel
theorem d_M_load_127 : decode b_M_load 127 = .ok (.invokevirtual 176, 3) := by decide +kernel
theorem d_M_load_130 : decode b_M_load 130 = .ok (.aload_n 0, 1) := by decide +kernel
theorem d_M_load_131 : decode b_M_load 131 = .ok (.iconst 0, 1) := by decide +kernel
theorem d_M_load_132 : decode b_M_load 132 = .ok (.putfield 88, 3) := by decide +kernel
theorem d_M_load_135 : decode b_M_load 135 = .ok (.aload_n 0, 1) := by decide +kernel
theorem d_M_load_136 : decode b_M_load 136 = .ok (.aload_n 0, 1) := by decide +kernel
theorem d_M_load_137 : decode b_M_load 137 = .ok (.getfield 94, 3) := by decide +kernel
theorem d_M_load_140 : decode b_M_load 140 = .ok (.putfield 179, 3) := by decide +kernel
theorem d_M_load_143 : decode b_M_load 143 = .ok (.aload_n 0, 1) := by decide +kernel
theorem d_M_load_144 : decode b_M_load 144 = .ok (.aload_n 0, 1) := by decide +kernel
theorem d_M_load_145 : decode b_M_load 145 = .ok (.getfield 97, 3) := by decide +kernel
theorem d_M_load_148 : decode b_M_load 148 = .ok (.putfield 16, 3) := by decide +kernel
theorem d_M_load_151 : decode b_M_load 151 = .ok (.aload_n 0, 1) := by decide +kernel
theorem d_M_load_152 : decode b_M_load 152 = .ok (.aload_n 0, 1) := by decide +kernel
theorem d_M_load_153 : decode b_M_load 153 = .ok (.getfield 94, 3) := by decide +kernel
theorem d_M_load_156 : decode b_M_load 156 = .ok (.ifCond .le 7, 3) := by decide +kernel
theorem d_M_load_159 : decode b_M_load 159 = .ok (.iconst 1, 1) := by decide +kernel
theorem d_M_load_160 : decode b_M_load 160 = .ok (.goto 4, 3) := by decide +kernel
theorem d_M_load_163 : decode b_M_load 163 = .ok (.iconst 0, 1) := by decide +kernel
theorem d_M_load_164 : decode b_M_load 164 = .ok (.putfield 85, 3) := by decide +kernel
theorem d_M_load_167 : decode b_M_load 167 = .ok (.aload_n 0, 1) := by decide +kernel
theorem d_M_load_168 : decode b_M_load 168 = .ok (.getfield 94, 3) := by decide +kernel
theorem d_M_load_171 : decode b_M_load 171 = .ok (.ifCond .le 5, 3) := by decide +kernel
theorem d_M_load_174 : decode b_M_load 174 = .ok (.iconst 0, 1) := by decide +kernel
theorem d_M_load_175 : decode b_M_load 175 = .ok (.ireturn, 1) := by decide +kernel
theorem d_M_load_176 : decode b_M_load 176 = .ok (.aload_n 0, 1) := by decide +kernel
theorem d_M_load_177 : decode b_M_load 177 = .ok (.invokevirtual 182, 3) := by decide +kernel
theorem d_M_load_180 : decode b_M_load 180 = .ok (.aload_n 0, 1) := by decide +kernel
theorem d_M_load_181 : decode b_M_load 181 = .ok (.getfield 20, 3) := by decide +kernel
theorem d_M_load_184 : decode b_M_load 184 = .ok (.iconst 4, 1) := by decide +kernel
theorem d_M_load_185 : decode b_M_load 185 = .ok (.iaload, 1) := by decide +kernel
theorem d_M_load_186 : decode b_M_load 186 = .ok (.ireturn, 1) := by decide +kernel
theorem d_M_fault_0 : decode b_M_fault 0 = .ok (.aload_n 0, 1) := by decide +kernel
theorem d_M_fault_1 : decode b_M_fault 1 = .ok (.iconst 0, 1) := by decide +kernel
theorem d_M_fault_2 : decode b_M_fault 2 = .ok (.putfield 85, 3) := by decide +kernel
theorem d_M_fault_5 : decode b_M_fault 5 = .ok (.iload_n 1, 1) := by decide +kernel
theorem d_M_fault_6 : decode b_M_fault 6 = .ok (.ifCond .ne 10, 3) := by decide +kernel
theorem d_M_fault_9 : decode b_M_fault 9 = .ok (.aload_n 0, 1) := by decide +kernel
theorem d_M_fault_10 : decode b_M_fault 10 = .ok (.getfield 179, 3) := by decide +kernel
theorem d_M_fault_13 : decode b_M_fault 13 = .ok (.goto 16, 3) := by decide +kernel
theorem d_M_fault_16 : decode b_M_fault 16 = .ok (.iload_n 1, 1) := by decide +kernel
theorem d_M_fault_17 : decode b_M_fault 17 = .ok (.iconst 1, 1) := by decide +kernel
theorem d_M_fault_18 : decode b_M_fault 18 = .ok (.if_icmp .ne 10, 3) := by decide +kernel
theorem d_M_fault_21 : decode b_M_fault 21 = .ok (.aload_n 0, 1) := by decide +kernel
theorem d_M_fault_22 : decode b_M_fault 22 = .ok (.getfield 16, 3) := by decide +kernel
theorem d_M_fault_25 : decode b_M_fault 25 = .ok (.goto 4, 3) := by decide +kernel
theorem d_M_fault_28 : decode b_M_fault 28 = .ok (.iconst (-1), 1) := by decide +kernel
theorem d_M_fault_29 : decode b_M_fault 29 = .ok (.ireturn, 1) := by decide +kernel
theorem d_M_many_0 : decode b_M_many 0 = .ok (.aload_n 0, 1) := by decide +kernel
theorem d_M_many_1 : decode b_M_many 1 = .ok (.iconst 0, 1) := by decide +kernel
theorem d_M_many_2 : decode b_M_many 2 = .ok (.putfield 85, 3) := by decide +kernel
theorem d_M_many_5 : decode b_M_many 5 = .ok (.iload_n 1, 1) := by decide +kernel
theorem d_M_many_6 : decode b_M_many 6 = .ok (.ifCond .lt 8, 3) := by decide +kernel
theorem d_M_many_9 : decode b_M_many 9 = .ok (.iload_n 1, 1) := by decide +kernel
theorem d_M_many_10 : decode b_M_many 10 = .ok (.iconst 4, 1) := by decide +kernel
theorem d_M_many_11 : decode b_M_many 11 = .ok (.if_icmp .le 7, 3) := by decide +kernel
theorem d_M_many_14 : decode b_M_many 14 = .ok (.iconst (-1), 1) := by decide +kernel
theorem d_M_many_15 : decode b_M_many 15 = .ok (.goto 9, 3) := by decide +kernel
theorem d_M_many_18 : decode b_M_many 18 = .ok (.aload_n 0, 1) := by decide +kernel
theorem d_M_many_19 : decode b_M_many 19 = .ok (.getfield 20, 3) := by decide +kernel
theorem d_M_many_22 : decode b_M_many 22 = .ok (.iload_n 1, 1) := by decide +kernel
theorem d_M_many_23 : decode b_M_many 23 = .ok (.iaload, 1) := by decide +kernel
theorem d_M_many_24 : decode b_M_many 24 = .ok (.ireturn, 1) := by decide +kernel
theorem d_M_row_0 : decode b_M_row 0 = .ok (.iload_n 0, 1) := by decide +kernel
theorem d_M_row_1 : decode b_M_row 1 = .ok (.ifCond .ne 7, 3) := by decide +kernel
theorem d_M_row_4 : decode b_M_row 4 = .ok (.iconst 0, 1) := by decide +kernel
theorem d_M_row_5 : decode b_M_row 5 = .ok (.goto 15, 3) := by decide +kernel
theorem d_M_row_8 : decode b_M_row 8 = .ok (.iload_n 0, 1) := by decide +kernel
theorem d_M_row_9 : decode b_M_row 9 = .ok (.iconst 1, 1) := by decide +kernel
theorem d_M_row_10 : decode b_M_row 10 = .ok (.if_icmp .ne 8, 3) := by decide +kernel
theorem d_M_row_13 : decode b_M_row 13 = .ok (.bipush 6, 2) := by decide +kernel
theorem d_M_row_15 : decode b_M_row 15 = .ok (.goto 5, 3) := by decide +kernel
theorem d_M_row_18 : decode b_M_row 18 = .ok (.bipush 14, 2) := by decide +kernel
theorem d_M_row_20 : decode b_M_row 20 = .ok (.iload_n 1, 1) := by decide +kernel
theorem d_M_row_21 : decode b_M_row 21 = .ok (.iadd, 1) := by decide +kernel
theorem d_M_row_22 : decode b_M_row 22 = .ok (.ireturn, 1) := by decide +kernel
theorem d_M_symbol_0 : decode b_M_symbol 0 = .ok (.aload_n 0, 1) := by decide +kernel
theorem d_M_symbol_1 : decode b_M_symbol 1 = .ok (.iconst 0, 1) := by decide +kernel
theorem d_M_symbol_2 : decode b_M_symbol 2 = .ok (.putfield 85, 3) := by decide +kernel
theorem d_M_symbol_5 : decode b_M_symbol 5 = .ok (.iload_n 1, 1) := by decide +kernel
theorem d_M_symbol_6 : decode b_M_symbol 6 = .ok (.ifCond .lt 42, 3) := by decide +kernel
theorem d_M_symbol_9 : decode b_M_symbol 9 = .ok (.iload_n 1, 1) := by decide +kernel
theorem d_M_symbol_10 : decode b_M_symbol 10 = .ok (.iconst 2, 1) := by decide +kernel
theorem d_M_symbol_11 : decode b_M_symbol 11 = .ok (.if_icmp .gt 37, 3) := by decide +kernel
theorem d_M_symbol_14 : decode b_M_symbol 14 = .ok (.iload_n 2, 1) := by decide +kernel
theorem d_M_symbol_15 : decode b_M_symbol 15 = .ok (.ifCond .lt 33, 3) := by decide +kernel
theorem d_M_symbol_18 : decode b_M_symbol 18 = .ok (.iload_n 2, 1) := by decide +kernel
theorem d_M_symbol_19 : decode b_M_symbol 19 = .ok (.aload_n 0, 1) := by decide +kernel
theorem d_M_symbol_20 : decode b_M_symbol 20 = .ok (.getfield 20, 3) := by decide +kernel
theorem d_M_symbol_23 : decode b_M_symbol 23 = .ok (.iconst 1, 1) := by decide +kernel
theorem d_M_symbol_24 : decode b_M_symbol 24 = .ok (.iload_n 1, 1) := by decide +kernel
theorem d_M_symbol_25 : decode b_M_symbol 25 = .ok (.iadd, 1) := by decide +kernel
theorem d_M_symbol_26 : decode b_M_symbol 26 = .ok (.iaload, 1) := by decide +kernel
theorem d_M_symbol_27 : decode b_M_symbol 27 = .ok (.if_icmp .ge 21, 3) := by decide +kernel
theorem d_M_symbol_30 : decode b_M_symbol 30 = .ok (.iload_n 3, 1) := by decide +kernel
theorem d_M_symbol_31 : decode b_M_symbol 31 = .ok (.ifCond .lt 17, 3) := by decide +kernel
theorem d_M_symbol_34 : decode b_M_symbol 34 = .ok (.iload_n 3, 1) := by decide +kernel
theorem d_M_symbol_35 : decode b_M_symbol 35 = .ok (.aload_n 0, 1) := by decide +kernel
theorem d_M_symbol_36 : decode b_M_symbol 36 = .ok (.getfield 66, 3) := by decide +kernel
theorem d_M_symbol_39 : decode b_M_symbol 39 = .ok (.iload_n 1, 1) := by decide +kernel
theorem d_M_symbol_40 : decode b_M_symbol 40 = .ok (.iload_n 2, 1) := by decide +kernel
theorem d_M_symbol_41 : decode b_M_symbol 41 = .ok (.invokestatic 185, 3) := by decide +kernel
theorem d_M_symbol_44 : decode b_M_symbol 44 = .ok (.iaload, 1) := by decide +kernel
theorem d_M_symbol_45 : decode b_M_symbol 45 = .ok (.if_icmp .lt 5, 3) := by decide +kernel
theorem d_M_symbol_48 : decode b_M_symbol 48 = .ok (.iconst (-1), 1) := by decide +kernel
theorem d_M_symbol_49 : decode b_M_symbol 49 = .ok (.ireturn, 1) := by decide +kernel
theorem d_M_symbol_50 : decode b_M_symbol 50 = .ok (.aload_n 0, 1) := by decide +kernel
theorem d_M_symbol_51 : decode b_M_symbol 51 = .ok (.getfield 63, 3) := by decide +kernel
theorem d_M_symbol_54 : decode b_M_symbol 54 = .ok (.bipush 40, 2) := by decide +kernel
theorem d_M_symbol_56 : decode b_M_symbol 56 = .ok (.iload_n 1, 1) := by decide +kernel
theorem d_M_symbol_57 : decode b_M_symbol 57 = .ok (.iload_n 2, 1) := by decide +kernel
theorem d_M_symbol_58 : decode b_M_symbol 58 = .ok (.invokestatic 185, 3) := by decide +kernel
theorem d_M_symbol_61 : decode b_M_symbol 61 = .ok (.imul, 1) := by decide +kernel
theorem d_M_symbol_62 : decode b_M_symbol 62 = .ok (.iload_n 3, 1) := by decide +kernel
theorem d_M_symbol_63 : decode b_M_symbol 63 = .ok (.iadd, 1) := by decide +kernel
theorem d_M_symbol_64 : decode b_M_symbol 64 = .ok (.baload, 1) := by decide +kernel
theorem d_M_symbol_65 : decode b_M_symbol 65 = .ok (.sipush 255, 3) := by decide +kernel
theorem d_M_symbol_68 : decode b_M_symbol 68 = .ok (.iand, 1) := by decide +kernel
theorem d_M_symbol_69 : decode b_M_symbol 69 = .ok (.ireturn, 1) := by decide +kernel
theorem d_M_lay_0 : decode b_M_lay 0 = .ok (.aload_n 0, 1) := by decide +kernel
theorem d_M_lay_1 : decode b_M_lay 1 = .ok (.getfield 82, 3) := by decide +kernel
theorem d_M_lay_4 : decode b_M_lay 4 = .ok (.aload_n 0, 1) := by decide +kernel
theorem d_M_lay_5 : decode b_M_lay 5 = .ok (.getfield 188, 3) := by decide +kernel
theorem d_M_lay_8 : decode b_M_lay 8 = .ok (.iload_n 1, 1) := by decide +kernel
theorem d_M_lay_9 : decode b_M_lay 9 = .ok (.i2b, 1) := by decide +kernel
theorem d_M_lay_10 : decode b_M_lay 10 = .ok (.bastore, 1) := by decide +kernel
theorem d_M_lay_11 : decode b_M_lay 11 = .ok (.aload_n 0, 1) := by decide +kernel
theorem d_M_lay_12 : decode b_M_lay 12 = .ok (.dup, 1) := by decide +kernel
theorem d_M_lay_13 : decode b_M_lay 13 = .ok (.getfield 188, 3) := by decide +kernel
theorem d_M_lay_16 : decode b_M_lay 16 = .ok (.iconst 1, 1) := by decide +kernel
theorem d_M_lay_17 : decode b_M_lay 17 = .ok (.iadd, 1) := by decide +kernel
theorem d_M_lay_18 : decode b_M_lay 18 = .ok (.putfield 188, 3) := by decide +kernel
theorem d_M_lay_21 : decode b_M_lay 21 = .ok (.return_, 1) := by decide +kernel
theorem d_M_layNumber_0 : decode b_M_layNumber 0 = .ok (.iconst 1, 1) := by decide +kernel
theorem d_M_layNumber_1 : decode b_M_layNumber 1 = .ok (.istore_n 3, 1) := by decide +kernel
theorem d_M_layNumber_2 : decode b_M_layNumber 2 = .ok (.iload_n 1, 1) := by decide +kernel
theorem d_M_layNumber_3 : decode b_M_layNumber 3 = .ok (.iload_n 3, 1) := by decide +kernel
theorem d_M_layNumber_4 : decode b_M_layNumber 4 = .ok (.idiv, 1) := by decide +kernel
theorem d_M_layNumber_5 : decode b_M_layNumber 5 = .ok (.bipush 9, 2) := by decide +kernel
theorem d_M_layNumber_7 : decode b_M_layNumber 7 = .ok (.if_icmp .le 11, 3) := by decide +kernel
theorem d_M_layNumber_10 : decode b_M_layNumber 10 = .ok (.bipush 10, 2) := by decide +kernel
theorem d_M_layNumber_12 : decode b_M_layNumber 12 = .ok (.iload_n 3, 1) := by decide +kernel
theorem d_M_layNumber_13 : decode b_M_layNumber 13 = .ok (.imul, 1) := by decide +kernel
theorem d_M_layNumber_14 : decode b_M_layNumber 14 = .ok (.istore_n 3, 1) := by decide +kernel
theorem d_M_layNumber_15 : decode b_M_layNumber 15 = .ok (.goto (-13), 3) := by decide +kernel
theorem d_M_layNumber_18 : decode b_M_layNumber 18 = .ok (.iload_n 3, 1) := by decide +kernel
theorem d_M_layNumber_19 : decode b_M_layNumber 19 = .ok (.ifCond .le 24, 3) := by decide +kernel
theorem d_M_layNumber_22 : decode b_M_layNumber 22 = .ok (.aload_n 0, 1) := by decide +kernel
theorem d_M_layNumber_23 : decode b_M_layNumber 23 = .ok (.bipush 48, 2) := by decide +kernel
theorem d_M_layNumber_25 : decode b_M_layNumber 25 = .ok (.iload_n 1, 1) := by decide +kernel
theorem d_M_layNumber_26 : decode b_M_layNumber 26 = .ok (.iload_n 3, 1) := by decide +kernel
theorem d_M_layNumber_27 : decode b_M_layNumber 27 = .ok (.idiv, 1) := by decide +kernel
theorem d_M_layNumber_28 : decode b_M_layNumber 28 = .ok (.bipush 10, 2) := by decide +kernel
theorem d_M_layNumber_30 : decode b_M_layNumber 30 = .ok (.irem, 1) := by decide +kernel
theorem d_M_layNumber_31 : decode b_M_layNumber 31 = .ok (.iadd, 1) := by decide +kernel
theorem d_M_layNumber_32 : decode b_M_layNumber 32 = .ok (.invokevirtual 191, 3) := by decide +kernel
theorem d_M_layNumber_35 : decode b_M_layNumber 35 = .ok (.iload_n 3, 1) := by decide +kernel
theorem d_M_layNumber_36 : decode b_M_layNumber 36 = .ok (.bipush 10, 2) := by decide +kernel
theorem d_M_layNumber_38 : decode b_M_layNumber 38 = .ok (.idiv, 1) := by decide +kernel
theorem d_M_layNumber_39 : decode b_M_layNumber 39 = .ok (.istore_n 3, 1) := by decide +kernel
theorem d_M_layNumber_40 : decode b_M_layNumber 40 = .ok (.goto (-22), 3) := by decide +kernel
theorem d_M_layNumber_43 : decode b_M_layNumber 43 = .ok (.aload_n 0, 1) := by decide +kernel
theorem d_M_layNumber_44 : decode b_M_layNumber 44 = .ok (.iload_n 2, 1) := by decide +kernel
theorem d_M_layNumber_45 : decode b_M_layNumber 45 = .ok (.invokevirtual 191, 3) := by decide +kernel
theorem d_M_layNumber_48 : decode b_M_layNumber 48 = .ok (.return_, 1) := by decide +kernel
theorem d_M_layDelta_0 : decode b_M_layDelta 0 = .ok (.iload_n 1, 1) := by decide +kernel
theorem d_M_layDelta_1 : decode b_M_layDelta 1 = .ok (.istore_n 2, 1) := by decide +kernel
theorem d_M_layDelta_2 : decode b_M_layDelta 2 = .ok (.iload_n 2, 1) := by decide +kernel
theorem d_M_layDelta_3 : decode b_M_layDelta 3 = .ok (.bipush 127, 2) := by decide +kernel
theorem d_M_layDelta_5 : decode b_M_layDelta 5 = .ok (.if_icmp .le 25, 3) := by decide +kernel
theorem d_M_layDelta_8 : decode b_M_layDelta 8 = .ok (.aload_n 0, 1) := by decide +kernel
theorem d_M_layDelta_9 : decode b_M_layDelta 9 = .ok (.iload_n 2, 1) := by decide +kernel
theorem d_M_layDelta_10 : decode b_M_layDelta 10 = .ok (.sipush 128, 3) := by decide +kernel
theorem d_M_layDelta_13 : decode b_M_layDelta 13 = .ok (.irem, 1) := by decide +kernel
theorem d_M_layDelta_14 : decode b_M_layDelta 14 = .ok (.sipush 128, 3) := by decide +kernel
theorem d_M_layDelta_17 : decode b_M_layDelta 17 = .ok (.iadd, 1) := by decide +kernel
theorem d_M_layDelta_18 : decode b_M_layDelta 18 = .ok (.invokevirtual 191, 3) := by decide +kernel
theorem d_M_layDelta_21 : decode b_M_layDelta 21 = .ok (.iload_n 2, 1) := by decide +kernel
theorem d_M_layDelta_22 : decode b_M_layDelta 22 = .ok (.sipush 128, 3) := by decide +kernel
theorem d_M_layDelta_25 : decode b_M_layDelta 25 = .ok (.idiv, 1) := by decide +kernel
theorem d_M_layDelta_26 : decode b_M_layDelta 26 = .ok (.istore_n 2, 1) := by decide +kernel
theorem d_M_layDelta_27 : decode b_M_layDelta 27 = .ok (.goto (-25), 3) := by decide +kernel
theorem d_M_layDelta_30 : decode b_M_layDelta 30 = .ok (.aload_n 0, 1) := by decide +kernel
theorem d_M_layDelta_31 : decode b_M_layDelta 31 = .ok (.iload_n 2, 1) := by decide +kernel
theorem d_M_layDelta_32 : decode b_M_layDelta 32 = .ok (.invokevirtual 191, 3) := by decide +kernel
theorem d_M_layDelta_35 : decode b_M_layDelta 35 = .ok (.return_, 1) := by decide +kernel
theorem d_M_renamed_0 : decode b_M_renamed 0 = .ok (.iload_n 1, 1) := by decide +kernel
theorem d_M_renamed_1 : decode b_M_renamed 1 = .ok (.iconst 2, 1) := by decide +kernel
theorem d_M_renamed_2 : decode b_M_renamed 2 = .ok (.if_icmp .ge 7, 3) := by decide +kernel
theorem d_M_renamed_5 : decode b_M_renamed 5 = .ok (.iload_n 1, 1) := by decide +kernel
theorem d_M_renamed_6 : decode b_M_renamed 6 = .ok (.goto 17, 3) := by decide +kernel
theorem d_M_renamed_9 : decode b_M_renamed 9 = .ok (.iconst 2, 1) := by decide +kernel
theorem d_M_renamed_10 : decode b_M_renamed 10 = .ok (.aload_n 0, 1) := by decide +kernel
theorem d_M_renamed_11 : decode b_M_renamed 11 = .ok (.getfield 72, 3) := by decide +kernel
theorem d_M_renamed_14 : decode b_M_renamed 14 = .ok (.iload_n 1, 1) := by decide +kernel
theorem d_M_renamed_15 : decode b_M_renamed 15 = .ok (.iconst 2, 1) := by decide +kernel
theorem d_M_renamed_16 : decode b_M_renamed 16 = .ok (.idiv, 1) := by decide +kernel
theorem d_M_renamed_17 : decode b_M_renamed 17 = .ok (.iaload, 1) := by decide +kernel
theorem d_M_renamed_18 : decode b_M_renamed 18 = .ok (.imul, 1) := by decide +kernel
theorem d_M_renamed_19 : decode b_M_renamed 19 = .ok (.iload_n 1, 1) := by decide +kernel
theorem d_M_renamed_20 : decode b_M_renamed 20 = .ok (.iconst 2, 1) := by decide +kernel
theorem d_M_renamed_21 : decode b_M_renamed 21 = .ok (.irem, 1) := by decide +kernel
theorem d_M_renamed_22 : decode b_M_renamed 22 = .ok (.iadd, 1) := by decide +kernel
theorem d_M_renamed_23 : decode b_M_renamed 23 = .ok (.ireturn, 1) := by decide +kernel
theorem d_M_layHead_0 : decode b_M_layHead 0 = .ok (.aload_n 0, 1) := by decide +kernel
theorem d_M_layHead_1 : decode b_M_layHead 1 = .ok (.iconst 0, 1) := by decide +kernel
theorem d_M_layHead_2 : decode b_M_layHead 2 = .ok (.putfield 188, 3) := by decide +kernel
theorem d_M_layHead_5 : decode b_M_layHead 5 = .ok (.aload_n 0, 1) := by decide +kernel
theorem d_M_layHead_6 : decode b_M_layHead 6 = .ok (.bipush 97, 2) := by decide +kernel
theorem d_M_layHead_8 : decode b_M_layHead 8 = .ok (.invokevirtual 191, 3) := by decide +kernel
theorem d_M_layHead_11 : decode b_M_layHead 11 = .ok (.aload_n 0, 1) := by decide +kernel
theorem d_M_layHead_12 : decode b_M_layHead 12 = .ok (.iload_n 1, 1) := by decide +kernel
theorem d_M_layHead_13 : decode b_M_layHead 13 = .ok (.ifCond .eq 8, 3) := by decide +kernel
theorem d_M_layHead_16 : decode b_M_layHead 16 = .ok (.bipush 105, 2) := by decide +kernel
theorem d_M_layHead_18 : decode b_M_layHead 18 = .ok (.goto 5, 3) := by decide +kernel
theorem d_M_layHead_21 : decode b_M_layHead 21 = .ok (.bipush 97, 2) := by decide +kernel
theorem d_M_layHead_23 : decode b_M_layHead 23 = .ok (.invokevirtual 191, 3) := by decide +kernel
theorem d_M_layHead_26 : decode b_M_layHead 26 = .ok (.aload_n 0, 1) := by decide +kernel
theorem d_M_layHead_27 : decode b_M_layHead 27 = .ok (.bipush 103, 2) := by decide +kernel
theorem d_M_layHead_29 : decode b_M_layHead 29 = .ok (.invokevirtual 191, 3) := by decide +kernel
theorem d_M_layHead_32 : decode b_M_layHead 32 = .ok (.aload_n 0, 1) := by decide +kernel
theorem d_M_layHead_33 : decode b_M_layHead 33 = .ok (.bipush 32, 2) := by decide +kernel
theorem d_M_layHead_35 : decode b_M_layHead 35 = .ok (.invokevirtual 191, 3) := by decide +kernel
theorem d_M_layHead_38 : decode b_M_layHead 38 = .ok (.aload_n 0, 1) := by decide +kernel
theorem d_M_layHead_39 : decode b_M_layHead 39 = .ok (.iload_n 1, 1) := by decide +kernel
theorem d_M_layHead_40 : decode b_M_layHead 40 = .ok (.ifCond .eq 26, 3) := by decide +kernel
theorem d_M_layHead_43 : decode b_M_layHead 43 = .ok (.aload_n 0, 1) := by decide +kernel
theorem d_M_layHead_44 : decode b_M_layHead 44 = .ok (.getfield 20, 3) := by decide +kernel
theorem d_M_layHead_47 : decode b_M_layHead 47 = .ok (.iconst 1, 1) := by decide +kernel
theorem d_M_layHead_48 : decode b_M_layHead 48 = .ok (.iaload, 1) := by decide +kernel
theorem d_M_layHead_49 : decode b_M_layHead 49 = .ok (.aload_n 0, 1) := by decide +kernel
theorem d_M_layHead_50 : decode b_M_layHead 50 = .ok (.getfield 20, 3) := by decide +kernel
theorem d_M_layHead_53 : decode b_M_layHead 53 = .ok (.iconst 2, 1) := by decide +kernel
theorem d_M_layHead_54 : decode b_M_layHead 54 = .ok (.iaload, 1) := by decide +kernel
theorem d_M_layHead_55 : decode b_M_layHead 55 = .ok (.iadd, 1) := by decide +kernel
theorem d_M_layHead_56 : decode b_M_layHead 56 = .ok (.aload_n 0, 1) := by decide +kernel
theorem d_M_layHead_57 : decode b_M_layHead 57 = .ok (.getfield 20, 3) := by decide +kernel
theorem d_M_layHead_60 : decode b_M_layHead 60 = .ok (.iconst 4, 1) := by decide +kernel
theorem d_M_layHead_61 : decode b_M_layHead 61 = .ok (.iaload, 1) := by decide +kernel
theorem d_M_layHead_62 : decode b_M_layHead 62 = .ok (.iadd, 1) := by decide +kernel
theorem d_M_layHead_63 : decode b_M_layHead 63 = .ok (.goto 9, 3) := by decide +kernel
theorem d_M_layHead_66 : decode b_M_layHead 66 = .ok (.aload_n 0, 1) := by decide +kernel
theorem d_M_layHead_67 : decode b_M_layHead 67 = .ok (.getfield 20, 3) := by decide +kernel
theorem d_M_layHead_70 : decode b_M_layHead 70 = .ok (.iconst 0, 1) := by decide +kernel
theorem d_M_layHead_71 : decode b_M_layHead 71 = .ok (.iaload, 1) := by decide +kernel
theorem d_M_layHead_72 : decode b_M_layHead 72 = .ok (.bipush 32, 2) := by decide +kernel
theorem d_M_layHead_74 : decode b_M_layHead 74 = .ok (.invokevirtual 194, 3) := by decide +kernel
theorem d_M_layHead_77 : decode b_M_layHead 77 = .ok (.iconst 1, 1) := by decide +kernel
theorem d_M_layHead_78 : decode b_M_layHead 78 = .ok (.istore_n 2, 1) := by decide +kernel
theorem d_M_layHead_79 : decode b_M_layHead 79 = .ok (.iload_n 2, 1) := by decide +kernel
theorem d_M_layHead_80 : decode b_M_layHead 80 = .ok (.iconst 5, 1) := by decide +kernel
theorem d_M_layHead_81 : decode b_M_layHead 81 = .ok (.if_icmp .ge 31, 3) := by decide +kernel
theorem d_M_layHead_84 : decode b_M_layHead 84 = .ok (.aload_n 0, 1) := by decide +kernel
theorem d_M_layHead_85 : decode b_M_layHead 85 = .ok (.aload_n 0, 1) := by decide +kernel
theorem d_M_layHead_86 : decode b_M_layHead 86 = .ok (.getfield 20, 3) := by decide +kernel
theorem d_M_layHead_89 : decode b_M_layHead 89 = .ok (.iload_n 2, 1) := by decide +kernel
theorem d_M_layHead_90 : decode b_M_layHead 90 = .ok (.iaload, 1) := by decide +kernel
theorem d_M_layHead_91 : decode b_M_layHead 91 = .ok (.iload_n 2, 1) := by decide +kernel
theorem d_M_layHead_92 : decode b_M_layHead 92 = .ok (.iconst 4, 1) := by decide +kernel
theorem d_M_layHead_93 : decode b_M_layHead 93 = .ok (.if_icmp .ge 8, 3) := by decide +kernel
theorem d_M_layHead_96 : decode b_M_layHead 96 = .ok (.bipush 32, 2) := by decide +kernel
theorem d_M_layHead_98 : decode b_M_layHead 98 = .ok (.goto 5, 3) := by decide +kernel
theorem d_M_layHead_101 : decode b_M_layHead 101 = .ok (.bipush 10, 2) := by decide +kernel
theorem d_M_layHead_103 : decode b_M_layHead 103 = .ok (.invokevirtual 194, 3) := by decide +kernel
theorem d_M_layHead_106 : decode b_M_layHead 106 = .ok (.iinc 2 1, 3) := by decide +kernel
theorem d_M_layHead_109 : decode b_M_layHead 109 = .ok (.goto (-30), 3) := by decide +kernel
theorem d_M_layHead_112 : decode b_M_layHead 112 = .ok (.return_, 1) := by decide +kernel
theorem d_M_layText_0 : decode b_M_layText 0 = .ok (.iconst 0, 1) := by decide +kernel
theorem d_M_layText_1 : decode b_M_layText 1 = .ok (.istore_n 1, 1) := by decide +kernel
theorem d_M_layText_2 : decode b_M_layText 2 = .ok (.iload_n 1, 1) := by decide +kernel
theorem d_M_layText_3 : decode b_M_layText 3 = .ok (.aload_n 0, 1) := by decide +kernel
theorem d_M_layText_4 : decode b_M_layText 4 = .ok (.getfield 20, 3) := by decide +kernel
theorem d_M_layText_7 : decode b_M_layText 7 = .ok (.iconst 1, 1) := by decide +kernel
theorem d_M_layText_8 : decode b_M_layText 8 = .ok (.iaload, 1) := by decide +kernel
theorem d_M_layText_9 : decode b_M_layText 9 = .ok (.if_icmp .ge 21, 3) := by decide +kernel
theorem d_M_layText_12 : decode b_M_layText 12 = .ok (.aload_n 0, 1) := by decide +kernel
theorem d_M_layText_13 : decode b_M_layText 13 = .ok (.aload_n 0, 1) := by decide +kernel
theorem d_M_layText_14 : decode b_M_layText 14 = .ok (.getfield 24, 3) := by decide +kernel
theorem d_M_layText_17 : decode b_M_layText 17 = .ok (.iload_n 1, 1) := by decide +kernel
theorem d_M_layText_18 : decode b_M_layText 18 = .ok (.iaload, 1) := by decide +kernel
theorem d_M_layText_19 : decode b_M_layText 19 = .ok (.bipush 10, 2) := by decide +kernel
theorem d_M_layText_21 : decode b_M_layText 21 = .ok (.invokevirtual 194, 3) := by decide +kernel
theorem d_M_layText_24 : decode b_M_layText 24 = .ok (.iinc 1 1, 3) := by decide +kernel
theorem d_M_layText_27 : decode b_M_layText 27 = .ok (.goto (-25), 3) := by decide +kernel
theorem d_M_layText_30 : decode b_M_layText 30 = .ok (.iconst 0, 1) := by decide +kernel
theorem d_M_layText_31 : decode b_M_layText 31 = .ok (.istore_n 1, 1) := by decide +kernel
theorem d_M_layText_32 : decode b_M_layText 32 = .ok (.iload_n 1, 1) := by decide +kernel
theorem d_M_layText_33 : decode b_M_layText 33 = .ok (.aload_n 0, 1) := by decide +kernel
theorem d_M_layText_34 : decode b_M_layText 34 = .ok (.getfield 20, 3) := by decide +kernel
theorem d_M_layText_37 : decode b_M_layText 37 = .ok (.iconst 2, 1) := by decide +kernel
theorem d_M_layText_38 : decode b_M_layText 38 = .ok (.iaload, 1) := by decide +kernel
theorem d_M_layText_39 : decode b_M_layText 39 = .ok (.if_icmp .ge 33, 3) := by decide +kernel
theorem d_M_layText_42 : decode b_M_layText 42 = .ok (.aload_n 0, 1) := by decide +kernel
theorem d_M_layText_43 : decode b_M_layText 43 = .ok (.aload_n 0, 1) := by decide +kernel
theorem d_M_layText_44 : decode b_M_layText 44 = .ok (.getfield 27, 3) := by decide +kernel
theorem d_M_layText_47 : decode b_M_layText 47 = .ok (.iload_n 1, 1) := by decide +kernel
theorem d_M_layText_48 : decode b_M_layText 48 = .ok (.iaload, 1) := by decide +kernel
theorem d_M_layText_49 : decode b_M_layText 49 = .ok (.bipush 32, 2) := by decide +kernel
theorem d_M_layText_51 : decode b_M_layText 51 = .ok (.invokevirtual 194, 3) := by decide +kernel
theorem d_M_layText_54 : decode b_M_layText 54 = .ok (.aload_n 0, 1) := by decide +kernel
theorem d_M_layText_55 : decode b_M_layText 55 = .ok (.aload_n 0, 1) := by decide +kernel
theorem d_M_layText_56 : decode b_M_layText 56 = .ok (.getfield 30, 3) := by decide +kernel
theorem d_M_layText_59 : decode b_M_layText 59 = .ok (.iload_n 1, 1) := by decide +kernel
theorem d_M_layText_60 : decode b_M_layText 60 = .ok (.iaload, 1) := by decide +kernel
theorem d_M_layText_61 : decode b_M_layText 61 = .ok (.bipush 10, 2) := by decide +kernel
theorem d_M_layText_63 : decode b_M_layText 63 = .ok (.invokevirtual 194, 3) := by decide +kernel
theorem d_M_layText_66 : decode b_M_layText 66 = .ok (.iinc 1 1, 3) := by decide +kernel
theorem d_M_layText_69 : decode b_M_layText 69 = .ok (.goto (-37), 3) := by decide +kernel
theorem d_M_layText_72 : decode b_M_layText 72 = .ok (.iconst 0, 1) := by decide +kernel
theorem d_M_layText_73 : decode b_M_layText 73 = .ok (.istore_n 1, 1) := by decide +kernel
theorem d_M_layText_74 : decode b_M_layText 74 = .ok (.iload_n 1, 1) := by decide +kernel
theorem d_M_layText_75 : decode b_M_layText 75 = .ok (.aload_n 0, 1) := by decide +kernel
theorem d_M_layText_76 : decode b_M_layText 76 = .ok (.getfield 20, 3) := by decide +kernel
theorem d_M_layText_79 : decode b_M_layText 79 = .ok (.iconst 3, 1) := by decide +kernel
theorem d_M_layText_80 : decode b_M_layText 80 = .ok (.iaload, 1) := by decide +kernel
theorem d_M_layText_81 : decode b_M_layText 81 = .ok (.if_icmp .ge 21, 3) := by decide +kernel
theorem d_M_layText_84 : decode b_M_layText 84 = .ok (.aload_n 0, 1) := by decide +kernel
theorem d_M_layText_85 : decode b_M_layText 85 = .ok (.aload_n 0, 1) := by decide +kernel
theorem d_M_layText_86 : decode b_M_layText 86 = .ok (.getfield 33, 3) := by decide +kernel
theorem d_M_layText_89 : decode b_M_layText 89 = .ok (.iload_n 1, 1) := by decide +kernel
theorem d_M_layText_90 : decode b_M_layText 90 = .ok (.iaload, 1) := by decide +kernel
theorem d_M_layText_91 : decode b_M_layText 91 = .ok (.bipush 10, 2) := by decide +kernel
theorem d_M_layText_93 : decode b_M_layText 93 = .ok (.invokevirtual 194, 3) := by decide +kernel
theorem d_M_layText_96 : decode b_M_layText 96 = .ok (.iinc 1 1, 3) := by decide +kernel
theorem d_M_layText_99 : decode b_M_layText 99 = .ok (.goto (-25), 3) := by decide +kernel
theorem d_M_layText_102 : decode b_M_layText 102 = .ok (.iconst 0, 1) := by decide +kernel
theorem d_M_layText_103 : decode b_M_layText 103 = .ok (.istore_n 1, 1) := by decide +kernel
theorem d_M_layText_104 : decode b_M_layText 104 = .ok (.iload_n 1, 1) := by decide +kernel
theorem d_M_layText_105 : decode b_M_layText 105 = .ok (.aload_n 0, 1) := by decide +kernel
theorem d_M_layText_106 : decode b_M_layText 106 = .ok (.getfield 20, 3) := by decide +kernel
theorem d_M_layText_109 : decode b_M_layText 109 = .ok (.iconst 4, 1) := by decide +kernel
theorem d_M_layText_110 : decode b_M_layText 110 = .ok (.iaload, 1) := by decide +kernel
theorem d_M_layText_111 : decode b_M_layText 111 = .ok (.if_icmp .ge 45, 3) := by decide +kernel
theorem d_M_layText_114 : decode b_M_layText 114 = .ok (.aload_n 0, 1) := by decide +kernel
theorem d_M_layText_115 : decode b_M_layText 115 = .ok (.aload_n 0, 1) := by decide +kernel
theorem d_M_layText_116 : decode b_M_layText 116 = .ok (.getfield 36, 3) := by decide +kernel
theorem d_M_layText_119 : decode b_M_layText 119 = .ok (.iload_n 1, 1) := by decide +kernel
theorem d_M_layText_120 : decode b_M_layText 120 = .ok (.iaload, 1) := by decide +kernel
theorem d_M_layText_121 : decode b_M_layText 121 = .ok (.bipush 32, 2) := by decide +kernel
theorem d_M_layText_123 : decode b_M_layText 123 = .ok (.invokevirtual 194, 3) := by decide +kernel
theorem d_M_layText_126 : decode b_M_layText 126 = .ok (.aload_n 0, 1) := by decide +kernel
theorem d_M_layText_127 : decode b_M_layText 127 = .ok (.aload_n 0, 1) := by decide +kernel
theorem d_M_layText_128 : decode b_M_layText 128 = .ok (.getfield 39, 3) := by decide +kernel
theorem d_M_layText_131 : decode b_M_layText 131 = .ok (.iload_n 1, 1) := by decide +kernel
theorem d_M_layText_132 : decode b_M_layText 132 = .ok (.iaload, 1) := by decide +kernel
theorem d_M_layText_133 : decode b_M_layText 133 = .ok (.bipush 32, 2) := by decide +kernel
theorem d_M_layText_135 : decode b_M_layText 135 = .ok (.invokevirtual 194, 3) := by decide +kernel
theorem d_M_layText_138 : decode b_M_layText 138 = .ok (.aload_n 0, 1) := by decide +kernel
theorem d_M_layText_139 : decode b_M_layText 139 = .ok (.aload_n 0, 1) := by decide +kernel
theorem d_M_layText_140 : decode b_M_layText 140 = .ok (.getfield 42, 3) := by decide +kernel
theorem d_M_layText_143 : decode b_M_layText 143 = .ok (.iload_n 1, 1) := by decide +kernel
theorem d_M_layText_144 : decode b_M_layText 144 = .ok (.iaload, 1) := by decide +kernel
theorem d_M_layText_145 : decode b_M_layText 145 = .ok (.bipush 10, 2) := by decide +kernel
theorem d_M_layText_147 : decode b_M_layText 147 = .ok (.invokevirtual 194, 3) := by decide +kernel
theorem d_M_layText_150 : decode b_M_layText 150 = .ok (.iinc 1 1, 3) := by decide +kernel
theorem d_M_layText_153 : decode b_M_layText 153 = .ok (.goto (-49), 3) := by decide +kernel
theorem d_M_layText_156 : decode b_M_layText 156 = .ok (.return_, 1) := by decide +kernel
theorem d_M_layBinary_0 : decode b_M_layBinary 0 = .ok (.iconst 0, 1) := by decide +kernel
theorem d_M_layBinary_1 : decode b_M_layBinary 1 = .ok (.istore_n 1, 1) := by decide +kernel
theorem d_M_layBinary_2 : decode b_M_layBinary 2 = .ok (.iload_n 1, 1) := by decide +kernel
theorem d_M_layBinary_3 : decode b_M_layBinary 3 = .ok (.aload_n 0, 1) := by decide +kernel
theorem d_M_layBinary_4 : decode b_M_layBinary 4 = .ok (.getfield 20, 3) := by decide +kernel
theorem d_M_layBinary_7 : decode b_M_layBinary 7 = .ok (.iconst 2, 1) := by decide +kernel
theorem d_M_layBinary_8 : decode b_M_layBinary 8 = .ok (.iaload, 1) := by decide +kernel
theorem d_M_layBinary_9 : decode b_M_layBinary 9 = .ok (.if_icmp .ge 25, 3) := by decide +kernel
theorem d_M_layBinary_12 : decode b_M_layBinary 12 = .ok (.aload_n 0, 1) := by decide +kernel
theorem d_M_layBinary_13 : decode b_M_layBinary 13 = .ok (.aload_n 0, 1) := by decide +kernel
theorem d_M_layBinary_14 : decode b_M_layBinary 14 = .ok (.aload_n 0, 1) := by decide +kernel
theorem d_M_layBinary_15 : decode b_M_layBinary 15 = .ok (.getfield 30, 3) := by decide +kernel
theorem d_M_layBinary_18 : decode b_M_layBinary 18 = .ok (.iload_n 1, 1) := by decide +kernel
theorem d_M_layBinary_19 : decode b_M_layBinary 19 = .ok (.iaload, 1) := by decide +kernel
theorem d_M_layBinary_20 : decode b_M_layBinary 20 = .ok (.invokevirtual 197, 3) := by decide +kernel
theorem d_M_layBinary_23 : decode b_M_layBinary 23 = .ok (.bipush 10, 2) := by decide +kernel
theorem d_M_layBinary_25 : decode b_M_layBinary 25 = .ok (.invokevirtual 194, 3) := by decide +kernel
theorem d_M_layBinary_28 : decode b_M_layBinary 28 = .ok (.iinc 1 1, 3) := by decide +kernel
theorem d_M_layBinary_31 : decode b_M_layBinary 31 = .ok (.goto (-29), 3) := by decide +kernel
theorem d_M_layBinary_34 : decode b_M_layBinary 34 = .ok (.iconst 0, 1) := by decide +kernel
theorem d_M_layBinary_35 : decode b_M_layBinary 35 = .ok (.istore_n 1, 1) := by decide +kernel
theorem d_M_layBinary_36 : decode b_M_layBinary 36 = .ok (.iload_n 1, 1) := by decide +kernel
theorem d_M_layBinary_37 : decode b_M_layBinary 37 = .ok (.aload_n 0, 1) := by decide +kernel
theorem d_M_layBinary_38 : decode b_M_layBinary 38 = .ok (.getfield 20, 3) := by decide +kernel
theorem d_M_layBinary_41 : decode b_M_layBinary 41 = .ok (.iconst 3, 1) := by decide +kernel
theorem d_M_layBinary_42 : decode b_M_layBinary 42 = .ok (.iaload, 1) := by decide +kernel
theorem d_M_layBinary_43 : decode b_M_layBinary 43 = .ok (.if_icmp .ge 25, 3) := by decide +kernel
theorem d_M_layBinary_46 : decode b_M_layBinary 46 = .ok (.aload_n 0, 1) := by decide +kernel
theorem d_M_layBinary_47 : decode b_M_layBinary 47 = .ok (.aload_n 0, 1) := by decide +kernel
theorem d_M_layBinary_48 : decode b_M_layBinary 48 = .ok (.aload_n 0, 1) := by decide +kernel
theorem d_M_layBinary_49 : decode b_M_layBinary 49 = .ok (.getfield 33, 3) := by decide +kernel
theorem d_M_layBinary_52 : decode b_M_layBinary 52 = .ok (.iload_n 1, 1) := by decide +kernel
theorem d_M_layBinary_53 : decode b_M_layBinary 53 = .ok (.iaload, 1) := by decide +kernel
theorem d_M_layBinary_54 : decode b_M_layBinary 54 = .ok (.invokevirtual 197, 3) := by decide +kernel
theorem d_M_layBinary_57 : decode b_M_layBinary 57 = .ok (.bipush 10, 2) := by decide +kernel
theorem d_M_layBinary_59 : decode b_M_layBinary 59 = .ok (.invokevirtual 194, 3) := by decide +kernel
theorem d_M_layBinary_62 : decode b_M_layBinary 62 = .ok (.iinc 1 1, 3) := by decide +kernel
theorem d_M_layBinary_65 : decode b_M_layBinary 65 = .ok (.goto (-29), 3) := by decide +kernel
theorem d_M_layBinary_68 : decode b_M_layBinary 68 = .ok (.iconst 0, 1) := by decide +kernel
theorem d_M_layBinary_69 : decode b_M_layBinary 69 = .ok (.istore_n 1, 1) := by decide +kernel
theorem d_M_layBinary_70 : decode b_M_layBinary 70 = .ok (.iload_n 1, 1) := by decide +kernel
theorem d_M_layBinary_71 : decode b_M_layBinary 71 = .ok (.aload_n 0, 1) := by decide +kernel
theorem d_M_layBinary_72 : decode b_M_layBinary 72 = .ok (.getfield 20, 3) := by decide +kernel
theorem d_M_layBinary_75 : decode b_M_layBinary 75 = .ok (.iconst 4, 1) := by decide +kernel
theorem d_M_layBinary_76 : decode b_M_layBinary 76 = .ok (.iaload, 1) := by decide +kernel
theorem d_M_layBinary_77 : decode b_M_layBinary 77 = .ok (.if_icmp .ge 89, 3) := by decide +kernel
theorem d_M_layBinary_80 : decode b_M_layBinary 80 = .ok (.aload_n 0, 1) := by decide +kernel
theorem d_M_layBinary_81 : decode b_M_layBinary 81 = .ok (.getfield 69, 3) := by decide +kernel
theorem d_M_layBinary_84 : decode b_M_layBinary 84 = .ok (.iload_n 1, 1) := by decide +kernel
theorem d_M_layBinary_85 : decode b_M_layBinary 85 = .ok (.iaload, 1) := by decide +kernel
theorem d_M_layBinary_86 : decode b_M_layBinary 86 = .ok (.istore_n 2, 1) := by decide +kernel
theorem d_M_layBinary_87 : decode b_M_layBinary 87 = .ok (.aload_n 0, 1) := by decide +kernel
theorem d_M_layBinary_88 : decode b_M_layBinary 88 = .ok (.aload_n 0, 1) := by decide +kernel
theorem d_M_layBinary_89 : decode b_M_layBinary 89 = .ok (.getfield 39, 3) := by decide +kernel
theorem d_M_layBinary_92 : decode b_M_layBinary 92 = .ok (.iload_n 2, 1) := by decide +kernel
theorem d_M_layBinary_93 : decode b_M_layBinary 93 = .ok (.iaload, 1) := by decide +kernel
theorem d_M_layBinary_94 : decode b_M_layBinary 94 = .ok (.invokevirtual 197, 3) := by decide +kernel
theorem d_M_layBinary_97 : decode b_M_layBinary 97 = .ok (.istore_n 3, 1) := by decide +kernel
theorem d_M_layBinary_98 : decode b_M_layBinary 98 = .ok (.aload_n 0, 1) := by decide +kernel
theorem d_M_layBinary_99 : decode b_M_layBinary 99 = .ok (.aload_n 0, 1) := by decide +kernel
theorem d_M_layBinary_100 : decode b_M_layBinary 100 = .ok (.getfield 42, 3) := by decide +kernel
theorem d_M_layBinary_103 : decode b_M_layBinary 103 = .ok (.iload_n 2, 1) := by decide +kernel
theorem d_M_layBinary_104 : decode b_M_layBinary 104 = .ok (.iaload, 1) := by decide +kernel
theorem d_M_layBinary_105 : decode b_M_layBinary 105 = .ok (.invokevirtual 197, 3) := by decide +kernel
theorem d_M_layBinary_108 : decode b_M_layBinary 108 = .ok (.istore 4, 2) := by decide +kernel
theorem d_M_layBinary_110 : decode b_M_layBinary 110 = .ok (.iload_n 3, 1) := by decide +kernel
theorem d_M_layBinary_111 : decode b_M_layBinary 111 = .ok (.iload 4, 2) := by decide +kernel
theorem d_M_layBinary_113 : decode b_M_layBinary 113 = .ok (.if_icmp .le 7, 3) := by decide +kernel
theorem d_M_layBinary_116 : decode b_M_layBinary 116 = .ok (.iload_n 3, 1) := by decide +kernel
theorem d_M_layBinary_117 : decode b_M_layBinary 117 = .ok (.goto 5, 3) := by decide +kernel
theorem d_M_layBinary_120 : decode b_M_layBinary 120 = .ok (.iload 4, 2) := by decide +kernel
theorem d_M_layBinary_122 : decode b_M_layBinary 122 = .ok (.istore 5, 2) := by decide +kernel
theorem d_M_layBinary_124 : decode b_M_layBinary 124 = .ok (.aload_n 0, 1) := by decide +kernel
theorem d_M_layBinary_125 : decode b_M_layBinary 125 = .ok (.aload_n 0, 1) := by decide +kernel
theorem d_M_layBinary_126 : decode b_M_layBinary 126 = .ok (.aload_n 0, 1) := by decide +kernel
theorem d_M_layBinary_127 : decode b_M_layBinary 127 = .ok (.getfield 36, 3) := by decide +kernel
theorem d_M_layBinary_130 : decode b_M_layBinary 130 = .ok (.iload_n 2, 1) := by decide +kernel
theorem d_M_layBinary_131 : decode b_M_layBinary 131 = .ok (.iaload, 1) := by decide +kernel
theorem d_M_layBinary_132 : decode b_M_layBinary 132 = .ok (.invokevirtual 197, 3) := by decide +kernel
theorem d_M_layBinary_135 : decode b_M_layBinary 135 = .ok (.iload 5, 2) := by decide +kernel
theorem d_M_layBinary_137 : decode b_M_layBinary 137 = .ok (.isub, 1) := by decide +kernel
theorem d_M_layBinary_138 : decode b_M_layBinary 138 = .ok (.invokevirtual 201, 3) := by decide +kernel
theorem d_M_layBinary_141 : decode b_M_layBinary 141 = .ok (.aload_n 0, 1) := by decide +kernel
theorem d_M_layBinary_142 : decode b_M_layBinary 142 = .ok (.iload 5, 2) := by decide +kernel
theorem d_M_layBinary_144 : decode b_M_layBinary 144 = .ok (.iload_n 3, 1) := by decide +kernel
theorem d_M_layBinary_145 : decode b_M_layBinary 145 = .ok (.iload 4, 2) := by decide +kernel
theorem d_M_layBinary_147 : decode b_M_layBinary 147 = .ok (.if_icmp .le 8, 3) := by decide +kernel
theorem d_M_layBinary_150 : decode b_M_layBinary 150 = .ok (.iload 4, 2) := by decide +kernel
theorem d_M_layBinary_152 : decode b_M_layBinary 152 = .ok (.goto 4, 3) := by decide +kernel
theorem d_M_layBinary_155 : decode b_M_layBinary 155 = .ok (.iload_n 3, 1) := by decide +kernel
theorem d_M_layBinary_156 : decode b_M_layBinary 156 = .ok (.isub, 1) := by decide +kernel
theorem d_M_layBinary_157 : decode b_M_layBinary 157 = .ok (.invokevirtual 201, 3) := by decide +kernel
theorem d_M_layBinary_160 : decode b_M_layBinary 160 = .ok (.iinc 1 1, 3) := by decide +kernel
theorem d_M_layBinary_163 : decode b_M_layBinary 163 = .ok (.goto (-93), 3) := by decide +kernel
theorem d_M_layBinary_166 : decode b_M_layBinary 166 = .ok (.return_, 1) := by decide +kernel
theorem d_M_laySymbols_0 : decode b_M_laySymbols 0 = .ok (.iconst 0, 1) := by decide +kernel
theorem d_M_laySymbols_1 : decode b_M_laySymbols 1 = .ok (.istore_n 1, 1) := by decide +kernel
theorem d_M_laySymbols_2 : decode b_M_laySymbols 2 = .ok (.iload_n 1, 1) := by decide +kernel
theorem d_M_laySymbols_3 : decode b_M_laySymbols 3 = .ok (.iconst 3, 1) := by decide +kernel
theorem d_M_laySymbols_4 : decode b_M_laySymbols 4 = .ok (.if_icmp .ge 121, 3) := by decide +kernel
theorem d_M_laySymbols_7 : decode b_M_laySymbols 7 = .ok (.iconst 0, 1) := by decide +kernel
theorem d_M_laySymbols_8 : decode b_M_laySymbols 8 = .ok (.istore_n 2, 1) := by decide +kernel
theorem d_M_laySymbols_9 : decode b_M_laySymbols 9 = .ok (.iload_n 2, 1) := by decide +kernel
theorem d_M_laySymbols_10 : decode b_M_laySymbols 10 = .ok (.aload_n 0, 1) := by decide +kernel
theorem d_M_laySymbols_11 : decode b_M_laySymbols 11 = .ok (.getfield 20, 3) := by decide +kernel
theorem d_M_laySymbols_14 : decode b_M_laySymbols 14 = .ok (.iconst 1, 1) := by decide +kernel
theorem d_M_laySymbols_15 : decode b_M_laySymbols 15 = .ok (.iload_n 1, 1) := by decide +kernel
theorem d_M_laySymbols_16 : decode b_M_laySymbols 16 = .ok (.iadd, 1) := by decide +kernel
theorem d_M_laySymbols_17 : decode b_M_laySymbols 17 = .ok (.iaload, 1) := by decide +kernel
theorem d_M_laySymbols_18 : decode b_M_laySymbols 18 = .ok (.if_icmp .ge 101, 3) := by decide +kernel
theorem d_M_laySymbols_21 : decode b_M_laySymbols 21 = .ok (.iload_n 1, 1) := by decide +kernel
theorem d_M_laySymbols_22 : decode b_M_laySymbols 22 = .ok (.iload_n 2, 1) := by decide +kernel
theorem d_M_laySymbols_23 : decode b_M_laySymbols 23 = .ok (.invokestatic 185, 3) := by decide +kernel
theorem d_M_laySymbols_26 : decode b_M_laySymbols 26 = .ok (.istore_n 3, 1) := by decide +kernel
theorem d_M_laySymbols_27 : decode b_M_laySymbols 27 = .ok (.aload_n 0, 1) := by decide +kernel
theorem d_M_laySymbols_28 : decode b_M_laySymbols 28 = .ok (.getfield 66, 3) := by decide +kernel
theorem d_M_laySymbols_31 : decode b_M_laySymbols 31 = .ok (.iload_n 3, 1) := by decide +kernel
theorem d_M_laySymbols_32 : decode b_M_laySymbols 32 = .ok (.iaload, 1) := by decide +kernel
theorem d_M_laySymbols_33 : decode b_M_laySymbols 33 = .ok (.ifCond .ne 6, 3) := by decide +kernel
theorem d_M_laySymbols_36 : decode b_M_laySymbols 36 = .ok (.goto 77, 3) := by decide +kernel
theorem d_M_laySymbols_39 : decode b_M_laySymbols 39 = .ok (.aload_n 0, 1) := by decide +kernel
theorem d_M_laySymbols_40 : decode b_M_laySymbols 40 = .ok (.iload_n 1, 1) := by decide +kernel
theorem d_M_laySymbols_41 : decode b_M_laySymbols 41 = .ok (.ifCond .ne 8, 3) := by decide +kernel
theorem d_M_laySymbols_44 : decode b_M_laySymbols 44 = .ok (.bipush 105, 2) := by decide +kernel
theorem d_M_laySymbols_46 : decode b_M_laySymbols 46 = .ok (.goto 15, 3) := by decide +kernel
theorem d_M_laySymbols_49 : decode b_M_laySymbols 49 = .ok (.iload_n 1, 1) := by decide +kernel
theorem d_M_laySymbols_50 : decode b_M_laySymbols 50 = .ok (.iconst 1, 1) := by decide +kernel
theorem d_M_laySymbols_51 : decode b_M_laySymbols 51 = .ok (.if_icmp .ne 8, 3) := by decide +kernel
theorem d_M_laySymbols_54 : decode b_M_laySymbols 54 = .ok (.bipush 108, 2) := by decide +kernel
theorem d_M_laySymbols_56 : decode b_M_laySymbols 56 = .ok (.goto 5, 3) := by decide +kernel
theorem d_M_laySymbols_59 : decode b_M_laySymbols 59 = .ok (.bipush 111, 2) := by decide +kernel
theorem d_M_laySymbols_61 : decode b_M_laySymbols 61 = .ok (.invokevirtual 191, 3) := by decide +kernel
theorem d_M_laySymbols_64 : decode b_M_laySymbols 64 = .ok (.aload_n 0, 1) := by decide +kernel
theorem d_M_laySymbols_65 : decode b_M_laySymbols 65 = .ok (.iload_n 2, 1) := by decide +kernel
theorem d_M_laySymbols_66 : decode b_M_laySymbols 66 = .ok (.bipush 32, 2) := by decide +kernel
theorem d_M_laySymbols_68 : decode b_M_laySymbols 68 = .ok (.invokevirtual 194, 3) := by decide +kernel
theorem d_M_laySymbols_71 : decode b_M_laySymbols 71 = .ok (.iconst 0, 1) := by decide +kernel
theorem d_M_laySymbols_72 : decode b_M_laySymbols 72 = .ok (.istore 4, 2) := by decide +kernel
theorem d_M_laySymbols_74 : decode b_M_laySymbols 74 = .ok (.iload 4, 2) := by decide +kernel
theorem d_M_laySymbols_76 : decode b_M_laySymbols 76 = .ok (.aload_n 0, 1) := by decide +kernel
theorem d_M_laySymbols_77 : decode b_M_laySymbols 77 = .ok (.getfield 66, 3) := by decide +kernel
theorem d_M_laySymbols_80 : decode b_M_laySymbols 80 = .ok (.iload_n 3, 1) := by decide +kernel
theorem d_M_laySymbols_81 : decode b_M_laySymbols 81 = .ok (.iaload, 1) := by decide +kernel
theorem d_M_laySymbols_82 : decode b_M_laySymbols 82 = .ok (.if_icmp .ge 25, 3) := by decide +kernel
theorem d_M_laySymbols_85 : decode b_M_laySymbols 85 = .ok (.aload_n 0, 1) := by decide +kernel
theorem d_M_laySymbols_86 : decode b_M_laySymbols 86 = .ok (.aload_n 0, 1) := by decide +kernel
theorem d_M_laySymbols_87 : decode b_M_laySymbols 87 = .ok (.getfield 63, 3) := by decide +kernel
theorem d_M_laySymbols_90 : decode b_M_laySymbols 90 = .ok (.bipush 40, 2) := by decide +kernel
theorem d_M_laySymbols_92 : decode b_M_laySymbols 92 = .ok (.iload_n 3, 1) := by decide +kernel
theorem d_M_laySymbols_93 : decode b_M_laySymbols 93 = .ok (.imul, 1) := by decide +kernel
theorem d_M_laySymbols_94 : decode b_M_laySymbols 94 = .ok (.iload 4, 2) := by decide +kernel
theorem d_M_laySymbols_96 : decode b_M_laySymbols 96 = .ok (.iadd, 1) := by decide +kernel
theorem d_M_laySymbols_97 : decode b_M_laySymbols 97 = .ok (.baload, 1) := by decide +kernel
theorem d_M_laySymbols_98 : decode b_M_laySymbols 98 = .ok (.invokevirtual 191, 3) := by decide +kernel
theorem d_M_laySymbols_101 : decode b_M_laySymbols 101 = .ok (.iinc 4 1, 3) := by decide +kernel
theorem d_M_laySymbols_104 : decode b_M_laySymbols 104 = .ok (.goto (-30), 3) := by decide +kernel
theorem d_M_laySymbols_107 : decode b_M_laySymbols 107 = .ok (.aload_n 0, 1) := by decide +kernel
theorem d_M_laySymbols_108 : decode b_M_laySymbols 108 = .ok (.bipush 10, 2) := by decide +kernel
theorem d_M_laySymbols_110 : decode b_M_laySymbols 110 = .ok (.invokevirtual 191, 3) := by decide +kernel
theorem d_M_laySymbols_113 : decode b_M_laySymbols 113 = .ok (.iinc 2 1, 3) := by decide +kernel
theorem d_M_laySymbols_116 : decode b_M_laySymbols 116 = .ok (.goto (-107), 3) := by decide +kernel
theorem d_M_laySymbols_119 : decode b_M_laySymbols 119 = .ok (.iinc 1 1, 3) := by decide +kernel
theorem d_M_laySymbols_122 : decode b_M_laySymbols 122 = .ok (.goto (-120), 3) := by decide +kernel
theorem d_M_laySymbols_125 : decode b_M_laySymbols 125 = .ok (.return_, 1) := by decide +kernel
theorem d_M_sortAgain_0 : decode b_M_sortAgain 0 = .ok (.iconst 0, 1) := by decide +kernel
theorem d_M_sortAgain_1 : decode b_M_sortAgain 1 = .ok (.istore_n 1, 1) := by decide +kernel
theorem d_M_sortAgain_2 : decode b_M_sortAgain 2 = .ok (.iload_n 1, 1) := by decide +kernel
theorem d_M_sortAgain_3 : decode b_M_sortAgain 3 = .ok (.iconst 5, 1) := by decide +kernel
theorem d_M_sortAgain_4 : decode b_M_sortAgain 4 = .ok (.if_icmp .ge 23, 3) := by decide +kernel
theorem d_M_sortAgain_7 : decode b_M_sortAgain 7 = .ok (.aload_n 0, 1) := by decide +kernel
theorem d_M_sortAgain_8 : decode b_M_sortAgain 8 = .ok (.getfield 20, 3) := by decide +kernel
theorem d_M_sortAgain_11 : decode b_M_sortAgain 11 = .ok (.iconst 5, 1) := by decide +kernel
theorem d_M_sortAgain_12 : decode b_M_sortAgain 12 = .ok (.iload_n 1, 1) := by decide +kernel
theorem d_M_sortAgain_13 : decode b_M_sortAgain 13 = .ok (.iadd, 1) := by decide +kernel
theorem d_M_sortAgain_14 : decode b_M_sortAgain 14 = .ok (.aload_n 0, 1) := by decide +kernel
theorem d_M_sortAgain_15 : decode b_M_sortAgain 15 = .ok (.getfield 20, 3) := by decide +kernel
theorem d_M_sortAgain_18 : decode b_M_sortAgain 18 = .ok (.iload_n 1, 1) := by decide +kernel
theorem d_M_sortAgain_19 : decode b_M_sortAgain 19 = .ok (.iaload, 1) := by decide +kernel
theorem d_M_sortAgain_20 : decode b_M_sortAgain 20 = .ok (.iastore, 1) := by decide +kernel
theorem d_M_sortAgain_21 : decode b_M_sortAgain 21 = .ok (.iinc 1 1, 3) := by decide +kernel
theorem d_M_sortAgain_24 : decode b_M_sortAgain 24 = .ok (.goto (-22), 3) := by decide +kernel
theorem d_M_sortAgain_27 : decode b_M_sortAgain 27 = .ok (.iconst 0, 1) := by decide +kernel
theorem d_M_sortAgain_28 : decode b_M_sortAgain 28 = .ok (.istore_n 1, 1) := by decide +kernel
theorem d_M_sortAgain_29 : decode b_M_sortAgain 29 = .ok (.iload_n 1, 1) := by decide +kernel
theorem d_M_sortAgain_30 : decode b_M_sortAgain 30 = .ok (.bipush 6, 2) := by decide +kernel
theorem d_M_sortAgain_32 : decode b_M_sortAgain 32 = .ok (.if_icmp .ge 24, 3) := by decide +kernel
theorem d_M_sortAgain_35 : decode b_M_sortAgain 35 = .ok (.aload_n 0, 1) := by decide +kernel
theorem d_M_sortAgain_36 : decode b_M_sortAgain 36 = .ok (.getfield 24, 3) := by decide +kernel
theorem d_M_sortAgain_39 : decode b_M_sortAgain 39 = .ok (.bipush 6, 2) := by decide +kernel
theorem d_M_sortAgain_41 : decode b_M_sortAgain 41 = .ok (.iload_n 1, 1) := by decide +kernel
theorem d_M_sortAgain_42 : decode b_M_sortAgain 42 = .ok (.iadd, 1) := by decide +kernel
theorem d_M_sortAgain_43 : decode b_M_sortAgain 43 = .ok (.aload_n 0, 1) := by decide +kernel
theorem d_M_sortAgain_44 : decode b_M_sortAgain 44 = .ok (.getfield 24, 3) := by decide +kernel
theorem d_M_sortAgain_47 : decode b_M_sortAgain 47 = .ok (.iload_n 1, 1) := by decide +kernel
theorem d_M_sortAgain_48 : decode b_M_sortAgain 48 = .ok (.iaload, 1) := by decide +kernel
theorem d_M_sortAgain_49 : decode b_M_sortAgain 49 = .ok (.iastore, 1) := by decide +kernel
theorem d_M_sortAgain_50 : decode b_M_sortAgain 50 = .ok (.iinc 1 1, 3) := by decide +kernel
theorem d_M_sortAgain_53 : decode b_M_sortAgain 53 = .ok (.goto (-24), 3) := by decide +kernel
theorem d_M_sortAgain_56 : decode b_M_sortAgain 56 = .ok (.iconst 0, 1) := by decide +kernel
theorem d_M_sortAgain_57 : decode b_M_sortAgain 57 = .ok (.istore_n 1, 1) := by decide +kernel
theorem d_M_sortAgain_58 : decode b_M_sortAgain 58 = .ok (.iload_n 1, 1) := by decide +kernel
theorem d_M_sortAgain_59 : decode b_M_sortAgain 59 = .ok (.bipush 8, 2) := by decide +kernel
theorem d_M_sortAgain_61 : decode b_M_sortAgain 61 = .ok (.if_icmp .ge 24, 3) := by decide +kernel
theorem d_M_sortAgain_64 : decode b_M_sortAgain 64 = .ok (.aload_n 0, 1) := by decide +kernel
theorem d_M_sortAgain_65 : decode b_M_sortAgain 65 = .ok (.getfield 27, 3) := by decide +kernel
theorem d_M_sortAgain_68 : decode b_M_sortAgain 68 = .ok (.bipush 8, 2) := by decide +kernel
theorem d_M_sortAgain_70 : decode b_M_sortAgain 70 = .ok (.iload_n 1, 1) := by decide +kernel
theorem d_M_sortAgain_71 : decode b_M_sortAgain 71 = .ok (.iadd, 1) := by decide +kernel
theorem d_M_sortAgain_72 : decode b_M_sortAgain 72 = .ok (.aload_n 0, 1) := by decide +kernel
theorem d_M_sortAgain_73 : decode b_M_sortAgain 73 = .ok (.getfield 27, 3) := by decide +kernel
theorem d_M_sortAgain_76 : decode b_M_sortAgain 76 = .ok (.iload_n 1, 1) := by decide +kernel
theorem d_M_sortAgain_77 : decode b_M_sortAgain 77 = .ok (.iaload, 1) := by decide +kernel
theorem d_M_sortAgain_78 : decode b_M_sortAgain 78 = .ok (.iastore, 1) := by decide +kernel
theorem d_M_sortAgain_79 : decode b_M_sortAgain 79 = .ok (.iinc 1 1, 3) := by decide +kernel
theorem d_M_sortAgain_82 : decode b_M_sortAgain 82 = .ok (.goto (-24), 3) := by decide +kernel
theorem d_M_sortAgain_85 : decode b_M_sortAgain 85 = .ok (.iconst 0, 1) := by decide +kernel
theorem d_M_sortAgain_86 : decode b_M_sortAgain 86 = .ok (.istore_n 1, 1) := by decide +kernel
theorem d_M_sortAgain_87 : decode b_M_sortAgain 87 = .ok (.iload_n 1, 1) := by decide +kernel
theorem d_M_sortAgain_88 : decode b_M_sortAgain 88 = .ok (.sipush 300, 3) := by decide +kernel
theorem d_M_sortAgain_91 : decode b_M_sortAgain 91 = .ok (.if_icmp .ge 57, 3) := by decide +kernel
theorem d_M_sortAgain_94 : decode b_M_sortAgain 94 = .ok (.aload_n 0, 1) := by decide +kernel
theorem d_M_sortAgain_95 : decode b_M_sortAgain 95 = .ok (.getfield 36, 3) := by decide +kernel
theorem d_M_sortAgain_98 : decode b_M_sortAgain 98 = .ok (.sipush 300, 3) := by decide +kernel
theorem d_M_sortAgain_101 : decode b_M_sortAgain 101 = .ok (.iload_n 1, 1) := by decide +kernel
theorem d_M_sortAgain_102 : decode b_M_sortAgain 102 = .ok (.iadd, 1) := by decide +kernel
theorem d_M_sortAgain_103 : decode b_M_sortAgain 103 = .ok (.aload_n 0, 1) := by decide +kernel
theorem d_M_sortAgain_104 : decode b_M_sortAgain 104 = .ok (.getfield 36, 3) := by decide +kernel
theorem d_M_sortAgain_107 : decode b_M_sortAgain 107 = .ok (.iload_n 1, 1) := by decide +kernel
theorem d_M_sortAgain_108 : decode b_M_sortAgain 108 = .ok (.iaload, 1) := by decide +kernel
theorem d_M_sortAgain_109 : decode b_M_sortAgain 109 = .ok (.iastore, 1) := by decide +kernel
theorem d_M_sortAgain_110 : decode b_M_sortAgain 110 = .ok (.aload_n 0, 1) := by decide +kernel
theorem d_M_sortAgain_111 : decode b_M_sortAgain 111 = .ok (.getfield 39, 3) := by decide +kernel
theorem d_M_sortAgain_114 : decode b_M_sortAgain 114 = .ok (.sipush 300, 3) := by decide +kernel
theorem d_M_sortAgain_117 : decode b_M_sortAgain 117 = .ok (.iload_n 1, 1) := by decide +kernel
theorem d_M_sortAgain_118 : decode b_M_sortAgain 118 = .ok (.iadd, 1) := by decide +kernel
theorem d_M_sortAgain_119 : decode b_M_sortAgain 119 = .ok (.aload_n 0, 1) := by decide +kernel
theorem d_M_sortAgain_120 : decode b_M_sortAgain 120 = .ok (.getfield 39, 3) := by decide +kernel
theorem d_M_sortAgain_123 : decode b_M_sortAgain 123 = .ok (.iload_n 1, 1) := by decide +kernel
theorem d_M_sortAgain_124 : decode b_M_sortAgain 124 = .ok (.iaload, 1) := by decide +kernel
theorem d_M_sortAgain_125 : decode b_M_sortAgain 125 = .ok (.iastore, 1) := by decide +kernel
theorem d_M_sortAgain_126 : decode b_M_sortAgain 126 = .ok (.aload_n 0, 1) := by decide +kernel
theorem d_M_sortAgain_127 : decode b_M_sortAgain 127 = .ok (.getfield 42, 3) := by decide +kernel
theorem d_M_sortAgain_130 : decode b_M_sortAgain 130 = .ok (.sipush 300, 3) := by decide +kernel
theorem d_M_sortAgain_133 : decode b_M_sortAgain 133 = .ok (.iload_n 1, 1) := by decide +kernel
theorem d_M_sortAgain_134 : decode b_M_sortAgain 134 = .ok (.iadd, 1) := by decide +kernel
theorem d_M_sortAgain_135 : decode b_M_sortAgain 135 = .ok (.aload_n 0, 1) := by decide +kernel
theorem d_M_sortAgain_136 : decode b_M_sortAgain 136 = .ok (.getfield 42, 3) := by decide +kernel
theorem d_M_sortAgain_139 : decode b_M_sortAgain 139 = .ok (.iload_n 1, 1) := by decide +kernel
theorem d_M_sortAgain_140 : decode b_M_sortAgain 140 = .ok (.iaload, 1) := by decide +kernel
theorem d_M_sortAgain_141 : decode b_M_sortAgain 141 = .ok (.iastore, 1) := by decide +kernel
theorem d_M_sortAgain_142 : decode b_M_sortAgain 142 = .ok (.iinc 1 1, 3) := by decide +kernel
theorem d_M_sortAgain_145 : decode b_M_sortAgain 145 = .ok (.goto (-58), 3) := by decide +kernel
theorem d_M_sortAgain_148 : decode b_M_sortAgain 148 = .ok (.iconst 0, 1) := by decide +kernel
theorem d_M_sortAgain_149 : decode b_M_sortAgain 149 = .ok (.istore_n 1, 1) := by decide +kernel
theorem d_M_sortAgain_150 : decode b_M_sortAgain 150 = .ok (.iload_n 1, 1) := by decide +kernel
theorem d_M_sortAgain_151 : decode b_M_sortAgain 151 = .ok (.sipush 401, 3) := by decide +kernel
theorem d_M_sortAgain_154 : decode b_M_sortAgain 154 = .ok (.if_icmp .ge 25, 3) := by decide +kernel
theorem d_M_sortAgain_157 : decode b_M_sortAgain 157 = .ok (.aload_n 0, 1) := by decide +kernel
theorem d_M_sortAgain_158 : decode b_M_sortAgain 158 = .ok (.getfield 45, 3) := by decide +kernel
theorem d_M_sortAgain_161 : decode b_M_sortAgain 161 = .ok (.sipush 401, 3) := by decide +kernel
theorem d_M_sortAgain_164 : decode b_M_sortAgain 164 = .ok (.iload_n 1, 1) := by decide +kernel
theorem d_M_sortAgain_165 : decode b_M_sortAgain 165 = .ok (.iadd, 1) := by decide +kernel
theorem d_M_sortAgain_166 : decode b_M_sortAgain 166 = .ok (.aload_n 0, 1) := by decide +kernel
theorem d_M_sortAgain_167 : decode b_M_sortAgain 167 = .ok (.getfield 45, 3) := by decide +kernel
theorem d_M_sortAgain_170 : decode b_M_sortAgain 170 = .ok (.iload_n 1, 1) := by decide +kernel
theorem d_M_sortAgain_171 : decode b_M_sortAgain 171 = .ok (.iaload, 1) := by decide +kernel
theorem d_M_sortAgain_172 : decode b_M_sortAgain 172 = .ok (.iastore, 1) := by decide +kernel
theorem d_M_sortAgain_173 : decode b_M_sortAgain 173 = .ok (.iinc 1 1, 3) := by decide +kernel
theorem d_M_sortAgain_176 : decode b_M_sortAgain 176 = .ok (.goto (-26), 3) := by decide +kernel
theorem d_M_sortAgain_179 : decode b_M_sortAgain 179 = .ok (.aload_n 0, 1) := by decide +kernel
theorem d_M_sortAgain_180 : decode b_M_sortAgain 180 = .ok (.invokevirtual 152, 3) := by decide +kernel
theorem d_M_sortAgain_183 : decode b_M_sortAgain 183 = .ok (.return_, 1) := by decide +kernel
theorem d_M_form_0 : decode b_M_form 0 = .ok (.aload_n 0, 1) := by decide +kernel
theorem d_M_form_1 : decode b_M_form 1 = .ok (.iconst 0, 1) := by decide +kernel
theorem d_M_form_2 : decode b_M_form 2 = .ok (.putfield 85, 3) := by decide +kernel
theorem d_M_form_5 : decode b_M_form 5 = .ok (.aload_n 0, 1) := by decide +kernel
theorem d_M_form_6 : decode b_M_form 6 = .ok (.invokevirtual 204, 3) := by decide +kernel
theorem d_M_form_9 : decode b_M_form 9 = .ok (.aload_n 0, 1) := by decide +kernel
theorem d_M_form_10 : decode b_M_form 10 = .ok (.iload_n 1, 1) := by decide +kernel
theorem d_M_form_11 : decode b_M_form 11 = .ok (.invokevirtual 207, 3) := by decide +kernel
theorem d_M_form_14 : decode b_M_form 14 = .ok (.iload_n 1, 1) := by decide +kernel
theorem d_M_form_15 : decode b_M_form 15 = .ok (.ifCond .eq 10, 3) := by decide +kernel
theorem d_M_form_18 : decode b_M_form 18 = .ok (.aload_n 0, 1) := by decide +kernel
theorem d_M_form_19 : decode b_M_form 19 = .ok (.invokevirtual 211, 3) := by decide +kernel
theorem d_M_form_22 : decode b_M_form 22 = .ok (.goto 7, 3) := by decide +kernel
theorem d_M_form_25 : decode b_M_form 25 = .ok (.aload_n 0, 1) := by decide +kernel
theorem d_M_form_26 : decode b_M_form 26 = .ok (.invokevirtual 214, 3) := by decide +kernel
theorem d_M_form_29 : decode b_M_form 29 = .ok (.aload_n 0, 1) := by decide +kernel
theorem d_M_form_30 : decode b_M_form 30 = .ok (.invokevirtual 217, 3) := by decide +kernel
theorem d_M_form_33 : decode b_M_form 33 = .ok (.iload_n 2, 1) := by decide +kernel
theorem d_M_form_34 : decode b_M_form 34 = .ok (.ifCond .lt 11, 3) := by decide +kernel
theorem d_M_form_37 : decode b_M_form 37 = .ok (.iload_n 2, 1) := by decide +kernel
theorem d_M_form_38 : decode b_M_form 38 = .ok (.aload_n 0, 1) := by decide +kernel
theorem d_M_form_39 : decode b_M_form 39 = .ok (.getfield 188, 3) := by decide +kernel
theorem d_M_form_42 : decode b_M_form 42 = .ok (.if_icmp .lt 7, 3) := by decide +kernel
theorem d_M_form_45 : decode b_M_form 45 = .ok (.iconst (-1), 1) := by decide +kernel
theorem d_M_form_46 : decode b_M_form 46 = .ok (.goto 13, 3) := by decide +kernel
theorem d_M_form_49 : decode b_M_form 49 = .ok (.aload_n 0, 1) := by decide +kernel
theorem d_M_form_50 : decode b_M_form 50 = .ok (.getfield 82, 3) := by decide +kernel
theorem d_M_form_53 : decode b_M_form 53 = .ok (.iload_n 2, 1) := by decide +kernel
theorem d_M_form_54 : decode b_M_form 54 = .ok (.baload, 1) := by decide +kernel
theorem d_M_form_55 : decode b_M_form 55 = .ok (.sipush 255, 3) := by decide +kernel
theorem d_M_form_58 : decode b_M_form 58 = .ok (.iand, 1) := by decide +kernel
theorem d_M_form_59 : decode b_M_form 59 = .ok (.ireturn, 1) := by decide +kernel
theorem d_M_reset_0 : decode b_M_reset 0 = .ok (.aload_n 0, 1) := by decide +kernel
theorem d_M_reset_1 : decode b_M_reset 1 = .ok (.iconst 0, 1) := by decide +kernel
theorem d_M_reset_2 : decode b_M_reset 2 = .ok (.putfield 85, 3) := by decide +kernel
theorem d_M_reset_5 : decode b_M_reset 5 = .ok (.aload_n 0, 1) := by decide +kernel
theorem d_M_reset_6 : decode b_M_reset 6 = .ok (.iconst 0, 1) := by decide +kernel
theorem d_M_reset_7 : decode b_M_reset 7 = .ok (.putfield 158, 3) := by decide +kernel
theorem d_M_reset_10 : decode b_M_reset 10 = .ok (.return_, 1) := by decide +kernel
theorem d_M_state_0 : decode b_M_state 0 = .ok (.aload_n 0, 1) := by decide +kernel
theorem d_M_state_1 : decode b_M_state 1 = .ok (.iconst 0, 1) := by decide +kernel
theorem d_M_state_2 : decode b_M_state 2 = .ok (.putfield 85, 3) := by decide +kernel
theorem d_M_state_5 : decode b_M_state 5 = .ok (.aload_n 0, 1) := by decide +kernel
theorem d_M_state_6 : decode b_M_state 6 = .ok (.getfield 158, 3) := by decide +kernel
theorem d_M_state_9 : decode b_M_state 9 = .ok (.ireturn, 1) := by decide +kernel
theorem d_M_of_0 : decode b_M_of 0 = .ok (.aload_n 0, 1) := by decide +kernel
theorem d_M_of_1 : decode b_M_of 1 = .ok (.getfield 79, 3) := by decide +kernel
theorem d_M_of_4 : decode b_M_of 4 = .ok (.iload_n 1, 1) := by decide +kernel
theorem d_M_of_5 : decode b_M_of 5 = .ok (.iconst 2, 1) := by decide +kernel
theorem d_M_of_6 : decode b_M_of 6 = .ok (.idiv, 1) := by decide +kernel
theorem d_M_of_7 : decode b_M_of 7 = .ok (.iaload, 1) := by decide +kernel
theorem d_M_of_8 : decode b_M_of 8 = .ok (.iload_n 1, 1) := by decide +kernel
theorem d_M_of_9 : decode b_M_of 9 = .ok (.iconst 1, 1) := by decide +kernel
theorem d_M_of_10 : decode b_M_of 10 = .ok (.iand, 1) := by decide +kernel
theorem d_M_of_11 : decode b_M_of 11 = .ok (.ixor, 1) := by decide +kernel
theorem d_M_of_12 : decode b_M_of 12 = .ok (.ireturn, 1) := by decide +kernel
theorem d_M_reckon_0 : decode b_M_reckon 0 = .ok (.aload_n 0, 1) := by decide +kernel
theorem d_M_reckon_1 : decode b_M_reckon 1 = .ok (.invokevirtual 204, 3) := by decide +kernel
theorem d_M_reckon_4 : decode b_M_reckon 4 = .ok (.aload_n 0, 1) := by decide +kernel
theorem d_M_reckon_5 : decode b_M_reckon 5 = .ok (.getfield 79, 3) := by decide +kernel
theorem d_M_reckon_8 : decode b_M_reckon 8 = .ok (.iconst 0, 1) := by decide +kernel
theorem d_M_reckon_9 : decode b_M_reckon 9 = .ok (.iconst 0, 1) := by decide +kernel
theorem d_M_reckon_10 : decode b_M_reckon 10 = .ok (.iastore, 1) := by decide +kernel
theorem d_M_reckon_11 : decode b_M_reckon 11 = .ok (.iconst 0, 1) := by decide +kernel
theorem d_M_reckon_12 : decode b_M_reckon 12 = .ok (.istore_n 2, 1) := by decide +kernel
theorem d_M_reckon_13 : decode b_M_reckon 13 = .ok (.iload_n 2, 1) := by decide +kernel
theorem d_M_reckon_14 : decode b_M_reckon 14 = .ok (.aload_n 0, 1) := by decide +kernel
theorem d_M_reckon_15 : decode b_M_reckon 15 = .ok (.getfield 20, 3) := by decide +kernel
theorem d_M_reckon_18 : decode b_M_reckon 18 = .ok (.iconst 1, 1) := by decide +kernel
theorem d_M_reckon_19 : decode b_M_reckon 19 = .ok (.iaload, 1) := by decide +kernel
theorem d_M_reckon_20 : decode b_M_reckon 20 = .ok (.if_icmp .ge 27, 3) := by decide +kernel
theorem d_M_reckon_23 : decode b_M_reckon 23 = .ok (.aload_n 0, 1) := by decide +kernel
theorem d_M_reckon_24 : decode b_M_reckon 24 = .ok (.getfield 79, 3) := by decide +kernel
theorem d_M_reckon_27 : decode b_M_reckon 27 = .ok (.aload_n 0, 1) := by decide +kernel
theorem d_M_reckon_28 : decode b_M_reckon 28 = .ok (.getfield 24, 3) := by decide +kernel
theorem d_M_reckon_31 : decode b_M_reckon 31 = .ok (.iload_n 2, 1) := by decide +kernel
theorem d_M_reckon_32 : decode b_M_reckon 32 = .ok (.iaload, 1) := by decide +kernel
theorem d_M_reckon_33 : decode b_M_reckon 33 = .ok (.iconst 2, 1) := by decide +kernel
theorem d_M_reckon_34 : decode b_M_reckon 34 = .ok (.idiv, 1) := by decide +kernel
theorem d_M_reckon_35 : decode b_M_reckon 35 = .ok (.iload_n 1, 1) := by decide +kernel
theorem d_M_reckon_36 : decode b_M_reckon 36 = .ok (.iload_n 2, 1) := by decide +kernel
theorem d_M_reckon_37 : decode b_M_reckon 37 = .ok (.ishr, 1) := by decide +kernel
theorem d_M_reckon_38 : decode b_M_reckon 38 = .ok (.iconst 1, 1) := by decide +kernel
theorem d_M_reckon_39 : decode b_M_reckon 39 = .ok (.iand, 1) := by decide +kernel
theorem d_M_reckon_40 : decode b_M_reckon 40 = .ok (.iastore, 1) := by decide +kernel
theorem d_M_reckon_41 : decode b_M_reckon 41 = .ok (.iinc 2 1, 3) := by decide +kernel
theorem d_M_reckon_44 : decode b_M_reckon 44 = .ok (.goto (-31), 3) := by decide +kernel
theorem d_M_reckon_47 : decode b_M_reckon 47 = .ok (.iconst 0, 1) := by decide +kernel
theorem d_M_reckon_48 : decode b_M_reckon 48 = .ok (.istore_n 2, 1) := by decide +kernel
theorem d_M_reckon_49 : decode b_M_reckon 49 = .ok (.iload_n 2, 1) := by decide +kernel
theorem d_M_reckon_50 : decode b_M_reckon 50 = .ok (.aload_n 0, 1) := by decide +kernel
theorem d_M_reckon_51 : decode b_M_reckon 51 = .ok (.getfield 20, 3) := by decide +kernel
theorem d_M_reckon_54 : decode b_M_reckon 54 = .ok (.iconst 2, 1) := by decide +kernel
theorem d_M_reckon_55 : decode b_M_reckon 55 = .ok (.iaload, 1) := by decide +kernel
theorem d_M_reckon_56 : decode b_M_reckon 56 = .ok (.if_icmp .ge 30, 3) := by decide +kernel
theorem d_M_reckon_59 : decode b_M_reckon 59 = .ok (.aload_n 0, 1) := by decide +kernel
theorem d_M_reckon_60 : decode b_M_reckon 60 = .ok (.getfield 79, 3) := by decide +kernel
theorem d_M_reckon_63 : decode b_M_reckon 63 = .ok (.aload_n 0, 1) := by decide +kernel
theorem d_M_reckon_64 : decode b_M_reckon 64 = .ok (.getfield 27, 3) := by decide +kernel
theorem d_M_reckon_67 : decode b_M_reckon 67 = .ok (.iload_n 2, 1) := by decide +kernel
theorem d_M_reckon_68 : decode b_M_reckon 68 = .ok (.iaload, 1) := by decide +kernel
theorem d_M_reckon_69 : decode b_M_reckon 69 = .ok (.iconst 2, 1) := by decide +kernel
theorem d_M_reckon_70 : decode b_M_reckon 70 = .ok (.idiv, 1) := by decide +kernel
theorem d_M_reckon_71 : decode b_M_reckon 71 = .ok (.aload_n 0, 1) := by decide +kernel
theorem d_M_reckon_72 : decode b_M_reckon 72 = .ok (.getfield 158, 3) := by decide +kernel
theorem d_M_reckon_75 : decode b_M_reckon 75 = .ok (.iload_n 2, 1) := by decide +kernel
theorem d_M_reckon_76 : decode b_M_reckon 76 = .ok (.ishr, 1) := by decide +kernel
theorem d_M_reckon_77 : decode b_M_reckon 77 = .ok (.iconst 1, 1) := by decide +kernel
theorem d_M_reckon_78 : decode b_M_reckon 78 = .ok (.iand, 1) := by decide +kernel
theorem d_M_reckon_79 : decode b_M_reckon 79 = .ok (.iastore, 1) := by decide +kernel
theorem d_M_reckon_80 : decode b_M_reckon 80 = .ok (.iinc 2 1, 3) := by decide +kernel
theorem d_M_reckon_83 : decode b_M_reckon 83 = .ok (.goto (-34), 3) := by decide +kernel
theorem d_M_reckon_86 : decode b_M_reckon 86 = .ok (.iconst 0, 1) := by decide +kernel
theorem d_M_reckon_87 : decode b_M_reckon 87 = .ok (.istore_n 2, 1) := by decide +kernel
theorem d_M_reckon_88 : decode b_M_reckon 88 = .ok (.iload_n 2, 1) := by decide +kernel
theorem d_M_reckon_89 : decode b_M_reckon 89 = .ok (.aload_n 0, 1) := by decide +kernel
theorem d_M_reckon_90 : decode b_M_reckon 90 = .ok (.getfield 20, 3) := by decide +kernel
theorem d_M_reckon_93 : decode b_M_reckon 93 = .ok (.iconst 4, 1) := by decide +kernel
theorem d_M_reckon_94 : decode b_M_reckon 94 = .ok (.iaload, 1) := by decide +kernel
theorem d_M_reckon_95 : decode b_M_reckon 95 = .ok (.if_icmp .ge 50, 3) := by decide +kernel
theorem d_M_reckon_98 : decode b_M_reckon 98 = .ok (.aload_n 0, 1) := by decide +kernel
theorem d_M_reckon_99 : decode b_M_reckon 99 = .ok (.getfield 69, 3) := by decide +kernel
theorem d_M_reckon_102 : decode b_M_reckon 102 = .ok (.iload_n 2, 1) := by decide +kernel
theorem d_M_reckon_103 : decode b_M_reckon 103 = .ok (.iaload, 1) := by decide +kernel
theorem d_M_reckon_104 : decode b_M_reckon 104 = .ok (.istore_n 3, 1) := by decide +kernel
theorem d_M_reckon_105 : decode b_M_reckon 105 = .ok (.aload_n 0, 1) := by decide +kernel
theorem d_M_reckon_106 : decode b_M_reckon 106 = .ok (.getfield 79, 3) := by decide +kernel
theorem d_M_reckon_109 : decode b_M_reckon 109 = .ok (.aload_n 0, 1) := by decide +kernel
theorem d_M_reckon_110 : decode b_M_reckon 110 = .ok (.getfield 36, 3) := by decide +kernel
theorem d_M_reckon_113 : decode b_M_reckon 113 = .ok (.iload_n 3, 1) := by decide +kernel
theorem d_M_reckon_114 : decode b_M_reckon 114 = .ok (.iaload, 1) := by decide +kernel
theorem d_M_reckon_115 : decode b_M_reckon 115 = .ok (.iconst 2, 1) := by decide +kernel
theorem d_M_reckon_116 : decode b_M_reckon 116 = .ok (.idiv, 1) := by decide +kernel
theorem d_M_reckon_117 : decode b_M_reckon 117 = .ok (.aload_n 0, 1) := by decide +kernel
theorem d_M_reckon_118 : decode b_M_reckon 118 = .ok (.aload_n 0, 1) := by decide +kernel
theorem d_M_reckon_119 : decode b_M_reckon 119 = .ok (.getfield 39, 3) := by decide +kernel
theorem d_M_reckon_122 : decode b_M_reckon 122 = .ok (.iload_n 3, 1) := by decide +kernel
theorem d_M_reckon_123 : decode b_M_reckon 123 = .ok (.iaload, 1) := by decide +kernel
theorem d_M_reckon_124 : decode b_M_reckon 124 = .ok (.invokevirtual 220, 3) := by decide +kernel
theorem d_M_reckon_127 : decode b_M_reckon 127 = .ok (.aload_n 0, 1) := by decide +kernel
theorem d_M_reckon_128 : decode b_M_reckon 128 = .ok (.aload_n 0, 1) := by decide +kernel
theorem d_M_reckon_129 : decode b_M_reckon 129 = .ok (.getfield 42, 3) := by decide +kernel
theorem d_M_reckon_132 : decode b_M_reckon 132 = .ok (.iload_n 3, 1) := by decide +kernel
theorem d_M_reckon_133 : decode b_M_reckon 133 = .ok (.iaload, 1) := by decide +kernel
theorem d_M_reckon_134 : decode b_M_reckon 134 = .ok (.invokevirtual 220, 3) := by decide +kernel
theorem d_M_reckon_137 : decode b_M_reckon 137 = .ok (.iand, 1) := by decide +kernel
theorem d_M_reckon_138 : decode b_M_reckon 138 = .ok (.iastore, 1) := by decide +kernel
theorem d_M_reckon_139 : decode b_M_reckon 139 = .ok (.iinc 2 1, 3) := by decide +kernel
theorem d_M_reckon_142 : decode b_M_reckon 142 = .ok (.goto (-54), 3) := by decide +kernel
theorem d_M_reckon_145 : decode b_M_reckon 145 = .ok (.return_, 1) := by decide +kernel
theorem d_M_value_0 : decode b_M_value 0 = .ok (.aload_n 0, 1) := by decide +kernel
theorem d_M_value_1 : decode b_M_value 1 = .ok (.iconst 0, 1) := by decide +kernel
theorem d_M_value_2 : decode b_M_value 2 = .ok (.putfield 85, 3) := by decide +kernel
theorem d_M_value_5 : decode b_M_value 5 = .ok (.iload_n 1, 1) := by decide +kernel
theorem d_M_value_6 : decode b_M_value 6 = .ok (.ifCond .lt 33, 3) := by decide +kernel
theorem d_M_value_9 : decode b_M_value 9 = .ok (.iload_n 1, 1) := by decide +kernel
theorem d_M_value_10 : decode b_M_value 10 = .ok (.iconst 2, 1) := by decide +kernel
theorem d_M_value_11 : decode b_M_value 11 = .ok (.aload_n 0, 1) := by decide +kernel
theorem d_M_value_12 : decode b_M_value 12 = .ok (.getfield 20, 3) := by decide +kernel
theorem d_M_value_15 : decode b_M_value 15 = .ok (.iconst 0, 1) := by decide +kernel
theorem d_M_value_16 : decode b_M_value 16 = .ok (.iaload, 1) := by decide +kernel
theorem d_M_value_17 : decode b_M_value 17 = .ok (.imul, 1) := by decide +kernel
theorem d_M_value_18 : decode b_M_value 18 = .ok (.iconst 1, 1) := by decide +kernel
theorem d_M_value_19 : decode b_M_value 19 = .ok (.iadd, 1) := by decide +kernel
theorem d_M_value_20 : decode b_M_value 20 = .ok (.if_icmp .gt 19, 3) := by decide +kernel
theorem d_M_value_23 : decode b_M_value 23 = .ok (.iload_n 1, 1) := by decide +kernel
theorem d_M_value_24 : decode b_M_value 24 = .ok (.iconst 1, 1) := by decide +kernel
theorem d_M_value_25 : decode b_M_value 25 = .ok (.if_icmp .le 16, 3) := by decide +kernel
theorem d_M_value_28 : decode b_M_value 28 = .ok (.aload_n 0, 1) := by decide +kernel
theorem d_M_value_29 : decode b_M_value 29 = .ok (.getfield 45, 3) := by decide +kernel
theorem d_M_value_32 : decode b_M_value 32 = .ok (.iload_n 1, 1) := by decide +kernel
theorem d_M_value_33 : decode b_M_value 33 = .ok (.iconst 2, 1) := by decide +kernel
theorem d_M_value_34 : decode b_M_value 34 = .ok (.idiv, 1) := by decide +kernel
theorem d_M_value_35 : decode b_M_value 35 = .ok (.iaload, 1) := by decide +kernel
theorem d_M_value_36 : decode b_M_value 36 = .ok (.ifCond .ne 5, 3) := by decide +kernel
theorem d_M_value_39 : decode b_M_value 39 = .ok (.iconst (-1), 1) := by decide +kernel
theorem d_M_value_40 : decode b_M_value 40 = .ok (.ireturn, 1) := by decide +kernel
theorem d_M_value_41 : decode b_M_value 41 = .ok (.aload_n 0, 1) := by decide +kernel
theorem d_M_value_42 : decode b_M_value 42 = .ok (.iload_n 2, 1) := by decide +kernel
theorem d_M_value_43 : decode b_M_value 43 = .ok (.invokevirtual 223, 3) := by decide +kernel
theorem d_M_value_46 : decode b_M_value 46 = .ok (.aload_n 0, 1) := by decide +kernel
theorem d_M_value_47 : decode b_M_value 47 = .ok (.iload_n 1, 1) := by decide +kernel
theorem d_M_value_48 : decode b_M_value 48 = .ok (.invokevirtual 220, 3) := by decide +kernel
theorem d_M_value_51 : decode b_M_value 51 = .ok (.ireturn, 1) := by decide +kernel
theorem d_M_step_0 : decode b_M_step 0 = .ok (.aload_n 0, 1) := by decide +kernel
theorem d_M_step_1 : decode b_M_step 1 = .ok (.iconst 0, 1) := by decide +kernel
theorem d_M_step_2 : decode b_M_step 2 = .ok (.putfield 85, 3) := by decide +kernel
theorem d_M_step_5 : decode b_M_step 5 = .ok (.aload_n 0, 1) := by decide +kernel
theorem d_M_step_6 : decode b_M_step 6 = .ok (.iload_n 1, 1) := by decide +kernel
theorem d_M_step_7 : decode b_M_step 7 = .ok (.invokevirtual 223, 3) := by decide +kernel
theorem d_M_step_10 : decode b_M_step 10 = .ok (.iconst 0, 1) := by decide +kernel
theorem d_M_step_11 : decode b_M_step 11 = .ok (.istore_n 2, 1) := by decide +kernel
theorem d_M_step_12 : decode b_M_step 12 = .ok (.iconst 0, 1) := by decide +kernel
theorem d_M_step_13 : decode b_M_step 13 = .ok (.istore_n 3, 1) := by decide +kernel
theorem d_M_step_14 : decode b_M_step 14 = .ok (.iconst 0, 1) := by decide +kernel
theorem d_M_step_15 : decode b_M_step 15 = .ok (.istore 4, 2) := by decide +kernel
theorem d_M_step_17 : decode b_M_step 17 = .ok (.iload 4, 2) := by decide +kernel
theorem d_M_step_19 : decode b_M_step 19 = .ok (.aload_n 0, 1) := by decide +kernel
theorem d_M_step_20 : decode b_M_step 20 = .ok (.getfield 20, 3) := by decide +kernel
theorem d_M_step_23 : decode b_M_step 23 = .ok (.iconst 3, 1) := by decide +kernel
theorem d_M_step_24 : decode b_M_step 24 = .ok (.iaload, 1) := by decide +kernel
theorem d_M_step_25 : decode b_M_step 25 = .ok (.if_icmp .ge 26, 3) := by decide +kernel
theorem d_M_step_28 : decode b_M_step 28 = .ok (.iload_n 2, 1) := by decide +kernel
theorem d_M_step_29 : decode b_M_step 29 = .ok (.aload_n 0, 1) := by decide +kernel
theorem d_M_step_30 : decode b_M_step 30 = .ok (.aload_n 0, 1) := by decide +kernel
theorem d_M_step_31 : decode b_M_step 31 = .ok (.getfield 33, 3) := by decide +kernel
theorem d_M_step_34 : decode b_M_step 34 = .ok (.iload 4, 2) := by decide +kernel
theorem d_M_step_36 : decode b_M_step 36 = .ok (.iaload, 1) := by decide +kernel
theorem d_M_step_37 : decode b_M_step 37 = .ok (.invokevirtual 220, 3) := by decide +kernel
theorem d_M_step_40 : decode b_M_step 40 = .ok (.iload 4, 2) := by decide +kernel
theorem d_M_step_42 : decode b_M_step 42 = .ok (.ishl, 1) := by decide +kernel
theorem d_M_step_43 : decode b_M_step 43 = .ok (.ior, 1) := by decide +kernel
theorem d_M_step_44 : decode b_M_step 44 = .ok (.istore_n 2, 1) := by decide +kernel
theorem d_M_step_45 : decode b_M_step 45 = .ok (.iinc 4 1, 3) := by decide +kernel
theorem d_M_step_48 : decode b_M_step 48 = .ok (.goto (-31), 3) := by decide +kernel
theorem d_M_step_51 : decode b_M_step 51 = .ok (.iconst 0, 1) := by decide +kernel
theorem d_M_step_52 : decode b_M_step 52 = .ok (.istore 4, 2) := by decide +kernel
theorem d_M_step_54 : decode b_M_step 54 = .ok (.iload 4, 2) := by decide +kernel
theorem d_M_step_56 : decode b_M_step 56 = .ok (.aload_n 0, 1) := by decide +kernel
theorem d_M_step_57 : decode b_M_step 57 = .ok (.getfield 20, 3) := by decide +kernel
theorem d_M_step_60 : decode b_M_step 60 = .ok (.iconst 2, 1) := by decide +kernel
theorem d_M_step_61 : decode b_M_step 61 = .ok (.iaload, 1) := by decide +kernel
theorem d_M_step_62 : decode b_M_step 62 = .ok (.if_icmp .ge 26, 3) := by decide +kernel
theorem d_M_step_65 : decode b_M_step 65 = .ok (.iload_n 3, 1) := by decide +kernel
theorem d_M_step_66 : decode b_M_step 66 = .ok (.aload_n 0, 1) := by decide +kernel
theorem d_M_step_67 : decode b_M_step 67 = .ok (.aload_n 0, 1) := by decide +kernel
theorem d_M_step_68 : decode b_M_step 68 = .ok (.getfield 30, 3) := by decide +kernel
theorem d_M_step_71 : decode b_M_step 71 = .ok (.iload 4, 2) := by decide +kernel
theorem d_M_step_73 : decode b_M_step 73 = .ok (.iaload, 1) := by decide +kernel
theorem d_M_step_74 : decode b_M_step 74 = .ok (.invokevirtual 220, 3) := by decide +kernel
theorem d_M_step_77 : decode b_M_step 77 = .ok (.iload 4, 2) := by decide +kernel
theorem d_M_step_79 : decode b_M_step 79 = .ok (.ishl, 1) := by decide +kernel
theorem d_M_step_80 : decode b_M_step 80 = .ok (.ior, 1) := by decide +kernel
theorem d_M_step_81 : decode b_M_step 81 = .ok (.istore_n 3, 1) := by decide +kernel
theorem d_M_step_82 : decode b_M_step 82 = .ok (.iinc 4 1, 3) := by decide +kernel
theorem d_M_step_85 : decode b_M_step 85 = .ok (.goto (-31), 3) := by decide +kernel
theorem d_M_step_88 : decode b_M_step 88 = .ok (.aload_n 0, 1) := by decide +kernel
theorem d_M_step_89 : decode b_M_step 89 = .ok (.iload_n 3, 1) := by decide +kernel
theorem d_M_step_90 : decode b_M_step 90 = .ok (.putfield 158, 3) := by decide +kernel
theorem d_M_step_93 : decode b_M_step 93 = .ok (.iload_n 2, 1) := by decide +kernel
theorem d_M_step_94 : decode b_M_step 94 = .ok (.ireturn, 1) := by decide +kernel
