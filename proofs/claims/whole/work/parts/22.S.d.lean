theorem d_S_awaitAnds_0 : decode b_S_awaitAnds 0 = .ok (.iconst 0, 1) := by decide +kernel
theorem d_S_awaitAnds_1 : decode b_S_awaitAnds 1 = .ok (.istore_n 2, 1) := by decide +kernel
theorem d_S_awaitAnds_2 : decode b_S_awaitAnds 2 = .ok (.iload_n 2, 1) := by decide +kernel
theorem d_S_awaitAnds_3 : decode b_S_awaitAnds 3 = .ok (.sipush 400, 3) := by decide +kernel
theorem d_S_awaitAnds_6 : decode b_S_awaitAnds 6 = .ok (.if_icmp .gt 16, 3) := by decide +kernel
theorem d_S_awaitAnds_9 : decode b_S_awaitAnds 9 = .ok (.aload_n 0, 1) := by decide +kernel
theorem d_S_awaitAnds_10 : decode b_S_awaitAnds 10 = .ok (.getfield 9, 3) := by decide +kernel
theorem d_S_awaitAnds_13 : decode b_S_awaitAnds 13 = .ok (.iload_n 2, 1) := by decide +kernel
theorem d_S_awaitAnds_14 : decode b_S_awaitAnds 14 = .ok (.iconst 1, 1) := by decide +kernel
theorem d_S_awaitAnds_15 : decode b_S_awaitAnds 15 = .ok (.bastore, 1) := by decide +kernel
theorem d_S_awaitAnds_16 : decode b_S_awaitAnds 16 = .ok (.iinc 2 1, 3) := by decide +kernel
theorem d_S_awaitAnds_19 : decode b_S_awaitAnds 19 = .ok (.goto (-17), 3) := by decide +kernel
theorem d_S_awaitAnds_22 : decode b_S_awaitAnds 22 = .ok (.iconst 0, 1) := by decide +kernel
theorem d_S_awaitAnds_23 : decode b_S_awaitAnds 23 = .ok (.istore_n 2, 1) := by decide +kernel
theorem d_S_awaitAnds_24 : decode b_S_awaitAnds 24 = .ok (.iload_n 2, 1) := by decide +kernel
theorem d_S_awaitAnds_25 : decode b_S_awaitAnds 25 = .ok (.aload_n 1, 1) := by decide +kernel
theorem d_S_awaitAnds_26 : decode b_S_awaitAnds 26 = .ok (.getfield 33, 3) := by decide +kernel
theorem d_S_awaitAnds_29 : decode b_S_awaitAnds 29 = .ok (.if_icmp .ge 33, 3) := by decide +kernel
theorem d_S_awaitAnds_32 : decode b_S_awaitAnds 32 = .ok (.aload_n 0, 1) := by decide +kernel
theorem d_S_awaitAnds_33 : decode b_S_awaitAnds 33 = .ok (.getfield 9, 3) := by decide +kernel
theorem d_S_awaitAnds_36 : decode b_S_awaitAnds 36 = .ok (.aload_n 1, 1) := by decide +kernel
theorem d_S_awaitAnds_37 : decode b_S_awaitAnds 37 = .ok (.getfield 38, 3) := by decide +kernel
theorem d_S_awaitAnds_40 : decode b_S_awaitAnds 40 = .ok (.iload_n 2, 1) := by decide +kernel
theorem d_S_awaitAnds_41 : decode b_S_awaitAnds 41 = .ok (.iaload, 1) := by decide +kernel
theorem d_S_awaitAnds_42 : decode b_S_awaitAnds 42 = .ok (.iconst 0, 1) := by decide +kernel
theorem d_S_awaitAnds_43 : decode b_S_awaitAnds 43 = .ok (.bastore, 1) := by decide +kernel
theorem d_S_awaitAnds_44 : decode b_S_awaitAnds 44 = .ok (.aload_n 0, 1) := by decide +kernel
theorem d_S_awaitAnds_45 : decode b_S_awaitAnds 45 = .ok (.getfield 18, 3) := by decide +kernel
theorem d_S_awaitAnds_48 : decode b_S_awaitAnds 48 = .ok (.aload_n 1, 1) := by decide +kernel
theorem d_S_awaitAnds_49 : decode b_S_awaitAnds 49 = .ok (.getfield 38, 3) := by decide +kernel
theorem d_S_awaitAnds_52 : decode b_S_awaitAnds 52 = .ok (.iload_n 2, 1) := by decide +kernel
theorem d_S_awaitAnds_53 : decode b_S_awaitAnds 53 = .ok (.iaload, 1) := by decide +kernel
theorem d_S_awaitAnds_54 : decode b_S_awaitAnds 54 = .ok (.iload_n 2, 1) := by decide +kernel
theorem d_S_awaitAnds_55 : decode b_S_awaitAnds 55 = .ok (.iastore, 1) := by decide +kernel
theorem d_S_awaitAnds_56 : decode b_S_awaitAnds 56 = .ok (.iinc 2 1, 3) := by decide +kernel
theorem d_S_awaitAnds_59 : decode b_S_awaitAnds 59 = .ok (.goto (-35), 3) := by decide +kernel
theorem d_S_awaitAnds_62 : decode b_S_awaitAnds 62 = .ok (.return_, 1) := by decide +kernel
theorem d_S_firstReady_0 : decode b_S_firstReady 0 = .ok (.iload_n 2, 1) := by decide +kernel
theorem d_S_firstReady_1 : decode b_S_firstReady 1 = .ok (.istore_n 3, 1) := by decide +kernel
theorem d_S_firstReady_2 : decode b_S_firstReady 2 = .ok (.iload_n 3, 1) := by decide +kernel
theorem d_S_firstReady_3 : decode b_S_firstReady 3 = .ok (.aload_n 1, 1) := by decide +kernel
theorem d_S_firstReady_4 : decode b_S_firstReady 4 = .ok (.getfield 33, 3) := by decide +kernel
theorem d_S_firstReady_7 : decode b_S_firstReady 7 = .ok (.if_icmp .ge 57, 3) := by decide +kernel
theorem d_S_firstReady_10 : decode b_S_firstReady 10 = .ok (.aload_n 0, 1) := by decide +kernel
theorem d_S_firstReady_11 : decode b_S_firstReady 11 = .ok (.getfield 9, 3) := by decide +kernel
theorem d_S_firstReady_14 : decode b_S_firstReady 14 = .ok (.aload_n 1, 1) := by decide +kernel
theorem d_S_firstReady_15 : decode b_S_firstReady 15 = .ok (.getfield 38, 3) := by decide +kernel
theorem d_S_firstReady_18 : decode b_S_firstReady 18 = .ok (.iload_n 3, 1) := by decide +kernel
theorem d_S_firstReady_19 : decode b_S_firstReady 19 = .ok (.iaload, 1) := by decide +kernel
theorem d_S_firstReady_20 : decode b_S_firstReady 20 = .ok (.baload, 1) := by decide +kernel
theorem d_S_firstReady_21 : decode b_S_firstReady 21 = .ok (.ifCond .ne 37, 3) := by decide +kernel
theorem d_S_firstReady_24 : decode b_S_firstReady 24 = .ok (.aload_n 0, 1) := by decide +kernel
theorem d_S_firstReady_25 : decode b_S_firstReady 25 = .ok (.getfield 9, 3) := by decide +kernel
theorem d_S_firstReady_28 : decode b_S_firstReady 28 = .ok (.aload_n 1, 1) := by decide +kernel
theorem d_S_firstReady_29 : decode b_S_firstReady 29 = .ok (.getfield 48, 3) := by decide +kernel
theorem d_S_firstReady_32 : decode b_S_firstReady 32 = .ok (.iload_n 3, 1) := by decide +kernel
theorem d_S_firstReady_33 : decode b_S_firstReady 33 = .ok (.iaload, 1) := by decide +kernel
theorem d_S_firstReady_34 : decode b_S_firstReady 34 = .ok (.iconst 1, 1) := by decide +kernel
theorem d_S_firstReady_35 : decode b_S_firstReady 35 = .ok (.ishr, 1) := by decide +kernel
theorem d_S_firstReady_36 : decode b_S_firstReady 36 = .ok (.baload, 1) := by decide +kernel
theorem d_S_firstReady_37 : decode b_S_firstReady 37 = .ok (.ifCond .eq 21, 3) := by decide +kernel
theorem d_S_firstReady_40 : decode b_S_firstReady 40 = .ok (.aload_n 0, 1) := by decide +kernel
theorem d_S_firstReady_41 : decode b_S_firstReady 41 = .ok (.getfield 9, 3) := by decide +kernel
theorem d_S_firstReady_44 : decode b_S_firstReady 44 = .ok (.aload_n 1, 1) := by decide +kernel
theorem d_S_firstReady_45 : decode b_S_firstReady 45 = .ok (.getfield 51, 3) := by decide +kernel
theorem d_S_firstReady_48 : decode b_S_firstReady 48 = .ok (.iload_n 3, 1) := by decide +kernel
theorem d_S_firstReady_49 : decode b_S_firstReady 49 = .ok (.iaload, 1) := by decide +kernel
theorem d_S_firstReady_50 : decode b_S_firstReady 50 = .ok (.iconst 1, 1) := by decide +kernel
theorem d_S_firstReady_51 : decode b_S_firstReady 51 = .ok (.ishr, 1) := by decide +kernel
theorem d_S_firstReady_52 : decode b_S_firstReady 52 = .ok (.baload, 1) := by decide +kernel
theorem d_S_firstReady_53 : decode b_S_firstReady 53 = .ok (.ifCond .eq 5, 3) := by decide +kernel
theorem d_S_firstReady_56 : decode b_S_firstReady 56 = .ok (.iload_n 3, 1) := by decide +kernel
theorem d_S_firstReady_57 : decode b_S_firstReady 57 = .ok (.ireturn, 1) := by decide +kernel
theorem d_S_firstReady_58 : decode b_S_firstReady 58 = .ok (.iinc 3 1, 3) := by decide +kernel
theorem d_S_firstReady_61 : decode b_S_firstReady 61 = .ok (.goto (-59), 3) := by decide +kernel
theorem d_S_firstReady_64 : decode b_S_firstReady 64 = .ok (.iconst (-1), 1) := by decide +kernel
theorem d_S_firstReady_65 : decode b_S_firstReady 65 = .ok (.ireturn, 1) := by decide +kernel
theorem d_S_putInOrder_0 : decode b_S_putInOrder 0 = .ok (.aload_n 0, 1) := by decide +kernel
theorem d_S_putInOrder_1 : decode b_S_putInOrder 1 = .ok (.aload_n 1, 1) := by decide +kernel
theorem d_S_putInOrder_2 : decode b_S_putInOrder 2 = .ok (.invokevirtual 29, 3) := by decide +kernel
theorem d_S_putInOrder_5 : decode b_S_putInOrder 5 = .ok (.iconst 0, 1) := by decide +kernel
theorem d_S_putInOrder_6 : decode b_S_putInOrder 6 = .ok (.istore_n 2, 1) := by decide +kernel
theorem d_S_putInOrder_7 : decode b_S_putInOrder 7 = .ok (.iconst 0, 1) := by decide +kernel
theorem d_S_putInOrder_8 : decode b_S_putInOrder 8 = .ok (.istore_n 3, 1) := by decide +kernel
theorem d_S_putInOrder_9 : decode b_S_putInOrder 9 = .ok (.iload_n 3, 1) := by decide +kernel
theorem d_S_putInOrder_10 : decode b_S_putInOrder 10 = .ok (.aload_n 1, 1) := by decide +kernel
theorem d_S_putInOrder_11 : decode b_S_putInOrder 11 = .ok (.getfield 33, 3) := by decide +kernel
theorem d_S_putInOrder_14 : decode b_S_putInOrder 14 = .ok (.if_icmp .ge 74, 3) := by decide +kernel
theorem d_S_putInOrder_17 : decode b_S_putInOrder 17 = .ok (.iload_n 2, 1) := by decide +kernel
theorem d_S_putInOrder_18 : decode b_S_putInOrder 18 = .ok (.aload_n 1, 1) := by decide +kernel
theorem d_S_putInOrder_19 : decode b_S_putInOrder 19 = .ok (.getfield 33, 3) := by decide +kernel
theorem d_S_putInOrder_22 : decode b_S_putInOrder 22 = .ok (.if_icmp .ge 23, 3) := by decide +kernel
theorem d_S_putInOrder_25 : decode b_S_putInOrder 25 = .ok (.aload_n 0, 1) := by decide +kernel
theorem d_S_putInOrder_26 : decode b_S_putInOrder 26 = .ok (.getfield 9, 3) := by decide +kernel
theorem d_S_putInOrder_29 : decode b_S_putInOrder 29 = .ok (.aload_n 1, 1) := by decide +kernel
theorem d_S_putInOrder_30 : decode b_S_putInOrder 30 = .ok (.getfield 38, 3) := by decide +kernel
theorem d_S_putInOrder_33 : decode b_S_putInOrder 33 = .ok (.iload_n 2, 1) := by decide +kernel
theorem d_S_putInOrder_34 : decode b_S_putInOrder 34 = .ok (.iaload, 1) := by decide +kernel
theorem d_S_putInOrder_35 : decode b_S_putInOrder 35 = .ok (.baload, 1) := by decide +kernel
theorem d_S_putInOrder_36 : decode b_S_putInOrder 36 = .ok (.ifCond .eq 9, 3) := by decide +kernel
theorem d_S_putInOrder_39 : decode b_S_putInOrder 39 = .ok (.iinc 2 1, 3) := by decide +kernel
theorem d_S_putInOrder_42 : decode b_S_putInOrder 42 = .ok (.goto (-25), 3) := by decide +kernel
theorem d_S_putInOrder_45 : decode b_S_putInOrder 45 = .ok (.aload_n 0, 1) := by decide +kernel
theorem d_S_putInOrder_46 : decode b_S_putInOrder 46 = .ok (.aload_n 1, 1) := by decide +kernel
theorem d_S_putInOrder_47 : decode b_S_putInOrder 47 = .ok (.iload_n 2, 1) := by decide +kernel
theorem d_S_putInOrder_48 : decode b_S_putInOrder 48 = .ok (.invokevirtual 41, 3) := by decide +kernel
theorem d_S_putInOrder_51 : decode b_S_putInOrder 51 = .ok (.istore 4, 2) := by decide +kernel
theorem d_S_putInOrder_53 : decode b_S_putInOrder 53 = .ok (.iload 4, 2) := by decide +kernel
theorem d_S_putInOrder_55 : decode b_S_putInOrder 55 = .ok (.iconst (-1), 1) := by decide +kernel
theorem d_S_putInOrder_56 : decode b_S_putInOrder 56 = .ok (.if_icmp .ne 5, 3) := by decide +kernel
theorem d_S_putInOrder_59 : decode b_S_putInOrder 59 = .ok (.iconst 0, 1) := by decide +kernel
theorem d_S_putInOrder_60 : decode b_S_putInOrder 60 = .ok (.ireturn, 1) := by decide +kernel
theorem d_S_putInOrder_61 : decode b_S_putInOrder 61 = .ok (.aload_n 1, 1) := by decide +kernel
theorem d_S_putInOrder_62 : decode b_S_putInOrder 62 = .ok (.getfield 45, 3) := by decide +kernel
theorem d_S_putInOrder_65 : decode b_S_putInOrder 65 = .ok (.iload_n 3, 1) := by decide +kernel
theorem d_S_putInOrder_66 : decode b_S_putInOrder 66 = .ok (.iload 4, 2) := by decide +kernel
theorem d_S_putInOrder_68 : decode b_S_putInOrder 68 = .ok (.iastore, 1) := by decide +kernel
theorem d_S_putInOrder_69 : decode b_S_putInOrder 69 = .ok (.aload_n 0, 1) := by decide +kernel
theorem d_S_putInOrder_70 : decode b_S_putInOrder 70 = .ok (.getfield 9, 3) := by decide +kernel
theorem d_S_putInOrder_73 : decode b_S_putInOrder 73 = .ok (.aload_n 1, 1) := by decide +kernel
theorem d_S_putInOrder_74 : decode b_S_putInOrder 74 = .ok (.getfield 38, 3) := by decide +kernel
theorem d_S_putInOrder_77 : decode b_S_putInOrder 77 = .ok (.iload 4, 2) := by decide +kernel
theorem d_S_putInOrder_79 : decode b_S_putInOrder 79 = .ok (.iaload, 1) := by decide +kernel
theorem d_S_putInOrder_80 : decode b_S_putInOrder 80 = .ok (.iconst 1, 1) := by decide +kernel
theorem d_S_putInOrder_81 : decode b_S_putInOrder 81 = .ok (.bastore, 1) := by decide +kernel
theorem d_S_putInOrder_82 : decode b_S_putInOrder 82 = .ok (.iinc 3 1, 3) := by decide +kernel
theorem d_S_putInOrder_85 : decode b_S_putInOrder 85 = .ok (.goto (-76), 3) := by decide +kernel
theorem d_S_putInOrder_88 : decode b_S_putInOrder 88 = .ok (.iconst 1, 1) := by decide +kernel
theorem d_S_putInOrder_89 : decode b_S_putInOrder 89 = .ok (.ireturn, 1) := by decide +kernel
theorem d_S_reach_0 : decode b_S_reach 0 = .ok (.aload_n 0, 1) := by decide +kernel
theorem d_S_reach_1 : decode b_S_reach 1 = .ok (.getfield 9, 3) := by decide +kernel
theorem d_S_reach_4 : decode b_S_reach 4 = .ok (.iload_n 1, 1) := by decide +kernel
theorem d_S_reach_5 : decode b_S_reach 5 = .ok (.baload, 1) := by decide +kernel
theorem d_S_reach_6 : decode b_S_reach 6 = .ok (.ifCond .ne 51, 3) := by decide +kernel
theorem d_S_reach_9 : decode b_S_reach 9 = .ok (.aload_n 0, 1) := by decide +kernel
theorem d_S_reach_10 : decode b_S_reach 10 = .ok (.getfield 15, 3) := by decide +kernel
theorem d_S_reach_13 : decode b_S_reach 13 = .ok (.iload_n 1, 1) := by decide +kernel
theorem d_S_reach_14 : decode b_S_reach 14 = .ok (.baload, 1) := by decide +kernel
theorem d_S_reach_15 : decode b_S_reach 15 = .ok (.ifCond .ne 42, 3) := by decide +kernel
theorem d_S_reach_18 : decode b_S_reach 18 = .ok (.aload_n 0, 1) := by decide +kernel
theorem d_S_reach_19 : decode b_S_reach 19 = .ok (.getfield 25, 3) := by decide +kernel
theorem d_S_reach_22 : decode b_S_reach 22 = .ok (.aload_n 0, 1) := by decide +kernel
theorem d_S_reach_23 : decode b_S_reach 23 = .ok (.getfield 22, 3) := by decide +kernel
theorem d_S_reach_26 : decode b_S_reach 26 = .ok (.arraylength, 1) := by decide +kernel
theorem d_S_reach_27 : decode b_S_reach 27 = .ok (.if_icmp .ge 30, 3) := by decide +kernel
theorem d_S_reach_30 : decode b_S_reach 30 = .ok (.aload_n 0, 1) := by decide +kernel
theorem d_S_reach_31 : decode b_S_reach 31 = .ok (.getfield 15, 3) := by decide +kernel
theorem d_S_reach_34 : decode b_S_reach 34 = .ok (.iload_n 1, 1) := by decide +kernel
theorem d_S_reach_35 : decode b_S_reach 35 = .ok (.iconst 1, 1) := by decide +kernel
theorem d_S_reach_36 : decode b_S_reach 36 = .ok (.bastore, 1) := by decide +kernel
theorem d_S_reach_37 : decode b_S_reach 37 = .ok (.aload_n 0, 1) := by decide +kernel
theorem d_S_reach_38 : decode b_S_reach 38 = .ok (.getfield 22, 3) := by decide +kernel
theorem d_S_reach_41 : decode b_S_reach 41 = .ok (.aload_n 0, 1) := by decide +kernel
theorem d_S_reach_42 : decode b_S_reach 42 = .ok (.getfield 25, 3) := by decide +kernel
theorem d_S_reach_45 : decode b_S_reach 45 = .ok (.iload_n 1, 1) := by decide +kernel
theorem d_S_reach_46 : decode b_S_reach 46 = .ok (.iastore, 1) := by decide +kernel
theorem d_S_reach_47 : decode b_S_reach 47 = .ok (.aload_n 0, 1) := by decide +kernel
theorem d_S_reach_48 : decode b_S_reach 48 = .ok (.dup, 1) := by decide +kernel
theorem d_S_reach_49 : decode b_S_reach 49 = .ok (.getfield 25, 3) := by decide +kernel
theorem d_S_reach_52 : decode b_S_reach 52 = .ok (.iconst 1, 1) := by decide +kernel
theorem d_S_reach_53 : decode b_S_reach 53 = .ok (.iadd, 1) := by decide +kernel
theorem d_S_reach_54 : decode b_S_reach 54 = .ok (.putfield 25, 3) := by decide +kernel
theorem d_S_reach_57 : decode b_S_reach 57 = .ok (.return_, 1) := by decide +kernel
theorem d_S_reachesItself_0 : decode b_S_reachesItself 0 = .ok (.iconst 0, 1) := by decide +kernel
theorem d_S_reachesItself_1 : decode b_S_reachesItself 1 = .ok (.istore_n 3, 1) := by decide +kernel
theorem d_S_reachesItself_2 : decode b_S_reachesItself 2 = .ok (.iload_n 3, 1) := by decide +kernel
theorem d_S_reachesItself_3 : decode b_S_reachesItself 3 = .ok (.sipush 400, 3) := by decide +kernel
theorem d_S_reachesItself_6 : decode b_S_reachesItself 6 = .ok (.if_icmp .gt 16, 3) := by decide +kernel
theorem d_S_reachesItself_9 : decode b_S_reachesItself 9 = .ok (.aload_n 0, 1) := by decide +kernel
theorem d_S_reachesItself_10 : decode b_S_reachesItself 10 = .ok (.getfield 15, 3) := by decide +kernel
theorem d_S_reachesItself_13 : decode b_S_reachesItself 13 = .ok (.iload_n 3, 1) := by decide +kernel
theorem d_S_reachesItself_14 : decode b_S_reachesItself 14 = .ok (.iconst 0, 1) := by decide +kernel
theorem d_S_reachesItself_15 : decode b_S_reachesItself 15 = .ok (.bastore, 1) := by decide +kernel
theorem d_S_reachesItself_16 : decode b_S_reachesItself 16 = .ok (.iinc 3 1, 3) := by decide +kernel
theorem d_S_reachesItself_19 : decode b_S_reachesItself 19 = .ok (.goto (-17), 3) := by decide +kernel
theorem d_S_reachesItself_22 : decode b_S_reachesItself 22 = .ok (.aload_n 0, 1) := by decide +kernel
theorem d_S_reachesItself_23 : decode b_S_reachesItself 23 = .ok (.getfield 22, 3) := by decide +kernel
theorem d_S_reachesItself_26 : decode b_S_reachesItself 26 = .ok (.iconst 0, 1) := by decide +kernel
theorem d_S_reachesItself_27 : decode b_S_reachesItself 27 = .ok (.iload_n 2, 1) := by decide +kernel
theorem d_S_reachesItself_28 : decode b_S_reachesItself 28 = .ok (.iastore, 1) := by decide +kernel
theorem d_S_reachesItself_29 : decode b_S_reachesItself 29 = .ok (.aload_n 0, 1) := by decide +kernel
theorem d_S_reachesItself_30 : decode b_S_reachesItself 30 = .ok (.iconst 1, 1) := by decide +kernel
theorem d_S_reachesItself_31 : decode b_S_reachesItself 31 = .ok (.putfield 25, 3) := by decide +kernel
theorem d_S_reachesItself_34 : decode b_S_reachesItself 34 = .ok (.iconst 0, 1) := by decide +kernel
theorem d_S_reachesItself_35 : decode b_S_reachesItself 35 = .ok (.istore_n 3, 1) := by decide +kernel
theorem d_S_reachesItself_36 : decode b_S_reachesItself 36 = .ok (.aload_n 0, 1) := by decide +kernel
theorem d_S_reachesItself_37 : decode b_S_reachesItself 37 = .ok (.getfield 25, 3) := by decide +kernel
theorem d_S_reachesItself_40 : decode b_S_reachesItself 40 = .ok (.ifCond .le 68, 3) := by decide +kernel
theorem d_S_reachesItself_43 : decode b_S_reachesItself 43 = .ok (.iload_n 3, 1) := by decide +kernel
theorem d_S_reachesItself_44 : decode b_S_reachesItself 44 = .ok (.sipush 300, 3) := by decide +kernel
theorem d_S_reachesItself_47 : decode b_S_reachesItself 47 = .ok (.if_icmp .gt 61, 3) := by decide +kernel
theorem d_S_reachesItself_50 : decode b_S_reachesItself 50 = .ok (.aload_n 0, 1) := by decide +kernel
theorem d_S_reachesItself_51 : decode b_S_reachesItself 51 = .ok (.dup, 1) := by decide +kernel
theorem d_S_reachesItself_52 : decode b_S_reachesItself 52 = .ok (.getfield 25, 3) := by decide +kernel
theorem d_S_reachesItself_55 : decode b_S_reachesItself 55 = .ok (.iconst 1, 1) := by decide +kernel
theorem d_S_reachesItself_56 : decode b_S_reachesItself 56 = .ok (.isub, 1) := by decide +kernel
theorem d_S_reachesItself_57 : decode b_S_reachesItself 57 = .ok (.putfield 25, 3) := by decide +kernel
theorem d_S_reachesItself_60 : decode b_S_reachesItself 60 = .ok (.aload_n 0, 1) := by decide +kernel
theorem d_S_reachesItself_61 : decode b_S_reachesItself 61 = .ok (.getfield 18, 3) := by decide +kernel
theorem d_S_reachesItself_64 : decode b_S_reachesItself 64 = .ok (.aload_n 0, 1) := by decide +kernel
theorem d_S_reachesItself_65 : decode b_S_reachesItself 65 = .ok (.getfield 22, 3) := by decide +kernel
theorem d_S_reachesItself_68 : decode b_S_reachesItself 68 = .ok (.aload_n 0, 1) := by decide +kernel
theorem d_S_reachesItself_69 : decode b_S_reachesItself 69 = .ok (.getfield 25, 3) := by decide +kernel
theorem d_S_reachesItself_72 : decode b_S_reachesItself 72 = .ok (.iaload, 1) := by decide +kernel
theorem d_S_reachesItself_73 : decode b_S_reachesItself 73 = .ok (.iaload, 1) := by decide +kernel
theorem d_S_reachesItself_74 : decode b_S_reachesItself 74 = .ok (.istore 4, 2) := by decide +kernel
theorem d_S_reachesItself_76 : decode b_S_reachesItself 76 = .ok (.aload_n 0, 1) := by decide +kernel
theorem d_S_reachesItself_77 : decode b_S_reachesItself 77 = .ok (.aload_n 1, 1) := by decide +kernel
theorem d_S_reachesItself_78 : decode b_S_reachesItself 78 = .ok (.getfield 48, 3) := by decide +kernel
theorem d_S_reachesItself_81 : decode b_S_reachesItself 81 = .ok (.iload 4, 2) := by decide +kernel
theorem d_S_reachesItself_83 : decode b_S_reachesItself 83 = .ok (.iaload, 1) := by decide +kernel
theorem d_S_reachesItself_84 : decode b_S_reachesItself 84 = .ok (.iconst 1, 1) := by decide +kernel
theorem d_S_reachesItself_85 : decode b_S_reachesItself 85 = .ok (.ishr, 1) := by decide +kernel
theorem d_S_reachesItself_86 : decode b_S_reachesItself 86 = .ok (.invokevirtual 61, 3) := by decide +kernel
theorem d_S_reachesItself_89 : decode b_S_reachesItself 89 = .ok (.aload_n 0, 1) := by decide +kernel
theorem d_S_reachesItself_90 : decode b_S_reachesItself 90 = .ok (.aload_n 1, 1) := by decide +kernel
theorem d_S_reachesItself_91 : decode b_S_reachesItself 91 = .ok (.getfield 51, 3) := by decide +kernel
theorem d_S_reachesItself_94 : decode b_S_reachesItself 94 = .ok (.iload 4, 2) := by decide +kernel
theorem d_S_reachesItself_96 : decode b_S_reachesItself 96 = .ok (.iaload, 1) := by decide +kernel
theorem d_S_reachesItself_97 : decode b_S_reachesItself 97 = .ok (.iconst 1, 1) := by decide +kernel
theorem d_S_reachesItself_98 : decode b_S_reachesItself 98 = .ok (.ishr, 1) := by decide +kernel
theorem d_S_reachesItself_99 : decode b_S_reachesItself 99 = .ok (.invokevirtual 61, 3) := by decide +kernel
theorem d_S_reachesItself_102 : decode b_S_reachesItself 102 = .ok (.iinc 3 1, 3) := by decide +kernel
theorem d_S_reachesItself_105 : decode b_S_reachesItself 105 = .ok (.goto (-69), 3) := by decide +kernel
theorem d_S_reachesItself_108 : decode b_S_reachesItself 108 = .ok (.aload_n 0, 1) := by decide +kernel
theorem d_S_reachesItself_109 : decode b_S_reachesItself 109 = .ok (.getfield 15, 3) := by decide +kernel
theorem d_S_reachesItself_112 : decode b_S_reachesItself 112 = .ok (.iload_n 2, 1) := by decide +kernel
theorem d_S_reachesItself_113 : decode b_S_reachesItself 113 = .ok (.baload, 1) := by decide +kernel
theorem d_S_reachesItself_114 : decode b_S_reachesItself 114 = .ok (.ireturn, 1) := by decide +kernel
theorem d_S_lowestOnLoop_0 : decode b_S_lowestOnLoop 0 = .ok (.iconst 1, 1) := by decide +kernel
theorem d_S_lowestOnLoop_1 : decode b_S_lowestOnLoop 1 = .ok (.istore_n 2, 1) := by decide +kernel
theorem d_S_lowestOnLoop_2 : decode b_S_lowestOnLoop 2 = .ok (.iload_n 2, 1) := by decide +kernel
theorem d_S_lowestOnLoop_3 : decode b_S_lowestOnLoop 3 = .ok (.aload_n 1, 1) := by decide +kernel
theorem d_S_lowestOnLoop_4 : decode b_S_lowestOnLoop 4 = .ok (.getfield 54, 3) := by decide +kernel
theorem d_S_lowestOnLoop_7 : decode b_S_lowestOnLoop 7 = .ok (.if_icmp .gt 29, 3) := by decide +kernel
theorem d_S_lowestOnLoop_10 : decode b_S_lowestOnLoop 10 = .ok (.aload_n 0, 1) := by decide +kernel
theorem d_S_lowestOnLoop_11 : decode b_S_lowestOnLoop 11 = .ok (.getfield 9, 3) := by decide +kernel
theorem d_S_lowestOnLoop_14 : decode b_S_lowestOnLoop 14 = .ok (.iload_n 2, 1) := by decide +kernel
theorem d_S_lowestOnLoop_15 : decode b_S_lowestOnLoop 15 = .ok (.baload, 1) := by decide +kernel
theorem d_S_lowestOnLoop_16 : decode b_S_lowestOnLoop 16 = .ok (.ifCond .ne 14, 3) := by decide +kernel
theorem d_S_lowestOnLoop_19 : decode b_S_lowestOnLoop 19 = .ok (.aload_n 0, 1) := by decide +kernel
theorem d_S_lowestOnLoop_20 : decode b_S_lowestOnLoop 20 = .ok (.aload_n 1, 1) := by decide +kernel
theorem d_S_lowestOnLoop_21 : decode b_S_lowestOnLoop 21 = .ok (.iload_n 2, 1) := by decide +kernel
theorem d_S_lowestOnLoop_22 : decode b_S_lowestOnLoop 22 = .ok (.invokevirtual 57, 3) := by decide +kernel
theorem d_S_lowestOnLoop_25 : decode b_S_lowestOnLoop 25 = .ok (.ifCond .eq 5, 3) := by decide +kernel
theorem d_S_lowestOnLoop_28 : decode b_S_lowestOnLoop 28 = .ok (.iload_n 2, 1) := by decide +kernel
theorem d_S_lowestOnLoop_29 : decode b_S_lowestOnLoop 29 = .ok (.ireturn, 1) := by decide +kernel
theorem d_S_lowestOnLoop_30 : decode b_S_lowestOnLoop 30 = .ok (.iinc 2 1, 3) := by decide +kernel
theorem d_S_lowestOnLoop_33 : decode b_S_lowestOnLoop 33 = .ok (.goto (-31), 3) := by decide +kernel
theorem d_S_lowestOnLoop_36 : decode b_S_lowestOnLoop 36 = .ok (.iconst (-1), 1) := by decide +kernel
theorem d_S_lowestOnLoop_37 : decode b_S_lowestOnLoop 37 = .ok (.ireturn, 1) := by decide +kernel
