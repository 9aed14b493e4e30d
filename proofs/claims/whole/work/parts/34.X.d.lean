theorem d_X_forget_0 : decode b_X_forget 0 = .ok (.aload_n 0, 1) := by decide +kernel
theorem d_X_forget_1 : decode b_X_forget 1 = .ok (.iconst 0, 1) := by decide +kernel
theorem d_X_forget_2 : decode b_X_forget 2 = .ok (.putfield 18, 3) := by decide +kernel
theorem d_X_forget_5 : decode b_X_forget 5 = .ok (.aload_n 0, 1) := by decide +kernel
theorem d_X_forget_6 : decode b_X_forget 6 = .ok (.iconst 0, 1) := by decide +kernel
theorem d_X_forget_7 : decode b_X_forget 7 = .ok (.putfield 22, 3) := by decide +kernel
theorem d_X_forget_10 : decode b_X_forget 10 = .ok (.return_, 1) := by decide +kernel
theorem d_X_put_0 : decode b_X_put 0 = .ok (.aload_n 0, 1) := by decide +kernel
theorem d_X_put_1 : decode b_X_put 1 = .ok (.getfield 18, 3) := by decide +kernel
theorem d_X_put_4 : decode b_X_put 4 = .ok (.sipush 4654, 3) := by decide +kernel
theorem d_X_put_7 : decode b_X_put 7 = .ok (.if_icmp .ge 23, 3) := by decide +kernel
theorem d_X_put_10 : decode b_X_put 10 = .ok (.aload_n 0, 1) := by decide +kernel
theorem d_X_put_11 : decode b_X_put 11 = .ok (.getfield 11, 3) := by decide +kernel
theorem d_X_put_14 : decode b_X_put 14 = .ok (.aload_n 0, 1) := by decide +kernel
theorem d_X_put_15 : decode b_X_put 15 = .ok (.getfield 18, 3) := by decide +kernel
theorem d_X_put_18 : decode b_X_put 18 = .ok (.iload_n 1, 1) := by decide +kernel
theorem d_X_put_19 : decode b_X_put 19 = .ok (.iastore, 1) := by decide +kernel
theorem d_X_put_20 : decode b_X_put 20 = .ok (.aload_n 0, 1) := by decide +kernel
theorem d_X_put_21 : decode b_X_put 21 = .ok (.dup, 1) := by decide +kernel
theorem d_X_put_22 : decode b_X_put 22 = .ok (.getfield 18, 3) := by decide +kernel
theorem d_X_put_25 : decode b_X_put 25 = .ok (.iconst 1, 1) := by decide +kernel
theorem d_X_put_26 : decode b_X_put 26 = .ok (.iadd, 1) := by decide +kernel
theorem d_X_put_27 : decode b_X_put 27 = .ok (.putfield 18, 3) := by decide +kernel
theorem d_X_put_30 : decode b_X_put 30 = .ok (.return_, 1) := by decide +kernel
theorem d_X_putNumber_0 : decode b_X_putNumber 0 = .ok (.iload_n 1, 1) := by decide +kernel
theorem d_X_putNumber_1 : decode b_X_putNumber 1 = .ok (.bipush 100, 2) := by decide +kernel
theorem d_X_putNumber_3 : decode b_X_putNumber 3 = .ok (.if_icmp .lt 14, 3) := by decide +kernel
theorem d_X_putNumber_6 : decode b_X_putNumber 6 = .ok (.aload_n 0, 1) := by decide +kernel
theorem d_X_putNumber_7 : decode b_X_putNumber 7 = .ok (.bipush 48, 2) := by decide +kernel
theorem d_X_putNumber_9 : decode b_X_putNumber 9 = .ok (.iload_n 1, 1) := by decide +kernel
theorem d_X_putNumber_10 : decode b_X_putNumber 10 = .ok (.bipush 100, 2) := by decide +kernel
theorem d_X_putNumber_12 : decode b_X_putNumber 12 = .ok (.idiv, 1) := by decide +kernel
theorem d_X_putNumber_13 : decode b_X_putNumber 13 = .ok (.iadd, 1) := by decide +kernel
theorem d_X_putNumber_14 : decode b_X_putNumber 14 = .ok (.invokevirtual 90, 3) := by decide +kernel
theorem d_X_putNumber_17 : decode b_X_putNumber 17 = .ok (.iload_n 1, 1) := by decide +kernel
theorem d_X_putNumber_18 : decode b_X_putNumber 18 = .ok (.bipush 10, 2) := by decide +kernel
theorem d_X_putNumber_20 : decode b_X_putNumber 20 = .ok (.if_icmp .lt 17, 3) := by decide +kernel
theorem d_X_putNumber_23 : decode b_X_putNumber 23 = .ok (.aload_n 0, 1) := by decide +kernel
theorem d_X_putNumber_24 : decode b_X_putNumber 24 = .ok (.bipush 48, 2) := by decide +kernel
theorem d_X_putNumber_26 : decode b_X_putNumber 26 = .ok (.iload_n 1, 1) := by decide +kernel
theorem d_X_putNumber_27 : decode b_X_putNumber 27 = .ok (.bipush 10, 2) := by decide +kernel
theorem d_X_putNumber_29 : decode b_X_putNumber 29 = .ok (.idiv, 1) := by decide +kernel
theorem d_X_putNumber_30 : decode b_X_putNumber 30 = .ok (.bipush 10, 2) := by decide +kernel
theorem d_X_putNumber_32 : decode b_X_putNumber 32 = .ok (.irem, 1) := by decide +kernel
theorem d_X_putNumber_33 : decode b_X_putNumber 33 = .ok (.iadd, 1) := by decide +kernel
theorem d_X_putNumber_34 : decode b_X_putNumber 34 = .ok (.invokevirtual 90, 3) := by decide +kernel
theorem d_X_putNumber_37 : decode b_X_putNumber 37 = .ok (.aload_n 0, 1) := by decide +kernel
theorem d_X_putNumber_38 : decode b_X_putNumber 38 = .ok (.bipush 48, 2) := by decide +kernel
theorem d_X_putNumber_40 : decode b_X_putNumber 40 = .ok (.iload_n 1, 1) := by decide +kernel
theorem d_X_putNumber_41 : decode b_X_putNumber 41 = .ok (.bipush 10, 2) := by decide +kernel
theorem d_X_putNumber_43 : decode b_X_putNumber 43 = .ok (.irem, 1) := by decide +kernel
theorem d_X_putNumber_44 : decode b_X_putNumber 44 = .ok (.iadd, 1) := by decide +kernel
theorem d_X_putNumber_45 : decode b_X_putNumber 45 = .ok (.invokevirtual 90, 3) := by decide +kernel
theorem d_X_putNumber_48 : decode b_X_putNumber 48 = .ok (.aload_n 0, 1) := by decide +kernel
theorem d_X_putNumber_49 : decode b_X_putNumber 49 = .ok (.iload_n 2, 1) := by decide +kernel
theorem d_X_putNumber_50 : decode b_X_putNumber 50 = .ok (.invokevirtual 90, 3) := by decide +kernel
theorem d_X_putNumber_53 : decode b_X_putNumber 53 = .ok (.return_, 1) := by decide +kernel
theorem d_X_putHeader_0 : decode b_X_putHeader 0 = .ok (.aload_n 0, 1) := by decide +kernel
theorem d_X_putHeader_1 : decode b_X_putHeader 1 = .ok (.bipush 97, 2) := by decide +kernel
theorem d_X_putHeader_3 : decode b_X_putHeader 3 = .ok (.invokevirtual 90, 3) := by decide +kernel
theorem d_X_putHeader_6 : decode b_X_putHeader 6 = .ok (.aload_n 0, 1) := by decide +kernel
theorem d_X_putHeader_7 : decode b_X_putHeader 7 = .ok (.iload_n 2, 1) := by decide +kernel
theorem d_X_putHeader_8 : decode b_X_putHeader 8 = .ok (.invokevirtual 90, 3) := by decide +kernel
theorem d_X_putHeader_11 : decode b_X_putHeader 11 = .ok (.aload_n 0, 1) := by decide +kernel
theorem d_X_putHeader_12 : decode b_X_putHeader 12 = .ok (.bipush 103, 2) := by decide +kernel
theorem d_X_putHeader_14 : decode b_X_putHeader 14 = .ok (.invokevirtual 90, 3) := by decide +kernel
theorem d_X_putHeader_17 : decode b_X_putHeader 17 = .ok (.aload_n 0, 1) := by decide +kernel
theorem d_X_putHeader_18 : decode b_X_putHeader 18 = .ok (.bipush 32, 2) := by decide +kernel
theorem d_X_putHeader_20 : decode b_X_putHeader 20 = .ok (.invokevirtual 90, 3) := by decide +kernel
theorem d_X_putHeader_23 : decode b_X_putHeader 23 = .ok (.aload_n 0, 1) := by decide +kernel
theorem d_X_putHeader_24 : decode b_X_putHeader 24 = .ok (.iload_n 3, 1) := by decide +kernel
theorem d_X_putHeader_25 : decode b_X_putHeader 25 = .ok (.bipush 32, 2) := by decide +kernel
theorem d_X_putHeader_27 : decode b_X_putHeader 27 = .ok (.invokevirtual 41, 3) := by decide +kernel
theorem d_X_putHeader_30 : decode b_X_putHeader 30 = .ok (.aload_n 0, 1) := by decide +kernel
theorem d_X_putHeader_31 : decode b_X_putHeader 31 = .ok (.aload_n 1, 1) := by decide +kernel
theorem d_X_putHeader_32 : decode b_X_putHeader 32 = .ok (.getfield 35, 3) := by decide +kernel
theorem d_X_putHeader_35 : decode b_X_putHeader 35 = .ok (.bipush 32, 2) := by decide +kernel
theorem d_X_putHeader_37 : decode b_X_putHeader 37 = .ok (.invokevirtual 41, 3) := by decide +kernel
theorem d_X_putHeader_40 : decode b_X_putHeader 40 = .ok (.aload_n 0, 1) := by decide +kernel
theorem d_X_putHeader_41 : decode b_X_putHeader 41 = .ok (.aload_n 1, 1) := by decide +kernel
theorem d_X_putHeader_42 : decode b_X_putHeader 42 = .ok (.getfield 45, 3) := by decide +kernel
theorem d_X_putHeader_45 : decode b_X_putHeader 45 = .ok (.bipush 32, 2) := by decide +kernel
theorem d_X_putHeader_47 : decode b_X_putHeader 47 = .ok (.invokevirtual 41, 3) := by decide +kernel
theorem d_X_putHeader_50 : decode b_X_putHeader 50 = .ok (.aload_n 0, 1) := by decide +kernel
theorem d_X_putHeader_51 : decode b_X_putHeader 51 = .ok (.aload_n 1, 1) := by decide +kernel
theorem d_X_putHeader_52 : decode b_X_putHeader 52 = .ok (.getfield 54, 3) := by decide +kernel
theorem d_X_putHeader_55 : decode b_X_putHeader 55 = .ok (.bipush 32, 2) := by decide +kernel
theorem d_X_putHeader_57 : decode b_X_putHeader 57 = .ok (.invokevirtual 41, 3) := by decide +kernel
theorem d_X_putHeader_60 : decode b_X_putHeader 60 = .ok (.aload_n 0, 1) := by decide +kernel
theorem d_X_putHeader_61 : decode b_X_putHeader 61 = .ok (.aload_n 1, 1) := by decide +kernel
theorem d_X_putHeader_62 : decode b_X_putHeader 62 = .ok (.getfield 60, 3) := by decide +kernel
theorem d_X_putHeader_65 : decode b_X_putHeader 65 = .ok (.bipush 10, 2) := by decide +kernel
theorem d_X_putHeader_67 : decode b_X_putHeader 67 = .ok (.invokevirtual 41, 3) := by decide +kernel
theorem d_X_putHeader_70 : decode b_X_putHeader 70 = .ok (.return_, 1) := by decide +kernel
theorem d_X_putName_0 : decode b_X_putName 0 = .ok (.iconst 0, 1) := by decide +kernel
theorem d_X_putName_1 : decode b_X_putName 1 = .ok (.istore_n 3, 1) := by decide +kernel
theorem d_X_putName_2 : decode b_X_putName 2 = .ok (.iload_n 3, 1) := by decide +kernel
theorem d_X_putName_3 : decode b_X_putName 3 = .ok (.aload_n 1, 1) := by decide +kernel
theorem d_X_putName_4 : decode b_X_putName 4 = .ok (.getfield 109, 3) := by decide +kernel
theorem d_X_putName_7 : decode b_X_putName 7 = .ok (.iload_n 2, 1) := by decide +kernel
theorem d_X_putName_8 : decode b_X_putName 8 = .ok (.iaload, 1) := by decide +kernel
theorem d_X_putName_9 : decode b_X_putName 9 = .ok (.if_icmp .ge 24, 3) := by decide +kernel
theorem d_X_putName_12 : decode b_X_putName 12 = .ok (.aload_n 0, 1) := by decide +kernel
theorem d_X_putName_13 : decode b_X_putName 13 = .ok (.aload_n 1, 1) := by decide +kernel
theorem d_X_putName_14 : decode b_X_putName 14 = .ok (.getfield 126, 3) := by decide +kernel
theorem d_X_putName_17 : decode b_X_putName 17 = .ok (.iload_n 2, 1) := by decide +kernel
theorem d_X_putName_18 : decode b_X_putName 18 = .ok (.bipush 40, 2) := by decide +kernel
theorem d_X_putName_20 : decode b_X_putName 20 = .ok (.imul, 1) := by decide +kernel
theorem d_X_putName_21 : decode b_X_putName 21 = .ok (.iload_n 3, 1) := by decide +kernel
theorem d_X_putName_22 : decode b_X_putName 22 = .ok (.iadd, 1) := by decide +kernel
theorem d_X_putName_23 : decode b_X_putName 23 = .ok (.iaload, 1) := by decide +kernel
theorem d_X_putName_24 : decode b_X_putName 24 = .ok (.invokevirtual 90, 3) := by decide +kernel
theorem d_X_putName_27 : decode b_X_putName 27 = .ok (.iinc 3 1, 3) := by decide +kernel
theorem d_X_putName_30 : decode b_X_putName 30 = .ok (.goto (-28), 3) := by decide +kernel
theorem d_X_putName_33 : decode b_X_putName 33 = .ok (.aload_n 0, 1) := by decide +kernel
theorem d_X_putName_34 : decode b_X_putName 34 = .ok (.bipush 10, 2) := by decide +kernel
theorem d_X_putName_36 : decode b_X_putName 36 = .ok (.invokevirtual 90, 3) := by decide +kernel
theorem d_X_putName_39 : decode b_X_putName 39 = .ok (.return_, 1) := by decide +kernel
theorem d_X_putSymbols_0 : decode b_X_putSymbols 0 = .ok (.iconst 0, 1) := by decide +kernel
theorem d_X_putSymbols_1 : decode b_X_putSymbols 1 = .ok (.istore_n 2, 1) := by decide +kernel
theorem d_X_putSymbols_2 : decode b_X_putSymbols 2 = .ok (.iload_n 2, 1) := by decide +kernel
theorem d_X_putSymbols_3 : decode b_X_putSymbols 3 = .ok (.iconst 3, 1) := by decide +kernel
theorem d_X_putSymbols_4 : decode b_X_putSymbols 4 = .ok (.if_icmp .ge 66, 3) := by decide +kernel
theorem d_X_putSymbols_7 : decode b_X_putSymbols 7 = .ok (.iconst 0, 1) := by decide +kernel
theorem d_X_putSymbols_8 : decode b_X_putSymbols 8 = .ok (.istore_n 3, 1) := by decide +kernel
theorem d_X_putSymbols_9 : decode b_X_putSymbols 9 = .ok (.iload_n 3, 1) := by decide +kernel
theorem d_X_putSymbols_10 : decode b_X_putSymbols 10 = .ok (.aload_n 1, 1) := by decide +kernel
theorem d_X_putSymbols_11 : decode b_X_putSymbols 11 = .ok (.iload_n 2, 1) := by decide +kernel
theorem d_X_putSymbols_12 : decode b_X_putSymbols 12 = .ok (.invokevirtual 106, 3) := by decide +kernel
theorem d_X_putSymbols_15 : decode b_X_putSymbols 15 = .ok (.if_icmp .ge 49, 3) := by decide +kernel
theorem d_X_putSymbols_18 : decode b_X_putSymbols 18 = .ok (.aload_n 1, 1) := by decide +kernel
theorem d_X_putSymbols_19 : decode b_X_putSymbols 19 = .ok (.getfield 109, 3) := by decide +kernel
theorem d_X_putSymbols_22 : decode b_X_putSymbols 22 = .ok (.iload_n 2, 1) := by decide +kernel
theorem d_X_putSymbols_23 : decode b_X_putSymbols 23 = .ok (.iload_n 3, 1) := by decide +kernel
theorem d_X_putSymbols_24 : decode b_X_putSymbols 24 = .ok (.invokestatic 112, 3) := by decide +kernel
theorem d_X_putSymbols_27 : decode b_X_putSymbols 27 = .ok (.iaload, 1) := by decide +kernel
theorem d_X_putSymbols_28 : decode b_X_putSymbols 28 = .ok (.ifCond .le 30, 3) := by decide +kernel
theorem d_X_putSymbols_31 : decode b_X_putSymbols 31 = .ok (.aload_n 0, 1) := by decide +kernel
theorem d_X_putSymbols_32 : decode b_X_putSymbols 32 = .ok (.ldc 115, 2) := by decide +kernel
theorem d_X_putSymbols_34 : decode b_X_putSymbols 34 = .ok (.iload_n 2, 1) := by decide +kernel
theorem d_X_putSymbols_35 : decode b_X_putSymbols 35 = .ok (.invokevirtual 117, 3) := by decide +kernel
theorem d_X_putSymbols_38 : decode b_X_putSymbols 38 = .ok (.invokevirtual 90, 3) := by decide +kernel
theorem d_X_putSymbols_41 : decode b_X_putSymbols 41 = .ok (.aload_n 0, 1) := by decide +kernel
theorem d_X_putSymbols_42 : decode b_X_putSymbols 42 = .ok (.iload_n 3, 1) := by decide +kernel
theorem d_X_putSymbols_43 : decode b_X_putSymbols 43 = .ok (.bipush 32, 2) := by decide +kernel
theorem d_X_putSymbols_45 : decode b_X_putSymbols 45 = .ok (.invokevirtual 41, 3) := by decide +kernel
theorem d_X_putSymbols_48 : decode b_X_putSymbols 48 = .ok (.aload_n 0, 1) := by decide +kernel
theorem d_X_putSymbols_49 : decode b_X_putSymbols 49 = .ok (.aload_n 1, 1) := by decide +kernel
theorem d_X_putSymbols_50 : decode b_X_putSymbols 50 = .ok (.iload_n 2, 1) := by decide +kernel
theorem d_X_putSymbols_51 : decode b_X_putSymbols 51 = .ok (.iload_n 3, 1) := by decide +kernel
theorem d_X_putSymbols_52 : decode b_X_putSymbols 52 = .ok (.invokestatic 112, 3) := by decide +kernel
theorem d_X_putSymbols_55 : decode b_X_putSymbols 55 = .ok (.invokevirtual 123, 3) := by decide +kernel
theorem d_X_putSymbols_58 : decode b_X_putSymbols 58 = .ok (.iinc 3 1, 3) := by decide +kernel
theorem d_X_putSymbols_61 : decode b_X_putSymbols 61 = .ok (.goto (-52), 3) := by decide +kernel
theorem d_X_putSymbols_64 : decode b_X_putSymbols 64 = .ok (.iinc 2 1, 3) := by decide +kernel
theorem d_X_putSymbols_67 : decode b_X_putSymbols 67 = .ok (.goto (-65), 3) := by decide +kernel
theorem d_X_putSymbols_70 : decode b_X_putSymbols 70 = .ok (.return_, 1) := by decide +kernel
theorem d_X_writeText_0 : decode b_X_writeText 0 = .ok (.aload_n 0, 1) := by decide +kernel
theorem d_X_writeText_1 : decode b_X_writeText 1 = .ok (.getfield 22, 3) := by decide +kernel
theorem d_X_writeText_4 : decode b_X_writeText 4 = .ok (.ifCond .eq 4, 3) := by decide +kernel
theorem d_X_writeText_7 : decode b_X_writeText 7 = .ok (.return_, 1) := by decide +kernel
theorem d_X_writeText_8 : decode b_X_writeText 8 = .ok (.aload_n 0, 1) := by decide +kernel
theorem d_X_writeText_9 : decode b_X_writeText 9 = .ok (.iconst 1, 1) := by decide +kernel
theorem d_X_writeText_10 : decode b_X_writeText 10 = .ok (.putfield 22, 3) := by decide +kernel
theorem d_X_writeText_13 : decode b_X_writeText 13 = .ok (.aload_n 0, 1) := by decide +kernel
theorem d_X_writeText_14 : decode b_X_writeText 14 = .ok (.aload_n 1, 1) := by decide +kernel
theorem d_X_writeText_15 : decode b_X_writeText 15 = .ok (.bipush 97, 2) := by decide +kernel
theorem d_X_writeText_17 : decode b_X_writeText 17 = .ok (.aload_n 1, 1) := by decide +kernel
theorem d_X_writeText_18 : decode b_X_writeText 18 = .ok (.getfield 26, 3) := by decide +kernel
theorem d_X_writeText_21 : decode b_X_writeText 21 = .ok (.invokevirtual 31, 3) := by decide +kernel
theorem d_X_writeText_24 : decode b_X_writeText 24 = .ok (.iconst 0, 1) := by decide +kernel
theorem d_X_writeText_25 : decode b_X_writeText 25 = .ok (.istore_n 2, 1) := by decide +kernel
theorem d_X_writeText_26 : decode b_X_writeText 26 = .ok (.iload_n 2, 1) := by decide +kernel
theorem d_X_writeText_27 : decode b_X_writeText 27 = .ok (.aload_n 1, 1) := by decide +kernel
theorem d_X_writeText_28 : decode b_X_writeText 28 = .ok (.getfield 35, 3) := by decide +kernel
theorem d_X_writeText_31 : decode b_X_writeText 31 = .ok (.if_icmp .ge 23, 3) := by decide +kernel
theorem d_X_writeText_34 : decode b_X_writeText 34 = .ok (.aload_n 0, 1) := by decide +kernel
theorem d_X_writeText_35 : decode b_X_writeText 35 = .ok (.iconst 2, 1) := by decide +kernel
theorem d_X_writeText_36 : decode b_X_writeText 36 = .ok (.aload_n 1, 1) := by decide +kernel
theorem d_X_writeText_37 : decode b_X_writeText 37 = .ok (.getfield 38, 3) := by decide +kernel
theorem d_X_writeText_40 : decode b_X_writeText 40 = .ok (.iload_n 2, 1) := by decide +kernel
theorem d_X_writeText_41 : decode b_X_writeText 41 = .ok (.iaload, 1) := by decide +kernel
theorem d_X_writeText_42 : decode b_X_writeText 42 = .ok (.imul, 1) := by decide +kernel
theorem d_X_writeText_43 : decode b_X_writeText 43 = .ok (.bipush 10, 2) := by decide +kernel
theorem d_X_writeText_45 : decode b_X_writeText 45 = .ok (.invokevirtual 41, 3) := by decide +kernel
theorem d_X_writeText_48 : decode b_X_writeText 48 = .ok (.iinc 2 1, 3) := by decide +kernel
theorem d_X_writeText_51 : decode b_X_writeText 51 = .ok (.goto (-25), 3) := by decide +kernel
theorem d_X_writeText_54 : decode b_X_writeText 54 = .ok (.iconst 0, 1) := by decide +kernel
theorem d_X_writeText_55 : decode b_X_writeText 55 = .ok (.istore_n 2, 1) := by decide +kernel
theorem d_X_writeText_56 : decode b_X_writeText 56 = .ok (.iload_n 2, 1) := by decide +kernel
theorem d_X_writeText_57 : decode b_X_writeText 57 = .ok (.aload_n 1, 1) := by decide +kernel
theorem d_X_writeText_58 : decode b_X_writeText 58 = .ok (.getfield 45, 3) := by decide +kernel
theorem d_X_writeText_61 : decode b_X_writeText 61 = .ok (.if_icmp .ge 35, 3) := by decide +kernel
theorem d_X_writeText_64 : decode b_X_writeText 64 = .ok (.aload_n 0, 1) := by decide +kernel
theorem d_X_writeText_65 : decode b_X_writeText 65 = .ok (.iconst 2, 1) := by decide +kernel
theorem d_X_writeText_66 : decode b_X_writeText 66 = .ok (.aload_n 1, 1) := by decide +kernel
theorem d_X_writeText_67 : decode b_X_writeText 67 = .ok (.getfield 48, 3) := by decide +kernel
theorem d_X_writeText_70 : decode b_X_writeText 70 = .ok (.iload_n 2, 1) := by decide +kernel
theorem d_X_writeText_71 : decode b_X_writeText 71 = .ok (.iaload, 1) := by decide +kernel
theorem d_X_writeText_72 : decode b_X_writeText 72 = .ok (.imul, 1) := by decide +kernel
theorem d_X_writeText_73 : decode b_X_writeText 73 = .ok (.bipush 32, 2) := by decide +kernel
theorem d_X_writeText_75 : decode b_X_writeText 75 = .ok (.invokevirtual 41, 3) := by decide +kernel
theorem d_X_writeText_78 : decode b_X_writeText 78 = .ok (.aload_n 0, 1) := by decide +kernel
theorem d_X_writeText_79 : decode b_X_writeText 79 = .ok (.aload_n 1, 1) := by decide +kernel
theorem d_X_writeText_80 : decode b_X_writeText 80 = .ok (.getfield 51, 3) := by decide +kernel
theorem d_X_writeText_83 : decode b_X_writeText 83 = .ok (.iload_n 2, 1) := by decide +kernel
theorem d_X_writeText_84 : decode b_X_writeText 84 = .ok (.iaload, 1) := by decide +kernel
theorem d_X_writeText_85 : decode b_X_writeText 85 = .ok (.bipush 10, 2) := by decide +kernel
theorem d_X_writeText_87 : decode b_X_writeText 87 = .ok (.invokevirtual 41, 3) := by decide +kernel
theorem d_X_writeText_90 : decode b_X_writeText 90 = .ok (.iinc 2 1, 3) := by decide +kernel
theorem d_X_writeText_93 : decode b_X_writeText 93 = .ok (.goto (-37), 3) := by decide +kernel
theorem d_X_writeText_96 : decode b_X_writeText 96 = .ok (.iconst 0, 1) := by decide +kernel
theorem d_X_writeText_97 : decode b_X_writeText 97 = .ok (.istore_n 2, 1) := by decide +kernel
theorem d_X_writeText_98 : decode b_X_writeText 98 = .ok (.iload_n 2, 1) := by decide +kernel
theorem d_X_writeText_99 : decode b_X_writeText 99 = .ok (.aload_n 1, 1) := by decide +kernel
theorem d_X_writeText_100 : decode b_X_writeText 100 = .ok (.getfield 54, 3) := by decide +kernel
theorem d_X_writeText_103 : decode b_X_writeText 103 = .ok (.if_icmp .ge 21, 3) := by decide +kernel
theorem d_X_writeText_106 : decode b_X_writeText 106 = .ok (.aload_n 0, 1) := by decide +kernel
theorem d_X_writeText_107 : decode b_X_writeText 107 = .ok (.aload_n 1, 1) := by decide +kernel
theorem d_X_writeText_108 : decode b_X_writeText 108 = .ok (.getfield 57, 3) := by decide +kernel
theorem d_X_writeText_111 : decode b_X_writeText 111 = .ok (.iload_n 2, 1) := by decide +kernel
theorem d_X_writeText_112 : decode b_X_writeText 112 = .ok (.iaload, 1) := by decide +kernel
theorem d_X_writeText_113 : decode b_X_writeText 113 = .ok (.bipush 10, 2) := by decide +kernel
theorem d_X_writeText_115 : decode b_X_writeText 115 = .ok (.invokevirtual 41, 3) := by decide +kernel
theorem d_X_writeText_118 : decode b_X_writeText 118 = .ok (.iinc 2 1, 3) := by decide +kernel
theorem d_X_writeText_121 : decode b_X_writeText 121 = .ok (.goto (-23), 3) := by decide +kernel
theorem d_X_writeText_124 : decode b_X_writeText 124 = .ok (.iconst 0, 1) := by decide +kernel
theorem d_X_writeText_125 : decode b_X_writeText 125 = .ok (.istore_n 2, 1) := by decide +kernel
theorem d_X_writeText_126 : decode b_X_writeText 126 = .ok (.iload_n 2, 1) := by decide +kernel
theorem d_X_writeText_127 : decode b_X_writeText 127 = .ok (.aload_n 1, 1) := by decide +kernel
theorem d_X_writeText_128 : decode b_X_writeText 128 = .ok (.getfield 60, 3) := by decide +kernel
theorem d_X_writeText_131 : decode b_X_writeText 131 = .ok (.if_icmp .ge 47, 3) := by decide +kernel
theorem d_X_writeText_134 : decode b_X_writeText 134 = .ok (.aload_n 0, 1) := by decide +kernel
theorem d_X_writeText_135 : decode b_X_writeText 135 = .ok (.iconst 2, 1) := by decide +kernel
theorem d_X_writeText_136 : decode b_X_writeText 136 = .ok (.aload_n 1, 1) := by decide +kernel
theorem d_X_writeText_137 : decode b_X_writeText 137 = .ok (.getfield 63, 3) := by decide +kernel
theorem d_X_writeText_140 : decode b_X_writeText 140 = .ok (.iload_n 2, 1) := by decide +kernel
theorem d_X_writeText_141 : decode b_X_writeText 141 = .ok (.iaload, 1) := by decide +kernel
theorem d_X_writeText_142 : decode b_X_writeText 142 = .ok (.imul, 1) := by decide +kernel
theorem d_X_writeText_143 : decode b_X_writeText 143 = .ok (.bipush 32, 2) := by decide +kernel
theorem d_X_writeText_145 : decode b_X_writeText 145 = .ok (.invokevirtual 41, 3) := by decide +kernel
theorem d_X_writeText_148 : decode b_X_writeText 148 = .ok (.aload_n 0, 1) := by decide +kernel
theorem d_X_writeText_149 : decode b_X_writeText 149 = .ok (.aload_n 1, 1) := by decide +kernel
theorem d_X_writeText_150 : decode b_X_writeText 150 = .ok (.getfield 66, 3) := by decide +kernel
theorem d_X_writeText_153 : decode b_X_writeText 153 = .ok (.iload_n 2, 1) := by decide +kernel
theorem d_X_writeText_154 : decode b_X_writeText 154 = .ok (.iaload, 1) := by decide +kernel
theorem d_X_writeText_155 : decode b_X_writeText 155 = .ok (.bipush 32, 2) := by decide +kernel
theorem d_X_writeText_157 : decode b_X_writeText 157 = .ok (.invokevirtual 41, 3) := by decide +kernel
theorem d_X_writeText_160 : decode b_X_writeText 160 = .ok (.aload_n 0, 1) := by decide +kernel
theorem d_X_writeText_161 : decode b_X_writeText 161 = .ok (.aload_n 1, 1) := by decide +kernel
theorem d_X_writeText_162 : decode b_X_writeText 162 = .ok (.getfield 69, 3) := by decide +kernel
theorem d_X_writeText_165 : decode b_X_writeText 165 = .ok (.iload_n 2, 1) := by decide +kernel
theorem d_X_writeText_166 : decode b_X_writeText 166 = .ok (.iaload, 1) := by decide +kernel
theorem d_X_writeText_167 : decode b_X_writeText 167 = .ok (.bipush 10, 2) := by decide +kernel
theorem d_X_writeText_169 : decode b_X_writeText 169 = .ok (.invokevirtual 41, 3) := by decide +kernel
theorem d_X_writeText_172 : decode b_X_writeText 172 = .ok (.iinc 2 1, 3) := by decide +kernel
theorem d_X_writeText_175 : decode b_X_writeText 175 = .ok (.goto (-49), 3) := by decide +kernel
theorem d_X_writeText_178 : decode b_X_writeText 178 = .ok (.aload_n 0, 1) := by decide +kernel
theorem d_X_writeText_179 : decode b_X_writeText 179 = .ok (.aload_n 1, 1) := by decide +kernel
theorem d_X_writeText_180 : decode b_X_writeText 180 = .ok (.invokevirtual 72, 3) := by decide +kernel
theorem d_X_writeText_183 : decode b_X_writeText 183 = .ok (.return_, 1) := by decide +kernel
theorem d_X_byteOf_0 : decode b_X_byteOf 0 = .ok (.iload_n 1, 1) := by decide +kernel
theorem d_X_byteOf_1 : decode b_X_byteOf 1 = .ok (.ifCond .lt 11, 3) := by decide +kernel
theorem d_X_byteOf_4 : decode b_X_byteOf 4 = .ok (.iload_n 1, 1) := by decide +kernel
theorem d_X_byteOf_5 : decode b_X_byteOf 5 = .ok (.aload_n 0, 1) := by decide +kernel
theorem d_X_byteOf_6 : decode b_X_byteOf 6 = .ok (.getfield 18, 3) := by decide +kernel
theorem d_X_byteOf_9 : decode b_X_byteOf 9 = .ok (.if_icmp .lt 7, 3) := by decide +kernel
theorem d_X_byteOf_12 : decode b_X_byteOf 12 = .ok (.iconst (-1), 1) := by decide +kernel
theorem d_X_byteOf_13 : decode b_X_byteOf 13 = .ok (.goto 9, 3) := by decide +kernel
theorem d_X_byteOf_16 : decode b_X_byteOf 16 = .ok (.aload_n 0, 1) := by decide +kernel
theorem d_X_byteOf_17 : decode b_X_byteOf 17 = .ok (.getfield 11, 3) := by decide +kernel
theorem d_X_byteOf_20 : decode b_X_byteOf 20 = .ok (.iload_n 1, 1) := by decide +kernel
theorem d_X_byteOf_21 : decode b_X_byteOf 21 = .ok (.iaload, 1) := by decide +kernel
theorem d_X_byteOf_22 : decode b_X_byteOf 22 = .ok (.ireturn, 1) := by decide +kernel
theorem d_X_numberAnew_0 : decode b_X_numberAnew 0 = .ok (.iconst 0, 1) := by decide +kernel
theorem d_X_numberAnew_1 : decode b_X_numberAnew 1 = .ok (.istore_n 2, 1) := by decide +kernel
theorem d_X_numberAnew_2 : decode b_X_numberAnew 2 = .ok (.iconst 0, 1) := by decide +kernel
theorem d_X_numberAnew_3 : decode b_X_numberAnew 3 = .ok (.istore_n 3, 1) := by decide +kernel
theorem d_X_numberAnew_4 : decode b_X_numberAnew 4 = .ok (.iload_n 3, 1) := by decide +kernel
theorem d_X_numberAnew_5 : decode b_X_numberAnew 5 = .ok (.aload_n 1, 1) := by decide +kernel
theorem d_X_numberAnew_6 : decode b_X_numberAnew 6 = .ok (.getfield 35, 3) := by decide +kernel
theorem d_X_numberAnew_9 : decode b_X_numberAnew 9 = .ok (.if_icmp .ge 24, 3) := by decide +kernel
theorem d_X_numberAnew_12 : decode b_X_numberAnew 12 = .ok (.iinc 2 1, 3) := by decide +kernel
theorem d_X_numberAnew_15 : decode b_X_numberAnew 15 = .ok (.aload_n 0, 1) := by decide +kernel
theorem d_X_numberAnew_16 : decode b_X_numberAnew 16 = .ok (.getfield 15, 3) := by decide +kernel
theorem d_X_numberAnew_19 : decode b_X_numberAnew 19 = .ok (.aload_n 1, 1) := by decide +kernel
theorem d_X_numberAnew_20 : decode b_X_numberAnew 20 = .ok (.getfield 38, 3) := by decide +kernel
theorem d_X_numberAnew_23 : decode b_X_numberAnew 23 = .ok (.iload_n 3, 1) := by decide +kernel
theorem d_X_numberAnew_24 : decode b_X_numberAnew 24 = .ok (.iaload, 1) := by decide +kernel
theorem d_X_numberAnew_25 : decode b_X_numberAnew 25 = .ok (.iload_n 2, 1) := by decide +kernel
theorem d_X_numberAnew_26 : decode b_X_numberAnew 26 = .ok (.iastore, 1) := by decide +kernel
theorem d_X_numberAnew_27 : decode b_X_numberAnew 27 = .ok (.iinc 3 1, 3) := by decide +kernel
theorem d_X_numberAnew_30 : decode b_X_numberAnew 30 = .ok (.goto (-26), 3) := by decide +kernel
theorem d_X_numberAnew_33 : decode b_X_numberAnew 33 = .ok (.iconst 0, 1) := by decide +kernel
theorem d_X_numberAnew_34 : decode b_X_numberAnew 34 = .ok (.istore_n 3, 1) := by decide +kernel
theorem d_X_numberAnew_35 : decode b_X_numberAnew 35 = .ok (.iload_n 3, 1) := by decide +kernel
theorem d_X_numberAnew_36 : decode b_X_numberAnew 36 = .ok (.aload_n 1, 1) := by decide +kernel
theorem d_X_numberAnew_37 : decode b_X_numberAnew 37 = .ok (.getfield 45, 3) := by decide +kernel
theorem d_X_numberAnew_40 : decode b_X_numberAnew 40 = .ok (.if_icmp .ge 24, 3) := by decide +kernel
theorem d_X_numberAnew_43 : decode b_X_numberAnew 43 = .ok (.iinc 2 1, 3) := by decide +kernel
theorem d_X_numberAnew_46 : decode b_X_numberAnew 46 = .ok (.aload_n 0, 1) := by decide +kernel
theorem d_X_numberAnew_47 : decode b_X_numberAnew 47 = .ok (.getfield 15, 3) := by decide +kernel
theorem d_X_numberAnew_50 : decode b_X_numberAnew 50 = .ok (.aload_n 1, 1) := by decide +kernel
theorem d_X_numberAnew_51 : decode b_X_numberAnew 51 = .ok (.getfield 48, 3) := by decide +kernel
theorem d_X_numberAnew_54 : decode b_X_numberAnew 54 = .ok (.iload_n 3, 1) := by decide +kernel
theorem d_X_numberAnew_55 : decode b_X_numberAnew 55 = .ok (.iaload, 1) := by decide +kernel
theorem d_X_numberAnew_56 : decode b_X_numberAnew 56 = .ok (.iload_n 2, 1) := by decide +kernel
theorem d_X_numberAnew_57 : decode b_X_numberAnew 57 = .ok (.iastore, 1) := by decide +kernel
theorem d_X_numberAnew_58 : decode b_X_numberAnew 58 = .ok (.iinc 3 1, 3) := by decide +kernel
theorem d_X_numberAnew_61 : decode b_X_numberAnew 61 = .ok (.goto (-26), 3) := by decide +kernel
theorem d_X_numberAnew_64 : decode b_X_numberAnew 64 = .ok (.iconst 0, 1) := by decide +kernel
theorem d_X_numberAnew_65 : decode b_X_numberAnew 65 = .ok (.istore_n 3, 1) := by decide +kernel
theorem d_X_numberAnew_66 : decode b_X_numberAnew 66 = .ok (.iload_n 3, 1) := by decide +kernel
theorem d_X_numberAnew_67 : decode b_X_numberAnew 67 = .ok (.aload_n 1, 1) := by decide +kernel
theorem d_X_numberAnew_68 : decode b_X_numberAnew 68 = .ok (.getfield 60, 3) := by decide +kernel
theorem d_X_numberAnew_71 : decode b_X_numberAnew 71 = .ok (.if_icmp .ge 29, 3) := by decide +kernel
theorem d_X_numberAnew_74 : decode b_X_numberAnew 74 = .ok (.iinc 2 1, 3) := by decide +kernel
theorem d_X_numberAnew_77 : decode b_X_numberAnew 77 = .ok (.aload_n 0, 1) := by decide +kernel
theorem d_X_numberAnew_78 : decode b_X_numberAnew 78 = .ok (.getfield 15, 3) := by decide +kernel
theorem d_X_numberAnew_81 : decode b_X_numberAnew 81 = .ok (.aload_n 1, 1) := by decide +kernel
theorem d_X_numberAnew_82 : decode b_X_numberAnew 82 = .ok (.getfield 63, 3) := by decide +kernel
theorem d_X_numberAnew_85 : decode b_X_numberAnew 85 = .ok (.aload_n 1, 1) := by decide +kernel
theorem d_X_numberAnew_86 : decode b_X_numberAnew 86 = .ok (.getfield 83, 3) := by decide +kernel
theorem d_X_numberAnew_89 : decode b_X_numberAnew 89 = .ok (.iload_n 3, 1) := by decide +kernel
theorem d_X_numberAnew_90 : decode b_X_numberAnew 90 = .ok (.iaload, 1) := by decide +kernel
theorem d_X_numberAnew_91 : decode b_X_numberAnew 91 = .ok (.iaload, 1) := by decide +kernel
theorem d_X_numberAnew_92 : decode b_X_numberAnew 92 = .ok (.iload_n 2, 1) := by decide +kernel
theorem d_X_numberAnew_93 : decode b_X_numberAnew 93 = .ok (.iastore, 1) := by decide +kernel
theorem d_X_numberAnew_94 : decode b_X_numberAnew 94 = .ok (.iinc 3 1, 3) := by decide +kernel
theorem d_X_numberAnew_97 : decode b_X_numberAnew 97 = .ok (.goto (-31), 3) := by decide +kernel
theorem d_X_numberAnew_100 : decode b_X_numberAnew 100 = .ok (.return_, 1) := by decide +kernel
theorem d_X_newLiteral_0 : decode b_X_newLiteral 0 = .ok (.iconst 2, 1) := by decide +kernel
theorem d_X_newLiteral_1 : decode b_X_newLiteral 1 = .ok (.aload_n 0, 1) := by decide +kernel
theorem d_X_newLiteral_2 : decode b_X_newLiteral 2 = .ok (.getfield 15, 3) := by decide +kernel
theorem d_X_newLiteral_5 : decode b_X_newLiteral 5 = .ok (.iload_n 1, 1) := by decide +kernel
theorem d_X_newLiteral_6 : decode b_X_newLiteral 6 = .ok (.iconst 1, 1) := by decide +kernel
theorem d_X_newLiteral_7 : decode b_X_newLiteral 7 = .ok (.ishr, 1) := by decide +kernel
theorem d_X_newLiteral_8 : decode b_X_newLiteral 8 = .ok (.iaload, 1) := by decide +kernel
theorem d_X_newLiteral_9 : decode b_X_newLiteral 9 = .ok (.imul, 1) := by decide +kernel
theorem d_X_newLiteral_10 : decode b_X_newLiteral 10 = .ok (.iload_n 1, 1) := by decide +kernel
theorem d_X_newLiteral_11 : decode b_X_newLiteral 11 = .ok (.iconst 1, 1) := by decide +kernel
theorem d_X_newLiteral_12 : decode b_X_newLiteral 12 = .ok (.iand, 1) := by decide +kernel
theorem d_X_newLiteral_13 : decode b_X_newLiteral 13 = .ok (.iadd, 1) := by decide +kernel
theorem d_X_newLiteral_14 : decode b_X_newLiteral 14 = .ok (.ireturn, 1) := by decide +kernel
theorem d_X_putDelta_0 : decode b_X_putDelta 0 = .ok (.iload_n 1, 1) := by decide +kernel
theorem d_X_putDelta_1 : decode b_X_putDelta 1 = .ok (.sipush 128, 3) := by decide +kernel
theorem d_X_putDelta_4 : decode b_X_putDelta 4 = .ok (.if_icmp .lt 26, 3) := by decide +kernel
theorem d_X_putDelta_7 : decode b_X_putDelta 7 = .ok (.aload_n 0, 1) := by decide +kernel
theorem d_X_putDelta_8 : decode b_X_putDelta 8 = .ok (.sipush 128, 3) := by decide +kernel
theorem d_X_putDelta_11 : decode b_X_putDelta 11 = .ok (.iload_n 1, 1) := by decide +kernel
theorem d_X_putDelta_12 : decode b_X_putDelta 12 = .ok (.bipush 127, 2) := by decide +kernel
theorem d_X_putDelta_14 : decode b_X_putDelta 14 = .ok (.iand, 1) := by decide +kernel
theorem d_X_putDelta_15 : decode b_X_putDelta 15 = .ok (.iadd, 1) := by decide +kernel
theorem d_X_putDelta_16 : decode b_X_putDelta 16 = .ok (.invokevirtual 90, 3) := by decide +kernel
theorem d_X_putDelta_19 : decode b_X_putDelta 19 = .ok (.aload_n 0, 1) := by decide +kernel
theorem d_X_putDelta_20 : decode b_X_putDelta 20 = .ok (.iload_n 1, 1) := by decide +kernel
theorem d_X_putDelta_21 : decode b_X_putDelta 21 = .ok (.bipush 7, 2) := by decide +kernel
theorem d_X_putDelta_23 : decode b_X_putDelta 23 = .ok (.ishr, 1) := by decide +kernel
theorem d_X_putDelta_24 : decode b_X_putDelta 24 = .ok (.invokevirtual 90, 3) := by decide +kernel
theorem d_X_putDelta_27 : decode b_X_putDelta 27 = .ok (.goto 8, 3) := by decide +kernel
theorem d_X_putDelta_30 : decode b_X_putDelta 30 = .ok (.aload_n 0, 1) := by decide +kernel
theorem d_X_putDelta_31 : decode b_X_putDelta 31 = .ok (.iload_n 1, 1) := by decide +kernel
theorem d_X_putDelta_32 : decode b_X_putDelta 32 = .ok (.invokevirtual 90, 3) := by decide +kernel
theorem d_X_putDelta_35 : decode b_X_putDelta 35 = .ok (.return_, 1) := by decide +kernel
theorem d_X_putBinaryAnd_0 : decode b_X_putBinaryAnd 0 = .ok (.aload_n 0, 1) := by decide +kernel
theorem d_X_putBinaryAnd_1 : decode b_X_putBinaryAnd 1 = .ok (.aload_n 1, 1) := by decide +kernel
theorem d_X_putBinaryAnd_2 : decode b_X_putBinaryAnd 2 = .ok (.getfield 66, 3) := by decide +kernel
theorem d_X_putBinaryAnd_5 : decode b_X_putBinaryAnd 5 = .ok (.iload_n 2, 1) := by decide +kernel
theorem d_X_putBinaryAnd_6 : decode b_X_putBinaryAnd 6 = .ok (.iaload, 1) := by decide +kernel
theorem d_X_putBinaryAnd_7 : decode b_X_putBinaryAnd 7 = .ok (.invokevirtual 79, 3) := by decide +kernel
theorem d_X_putBinaryAnd_10 : decode b_X_putBinaryAnd 10 = .ok (.istore_n 3, 1) := by decide +kernel
theorem d_X_putBinaryAnd_11 : decode b_X_putBinaryAnd 11 = .ok (.aload_n 0, 1) := by decide +kernel
theorem d_X_putBinaryAnd_12 : decode b_X_putBinaryAnd 12 = .ok (.aload_n 1, 1) := by decide +kernel
theorem d_X_putBinaryAnd_13 : decode b_X_putBinaryAnd 13 = .ok (.getfield 69, 3) := by decide +kernel
theorem d_X_putBinaryAnd_16 : decode b_X_putBinaryAnd 16 = .ok (.iload_n 2, 1) := by decide +kernel
theorem d_X_putBinaryAnd_17 : decode b_X_putBinaryAnd 17 = .ok (.iaload, 1) := by decide +kernel
theorem d_X_putBinaryAnd_18 : decode b_X_putBinaryAnd 18 = .ok (.invokevirtual 79, 3) := by decide +kernel
theorem d_X_putBinaryAnd_21 : decode b_X_putBinaryAnd 21 = .ok (.istore 4, 2) := by decide +kernel
theorem d_X_putBinaryAnd_23 : decode b_X_putBinaryAnd 23 = .ok (.iload_n 3, 1) := by decide +kernel
theorem d_X_putBinaryAnd_24 : decode b_X_putBinaryAnd 24 = .ok (.iload 4, 2) := by decide +kernel
theorem d_X_putBinaryAnd_26 : decode b_X_putBinaryAnd 26 = .ok (.invokestatic 94, 3) := by decide +kernel
theorem d_X_putBinaryAnd_29 : decode b_X_putBinaryAnd 29 = .ok (.istore 5, 2) := by decide +kernel
theorem d_X_putBinaryAnd_31 : decode b_X_putBinaryAnd 31 = .ok (.aload_n 0, 1) := by decide +kernel
theorem d_X_putBinaryAnd_32 : decode b_X_putBinaryAnd 32 = .ok (.iconst 2, 1) := by decide +kernel
theorem d_X_putBinaryAnd_33 : decode b_X_putBinaryAnd 33 = .ok (.aload_n 0, 1) := by decide +kernel
theorem d_X_putBinaryAnd_34 : decode b_X_putBinaryAnd 34 = .ok (.getfield 15, 3) := by decide +kernel
theorem d_X_putBinaryAnd_37 : decode b_X_putBinaryAnd 37 = .ok (.aload_n 1, 1) := by decide +kernel
theorem d_X_putBinaryAnd_38 : decode b_X_putBinaryAnd 38 = .ok (.getfield 63, 3) := by decide +kernel
theorem d_X_putBinaryAnd_41 : decode b_X_putBinaryAnd 41 = .ok (.iload_n 2, 1) := by decide +kernel
theorem d_X_putBinaryAnd_42 : decode b_X_putBinaryAnd 42 = .ok (.iaload, 1) := by decide +kernel
theorem d_X_putBinaryAnd_43 : decode b_X_putBinaryAnd 43 = .ok (.iaload, 1) := by decide +kernel
theorem d_X_putBinaryAnd_44 : decode b_X_putBinaryAnd 44 = .ok (.imul, 1) := by decide +kernel
theorem d_X_putBinaryAnd_45 : decode b_X_putBinaryAnd 45 = .ok (.iload 5, 2) := by decide +kernel
theorem d_X_putBinaryAnd_47 : decode b_X_putBinaryAnd 47 = .ok (.isub, 1) := by decide +kernel
theorem d_X_putBinaryAnd_48 : decode b_X_putBinaryAnd 48 = .ok (.invokevirtual 100, 3) := by decide +kernel
theorem d_X_putBinaryAnd_51 : decode b_X_putBinaryAnd 51 = .ok (.aload_n 0, 1) := by decide +kernel
theorem d_X_putBinaryAnd_52 : decode b_X_putBinaryAnd 52 = .ok (.iload 5, 2) := by decide +kernel
theorem d_X_putBinaryAnd_54 : decode b_X_putBinaryAnd 54 = .ok (.iload_n 3, 1) := by decide +kernel
theorem d_X_putBinaryAnd_55 : decode b_X_putBinaryAnd 55 = .ok (.iload 4, 2) := by decide +kernel
theorem d_X_putBinaryAnd_57 : decode b_X_putBinaryAnd 57 = .ok (.invokestatic 103, 3) := by decide +kernel
theorem d_X_putBinaryAnd_60 : decode b_X_putBinaryAnd 60 = .ok (.isub, 1) := by decide +kernel
theorem d_X_putBinaryAnd_61 : decode b_X_putBinaryAnd 61 = .ok (.invokevirtual 100, 3) := by decide +kernel
theorem d_X_putBinaryAnd_64 : decode b_X_putBinaryAnd 64 = .ok (.return_, 1) := by decide +kernel
theorem d_X_writeBinary_0 : decode b_X_writeBinary 0 = .ok (.aload_n 0, 1) := by decide +kernel
theorem d_X_writeBinary_1 : decode b_X_writeBinary 1 = .ok (.getfield 22, 3) := by decide +kernel
theorem d_X_writeBinary_4 : decode b_X_writeBinary 4 = .ok (.ifCond .eq 4, 3) := by decide +kernel
theorem d_X_writeBinary_7 : decode b_X_writeBinary 7 = .ok (.return_, 1) := by decide +kernel
theorem d_X_writeBinary_8 : decode b_X_writeBinary 8 = .ok (.aload_n 0, 1) := by decide +kernel
theorem d_X_writeBinary_9 : decode b_X_writeBinary 9 = .ok (.iconst 1, 1) := by decide +kernel
theorem d_X_writeBinary_10 : decode b_X_writeBinary 10 = .ok (.putfield 22, 3) := by decide +kernel
theorem d_X_writeBinary_13 : decode b_X_writeBinary 13 = .ok (.aload_n 0, 1) := by decide +kernel
theorem d_X_writeBinary_14 : decode b_X_writeBinary 14 = .ok (.aload_n 1, 1) := by decide +kernel
theorem d_X_writeBinary_15 : decode b_X_writeBinary 15 = .ok (.invokevirtual 76, 3) := by decide +kernel
theorem d_X_writeBinary_18 : decode b_X_writeBinary 18 = .ok (.aload_n 0, 1) := by decide +kernel
theorem d_X_writeBinary_19 : decode b_X_writeBinary 19 = .ok (.aload_n 1, 1) := by decide +kernel
theorem d_X_writeBinary_20 : decode b_X_writeBinary 20 = .ok (.bipush 105, 2) := by decide +kernel
theorem d_X_writeBinary_22 : decode b_X_writeBinary 22 = .ok (.aload_n 1, 1) := by decide +kernel
theorem d_X_writeBinary_23 : decode b_X_writeBinary 23 = .ok (.getfield 35, 3) := by decide +kernel
theorem d_X_writeBinary_26 : decode b_X_writeBinary 26 = .ok (.aload_n 1, 1) := by decide +kernel
theorem d_X_writeBinary_27 : decode b_X_writeBinary 27 = .ok (.getfield 45, 3) := by decide +kernel
theorem d_X_writeBinary_30 : decode b_X_writeBinary 30 = .ok (.iadd, 1) := by decide +kernel
theorem d_X_writeBinary_31 : decode b_X_writeBinary 31 = .ok (.aload_n 1, 1) := by decide +kernel
theorem d_X_writeBinary_32 : decode b_X_writeBinary 32 = .ok (.getfield 60, 3) := by decide +kernel
theorem d_X_writeBinary_35 : decode b_X_writeBinary 35 = .ok (.iadd, 1) := by decide +kernel
theorem d_X_writeBinary_36 : decode b_X_writeBinary 36 = .ok (.invokevirtual 31, 3) := by decide +kernel
theorem d_X_writeBinary_39 : decode b_X_writeBinary 39 = .ok (.iconst 0, 1) := by decide +kernel
theorem d_X_writeBinary_40 : decode b_X_writeBinary 40 = .ok (.istore_n 2, 1) := by decide +kernel
theorem d_X_writeBinary_41 : decode b_X_writeBinary 41 = .ok (.iload_n 2, 1) := by decide +kernel
theorem d_X_writeBinary_42 : decode b_X_writeBinary 42 = .ok (.aload_n 1, 1) := by decide +kernel
theorem d_X_writeBinary_43 : decode b_X_writeBinary 43 = .ok (.getfield 45, 3) := by decide +kernel
theorem d_X_writeBinary_46 : decode b_X_writeBinary 46 = .ok (.if_icmp .ge 25, 3) := by decide +kernel
theorem d_X_writeBinary_49 : decode b_X_writeBinary 49 = .ok (.aload_n 0, 1) := by decide +kernel
theorem d_X_writeBinary_50 : decode b_X_writeBinary 50 = .ok (.aload_n 0, 1) := by decide +kernel
theorem d_X_writeBinary_51 : decode b_X_writeBinary 51 = .ok (.aload_n 1, 1) := by decide +kernel
theorem d_X_writeBinary_52 : decode b_X_writeBinary 52 = .ok (.getfield 51, 3) := by decide +kernel
theorem d_X_writeBinary_55 : decode b_X_writeBinary 55 = .ok (.iload_n 2, 1) := by decide +kernel
theorem d_X_writeBinary_56 : decode b_X_writeBinary 56 = .ok (.iaload, 1) := by decide +kernel
theorem d_X_writeBinary_57 : decode b_X_writeBinary 57 = .ok (.invokevirtual 79, 3) := by decide +kernel
theorem d_X_writeBinary_60 : decode b_X_writeBinary 60 = .ok (.bipush 10, 2) := by decide +kernel
theorem d_X_writeBinary_62 : decode b_X_writeBinary 62 = .ok (.invokevirtual 41, 3) := by decide +kernel
theorem d_X_writeBinary_65 : decode b_X_writeBinary 65 = .ok (.iinc 2 1, 3) := by decide +kernel
theorem d_X_writeBinary_68 : decode b_X_writeBinary 68 = .ok (.goto (-27), 3) := by decide +kernel
theorem d_X_writeBinary_71 : decode b_X_writeBinary 71 = .ok (.iconst 0, 1) := by decide +kernel
theorem d_X_writeBinary_72 : decode b_X_writeBinary 72 = .ok (.istore_n 2, 1) := by decide +kernel
theorem d_X_writeBinary_73 : decode b_X_writeBinary 73 = .ok (.iload_n 2, 1) := by decide +kernel
theorem d_X_writeBinary_74 : decode b_X_writeBinary 74 = .ok (.aload_n 1, 1) := by decide +kernel
theorem d_X_writeBinary_75 : decode b_X_writeBinary 75 = .ok (.getfield 54, 3) := by decide +kernel
theorem d_X_writeBinary_78 : decode b_X_writeBinary 78 = .ok (.if_icmp .ge 25, 3) := by decide +kernel
theorem d_X_writeBinary_81 : decode b_X_writeBinary 81 = .ok (.aload_n 0, 1) := by decide +kernel
theorem d_X_writeBinary_82 : decode b_X_writeBinary 82 = .ok (.aload_n 0, 1) := by decide +kernel
theorem d_X_writeBinary_83 : decode b_X_writeBinary 83 = .ok (.aload_n 1, 1) := by decide +kernel
theorem d_X_writeBinary_84 : decode b_X_writeBinary 84 = .ok (.getfield 57, 3) := by decide +kernel
theorem d_X_writeBinary_87 : decode b_X_writeBinary 87 = .ok (.iload_n 2, 1) := by decide +kernel
theorem d_X_writeBinary_88 : decode b_X_writeBinary 88 = .ok (.iaload, 1) := by decide +kernel
theorem d_X_writeBinary_89 : decode b_X_writeBinary 89 = .ok (.invokevirtual 79, 3) := by decide +kernel
theorem d_X_writeBinary_92 : decode b_X_writeBinary 92 = .ok (.bipush 10, 2) := by decide +kernel
theorem d_X_writeBinary_94 : decode b_X_writeBinary 94 = .ok (.invokevirtual 41, 3) := by decide +kernel
theorem d_X_writeBinary_97 : decode b_X_writeBinary 97 = .ok (.iinc 2 1, 3) := by decide +kernel
theorem d_X_writeBinary_100 : decode b_X_writeBinary 100 = .ok (.goto (-27), 3) := by decide +kernel
theorem d_X_writeBinary_103 : decode b_X_writeBinary 103 = .ok (.iconst 0, 1) := by decide +kernel
theorem d_X_writeBinary_104 : decode b_X_writeBinary 104 = .ok (.istore_n 2, 1) := by decide +kernel
theorem d_X_writeBinary_105 : decode b_X_writeBinary 105 = .ok (.iload_n 2, 1) := by decide +kernel
theorem d_X_writeBinary_106 : decode b_X_writeBinary 106 = .ok (.aload_n 1, 1) := by decide +kernel
theorem d_X_writeBinary_107 : decode b_X_writeBinary 107 = .ok (.getfield 60, 3) := by decide +kernel
theorem d_X_writeBinary_110 : decode b_X_writeBinary 110 = .ok (.if_icmp .ge 20, 3) := by decide +kernel
theorem d_X_writeBinary_113 : decode b_X_writeBinary 113 = .ok (.aload_n 0, 1) := by decide +kernel
theorem d_X_writeBinary_114 : decode b_X_writeBinary 114 = .ok (.aload_n 1, 1) := by decide +kernel
theorem d_X_writeBinary_115 : decode b_X_writeBinary 115 = .ok (.aload_n 1, 1) := by decide +kernel
theorem d_X_writeBinary_116 : decode b_X_writeBinary 116 = .ok (.getfield 83, 3) := by decide +kernel
theorem d_X_writeBinary_119 : decode b_X_writeBinary 119 = .ok (.iload_n 2, 1) := by decide +kernel
theorem d_X_writeBinary_120 : decode b_X_writeBinary 120 = .ok (.iaload, 1) := by decide +kernel
theorem d_X_writeBinary_121 : decode b_X_writeBinary 121 = .ok (.invokevirtual 86, 3) := by decide +kernel
theorem d_X_writeBinary_124 : decode b_X_writeBinary 124 = .ok (.iinc 2 1, 3) := by decide +kernel
theorem d_X_writeBinary_127 : decode b_X_writeBinary 127 = .ok (.goto (-22), 3) := by decide +kernel
theorem d_X_writeBinary_130 : decode b_X_writeBinary 130 = .ok (.aload_n 0, 1) := by decide +kernel
theorem d_X_writeBinary_131 : decode b_X_writeBinary 131 = .ok (.aload_n 1, 1) := by decide +kernel
theorem d_X_writeBinary_132 : decode b_X_writeBinary 132 = .ok (.invokevirtual 72, 3) := by decide +kernel
theorem d_X_writeBinary_135 : decode b_X_writeBinary 135 = .ok (.return_, 1) := by decide +kernel
