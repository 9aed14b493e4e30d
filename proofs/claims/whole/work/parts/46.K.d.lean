theorem d_T_init_0 : decode b_T_init 0 = .ok (.aload_n 0, 1) := by decide +kernel
theorem d_T_init_1 : decode b_T_init 1 = .ok (.invokespecial 3, 3) := by decide +kernel
theorem d_T_init_4 : decode b_T_init 4 = .ok (.aload_n 0, 1) := by decide +kernel
theorem d_T_init_5 : decode b_T_init 5 = .ok (.bipush 20, 2) := by decide +kernel
theorem d_T_init_7 : decode b_T_init 7 = .ok (.newarray .int, 2) := by decide +kernel
theorem d_T_init_9 : decode b_T_init 9 = .ok (.putfield 9, 3) := by decide +kernel
theorem d_T_init_12 : decode b_T_init 12 = .ok (.aload_n 0, 1) := by decide +kernel
theorem d_T_init_13 : decode b_T_init 13 = .ok (.sipush 6000, 3) := by decide +kernel
theorem d_T_init_16 : decode b_T_init 16 = .ok (.newarray .int, 2) := by decide +kernel
theorem d_T_init_18 : decode b_T_init 18 = .ok (.putfield 15, 3) := by decide +kernel
theorem d_T_init_21 : decode b_T_init 21 = .ok (.aload_n 0, 1) := by decide +kernel
theorem d_T_init_22 : decode b_T_init 22 = .ok (.iconst 0, 1) := by decide +kernel
theorem d_T_init_23 : decode b_T_init 23 = .ok (.putfield 18, 3) := by decide +kernel
theorem d_T_init_26 : decode b_T_init 26 = .ok (.return_, 1) := by decide +kernel
theorem d_U_init_0 : decode b_U_init 0 = .ok (.aload_n 0, 1) := by decide +kernel
theorem d_U_init_1 : decode b_U_init 1 = .ok (.invokespecial 3, 3) := by decide +kernel
theorem d_U_init_4 : decode b_U_init 4 = .ok (.aload_n 0, 1) := by decide +kernel
theorem d_U_init_5 : decode b_U_init 5 = .ok (.iconst 0, 1) := by decide +kernel
theorem d_U_init_6 : decode b_U_init 6 = .ok (.putfield 9, 3) := by decide +kernel
theorem d_U_init_9 : decode b_U_init 9 = .ok (.aload_n 0, 1) := by decide +kernel
theorem d_U_init_10 : decode b_U_init 10 = .ok (.iconst 0, 1) := by decide +kernel
theorem d_U_init_11 : decode b_U_init 11 = .ok (.putfield 15, 3) := by decide +kernel
theorem d_U_init_14 : decode b_U_init 14 = .ok (.aload_n 0, 1) := by decide +kernel
theorem d_U_init_15 : decode b_U_init 15 = .ok (.iconst 0, 1) := by decide +kernel
theorem d_U_init_16 : decode b_U_init 16 = .ok (.putfield 18, 3) := by decide +kernel
theorem d_U_init_19 : decode b_U_init 19 = .ok (.aload_n 0, 1) := by decide +kernel
theorem d_U_init_20 : decode b_U_init 20 = .ok (.iconst 0, 1) := by decide +kernel
theorem d_U_init_21 : decode b_U_init 21 = .ok (.putfield 21, 3) := by decide +kernel
theorem d_U_init_24 : decode b_U_init 24 = .ok (.aload_n 0, 1) := by decide +kernel
theorem d_U_init_25 : decode b_U_init 25 = .ok (.iconst (-1), 1) := by decide +kernel
theorem d_U_init_26 : decode b_U_init 26 = .ok (.putfield 24, 3) := by decide +kernel
theorem d_U_init_29 : decode b_U_init 29 = .ok (.aload_n 0, 1) := by decide +kernel
theorem d_U_init_30 : decode b_U_init 30 = .ok (.aload_n 1, 1) := by decide +kernel
theorem d_U_init_31 : decode b_U_init 31 = .ok (.putfield 27, 3) := by decide +kernel
theorem d_U_init_34 : decode b_U_init 34 = .ok (.return_, 1) := by decide +kernel
theorem d_S_init_0 : decode b_S_init 0 = .ok (.aload_n 0, 1) := by decide +kernel
theorem d_S_init_1 : decode b_S_init 1 = .ok (.invokespecial 3, 3) := by decide +kernel
theorem d_S_init_4 : decode b_S_init 4 = .ok (.aload_n 0, 1) := by decide +kernel
theorem d_S_init_5 : decode b_S_init 5 = .ok (.sipush 401, 3) := by decide +kernel
theorem d_S_init_8 : decode b_S_init 8 = .ok (.newarray .boolean, 2) := by decide +kernel
theorem d_S_init_10 : decode b_S_init 10 = .ok (.putfield 9, 3) := by decide +kernel
theorem d_S_init_13 : decode b_S_init 13 = .ok (.aload_n 0, 1) := by decide +kernel
theorem d_S_init_14 : decode b_S_init 14 = .ok (.sipush 401, 3) := by decide +kernel
theorem d_S_init_17 : decode b_S_init 17 = .ok (.newarray .boolean, 2) := by decide +kernel
theorem d_S_init_19 : decode b_S_init 19 = .ok (.putfield 15, 3) := by decide +kernel
theorem d_S_init_22 : decode b_S_init 22 = .ok (.aload_n 0, 1) := by decide +kernel
theorem d_S_init_23 : decode b_S_init 23 = .ok (.sipush 401, 3) := by decide +kernel
theorem d_S_init_26 : decode b_S_init 26 = .ok (.newarray .int, 2) := by decide +kernel
theorem d_S_init_28 : decode b_S_init 28 = .ok (.putfield 18, 3) := by decide +kernel
theorem d_S_init_31 : decode b_S_init 31 = .ok (.aload_n 0, 1) := by decide +kernel
theorem d_S_init_32 : decode b_S_init 32 = .ok (.sipush 301, 3) := by decide +kernel
theorem d_S_init_35 : decode b_S_init 35 = .ok (.newarray .int, 2) := by decide +kernel
theorem d_S_init_37 : decode b_S_init 37 = .ok (.putfield 22, 3) := by decide +kernel
theorem d_S_init_40 : decode b_S_init 40 = .ok (.aload_n 0, 1) := by decide +kernel
theorem d_S_init_41 : decode b_S_init 41 = .ok (.iconst 0, 1) := by decide +kernel
theorem d_S_init_42 : decode b_S_init 42 = .ok (.putfield 25, 3) := by decide +kernel
theorem d_S_init_45 : decode b_S_init 45 = .ok (.return_, 1) := by decide +kernel
theorem d_R_init_0 : decode b_R_init 0 = .ok (.aload_n 0, 1) := by decide +kernel
theorem d_R_init_1 : decode b_R_init 1 = .ok (.invokespecial 3, 3) := by decide +kernel
theorem d_R_init_4 : decode b_R_init 4 = .ok (.aload_n 0, 1) := by decide +kernel
theorem d_R_init_5 : decode b_R_init 5 = .ok (.new 9, 3) := by decide +kernel
theorem d_R_init_8 : decode b_R_init 8 = .ok (.dup, 1) := by decide +kernel
theorem d_R_init_9 : decode b_R_init 9 = .ok (.invokespecial 11, 3) := by decide +kernel
theorem d_R_init_12 : decode b_R_init 12 = .ok (.putfield 12, 3) := by decide +kernel
theorem d_R_init_15 : decode b_R_init 15 = .ok (.aload_n 0, 1) := by decide +kernel
theorem d_R_init_16 : decode b_R_init 16 = .ok (.sipush 615, 3) := by decide +kernel
theorem d_R_init_19 : decode b_R_init 19 = .ok (.newarray .int, 2) := by decide +kernel
theorem d_R_init_21 : decode b_R_init 21 = .ok (.putfield 18, 3) := by decide +kernel
theorem d_R_init_24 : decode b_R_init 24 = .ok (.aload_n 0, 1) := by decide +kernel
theorem d_R_init_25 : decode b_R_init 25 = .ok (.sipush 615, 3) := by decide +kernel
theorem d_R_init_28 : decode b_R_init 28 = .ok (.newarray .int, 2) := by decide +kernel
theorem d_R_init_30 : decode b_R_init 30 = .ok (.putfield 22, 3) := by decide +kernel
theorem d_R_init_33 : decode b_R_init 33 = .ok (.aload_n 0, 1) := by decide +kernel
theorem d_R_init_34 : decode b_R_init 34 = .ok (.iconst 0, 1) := by decide +kernel
theorem d_R_init_35 : decode b_R_init 35 = .ok (.putfield 25, 3) := by decide +kernel
theorem d_R_init_38 : decode b_R_init 38 = .ok (.aload_n 0, 1) := by decide +kernel
theorem d_R_init_39 : decode b_R_init 39 = .ok (.iconst 0, 1) := by decide +kernel
theorem d_R_init_40 : decode b_R_init 40 = .ok (.putfield 29, 3) := by decide +kernel
theorem d_R_init_43 : decode b_R_init 43 = .ok (.aload_n 0, 1) := by decide +kernel
theorem d_R_init_44 : decode b_R_init 44 = .ok (.new 33, 3) := by decide +kernel
theorem d_R_init_47 : decode b_R_init 47 = .ok (.dup, 1) := by decide +kernel
theorem d_R_init_48 : decode b_R_init 48 = .ok (.aload_n 1, 1) := by decide +kernel
theorem d_R_init_49 : decode b_R_init 49 = .ok (.invokespecial 35, 3) := by decide +kernel
theorem d_R_init_52 : decode b_R_init 52 = .ok (.putfield 38, 3) := by decide +kernel
theorem d_R_init_55 : decode b_R_init 55 = .ok (.return_, 1) := by decide +kernel
theorem d_X_init_0 : decode b_X_init 0 = .ok (.aload_n 0, 1) := by decide +kernel
theorem d_X_init_1 : decode b_X_init 1 = .ok (.invokespecial 3, 3) := by decide +kernel
theorem d_X_init_4 : decode b_X_init 4 = .ok (.aload_n 0, 1) := by decide +kernel
theorem d_X_init_5 : decode b_X_init 5 = .ok (.sipush 4654, 3) := by decide +kernel
theorem d_X_init_8 : decode b_X_init 8 = .ok (.newarray .int, 2) := by decide +kernel
theorem d_X_init_10 : decode b_X_init 10 = .ok (.putfield 11, 3) := by decide +kernel
theorem d_X_init_13 : decode b_X_init 13 = .ok (.aload_n 0, 1) := by decide +kernel
theorem d_X_init_14 : decode b_X_init 14 = .ok (.sipush 401, 3) := by decide +kernel
theorem d_X_init_17 : decode b_X_init 17 = .ok (.newarray .int, 2) := by decide +kernel
theorem d_X_init_19 : decode b_X_init 19 = .ok (.putfield 15, 3) := by decide +kernel
theorem d_X_init_22 : decode b_X_init 22 = .ok (.aload_n 0, 1) := by decide +kernel
theorem d_X_init_23 : decode b_X_init 23 = .ok (.iconst 0, 1) := by decide +kernel
theorem d_X_init_24 : decode b_X_init 24 = .ok (.putfield 18, 3) := by decide +kernel
theorem d_X_init_27 : decode b_X_init 27 = .ok (.aload_n 0, 1) := by decide +kernel
theorem d_X_init_28 : decode b_X_init 28 = .ok (.iconst 0, 1) := by decide +kernel
theorem d_X_init_29 : decode b_X_init 29 = .ok (.putfield 22, 3) := by decide +kernel
theorem d_X_init_32 : decode b_X_init 32 = .ok (.return_, 1) := by decide +kernel
theorem d_C_init_0 : decode b_C_init 0 = .ok (.aload_n 0, 1) := by decide +kernel
theorem d_C_init_1 : decode b_C_init 1 = .ok (.invokespecial 3, 3) := by decide +kernel
theorem d_C_init_4 : decode b_C_init 4 = .ok (.aload_n 0, 1) := by decide +kernel
theorem d_C_init_5 : decode b_C_init 5 = .ok (.iconst 0, 1) := by decide +kernel
theorem d_C_init_6 : decode b_C_init 6 = .ok (.putfield 9, 3) := by decide +kernel
theorem d_C_init_9 : decode b_C_init 9 = .ok (.aload_n 0, 1) := by decide +kernel
theorem d_C_init_10 : decode b_C_init 10 = .ok (.iconst 0, 1) := by decide +kernel
theorem d_C_init_11 : decode b_C_init 11 = .ok (.putfield 15, 3) := by decide +kernel
theorem d_C_init_14 : decode b_C_init 14 = .ok (.aload_n 0, 1) := by decide +kernel
theorem d_C_init_15 : decode b_C_init 15 = .ok (.iconst 0, 1) := by decide +kernel
theorem d_C_init_16 : decode b_C_init 16 = .ok (.putfield 18, 3) := by decide +kernel
theorem d_C_init_19 : decode b_C_init 19 = .ok (.aload_n 0, 1) := by decide +kernel
theorem d_C_init_20 : decode b_C_init 20 = .ok (.iconst 0, 1) := by decide +kernel
theorem d_C_init_21 : decode b_C_init 21 = .ok (.putfield 21, 3) := by decide +kernel
theorem d_C_init_24 : decode b_C_init 24 = .ok (.aload_n 0, 1) := by decide +kernel
theorem d_C_init_25 : decode b_C_init 25 = .ok (.iconst 0, 1) := by decide +kernel
theorem d_C_init_26 : decode b_C_init 26 = .ok (.putfield 24, 3) := by decide +kernel
theorem d_C_init_29 : decode b_C_init 29 = .ok (.aload_n 0, 1) := by decide +kernel
theorem d_C_init_30 : decode b_C_init 30 = .ok (.iconst 0, 1) := by decide +kernel
theorem d_C_init_31 : decode b_C_init 31 = .ok (.putfield 27, 3) := by decide +kernel
theorem d_C_init_34 : decode b_C_init 34 = .ok (.aload_n 0, 1) := by decide +kernel
theorem d_C_init_35 : decode b_C_init 35 = .ok (.bipush 6, 2) := by decide +kernel
theorem d_C_init_37 : decode b_C_init 37 = .ok (.newarray .int, 2) := by decide +kernel
theorem d_C_init_39 : decode b_C_init 39 = .ok (.putfield 30, 3) := by decide +kernel
theorem d_C_init_42 : decode b_C_init 42 = .ok (.aload_n 0, 1) := by decide +kernel
theorem d_C_init_43 : decode b_C_init 43 = .ok (.bipush 7, 2) := by decide +kernel
theorem d_C_init_45 : decode b_C_init 45 = .ok (.newarray .int, 2) := by decide +kernel
theorem d_C_init_47 : decode b_C_init 47 = .ok (.putfield 34, 3) := by decide +kernel
theorem d_C_init_50 : decode b_C_init 50 = .ok (.aload_n 0, 1) := by decide +kernel
theorem d_C_init_51 : decode b_C_init 51 = .ok (.bipush 7, 2) := by decide +kernel
theorem d_C_init_53 : decode b_C_init 53 = .ok (.newarray .int, 2) := by decide +kernel
theorem d_C_init_55 : decode b_C_init 55 = .ok (.putfield 37, 3) := by decide +kernel
theorem d_C_init_58 : decode b_C_init 58 = .ok (.aload_n 0, 1) := by decide +kernel
theorem d_C_init_59 : decode b_C_init 59 = .ok (.bipush 8, 2) := by decide +kernel
theorem d_C_init_61 : decode b_C_init 61 = .ok (.newarray .int, 2) := by decide +kernel
theorem d_C_init_63 : decode b_C_init 63 = .ok (.putfield 40, 3) := by decide +kernel
theorem d_C_init_66 : decode b_C_init 66 = .ok (.aload_n 0, 1) := by decide +kernel
theorem d_C_init_67 : decode b_C_init 67 = .ok (.sipush 300, 3) := by decide +kernel
theorem d_C_init_70 : decode b_C_init 70 = .ok (.newarray .int, 2) := by decide +kernel
theorem d_C_init_72 : decode b_C_init 72 = .ok (.putfield 43, 3) := by decide +kernel
theorem d_C_init_75 : decode b_C_init 75 = .ok (.aload_n 0, 1) := by decide +kernel
theorem d_C_init_76 : decode b_C_init 76 = .ok (.sipush 300, 3) := by decide +kernel
theorem d_C_init_79 : decode b_C_init 79 = .ok (.newarray .int, 2) := by decide +kernel
theorem d_C_init_81 : decode b_C_init 81 = .ok (.putfield 46, 3) := by decide +kernel
theorem d_C_init_84 : decode b_C_init 84 = .ok (.aload_n 0, 1) := by decide +kernel
theorem d_C_init_85 : decode b_C_init 85 = .ok (.sipush 300, 3) := by decide +kernel
theorem d_C_init_88 : decode b_C_init 88 = .ok (.newarray .int, 2) := by decide +kernel
theorem d_C_init_90 : decode b_C_init 90 = .ok (.putfield 49, 3) := by decide +kernel
theorem d_C_init_93 : decode b_C_init 93 = .ok (.aload_n 0, 1) := by decide +kernel
theorem d_C_init_94 : decode b_C_init 94 = .ok (.sipush 300, 3) := by decide +kernel
theorem d_C_init_97 : decode b_C_init 97 = .ok (.newarray .int, 2) := by decide +kernel
theorem d_C_init_99 : decode b_C_init 99 = .ok (.putfield 52, 3) := by decide +kernel
theorem d_C_init_102 : decode b_C_init 102 = .ok (.aload_n 0, 1) := by decide +kernel
theorem d_C_init_103 : decode b_C_init 103 = .ok (.sipush 401, 3) := by decide +kernel
theorem d_C_init_106 : decode b_C_init 106 = .ok (.newarray .boolean, 2) := by decide +kernel
theorem d_C_init_108 : decode b_C_init 108 = .ok (.putfield 55, 3) := by decide +kernel
theorem d_C_init_111 : decode b_C_init 111 = .ok (.aload_n 0, 1) := by decide +kernel
theorem d_C_init_112 : decode b_C_init 112 = .ok (.bipush 24, 2) := by decide +kernel
theorem d_C_init_114 : decode b_C_init 114 = .ok (.newarray .int, 2) := by decide +kernel
theorem d_C_init_116 : decode b_C_init 116 = .ok (.putfield 59, 3) := by decide +kernel
theorem d_C_init_119 : decode b_C_init 119 = .ok (.aload_n 0, 1) := by decide +kernel
theorem d_C_init_120 : decode b_C_init 120 = .ok (.sipush 960, 3) := by decide +kernel
theorem d_C_init_123 : decode b_C_init 123 = .ok (.newarray .int, 2) := by decide +kernel
theorem d_C_init_125 : decode b_C_init 125 = .ok (.putfield 62, 3) := by decide +kernel
theorem d_C_init_128 : decode b_C_init 128 = .ok (.aload_n 0, 1) := by decide +kernel
theorem d_C_init_129 : decode b_C_init 129 = .ok (.sipush 401, 3) := by decide +kernel
theorem d_C_init_132 : decode b_C_init 132 = .ok (.newarray .int, 2) := by decide +kernel
theorem d_C_init_134 : decode b_C_init 134 = .ok (.putfield 65, 3) := by decide +kernel
theorem d_C_init_137 : decode b_C_init 137 = .ok (.return_, 1) := by decide +kernel
theorem d_F_init_0 : decode b_F_init 0 = .ok (.aload_n 0, 1) := by decide +kernel
theorem d_F_init_1 : decode b_F_init 1 = .ok (.invokespecial 3, 3) := by decide +kernel
theorem d_F_init_4 : decode b_F_init 4 = .ok (.aload_n 0, 1) := by decide +kernel
theorem d_F_init_5 : decode b_F_init 5 = .ok (.new 9, 3) := by decide +kernel
theorem d_F_init_8 : decode b_F_init 8 = .ok (.dup, 1) := by decide +kernel
theorem d_F_init_9 : decode b_F_init 9 = .ok (.invokespecial 11, 3) := by decide +kernel
theorem d_F_init_12 : decode b_F_init 12 = .ok (.putfield 12, 3) := by decide +kernel
theorem d_F_init_15 : decode b_F_init 15 = .ok (.aload_n 0, 1) := by decide +kernel
theorem d_F_init_16 : decode b_F_init 16 = .ok (.new 16, 3) := by decide +kernel
theorem d_F_init_19 : decode b_F_init 19 = .ok (.dup, 1) := by decide +kernel
theorem d_F_init_20 : decode b_F_init 20 = .ok (.aload_n 0, 1) := by decide +kernel
theorem d_F_init_21 : decode b_F_init 21 = .ok (.getfield 12, 3) := by decide +kernel
theorem d_F_init_24 : decode b_F_init 24 = .ok (.invokespecial 18, 3) := by decide +kernel
theorem d_F_init_27 : decode b_F_init 27 = .ok (.putfield 21, 3) := by decide +kernel
theorem d_F_init_30 : decode b_F_init 30 = .ok (.aload_n 0, 1) := by decide +kernel
theorem d_F_init_31 : decode b_F_init 31 = .ok (.new 25, 3) := by decide +kernel
theorem d_F_init_34 : decode b_F_init 34 = .ok (.dup, 1) := by decide +kernel
theorem d_F_init_35 : decode b_F_init 35 = .ok (.invokespecial 27, 3) := by decide +kernel
theorem d_F_init_38 : decode b_F_init 38 = .ok (.putfield 28, 3) := by decide +kernel
theorem d_F_init_41 : decode b_F_init 41 = .ok (.aload_n 0, 1) := by decide +kernel
theorem d_F_init_42 : decode b_F_init 42 = .ok (.new 25, 3) := by decide +kernel
theorem d_F_init_45 : decode b_F_init 45 = .ok (.dup, 1) := by decide +kernel
theorem d_F_init_46 : decode b_F_init 46 = .ok (.invokespecial 27, 3) := by decide +kernel
theorem d_F_init_49 : decode b_F_init 49 = .ok (.putfield 32, 3) := by decide +kernel
theorem d_F_init_52 : decode b_F_init 52 = .ok (.aload_n 0, 1) := by decide +kernel
theorem d_F_init_53 : decode b_F_init 53 = .ok (.new 35, 3) := by decide +kernel
theorem d_F_init_56 : decode b_F_init 56 = .ok (.dup, 1) := by decide +kernel
theorem d_F_init_57 : decode b_F_init 57 = .ok (.invokespecial 37, 3) := by decide +kernel
theorem d_F_init_60 : decode b_F_init 60 = .ok (.putfield 38, 3) := by decide +kernel
theorem d_F_init_63 : decode b_F_init 63 = .ok (.aload_n 0, 1) := by decide +kernel
theorem d_F_init_64 : decode b_F_init 64 = .ok (.new 35, 3) := by decide +kernel
theorem d_F_init_67 : decode b_F_init 67 = .ok (.dup, 1) := by decide +kernel
theorem d_F_init_68 : decode b_F_init 68 = .ok (.invokespecial 37, 3) := by decide +kernel
theorem d_F_init_71 : decode b_F_init 71 = .ok (.putfield 42, 3) := by decide +kernel
theorem d_F_init_74 : decode b_F_init 74 = .ok (.return_, 1) := by decide +kernel
theorem d_M_init_0 : decode b_M_init 0 = .ok (.aload_n 0, 1) := by decide +kernel
theorem d_M_init_1 : decode b_M_init 1 = .ok (.invokespecial 1, 3) := by decide +kernel
theorem d_M_init_4 : decode b_M_init 4 = .ok (.aload_n 0, 1) := by decide +kernel
theorem d_M_init_5 : decode b_M_init 5 = .ok (.sipush 6000, 3) := by decide +kernel
theorem d_M_init_8 : decode b_M_init 8 = .ok (.newarray .byte, 2) := by decide +kernel
theorem d_M_init_10 : decode b_M_init 10 = .ok (.putfield 7, 3) := by decide +kernel
theorem d_M_init_13 : decode b_M_init 13 = .ok (.aload_n 0, 1) := by decide +kernel
theorem d_M_init_14 : decode b_M_init 14 = .ok (.bipush 20, 2) := by decide +kernel
theorem d_M_init_16 : decode b_M_init 16 = .ok (.newarray .byte, 2) := by decide +kernel
theorem d_M_init_18 : decode b_M_init 18 = .ok (.putfield 13, 3) := by decide +kernel
theorem d_M_init_21 : decode b_M_init 21 = .ok (.aload_n 0, 1) := by decide +kernel
theorem d_M_init_22 : decode b_M_init 22 = .ok (.iconst (-1), 1) := by decide +kernel
theorem d_M_init_23 : decode b_M_init 23 = .ok (.putfield 16, 3) := by decide +kernel
theorem d_M_init_26 : decode b_M_init 26 = .ok (.aload_n 0, 1) := by decide +kernel
theorem d_M_init_27 : decode b_M_init 27 = .ok (.bipush 10, 2) := by decide +kernel
theorem d_M_init_29 : decode b_M_init 29 = .ok (.newarray .int, 2) := by decide +kernel
theorem d_M_init_31 : decode b_M_init 31 = .ok (.putfield 20, 3) := by decide +kernel
theorem d_M_init_34 : decode b_M_init 34 = .ok (.aload_n 0, 1) := by decide +kernel
theorem d_M_init_35 : decode b_M_init 35 = .ok (.bipush 12, 2) := by decide +kernel
theorem d_M_init_37 : decode b_M_init 37 = .ok (.newarray .int, 2) := by decide +kernel
theorem d_M_init_39 : decode b_M_init 39 = .ok (.putfield 24, 3) := by decide +kernel
theorem d_M_init_42 : decode b_M_init 42 = .ok (.aload_n 0, 1) := by decide +kernel
theorem d_M_init_43 : decode b_M_init 43 = .ok (.bipush 16, 2) := by decide +kernel
theorem d_M_init_45 : decode b_M_init 45 = .ok (.newarray .int, 2) := by decide +kernel
theorem d_M_init_47 : decode b_M_init 47 = .ok (.putfield 27, 3) := by decide +kernel
theorem d_M_init_50 : decode b_M_init 50 = .ok (.aload_n 0, 1) := by decide +kernel
theorem d_M_init_51 : decode b_M_init 51 = .ok (.bipush 16, 2) := by decide +kernel
theorem d_M_init_53 : decode b_M_init 53 = .ok (.newarray .int, 2) := by decide +kernel
theorem d_M_init_55 : decode b_M_init 55 = .ok (.putfield 30, 3) := by decide +kernel
theorem d_M_init_58 : decode b_M_init 58 = .ok (.aload_n 0, 1) := by decide +kernel
theorem d_M_init_59 : decode b_M_init 59 = .ok (.bipush 16, 2) := by decide +kernel
theorem d_M_init_61 : decode b_M_init 61 = .ok (.newarray .int, 2) := by decide +kernel
theorem d_M_init_63 : decode b_M_init 63 = .ok (.putfield 33, 3) := by decide +kernel
theorem d_M_init_66 : decode b_M_init 66 = .ok (.aload_n 0, 1) := by decide +kernel
theorem d_M_init_67 : decode b_M_init 67 = .ok (.sipush 600, 3) := by decide +kernel
theorem d_M_init_70 : decode b_M_init 70 = .ok (.newarray .int, 2) := by decide +kernel
theorem d_M_init_72 : decode b_M_init 72 = .ok (.putfield 36, 3) := by decide +kernel
theorem d_M_init_75 : decode b_M_init 75 = .ok (.aload_n 0, 1) := by decide +kernel
theorem d_M_init_76 : decode b_M_init 76 = .ok (.sipush 600, 3) := by decide +kernel
theorem d_M_init_79 : decode b_M_init 79 = .ok (.newarray .int, 2) := by decide +kernel
theorem d_M_init_81 : decode b_M_init 81 = .ok (.putfield 39, 3) := by decide +kernel
theorem d_M_init_84 : decode b_M_init 84 = .ok (.aload_n 0, 1) := by decide +kernel
theorem d_M_init_85 : decode b_M_init 85 = .ok (.sipush 600, 3) := by decide +kernel
theorem d_M_init_88 : decode b_M_init 88 = .ok (.newarray .int, 2) := by decide +kernel
theorem d_M_init_90 : decode b_M_init 90 = .ok (.putfield 42, 3) := by decide +kernel
theorem d_M_init_93 : decode b_M_init 93 = .ok (.aload_n 0, 1) := by decide +kernel
theorem d_M_init_94 : decode b_M_init 94 = .ok (.sipush 802, 3) := by decide +kernel
theorem d_M_init_97 : decode b_M_init 97 = .ok (.newarray .int, 2) := by decide +kernel
theorem d_M_init_99 : decode b_M_init 99 = .ok (.putfield 45, 3) := by decide +kernel
theorem d_M_init_102 : decode b_M_init 102 = .ok (.aload_n 0, 1) := by decide +kernel
theorem d_M_init_103 : decode b_M_init 103 = .ok (.sipush 802, 3) := by decide +kernel
theorem d_M_init_106 : decode b_M_init 106 = .ok (.newarray .int, 2) := by decide +kernel
theorem d_M_init_108 : decode b_M_init 108 = .ok (.putfield 48, 3) := by decide +kernel
theorem d_M_init_111 : decode b_M_init 111 = .ok (.aload_n 0, 1) := by decide +kernel
theorem d_M_init_112 : decode b_M_init 112 = .ok (.bipush 8, 2) := by decide +kernel
theorem d_M_init_114 : decode b_M_init 114 = .ok (.newarray .int, 2) := by decide +kernel
theorem d_M_init_116 : decode b_M_init 116 = .ok (.putfield 51, 3) := by decide +kernel
theorem d_M_init_119 : decode b_M_init 119 = .ok (.aload_n 0, 1) := by decide +kernel
theorem d_M_init_120 : decode b_M_init 120 = .ok (.bipush 8, 2) := by decide +kernel
theorem d_M_init_122 : decode b_M_init 122 = .ok (.newarray .int, 2) := by decide +kernel
theorem d_M_init_124 : decode b_M_init 124 = .ok (.putfield 54, 3) := by decide +kernel
theorem d_M_init_127 : decode b_M_init 127 = .ok (.aload_n 0, 1) := by decide +kernel
theorem d_M_init_128 : decode b_M_init 128 = .ok (.sipush 300, 3) := by decide +kernel
theorem d_M_init_131 : decode b_M_init 131 = .ok (.newarray .int, 2) := by decide +kernel
theorem d_M_init_133 : decode b_M_init 133 = .ok (.putfield 57, 3) := by decide +kernel
theorem d_M_init_136 : decode b_M_init 136 = .ok (.aload_n 0, 1) := by decide +kernel
theorem d_M_init_137 : decode b_M_init 137 = .ok (.sipush 300, 3) := by decide +kernel
theorem d_M_init_140 : decode b_M_init 140 = .ok (.newarray .int, 2) := by decide +kernel
theorem d_M_init_142 : decode b_M_init 142 = .ok (.putfield 60, 3) := by decide +kernel
theorem d_M_init_145 : decode b_M_init 145 = .ok (.aload_n 0, 1) := by decide +kernel
theorem d_M_init_146 : decode b_M_init 146 = .ok (.sipush 1760, 3) := by decide +kernel
theorem d_M_init_149 : decode b_M_init 149 = .ok (.newarray .byte, 2) := by decide +kernel
theorem d_M_init_151 : decode b_M_init 151 = .ok (.putfield 63, 3) := by decide +kernel
theorem d_M_init_154 : decode b_M_init 154 = .ok (.aload_n 0, 1) := by decide +kernel
theorem d_M_init_155 : decode b_M_init 155 = .ok (.bipush 44, 2) := by decide +kernel
theorem d_M_init_157 : decode b_M_init 157 = .ok (.newarray .int, 2) := by decide +kernel
theorem d_M_init_159 : decode b_M_init 159 = .ok (.putfield 66, 3) := by decide +kernel
theorem d_M_init_162 : decode b_M_init 162 = .ok (.aload_n 0, 1) := by decide +kernel
theorem d_M_init_163 : decode b_M_init 163 = .ok (.sipush 300, 3) := by decide +kernel
theorem d_M_init_166 : decode b_M_init 166 = .ok (.newarray .int, 2) := by decide +kernel
theorem d_M_init_168 : decode b_M_init 168 = .ok (.putfield 69, 3) := by decide +kernel
theorem d_M_init_171 : decode b_M_init 171 = .ok (.aload_n 0, 1) := by decide +kernel
theorem d_M_init_172 : decode b_M_init 172 = .ok (.sipush 401, 3) := by decide +kernel
theorem d_M_init_175 : decode b_M_init 175 = .ok (.newarray .int, 2) := by decide +kernel
theorem d_M_init_177 : decode b_M_init 177 = .ok (.putfield 72, 3) := by decide +kernel
theorem d_M_init_180 : decode b_M_init 180 = .ok (.aload_n 0, 1) := by decide +kernel
theorem d_M_init_181 : decode b_M_init 181 = .ok (.sipush 401, 3) := by decide +kernel
theorem d_M_init_184 : decode b_M_init 184 = .ok (.newarray .boolean, 2) := by decide +kernel
theorem d_M_init_186 : decode b_M_init 186 = .ok (.putfield 75, 3) := by decide +kernel
theorem d_M_init_189 : decode b_M_init 189 = .ok (.aload_n 0, 1) := by decide +kernel
theorem d_M_init_190 : decode b_M_init 190 = .ok (.sipush 401, 3) := by decide +kernel
theorem d_M_init_193 : decode b_M_init 193 = .ok (.newarray .int, 2) := by decide +kernel
theorem d_M_init_195 : decode b_M_init 195 = .ok (.putfield 79, 3) := by decide +kernel
theorem d_M_init_198 : decode b_M_init 198 = .ok (.aload_n 0, 1) := by decide +kernel
theorem d_M_init_199 : decode b_M_init 199 = .ok (.sipush 12000, 3) := by decide +kernel
theorem d_M_init_202 : decode b_M_init 202 = .ok (.newarray .byte, 2) := by decide +kernel
theorem d_M_init_204 : decode b_M_init 204 = .ok (.putfield 82, 3) := by decide +kernel
theorem d_M_init_207 : decode b_M_init 207 = .ok (.return_, 1) := by decide +kernel
theorem tb_23 : Cond.methodLink R_F 3 objectInit ∈ TB := tb_mem (i := 86) (by decide +kernel) (by decide +kernel)
theorem tb_24 : Cond.instanceMethod objectInit ∈ TB := tb_mem (i := 87) (by decide +kernel) (by decide +kernel)
theorem tb_25 : Cond.code objectInit ⟨#[0xb1]⟩ 1 none ∈ TB := tb_mem (i := 88) (by decide +kernel) (by decide +kernel)
theorem tb_26 : Cond.classLink R_F 9 R_T ∈ TB := tb_mem (i := 89) (by decide +kernel) (by decide +kernel)
theorem tb_27 : Cond.instantiable R_T 3 ∈ TB := tb_mem (i := 90) (by decide +kernel) (by decide +kernel)
theorem tb_29 : Cond.instanceMethod y_T_init ∈ TB := tb_mem (i := 92) (by decide +kernel) (by decide +kernel)
theorem tb_30 : Cond.code y_T_init b_T_init 1 none ∈ TB := tb_mem (i := 93) (by decide +kernel) (by decide +kernel)
theorem tb_31 : Cond.methodLink R_T 3 objectInit ∈ TB := tb_mem (i := 94) (by decide +kernel) (by decide +kernel)
theorem tb_44 : Cond.arrayClass (newarray.typeOf .int) ∈ TB := tb_mem (i := 107) (by decide +kernel) (by decide +kernel)
theorem tb_45 : Cond.classLink R_F 16 R_R ∈ TB := tb_mem (i := 108) (by decide +kernel) (by decide +kernel)
theorem tb_46 : Cond.instantiable R_R 6 ∈ TB := tb_mem (i := 109) (by decide +kernel) (by decide +kernel)
theorem tb_47 : Cond.methodLink R_F 18 y_R_init ∈ TB := tb_mem (i := 110) (by decide +kernel) (by decide +kernel)
theorem tb_48 : Cond.instanceMethod y_R_init ∈ TB := tb_mem (i := 111) (by decide +kernel) (by decide +kernel)
theorem tb_49 : Cond.code y_R_init b_R_init 2 none ∈ TB := tb_mem (i := 112) (by decide +kernel) (by decide +kernel)
theorem tb_50 : Cond.methodLink R_R 3 objectInit ∈ TB := tb_mem (i := 113) (by decide +kernel) (by decide +kernel)
theorem tb_51 : Cond.classLink R_R 9 R_S ∈ TB := tb_mem (i := 114) (by decide +kernel) (by decide +kernel)
theorem tb_52 : Cond.instantiable R_S 5 ∈ TB := tb_mem (i := 115) (by decide +kernel) (by decide +kernel)
theorem tb_54 : Cond.instanceMethod y_S_init ∈ TB := tb_mem (i := 117) (by decide +kernel) (by decide +kernel)
theorem tb_55 : Cond.code y_S_init b_S_init 1 none ∈ TB := tb_mem (i := 118) (by decide +kernel) (by decide +kernel)
theorem tb_56 : Cond.methodLink R_S 3 objectInit ∈ TB := tb_mem (i := 119) (by decide +kernel) (by decide +kernel)
theorem tb_73 : Cond.arrayClass (newarray.typeOf .boolean) ∈ TB := tb_mem (i := 136) (by decide +kernel) (by decide +kernel)
theorem tb_74 : Cond.classLink R_R 33 R_U ∈ TB := tb_mem (i := 137) (by decide +kernel) (by decide +kernel)
theorem tb_75 : Cond.instantiable R_U 6 ∈ TB := tb_mem (i := 138) (by decide +kernel) (by decide +kernel)
theorem tb_76 : Cond.methodLink R_R 35 y_U_init ∈ TB := tb_mem (i := 139) (by decide +kernel) (by decide +kernel)
theorem tb_77 : Cond.instanceMethod y_U_init ∈ TB := tb_mem (i := 140) (by decide +kernel) (by decide +kernel)
theorem tb_78 : Cond.code y_U_init b_U_init 2 none ∈ TB := tb_mem (i := 141) (by decide +kernel) (by decide +kernel)
theorem tb_79 : Cond.methodLink R_U 3 objectInit ∈ TB := tb_mem (i := 142) (by decide +kernel) (by decide +kernel)
theorem tb_123 : Cond.classLink R_F 25 R_X ∈ TB := tb_mem (i := 186) (by decide +kernel) (by decide +kernel)
theorem tb_124 : Cond.instantiable R_X 4 ∈ TB := tb_mem (i := 187) (by decide +kernel) (by decide +kernel)
theorem tb_126 : Cond.instanceMethod y_X_init ∈ TB := tb_mem (i := 189) (by decide +kernel) (by decide +kernel)
theorem tb_127 : Cond.code y_X_init b_X_init 1 none ∈ TB := tb_mem (i := 190) (by decide +kernel) (by decide +kernel)
theorem tb_128 : Cond.methodLink R_X 3 objectInit ∈ TB := tb_mem (i := 191) (by decide +kernel) (by decide +kernel)
theorem tb_142 : Cond.classLink R_F 35 R_C ∈ TB := tb_mem (i := 205) (by decide +kernel) (by decide +kernel)
theorem tb_143 : Cond.instantiable R_C 18 ∈ TB := tb_mem (i := 206) (by decide +kernel) (by decide +kernel)
theorem tb_145 : Cond.instanceMethod y_C_init ∈ TB := tb_mem (i := 208) (by decide +kernel) (by decide +kernel)
theorem tb_146 : Cond.code y_C_init b_C_init 1 none ∈ TB := tb_mem (i := 209) (by decide +kernel) (by decide +kernel)
theorem tb_147 : Cond.methodLink R_C 3 objectInit ∈ TB := tb_mem (i := 210) (by decide +kernel) (by decide +kernel)
theorem tb_178 : Cond.fieldLink R_C 37 "CircuitFiles$Circuit" "latchNext" "[I" ∈ TB := tb_mem (i := 241) (by decide +kernel) (by decide +kernel)
theorem tb_182 : Cond.fieldLink R_C 40 "CircuitFiles$Circuit" "outputLiteral" "[I" ∈ TB := tb_mem (i := 245) (by decide +kernel) (by decide +kernel)
theorem tb_207 : Cond.fieldLink R_C 62 "CircuitFiles$Circuit" "nameBytes" "[I" ∈ TB := tb_mem (i := 270) (by decide +kernel) (by decide +kernel)
theorem tb_254 : Cond.fieldLink R_F 42 "CircuitFiles" "draft" "LCircuitFiles$Circuit;" ∈ TB := tb_mem (i := 317) (by decide +kernel) (by decide +kernel)
theorem tb_412 : Cond.arrayClass (newarray.typeOf .byte) ∈ TB := tb_mem (i := 475) (by decide +kernel) (by decide +kernel)
theorem tb_671 : Cond.methodLink R_M 1 objectInit ∈ TB := tb_mem (i := 734) (by decide +kernel) (by decide +kernel)
