theorem d_R_readCount_0 : decode b_R_readCount 0 = .ok (.aload_n 0, 1) := by decide +kernel
theorem d_R_readCount_1 : decode b_R_readCount 1 = .ok (.getfield 38, 3) := by decide +kernel
theorem d_R_readCount_4 : decode b_R_readCount 4 = .ok (.bipush 32, 2) := by decide +kernel
theorem d_R_readCount_6 : decode b_R_readCount 6 = .ok (.invokevirtual 84, 3) := by decide +kernel
theorem d_R_readCount_9 : decode b_R_readCount 9 = .ok (.ifCond .eq 17, 3) := by decide +kernel
theorem d_R_readCount_12 : decode b_R_readCount 12 = .ok (.aload_n 0, 1) := by decide +kernel
theorem d_R_readCount_13 : decode b_R_readCount 13 = .ok (.getfield 38, 3) := by decide +kernel
theorem d_R_readCount_16 : decode b_R_readCount 16 = .ok (.invokevirtual 125, 3) := by decide +kernel
theorem d_R_readCount_19 : decode b_R_readCount 19 = .ok (.ifCond .eq 7, 3) := by decide +kernel
theorem d_R_readCount_22 : decode b_R_readCount 22 = .ok (.iconst 1, 1) := by decide +kernel
theorem d_R_readCount_23 : decode b_R_readCount 23 = .ok (.goto 4, 3) := by decide +kernel
theorem d_R_readCount_26 : decode b_R_readCount 26 = .ok (.iconst 0, 1) := by decide +kernel
theorem d_R_readCount_27 : decode b_R_readCount 27 = .ok (.ireturn, 1) := by decide +kernel
theorem d_R_readHeader_0 : decode b_R_readHeader 0 = .ok (.aload_n 0, 1) := by decide +kernel
theorem d_R_readHeader_1 : decode b_R_readHeader 1 = .ok (.getfield 38, 3) := by decide +kernel
theorem d_R_readHeader_4 : decode b_R_readHeader 4 = .ok (.bipush 97, 2) := by decide +kernel
theorem d_R_readHeader_6 : decode b_R_readHeader 6 = .ok (.invokevirtual 84, 3) := by decide +kernel
theorem d_R_readHeader_9 : decode b_R_readHeader 9 = .ok (.ifCond .ne 5, 3) := by decide +kernel
theorem d_R_readHeader_12 : decode b_R_readHeader 12 = .ok (.iconst 0, 1) := by decide +kernel
theorem d_R_readHeader_13 : decode b_R_readHeader 13 = .ok (.ireturn, 1) := by decide +kernel
theorem d_R_readHeader_14 : decode b_R_readHeader 14 = .ok (.aload_n 0, 1) := by decide +kernel
theorem d_R_readHeader_15 : decode b_R_readHeader 15 = .ok (.aload_n 0, 1) := by decide +kernel
theorem d_R_readHeader_16 : decode b_R_readHeader 16 = .ok (.getfield 38, 3) := by decide +kernel
theorem d_R_readHeader_19 : decode b_R_readHeader 19 = .ok (.invokevirtual 88, 3) := by decide +kernel
theorem d_R_readHeader_22 : decode b_R_readHeader 22 = .ok (.bipush 105, 2) := by decide +kernel
theorem d_R_readHeader_24 : decode b_R_readHeader 24 = .ok (.if_icmp .ne 7, 3) := by decide +kernel
theorem d_R_readHeader_27 : decode b_R_readHeader 27 = .ok (.iconst 1, 1) := by decide +kernel
theorem d_R_readHeader_28 : decode b_R_readHeader 28 = .ok (.goto 4, 3) := by decide +kernel
theorem d_R_readHeader_31 : decode b_R_readHeader 31 = .ok (.iconst 0, 1) := by decide +kernel
theorem d_R_readHeader_32 : decode b_R_readHeader 32 = .ok (.putfield 29, 3) := by decide +kernel
theorem d_R_readHeader_35 : decode b_R_readHeader 35 = .ok (.aload_n 0, 1) := by decide +kernel
theorem d_R_readHeader_36 : decode b_R_readHeader 36 = .ok (.getfield 38, 3) := by decide +kernel
theorem d_R_readHeader_39 : decode b_R_readHeader 39 = .ok (.aload_n 0, 1) := by decide +kernel
theorem d_R_readHeader_40 : decode b_R_readHeader 40 = .ok (.getfield 29, 3) := by decide +kernel
theorem d_R_readHeader_43 : decode b_R_readHeader 43 = .ok (.ifCond .eq 8, 3) := by decide +kernel
theorem d_R_readHeader_46 : decode b_R_readHeader 46 = .ok (.bipush 105, 2) := by decide +kernel
theorem d_R_readHeader_48 : decode b_R_readHeader 48 = .ok (.goto 5, 3) := by decide +kernel
theorem d_R_readHeader_51 : decode b_R_readHeader 51 = .ok (.bipush 97, 2) := by decide +kernel
theorem d_R_readHeader_53 : decode b_R_readHeader 53 = .ok (.invokevirtual 84, 3) := by decide +kernel
theorem d_R_readHeader_56 : decode b_R_readHeader 56 = .ok (.ifCond .eq 22, 3) := by decide +kernel
theorem d_R_readHeader_59 : decode b_R_readHeader 59 = .ok (.aload_n 0, 1) := by decide +kernel
theorem d_R_readHeader_60 : decode b_R_readHeader 60 = .ok (.getfield 38, 3) := by decide +kernel
theorem d_R_readHeader_63 : decode b_R_readHeader 63 = .ok (.bipush 103, 2) := by decide +kernel
theorem d_R_readHeader_65 : decode b_R_readHeader 65 = .ok (.invokevirtual 84, 3) := by decide +kernel
theorem d_R_readHeader_68 : decode b_R_readHeader 68 = .ok (.ifCond .eq 10, 3) := by decide +kernel
theorem d_R_readHeader_71 : decode b_R_readHeader 71 = .ok (.aload_n 0, 1) := by decide +kernel
theorem d_R_readHeader_72 : decode b_R_readHeader 72 = .ok (.invokevirtual 92, 3) := by decide +kernel
theorem d_R_readHeader_75 : decode b_R_readHeader 75 = .ok (.ifCond .ne 5, 3) := by decide +kernel
theorem d_R_readHeader_78 : decode b_R_readHeader 78 = .ok (.iconst 0, 1) := by decide +kernel
theorem d_R_readHeader_79 : decode b_R_readHeader 79 = .ok (.ireturn, 1) := by decide +kernel
theorem d_R_readHeader_80 : decode b_R_readHeader 80 = .ok (.aload_n 1, 1) := by decide +kernel
theorem d_R_readHeader_81 : decode b_R_readHeader 81 = .ok (.aload_n 0, 1) := by decide +kernel
theorem d_R_readHeader_82 : decode b_R_readHeader 82 = .ok (.getfield 38, 3) := by decide +kernel
theorem d_R_readHeader_85 : decode b_R_readHeader 85 = .ok (.getfield 96, 3) := by decide +kernel
theorem d_R_readHeader_88 : decode b_R_readHeader 88 = .ok (.putfield 99, 3) := by decide +kernel
theorem d_R_readHeader_91 : decode b_R_readHeader 91 = .ok (.aload_n 0, 1) := by decide +kernel
theorem d_R_readHeader_92 : decode b_R_readHeader 92 = .ok (.invokevirtual 92, 3) := by decide +kernel
theorem d_R_readHeader_95 : decode b_R_readHeader 95 = .ok (.ifCond .ne 5, 3) := by decide +kernel
theorem d_R_readHeader_98 : decode b_R_readHeader 98 = .ok (.iconst 0, 1) := by decide +kernel
theorem d_R_readHeader_99 : decode b_R_readHeader 99 = .ok (.ireturn, 1) := by decide +kernel
theorem d_R_readHeader_100 : decode b_R_readHeader 100 = .ok (.aload_n 1, 1) := by decide +kernel
theorem d_R_readHeader_101 : decode b_R_readHeader 101 = .ok (.aload_n 0, 1) := by decide +kernel
theorem d_R_readHeader_102 : decode b_R_readHeader 102 = .ok (.getfield 38, 3) := by decide +kernel
theorem d_R_readHeader_105 : decode b_R_readHeader 105 = .ok (.getfield 96, 3) := by decide +kernel
theorem d_R_readHeader_108 : decode b_R_readHeader 108 = .ok (.putfield 102, 3) := by decide +kernel
theorem d_R_readHeader_111 : decode b_R_readHeader 111 = .ok (.aload_n 0, 1) := by decide +kernel
theorem d_R_readHeader_112 : decode b_R_readHeader 112 = .ok (.invokevirtual 92, 3) := by decide +kernel
theorem d_R_readHeader_115 : decode b_R_readHeader 115 = .ok (.ifCond .ne 5, 3) := by decide +kernel
theorem d_R_readHeader_118 : decode b_R_readHeader 118 = .ok (.iconst 0, 1) := by decide +kernel
theorem d_R_readHeader_119 : decode b_R_readHeader 119 = .ok (.ireturn, 1) := by decide +kernel
theorem d_R_readHeader_120 : decode b_R_readHeader 120 = .ok (.aload_n 1, 1) := by decide +kernel
theorem d_R_readHeader_121 : decode b_R_readHeader 121 = .ok (.aload_n 0, 1) := by decide +kernel
theorem d_R_readHeader_122 : decode b_R_readHeader 122 = .ok (.getfield 38, 3) := by decide +kernel
theorem d_R_readHeader_125 : decode b_R_readHeader 125 = .ok (.getfield 96, 3) := by decide +kernel
theorem d_R_readHeader_128 : decode b_R_readHeader 128 = .ok (.putfield 105, 3) := by decide +kernel
theorem d_R_readHeader_131 : decode b_R_readHeader 131 = .ok (.aload_n 0, 1) := by decide +kernel
theorem d_R_readHeader_132 : decode b_R_readHeader 132 = .ok (.invokevirtual 92, 3) := by decide +kernel
theorem d_R_readHeader_135 : decode b_R_readHeader 135 = .ok (.ifCond .ne 5, 3) := by decide +kernel
theorem d_R_readHeader_138 : decode b_R_readHeader 138 = .ok (.iconst 0, 1) := by decide +kernel
theorem d_R_readHeader_139 : decode b_R_readHeader 139 = .ok (.ireturn, 1) := by decide +kernel
theorem d_R_readHeader_140 : decode b_R_readHeader 140 = .ok (.aload_n 1, 1) := by decide +kernel
theorem d_R_readHeader_141 : decode b_R_readHeader 141 = .ok (.aload_n 0, 1) := by decide +kernel
theorem d_R_readHeader_142 : decode b_R_readHeader 142 = .ok (.getfield 38, 3) := by decide +kernel
theorem d_R_readHeader_145 : decode b_R_readHeader 145 = .ok (.getfield 96, 3) := by decide +kernel
theorem d_R_readHeader_148 : decode b_R_readHeader 148 = .ok (.putfield 108, 3) := by decide +kernel
theorem d_R_readHeader_151 : decode b_R_readHeader 151 = .ok (.aload_n 0, 1) := by decide +kernel
theorem d_R_readHeader_152 : decode b_R_readHeader 152 = .ok (.invokevirtual 92, 3) := by decide +kernel
theorem d_R_readHeader_155 : decode b_R_readHeader 155 = .ok (.ifCond .ne 5, 3) := by decide +kernel
theorem d_R_readHeader_158 : decode b_R_readHeader 158 = .ok (.iconst 0, 1) := by decide +kernel
theorem d_R_readHeader_159 : decode b_R_readHeader 159 = .ok (.ireturn, 1) := by decide +kernel
theorem d_R_readHeader_160 : decode b_R_readHeader 160 = .ok (.aload_n 1, 1) := by decide +kernel
theorem d_R_readHeader_161 : decode b_R_readHeader 161 = .ok (.aload_n 0, 1) := by decide +kernel
theorem d_R_readHeader_162 : decode b_R_readHeader 162 = .ok (.getfield 38, 3) := by decide +kernel
theorem d_R_readHeader_165 : decode b_R_readHeader 165 = .ok (.getfield 96, 3) := by decide +kernel
theorem d_R_readHeader_168 : decode b_R_readHeader 168 = .ok (.putfield 111, 3) := by decide +kernel
theorem d_R_readHeader_171 : decode b_R_readHeader 171 = .ok (.aload_n 0, 1) := by decide +kernel
theorem d_R_readHeader_172 : decode b_R_readHeader 172 = .ok (.getfield 38, 3) := by decide +kernel
theorem d_R_readHeader_175 : decode b_R_readHeader 175 = .ok (.bipush 10, 2) := by decide +kernel
theorem d_R_readHeader_177 : decode b_R_readHeader 177 = .ok (.invokevirtual 84, 3) := by decide +kernel
theorem d_R_readHeader_180 : decode b_R_readHeader 180 = .ok (.ifCond .ne 5, 3) := by decide +kernel
theorem d_R_readHeader_183 : decode b_R_readHeader 183 = .ok (.iconst 0, 1) := by decide +kernel
theorem d_R_readHeader_184 : decode b_R_readHeader 184 = .ok (.ireturn, 1) := by decide +kernel
theorem d_R_readHeader_185 : decode b_R_readHeader 185 = .ok (.aload_n 1, 1) := by decide +kernel
theorem d_R_readHeader_186 : decode b_R_readHeader 186 = .ok (.aload_n 0, 1) := by decide +kernel
theorem d_R_readHeader_187 : decode b_R_readHeader 187 = .ok (.getfield 29, 3) := by decide +kernel
theorem d_R_readHeader_190 : decode b_R_readHeader 190 = .ok (.invokevirtual 114, 3) := by decide +kernel
theorem d_R_readHeader_193 : decode b_R_readHeader 193 = .ok (.ifCond .ne 21, 3) := by decide +kernel
theorem d_R_readHeader_196 : decode b_R_readHeader 196 = .ok (.aload_n 0, 1) := by decide +kernel
theorem d_R_readHeader_197 : decode b_R_readHeader 197 = .ok (.getfield 38, 3) := by decide +kernel
theorem d_R_readHeader_200 : decode b_R_readHeader 200 = .ok (.iconst 2, 1) := by decide +kernel
theorem d_R_readHeader_201 : decode b_R_readHeader 201 = .ok (.aload_n 0, 1) := by decide +kernel
theorem d_R_readHeader_202 : decode b_R_readHeader 202 = .ok (.getfield 38, 3) := by decide +kernel
theorem d_R_readHeader_205 : decode b_R_readHeader 205 = .ok (.getfield 118, 3) := by decide +kernel
theorem d_R_readHeader_208 : decode b_R_readHeader 208 = .ok (.invokevirtual 121, 3) := by decide +kernel
theorem d_R_readHeader_211 : decode b_R_readHeader 211 = .ok (.ifCond .eq 7, 3) := by decide +kernel
theorem d_R_readHeader_214 : decode b_R_readHeader 214 = .ok (.iconst 1, 1) := by decide +kernel
theorem d_R_readHeader_215 : decode b_R_readHeader 215 = .ok (.goto 4, 3) := by decide +kernel
theorem d_R_readHeader_218 : decode b_R_readHeader 218 = .ok (.iconst 0, 1) := by decide +kernel
theorem d_R_readHeader_219 : decode b_R_readHeader 219 = .ok (.ireturn, 1) := by decide +kernel
theorem d_R_readLiteral_0 : decode b_R_readLiteral 0 = .ok (.aload_n 0, 1) := by decide +kernel
theorem d_R_readLiteral_1 : decode b_R_readLiteral 1 = .ok (.getfield 38, 3) := by decide +kernel
theorem d_R_readLiteral_4 : decode b_R_readLiteral 4 = .ok (.invokevirtual 125, 3) := by decide +kernel
theorem d_R_readLiteral_7 : decode b_R_readLiteral 7 = .ok (.ifCond .ne 5, 3) := by decide +kernel
theorem d_R_readLiteral_10 : decode b_R_readLiteral 10 = .ok (.iconst 0, 1) := by decide +kernel
theorem d_R_readLiteral_11 : decode b_R_readLiteral 11 = .ok (.ireturn, 1) := by decide +kernel
theorem d_R_readLiteral_12 : decode b_R_readLiteral 12 = .ok (.aload_n 0, 1) := by decide +kernel
theorem d_R_readLiteral_13 : decode b_R_readLiteral 13 = .ok (.getfield 38, 3) := by decide +kernel
theorem d_R_readLiteral_16 : decode b_R_readLiteral 16 = .ok (.getfield 96, 3) := by decide +kernel
theorem d_R_readLiteral_19 : decode b_R_readLiteral 19 = .ok (.aload_n 1, 1) := by decide +kernel
theorem d_R_readLiteral_20 : decode b_R_readLiteral 20 = .ok (.invokevirtual 168, 3) := by decide +kernel
theorem d_R_readLiteral_23 : decode b_R_readLiteral 23 = .ok (.if_icmp .le 21, 3) := by decide +kernel
theorem d_R_readLiteral_26 : decode b_R_readLiteral 26 = .ok (.aload_n 0, 1) := by decide +kernel
theorem d_R_readLiteral_27 : decode b_R_readLiteral 27 = .ok (.getfield 38, 3) := by decide +kernel
theorem d_R_readLiteral_30 : decode b_R_readLiteral 30 = .ok (.iconst 3, 1) := by decide +kernel
theorem d_R_readLiteral_31 : decode b_R_readLiteral 31 = .ok (.aload_n 0, 1) := by decide +kernel
theorem d_R_readLiteral_32 : decode b_R_readLiteral 32 = .ok (.getfield 38, 3) := by decide +kernel
theorem d_R_readLiteral_35 : decode b_R_readLiteral 35 = .ok (.getfield 165, 3) := by decide +kernel
theorem d_R_readLiteral_38 : decode b_R_readLiteral 38 = .ok (.invokevirtual 121, 3) := by decide +kernel
theorem d_R_readLiteral_41 : decode b_R_readLiteral 41 = .ok (.ifCond .eq 7, 3) := by decide +kernel
theorem d_R_readLiteral_44 : decode b_R_readLiteral 44 = .ok (.iconst 1, 1) := by decide +kernel
theorem d_R_readLiteral_45 : decode b_R_readLiteral 45 = .ok (.goto 4, 3) := by decide +kernel
theorem d_R_readLiteral_48 : decode b_R_readLiteral 48 = .ok (.iconst 0, 1) := by decide +kernel
theorem d_R_readLiteral_49 : decode b_R_readLiteral 49 = .ok (.ireturn, 1) := by decide +kernel
theorem d_R_readDefinition_0 : decode b_R_readDefinition 0 = .ok (.aload_n 0, 1) := by decide +kernel
theorem d_R_readDefinition_1 : decode b_R_readDefinition 1 = .ok (.aload_n 1, 1) := by decide +kernel
theorem d_R_readDefinition_2 : decode b_R_readDefinition 2 = .ok (.invokevirtual 171, 3) := by decide +kernel
theorem d_R_readDefinition_5 : decode b_R_readDefinition 5 = .ok (.ifCond .ne 5, 3) := by decide +kernel
theorem d_R_readDefinition_8 : decode b_R_readDefinition 8 = .ok (.iconst 0, 1) := by decide +kernel
theorem d_R_readDefinition_9 : decode b_R_readDefinition 9 = .ok (.ireturn, 1) := by decide +kernel
theorem d_R_readDefinition_10 : decode b_R_readDefinition 10 = .ok (.aload_n 0, 1) := by decide +kernel
theorem d_R_readDefinition_11 : decode b_R_readDefinition 11 = .ok (.getfield 38, 3) := by decide +kernel
theorem d_R_readDefinition_14 : decode b_R_readDefinition 14 = .ok (.getfield 96, 3) := by decide +kernel
theorem d_R_readDefinition_17 : decode b_R_readDefinition 17 = .ok (.istore_n 2, 1) := by decide +kernel
theorem d_R_readDefinition_18 : decode b_R_readDefinition 18 = .ok (.iload_n 2, 1) := by decide +kernel
theorem d_R_readDefinition_19 : decode b_R_readDefinition 19 = .ok (.iconst 2, 1) := by decide +kernel
theorem d_R_readDefinition_20 : decode b_R_readDefinition 20 = .ok (.if_icmp .lt 24, 3) := by decide +kernel
theorem d_R_readDefinition_23 : decode b_R_readDefinition 23 = .ok (.iload_n 2, 1) := by decide +kernel
theorem d_R_readDefinition_24 : decode b_R_readDefinition 24 = .ok (.iconst 1, 1) := by decide +kernel
theorem d_R_readDefinition_25 : decode b_R_readDefinition 25 = .ok (.iand, 1) := by decide +kernel
theorem d_R_readDefinition_26 : decode b_R_readDefinition 26 = .ok (.ifCond .ne 18, 3) := by decide +kernel
theorem d_R_readDefinition_29 : decode b_R_readDefinition 29 = .ok (.aload_n 1, 1) := by decide +kernel
theorem d_R_readDefinition_30 : decode b_R_readDefinition 30 = .ok (.getfield 134, 3) := by decide +kernel
theorem d_R_readDefinition_33 : decode b_R_readDefinition 33 = .ok (.iload_n 2, 1) := by decide +kernel
theorem d_R_readDefinition_34 : decode b_R_readDefinition 34 = .ok (.iconst 1, 1) := by decide +kernel
theorem d_R_readDefinition_35 : decode b_R_readDefinition 35 = .ok (.ishr, 1) := by decide +kernel
theorem d_R_readDefinition_36 : decode b_R_readDefinition 36 = .ok (.baload, 1) := by decide +kernel
theorem d_R_readDefinition_37 : decode b_R_readDefinition 37 = .ok (.ifCond .ne 7, 3) := by decide +kernel
theorem d_R_readDefinition_40 : decode b_R_readDefinition 40 = .ok (.iconst 1, 1) := by decide +kernel
theorem d_R_readDefinition_41 : decode b_R_readDefinition 41 = .ok (.goto 4, 3) := by decide +kernel
theorem d_R_readDefinition_44 : decode b_R_readDefinition 44 = .ok (.iconst 0, 1) := by decide +kernel
theorem d_R_readDefinition_45 : decode b_R_readDefinition 45 = .ok (.istore_n 3, 1) := by decide +kernel
theorem d_R_readDefinition_46 : decode b_R_readDefinition 46 = .ok (.iload_n 3, 1) := by decide +kernel
theorem d_R_readDefinition_47 : decode b_R_readDefinition 47 = .ok (.ifCond .ne 21, 3) := by decide +kernel
theorem d_R_readDefinition_50 : decode b_R_readDefinition 50 = .ok (.aload_n 0, 1) := by decide +kernel
theorem d_R_readDefinition_51 : decode b_R_readDefinition 51 = .ok (.getfield 38, 3) := by decide +kernel
theorem d_R_readDefinition_54 : decode b_R_readDefinition 54 = .ok (.iconst 4, 1) := by decide +kernel
theorem d_R_readDefinition_55 : decode b_R_readDefinition 55 = .ok (.aload_n 0, 1) := by decide +kernel
theorem d_R_readDefinition_56 : decode b_R_readDefinition 56 = .ok (.getfield 38, 3) := by decide +kernel
theorem d_R_readDefinition_59 : decode b_R_readDefinition 59 = .ok (.getfield 165, 3) := by decide +kernel
theorem d_R_readDefinition_62 : decode b_R_readDefinition 62 = .ok (.invokevirtual 121, 3) := by decide +kernel
theorem d_R_readDefinition_65 : decode b_R_readDefinition 65 = .ok (.ifCond .eq 7, 3) := by decide +kernel
theorem d_R_readDefinition_68 : decode b_R_readDefinition 68 = .ok (.iconst 1, 1) := by decide +kernel
theorem d_R_readDefinition_69 : decode b_R_readDefinition 69 = .ok (.goto 4, 3) := by decide +kernel
theorem d_R_readDefinition_72 : decode b_R_readDefinition 72 = .ok (.iconst 0, 1) := by decide +kernel
theorem d_R_readDefinition_73 : decode b_R_readDefinition 73 = .ok (.ireturn, 1) := by decide +kernel
theorem d_R_readInputs_0 : decode b_R_readInputs 0 = .ok (.iconst 0, 1) := by decide +kernel
theorem d_R_readInputs_1 : decode b_R_readInputs 1 = .ok (.istore_n 2, 1) := by decide +kernel
theorem d_R_readInputs_2 : decode b_R_readInputs 2 = .ok (.iload_n 2, 1) := by decide +kernel
theorem d_R_readInputs_3 : decode b_R_readInputs 3 = .ok (.aload_n 1, 1) := by decide +kernel
theorem d_R_readInputs_4 : decode b_R_readInputs 4 = .ok (.getfield 102, 3) := by decide +kernel
theorem d_R_readInputs_7 : decode b_R_readInputs 7 = .ok (.if_icmp .ge 77, 3) := by decide +kernel
theorem d_R_readInputs_10 : decode b_R_readInputs 10 = .ok (.aload_n 0, 1) := by decide +kernel
theorem d_R_readInputs_11 : decode b_R_readInputs 11 = .ok (.getfield 29, 3) := by decide +kernel
theorem d_R_readInputs_14 : decode b_R_readInputs 14 = .ok (.ifCond .eq 15, 3) := by decide +kernel
theorem d_R_readInputs_17 : decode b_R_readInputs 17 = .ok (.aload_n 1, 1) := by decide +kernel
theorem d_R_readInputs_18 : decode b_R_readInputs 18 = .ok (.getfield 128, 3) := by decide +kernel
theorem d_R_readInputs_21 : decode b_R_readInputs 21 = .ok (.iload_n 2, 1) := by decide +kernel
theorem d_R_readInputs_22 : decode b_R_readInputs 22 = .ok (.iload_n 2, 1) := by decide +kernel
theorem d_R_readInputs_23 : decode b_R_readInputs 23 = .ok (.iconst 1, 1) := by decide +kernel
theorem d_R_readInputs_24 : decode b_R_readInputs 24 = .ok (.iadd, 1) := by decide +kernel
theorem d_R_readInputs_25 : decode b_R_readInputs 25 = .ok (.iastore, 1) := by decide +kernel
theorem d_R_readInputs_26 : decode b_R_readInputs 26 = .ok (.goto 40, 3) := by decide +kernel
theorem d_R_readInputs_29 : decode b_R_readInputs 29 = .ok (.aload_n 0, 1) := by decide +kernel
theorem d_R_readInputs_30 : decode b_R_readInputs 30 = .ok (.aload_n 1, 1) := by decide +kernel
theorem d_R_readInputs_31 : decode b_R_readInputs 31 = .ok (.invokevirtual 131, 3) := by decide +kernel
theorem d_R_readInputs_34 : decode b_R_readInputs 34 = .ok (.ifCond .eq 15, 3) := by decide +kernel
theorem d_R_readInputs_37 : decode b_R_readInputs 37 = .ok (.aload_n 0, 1) := by decide +kernel
theorem d_R_readInputs_38 : decode b_R_readInputs 38 = .ok (.getfield 38, 3) := by decide +kernel
theorem d_R_readInputs_41 : decode b_R_readInputs 41 = .ok (.bipush 10, 2) := by decide +kernel
theorem d_R_readInputs_43 : decode b_R_readInputs 43 = .ok (.invokevirtual 84, 3) := by decide +kernel
theorem d_R_readInputs_46 : decode b_R_readInputs 46 = .ok (.ifCond .ne 5, 3) := by decide +kernel
theorem d_R_readInputs_49 : decode b_R_readInputs 49 = .ok (.iconst 0, 1) := by decide +kernel
theorem d_R_readInputs_50 : decode b_R_readInputs 50 = .ok (.ireturn, 1) := by decide +kernel
theorem d_R_readInputs_51 : decode b_R_readInputs 51 = .ok (.aload_n 1, 1) := by decide +kernel
theorem d_R_readInputs_52 : decode b_R_readInputs 52 = .ok (.getfield 128, 3) := by decide +kernel
theorem d_R_readInputs_55 : decode b_R_readInputs 55 = .ok (.iload_n 2, 1) := by decide +kernel
theorem d_R_readInputs_56 : decode b_R_readInputs 56 = .ok (.aload_n 0, 1) := by decide +kernel
theorem d_R_readInputs_57 : decode b_R_readInputs 57 = .ok (.getfield 38, 3) := by decide +kernel
theorem d_R_readInputs_60 : decode b_R_readInputs 60 = .ok (.getfield 96, 3) := by decide +kernel
theorem d_R_readInputs_63 : decode b_R_readInputs 63 = .ok (.iconst 1, 1) := by decide +kernel
theorem d_R_readInputs_64 : decode b_R_readInputs 64 = .ok (.ishr, 1) := by decide +kernel
theorem d_R_readInputs_65 : decode b_R_readInputs 65 = .ok (.iastore, 1) := by decide +kernel
theorem d_R_readInputs_66 : decode b_R_readInputs 66 = .ok (.aload_n 1, 1) := by decide +kernel
theorem d_R_readInputs_67 : decode b_R_readInputs 67 = .ok (.getfield 134, 3) := by decide +kernel
theorem d_R_readInputs_70 : decode b_R_readInputs 70 = .ok (.aload_n 1, 1) := by decide +kernel
theorem d_R_readInputs_71 : decode b_R_readInputs 71 = .ok (.getfield 128, 3) := by decide +kernel
theorem d_R_readInputs_74 : decode b_R_readInputs 74 = .ok (.iload_n 2, 1) := by decide +kernel
theorem d_R_readInputs_75 : decode b_R_readInputs 75 = .ok (.iaload, 1) := by decide +kernel
theorem d_R_readInputs_76 : decode b_R_readInputs 76 = .ok (.iconst 1, 1) := by decide +kernel
theorem d_R_readInputs_77 : decode b_R_readInputs 77 = .ok (.bastore, 1) := by decide +kernel
theorem d_R_readInputs_78 : decode b_R_readInputs 78 = .ok (.iinc 2 1, 3) := by decide +kernel
theorem d_R_readInputs_81 : decode b_R_readInputs 81 = .ok (.goto (-79), 3) := by decide +kernel
theorem d_R_readInputs_84 : decode b_R_readInputs 84 = .ok (.iconst 1, 1) := by decide +kernel
theorem d_R_readInputs_85 : decode b_R_readInputs 85 = .ok (.ireturn, 1) := by decide +kernel
theorem d_R_readUse_0 : decode b_R_readUse 0 = .ok (.aload_n 0, 1) := by decide +kernel
theorem d_R_readUse_1 : decode b_R_readUse 1 = .ok (.aload_n 1, 1) := by decide +kernel
theorem d_R_readUse_2 : decode b_R_readUse 2 = .ok (.invokevirtual 171, 3) := by decide +kernel
theorem d_R_readUse_5 : decode b_R_readUse 5 = .ok (.ifCond .ne 5, 3) := by decide +kernel
theorem d_R_readUse_8 : decode b_R_readUse 8 = .ok (.iconst 0, 1) := by decide +kernel
theorem d_R_readUse_9 : decode b_R_readUse 9 = .ok (.ireturn, 1) := by decide +kernel
theorem d_R_readUse_10 : decode b_R_readUse 10 = .ok (.aload_n 0, 1) := by decide +kernel
theorem d_R_readUse_11 : decode b_R_readUse 11 = .ok (.getfield 25, 3) := by decide +kernel
theorem d_R_readUse_14 : decode b_R_readUse 14 = .ok (.sipush 615, 3) := by decide +kernel
theorem d_R_readUse_17 : decode b_R_readUse 17 = .ok (.if_icmp .ge 45, 3) := by decide +kernel
theorem d_R_readUse_20 : decode b_R_readUse 20 = .ok (.aload_n 0, 1) := by decide +kernel
theorem d_R_readUse_21 : decode b_R_readUse 21 = .ok (.getfield 18, 3) := by decide +kernel
theorem d_R_readUse_24 : decode b_R_readUse 24 = .ok (.aload_n 0, 1) := by decide +kernel
theorem d_R_readUse_25 : decode b_R_readUse 25 = .ok (.getfield 25, 3) := by decide +kernel
theorem d_R_readUse_28 : decode b_R_readUse 28 = .ok (.aload_n 0, 1) := by decide +kernel
theorem d_R_readUse_29 : decode b_R_readUse 29 = .ok (.getfield 38, 3) := by decide +kernel
theorem d_R_readUse_32 : decode b_R_readUse 32 = .ok (.getfield 96, 3) := by decide +kernel
theorem d_R_readUse_35 : decode b_R_readUse 35 = .ok (.iastore, 1) := by decide +kernel
theorem d_R_readUse_36 : decode b_R_readUse 36 = .ok (.aload_n 0, 1) := by decide +kernel
theorem d_R_readUse_37 : decode b_R_readUse 37 = .ok (.getfield 22, 3) := by decide +kernel
theorem d_R_readUse_40 : decode b_R_readUse 40 = .ok (.aload_n 0, 1) := by decide +kernel
theorem d_R_readUse_41 : decode b_R_readUse 41 = .ok (.getfield 25, 3) := by decide +kernel
theorem d_R_readUse_44 : decode b_R_readUse 44 = .ok (.aload_n 0, 1) := by decide +kernel
theorem d_R_readUse_45 : decode b_R_readUse 45 = .ok (.getfield 38, 3) := by decide +kernel
theorem d_R_readUse_48 : decode b_R_readUse 48 = .ok (.getfield 165, 3) := by decide +kernel
theorem d_R_readUse_51 : decode b_R_readUse 51 = .ok (.iastore, 1) := by decide +kernel
theorem d_R_readUse_52 : decode b_R_readUse 52 = .ok (.aload_n 0, 1) := by decide +kernel
theorem d_R_readUse_53 : decode b_R_readUse 53 = .ok (.dup, 1) := by decide +kernel
theorem d_R_readUse_54 : decode b_R_readUse 54 = .ok (.getfield 25, 3) := by decide +kernel
theorem d_R_readUse_57 : decode b_R_readUse 57 = .ok (.iconst 1, 1) := by decide +kernel
theorem d_R_readUse_58 : decode b_R_readUse 58 = .ok (.iadd, 1) := by decide +kernel
theorem d_R_readUse_59 : decode b_R_readUse 59 = .ok (.putfield 25, 3) := by decide +kernel
theorem d_R_readUse_62 : decode b_R_readUse 62 = .ok (.iconst 1, 1) := by decide +kernel
theorem d_R_readUse_63 : decode b_R_readUse 63 = .ok (.ireturn, 1) := by decide +kernel
theorem d_R_readLatches_0 : decode b_R_readLatches 0 = .ok (.iconst 0, 1) := by decide +kernel
theorem d_R_readLatches_1 : decode b_R_readLatches 1 = .ok (.istore_n 2, 1) := by decide +kernel
theorem d_R_readLatches_2 : decode b_R_readLatches 2 = .ok (.iload_n 2, 1) := by decide +kernel
theorem d_R_readLatches_3 : decode b_R_readLatches 3 = .ok (.aload_n 1, 1) := by decide +kernel
theorem d_R_readLatches_4 : decode b_R_readLatches 4 = .ok (.getfield 105, 3) := by decide +kernel
theorem d_R_readLatches_7 : decode b_R_readLatches 7 = .ok (.if_icmp .ge 117, 3) := by decide +kernel
theorem d_R_readLatches_10 : decode b_R_readLatches 10 = .ok (.aload_n 0, 1) := by decide +kernel
theorem d_R_readLatches_11 : decode b_R_readLatches 11 = .ok (.getfield 29, 3) := by decide +kernel
theorem d_R_readLatches_14 : decode b_R_readLatches 14 = .ok (.ifCond .eq 20, 3) := by decide +kernel
theorem d_R_readLatches_17 : decode b_R_readLatches 17 = .ok (.aload_n 1, 1) := by decide +kernel
theorem d_R_readLatches_18 : decode b_R_readLatches 18 = .ok (.getfield 138, 3) := by decide +kernel
theorem d_R_readLatches_21 : decode b_R_readLatches 21 = .ok (.iload_n 2, 1) := by decide +kernel
theorem d_R_readLatches_22 : decode b_R_readLatches 22 = .ok (.aload_n 1, 1) := by decide +kernel
theorem d_R_readLatches_23 : decode b_R_readLatches 23 = .ok (.getfield 102, 3) := by decide +kernel
theorem d_R_readLatches_26 : decode b_R_readLatches 26 = .ok (.iload_n 2, 1) := by decide +kernel
theorem d_R_readLatches_27 : decode b_R_readLatches 27 = .ok (.iadd, 1) := by decide +kernel
theorem d_R_readLatches_28 : decode b_R_readLatches 28 = .ok (.iconst 1, 1) := by decide +kernel
theorem d_R_readLatches_29 : decode b_R_readLatches 29 = .ok (.iadd, 1) := by decide +kernel
theorem d_R_readLatches_30 : decode b_R_readLatches 30 = .ok (.iastore, 1) := by decide +kernel
theorem d_R_readLatches_31 : decode b_R_readLatches 31 = .ok (.goto 40, 3) := by decide +kernel
theorem d_R_readLatches_34 : decode b_R_readLatches 34 = .ok (.aload_n 0, 1) := by decide +kernel
theorem d_R_readLatches_35 : decode b_R_readLatches 35 = .ok (.aload_n 1, 1) := by decide +kernel
theorem d_R_readLatches_36 : decode b_R_readLatches 36 = .ok (.invokevirtual 131, 3) := by decide +kernel
theorem d_R_readLatches_39 : decode b_R_readLatches 39 = .ok (.ifCond .eq 15, 3) := by decide +kernel
theorem d_R_readLatches_42 : decode b_R_readLatches 42 = .ok (.aload_n 0, 1) := by decide +kernel
theorem d_R_readLatches_43 : decode b_R_readLatches 43 = .ok (.getfield 38, 3) := by decide +kernel
theorem d_R_readLatches_46 : decode b_R_readLatches 46 = .ok (.bipush 32, 2) := by decide +kernel
theorem d_R_readLatches_48 : decode b_R_readLatches 48 = .ok (.invokevirtual 84, 3) := by decide +kernel
theorem d_R_readLatches_51 : decode b_R_readLatches 51 = .ok (.ifCond .ne 5, 3) := by decide +kernel
theorem d_R_readLatches_54 : decode b_R_readLatches 54 = .ok (.iconst 0, 1) := by decide +kernel
theorem d_R_readLatches_55 : decode b_R_readLatches 55 = .ok (.ireturn, 1) := by decide +kernel
theorem d_R_readLatches_56 : decode b_R_readLatches 56 = .ok (.aload_n 1, 1) := by decide +kernel
theorem d_R_readLatches_57 : decode b_R_readLatches 57 = .ok (.getfield 138, 3) := by decide +kernel
theorem d_R_readLatches_60 : decode b_R_readLatches 60 = .ok (.iload_n 2, 1) := by decide +kernel
theorem d_R_readLatches_61 : decode b_R_readLatches 61 = .ok (.aload_n 0, 1) := by decide +kernel
theorem d_R_readLatches_62 : decode b_R_readLatches 62 = .ok (.getfield 38, 3) := by decide +kernel
theorem d_R_readLatches_65 : decode b_R_readLatches 65 = .ok (.getfield 96, 3) := by decide +kernel
theorem d_R_readLatches_68 : decode b_R_readLatches 68 = .ok (.iconst 1, 1) := by decide +kernel
theorem d_R_readLatches_69 : decode b_R_readLatches 69 = .ok (.ishr, 1) := by decide +kernel
theorem d_R_readLatches_70 : decode b_R_readLatches 70 = .ok (.iastore, 1) := by decide +kernel
theorem d_R_readLatches_71 : decode b_R_readLatches 71 = .ok (.aload_n 1, 1) := by decide +kernel
theorem d_R_readLatches_72 : decode b_R_readLatches 72 = .ok (.getfield 134, 3) := by decide +kernel
theorem d_R_readLatches_75 : decode b_R_readLatches 75 = .ok (.aload_n 1, 1) := by decide +kernel
theorem d_R_readLatches_76 : decode b_R_readLatches 76 = .ok (.getfield 138, 3) := by decide +kernel
theorem d_R_readLatches_79 : decode b_R_readLatches 79 = .ok (.iload_n 2, 1) := by decide +kernel
theorem d_R_readLatches_80 : decode b_R_readLatches 80 = .ok (.iaload, 1) := by decide +kernel
theorem d_R_readLatches_81 : decode b_R_readLatches 81 = .ok (.iconst 1, 1) := by decide +kernel
theorem d_R_readLatches_82 : decode b_R_readLatches 82 = .ok (.bastore, 1) := by decide +kernel
theorem d_R_readLatches_83 : decode b_R_readLatches 83 = .ok (.aload_n 0, 1) := by decide +kernel
theorem d_R_readLatches_84 : decode b_R_readLatches 84 = .ok (.aload_n 1, 1) := by decide +kernel
theorem d_R_readLatches_85 : decode b_R_readLatches 85 = .ok (.invokevirtual 141, 3) := by decide +kernel
theorem d_R_readLatches_88 : decode b_R_readLatches 88 = .ok (.ifCond .eq 15, 3) := by decide +kernel
theorem d_R_readLatches_91 : decode b_R_readLatches 91 = .ok (.aload_n 0, 1) := by decide +kernel
theorem d_R_readLatches_92 : decode b_R_readLatches 92 = .ok (.getfield 38, 3) := by decide +kernel
theorem d_R_readLatches_95 : decode b_R_readLatches 95 = .ok (.bipush 10, 2) := by decide +kernel
theorem d_R_readLatches_97 : decode b_R_readLatches 97 = .ok (.invokevirtual 84, 3) := by decide +kernel
theorem d_R_readLatches_100 : decode b_R_readLatches 100 = .ok (.ifCond .ne 5, 3) := by decide +kernel
theorem d_R_readLatches_103 : decode b_R_readLatches 103 = .ok (.iconst 0, 1) := by decide +kernel
theorem d_R_readLatches_104 : decode b_R_readLatches 104 = .ok (.ireturn, 1) := by decide +kernel
theorem d_R_readLatches_105 : decode b_R_readLatches 105 = .ok (.aload_n 1, 1) := by decide +kernel
theorem d_R_readLatches_106 : decode b_R_readLatches 106 = .ok (.getfield 144, 3) := by decide +kernel
theorem d_R_readLatches_109 : decode b_R_readLatches 109 = .ok (.iload_n 2, 1) := by decide +kernel
theorem d_R_readLatches_110 : decode b_R_readLatches 110 = .ok (.aload_n 0, 1) := by decide +kernel
theorem d_R_readLatches_111 : decode b_R_readLatches 111 = .ok (.getfield 38, 3) := by decide +kernel
theorem d_R_readLatches_114 : decode b_R_readLatches 114 = .ok (.getfield 96, 3) := by decide +kernel
theorem d_R_readLatches_117 : decode b_R_readLatches 117 = .ok (.iastore, 1) := by decide +kernel
theorem d_R_readLatches_118 : decode b_R_readLatches 118 = .ok (.iinc 2 1, 3) := by decide +kernel
theorem d_R_readLatches_121 : decode b_R_readLatches 121 = .ok (.goto (-119), 3) := by decide +kernel
theorem d_R_readLatches_124 : decode b_R_readLatches 124 = .ok (.iconst 1, 1) := by decide +kernel
theorem d_R_readLatches_125 : decode b_R_readLatches 125 = .ok (.ireturn, 1) := by decide +kernel
theorem d_R_readOutputs_0 : decode b_R_readOutputs 0 = .ok (.iconst 0, 1) := by decide +kernel
theorem d_R_readOutputs_1 : decode b_R_readOutputs 1 = .ok (.istore_n 2, 1) := by decide +kernel
theorem d_R_readOutputs_2 : decode b_R_readOutputs 2 = .ok (.iload_n 2, 1) := by decide +kernel
theorem d_R_readOutputs_3 : decode b_R_readOutputs 3 = .ok (.aload_n 1, 1) := by decide +kernel
theorem d_R_readOutputs_4 : decode b_R_readOutputs 4 = .ok (.getfield 108, 3) := by decide +kernel
theorem d_R_readOutputs_7 : decode b_R_readOutputs 7 = .ok (.if_icmp .ge 44, 3) := by decide +kernel
theorem d_R_readOutputs_10 : decode b_R_readOutputs 10 = .ok (.aload_n 0, 1) := by decide +kernel
theorem d_R_readOutputs_11 : decode b_R_readOutputs 11 = .ok (.aload_n 1, 1) := by decide +kernel
theorem d_R_readOutputs_12 : decode b_R_readOutputs 12 = .ok (.invokevirtual 141, 3) := by decide +kernel
theorem d_R_readOutputs_15 : decode b_R_readOutputs 15 = .ok (.ifCond .eq 15, 3) := by decide +kernel
theorem d_R_readOutputs_18 : decode b_R_readOutputs 18 = .ok (.aload_n 0, 1) := by decide +kernel
theorem d_R_readOutputs_19 : decode b_R_readOutputs 19 = .ok (.getfield 38, 3) := by decide +kernel
theorem d_R_readOutputs_22 : decode b_R_readOutputs 22 = .ok (.bipush 10, 2) := by decide +kernel
theorem d_R_readOutputs_24 : decode b_R_readOutputs 24 = .ok (.invokevirtual 84, 3) := by decide +kernel
theorem d_R_readOutputs_27 : decode b_R_readOutputs 27 = .ok (.ifCond .ne 5, 3) := by decide +kernel
theorem d_R_readOutputs_30 : decode b_R_readOutputs 30 = .ok (.iconst 0, 1) := by decide +kernel
theorem d_R_readOutputs_31 : decode b_R_readOutputs 31 = .ok (.ireturn, 1) := by decide +kernel
theorem d_R_readOutputs_32 : decode b_R_readOutputs 32 = .ok (.aload_n 1, 1) := by decide +kernel
theorem d_R_readOutputs_33 : decode b_R_readOutputs 33 = .ok (.getfield 147, 3) := by decide +kernel
theorem d_R_readOutputs_36 : decode b_R_readOutputs 36 = .ok (.iload_n 2, 1) := by decide +kernel
theorem d_R_readOutputs_37 : decode b_R_readOutputs 37 = .ok (.aload_n 0, 1) := by decide +kernel
theorem d_R_readOutputs_38 : decode b_R_readOutputs 38 = .ok (.getfield 38, 3) := by decide +kernel
theorem d_R_readOutputs_41 : decode b_R_readOutputs 41 = .ok (.getfield 96, 3) := by decide +kernel
theorem d_R_readOutputs_44 : decode b_R_readOutputs 44 = .ok (.iastore, 1) := by decide +kernel
theorem d_R_readOutputs_45 : decode b_R_readOutputs 45 = .ok (.iinc 2 1, 3) := by decide +kernel
theorem d_R_readOutputs_48 : decode b_R_readOutputs 48 = .ok (.goto (-46), 3) := by decide +kernel
theorem d_R_readOutputs_51 : decode b_R_readOutputs 51 = .ok (.iconst 1, 1) := by decide +kernel
theorem d_R_readOutputs_52 : decode b_R_readOutputs 52 = .ok (.ireturn, 1) := by decide +kernel
theorem d_R_readTextAnds_0 : decode b_R_readTextAnds 0 = .ok (.iconst 0, 1) := by decide +kernel
theorem d_R_readTextAnds_1 : decode b_R_readTextAnds 1 = .ok (.istore_n 2, 1) := by decide +kernel
theorem d_R_readTextAnds_2 : decode b_R_readTextAnds 2 = .ok (.iload_n 2, 1) := by decide +kernel
theorem d_R_readTextAnds_3 : decode b_R_readTextAnds 3 = .ok (.aload_n 1, 1) := by decide +kernel
theorem d_R_readTextAnds_4 : decode b_R_readTextAnds 4 = .ok (.getfield 111, 3) := by decide +kernel
theorem d_R_readTextAnds_7 : decode b_R_readTextAnds 7 = .ok (.if_icmp .ge 128, 3) := by decide +kernel
theorem d_R_readTextAnds_10 : decode b_R_readTextAnds 10 = .ok (.aload_n 0, 1) := by decide +kernel
theorem d_R_readTextAnds_11 : decode b_R_readTextAnds 11 = .ok (.aload_n 1, 1) := by decide +kernel
theorem d_R_readTextAnds_12 : decode b_R_readTextAnds 12 = .ok (.invokevirtual 131, 3) := by decide +kernel
theorem d_R_readTextAnds_15 : decode b_R_readTextAnds 15 = .ok (.ifCond .eq 15, 3) := by decide +kernel
theorem d_R_readTextAnds_18 : decode b_R_readTextAnds 18 = .ok (.aload_n 0, 1) := by decide +kernel
theorem d_R_readTextAnds_19 : decode b_R_readTextAnds 19 = .ok (.getfield 38, 3) := by decide +kernel
theorem d_R_readTextAnds_22 : decode b_R_readTextAnds 22 = .ok (.bipush 32, 2) := by decide +kernel
theorem d_R_readTextAnds_24 : decode b_R_readTextAnds 24 = .ok (.invokevirtual 84, 3) := by decide +kernel
theorem d_R_readTextAnds_27 : decode b_R_readTextAnds 27 = .ok (.ifCond .ne 5, 3) := by decide +kernel
theorem d_R_readTextAnds_30 : decode b_R_readTextAnds 30 = .ok (.iconst 0, 1) := by decide +kernel
theorem d_R_readTextAnds_31 : decode b_R_readTextAnds 31 = .ok (.ireturn, 1) := by decide +kernel
theorem d_R_readTextAnds_32 : decode b_R_readTextAnds 32 = .ok (.aload_n 1, 1) := by decide +kernel
theorem d_R_readTextAnds_33 : decode b_R_readTextAnds 33 = .ok (.getfield 150, 3) := by decide +kernel
theorem d_R_readTextAnds_36 : decode b_R_readTextAnds 36 = .ok (.iload_n 2, 1) := by decide +kernel
theorem d_R_readTextAnds_37 : decode b_R_readTextAnds 37 = .ok (.aload_n 0, 1) := by decide +kernel
theorem d_R_readTextAnds_38 : decode b_R_readTextAnds 38 = .ok (.getfield 38, 3) := by decide +kernel
theorem d_R_readTextAnds_41 : decode b_R_readTextAnds 41 = .ok (.getfield 96, 3) := by decide +kernel
theorem d_R_readTextAnds_44 : decode b_R_readTextAnds 44 = .ok (.iconst 1, 1) := by decide +kernel
theorem d_R_readTextAnds_45 : decode b_R_readTextAnds 45 = .ok (.ishr, 1) := by decide +kernel
theorem d_R_readTextAnds_46 : decode b_R_readTextAnds 46 = .ok (.iastore, 1) := by decide +kernel
theorem d_R_readTextAnds_47 : decode b_R_readTextAnds 47 = .ok (.aload_n 1, 1) := by decide +kernel
theorem d_R_readTextAnds_48 : decode b_R_readTextAnds 48 = .ok (.getfield 134, 3) := by decide +kernel
theorem d_R_readTextAnds_51 : decode b_R_readTextAnds 51 = .ok (.aload_n 1, 1) := by decide +kernel
theorem d_R_readTextAnds_52 : decode b_R_readTextAnds 52 = .ok (.getfield 150, 3) := by decide +kernel
theorem d_R_readTextAnds_55 : decode b_R_readTextAnds 55 = .ok (.iload_n 2, 1) := by decide +kernel
theorem d_R_readTextAnds_56 : decode b_R_readTextAnds 56 = .ok (.iaload, 1) := by decide +kernel
theorem d_R_readTextAnds_57 : decode b_R_readTextAnds 57 = .ok (.iconst 1, 1) := by decide +kernel
theorem d_R_readTextAnds_58 : decode b_R_readTextAnds 58 = .ok (.bastore, 1) := by decide +kernel
theorem d_R_readTextAnds_59 : decode b_R_readTextAnds 59 = .ok (.aload_n 0, 1) := by decide +kernel
theorem d_R_readTextAnds_60 : decode b_R_readTextAnds 60 = .ok (.aload_n 1, 1) := by decide +kernel
theorem d_R_readTextAnds_61 : decode b_R_readTextAnds 61 = .ok (.invokevirtual 141, 3) := by decide +kernel
theorem d_R_readTextAnds_64 : decode b_R_readTextAnds 64 = .ok (.ifCond .eq 15, 3) := by decide +kernel
theorem d_R_readTextAnds_67 : decode b_R_readTextAnds 67 = .ok (.aload_n 0, 1) := by decide +kernel
theorem d_R_readTextAnds_68 : decode b_R_readTextAnds 68 = .ok (.getfield 38, 3) := by decide +kernel
theorem d_R_readTextAnds_71 : decode b_R_readTextAnds 71 = .ok (.bipush 32, 2) := by decide +kernel
theorem d_R_readTextAnds_73 : decode b_R_readTextAnds 73 = .ok (.invokevirtual 84, 3) := by decide +kernel
theorem d_R_readTextAnds_76 : decode b_R_readTextAnds 76 = .ok (.ifCond .ne 5, 3) := by decide +kernel
theorem d_R_readTextAnds_79 : decode b_R_readTextAnds 79 = .ok (.iconst 0, 1) := by decide +kernel
theorem d_R_readTextAnds_80 : decode b_R_readTextAnds 80 = .ok (.ireturn, 1) := by decide +kernel
theorem d_R_readTextAnds_81 : decode b_R_readTextAnds 81 = .ok (.aload_n 1, 1) := by decide +kernel
theorem d_R_readTextAnds_82 : decode b_R_readTextAnds 82 = .ok (.getfield 153, 3) := by decide +kernel
theorem d_R_readTextAnds_85 : decode b_R_readTextAnds 85 = .ok (.iload_n 2, 1) := by decide +kernel
theorem d_R_readTextAnds_86 : decode b_R_readTextAnds 86 = .ok (.aload_n 0, 1) := by decide +kernel
theorem d_R_readTextAnds_87 : decode b_R_readTextAnds 87 = .ok (.getfield 38, 3) := by decide +kernel
theorem d_R_readTextAnds_90 : decode b_R_readTextAnds 90 = .ok (.getfield 96, 3) := by decide +kernel
theorem d_R_readTextAnds_93 : decode b_R_readTextAnds 93 = .ok (.iastore, 1) := by decide +kernel
theorem d_R_readTextAnds_94 : decode b_R_readTextAnds 94 = .ok (.aload_n 0, 1) := by decide +kernel
theorem d_R_readTextAnds_95 : decode b_R_readTextAnds 95 = .ok (.aload_n 1, 1) := by decide +kernel
theorem d_R_readTextAnds_96 : decode b_R_readTextAnds 96 = .ok (.invokevirtual 141, 3) := by decide +kernel
theorem d_R_readTextAnds_99 : decode b_R_readTextAnds 99 = .ok (.ifCond .eq 15, 3) := by decide +kernel
theorem d_R_readTextAnds_102 : decode b_R_readTextAnds 102 = .ok (.aload_n 0, 1) := by decide +kernel
theorem d_R_readTextAnds_103 : decode b_R_readTextAnds 103 = .ok (.getfield 38, 3) := by decide +kernel
theorem d_R_readTextAnds_106 : decode b_R_readTextAnds 106 = .ok (.bipush 10, 2) := by decide +kernel
theorem d_R_readTextAnds_108 : decode b_R_readTextAnds 108 = .ok (.invokevirtual 84, 3) := by decide +kernel
theorem d_R_readTextAnds_111 : decode b_R_readTextAnds 111 = .ok (.ifCond .ne 5, 3) := by decide +kernel
theorem d_R_readTextAnds_114 : decode b_R_readTextAnds 114 = .ok (.iconst 0, 1) := by decide +kernel
theorem d_R_readTextAnds_115 : decode b_R_readTextAnds 115 = .ok (.ireturn, 1) := by decide +kernel
theorem d_R_readTextAnds_116 : decode b_R_readTextAnds 116 = .ok (.aload_n 1, 1) := by decide +kernel
theorem d_R_readTextAnds_117 : decode b_R_readTextAnds 117 = .ok (.getfield 156, 3) := by decide +kernel
theorem d_R_readTextAnds_120 : decode b_R_readTextAnds 120 = .ok (.iload_n 2, 1) := by decide +kernel
theorem d_R_readTextAnds_121 : decode b_R_readTextAnds 121 = .ok (.aload_n 0, 1) := by decide +kernel
theorem d_R_readTextAnds_122 : decode b_R_readTextAnds 122 = .ok (.getfield 38, 3) := by decide +kernel
theorem d_R_readTextAnds_125 : decode b_R_readTextAnds 125 = .ok (.getfield 96, 3) := by decide +kernel
theorem d_R_readTextAnds_128 : decode b_R_readTextAnds 128 = .ok (.iastore, 1) := by decide +kernel
theorem d_R_readTextAnds_129 : decode b_R_readTextAnds 129 = .ok (.iinc 2 1, 3) := by decide +kernel
theorem d_R_readTextAnds_132 : decode b_R_readTextAnds 132 = .ok (.goto (-130), 3) := by decide +kernel
theorem d_R_readTextAnds_135 : decode b_R_readTextAnds 135 = .ok (.iconst 1, 1) := by decide +kernel
theorem d_R_readTextAnds_136 : decode b_R_readTextAnds 136 = .ok (.ireturn, 1) := by decide +kernel
theorem d_R_kindOf_0 : decode b_R_kindOf 0 = .ok (.iconst 0, 1) := by decide +kernel
theorem d_R_kindOf_1 : decode b_R_kindOf 1 = .ok (.istore_n 1, 1) := by decide +kernel
theorem d_R_kindOf_2 : decode b_R_kindOf 2 = .ok (.iload_n 1, 1) := by decide +kernel
theorem d_R_kindOf_3 : decode b_R_kindOf 3 = .ok (.iconst 3, 1) := by decide +kernel
theorem d_R_kindOf_4 : decode b_R_kindOf 4 = .ok (.if_icmp .ge 21, 3) := by decide +kernel
theorem d_R_kindOf_7 : decode b_R_kindOf 7 = .ok (.ldc 182, 2) := by decide +kernel
theorem d_R_kindOf_9 : decode b_R_kindOf 9 = .ok (.iload_n 1, 1) := by decide +kernel
theorem d_R_kindOf_10 : decode b_R_kindOf 10 = .ok (.invokevirtual 184, 3) := by decide +kernel
theorem d_R_kindOf_13 : decode b_R_kindOf 13 = .ok (.iload_n 0, 1) := by decide +kernel
theorem d_R_kindOf_14 : decode b_R_kindOf 14 = .ok (.if_icmp .ne 5, 3) := by decide +kernel
theorem d_R_kindOf_17 : decode b_R_kindOf 17 = .ok (.iload_n 1, 1) := by decide +kernel
theorem d_R_kindOf_18 : decode b_R_kindOf 18 = .ok (.ireturn, 1) := by decide +kernel
theorem d_R_kindOf_19 : decode b_R_kindOf 19 = .ok (.iinc 1 1, 3) := by decide +kernel
theorem d_R_kindOf_22 : decode b_R_kindOf 22 = .ok (.goto (-20), 3) := by decide +kernel
theorem d_R_kindOf_25 : decode b_R_kindOf 25 = .ok (.iconst (-1), 1) := by decide +kernel
theorem d_R_kindOf_26 : decode b_R_kindOf 26 = .ok (.ireturn, 1) := by decide +kernel
theorem d_R_readName_0 : decode b_R_readName 0 = .ok (.iconst 0, 1) := by decide +kernel
theorem d_R_readName_1 : decode b_R_readName 1 = .ok (.istore_n 3, 1) := by decide +kernel
theorem d_R_readName_2 : decode b_R_readName 2 = .ok (.iload_n 3, 1) := by decide +kernel
theorem d_R_readName_3 : decode b_R_readName 3 = .ok (.bipush 40, 2) := by decide +kernel
theorem d_R_readName_5 : decode b_R_readName 5 = .ok (.if_icmp .ge 69, 3) := by decide +kernel
theorem d_R_readName_8 : decode b_R_readName 8 = .ok (.aload_n 0, 1) := by decide +kernel
theorem d_R_readName_9 : decode b_R_readName 9 = .ok (.getfield 38, 3) := by decide +kernel
theorem d_R_readName_12 : decode b_R_readName 12 = .ok (.invokevirtual 88, 3) := by decide +kernel
theorem d_R_readName_15 : decode b_R_readName 15 = .ok (.istore 4, 2) := by decide +kernel
theorem d_R_readName_17 : decode b_R_readName 17 = .ok (.iload 4, 2) := by decide +kernel
theorem d_R_readName_19 : decode b_R_readName 19 = .ok (.iconst (-1), 1) := by decide +kernel
theorem d_R_readName_20 : decode b_R_readName 20 = .ok (.if_icmp .eq 54, 3) := by decide +kernel
theorem d_R_readName_23 : decode b_R_readName 23 = .ok (.iload 4, 2) := by decide +kernel
theorem d_R_readName_25 : decode b_R_readName 25 = .ok (.bipush 10, 2) := by decide +kernel
theorem d_R_readName_27 : decode b_R_readName 27 = .ok (.if_icmp .ne 6, 3) := by decide +kernel
theorem d_R_readName_30 : decode b_R_readName 30 = .ok (.goto 44, 3) := by decide +kernel
theorem d_R_readName_33 : decode b_R_readName 33 = .ok (.aload_n 1, 1) := by decide +kernel
theorem d_R_readName_34 : decode b_R_readName 34 = .ok (.getfield 203, 3) := by decide +kernel
theorem d_R_readName_37 : decode b_R_readName 37 = .ok (.iload_n 2, 1) := by decide +kernel
theorem d_R_readName_38 : decode b_R_readName 38 = .ok (.bipush 40, 2) := by decide +kernel
theorem d_R_readName_40 : decode b_R_readName 40 = .ok (.imul, 1) := by decide +kernel
theorem d_R_readName_41 : decode b_R_readName 41 = .ok (.iload_n 3, 1) := by decide +kernel
theorem d_R_readName_42 : decode b_R_readName 42 = .ok (.iadd, 1) := by decide +kernel
theorem d_R_readName_43 : decode b_R_readName 43 = .ok (.iload 4, 2) := by decide +kernel
theorem d_R_readName_45 : decode b_R_readName 45 = .ok (.iastore, 1) := by decide +kernel
theorem d_R_readName_46 : decode b_R_readName 46 = .ok (.aload_n 1, 1) := by decide +kernel
theorem d_R_readName_47 : decode b_R_readName 47 = .ok (.getfield 193, 3) := by decide +kernel
theorem d_R_readName_50 : decode b_R_readName 50 = .ok (.iload_n 2, 1) := by decide +kernel
theorem d_R_readName_51 : decode b_R_readName 51 = .ok (.iload_n 3, 1) := by decide +kernel
theorem d_R_readName_52 : decode b_R_readName 52 = .ok (.iconst 1, 1) := by decide +kernel
theorem d_R_readName_53 : decode b_R_readName 53 = .ok (.iadd, 1) := by decide +kernel
theorem d_R_readName_54 : decode b_R_readName 54 = .ok (.iastore, 1) := by decide +kernel
theorem d_R_readName_55 : decode b_R_readName 55 = .ok (.aload_n 0, 1) := by decide +kernel
theorem d_R_readName_56 : decode b_R_readName 56 = .ok (.getfield 38, 3) := by decide +kernel
theorem d_R_readName_59 : decode b_R_readName 59 = .ok (.dup, 1) := by decide +kernel
theorem d_R_readName_60 : decode b_R_readName 60 = .ok (.getfield 118, 3) := by decide +kernel
theorem d_R_readName_63 : decode b_R_readName 63 = .ok (.iconst 1, 1) := by decide +kernel
theorem d_R_readName_64 : decode b_R_readName 64 = .ok (.iadd, 1) := by decide +kernel
theorem d_R_readName_65 : decode b_R_readName 65 = .ok (.putfield 118, 3) := by decide +kernel
theorem d_R_readName_68 : decode b_R_readName 68 = .ok (.iinc 3 1, 3) := by decide +kernel
theorem d_R_readName_71 : decode b_R_readName 71 = .ok (.goto (-69), 3) := by decide +kernel
theorem d_R_readName_74 : decode b_R_readName 74 = .ok (.aload_n 1, 1) := by decide +kernel
theorem d_R_readName_75 : decode b_R_readName 75 = .ok (.getfield 193, 3) := by decide +kernel
theorem d_R_readName_78 : decode b_R_readName 78 = .ok (.iload_n 2, 1) := by decide +kernel
theorem d_R_readName_79 : decode b_R_readName 79 = .ok (.iaload, 1) := by decide +kernel
theorem d_R_readName_80 : decode b_R_readName 80 = .ok (.ifCond .le 15, 3) := by decide +kernel
theorem d_R_readName_83 : decode b_R_readName 83 = .ok (.aload_n 0, 1) := by decide +kernel
theorem d_R_readName_84 : decode b_R_readName 84 = .ok (.getfield 38, 3) := by decide +kernel
theorem d_R_readName_87 : decode b_R_readName 87 = .ok (.bipush 10, 2) := by decide +kernel
theorem d_R_readName_89 : decode b_R_readName 89 = .ok (.invokevirtual 84, 3) := by decide +kernel
theorem d_R_readName_92 : decode b_R_readName 92 = .ok (.goto 18, 3) := by decide +kernel
theorem d_R_readName_95 : decode b_R_readName 95 = .ok (.aload_n 0, 1) := by decide +kernel
theorem d_R_readName_96 : decode b_R_readName 96 = .ok (.getfield 38, 3) := by decide +kernel
theorem d_R_readName_99 : decode b_R_readName 99 = .ok (.iconst 1, 1) := by decide +kernel
theorem d_R_readName_100 : decode b_R_readName 100 = .ok (.aload_n 0, 1) := by decide +kernel
theorem d_R_readName_101 : decode b_R_readName 101 = .ok (.getfield 38, 3) := by decide +kernel
theorem d_R_readName_104 : decode b_R_readName 104 = .ok (.getfield 118, 3) := by decide +kernel
theorem d_R_readName_107 : decode b_R_readName 107 = .ok (.invokevirtual 121, 3) := by decide +kernel
theorem d_R_readName_110 : decode b_R_readName 110 = .ok (.ireturn, 1) := by decide +kernel
theorem d_R_readSymbol_0 : decode b_R_readSymbol 0 = .ok (.iload_n 2, 1) := by decide +kernel
theorem d_R_readSymbol_1 : decode b_R_readSymbol 1 = .ok (.iconst (-1), 1) := by decide +kernel
theorem d_R_readSymbol_2 : decode b_R_readSymbol 2 = .ok (.if_icmp .ne 19, 3) := by decide +kernel
theorem d_R_readSymbol_5 : decode b_R_readSymbol 5 = .ok (.aload_n 0, 1) := by decide +kernel
theorem d_R_readSymbol_6 : decode b_R_readSymbol 6 = .ok (.getfield 38, 3) := by decide +kernel
theorem d_R_readSymbol_9 : decode b_R_readSymbol 9 = .ok (.iconst 1, 1) := by decide +kernel
theorem d_R_readSymbol_10 : decode b_R_readSymbol 10 = .ok (.aload_n 0, 1) := by decide +kernel
theorem d_R_readSymbol_11 : decode b_R_readSymbol 11 = .ok (.getfield 38, 3) := by decide +kernel
theorem d_R_readSymbol_14 : decode b_R_readSymbol 14 = .ok (.getfield 118, 3) := by decide +kernel
theorem d_R_readSymbol_17 : decode b_R_readSymbol 17 = .ok (.invokevirtual 121, 3) := by decide +kernel
theorem d_R_readSymbol_20 : decode b_R_readSymbol 20 = .ok (.ireturn, 1) := by decide +kernel
theorem d_R_readSymbol_21 : decode b_R_readSymbol 21 = .ok (.aload_n 0, 1) := by decide +kernel
theorem d_R_readSymbol_22 : decode b_R_readSymbol 22 = .ok (.getfield 38, 3) := by decide +kernel
theorem d_R_readSymbol_25 : decode b_R_readSymbol 25 = .ok (.dup, 1) := by decide +kernel
theorem d_R_readSymbol_26 : decode b_R_readSymbol 26 = .ok (.getfield 118, 3) := by decide +kernel
theorem d_R_readSymbol_29 : decode b_R_readSymbol 29 = .ok (.iconst 1, 1) := by decide +kernel
theorem d_R_readSymbol_30 : decode b_R_readSymbol 30 = .ok (.iadd, 1) := by decide +kernel
theorem d_R_readSymbol_31 : decode b_R_readSymbol 31 = .ok (.putfield 118, 3) := by decide +kernel
theorem d_R_readSymbol_34 : decode b_R_readSymbol 34 = .ok (.aload_n 0, 1) := by decide +kernel
theorem d_R_readSymbol_35 : decode b_R_readSymbol 35 = .ok (.getfield 38, 3) := by decide +kernel
theorem d_R_readSymbol_38 : decode b_R_readSymbol 38 = .ok (.invokevirtual 125, 3) := by decide +kernel
theorem d_R_readSymbol_41 : decode b_R_readSymbol 41 = .ok (.ifCond .ne 5, 3) := by decide +kernel
theorem d_R_readSymbol_44 : decode b_R_readSymbol 44 = .ok (.iconst 0, 1) := by decide +kernel
theorem d_R_readSymbol_45 : decode b_R_readSymbol 45 = .ok (.ireturn, 1) := by decide +kernel
theorem d_R_readSymbol_46 : decode b_R_readSymbol 46 = .ok (.aload_n 0, 1) := by decide +kernel
theorem d_R_readSymbol_47 : decode b_R_readSymbol 47 = .ok (.getfield 38, 3) := by decide +kernel
theorem d_R_readSymbol_50 : decode b_R_readSymbol 50 = .ok (.getfield 96, 3) := by decide +kernel
theorem d_R_readSymbol_53 : decode b_R_readSymbol 53 = .ok (.istore_n 3, 1) := by decide +kernel
theorem d_R_readSymbol_54 : decode b_R_readSymbol 54 = .ok (.iload_n 3, 1) := by decide +kernel
theorem d_R_readSymbol_55 : decode b_R_readSymbol 55 = .ok (.aload_n 1, 1) := by decide +kernel
theorem d_R_readSymbol_56 : decode b_R_readSymbol 56 = .ok (.iload_n 2, 1) := by decide +kernel
theorem d_R_readSymbol_57 : decode b_R_readSymbol 57 = .ok (.invokevirtual 190, 3) := by decide +kernel
theorem d_R_readSymbol_60 : decode b_R_readSymbol 60 = .ok (.if_icmp .ge 16, 3) := by decide +kernel
theorem d_R_readSymbol_63 : decode b_R_readSymbol 63 = .ok (.aload_n 1, 1) := by decide +kernel
theorem d_R_readSymbol_64 : decode b_R_readSymbol 64 = .ok (.getfield 193, 3) := by decide +kernel
theorem d_R_readSymbol_67 : decode b_R_readSymbol 67 = .ok (.iload_n 2, 1) := by decide +kernel
theorem d_R_readSymbol_68 : decode b_R_readSymbol 68 = .ok (.iload_n 3, 1) := by decide +kernel
theorem d_R_readSymbol_69 : decode b_R_readSymbol 69 = .ok (.invokestatic 196, 3) := by decide +kernel
theorem d_R_readSymbol_72 : decode b_R_readSymbol 72 = .ok (.iaload, 1) := by decide +kernel
theorem d_R_readSymbol_73 : decode b_R_readSymbol 73 = .ok (.ifCond .le 19, 3) := by decide +kernel
theorem d_R_readSymbol_76 : decode b_R_readSymbol 76 = .ok (.aload_n 0, 1) := by decide +kernel
theorem d_R_readSymbol_77 : decode b_R_readSymbol 77 = .ok (.getfield 38, 3) := by decide +kernel
theorem d_R_readSymbol_80 : decode b_R_readSymbol 80 = .ok (.iconst 1, 1) := by decide +kernel
theorem d_R_readSymbol_81 : decode b_R_readSymbol 81 = .ok (.aload_n 0, 1) := by decide +kernel
theorem d_R_readSymbol_82 : decode b_R_readSymbol 82 = .ok (.getfield 38, 3) := by decide +kernel
theorem d_R_readSymbol_85 : decode b_R_readSymbol 85 = .ok (.getfield 118, 3) := by decide +kernel
theorem d_R_readSymbol_88 : decode b_R_readSymbol 88 = .ok (.invokevirtual 121, 3) := by decide +kernel
theorem d_R_readSymbol_91 : decode b_R_readSymbol 91 = .ok (.ireturn, 1) := by decide +kernel
theorem d_R_readSymbol_92 : decode b_R_readSymbol 92 = .ok (.aload_n 0, 1) := by decide +kernel
theorem d_R_readSymbol_93 : decode b_R_readSymbol 93 = .ok (.getfield 38, 3) := by decide +kernel
theorem d_R_readSymbol_96 : decode b_R_readSymbol 96 = .ok (.bipush 32, 2) := by decide +kernel
theorem d_R_readSymbol_98 : decode b_R_readSymbol 98 = .ok (.invokevirtual 84, 3) := by decide +kernel
theorem d_R_readSymbol_101 : decode b_R_readSymbol 101 = .ok (.ifCond .eq 20, 3) := by decide +kernel
theorem d_R_readSymbol_104 : decode b_R_readSymbol 104 = .ok (.aload_n 0, 1) := by decide +kernel
theorem d_R_readSymbol_105 : decode b_R_readSymbol 105 = .ok (.aload_n 1, 1) := by decide +kernel
theorem d_R_readSymbol_106 : decode b_R_readSymbol 106 = .ok (.iload_n 2, 1) := by decide +kernel
theorem d_R_readSymbol_107 : decode b_R_readSymbol 107 = .ok (.iload_n 3, 1) := by decide +kernel
theorem d_R_readSymbol_108 : decode b_R_readSymbol 108 = .ok (.invokestatic 196, 3) := by decide +kernel
theorem d_R_readSymbol_111 : decode b_R_readSymbol 111 = .ok (.invokevirtual 200, 3) := by decide +kernel
theorem d_R_readSymbol_114 : decode b_R_readSymbol 114 = .ok (.ifCond .eq 7, 3) := by decide +kernel
theorem d_R_readSymbol_117 : decode b_R_readSymbol 117 = .ok (.iconst 1, 1) := by decide +kernel
theorem d_R_readSymbol_118 : decode b_R_readSymbol 118 = .ok (.goto 4, 3) := by decide +kernel
theorem d_R_readSymbol_121 : decode b_R_readSymbol 121 = .ok (.iconst 0, 1) := by decide +kernel
theorem d_R_readSymbol_122 : decode b_R_readSymbol 122 = .ok (.ireturn, 1) := by decide +kernel
theorem d_R_readSymbols_0 : decode b_R_readSymbols 0 = .ok (.iconst 0, 1) := by decide +kernel
theorem d_R_readSymbols_1 : decode b_R_readSymbols 1 = .ok (.istore_n 2, 1) := by decide +kernel
theorem d_R_readSymbols_2 : decode b_R_readSymbols 2 = .ok (.iload_n 2, 1) := by decide +kernel
theorem d_R_readSymbols_3 : decode b_R_readSymbols 3 = .ok (.bipush 24, 2) := by decide +kernel
theorem d_R_readSymbols_5 : decode b_R_readSymbols 5 = .ok (.if_icmp .gt 67, 3) := by decide +kernel
theorem d_R_readSymbols_8 : decode b_R_readSymbols 8 = .ok (.aload_n 0, 1) := by decide +kernel
theorem d_R_readSymbols_9 : decode b_R_readSymbols 9 = .ok (.getfield 38, 3) := by decide +kernel
theorem d_R_readSymbols_12 : decode b_R_readSymbols 12 = .ok (.invokevirtual 88, 3) := by decide +kernel
theorem d_R_readSymbols_15 : decode b_R_readSymbols 15 = .ok (.istore_n 3, 1) := by decide +kernel
theorem d_R_readSymbols_16 : decode b_R_readSymbols 16 = .ok (.iload_n 3, 1) := by decide +kernel
theorem d_R_readSymbols_17 : decode b_R_readSymbols 17 = .ok (.iconst (-1), 1) := by decide +kernel
theorem d_R_readSymbols_18 : decode b_R_readSymbols 18 = .ok (.if_icmp .ne 5, 3) := by decide +kernel
theorem d_R_readSymbols_21 : decode b_R_readSymbols 21 = .ok (.iconst 1, 1) := by decide +kernel
theorem d_R_readSymbols_22 : decode b_R_readSymbols 22 = .ok (.ireturn, 1) := by decide +kernel
theorem d_R_readSymbols_23 : decode b_R_readSymbols 23 = .ok (.iload_n 3, 1) := by decide +kernel
theorem d_R_readSymbols_24 : decode b_R_readSymbols 24 = .ok (.bipush 99, 2) := by decide +kernel
theorem d_R_readSymbols_26 : decode b_R_readSymbols 26 = .ok (.if_icmp .ne 26, 3) := by decide +kernel
theorem d_R_readSymbols_29 : decode b_R_readSymbols 29 = .ok (.aload_n 0, 1) := by decide +kernel
theorem d_R_readSymbols_30 : decode b_R_readSymbols 30 = .ok (.getfield 38, 3) := by decide +kernel
theorem d_R_readSymbols_33 : decode b_R_readSymbols 33 = .ok (.dup, 1) := by decide +kernel
theorem d_R_readSymbols_34 : decode b_R_readSymbols 34 = .ok (.getfield 118, 3) := by decide +kernel
theorem d_R_readSymbols_37 : decode b_R_readSymbols 37 = .ok (.iconst 1, 1) := by decide +kernel
theorem d_R_readSymbols_38 : decode b_R_readSymbols 38 = .ok (.iadd, 1) := by decide +kernel
theorem d_R_readSymbols_39 : decode b_R_readSymbols 39 = .ok (.putfield 118, 3) := by decide +kernel
theorem d_R_readSymbols_42 : decode b_R_readSymbols 42 = .ok (.aload_n 0, 1) := by decide +kernel
theorem d_R_readSymbols_43 : decode b_R_readSymbols 43 = .ok (.getfield 38, 3) := by decide +kernel
theorem d_R_readSymbols_46 : decode b_R_readSymbols 46 = .ok (.bipush 10, 2) := by decide +kernel
theorem d_R_readSymbols_48 : decode b_R_readSymbols 48 = .ok (.invokevirtual 84, 3) := by decide +kernel
theorem d_R_readSymbols_51 : decode b_R_readSymbols 51 = .ok (.ireturn, 1) := by decide +kernel
theorem d_R_readSymbols_52 : decode b_R_readSymbols 52 = .ok (.aload_n 0, 1) := by decide +kernel
theorem d_R_readSymbols_53 : decode b_R_readSymbols 53 = .ok (.aload_n 1, 1) := by decide +kernel
theorem d_R_readSymbols_54 : decode b_R_readSymbols 54 = .ok (.iload_n 3, 1) := by decide +kernel
theorem d_R_readSymbols_55 : decode b_R_readSymbols 55 = .ok (.invokestatic 174, 3) := by decide +kernel
theorem d_R_readSymbols_58 : decode b_R_readSymbols 58 = .ok (.invokevirtual 178, 3) := by decide +kernel
theorem d_R_readSymbols_61 : decode b_R_readSymbols 61 = .ok (.ifCond .ne 5, 3) := by decide +kernel
theorem d_R_readSymbols_64 : decode b_R_readSymbols 64 = .ok (.iconst 0, 1) := by decide +kernel
theorem d_R_readSymbols_65 : decode b_R_readSymbols 65 = .ok (.ireturn, 1) := by decide +kernel
theorem d_R_readSymbols_66 : decode b_R_readSymbols 66 = .ok (.iinc 2 1, 3) := by decide +kernel
theorem d_R_readSymbols_69 : decode b_R_readSymbols 69 = .ok (.goto (-67), 3) := by decide +kernel
theorem d_R_readSymbols_72 : decode b_R_readSymbols 72 = .ok (.iconst 1, 1) := by decide +kernel
theorem d_R_readSymbols_73 : decode b_R_readSymbols 73 = .ok (.ireturn, 1) := by decide +kernel
theorem d_R_checkUses_0 : decode b_R_checkUses 0 = .ok (.iconst 0, 1) := by decide +kernel
theorem d_R_checkUses_1 : decode b_R_checkUses 1 = .ok (.istore_n 2, 1) := by decide +kernel
theorem d_R_checkUses_2 : decode b_R_checkUses 2 = .ok (.iload_n 2, 1) := by decide +kernel
theorem d_R_checkUses_3 : decode b_R_checkUses 3 = .ok (.aload_n 0, 1) := by decide +kernel
theorem d_R_checkUses_4 : decode b_R_checkUses 4 = .ok (.getfield 25, 3) := by decide +kernel
theorem d_R_checkUses_7 : decode b_R_checkUses 7 = .ok (.if_icmp .ge 37, 3) := by decide +kernel
theorem d_R_checkUses_10 : decode b_R_checkUses 10 = .ok (.aload_n 1, 1) := by decide +kernel
theorem d_R_checkUses_11 : decode b_R_checkUses 11 = .ok (.aload_n 0, 1) := by decide +kernel
theorem d_R_checkUses_12 : decode b_R_checkUses 12 = .ok (.getfield 18, 3) := by decide +kernel
theorem d_R_checkUses_15 : decode b_R_checkUses 15 = .ok (.iload_n 2, 1) := by decide +kernel
theorem d_R_checkUses_16 : decode b_R_checkUses 16 = .ok (.iaload, 1) := by decide +kernel
theorem d_R_checkUses_17 : decode b_R_checkUses 17 = .ok (.invokevirtual 206, 3) := by decide +kernel
theorem d_R_checkUses_20 : decode b_R_checkUses 20 = .ok (.ifCond .ne 18, 3) := by decide +kernel
theorem d_R_checkUses_23 : decode b_R_checkUses 23 = .ok (.aload_n 0, 1) := by decide +kernel
theorem d_R_checkUses_24 : decode b_R_checkUses 24 = .ok (.getfield 38, 3) := by decide +kernel
theorem d_R_checkUses_27 : decode b_R_checkUses 27 = .ok (.iconst 5, 1) := by decide +kernel
theorem d_R_checkUses_28 : decode b_R_checkUses 28 = .ok (.aload_n 0, 1) := by decide +kernel
theorem d_R_checkUses_29 : decode b_R_checkUses 29 = .ok (.getfield 22, 3) := by decide +kernel
theorem d_R_checkUses_32 : decode b_R_checkUses 32 = .ok (.iload_n 2, 1) := by decide +kernel
theorem d_R_checkUses_33 : decode b_R_checkUses 33 = .ok (.iaload, 1) := by decide +kernel
theorem d_R_checkUses_34 : decode b_R_checkUses 34 = .ok (.invokevirtual 121, 3) := by decide +kernel
theorem d_R_checkUses_37 : decode b_R_checkUses 37 = .ok (.ireturn, 1) := by decide +kernel
theorem d_R_checkUses_38 : decode b_R_checkUses 38 = .ok (.iinc 2 1, 3) := by decide +kernel
theorem d_R_checkUses_41 : decode b_R_checkUses 41 = .ok (.goto (-39), 3) := by decide +kernel
theorem d_R_checkUses_44 : decode b_R_checkUses 44 = .ok (.iconst 1, 1) := by decide +kernel
theorem d_R_checkUses_45 : decode b_R_checkUses 45 = .ok (.ireturn, 1) := by decide +kernel
theorem d_R_checkLoops_0 : decode b_R_checkLoops 0 = .ok (.aload_n 0, 1) := by decide +kernel
theorem d_R_checkLoops_1 : decode b_R_checkLoops 1 = .ok (.getfield 12, 3) := by decide +kernel
theorem d_R_checkLoops_4 : decode b_R_checkLoops 4 = .ok (.aload_n 1, 1) := by decide +kernel
theorem d_R_checkLoops_5 : decode b_R_checkLoops 5 = .ok (.invokevirtual 209, 3) := by decide +kernel
theorem d_R_checkLoops_8 : decode b_R_checkLoops 8 = .ok (.ifCond .ne 23, 3) := by decide +kernel
theorem d_R_checkLoops_11 : decode b_R_checkLoops 11 = .ok (.aload_n 0, 1) := by decide +kernel
theorem d_R_checkLoops_12 : decode b_R_checkLoops 12 = .ok (.getfield 38, 3) := by decide +kernel
theorem d_R_checkLoops_15 : decode b_R_checkLoops 15 = .ok (.bipush 6, 2) := by decide +kernel
theorem d_R_checkLoops_17 : decode b_R_checkLoops 17 = .ok (.aload_n 0, 1) := by decide +kernel
theorem d_R_checkLoops_18 : decode b_R_checkLoops 18 = .ok (.getfield 12, 3) := by decide +kernel
theorem d_R_checkLoops_21 : decode b_R_checkLoops 21 = .ok (.aload_n 1, 1) := by decide +kernel
theorem d_R_checkLoops_22 : decode b_R_checkLoops 22 = .ok (.invokevirtual 212, 3) := by decide +kernel
theorem d_R_checkLoops_25 : decode b_R_checkLoops 25 = .ok (.invokevirtual 121, 3) := by decide +kernel
theorem d_R_checkLoops_28 : decode b_R_checkLoops 28 = .ok (.ifCond .eq 7, 3) := by decide +kernel
theorem d_R_checkLoops_31 : decode b_R_checkLoops 31 = .ok (.iconst 1, 1) := by decide +kernel
theorem d_R_checkLoops_32 : decode b_R_checkLoops 32 = .ok (.goto 4, 3) := by decide +kernel
theorem d_R_checkLoops_35 : decode b_R_checkLoops 35 = .ok (.iconst 0, 1) := by decide +kernel
theorem d_R_checkLoops_36 : decode b_R_checkLoops 36 = .ok (.ireturn, 1) := by decide +kernel
theorem d_R_readDelta_0 : decode b_R_readDelta 0 = .ok (.aload_n 0, 1) := by decide +kernel
theorem d_R_readDelta_1 : decode b_R_readDelta 1 = .ok (.getfield 38, 3) := by decide +kernel
theorem d_R_readDelta_4 : decode b_R_readDelta 4 = .ok (.invokevirtual 162, 3) := by decide +kernel
theorem d_R_readDelta_7 : decode b_R_readDelta 7 = .ok (.ifCond .ne 5, 3) := by decide +kernel
theorem d_R_readDelta_10 : decode b_R_readDelta 10 = .ok (.iconst 0, 1) := by decide +kernel
theorem d_R_readDelta_11 : decode b_R_readDelta 11 = .ok (.ireturn, 1) := by decide +kernel
theorem d_R_readDelta_12 : decode b_R_readDelta 12 = .ok (.aload_n 0, 1) := by decide +kernel
theorem d_R_readDelta_13 : decode b_R_readDelta 13 = .ok (.getfield 38, 3) := by decide +kernel
theorem d_R_readDelta_16 : decode b_R_readDelta 16 = .ok (.getfield 96, 3) := by decide +kernel
theorem d_R_readDelta_19 : decode b_R_readDelta 19 = .ok (.iload_n 1, 1) := by decide +kernel
theorem d_R_readDelta_20 : decode b_R_readDelta 20 = .ok (.if_icmp .lt 18, 3) := by decide +kernel
theorem d_R_readDelta_23 : decode b_R_readDelta 23 = .ok (.aload_n 0, 1) := by decide +kernel
theorem d_R_readDelta_24 : decode b_R_readDelta 24 = .ok (.getfield 38, 3) := by decide +kernel
theorem d_R_readDelta_27 : decode b_R_readDelta 27 = .ok (.getfield 96, 3) := by decide +kernel
theorem d_R_readDelta_30 : decode b_R_readDelta 30 = .ok (.iload_n 2, 1) := by decide +kernel
theorem d_R_readDelta_31 : decode b_R_readDelta 31 = .ok (.if_icmp .gt 7, 3) := by decide +kernel
theorem d_R_readDelta_34 : decode b_R_readDelta 34 = .ok (.iconst 1, 1) := by decide +kernel
theorem d_R_readDelta_35 : decode b_R_readDelta 35 = .ok (.goto 4, 3) := by decide +kernel
theorem d_R_readDelta_38 : decode b_R_readDelta 38 = .ok (.iconst 0, 1) := by decide +kernel
theorem d_R_readDelta_39 : decode b_R_readDelta 39 = .ok (.istore_n 3, 1) := by decide +kernel
theorem d_R_readDelta_40 : decode b_R_readDelta 40 = .ok (.iload_n 3, 1) := by decide +kernel
theorem d_R_readDelta_41 : decode b_R_readDelta 41 = .ok (.ifCond .ne 21, 3) := by decide +kernel
theorem d_R_readDelta_44 : decode b_R_readDelta 44 = .ok (.aload_n 0, 1) := by decide +kernel
theorem d_R_readDelta_45 : decode b_R_readDelta 45 = .ok (.getfield 38, 3) := by decide +kernel
theorem d_R_readDelta_48 : decode b_R_readDelta 48 = .ok (.iconst 3, 1) := by decide +kernel
theorem d_R_readDelta_49 : decode b_R_readDelta 49 = .ok (.aload_n 0, 1) := by decide +kernel
theorem d_R_readDelta_50 : decode b_R_readDelta 50 = .ok (.getfield 38, 3) := by decide +kernel
theorem d_R_readDelta_53 : decode b_R_readDelta 53 = .ok (.getfield 165, 3) := by decide +kernel
theorem d_R_readDelta_56 : decode b_R_readDelta 56 = .ok (.invokevirtual 121, 3) := by decide +kernel
theorem d_R_readDelta_59 : decode b_R_readDelta 59 = .ok (.ifCond .eq 7, 3) := by decide +kernel
theorem d_R_readDelta_62 : decode b_R_readDelta 62 = .ok (.iconst 1, 1) := by decide +kernel
theorem d_R_readDelta_63 : decode b_R_readDelta 63 = .ok (.goto 4, 3) := by decide +kernel
theorem d_R_readDelta_66 : decode b_R_readDelta 66 = .ok (.iconst 0, 1) := by decide +kernel
theorem d_R_readDelta_67 : decode b_R_readDelta 67 = .ok (.ireturn, 1) := by decide +kernel
theorem d_R_readBinaryAnds_0 : decode b_R_readBinaryAnds 0 = .ok (.iconst 0, 1) := by decide +kernel
theorem d_R_readBinaryAnds_1 : decode b_R_readBinaryAnds 1 = .ok (.istore_n 2, 1) := by decide +kernel
theorem d_R_readBinaryAnds_2 : decode b_R_readBinaryAnds 2 = .ok (.iload_n 2, 1) := by decide +kernel
theorem d_R_readBinaryAnds_3 : decode b_R_readBinaryAnds 3 = .ok (.aload_n 1, 1) := by decide +kernel
theorem d_R_readBinaryAnds_4 : decode b_R_readBinaryAnds 4 = .ok (.getfield 111, 3) := by decide +kernel
theorem d_R_readBinaryAnds_7 : decode b_R_readBinaryAnds 7 = .ok (.if_icmp .ge 103, 3) := by decide +kernel
theorem d_R_readBinaryAnds_10 : decode b_R_readBinaryAnds 10 = .ok (.aload_n 1, 1) := by decide +kernel
theorem d_R_readBinaryAnds_11 : decode b_R_readBinaryAnds 11 = .ok (.getfield 102, 3) := by decide +kernel
theorem d_R_readBinaryAnds_14 : decode b_R_readBinaryAnds 14 = .ok (.aload_n 1, 1) := by decide +kernel
theorem d_R_readBinaryAnds_15 : decode b_R_readBinaryAnds 15 = .ok (.getfield 105, 3) := by decide +kernel
theorem d_R_readBinaryAnds_18 : decode b_R_readBinaryAnds 18 = .ok (.iadd, 1) := by decide +kernel
theorem d_R_readBinaryAnds_19 : decode b_R_readBinaryAnds 19 = .ok (.iload_n 2, 1) := by decide +kernel
theorem d_R_readBinaryAnds_20 : decode b_R_readBinaryAnds 20 = .ok (.iadd, 1) := by decide +kernel
theorem d_R_readBinaryAnds_21 : decode b_R_readBinaryAnds 21 = .ok (.iconst 1, 1) := by decide +kernel
theorem d_R_readBinaryAnds_22 : decode b_R_readBinaryAnds 22 = .ok (.iadd, 1) := by decide +kernel
theorem d_R_readBinaryAnds_23 : decode b_R_readBinaryAnds 23 = .ok (.istore_n 3, 1) := by decide +kernel
theorem d_R_readBinaryAnds_24 : decode b_R_readBinaryAnds 24 = .ok (.aload_n 1, 1) := by decide +kernel
theorem d_R_readBinaryAnds_25 : decode b_R_readBinaryAnds 25 = .ok (.getfield 150, 3) := by decide +kernel
theorem d_R_readBinaryAnds_28 : decode b_R_readBinaryAnds 28 = .ok (.iload_n 2, 1) := by decide +kernel
theorem d_R_readBinaryAnds_29 : decode b_R_readBinaryAnds 29 = .ok (.iload_n 3, 1) := by decide +kernel
theorem d_R_readBinaryAnds_30 : decode b_R_readBinaryAnds 30 = .ok (.iastore, 1) := by decide +kernel
theorem d_R_readBinaryAnds_31 : decode b_R_readBinaryAnds 31 = .ok (.aload_n 1, 1) := by decide +kernel
theorem d_R_readBinaryAnds_32 : decode b_R_readBinaryAnds 32 = .ok (.getfield 134, 3) := by decide +kernel
theorem d_R_readBinaryAnds_35 : decode b_R_readBinaryAnds 35 = .ok (.iload_n 3, 1) := by decide +kernel
theorem d_R_readBinaryAnds_36 : decode b_R_readBinaryAnds 36 = .ok (.iconst 1, 1) := by decide +kernel
theorem d_R_readBinaryAnds_37 : decode b_R_readBinaryAnds 37 = .ok (.bastore, 1) := by decide +kernel
theorem d_R_readBinaryAnds_38 : decode b_R_readBinaryAnds 38 = .ok (.aload_n 0, 1) := by decide +kernel
theorem d_R_readBinaryAnds_39 : decode b_R_readBinaryAnds 39 = .ok (.iconst 1, 1) := by decide +kernel
theorem d_R_readBinaryAnds_40 : decode b_R_readBinaryAnds 40 = .ok (.iconst 2, 1) := by decide +kernel
theorem d_R_readBinaryAnds_41 : decode b_R_readBinaryAnds 41 = .ok (.iload_n 3, 1) := by decide +kernel
theorem d_R_readBinaryAnds_42 : decode b_R_readBinaryAnds 42 = .ok (.imul, 1) := by decide +kernel
theorem d_R_readBinaryAnds_43 : decode b_R_readBinaryAnds 43 = .ok (.invokevirtual 159, 3) := by decide +kernel
theorem d_R_readBinaryAnds_46 : decode b_R_readBinaryAnds 46 = .ok (.ifCond .ne 5, 3) := by decide +kernel
theorem d_R_readBinaryAnds_49 : decode b_R_readBinaryAnds 49 = .ok (.iconst 0, 1) := by decide +kernel
theorem d_R_readBinaryAnds_50 : decode b_R_readBinaryAnds 50 = .ok (.ireturn, 1) := by decide +kernel
theorem d_R_readBinaryAnds_51 : decode b_R_readBinaryAnds 51 = .ok (.aload_n 1, 1) := by decide +kernel
theorem d_R_readBinaryAnds_52 : decode b_R_readBinaryAnds 52 = .ok (.getfield 153, 3) := by decide +kernel
theorem d_R_readBinaryAnds_55 : decode b_R_readBinaryAnds 55 = .ok (.iload_n 2, 1) := by decide +kernel
theorem d_R_readBinaryAnds_56 : decode b_R_readBinaryAnds 56 = .ok (.iconst 2, 1) := by decide +kernel
theorem d_R_readBinaryAnds_57 : decode b_R_readBinaryAnds 57 = .ok (.iload_n 3, 1) := by decide +kernel
theorem d_R_readBinaryAnds_58 : decode b_R_readBinaryAnds 58 = .ok (.imul, 1) := by decide +kernel
theorem d_R_readBinaryAnds_59 : decode b_R_readBinaryAnds 59 = .ok (.aload_n 0, 1) := by decide +kernel
theorem d_R_readBinaryAnds_60 : decode b_R_readBinaryAnds 60 = .ok (.getfield 38, 3) := by decide +kernel
theorem d_R_readBinaryAnds_63 : decode b_R_readBinaryAnds 63 = .ok (.getfield 96, 3) := by decide +kernel
theorem d_R_readBinaryAnds_66 : decode b_R_readBinaryAnds 66 = .ok (.isub, 1) := by decide +kernel
theorem d_R_readBinaryAnds_67 : decode b_R_readBinaryAnds 67 = .ok (.iastore, 1) := by decide +kernel
theorem d_R_readBinaryAnds_68 : decode b_R_readBinaryAnds 68 = .ok (.aload_n 0, 1) := by decide +kernel
theorem d_R_readBinaryAnds_69 : decode b_R_readBinaryAnds 69 = .ok (.iconst 0, 1) := by decide +kernel
theorem d_R_readBinaryAnds_70 : decode b_R_readBinaryAnds 70 = .ok (.aload_n 1, 1) := by decide +kernel
theorem d_R_readBinaryAnds_71 : decode b_R_readBinaryAnds 71 = .ok (.getfield 153, 3) := by decide +kernel
theorem d_R_readBinaryAnds_74 : decode b_R_readBinaryAnds 74 = .ok (.iload_n 2, 1) := by decide +kernel
theorem d_R_readBinaryAnds_75 : decode b_R_readBinaryAnds 75 = .ok (.iaload, 1) := by decide +kernel
theorem d_R_readBinaryAnds_76 : decode b_R_readBinaryAnds 76 = .ok (.invokevirtual 159, 3) := by decide +kernel
theorem d_R_readBinaryAnds_79 : decode b_R_readBinaryAnds 79 = .ok (.ifCond .ne 5, 3) := by decide +kernel
theorem d_R_readBinaryAnds_82 : decode b_R_readBinaryAnds 82 = .ok (.iconst 0, 1) := by decide +kernel
theorem d_R_readBinaryAnds_83 : decode b_R_readBinaryAnds 83 = .ok (.ireturn, 1) := by decide +kernel
theorem d_R_readBinaryAnds_84 : decode b_R_readBinaryAnds 84 = .ok (.aload_n 1, 1) := by decide +kernel
theorem d_R_readBinaryAnds_85 : decode b_R_readBinaryAnds 85 = .ok (.getfield 156, 3) := by decide +kernel
theorem d_R_readBinaryAnds_88 : decode b_R_readBinaryAnds 88 = .ok (.iload_n 2, 1) := by decide +kernel
theorem d_R_readBinaryAnds_89 : decode b_R_readBinaryAnds 89 = .ok (.aload_n 1, 1) := by decide +kernel
theorem d_R_readBinaryAnds_90 : decode b_R_readBinaryAnds 90 = .ok (.getfield 153, 3) := by decide +kernel
theorem d_R_readBinaryAnds_93 : decode b_R_readBinaryAnds 93 = .ok (.iload_n 2, 1) := by decide +kernel
theorem d_R_readBinaryAnds_94 : decode b_R_readBinaryAnds 94 = .ok (.iaload, 1) := by decide +kernel
theorem d_R_readBinaryAnds_95 : decode b_R_readBinaryAnds 95 = .ok (.aload_n 0, 1) := by decide +kernel
theorem d_R_readBinaryAnds_96 : decode b_R_readBinaryAnds 96 = .ok (.getfield 38, 3) := by decide +kernel
theorem d_R_readBinaryAnds_99 : decode b_R_readBinaryAnds 99 = .ok (.getfield 96, 3) := by decide +kernel
theorem d_R_readBinaryAnds_102 : decode b_R_readBinaryAnds 102 = .ok (.isub, 1) := by decide +kernel
theorem d_R_readBinaryAnds_103 : decode b_R_readBinaryAnds 103 = .ok (.iastore, 1) := by decide +kernel
theorem d_R_readBinaryAnds_104 : decode b_R_readBinaryAnds 104 = .ok (.iinc 2 1, 3) := by decide +kernel
theorem d_R_readBinaryAnds_107 : decode b_R_readBinaryAnds 107 = .ok (.goto (-105), 3) := by decide +kernel
theorem d_R_readBinaryAnds_110 : decode b_R_readBinaryAnds 110 = .ok (.iconst 1, 1) := by decide +kernel
theorem d_R_readBinaryAnds_111 : decode b_R_readBinaryAnds 111 = .ok (.ireturn, 1) := by decide +kernel
theorem d_R_readFile_0 : decode b_R_readFile 0 = .ok (.aload_n 0, 1) := by decide +kernel
theorem d_R_readFile_1 : decode b_R_readFile 1 = .ok (.getfield 38, 3) := by decide +kernel
theorem d_R_readFile_4 : decode b_R_readFile 4 = .ok (.invokevirtual 48, 3) := by decide +kernel
theorem d_R_readFile_7 : decode b_R_readFile 7 = .ok (.aload_n 0, 1) := by decide +kernel
theorem d_R_readFile_8 : decode b_R_readFile 8 = .ok (.iconst 0, 1) := by decide +kernel
theorem d_R_readFile_9 : decode b_R_readFile 9 = .ok (.putfield 25, 3) := by decide +kernel
theorem d_R_readFile_12 : decode b_R_readFile 12 = .ok (.aload_n 1, 1) := by decide +kernel
theorem d_R_readFile_13 : decode b_R_readFile 13 = .ok (.invokevirtual 51, 3) := by decide +kernel
theorem d_R_readFile_16 : decode b_R_readFile 16 = .ok (.aload_n 0, 1) := by decide +kernel
theorem d_R_readFile_17 : decode b_R_readFile 17 = .ok (.aload_n 1, 1) := by decide +kernel
theorem d_R_readFile_18 : decode b_R_readFile 18 = .ok (.invokevirtual 56, 3) := by decide +kernel
theorem d_R_readFile_21 : decode b_R_readFile 21 = .ok (.ifCond .eq 81, 3) := by decide +kernel
theorem d_R_readFile_24 : decode b_R_readFile 24 = .ok (.aload_n 0, 1) := by decide +kernel
theorem d_R_readFile_25 : decode b_R_readFile 25 = .ok (.aload_n 1, 1) := by decide +kernel
theorem d_R_readFile_26 : decode b_R_readFile 26 = .ok (.invokevirtual 60, 3) := by decide +kernel
theorem d_R_readFile_29 : decode b_R_readFile 29 = .ok (.ifCond .eq 73, 3) := by decide +kernel
theorem d_R_readFile_32 : decode b_R_readFile 32 = .ok (.aload_n 0, 1) := by decide +kernel
theorem d_R_readFile_33 : decode b_R_readFile 33 = .ok (.aload_n 1, 1) := by decide +kernel
theorem d_R_readFile_34 : decode b_R_readFile 34 = .ok (.invokevirtual 63, 3) := by decide +kernel
theorem d_R_readFile_37 : decode b_R_readFile 37 = .ok (.ifCond .eq 65, 3) := by decide +kernel
theorem d_R_readFile_40 : decode b_R_readFile 40 = .ok (.aload_n 0, 1) := by decide +kernel
theorem d_R_readFile_41 : decode b_R_readFile 41 = .ok (.aload_n 1, 1) := by decide +kernel
theorem d_R_readFile_42 : decode b_R_readFile 42 = .ok (.invokevirtual 66, 3) := by decide +kernel
theorem d_R_readFile_45 : decode b_R_readFile 45 = .ok (.ifCond .eq 57, 3) := by decide +kernel
theorem d_R_readFile_48 : decode b_R_readFile 48 = .ok (.aload_n 0, 1) := by decide +kernel
theorem d_R_readFile_49 : decode b_R_readFile 49 = .ok (.getfield 29, 3) := by decide +kernel
theorem d_R_readFile_52 : decode b_R_readFile 52 = .ok (.ifCond .eq 14, 3) := by decide +kernel
theorem d_R_readFile_55 : decode b_R_readFile 55 = .ok (.aload_n 0, 1) := by decide +kernel
theorem d_R_readFile_56 : decode b_R_readFile 56 = .ok (.aload_n 1, 1) := by decide +kernel
theorem d_R_readFile_57 : decode b_R_readFile 57 = .ok (.invokevirtual 69, 3) := by decide +kernel
theorem d_R_readFile_60 : decode b_R_readFile 60 = .ok (.ifCond .eq 42, 3) := by decide +kernel
theorem d_R_readFile_63 : decode b_R_readFile 63 = .ok (.goto 11, 3) := by decide +kernel
theorem d_R_readFile_66 : decode b_R_readFile 66 = .ok (.aload_n 0, 1) := by decide +kernel
theorem d_R_readFile_67 : decode b_R_readFile 67 = .ok (.aload_n 1, 1) := by decide +kernel
theorem d_R_readFile_68 : decode b_R_readFile 68 = .ok (.invokevirtual 72, 3) := by decide +kernel
theorem d_R_readFile_71 : decode b_R_readFile 71 = .ok (.ifCond .eq 31, 3) := by decide +kernel
theorem d_R_readFile_74 : decode b_R_readFile 74 = .ok (.aload_n 0, 1) := by decide +kernel
theorem d_R_readFile_75 : decode b_R_readFile 75 = .ok (.aload_n 1, 1) := by decide +kernel
theorem d_R_readFile_76 : decode b_R_readFile 76 = .ok (.invokevirtual 75, 3) := by decide +kernel
theorem d_R_readFile_79 : decode b_R_readFile 79 = .ok (.ifCond .eq 23, 3) := by decide +kernel
theorem d_R_readFile_82 : decode b_R_readFile 82 = .ok (.aload_n 0, 1) := by decide +kernel
theorem d_R_readFile_83 : decode b_R_readFile 83 = .ok (.aload_n 1, 1) := by decide +kernel
theorem d_R_readFile_84 : decode b_R_readFile 84 = .ok (.invokevirtual 78, 3) := by decide +kernel
theorem d_R_readFile_87 : decode b_R_readFile 87 = .ok (.ifCond .eq 15, 3) := by decide +kernel
theorem d_R_readFile_90 : decode b_R_readFile 90 = .ok (.aload_n 0, 1) := by decide +kernel
theorem d_R_readFile_91 : decode b_R_readFile 91 = .ok (.aload_n 1, 1) := by decide +kernel
theorem d_R_readFile_92 : decode b_R_readFile 92 = .ok (.invokevirtual 81, 3) := by decide +kernel
theorem d_R_readFile_95 : decode b_R_readFile 95 = .ok (.ifCond .eq 7, 3) := by decide +kernel
theorem d_R_readFile_98 : decode b_R_readFile 98 = .ok (.iconst 1, 1) := by decide +kernel
theorem d_R_readFile_99 : decode b_R_readFile 99 = .ok (.goto 4, 3) := by decide +kernel
theorem d_R_readFile_102 : decode b_R_readFile 102 = .ok (.iconst 0, 1) := by decide +kernel
theorem d_R_readFile_103 : decode b_R_readFile 103 = .ok (.ireturn, 1) := by decide +kernel
theorem d_R_faultKind_0 : decode b_R_faultKind 0 = .ok (.aload_n 0, 1) := by decide +kernel
theorem d_R_faultKind_1 : decode b_R_faultKind 1 = .ok (.getfield 38, 3) := by decide +kernel
theorem d_R_faultKind_4 : decode b_R_faultKind 4 = .ok (.getfield 42, 3) := by decide +kernel
theorem d_R_faultKind_7 : decode b_R_faultKind 7 = .ok (.ireturn, 1) := by decide +kernel
theorem d_R_faultPlace_0 : decode b_R_faultPlace 0 = .ok (.aload_n 0, 1) := by decide +kernel
theorem d_R_faultPlace_1 : decode b_R_faultPlace 1 = .ok (.getfield 38, 3) := by decide +kernel
theorem d_R_faultPlace_4 : decode b_R_faultPlace 4 = .ok (.getfield 45, 3) := by decide +kernel
theorem d_R_faultPlace_7 : decode b_R_faultPlace 7 = .ok (.ireturn, 1) := by decide +kernel
