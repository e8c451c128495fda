theorem dX7_init_0 : decode cX7_init 0 = .ok (.aload_n 0, 1) := by decide +kernel
theorem dX7_init_1 : decode cX7_init 1 = .ok (.invokespecial 1, 3) := by decide +kernel
theorem dX7_init_4 : decode cX7_init 4 = .ok (.aload_n 0, 1) := by decide +kernel
theorem dX7_init_5 : decode cX7_init 5 = .ok (.bipush 6, 2) := by decide +kernel
theorem dX7_init_7 : decode cX7_init 7 = .ok (.newarray .int, 2) := by decide +kernel
theorem dX7_init_9 : decode cX7_init 9 = .ok (.putfield 7, 3) := by decide +kernel
theorem dX7_init_12 : decode cX7_init 12 = .ok (.aload_n 0, 1) := by decide +kernel
theorem dX7_init_13 : decode cX7_init 13 = .ok (.bipush 6, 2) := by decide +kernel
theorem dX7_init_15 : decode cX7_init 15 = .ok (.newarray .int, 2) := by decide +kernel
theorem dX7_init_17 : decode cX7_init 17 = .ok (.putfield 13, 3) := by decide +kernel
theorem dX7_init_20 : decode cX7_init 20 = .ok (.aload_n 0, 1) := by decide +kernel
theorem dX7_init_21 : decode cX7_init 21 = .ok (.bipush 6, 2) := by decide +kernel
theorem dX7_init_23 : decode cX7_init 23 = .ok (.newarray .long, 2) := by decide +kernel
theorem dX7_init_25 : decode cX7_init 25 = .ok (.putfield 16, 3) := by decide +kernel
theorem dX7_init_28 : decode cX7_init 28 = .ok (.aload_n 0, 1) := by decide +kernel
theorem dX7_init_29 : decode cX7_init 29 = .ok (.bipush 6, 2) := by decide +kernel
theorem dX7_init_31 : decode cX7_init 31 = .ok (.newarray .int, 2) := by decide +kernel
theorem dX7_init_33 : decode cX7_init 33 = .ok (.putfield 20, 3) := by decide +kernel
theorem dX7_init_36 : decode cX7_init 36 = .ok (.aload_n 0, 1) := by decide +kernel
theorem dX7_init_37 : decode cX7_init 37 = .ok (.sipush 246, 3) := by decide +kernel
theorem dX7_init_40 : decode cX7_init 40 = .ok (.newarray .int, 2) := by decide +kernel
theorem dX7_init_42 : decode cX7_init 42 = .ok (.putfield 23, 3) := by decide +kernel
theorem dX7_init_45 : decode cX7_init 45 = .ok (.aload_n 0, 1) := by decide +kernel
theorem dX7_init_46 : decode cX7_init 46 = .ok (.sipush 246, 3) := by decide +kernel
theorem dX7_init_49 : decode cX7_init 49 = .ok (.newarray .boolean, 2) := by decide +kernel
theorem dX7_init_51 : decode cX7_init 51 = .ok (.putfield 26, 3) := by decide +kernel
theorem dX7_init_54 : decode cX7_init 54 = .ok (.aload_n 0, 1) := by decide +kernel
theorem dX7_init_55 : decode cX7_init 55 = .ok (.bipush 6, 2) := by decide +kernel
theorem dX7_init_57 : decode cX7_init 57 = .ok (.newarray .int, 2) := by decide +kernel
theorem dX7_init_59 : decode cX7_init 59 = .ok (.putfield 30, 3) := by decide +kernel
theorem dX7_init_62 : decode cX7_init 62 = .ok (.aload_n 0, 1) := by decide +kernel
theorem dX7_init_63 : decode cX7_init 63 = .ok (.bipush 120, 2) := by decide +kernel
theorem dX7_init_65 : decode cX7_init 65 = .ok (.newarray .int, 2) := by decide +kernel
theorem dX7_init_67 : decode cX7_init 67 = .ok (.putfield 33, 3) := by decide +kernel
theorem dX7_init_70 : decode cX7_init 70 = .ok (.aload_n 0, 1) := by decide +kernel
theorem dX7_init_71 : decode cX7_init 71 = .ok (.bipush 120, 2) := by decide +kernel
theorem dX7_init_73 : decode cX7_init 73 = .ok (.newarray .int, 2) := by decide +kernel
theorem dX7_init_75 : decode cX7_init 75 = .ok (.putfield 36, 3) := by decide +kernel
theorem dX7_init_78 : decode cX7_init 78 = .ok (.aload_n 0, 1) := by decide +kernel
theorem dX7_init_79 : decode cX7_init 79 = .ok (.bipush 6, 2) := by decide +kernel
theorem dX7_init_81 : decode cX7_init 81 = .ok (.newarray .int, 2) := by decide +kernel
theorem dX7_init_83 : decode cX7_init 83 = .ok (.putfield 39, 3) := by decide +kernel
theorem dX7_init_86 : decode cX7_init 86 = .ok (.aload_n 0, 1) := by decide +kernel
theorem dX7_init_87 : decode cX7_init 87 = .ok (.bipush 120, 2) := by decide +kernel
theorem dX7_init_89 : decode cX7_init 89 = .ok (.newarray .int, 2) := by decide +kernel
theorem dX7_init_91 : decode cX7_init 91 = .ok (.putfield 42, 3) := by decide +kernel
theorem dX7_init_94 : decode cX7_init 94 = .ok (.aload_n 0, 1) := by decide +kernel
theorem dX7_init_95 : decode cX7_init 95 = .ok (.bipush 120, 2) := by decide +kernel
theorem dX7_init_97 : decode cX7_init 97 = .ok (.newarray .int, 2) := by decide +kernel
theorem dX7_init_99 : decode cX7_init 99 = .ok (.putfield 45, 3) := by decide +kernel
theorem dX7_init_102 : decode cX7_init 102 = .ok (.aload_n 0, 1) := by decide +kernel
theorem dX7_init_103 : decode cX7_init 103 = .ok (.bipush 6, 2) := by decide +kernel
theorem dX7_init_105 : decode cX7_init 105 = .ok (.newarray .int, 2) := by decide +kernel
theorem dX7_init_107 : decode cX7_init 107 = .ok (.putfield 48, 3) := by decide +kernel
theorem dX7_init_110 : decode cX7_init 110 = .ok (.aload_n 0, 1) := by decide +kernel
theorem dX7_init_111 : decode cX7_init 111 = .ok (.bipush 6, 2) := by decide +kernel
theorem dX7_init_113 : decode cX7_init 113 = .ok (.newarray .int, 2) := by decide +kernel
theorem dX7_init_115 : decode cX7_init 115 = .ok (.putfield 51, 3) := by decide +kernel
theorem dX7_init_118 : decode cX7_init 118 = .ok (.aload_n 0, 1) := by decide +kernel
theorem dX7_init_119 : decode cX7_init 119 = .ok (.bipush 6, 2) := by decide +kernel
theorem dX7_init_121 : decode cX7_init 121 = .ok (.newarray .int, 2) := by decide +kernel
theorem dX7_init_123 : decode cX7_init 123 = .ok (.putfield 54, 3) := by decide +kernel
theorem dX7_init_126 : decode cX7_init 126 = .ok (.aload_n 0, 1) := by decide +kernel
theorem dX7_init_127 : decode cX7_init 127 = .ok (.bipush 6, 2) := by decide +kernel
theorem dX7_init_129 : decode cX7_init 129 = .ok (.newarray .int, 2) := by decide +kernel
theorem dX7_init_131 : decode cX7_init 131 = .ok (.putfield 57, 3) := by decide +kernel
theorem dX7_init_134 : decode cX7_init 134 = .ok (.aload_n 0, 1) := by decide +kernel
theorem dX7_init_135 : decode cX7_init 135 = .ok (.bipush 41, 2) := by decide +kernel
theorem dX7_init_137 : decode cX7_init 137 = .ok (.newarray .int, 2) := by decide +kernel
theorem dX7_init_139 : decode cX7_init 139 = .ok (.putfield 60, 3) := by decide +kernel
theorem dX7_init_142 : decode cX7_init 142 = .ok (.aload_n 0, 1) := by decide +kernel
theorem dX7_init_143 : decode cX7_init 143 = .ok (.bipush 41, 2) := by decide +kernel
theorem dX7_init_145 : decode cX7_init 145 = .ok (.newarray .int, 2) := by decide +kernel
theorem dX7_init_147 : decode cX7_init 147 = .ok (.putfield 63, 3) := by decide +kernel
theorem dX7_init_150 : decode cX7_init 150 = .ok (.aload_n 0, 1) := by decide +kernel
theorem dX7_init_151 : decode cX7_init 151 = .ok (.sipush 10081, 3) := by decide +kernel
theorem dX7_init_154 : decode cX7_init 154 = .ok (.newarray .int, 2) := by decide +kernel
theorem dX7_init_156 : decode cX7_init 156 = .ok (.putfield 66, 3) := by decide +kernel
theorem dX7_init_159 : decode cX7_init 159 = .ok (.aload_n 0, 1) := by decide +kernel
theorem dX7_init_160 : decode cX7_init 160 = .ok (.sipush 10081, 3) := by decide +kernel
theorem dX7_init_163 : decode cX7_init 163 = .ok (.newarray .int, 2) := by decide +kernel
theorem dX7_init_165 : decode cX7_init 165 = .ok (.putfield 69, 3) := by decide +kernel
theorem dX7_init_168 : decode cX7_init 168 = .ok (.aload_n 0, 1) := by decide +kernel
theorem dX7_init_169 : decode cX7_init 169 = .ok (.sipush 10080, 3) := by decide +kernel
theorem dX7_init_172 : decode cX7_init 172 = .ok (.newarray .int, 2) := by decide +kernel
theorem dX7_init_174 : decode cX7_init 174 = .ok (.putfield 72, 3) := by decide +kernel
theorem dX7_init_177 : decode cX7_init 177 = .ok (.aload_n 0, 1) := by decide +kernel
theorem dX7_init_178 : decode cX7_init 178 = .ok (.bipush 7, 2) := by decide +kernel
theorem dX7_init_180 : decode cX7_init 180 = .ok (.newarray .int, 2) := by decide +kernel
theorem dX7_init_182 : decode cX7_init 182 = .ok (.putfield 75, 3) := by decide +kernel
theorem dX7_init_185 : decode cX7_init 185 = .ok (.aload_n 0, 1) := by decide +kernel
theorem dX7_init_186 : decode cX7_init 186 = .ok (.bipush 7, 2) := by decide +kernel
theorem dX7_init_188 : decode cX7_init 188 = .ok (.newarray .int, 2) := by decide +kernel
theorem dX7_init_190 : decode cX7_init 190 = .ok (.putfield 78, 3) := by decide +kernel
theorem dX7_init_193 : decode cX7_init 193 = .ok (.aload_n 0, 1) := by decide +kernel
theorem dX7_init_194 : decode cX7_init 194 = .ok (.bipush 21, 2) := by decide +kernel
theorem dX7_init_196 : decode cX7_init 196 = .ok (.newarray .int, 2) := by decide +kernel
theorem dX7_init_198 : decode cX7_init 198 = .ok (.putfield 81, 3) := by decide +kernel
theorem dX7_init_201 : decode cX7_init 201 = .ok (.aload_n 0, 1) := by decide +kernel
theorem dX7_init_202 : decode cX7_init 202 = .ok (.bipush 21, 2) := by decide +kernel
theorem dX7_init_204 : decode cX7_init 204 = .ok (.newarray .int, 2) := by decide +kernel
theorem dX7_init_206 : decode cX7_init 206 = .ok (.putfield 84, 3) := by decide +kernel
theorem dX7_init_209 : decode cX7_init 209 = .ok (.aload_n 0, 1) := by decide +kernel
theorem dX7_init_210 : decode cX7_init 210 = .ok (.iconst 3, 1) := by decide +kernel
theorem dX7_init_211 : decode cX7_init 211 = .ok (.newarray .int, 2) := by decide +kernel
theorem dX7_init_213 : decode cX7_init 213 = .ok (.putfield 87, 3) := by decide +kernel
theorem dX7_init_216 : decode cX7_init 216 = .ok (.aload_n 0, 1) := by decide +kernel
theorem dX7_init_217 : decode cX7_init 217 = .ok (.iconst 0, 1) := by decide +kernel
theorem dX7_init_218 : decode cX7_init 218 = .ok (.putfield 90, 3) := by decide +kernel
theorem dX7_init_221 : decode cX7_init 221 = .ok (.return_, 1) := by decide +kernel
theorem dX7_thrown_0 : decode cX7_thrown 0 = .ok (.aload_n 0, 1) := by decide +kernel
theorem dX7_thrown_1 : decode cX7_thrown 1 = .ok (.getfield 90, 3) := by decide +kernel
theorem dX7_thrown_4 : decode cX7_thrown 4 = .ok (.ireturn, 1) := by decide +kernel
theorem dX7_fails_0 : decode cX7_fails 0 = .ok (.aload_n 0, 1) := by decide +kernel
theorem dX7_fails_1 : decode cX7_fails 1 = .ok (.iload_n 1, 1) := by decide +kernel
theorem dX7_fails_2 : decode cX7_fails 2 = .ok (.putfield 90, 3) := by decide +kernel
theorem dX7_fails_5 : decode cX7_fails 5 = .ok (.iconst 0, 1) := by decide +kernel
theorem dX7_fails_6 : decode cX7_fails 6 = .ok (.ireturn, 1) := by decide +kernel
theorem dX7_in_0 : decode cX7_in 0 = .ok (.iload_n 0, 1) := by decide +kernel
theorem dX7_in_1 : decode cX7_in 1 = .ok (.iload_n 1, 1) := by decide +kernel
theorem dX7_in_2 : decode cX7_in 2 = .ok (.if_icmp .lt 12, 3) := by decide +kernel
theorem dX7_in_5 : decode cX7_in 5 = .ok (.iload_n 0, 1) := by decide +kernel
theorem dX7_in_6 : decode cX7_in 6 = .ok (.iload_n 2, 1) := by decide +kernel
theorem dX7_in_7 : decode cX7_in 7 = .ok (.if_icmp .gt 7, 3) := by decide +kernel
theorem dX7_in_10 : decode cX7_in 10 = .ok (.iconst 1, 1) := by decide +kernel
theorem dX7_in_11 : decode cX7_in 11 = .ok (.goto 4, 3) := by decide +kernel
theorem dX7_in_14 : decode cX7_in 14 = .ok (.iconst 0, 1) := by decide +kernel
theorem dX7_in_15 : decode cX7_in 15 = .ok (.ireturn, 1) := by decide +kernel
theorem dX7_isOne_0 : decode cX7_isOne 0 = .ok (.iload_n 1, 1) := by decide +kernel
theorem dX7_isOne_1 : decode cX7_isOne 1 = .ok (.iconst 0, 1) := by decide +kernel
theorem dX7_isOne_2 : decode cX7_isOne 2 = .ok (.aload_n 0, 1) := by decide +kernel
theorem dX7_isOne_3 : decode cX7_isOne 3 = .ok (.getfield 94, 3) := by decide +kernel
theorem dX7_isOne_6 : decode cX7_isOne 6 = .ok (.iconst 1, 1) := by decide +kernel
theorem dX7_isOne_7 : decode cX7_isOne 7 = .ok (.isub, 1) := by decide +kernel
theorem dX7_isOne_8 : decode cX7_isOne 8 = .ok (.invokestatic 97, 3) := by decide +kernel
theorem dX7_isOne_11 : decode cX7_isOne 11 = .ok (.ireturn, 1) := by decide +kernel
theorem dX7_hire_0 : decode cX7_hire 0 = .ok (.aload_n 0, 1) := by decide +kernel
theorem dX7_hire_1 : decode cX7_hire 1 = .ok (.iload_n 1, 1) := by decide +kernel
theorem dX7_hire_2 : decode cX7_hire 2 = .ok (.iconst 1, 1) := by decide +kernel
theorem dX7_hire_3 : decode cX7_hire 3 = .ok (.ldc 101, 2) := by decide +kernel
theorem dX7_hire_5 : decode cX7_hire 5 = .ok (.invokestatic 97, 3) := by decide +kernel
theorem dX7_hire_8 : decode cX7_hire 8 = .ok (.ifCond .ne 7, 3) := by decide +kernel
theorem dX7_hire_11 : decode cX7_hire 11 = .ok (.iconst 1, 1) := by decide +kernel
theorem dX7_hire_12 : decode cX7_hire 12 = .ok (.goto 17, 3) := by decide +kernel
theorem dX7_hire_15 : decode cX7_hire 15 = .ok (.aload_n 0, 1) := by decide +kernel
theorem dX7_hire_16 : decode cX7_hire 16 = .ok (.getfield 94, 3) := by decide +kernel
theorem dX7_hire_19 : decode cX7_hire 19 = .ok (.bipush 6, 2) := by decide +kernel
theorem dX7_hire_21 : decode cX7_hire 21 = .ok (.if_icmp .ne 7, 3) := by decide +kernel
theorem dX7_hire_24 : decode cX7_hire 24 = .ok (.iconst 2, 1) := by decide +kernel
theorem dX7_hire_25 : decode cX7_hire 25 = .ok (.goto 4, 3) := by decide +kernel
theorem dX7_hire_28 : decode cX7_hire 28 = .ok (.iconst 0, 1) := by decide +kernel
theorem dX7_hire_29 : decode cX7_hire 29 = .ok (.putfield 90, 3) := by decide +kernel
theorem dX7_hire_32 : decode cX7_hire 32 = .ok (.aload_n 0, 1) := by decide +kernel
theorem dX7_hire_33 : decode cX7_hire 33 = .ok (.getfield 90, 3) := by decide +kernel
theorem dX7_hire_36 : decode cX7_hire 36 = .ok (.ifCond .le 5, 3) := by decide +kernel
theorem dX7_hire_39 : decode cX7_hire 39 = .ok (.iconst 0, 1) := by decide +kernel
theorem dX7_hire_40 : decode cX7_hire 40 = .ok (.ireturn, 1) := by decide +kernel
theorem dX7_hire_41 : decode cX7_hire 41 = .ok (.aload_n 0, 1) := by decide +kernel
theorem dX7_hire_42 : decode cX7_hire 42 = .ok (.getfield 7, 3) := by decide +kernel
theorem dX7_hire_45 : decode cX7_hire 45 = .ok (.aload_n 0, 1) := by decide +kernel
theorem dX7_hire_46 : decode cX7_hire 46 = .ok (.getfield 94, 3) := by decide +kernel
theorem dX7_hire_49 : decode cX7_hire 49 = .ok (.iload_n 1, 1) := by decide +kernel
theorem dX7_hire_50 : decode cX7_hire 50 = .ok (.iastore, 1) := by decide +kernel
theorem dX7_hire_51 : decode cX7_hire 51 = .ok (.aload_n 0, 1) := by decide +kernel
theorem dX7_hire_52 : decode cX7_hire 52 = .ok (.dup, 1) := by decide +kernel
theorem dX7_hire_53 : decode cX7_hire 53 = .ok (.getfield 94, 3) := by decide +kernel
theorem dX7_hire_56 : decode cX7_hire 56 = .ok (.iconst 1, 1) := by decide +kernel
theorem dX7_hire_57 : decode cX7_hire 57 = .ok (.iadd, 1) := by decide +kernel
theorem dX7_hire_58 : decode cX7_hire 58 = .ok (.putfield 94, 3) := by decide +kernel
theorem dX7_hire_61 : decode cX7_hire 61 = .ok (.aload_n 0, 1) := by decide +kernel
theorem dX7_hire_62 : decode cX7_hire 62 = .ok (.getfield 94, 3) := by decide +kernel
theorem dX7_hire_65 : decode cX7_hire 65 = .ok (.iconst 1, 1) := by decide +kernel
theorem dX7_hire_66 : decode cX7_hire 66 = .ok (.isub, 1) := by decide +kernel
theorem dX7_hire_67 : decode cX7_hire 67 = .ok (.ireturn, 1) := by decide +kernel
theorem dX7_setWage_0 : decode cX7_setWage 0 = .ok (.aload_n 0, 1) := by decide +kernel
theorem dX7_setWage_1 : decode cX7_setWage 1 = .ok (.aload_n 0, 1) := by decide +kernel
theorem dX7_setWage_2 : decode cX7_setWage 2 = .ok (.iload_n 1, 1) := by decide +kernel
theorem dX7_setWage_3 : decode cX7_setWage 3 = .ok (.invokevirtual 102, 3) := by decide +kernel
theorem dX7_setWage_6 : decode cX7_setWage 6 = .ok (.ifCond .ne 7, 3) := by decide +kernel
theorem dX7_setWage_9 : decode cX7_setWage 9 = .ok (.iconst 1, 1) := by decide +kernel
theorem dX7_setWage_10 : decode cX7_setWage 10 = .ok (.goto 18, 3) := by decide +kernel
theorem dX7_setWage_13 : decode cX7_setWage 13 = .ok (.iload_n 2, 1) := by decide +kernel
theorem dX7_setWage_14 : decode cX7_setWage 14 = .ok (.iconst 1, 1) := by decide +kernel
theorem dX7_setWage_15 : decode cX7_setWage 15 = .ok (.ldc 101, 2) := by decide +kernel
theorem dX7_setWage_17 : decode cX7_setWage 17 = .ok (.invokestatic 97, 3) := by decide +kernel
theorem dX7_setWage_20 : decode cX7_setWage 20 = .ok (.ifCond .eq 7, 3) := by decide +kernel
theorem dX7_setWage_23 : decode cX7_setWage 23 = .ok (.iconst 0, 1) := by decide +kernel
theorem dX7_setWage_24 : decode cX7_setWage 24 = .ok (.goto 4, 3) := by decide +kernel
theorem dX7_setWage_27 : decode cX7_setWage 27 = .ok (.iconst 2, 1) := by decide +kernel
theorem dX7_setWage_28 : decode cX7_setWage 28 = .ok (.putfield 90, 3) := by decide +kernel
theorem dX7_setWage_31 : decode cX7_setWage 31 = .ok (.aload_n 0, 1) := by decide +kernel
theorem dX7_setWage_32 : decode cX7_setWage 32 = .ok (.getfield 90, 3) := by decide +kernel
theorem dX7_setWage_35 : decode cX7_setWage 35 = .ok (.ifCond .le 5, 3) := by decide +kernel
theorem dX7_setWage_38 : decode cX7_setWage 38 = .ok (.iconst 0, 1) := by decide +kernel
theorem dX7_setWage_39 : decode cX7_setWage 39 = .ok (.ireturn, 1) := by decide +kernel
theorem dX7_setWage_40 : decode cX7_setWage 40 = .ok (.aload_n 0, 1) := by decide +kernel
theorem dX7_setWage_41 : decode cX7_setWage 41 = .ok (.getfield 7, 3) := by decide +kernel
theorem dX7_setWage_44 : decode cX7_setWage 44 = .ok (.iload_n 1, 1) := by decide +kernel
theorem dX7_setWage_45 : decode cX7_setWage 45 = .ok (.iaload, 1) := by decide +kernel
theorem dX7_setWage_46 : decode cX7_setWage 46 = .ok (.istore_n 3, 1) := by decide +kernel
theorem dX7_setWage_47 : decode cX7_setWage 47 = .ok (.aload_n 0, 1) := by decide +kernel
theorem dX7_setWage_48 : decode cX7_setWage 48 = .ok (.getfield 7, 3) := by decide +kernel
theorem dX7_setWage_51 : decode cX7_setWage 51 = .ok (.iload_n 1, 1) := by decide +kernel
theorem dX7_setWage_52 : decode cX7_setWage 52 = .ok (.iload_n 2, 1) := by decide +kernel
theorem dX7_setWage_53 : decode cX7_setWage 53 = .ok (.iastore, 1) := by decide +kernel
theorem dX7_setWage_54 : decode cX7_setWage 54 = .ok (.iload_n 3, 1) := by decide +kernel
theorem dX7_setWage_55 : decode cX7_setWage 55 = .ok (.ireturn, 1) := by decide +kernel
theorem dX7_placeOf_0 : decode cX7_placeOf 0 = .ok (.iconst 0, 1) := by decide +kernel
theorem dX7_placeOf_1 : decode cX7_placeOf 1 = .ok (.istore_n 3, 1) := by decide +kernel
theorem dX7_placeOf_2 : decode cX7_placeOf 2 = .ok (.iload_n 3, 1) := by decide +kernel
theorem dX7_placeOf_3 : decode cX7_placeOf 3 = .ok (.aload_n 0, 1) := by decide +kernel
theorem dX7_placeOf_4 : decode cX7_placeOf 4 = .ok (.getfield 20, 3) := by decide +kernel
theorem dX7_placeOf_7 : decode cX7_placeOf 7 = .ok (.iload_n 1, 1) := by decide +kernel
theorem dX7_placeOf_8 : decode cX7_placeOf 8 = .ok (.iaload, 1) := by decide +kernel
theorem dX7_placeOf_9 : decode cX7_placeOf 9 = .ok (.if_icmp .ge 24, 3) := by decide +kernel
theorem dX7_placeOf_12 : decode cX7_placeOf 12 = .ok (.aload_n 0, 1) := by decide +kernel
theorem dX7_placeOf_13 : decode cX7_placeOf 13 = .ok (.getfield 23, 3) := by decide +kernel
theorem dX7_placeOf_16 : decode cX7_placeOf 16 = .ok (.bipush 41, 2) := by decide +kernel
theorem dX7_placeOf_18 : decode cX7_placeOf 18 = .ok (.iload_n 1, 1) := by decide +kernel
theorem dX7_placeOf_19 : decode cX7_placeOf 19 = .ok (.imul, 1) := by decide +kernel
theorem dX7_placeOf_20 : decode cX7_placeOf 20 = .ok (.iload_n 3, 1) := by decide +kernel
theorem dX7_placeOf_21 : decode cX7_placeOf 21 = .ok (.iadd, 1) := by decide +kernel
theorem dX7_placeOf_22 : decode cX7_placeOf 22 = .ok (.iaload, 1) := by decide +kernel
theorem dX7_placeOf_23 : decode cX7_placeOf 23 = .ok (.iload_n 2, 1) := by decide +kernel
theorem dX7_placeOf_24 : decode cX7_placeOf 24 = .ok (.if_icmp .ge 9, 3) := by decide +kernel
theorem dX7_placeOf_27 : decode cX7_placeOf 27 = .ok (.iinc 3 1, 3) := by decide +kernel
theorem dX7_placeOf_30 : decode cX7_placeOf 30 = .ok (.goto (-28), 3) := by decide +kernel
theorem dX7_placeOf_33 : decode cX7_placeOf 33 = .ok (.iload_n 3, 1) := by decide +kernel
theorem dX7_placeOf_34 : decode cX7_placeOf 34 = .ok (.ireturn, 1) := by decide +kernel
theorem dX7_hasPunch_0 : decode cX7_hasPunch 0 = .ok (.aload_n 0, 1) := by decide +kernel
theorem dX7_hasPunch_1 : decode cX7_hasPunch 1 = .ok (.iload_n 1, 1) := by decide +kernel
theorem dX7_hasPunch_2 : decode cX7_hasPunch 2 = .ok (.iload_n 2, 1) := by decide +kernel
theorem dX7_hasPunch_3 : decode cX7_hasPunch 3 = .ok (.invokevirtual 106, 3) := by decide +kernel
theorem dX7_hasPunch_6 : decode cX7_hasPunch 6 = .ok (.istore_n 3, 1) := by decide +kernel
theorem dX7_hasPunch_7 : decode cX7_hasPunch 7 = .ok (.iload_n 3, 1) := by decide +kernel
theorem dX7_hasPunch_8 : decode cX7_hasPunch 8 = .ok (.aload_n 0, 1) := by decide +kernel
theorem dX7_hasPunch_9 : decode cX7_hasPunch 9 = .ok (.getfield 20, 3) := by decide +kernel
theorem dX7_hasPunch_12 : decode cX7_hasPunch 12 = .ok (.iload_n 1, 1) := by decide +kernel
theorem dX7_hasPunch_13 : decode cX7_hasPunch 13 = .ok (.iaload, 1) := by decide +kernel
theorem dX7_hasPunch_14 : decode cX7_hasPunch 14 = .ok (.if_icmp .ge 22, 3) := by decide +kernel
theorem dX7_hasPunch_17 : decode cX7_hasPunch 17 = .ok (.aload_n 0, 1) := by decide +kernel
theorem dX7_hasPunch_18 : decode cX7_hasPunch 18 = .ok (.getfield 23, 3) := by decide +kernel
theorem dX7_hasPunch_21 : decode cX7_hasPunch 21 = .ok (.bipush 41, 2) := by decide +kernel
theorem dX7_hasPunch_23 : decode cX7_hasPunch 23 = .ok (.iload_n 1, 1) := by decide +kernel
theorem dX7_hasPunch_24 : decode cX7_hasPunch 24 = .ok (.imul, 1) := by decide +kernel
theorem dX7_hasPunch_25 : decode cX7_hasPunch 25 = .ok (.iload_n 3, 1) := by decide +kernel
theorem dX7_hasPunch_26 : decode cX7_hasPunch 26 = .ok (.iadd, 1) := by decide +kernel
theorem dX7_hasPunch_27 : decode cX7_hasPunch 27 = .ok (.iaload, 1) := by decide +kernel
theorem dX7_hasPunch_28 : decode cX7_hasPunch 28 = .ok (.iload_n 2, 1) := by decide +kernel
theorem dX7_hasPunch_29 : decode cX7_hasPunch 29 = .ok (.if_icmp .ne 7, 3) := by decide +kernel
theorem dX7_hasPunch_32 : decode cX7_hasPunch 32 = .ok (.iconst 1, 1) := by decide +kernel
theorem dX7_hasPunch_33 : decode cX7_hasPunch 33 = .ok (.goto 4, 3) := by decide +kernel
theorem dX7_hasPunch_36 : decode cX7_hasPunch 36 = .ok (.iconst 0, 1) := by decide +kernel
theorem dX7_hasPunch_37 : decode cX7_hasPunch 37 = .ok (.ireturn, 1) := by decide +kernel
theorem dX7_punch_0 : decode cX7_punch 0 = .ok (.aload_n 0, 1) := by decide +kernel
theorem dX7_punch_1 : decode cX7_punch 1 = .ok (.aload_n 0, 1) := by decide +kernel
theorem dX7_punch_2 : decode cX7_punch 2 = .ok (.iload_n 1, 1) := by decide +kernel
theorem dX7_punch_3 : decode cX7_punch 3 = .ok (.invokevirtual 102, 3) := by decide +kernel
theorem dX7_punch_6 : decode cX7_punch 6 = .ok (.ifCond .ne 7, 3) := by decide +kernel
theorem dX7_punch_9 : decode cX7_punch 9 = .ok (.iconst 1, 1) := by decide +kernel
theorem dX7_punch_10 : decode cX7_punch 10 = .ok (.goto 43, 3) := by decide +kernel
theorem dX7_punch_13 : decode cX7_punch 13 = .ok (.iload_n 2, 1) := by decide +kernel
theorem dX7_punch_14 : decode cX7_punch 14 = .ok (.iconst 0, 1) := by decide +kernel
theorem dX7_punch_15 : decode cX7_punch 15 = .ok (.sipush 10080, 3) := by decide +kernel
theorem dX7_punch_18 : decode cX7_punch 18 = .ok (.invokestatic 97, 3) := by decide +kernel
theorem dX7_punch_21 : decode cX7_punch 21 = .ok (.ifCond .ne 7, 3) := by decide +kernel
theorem dX7_punch_24 : decode cX7_punch 24 = .ok (.iconst 2, 1) := by decide +kernel
theorem dX7_punch_25 : decode cX7_punch 25 = .ok (.goto 28, 3) := by decide +kernel
theorem dX7_punch_28 : decode cX7_punch 28 = .ok (.aload_n 0, 1) := by decide +kernel
theorem dX7_punch_29 : decode cX7_punch 29 = .ok (.iload_n 1, 1) := by decide +kernel
theorem dX7_punch_30 : decode cX7_punch 30 = .ok (.iload_n 2, 1) := by decide +kernel
theorem dX7_punch_31 : decode cX7_punch 31 = .ok (.invokevirtual 110, 3) := by decide +kernel
theorem dX7_punch_34 : decode cX7_punch 34 = .ok (.ifCond .ne 14, 3) := by decide +kernel
theorem dX7_punch_37 : decode cX7_punch 37 = .ok (.aload_n 0, 1) := by decide +kernel
theorem dX7_punch_38 : decode cX7_punch 38 = .ok (.getfield 20, 3) := by decide +kernel
theorem dX7_punch_41 : decode cX7_punch 41 = .ok (.iload_n 1, 1) := by decide +kernel
theorem dX7_punch_42 : decode cX7_punch 42 = .ok (.iaload, 1) := by decide +kernel
theorem dX7_punch_43 : decode cX7_punch 43 = .ok (.bipush 40, 2) := by decide +kernel
theorem dX7_punch_45 : decode cX7_punch 45 = .ok (.if_icmp .ne 7, 3) := by decide +kernel
theorem dX7_punch_48 : decode cX7_punch 48 = .ok (.iconst 3, 1) := by decide +kernel
theorem dX7_punch_49 : decode cX7_punch 49 = .ok (.goto 4, 3) := by decide +kernel
theorem dX7_punch_52 : decode cX7_punch 52 = .ok (.iconst 0, 1) := by decide +kernel
theorem dX7_punch_53 : decode cX7_punch 53 = .ok (.putfield 90, 3) := by decide +kernel
theorem dX7_punch_56 : decode cX7_punch 56 = .ok (.aload_n 0, 1) := by decide +kernel
theorem dX7_punch_57 : decode cX7_punch 57 = .ok (.getfield 90, 3) := by decide +kernel
theorem dX7_punch_60 : decode cX7_punch 60 = .ok (.ifCond .le 5, 3) := by decide +kernel
theorem dX7_punch_63 : decode cX7_punch 63 = .ok (.iconst 0, 1) := by decide +kernel
theorem dX7_punch_64 : decode cX7_punch 64 = .ok (.ireturn, 1) := by decide +kernel
theorem dX7_punch_65 : decode cX7_punch 65 = .ok (.aload_n 0, 1) := by decide +kernel
theorem dX7_punch_66 : decode cX7_punch 66 = .ok (.iload_n 1, 1) := by decide +kernel
theorem dX7_punch_67 : decode cX7_punch 67 = .ok (.iload_n 2, 1) := by decide +kernel
theorem dX7_punch_68 : decode cX7_punch 68 = .ok (.invokevirtual 106, 3) := by decide +kernel
theorem dX7_punch_71 : decode cX7_punch 71 = .ok (.istore 4, 2) := by decide +kernel
theorem dX7_punch_73 : decode cX7_punch 73 = .ok (.aload_n 0, 1) := by decide +kernel
theorem dX7_punch_74 : decode cX7_punch 74 = .ok (.getfield 20, 3) := by decide +kernel
theorem dX7_punch_77 : decode cX7_punch 77 = .ok (.iload_n 1, 1) := by decide +kernel
theorem dX7_punch_78 : decode cX7_punch 78 = .ok (.iaload, 1) := by decide +kernel
theorem dX7_punch_79 : decode cX7_punch 79 = .ok (.istore 5, 2) := by decide +kernel
theorem dX7_punch_81 : decode cX7_punch 81 = .ok (.iload 5, 2) := by decide +kernel
theorem dX7_punch_83 : decode cX7_punch 83 = .ok (.iload 4, 2) := by decide +kernel
theorem dX7_punch_85 : decode cX7_punch 85 = .ok (.if_icmp .le 61, 3) := by decide +kernel
theorem dX7_punch_88 : decode cX7_punch 88 = .ok (.aload_n 0, 1) := by decide +kernel
theorem dX7_punch_89 : decode cX7_punch 89 = .ok (.getfield 23, 3) := by decide +kernel
theorem dX7_punch_92 : decode cX7_punch 92 = .ok (.bipush 41, 2) := by decide +kernel
theorem dX7_punch_94 : decode cX7_punch 94 = .ok (.iload_n 1, 1) := by decide +kernel
theorem dX7_punch_95 : decode cX7_punch 95 = .ok (.imul, 1) := by decide +kernel
theorem dX7_punch_96 : decode cX7_punch 96 = .ok (.iload 5, 2) := by decide +kernel
theorem dX7_punch_98 : decode cX7_punch 98 = .ok (.iadd, 1) := by decide +kernel
theorem dX7_punch_99 : decode cX7_punch 99 = .ok (.aload_n 0, 1) := by decide +kernel
theorem dX7_punch_100 : decode cX7_punch 100 = .ok (.getfield 23, 3) := by decide +kernel
theorem dX7_punch_103 : decode cX7_punch 103 = .ok (.bipush 41, 2) := by decide +kernel
theorem dX7_punch_105 : decode cX7_punch 105 = .ok (.iload_n 1, 1) := by decide +kernel
theorem dX7_punch_106 : decode cX7_punch 106 = .ok (.imul, 1) := by decide +kernel
theorem dX7_punch_107 : decode cX7_punch 107 = .ok (.iload 5, 2) := by decide +kernel
theorem dX7_punch_109 : decode cX7_punch 109 = .ok (.iadd, 1) := by decide +kernel
theorem dX7_punch_110 : decode cX7_punch 110 = .ok (.iconst 1, 1) := by decide +kernel
theorem dX7_punch_111 : decode cX7_punch 111 = .ok (.isub, 1) := by decide +kernel
theorem dX7_punch_112 : decode cX7_punch 112 = .ok (.iaload, 1) := by decide +kernel
theorem dX7_punch_113 : decode cX7_punch 113 = .ok (.iastore, 1) := by decide +kernel
theorem dX7_punch_114 : decode cX7_punch 114 = .ok (.aload_n 0, 1) := by decide +kernel
theorem dX7_punch_115 : decode cX7_punch 115 = .ok (.getfield 26, 3) := by decide +kernel
theorem dX7_punch_118 : decode cX7_punch 118 = .ok (.bipush 41, 2) := by decide +kernel
theorem dX7_punch_120 : decode cX7_punch 120 = .ok (.iload_n 1, 1) := by decide +kernel
theorem dX7_punch_121 : decode cX7_punch 121 = .ok (.imul, 1) := by decide +kernel
theorem dX7_punch_122 : decode cX7_punch 122 = .ok (.iload 5, 2) := by decide +kernel
theorem dX7_punch_124 : decode cX7_punch 124 = .ok (.iadd, 1) := by decide +kernel
theorem dX7_punch_125 : decode cX7_punch 125 = .ok (.aload_n 0, 1) := by decide +kernel
theorem dX7_punch_126 : decode cX7_punch 126 = .ok (.getfield 26, 3) := by decide +kernel
theorem dX7_punch_129 : decode cX7_punch 129 = .ok (.bipush 41, 2) := by decide +kernel
theorem dX7_punch_131 : decode cX7_punch 131 = .ok (.iload_n 1, 1) := by decide +kernel
theorem dX7_punch_132 : decode cX7_punch 132 = .ok (.imul, 1) := by decide +kernel
theorem dX7_punch_133 : decode cX7_punch 133 = .ok (.iload 5, 2) := by decide +kernel
theorem dX7_punch_135 : decode cX7_punch 135 = .ok (.iadd, 1) := by decide +kernel
theorem dX7_punch_136 : decode cX7_punch 136 = .ok (.iconst 1, 1) := by decide +kernel
theorem dX7_punch_137 : decode cX7_punch 137 = .ok (.isub, 1) := by decide +kernel
theorem dX7_punch_138 : decode cX7_punch 138 = .ok (.baload, 1) := by decide +kernel
theorem dX7_punch_139 : decode cX7_punch 139 = .ok (.bastore, 1) := by decide +kernel
theorem dX7_punch_140 : decode cX7_punch 140 = .ok (.iinc 5 (-1), 3) := by decide +kernel
theorem dX7_punch_143 : decode cX7_punch 143 = .ok (.goto (-62), 3) := by decide +kernel
theorem dX7_punch_146 : decode cX7_punch 146 = .ok (.aload_n 0, 1) := by decide +kernel
theorem dX7_punch_147 : decode cX7_punch 147 = .ok (.getfield 23, 3) := by decide +kernel
theorem dX7_punch_150 : decode cX7_punch 150 = .ok (.bipush 41, 2) := by decide +kernel
theorem dX7_punch_152 : decode cX7_punch 152 = .ok (.iload_n 1, 1) := by decide +kernel
theorem dX7_punch_153 : decode cX7_punch 153 = .ok (.imul, 1) := by decide +kernel
theorem dX7_punch_154 : decode cX7_punch 154 = .ok (.iload 4, 2) := by decide +kernel
theorem dX7_punch_156 : decode cX7_punch 156 = .ok (.iadd, 1) := by decide +kernel
theorem dX7_punch_157 : decode cX7_punch 157 = .ok (.iload_n 2, 1) := by decide +kernel
theorem dX7_punch_158 : decode cX7_punch 158 = .ok (.iastore, 1) := by decide +kernel
theorem dX7_punch_159 : decode cX7_punch 159 = .ok (.aload_n 0, 1) := by decide +kernel
theorem dX7_punch_160 : decode cX7_punch 160 = .ok (.getfield 26, 3) := by decide +kernel
theorem dX7_punch_163 : decode cX7_punch 163 = .ok (.bipush 41, 2) := by decide +kernel
theorem dX7_punch_165 : decode cX7_punch 165 = .ok (.iload_n 1, 1) := by decide +kernel
theorem dX7_punch_166 : decode cX7_punch 166 = .ok (.imul, 1) := by decide +kernel
theorem dX7_punch_167 : decode cX7_punch 167 = .ok (.iload 4, 2) := by decide +kernel
theorem dX7_punch_169 : decode cX7_punch 169 = .ok (.iadd, 1) := by decide +kernel
theorem dX7_punch_170 : decode cX7_punch 170 = .ok (.iload_n 3, 1) := by decide +kernel
theorem dX7_punch_171 : decode cX7_punch 171 = .ok (.bastore, 1) := by decide +kernel
theorem dX7_punch_172 : decode cX7_punch 172 = .ok (.aload_n 0, 1) := by decide +kernel
theorem dX7_punch_173 : decode cX7_punch 173 = .ok (.getfield 20, 3) := by decide +kernel
theorem dX7_punch_176 : decode cX7_punch 176 = .ok (.iload_n 1, 1) := by decide +kernel
theorem dX7_punch_177 : decode cX7_punch 177 = .ok (.dup2, 1) := by decide +kernel
theorem dX7_punch_178 : decode cX7_punch 178 = .ok (.iaload, 1) := by decide +kernel
theorem dX7_punch_179 : decode cX7_punch 179 = .ok (.iconst 1, 1) := by decide +kernel
theorem dX7_punch_180 : decode cX7_punch 180 = .ok (.iadd, 1) := by decide +kernel
theorem dX7_punch_181 : decode cX7_punch 181 = .ok (.iastore, 1) := by decide +kernel
theorem dX7_punch_182 : decode cX7_punch 182 = .ok (.aload_n 0, 1) := by decide +kernel
theorem dX7_punch_183 : decode cX7_punch 183 = .ok (.getfield 20, 3) := by decide +kernel
theorem dX7_punch_186 : decode cX7_punch 186 = .ok (.iload_n 1, 1) := by decide +kernel
theorem dX7_punch_187 : decode cX7_punch 187 = .ok (.iaload, 1) := by decide +kernel
theorem dX7_punch_188 : decode cX7_punch 188 = .ok (.ireturn, 1) := by decide +kernel
theorem dX7_removePunch_0 : decode cX7_removePunch 0 = .ok (.aload_n 0, 1) := by decide +kernel
theorem dX7_removePunch_1 : decode cX7_removePunch 1 = .ok (.aload_n 0, 1) := by decide +kernel
theorem dX7_removePunch_2 : decode cX7_removePunch 2 = .ok (.iload_n 1, 1) := by decide +kernel
theorem dX7_removePunch_3 : decode cX7_removePunch 3 = .ok (.invokevirtual 102, 3) := by decide +kernel
theorem dX7_removePunch_6 : decode cX7_removePunch 6 = .ok (.ifCond .ne 7, 3) := by decide +kernel
theorem dX7_removePunch_9 : decode cX7_removePunch 9 = .ok (.iconst 1, 1) := by decide +kernel
theorem dX7_removePunch_10 : decode cX7_removePunch 10 = .ok (.goto 17, 3) := by decide +kernel
theorem dX7_removePunch_13 : decode cX7_removePunch 13 = .ok (.aload_n 0, 1) := by decide +kernel
theorem dX7_removePunch_14 : decode cX7_removePunch 14 = .ok (.iload_n 1, 1) := by decide +kernel
theorem dX7_removePunch_15 : decode cX7_removePunch 15 = .ok (.iload_n 2, 1) := by decide +kernel
theorem dX7_removePunch_16 : decode cX7_removePunch 16 = .ok (.invokevirtual 110, 3) := by decide +kernel
theorem dX7_removePunch_19 : decode cX7_removePunch 19 = .ok (.ifCond .eq 7, 3) := by decide +kernel
theorem dX7_removePunch_22 : decode cX7_removePunch 22 = .ok (.iconst 0, 1) := by decide +kernel
theorem dX7_removePunch_23 : decode cX7_removePunch 23 = .ok (.goto 4, 3) := by decide +kernel
theorem dX7_removePunch_26 : decode cX7_removePunch 26 = .ok (.iconst 2, 1) := by decide +kernel
theorem dX7_removePunch_27 : decode cX7_removePunch 27 = .ok (.putfield 90, 3) := by decide +kernel
theorem dX7_removePunch_30 : decode cX7_removePunch 30 = .ok (.aload_n 0, 1) := by decide +kernel
theorem dX7_removePunch_31 : decode cX7_removePunch 31 = .ok (.getfield 90, 3) := by decide +kernel
theorem dX7_removePunch_34 : decode cX7_removePunch 34 = .ok (.ifCond .le 5, 3) := by decide +kernel
theorem dX7_removePunch_37 : decode cX7_removePunch 37 = .ok (.iconst 0, 1) := by decide +kernel
theorem dX7_removePunch_38 : decode cX7_removePunch 38 = .ok (.ireturn, 1) := by decide +kernel
theorem dX7_removePunch_39 : decode cX7_removePunch 39 = .ok (.aload_n 0, 1) := by decide +kernel
theorem dX7_removePunch_40 : decode cX7_removePunch 40 = .ok (.iload_n 1, 1) := by decide +kernel
theorem dX7_removePunch_41 : decode cX7_removePunch 41 = .ok (.iload_n 2, 1) := by decide +kernel
theorem dX7_removePunch_42 : decode cX7_removePunch 42 = .ok (.invokevirtual 106, 3) := by decide +kernel
theorem dX7_removePunch_45 : decode cX7_removePunch 45 = .ok (.istore_n 3, 1) := by decide +kernel
theorem dX7_removePunch_46 : decode cX7_removePunch 46 = .ok (.aload_n 0, 1) := by decide +kernel
theorem dX7_removePunch_47 : decode cX7_removePunch 47 = .ok (.getfield 26, 3) := by decide +kernel
theorem dX7_removePunch_50 : decode cX7_removePunch 50 = .ok (.bipush 41, 2) := by decide +kernel
theorem dX7_removePunch_52 : decode cX7_removePunch 52 = .ok (.iload_n 1, 1) := by decide +kernel
theorem dX7_removePunch_53 : decode cX7_removePunch 53 = .ok (.imul, 1) := by decide +kernel
theorem dX7_removePunch_54 : decode cX7_removePunch 54 = .ok (.iload_n 3, 1) := by decide +kernel
theorem dX7_removePunch_55 : decode cX7_removePunch 55 = .ok (.iadd, 1) := by decide +kernel
theorem dX7_removePunch_56 : decode cX7_removePunch 56 = .ok (.baload, 1) := by decide +kernel
theorem dX7_removePunch_57 : decode cX7_removePunch 57 = .ok (.istore 4, 2) := by decide +kernel
theorem dX7_removePunch_59 : decode cX7_removePunch 59 = .ok (.aload_n 0, 1) := by decide +kernel
theorem dX7_removePunch_60 : decode cX7_removePunch 60 = .ok (.getfield 20, 3) := by decide +kernel
theorem dX7_removePunch_63 : decode cX7_removePunch 63 = .ok (.iload_n 1, 1) := by decide +kernel
theorem dX7_removePunch_64 : decode cX7_removePunch 64 = .ok (.dup2, 1) := by decide +kernel
theorem dX7_removePunch_65 : decode cX7_removePunch 65 = .ok (.iaload, 1) := by decide +kernel
theorem dX7_removePunch_66 : decode cX7_removePunch 66 = .ok (.iconst 1, 1) := by decide +kernel
theorem dX7_removePunch_67 : decode cX7_removePunch 67 = .ok (.isub, 1) := by decide +kernel
theorem dX7_removePunch_68 : decode cX7_removePunch 68 = .ok (.iastore, 1) := by decide +kernel
theorem dX7_removePunch_69 : decode cX7_removePunch 69 = .ok (.iload_n 3, 1) := by decide +kernel
theorem dX7_removePunch_70 : decode cX7_removePunch 70 = .ok (.istore 5, 2) := by decide +kernel
theorem dX7_removePunch_72 : decode cX7_removePunch 72 = .ok (.iload 5, 2) := by decide +kernel
theorem dX7_removePunch_74 : decode cX7_removePunch 74 = .ok (.aload_n 0, 1) := by decide +kernel
theorem dX7_removePunch_75 : decode cX7_removePunch 75 = .ok (.getfield 20, 3) := by decide +kernel
theorem dX7_removePunch_78 : decode cX7_removePunch 78 = .ok (.iload_n 1, 1) := by decide +kernel
theorem dX7_removePunch_79 : decode cX7_removePunch 79 = .ok (.iaload, 1) := by decide +kernel
theorem dX7_removePunch_80 : decode cX7_removePunch 80 = .ok (.if_icmp .ge 61, 3) := by decide +kernel
theorem dX7_removePunch_83 : decode cX7_removePunch 83 = .ok (.aload_n 0, 1) := by decide +kernel
theorem dX7_removePunch_84 : decode cX7_removePunch 84 = .ok (.getfield 23, 3) := by decide +kernel
theorem dX7_removePunch_87 : decode cX7_removePunch 87 = .ok (.bipush 41, 2) := by decide +kernel
theorem dX7_removePunch_89 : decode cX7_removePunch 89 = .ok (.iload_n 1, 1) := by decide +kernel
theorem dX7_removePunch_90 : decode cX7_removePunch 90 = .ok (.imul, 1) := by decide +kernel
theorem dX7_removePunch_91 : decode cX7_removePunch 91 = .ok (.iload 5, 2) := by decide +kernel
theorem dX7_removePunch_93 : decode cX7_removePunch 93 = .ok (.iadd, 1) := by decide +kernel
theorem dX7_removePunch_94 : decode cX7_removePunch 94 = .ok (.aload_n 0, 1) := by decide +kernel
theorem dX7_removePunch_95 : decode cX7_removePunch 95 = .ok (.getfield 23, 3) := by decide +kernel
theorem dX7_removePunch_98 : decode cX7_removePunch 98 = .ok (.bipush 41, 2) := by decide +kernel
theorem dX7_removePunch_100 : decode cX7_removePunch 100 = .ok (.iload_n 1, 1) := by decide +kernel
theorem dX7_removePunch_101 : decode cX7_removePunch 101 = .ok (.imul, 1) := by decide +kernel
theorem dX7_removePunch_102 : decode cX7_removePunch 102 = .ok (.iload 5, 2) := by decide +kernel
theorem dX7_removePunch_104 : decode cX7_removePunch 104 = .ok (.iadd, 1) := by decide +kernel
theorem dX7_removePunch_105 : decode cX7_removePunch 105 = .ok (.iconst 1, 1) := by decide +kernel
theorem dX7_removePunch_106 : decode cX7_removePunch 106 = .ok (.iadd, 1) := by decide +kernel
theorem dX7_removePunch_107 : decode cX7_removePunch 107 = .ok (.iaload, 1) := by decide +kernel
theorem dX7_removePunch_108 : decode cX7_removePunch 108 = .ok (.iastore, 1) := by decide +kernel
theorem dX7_removePunch_109 : decode cX7_removePunch 109 = .ok (.aload_n 0, 1) := by decide +kernel
theorem dX7_removePunch_110 : decode cX7_removePunch 110 = .ok (.getfield 26, 3) := by decide +kernel
theorem dX7_removePunch_113 : decode cX7_removePunch 113 = .ok (.bipush 41, 2) := by decide +kernel
theorem dX7_removePunch_115 : decode cX7_removePunch 115 = .ok (.iload_n 1, 1) := by decide +kernel
theorem dX7_removePunch_116 : decode cX7_removePunch 116 = .ok (.imul, 1) := by decide +kernel
theorem dX7_removePunch_117 : decode cX7_removePunch 117 = .ok (.iload 5, 2) := by decide +kernel
theorem dX7_removePunch_119 : decode cX7_removePunch 119 = .ok (.iadd, 1) := by decide +kernel
theorem dX7_removePunch_120 : decode cX7_removePunch 120 = .ok (.aload_n 0, 1) := by decide +kernel
theorem dX7_removePunch_121 : decode cX7_removePunch 121 = .ok (.getfield 26, 3) := by decide +kernel
theorem dX7_removePunch_124 : decode cX7_removePunch 124 = .ok (.bipush 41, 2) := by decide +kernel
theorem dX7_removePunch_126 : decode cX7_removePunch 126 = .ok (.iload_n 1, 1) := by decide +kernel
theorem dX7_removePunch_127 : decode cX7_removePunch 127 = .ok (.imul, 1) := by decide +kernel
theorem dX7_removePunch_128 : decode cX7_removePunch 128 = .ok (.iload 5, 2) := by decide +kernel
theorem dX7_removePunch_130 : decode cX7_removePunch 130 = .ok (.iadd, 1) := by decide +kernel
theorem dX7_removePunch_131 : decode cX7_removePunch 131 = .ok (.iconst 1, 1) := by decide +kernel
theorem dX7_removePunch_132 : decode cX7_removePunch 132 = .ok (.iadd, 1) := by decide +kernel
theorem dX7_removePunch_133 : decode cX7_removePunch 133 = .ok (.baload, 1) := by decide +kernel
theorem dX7_removePunch_134 : decode cX7_removePunch 134 = .ok (.bastore, 1) := by decide +kernel
theorem dX7_removePunch_135 : decode cX7_removePunch 135 = .ok (.iinc 5 1, 3) := by decide +kernel
theorem dX7_removePunch_138 : decode cX7_removePunch 138 = .ok (.goto (-66), 3) := by decide +kernel
theorem dX7_removePunch_141 : decode cX7_removePunch 141 = .ok (.iload 4, 2) := by decide +kernel
theorem dX7_removePunch_143 : decode cX7_removePunch 143 = .ok (.ireturn, 1) := by decide +kernel
theorem dX7_puts_0 : decode cX7_puts 0 = .ok (.aload_n 0, 1) := by decide +kernel
theorem dX7_puts_1 : decode cX7_puts 1 = .ok (.aload_n 0, 1) := by decide +kernel
theorem dX7_puts_2 : decode cX7_puts 2 = .ok (.iload_n 1, 1) := by decide +kernel
theorem dX7_puts_3 : decode cX7_puts 3 = .ok (.invokevirtual 102, 3) := by decide +kernel
theorem dX7_puts_6 : decode cX7_puts 6 = .ok (.ifCond .ne 7, 3) := by decide +kernel
theorem dX7_puts_9 : decode cX7_puts 9 = .ok (.iconst 1, 1) := by decide +kernel
theorem dX7_puts_10 : decode cX7_puts 10 = .ok (.goto 44, 3) := by decide +kernel
theorem dX7_puts_13 : decode cX7_puts 13 = .ok (.iload_n 2, 1) := by decide +kernel
theorem dX7_puts_14 : decode cX7_puts 14 = .ok (.iconst 0, 1) := by decide +kernel
theorem dX7_puts_15 : decode cX7_puts 15 = .ok (.sipush 10079, 3) := by decide +kernel
theorem dX7_puts_18 : decode cX7_puts 18 = .ok (.invokestatic 97, 3) := by decide +kernel
theorem dX7_puts_21 : decode cX7_puts 21 = .ok (.ifCond .eq 15, 3) := by decide +kernel
theorem dX7_puts_24 : decode cX7_puts 24 = .ok (.iload_n 3, 1) := by decide +kernel
theorem dX7_puts_25 : decode cX7_puts 25 = .ok (.iload_n 2, 1) := by decide +kernel
theorem dX7_puts_26 : decode cX7_puts 26 = .ok (.if_icmp .le 10, 3) := by decide +kernel
theorem dX7_puts_29 : decode cX7_puts 29 = .ok (.iload_n 3, 1) := by decide +kernel
theorem dX7_puts_30 : decode cX7_puts 30 = .ok (.sipush 10080, 3) := by decide +kernel
theorem dX7_puts_33 : decode cX7_puts 33 = .ok (.if_icmp .le 7, 3) := by decide +kernel
theorem dX7_puts_36 : decode cX7_puts 36 = .ok (.iconst 2, 1) := by decide +kernel
theorem dX7_puts_37 : decode cX7_puts 37 = .ok (.goto 17, 3) := by decide +kernel
theorem dX7_puts_40 : decode cX7_puts 40 = .ok (.aload 4, 2) := by decide +kernel
theorem dX7_puts_42 : decode cX7_puts 42 = .ok (.iload_n 1, 1) := by decide +kernel
theorem dX7_puts_43 : decode cX7_puts 43 = .ok (.iaload, 1) := by decide +kernel
theorem dX7_puts_44 : decode cX7_puts 44 = .ok (.bipush 20, 2) := by decide +kernel
theorem dX7_puts_46 : decode cX7_puts 46 = .ok (.if_icmp .ne 7, 3) := by decide +kernel
theorem dX7_puts_49 : decode cX7_puts 49 = .ok (.iconst 3, 1) := by decide +kernel
theorem dX7_puts_50 : decode cX7_puts 50 = .ok (.goto 4, 3) := by decide +kernel
theorem dX7_puts_53 : decode cX7_puts 53 = .ok (.iconst 0, 1) := by decide +kernel
theorem dX7_puts_54 : decode cX7_puts 54 = .ok (.putfield 90, 3) := by decide +kernel
theorem dX7_puts_57 : decode cX7_puts 57 = .ok (.aload_n 0, 1) := by decide +kernel
theorem dX7_puts_58 : decode cX7_puts 58 = .ok (.getfield 90, 3) := by decide +kernel
theorem dX7_puts_61 : decode cX7_puts 61 = .ok (.ifCond .le 5, 3) := by decide +kernel
theorem dX7_puts_64 : decode cX7_puts 64 = .ok (.iconst 0, 1) := by decide +kernel
theorem dX7_puts_65 : decode cX7_puts 65 = .ok (.ireturn, 1) := by decide +kernel
theorem dX7_puts_66 : decode cX7_puts 66 = .ok (.aload 5, 2) := by decide +kernel
theorem dX7_puts_68 : decode cX7_puts 68 = .ok (.bipush 20, 2) := by decide +kernel
theorem dX7_puts_70 : decode cX7_puts 70 = .ok (.iload_n 1, 1) := by decide +kernel
theorem dX7_puts_71 : decode cX7_puts 71 = .ok (.imul, 1) := by decide +kernel
theorem dX7_puts_72 : decode cX7_puts 72 = .ok (.aload 4, 2) := by decide +kernel
theorem dX7_puts_74 : decode cX7_puts 74 = .ok (.iload_n 1, 1) := by decide +kernel
theorem dX7_puts_75 : decode cX7_puts 75 = .ok (.iaload, 1) := by decide +kernel
theorem dX7_puts_76 : decode cX7_puts 76 = .ok (.iadd, 1) := by decide +kernel
theorem dX7_puts_77 : decode cX7_puts 77 = .ok (.iload_n 2, 1) := by decide +kernel
theorem dX7_puts_78 : decode cX7_puts 78 = .ok (.iastore, 1) := by decide +kernel
theorem dX7_puts_79 : decode cX7_puts 79 = .ok (.aload 6, 2) := by decide +kernel
theorem dX7_puts_81 : decode cX7_puts 81 = .ok (.bipush 20, 2) := by decide +kernel
theorem dX7_puts_83 : decode cX7_puts 83 = .ok (.iload_n 1, 1) := by decide +kernel
theorem dX7_puts_84 : decode cX7_puts 84 = .ok (.imul, 1) := by decide +kernel
theorem dX7_puts_85 : decode cX7_puts 85 = .ok (.aload 4, 2) := by decide +kernel
theorem dX7_puts_87 : decode cX7_puts 87 = .ok (.iload_n 1, 1) := by decide +kernel
theorem dX7_puts_88 : decode cX7_puts 88 = .ok (.iaload, 1) := by decide +kernel
theorem dX7_puts_89 : decode cX7_puts 89 = .ok (.iadd, 1) := by decide +kernel
theorem dX7_puts_90 : decode cX7_puts 90 = .ok (.iload_n 3, 1) := by decide +kernel
theorem dX7_puts_91 : decode cX7_puts 91 = .ok (.iastore, 1) := by decide +kernel
theorem dX7_puts_92 : decode cX7_puts 92 = .ok (.aload 4, 2) := by decide +kernel
theorem dX7_puts_94 : decode cX7_puts 94 = .ok (.iload_n 1, 1) := by decide +kernel
theorem dX7_puts_95 : decode cX7_puts 95 = .ok (.dup2, 1) := by decide +kernel
theorem dX7_puts_96 : decode cX7_puts 96 = .ok (.iaload, 1) := by decide +kernel
theorem dX7_puts_97 : decode cX7_puts 97 = .ok (.iconst 1, 1) := by decide +kernel
theorem dX7_puts_98 : decode cX7_puts 98 = .ok (.iadd, 1) := by decide +kernel
theorem dX7_puts_99 : decode cX7_puts 99 = .ok (.iastore, 1) := by decide +kernel
theorem dX7_puts_100 : decode cX7_puts 100 = .ok (.aload 4, 2) := by decide +kernel
theorem dX7_puts_102 : decode cX7_puts 102 = .ok (.iload_n 1, 1) := by decide +kernel
theorem dX7_puts_103 : decode cX7_puts 103 = .ok (.iaload, 1) := by decide +kernel
theorem dX7_puts_104 : decode cX7_puts 104 = .ok (.iconst 1, 1) := by decide +kernel
theorem dX7_puts_105 : decode cX7_puts 105 = .ok (.isub, 1) := by decide +kernel
theorem dX7_puts_106 : decode cX7_puts 106 = .ok (.ireturn, 1) := by decide +kernel
theorem dX7_takes_0 : decode cX7_takes 0 = .ok (.aload_n 0, 1) := by decide +kernel
theorem dX7_takes_1 : decode cX7_takes 1 = .ok (.aload_n 0, 1) := by decide +kernel
theorem dX7_takes_2 : decode cX7_takes 2 = .ok (.iload_n 1, 1) := by decide +kernel
theorem dX7_takes_3 : decode cX7_takes 3 = .ok (.invokevirtual 102, 3) := by decide +kernel
theorem dX7_takes_6 : decode cX7_takes 6 = .ok (.ifCond .eq 20, 3) := by decide +kernel
theorem dX7_takes_9 : decode cX7_takes 9 = .ok (.iload_n 2, 1) := by decide +kernel
theorem dX7_takes_10 : decode cX7_takes 10 = .ok (.iconst 0, 1) := by decide +kernel
theorem dX7_takes_11 : decode cX7_takes 11 = .ok (.aload_n 3, 1) := by decide +kernel
theorem dX7_takes_12 : decode cX7_takes 12 = .ok (.iload_n 1, 1) := by decide +kernel
theorem dX7_takes_13 : decode cX7_takes 13 = .ok (.iaload, 1) := by decide +kernel
theorem dX7_takes_14 : decode cX7_takes 14 = .ok (.iconst 1, 1) := by decide +kernel
theorem dX7_takes_15 : decode cX7_takes 15 = .ok (.isub, 1) := by decide +kernel
theorem dX7_takes_16 : decode cX7_takes 16 = .ok (.invokestatic 97, 3) := by decide +kernel
theorem dX7_takes_19 : decode cX7_takes 19 = .ok (.ifCond .eq 7, 3) := by decide +kernel
theorem dX7_takes_22 : decode cX7_takes 22 = .ok (.iconst 0, 1) := by decide +kernel
theorem dX7_takes_23 : decode cX7_takes 23 = .ok (.goto 4, 3) := by decide +kernel
theorem dX7_takes_26 : decode cX7_takes 26 = .ok (.iconst 1, 1) := by decide +kernel
theorem dX7_takes_27 : decode cX7_takes 27 = .ok (.putfield 90, 3) := by decide +kernel
theorem dX7_takes_30 : decode cX7_takes 30 = .ok (.aload_n 0, 1) := by decide +kernel
theorem dX7_takes_31 : decode cX7_takes 31 = .ok (.getfield 90, 3) := by decide +kernel
theorem dX7_takes_34 : decode cX7_takes 34 = .ok (.ifCond .le 5, 3) := by decide +kernel
theorem dX7_takes_37 : decode cX7_takes 37 = .ok (.iconst 0, 1) := by decide +kernel
theorem dX7_takes_38 : decode cX7_takes 38 = .ok (.ireturn, 1) := by decide +kernel
theorem dX7_takes_39 : decode cX7_takes 39 = .ok (.aload_n 3, 1) := by decide +kernel
theorem dX7_takes_40 : decode cX7_takes 40 = .ok (.iload_n 1, 1) := by decide +kernel
theorem dX7_takes_41 : decode cX7_takes 41 = .ok (.dup2, 1) := by decide +kernel
theorem dX7_takes_42 : decode cX7_takes 42 = .ok (.iaload, 1) := by decide +kernel
theorem dX7_takes_43 : decode cX7_takes 43 = .ok (.iconst 1, 1) := by decide +kernel
theorem dX7_takes_44 : decode cX7_takes 44 = .ok (.isub, 1) := by decide +kernel
theorem dX7_takes_45 : decode cX7_takes 45 = .ok (.iastore, 1) := by decide +kernel
theorem dX7_takes_46 : decode cX7_takes 46 = .ok (.bipush 20, 2) := by decide +kernel
theorem dX7_takes_48 : decode cX7_takes 48 = .ok (.iload_n 1, 1) := by decide +kernel
theorem dX7_takes_49 : decode cX7_takes 49 = .ok (.imul, 1) := by decide +kernel
theorem dX7_takes_50 : decode cX7_takes 50 = .ok (.iload_n 2, 1) := by decide +kernel
theorem dX7_takes_51 : decode cX7_takes 51 = .ok (.iadd, 1) := by decide +kernel
theorem dX7_takes_52 : decode cX7_takes 52 = .ok (.istore 6, 2) := by decide +kernel
theorem dX7_takes_54 : decode cX7_takes 54 = .ok (.iload 6, 2) := by decide +kernel
theorem dX7_takes_56 : decode cX7_takes 56 = .ok (.bipush 20, 2) := by decide +kernel
theorem dX7_takes_58 : decode cX7_takes 58 = .ok (.iload_n 1, 1) := by decide +kernel
theorem dX7_takes_59 : decode cX7_takes 59 = .ok (.imul, 1) := by decide +kernel
theorem dX7_takes_60 : decode cX7_takes 60 = .ok (.aload_n 3, 1) := by decide +kernel
theorem dX7_takes_61 : decode cX7_takes 61 = .ok (.iload_n 1, 1) := by decide +kernel
theorem dX7_takes_62 : decode cX7_takes 62 = .ok (.iaload, 1) := by decide +kernel
theorem dX7_takes_63 : decode cX7_takes 63 = .ok (.iadd, 1) := by decide +kernel
theorem dX7_takes_64 : decode cX7_takes 64 = .ok (.if_icmp .ge 33, 3) := by decide +kernel
theorem dX7_takes_67 : decode cX7_takes 67 = .ok (.aload 4, 2) := by decide +kernel
theorem dX7_takes_69 : decode cX7_takes 69 = .ok (.iload 6, 2) := by decide +kernel
theorem dX7_takes_71 : decode cX7_takes 71 = .ok (.aload 4, 2) := by decide +kernel
theorem dX7_takes_73 : decode cX7_takes 73 = .ok (.iload 6, 2) := by decide +kernel
theorem dX7_takes_75 : decode cX7_takes 75 = .ok (.iconst 1, 1) := by decide +kernel
theorem dX7_takes_76 : decode cX7_takes 76 = .ok (.iadd, 1) := by decide +kernel
theorem dX7_takes_77 : decode cX7_takes 77 = .ok (.iaload, 1) := by decide +kernel
theorem dX7_takes_78 : decode cX7_takes 78 = .ok (.iastore, 1) := by decide +kernel
theorem dX7_takes_79 : decode cX7_takes 79 = .ok (.aload 5, 2) := by decide +kernel
theorem dX7_takes_81 : decode cX7_takes 81 = .ok (.iload 6, 2) := by decide +kernel
theorem dX7_takes_83 : decode cX7_takes 83 = .ok (.aload 5, 2) := by decide +kernel
theorem dX7_takes_85 : decode cX7_takes 85 = .ok (.iload 6, 2) := by decide +kernel
theorem dX7_takes_87 : decode cX7_takes 87 = .ok (.iconst 1, 1) := by decide +kernel
theorem dX7_takes_88 : decode cX7_takes 88 = .ok (.iadd, 1) := by decide +kernel
theorem dX7_takes_89 : decode cX7_takes 89 = .ok (.iaload, 1) := by decide +kernel
theorem dX7_takes_90 : decode cX7_takes 90 = .ok (.iastore, 1) := by decide +kernel
theorem dX7_takes_91 : decode cX7_takes 91 = .ok (.iinc 6 1, 3) := by decide +kernel
theorem dX7_takes_94 : decode cX7_takes 94 = .ok (.goto (-40), 3) := by decide +kernel
theorem dX7_takes_97 : decode cX7_takes 97 = .ok (.aload_n 3, 1) := by decide +kernel
theorem dX7_takes_98 : decode cX7_takes 98 = .ok (.iload_n 1, 1) := by decide +kernel
theorem dX7_takes_99 : decode cX7_takes 99 = .ok (.iaload, 1) := by decide +kernel
theorem dX7_takes_100 : decode cX7_takes 100 = .ok (.ireturn, 1) := by decide +kernel
theorem dX7_enter_0 : decode cX7_enter 0 = .ok (.aload_n 0, 1) := by decide +kernel
theorem dX7_enter_1 : decode cX7_enter 1 = .ok (.iload_n 1, 1) := by decide +kernel
theorem dX7_enter_2 : decode cX7_enter 2 = .ok (.iload_n 2, 1) := by decide +kernel
theorem dX7_enter_3 : decode cX7_enter 3 = .ok (.iload_n 3, 1) := by decide +kernel
theorem dX7_enter_4 : decode cX7_enter 4 = .ok (.aload_n 0, 1) := by decide +kernel
theorem dX7_enter_5 : decode cX7_enter 5 = .ok (.getfield 30, 3) := by decide +kernel
theorem dX7_enter_8 : decode cX7_enter 8 = .ok (.aload_n 0, 1) := by decide +kernel
theorem dX7_enter_9 : decode cX7_enter 9 = .ok (.getfield 33, 3) := by decide +kernel
theorem dX7_enter_12 : decode cX7_enter 12 = .ok (.aload_n 0, 1) := by decide +kernel
theorem dX7_enter_13 : decode cX7_enter 13 = .ok (.getfield 36, 3) := by decide +kernel
theorem dX7_enter_16 : decode cX7_enter 16 = .ok (.invokevirtual 114, 3) := by decide +kernel
theorem dX7_enter_19 : decode cX7_enter 19 = .ok (.ireturn, 1) := by decide +kernel
theorem dX7_removeEntry_0 : decode cX7_removeEntry 0 = .ok (.aload_n 0, 1) := by decide +kernel
theorem dX7_removeEntry_1 : decode cX7_removeEntry 1 = .ok (.iload_n 1, 1) := by decide +kernel
theorem dX7_removeEntry_2 : decode cX7_removeEntry 2 = .ok (.iload_n 2, 1) := by decide +kernel
theorem dX7_removeEntry_3 : decode cX7_removeEntry 3 = .ok (.aload_n 0, 1) := by decide +kernel
theorem dX7_removeEntry_4 : decode cX7_removeEntry 4 = .ok (.getfield 30, 3) := by decide +kernel
theorem dX7_removeEntry_7 : decode cX7_removeEntry 7 = .ok (.aload_n 0, 1) := by decide +kernel
theorem dX7_removeEntry_8 : decode cX7_removeEntry 8 = .ok (.getfield 33, 3) := by decide +kernel
theorem dX7_removeEntry_11 : decode cX7_removeEntry 11 = .ok (.aload_n 0, 1) := by decide +kernel
theorem dX7_removeEntry_12 : decode cX7_removeEntry 12 = .ok (.getfield 36, 3) := by decide +kernel
theorem dX7_removeEntry_15 : decode cX7_removeEntry 15 = .ok (.invokevirtual 118, 3) := by decide +kernel
theorem dX7_removeEntry_18 : decode cX7_removeEntry 18 = .ok (.ireturn, 1) := by decide +kernel
theorem dX7_enterBreak_0 : decode cX7_enterBreak 0 = .ok (.aload_n 0, 1) := by decide +kernel
theorem dX7_enterBreak_1 : decode cX7_enterBreak 1 = .ok (.iload_n 1, 1) := by decide +kernel
theorem dX7_enterBreak_2 : decode cX7_enterBreak 2 = .ok (.iload_n 2, 1) := by decide +kernel
theorem dX7_enterBreak_3 : decode cX7_enterBreak 3 = .ok (.iload_n 3, 1) := by decide +kernel
theorem dX7_enterBreak_4 : decode cX7_enterBreak 4 = .ok (.aload_n 0, 1) := by decide +kernel
theorem dX7_enterBreak_5 : decode cX7_enterBreak 5 = .ok (.getfield 39, 3) := by decide +kernel
theorem dX7_enterBreak_8 : decode cX7_enterBreak 8 = .ok (.aload_n 0, 1) := by decide +kernel
theorem dX7_enterBreak_9 : decode cX7_enterBreak 9 = .ok (.getfield 42, 3) := by decide +kernel
theorem dX7_enterBreak_12 : decode cX7_enterBreak 12 = .ok (.aload_n 0, 1) := by decide +kernel
theorem dX7_enterBreak_13 : decode cX7_enterBreak 13 = .ok (.getfield 45, 3) := by decide +kernel
theorem dX7_enterBreak_16 : decode cX7_enterBreak 16 = .ok (.invokevirtual 114, 3) := by decide +kernel
theorem dX7_enterBreak_19 : decode cX7_enterBreak 19 = .ok (.ireturn, 1) := by decide +kernel
theorem dX7_removeBreak_0 : decode cX7_removeBreak 0 = .ok (.aload_n 0, 1) := by decide +kernel
theorem dX7_removeBreak_1 : decode cX7_removeBreak 1 = .ok (.iload_n 1, 1) := by decide +kernel
theorem dX7_removeBreak_2 : decode cX7_removeBreak 2 = .ok (.iload_n 2, 1) := by decide +kernel
theorem dX7_removeBreak_3 : decode cX7_removeBreak 3 = .ok (.aload_n 0, 1) := by decide +kernel
theorem dX7_removeBreak_4 : decode cX7_removeBreak 4 = .ok (.getfield 39, 3) := by decide +kernel
theorem dX7_removeBreak_7 : decode cX7_removeBreak 7 = .ok (.aload_n 0, 1) := by decide +kernel
theorem dX7_removeBreak_8 : decode cX7_removeBreak 8 = .ok (.getfield 42, 3) := by decide +kernel
theorem dX7_removeBreak_11 : decode cX7_removeBreak 11 = .ok (.aload_n 0, 1) := by decide +kernel
theorem dX7_removeBreak_12 : decode cX7_removeBreak 12 = .ok (.getfield 45, 3) := by decide +kernel
theorem dX7_removeBreak_15 : decode cX7_removeBreak 15 = .ok (.invokevirtual 118, 3) := by decide +kernel
theorem dX7_removeBreak_18 : decode cX7_removeBreak 18 = .ok (.ireturn, 1) := by decide +kernel
theorem dX7_addPremium_0 : decode cX7_addPremium 0 = .ok (.iload_n 1, 1) := by decide +kernel
theorem dX7_addPremium_1 : decode cX7_addPremium 1 = .ok (.iconst 1, 1) := by decide +kernel
theorem dX7_addPremium_2 : decode cX7_addPremium 2 = .ok (.bipush 127, 2) := by decide +kernel
theorem dX7_addPremium_4 : decode cX7_addPremium 4 = .ok (.invokestatic 97, 3) := by decide +kernel
theorem dX7_addPremium_7 : decode cX7_addPremium 7 = .ok (.ifCond .eq 41, 3) := by decide +kernel
theorem dX7_addPremium_10 : decode cX7_addPremium 10 = .ok (.iload_n 2, 1) := by decide +kernel
theorem dX7_addPremium_11 : decode cX7_addPremium 11 = .ok (.iconst 0, 1) := by decide +kernel
theorem dX7_addPremium_12 : decode cX7_addPremium 12 = .ok (.sipush 1439, 3) := by decide +kernel
theorem dX7_addPremium_15 : decode cX7_addPremium 15 = .ok (.invokestatic 97, 3) := by decide +kernel
theorem dX7_addPremium_18 : decode cX7_addPremium 18 = .ok (.ifCond .eq 30, 3) := by decide +kernel
theorem dX7_addPremium_21 : decode cX7_addPremium 21 = .ok (.iload_n 3, 1) := by decide +kernel
theorem dX7_addPremium_22 : decode cX7_addPremium 22 = .ok (.iconst 0, 1) := by decide +kernel
theorem dX7_addPremium_23 : decode cX7_addPremium 23 = .ok (.sipush 1439, 3) := by decide +kernel
theorem dX7_addPremium_26 : decode cX7_addPremium 26 = .ok (.invokestatic 97, 3) := by decide +kernel
theorem dX7_addPremium_29 : decode cX7_addPremium 29 = .ok (.ifCond .eq 19, 3) := by decide +kernel
theorem dX7_addPremium_32 : decode cX7_addPremium 32 = .ok (.iload 4, 2) := by decide +kernel
theorem dX7_addPremium_34 : decode cX7_addPremium 34 = .ok (.iconst 1, 1) := by decide +kernel
theorem dX7_addPremium_35 : decode cX7_addPremium 35 = .ok (.sipush 10000, 3) := by decide +kernel
theorem dX7_addPremium_38 : decode cX7_addPremium 38 = .ok (.invokestatic 97, 3) := by decide +kernel
theorem dX7_addPremium_41 : decode cX7_addPremium 41 = .ok (.ifCond .eq 7, 3) := by decide +kernel
theorem dX7_addPremium_44 : decode cX7_addPremium 44 = .ok (.iconst 1, 1) := by decide +kernel
theorem dX7_addPremium_45 : decode cX7_addPremium 45 = .ok (.goto 4, 3) := by decide +kernel
theorem dX7_addPremium_48 : decode cX7_addPremium 48 = .ok (.iconst 0, 1) := by decide +kernel
theorem dX7_addPremium_49 : decode cX7_addPremium 49 = .ok (.istore 5, 2) := by decide +kernel
theorem dX7_addPremium_51 : decode cX7_addPremium 51 = .ok (.aload_n 0, 1) := by decide +kernel
theorem dX7_addPremium_52 : decode cX7_addPremium 52 = .ok (.iload 5, 2) := by decide +kernel
theorem dX7_addPremium_54 : decode cX7_addPremium 54 = .ok (.ifCond .ne 7, 3) := by decide +kernel
theorem dX7_addPremium_57 : decode cX7_addPremium 57 = .ok (.iconst 1, 1) := by decide +kernel
theorem dX7_addPremium_58 : decode cX7_addPremium 58 = .ok (.goto 17, 3) := by decide +kernel
theorem dX7_addPremium_61 : decode cX7_addPremium 61 = .ok (.aload_n 0, 1) := by decide +kernel
theorem dX7_addPremium_62 : decode cX7_addPremium 62 = .ok (.getfield 122, 3) := by decide +kernel
theorem dX7_addPremium_65 : decode cX7_addPremium 65 = .ok (.bipush 6, 2) := by decide +kernel
theorem dX7_addPremium_67 : decode cX7_addPremium 67 = .ok (.if_icmp .ne 7, 3) := by decide +kernel
theorem dX7_addPremium_70 : decode cX7_addPremium 70 = .ok (.iconst 2, 1) := by decide +kernel
theorem dX7_addPremium_71 : decode cX7_addPremium 71 = .ok (.goto 4, 3) := by decide +kernel
theorem dX7_addPremium_74 : decode cX7_addPremium 74 = .ok (.iconst 0, 1) := by decide +kernel
theorem dX7_addPremium_75 : decode cX7_addPremium 75 = .ok (.putfield 90, 3) := by decide +kernel
theorem dX7_addPremium_78 : decode cX7_addPremium 78 = .ok (.aload_n 0, 1) := by decide +kernel
theorem dX7_addPremium_79 : decode cX7_addPremium 79 = .ok (.getfield 90, 3) := by decide +kernel
theorem dX7_addPremium_82 : decode cX7_addPremium 82 = .ok (.ifCond .le 5, 3) := by decide +kernel
theorem dX7_addPremium_85 : decode cX7_addPremium 85 = .ok (.iconst 0, 1) := by decide +kernel
theorem dX7_addPremium_86 : decode cX7_addPremium 86 = .ok (.ireturn, 1) := by decide +kernel
theorem dX7_addPremium_87 : decode cX7_addPremium 87 = .ok (.aload_n 0, 1) := by decide +kernel
theorem dX7_addPremium_88 : decode cX7_addPremium 88 = .ok (.getfield 48, 3) := by decide +kernel
theorem dX7_addPremium_91 : decode cX7_addPremium 91 = .ok (.aload_n 0, 1) := by decide +kernel
theorem dX7_addPremium_92 : decode cX7_addPremium 92 = .ok (.getfield 122, 3) := by decide +kernel
theorem dX7_addPremium_95 : decode cX7_addPremium 95 = .ok (.iload_n 1, 1) := by decide +kernel
theorem dX7_addPremium_96 : decode cX7_addPremium 96 = .ok (.iastore, 1) := by decide +kernel
theorem dX7_addPremium_97 : decode cX7_addPremium 97 = .ok (.aload_n 0, 1) := by decide +kernel
theorem dX7_addPremium_98 : decode cX7_addPremium 98 = .ok (.getfield 51, 3) := by decide +kernel
theorem dX7_addPremium_101 : decode cX7_addPremium 101 = .ok (.aload_n 0, 1) := by decide +kernel
theorem dX7_addPremium_102 : decode cX7_addPremium 102 = .ok (.getfield 122, 3) := by decide +kernel
theorem dX7_addPremium_105 : decode cX7_addPremium 105 = .ok (.iload_n 2, 1) := by decide +kernel
theorem dX7_addPremium_106 : decode cX7_addPremium 106 = .ok (.iastore, 1) := by decide +kernel
theorem dX7_addPremium_107 : decode cX7_addPremium 107 = .ok (.aload_n 0, 1) := by decide +kernel
theorem dX7_addPremium_108 : decode cX7_addPremium 108 = .ok (.getfield 54, 3) := by decide +kernel
theorem dX7_addPremium_111 : decode cX7_addPremium 111 = .ok (.aload_n 0, 1) := by decide +kernel
theorem dX7_addPremium_112 : decode cX7_addPremium 112 = .ok (.getfield 122, 3) := by decide +kernel
theorem dX7_addPremium_115 : decode cX7_addPremium 115 = .ok (.iload_n 3, 1) := by decide +kernel
theorem dX7_addPremium_116 : decode cX7_addPremium 116 = .ok (.iastore, 1) := by decide +kernel
theorem dX7_addPremium_117 : decode cX7_addPremium 117 = .ok (.aload_n 0, 1) := by decide +kernel
theorem dX7_addPremium_118 : decode cX7_addPremium 118 = .ok (.getfield 57, 3) := by decide +kernel
theorem dX7_addPremium_121 : decode cX7_addPremium 121 = .ok (.aload_n 0, 1) := by decide +kernel
theorem dX7_addPremium_122 : decode cX7_addPremium 122 = .ok (.getfield 122, 3) := by decide +kernel
theorem dX7_addPremium_125 : decode cX7_addPremium 125 = .ok (.iload 4, 2) := by decide +kernel
theorem dX7_addPremium_127 : decode cX7_addPremium 127 = .ok (.iastore, 1) := by decide +kernel
theorem dX7_addPremium_128 : decode cX7_addPremium 128 = .ok (.aload_n 0, 1) := by decide +kernel
theorem dX7_addPremium_129 : decode cX7_addPremium 129 = .ok (.dup, 1) := by decide +kernel
theorem dX7_addPremium_130 : decode cX7_addPremium 130 = .ok (.getfield 122, 3) := by decide +kernel
theorem dX7_addPremium_133 : decode cX7_addPremium 133 = .ok (.iconst 1, 1) := by decide +kernel
theorem dX7_addPremium_134 : decode cX7_addPremium 134 = .ok (.iadd, 1) := by decide +kernel
theorem dX7_addPremium_135 : decode cX7_addPremium 135 = .ok (.putfield 122, 3) := by decide +kernel
theorem dX7_addPremium_138 : decode cX7_addPremium 138 = .ok (.aload_n 0, 1) := by decide +kernel
theorem dX7_addPremium_139 : decode cX7_addPremium 139 = .ok (.getfield 122, 3) := by decide +kernel
theorem dX7_addPremium_142 : decode cX7_addPremium 142 = .ok (.iconst 1, 1) := by decide +kernel
theorem dX7_addPremium_143 : decode cX7_addPremium 143 = .ok (.isub, 1) := by decide +kernel
theorem dX7_addPremium_144 : decode cX7_addPremium 144 = .ok (.ireturn, 1) := by decide +kernel
theorem dX7_removePremium_0 : decode cX7_removePremium 0 = .ok (.aload_n 0, 1) := by decide +kernel
theorem dX7_removePremium_1 : decode cX7_removePremium 1 = .ok (.iload_n 1, 1) := by decide +kernel
theorem dX7_removePremium_2 : decode cX7_removePremium 2 = .ok (.iconst 0, 1) := by decide +kernel
theorem dX7_removePremium_3 : decode cX7_removePremium 3 = .ok (.aload_n 0, 1) := by decide +kernel
theorem dX7_removePremium_4 : decode cX7_removePremium 4 = .ok (.getfield 122, 3) := by decide +kernel
theorem dX7_removePremium_7 : decode cX7_removePremium 7 = .ok (.iconst 1, 1) := by decide +kernel
theorem dX7_removePremium_8 : decode cX7_removePremium 8 = .ok (.isub, 1) := by decide +kernel
theorem dX7_removePremium_9 : decode cX7_removePremium 9 = .ok (.invokestatic 97, 3) := by decide +kernel
theorem dX7_removePremium_12 : decode cX7_removePremium 12 = .ok (.ifCond .eq 7, 3) := by decide +kernel
theorem dX7_removePremium_15 : decode cX7_removePremium 15 = .ok (.iconst 0, 1) := by decide +kernel
theorem dX7_removePremium_16 : decode cX7_removePremium 16 = .ok (.goto 4, 3) := by decide +kernel
theorem dX7_removePremium_19 : decode cX7_removePremium 19 = .ok (.iconst 1, 1) := by decide +kernel
theorem dX7_removePremium_20 : decode cX7_removePremium 20 = .ok (.putfield 90, 3) := by decide +kernel
theorem dX7_removePremium_23 : decode cX7_removePremium 23 = .ok (.aload_n 0, 1) := by decide +kernel
theorem dX7_removePremium_24 : decode cX7_removePremium 24 = .ok (.getfield 90, 3) := by decide +kernel
theorem dX7_removePremium_27 : decode cX7_removePremium 27 = .ok (.ifCond .le 5, 3) := by decide +kernel
theorem dX7_removePremium_30 : decode cX7_removePremium 30 = .ok (.iconst 0, 1) := by decide +kernel
theorem dX7_removePremium_31 : decode cX7_removePremium 31 = .ok (.ireturn, 1) := by decide +kernel
theorem dX7_removePremium_32 : decode cX7_removePremium 32 = .ok (.aload_n 0, 1) := by decide +kernel
theorem dX7_removePremium_33 : decode cX7_removePremium 33 = .ok (.dup, 1) := by decide +kernel
theorem dX7_removePremium_34 : decode cX7_removePremium 34 = .ok (.getfield 122, 3) := by decide +kernel
theorem dX7_removePremium_37 : decode cX7_removePremium 37 = .ok (.iconst 1, 1) := by decide +kernel
theorem dX7_removePremium_38 : decode cX7_removePremium 38 = .ok (.isub, 1) := by decide +kernel
theorem dX7_removePremium_39 : decode cX7_removePremium 39 = .ok (.putfield 122, 3) := by decide +kernel
theorem dX7_removePremium_42 : decode cX7_removePremium 42 = .ok (.iload_n 1, 1) := by decide +kernel
theorem dX7_removePremium_43 : decode cX7_removePremium 43 = .ok (.istore_n 2, 1) := by decide +kernel
theorem dX7_removePremium_44 : decode cX7_removePremium 44 = .ok (.iload_n 2, 1) := by decide +kernel
theorem dX7_removePremium_45 : decode cX7_removePremium 45 = .ok (.aload_n 0, 1) := by decide +kernel
theorem dX7_removePremium_46 : decode cX7_removePremium 46 = .ok (.getfield 122, 3) := by decide +kernel
theorem dX7_removePremium_49 : decode cX7_removePremium 49 = .ok (.if_icmp .ge 65, 3) := by decide +kernel
theorem dX7_removePremium_52 : decode cX7_removePremium 52 = .ok (.aload_n 0, 1) := by decide +kernel
theorem dX7_removePremium_53 : decode cX7_removePremium 53 = .ok (.getfield 48, 3) := by decide +kernel
theorem dX7_removePremium_56 : decode cX7_removePremium 56 = .ok (.iload_n 2, 1) := by decide +kernel
theorem dX7_removePremium_57 : decode cX7_removePremium 57 = .ok (.aload_n 0, 1) := by decide +kernel
theorem dX7_removePremium_58 : decode cX7_removePremium 58 = .ok (.getfield 48, 3) := by decide +kernel
theorem dX7_removePremium_61 : decode cX7_removePremium 61 = .ok (.iload_n 2, 1) := by decide +kernel
theorem dX7_removePremium_62 : decode cX7_removePremium 62 = .ok (.iconst 1, 1) := by decide +kernel
theorem dX7_removePremium_63 : decode cX7_removePremium 63 = .ok (.iadd, 1) := by decide +kernel
theorem dX7_removePremium_64 : decode cX7_removePremium 64 = .ok (.iaload, 1) := by decide +kernel
theorem dX7_removePremium_65 : decode cX7_removePremium 65 = .ok (.iastore, 1) := by decide +kernel
theorem dX7_removePremium_66 : decode cX7_removePremium 66 = .ok (.aload_n 0, 1) := by decide +kernel
theorem dX7_removePremium_67 : decode cX7_removePremium 67 = .ok (.getfield 51, 3) := by decide +kernel
theorem dX7_removePremium_70 : decode cX7_removePremium 70 = .ok (.iload_n 2, 1) := by decide +kernel
theorem dX7_removePremium_71 : decode cX7_removePremium 71 = .ok (.aload_n 0, 1) := by decide +kernel
theorem dX7_removePremium_72 : decode cX7_removePremium 72 = .ok (.getfield 51, 3) := by decide +kernel
theorem dX7_removePremium_75 : decode cX7_removePremium 75 = .ok (.iload_n 2, 1) := by decide +kernel
theorem dX7_removePremium_76 : decode cX7_removePremium 76 = .ok (.iconst 1, 1) := by decide +kernel
theorem dX7_removePremium_77 : decode cX7_removePremium 77 = .ok (.iadd, 1) := by decide +kernel
theorem dX7_removePremium_78 : decode cX7_removePremium 78 = .ok (.iaload, 1) := by decide +kernel
theorem dX7_removePremium_79 : decode cX7_removePremium 79 = .ok (.iastore, 1) := by decide +kernel
theorem dX7_removePremium_80 : decode cX7_removePremium 80 = .ok (.aload_n 0, 1) := by decide +kernel
theorem dX7_removePremium_81 : decode cX7_removePremium 81 = .ok (.getfield 54, 3) := by decide +kernel
theorem dX7_removePremium_84 : decode cX7_removePremium 84 = .ok (.iload_n 2, 1) := by decide +kernel
theorem dX7_removePremium_85 : decode cX7_removePremium 85 = .ok (.aload_n 0, 1) := by decide +kernel
theorem dX7_removePremium_86 : decode cX7_removePremium 86 = .ok (.getfield 54, 3) := by decide +kernel
theorem dX7_removePremium_89 : decode cX7_removePremium 89 = .ok (.iload_n 2, 1) := by decide +kernel
theorem dX7_removePremium_90 : decode cX7_removePremium 90 = .ok (.iconst 1, 1) := by decide +kernel
theorem dX7_removePremium_91 : decode cX7_removePremium 91 = .ok (.iadd, 1) := by decide +kernel
theorem dX7_removePremium_92 : decode cX7_removePremium 92 = .ok (.iaload, 1) := by decide +kernel
theorem dX7_removePremium_93 : decode cX7_removePremium 93 = .ok (.iastore, 1) := by decide +kernel
theorem dX7_removePremium_94 : decode cX7_removePremium 94 = .ok (.aload_n 0, 1) := by decide +kernel
theorem dX7_removePremium_95 : decode cX7_removePremium 95 = .ok (.getfield 57, 3) := by decide +kernel
theorem dX7_removePremium_98 : decode cX7_removePremium 98 = .ok (.iload_n 2, 1) := by decide +kernel
theorem dX7_removePremium_99 : decode cX7_removePremium 99 = .ok (.aload_n 0, 1) := by decide +kernel
theorem dX7_removePremium_100 : decode cX7_removePremium 100 = .ok (.getfield 57, 3) := by decide +kernel
theorem dX7_removePremium_103 : decode cX7_removePremium 103 = .ok (.iload_n 2, 1) := by decide +kernel
theorem dX7_removePremium_104 : decode cX7_removePremium 104 = .ok (.iconst 1, 1) := by decide +kernel
theorem dX7_removePremium_105 : decode cX7_removePremium 105 = .ok (.iadd, 1) := by decide +kernel
theorem dX7_removePremium_106 : decode cX7_removePremium 106 = .ok (.iaload, 1) := by decide +kernel
theorem dX7_removePremium_107 : decode cX7_removePremium 107 = .ok (.iastore, 1) := by decide +kernel
theorem dX7_removePremium_108 : decode cX7_removePremium 108 = .ok (.iinc 2 1, 3) := by decide +kernel
theorem dX7_removePremium_111 : decode cX7_removePremium 111 = .ok (.goto (-67), 3) := by decide +kernel
theorem dX7_removePremium_114 : decode cX7_removePremium 114 = .ok (.aload_n 0, 1) := by decide +kernel
theorem dX7_removePremium_115 : decode cX7_removePremium 115 = .ok (.getfield 122, 3) := by decide +kernel
theorem dX7_removePremium_118 : decode cX7_removePremium 118 = .ok (.ireturn, 1) := by decide +kernel
theorem dX7_makes_0 : decode cX7_makes 0 = .ok (.aload_n 0, 1) := by decide +kernel
theorem dX7_makes_1 : decode cX7_makes 1 = .ok (.getfield 60, 3) := by decide +kernel
theorem dX7_makes_4 : decode cX7_makes 4 = .ok (.aload_n 0, 1) := by decide +kernel
theorem dX7_makes_5 : decode cX7_makes 5 = .ok (.getfield 125, 3) := by decide +kernel
theorem dX7_makes_8 : decode cX7_makes 8 = .ok (.iload_n 1, 1) := by decide +kernel
theorem dX7_makes_9 : decode cX7_makes 9 = .ok (.iastore, 1) := by decide +kernel
theorem dX7_makes_10 : decode cX7_makes 10 = .ok (.aload_n 0, 1) := by decide +kernel
theorem dX7_makes_11 : decode cX7_makes 11 = .ok (.getfield 63, 3) := by decide +kernel
theorem dX7_makes_14 : decode cX7_makes 14 = .ok (.aload_n 0, 1) := by decide +kernel
theorem dX7_makes_15 : decode cX7_makes 15 = .ok (.getfield 125, 3) := by decide +kernel
theorem dX7_makes_18 : decode cX7_makes 18 = .ok (.iload_n 2, 1) := by decide +kernel
theorem dX7_makes_19 : decode cX7_makes 19 = .ok (.iastore, 1) := by decide +kernel
theorem dX7_makes_20 : decode cX7_makes 20 = .ok (.aload_n 0, 1) := by decide +kernel
theorem dX7_makes_21 : decode cX7_makes 21 = .ok (.dup, 1) := by decide +kernel
theorem dX7_makes_22 : decode cX7_makes 22 = .ok (.getfield 128, 3) := by decide +kernel
theorem dX7_makes_25 : decode cX7_makes 25 = .ok (.iload_n 3, 1) := by decide +kernel
theorem dX7_makes_26 : decode cX7_makes 26 = .ok (.ifCond .eq 7, 3) := by decide +kernel
theorem dX7_makes_29 : decode cX7_makes 29 = .ok (.iconst 1, 1) := by decide +kernel
theorem dX7_makes_30 : decode cX7_makes 30 = .ok (.goto 4, 3) := by decide +kernel
theorem dX7_makes_33 : decode cX7_makes 33 = .ok (.iconst 0, 1) := by decide +kernel
theorem dX7_makes_34 : decode cX7_makes 34 = .ok (.iadd, 1) := by decide +kernel
theorem dX7_makes_35 : decode cX7_makes 35 = .ok (.putfield 128, 3) := by decide +kernel
theorem dX7_makes_38 : decode cX7_makes 38 = .ok (.aload_n 0, 1) := by decide +kernel
theorem dX7_makes_39 : decode cX7_makes 39 = .ok (.dup, 1) := by decide +kernel
theorem dX7_makes_40 : decode cX7_makes 40 = .ok (.getfield 125, 3) := by decide +kernel
theorem dX7_makes_43 : decode cX7_makes 43 = .ok (.iconst 1, 1) := by decide +kernel
theorem dX7_makes_44 : decode cX7_makes 44 = .ok (.iadd, 1) := by decide +kernel
theorem dX7_makes_45 : decode cX7_makes 45 = .ok (.putfield 125, 3) := by decide +kernel
theorem dX7_makes_48 : decode cX7_makes 48 = .ok (.return_, 1) := by decide +kernel
theorem dX7_findsShifts_0 : decode cX7_findsShifts 0 = .ok (.aload_n 0, 1) := by decide +kernel
theorem dX7_findsShifts_1 : decode cX7_findsShifts 1 = .ok (.iconst 0, 1) := by decide +kernel
theorem dX7_findsShifts_2 : decode cX7_findsShifts 2 = .ok (.putfield 125, 3) := by decide +kernel
theorem dX7_findsShifts_5 : decode cX7_findsShifts 5 = .ok (.aload_n 0, 1) := by decide +kernel
theorem dX7_findsShifts_6 : decode cX7_findsShifts 6 = .ok (.iconst 0, 1) := by decide +kernel
theorem dX7_findsShifts_7 : decode cX7_findsShifts 7 = .ok (.putfield 128, 3) := by decide +kernel
theorem dX7_findsShifts_10 : decode cX7_findsShifts 10 = .ok (.iconst 0, 1) := by decide +kernel
theorem dX7_findsShifts_11 : decode cX7_findsShifts 11 = .ok (.istore_n 2, 1) := by decide +kernel
theorem dX7_findsShifts_12 : decode cX7_findsShifts 12 = .ok (.iload_n 2, 1) := by decide +kernel
theorem dX7_findsShifts_13 : decode cX7_findsShifts 13 = .ok (.aload_n 0, 1) := by decide +kernel
theorem dX7_findsShifts_14 : decode cX7_findsShifts 14 = .ok (.getfield 20, 3) := by decide +kernel
theorem dX7_findsShifts_17 : decode cX7_findsShifts 17 = .ok (.iload_n 1, 1) := by decide +kernel
theorem dX7_findsShifts_18 : decode cX7_findsShifts 18 = .ok (.iaload, 1) := by decide +kernel
theorem dX7_findsShifts_19 : decode cX7_findsShifts 19 = .ok (.if_icmp .ge 233, 3) := by decide +kernel
theorem dX7_findsShifts_22 : decode cX7_findsShifts 22 = .ok (.aload_n 0, 1) := by decide +kernel
theorem dX7_findsShifts_23 : decode cX7_findsShifts 23 = .ok (.getfield 23, 3) := by decide +kernel
theorem dX7_findsShifts_26 : decode cX7_findsShifts 26 = .ok (.bipush 41, 2) := by decide +kernel
theorem dX7_findsShifts_28 : decode cX7_findsShifts 28 = .ok (.iload_n 1, 1) := by decide +kernel
theorem dX7_findsShifts_29 : decode cX7_findsShifts 29 = .ok (.imul, 1) := by decide +kernel
theorem dX7_findsShifts_30 : decode cX7_findsShifts 30 = .ok (.iload_n 2, 1) := by decide +kernel
theorem dX7_findsShifts_31 : decode cX7_findsShifts 31 = .ok (.iadd, 1) := by decide +kernel
theorem dX7_findsShifts_32 : decode cX7_findsShifts 32 = .ok (.iaload, 1) := by decide +kernel
theorem dX7_findsShifts_33 : decode cX7_findsShifts 33 = .ok (.istore_n 3, 1) := by decide +kernel
theorem dX7_findsShifts_34 : decode cX7_findsShifts 34 = .ok (.iload_n 2, 1) := by decide +kernel
theorem dX7_findsShifts_35 : decode cX7_findsShifts 35 = .ok (.iconst 1, 1) := by decide +kernel
theorem dX7_findsShifts_36 : decode cX7_findsShifts 36 = .ok (.iadd, 1) := by decide +kernel
theorem dX7_findsShifts_37 : decode cX7_findsShifts 37 = .ok (.aload_n 0, 1) := by decide +kernel
theorem dX7_findsShifts_38 : decode cX7_findsShifts 38 = .ok (.getfield 20, 3) := by decide +kernel
theorem dX7_findsShifts_41 : decode cX7_findsShifts 41 = .ok (.iload_n 1, 1) := by decide +kernel
theorem dX7_findsShifts_42 : decode cX7_findsShifts 42 = .ok (.iaload, 1) := by decide +kernel
theorem dX7_findsShifts_43 : decode cX7_findsShifts 43 = .ok (.if_icmp .ne 7, 3) := by decide +kernel
theorem dX7_findsShifts_46 : decode cX7_findsShifts 46 = .ok (.iconst 1, 1) := by decide +kernel
theorem dX7_findsShifts_47 : decode cX7_findsShifts 47 = .ok (.goto 4, 3) := by decide +kernel
theorem dX7_findsShifts_50 : decode cX7_findsShifts 50 = .ok (.iconst 0, 1) := by decide +kernel
theorem dX7_findsShifts_51 : decode cX7_findsShifts 51 = .ok (.istore 4, 2) := by decide +kernel
theorem dX7_findsShifts_53 : decode cX7_findsShifts 53 = .ok (.iload 4, 2) := by decide +kernel
theorem dX7_findsShifts_55 : decode cX7_findsShifts 55 = .ok (.ifCond .eq 9, 3) := by decide +kernel
theorem dX7_findsShifts_58 : decode cX7_findsShifts 58 = .ok (.sipush 10080, 3) := by decide +kernel
theorem dX7_findsShifts_61 : decode cX7_findsShifts 61 = .ok (.goto 16, 3) := by decide +kernel
theorem dX7_findsShifts_64 : decode cX7_findsShifts 64 = .ok (.aload_n 0, 1) := by decide +kernel
theorem dX7_findsShifts_65 : decode cX7_findsShifts 65 = .ok (.getfield 23, 3) := by decide +kernel
theorem dX7_findsShifts_68 : decode cX7_findsShifts 68 = .ok (.bipush 41, 2) := by decide +kernel
theorem dX7_findsShifts_70 : decode cX7_findsShifts 70 = .ok (.iload_n 1, 1) := by decide +kernel
theorem dX7_findsShifts_71 : decode cX7_findsShifts 71 = .ok (.imul, 1) := by decide +kernel
theorem dX7_findsShifts_72 : decode cX7_findsShifts 72 = .ok (.iload_n 2, 1) := by decide +kernel
theorem dX7_findsShifts_73 : decode cX7_findsShifts 73 = .ok (.iadd, 1) := by decide +kernel
theorem dX7_findsShifts_74 : decode cX7_findsShifts 74 = .ok (.iconst 1, 1) := by decide +kernel
theorem dX7_findsShifts_75 : decode cX7_findsShifts 75 = .ok (.iadd, 1) := by decide +kernel
theorem dX7_findsShifts_76 : decode cX7_findsShifts 76 = .ok (.iaload, 1) := by decide +kernel
theorem dX7_findsShifts_77 : decode cX7_findsShifts 77 = .ok (.istore 5, 2) := by decide +kernel
theorem dX7_findsShifts_79 : decode cX7_findsShifts 79 = .ok (.iload_n 2, 1) := by decide +kernel
theorem dX7_findsShifts_80 : decode cX7_findsShifts 80 = .ok (.ifCond .ne 7, 3) := by decide +kernel
theorem dX7_findsShifts_83 : decode cX7_findsShifts 83 = .ok (.iconst 1, 1) := by decide +kernel
theorem dX7_findsShifts_84 : decode cX7_findsShifts 84 = .ok (.goto 4, 3) := by decide +kernel
theorem dX7_findsShifts_87 : decode cX7_findsShifts 87 = .ok (.iconst 0, 1) := by decide +kernel
theorem dX7_findsShifts_88 : decode cX7_findsShifts 88 = .ok (.istore 6, 2) := by decide +kernel
theorem dX7_findsShifts_90 : decode cX7_findsShifts 90 = .ok (.iload 6, 2) := by decide +kernel
theorem dX7_findsShifts_92 : decode cX7_findsShifts 92 = .ok (.ifCond .eq 7, 3) := by decide +kernel
theorem dX7_findsShifts_95 : decode cX7_findsShifts 95 = .ok (.iconst 0, 1) := by decide +kernel
theorem dX7_findsShifts_96 : decode cX7_findsShifts 96 = .ok (.goto 16, 3) := by decide +kernel
theorem dX7_findsShifts_99 : decode cX7_findsShifts 99 = .ok (.aload_n 0, 1) := by decide +kernel
theorem dX7_findsShifts_100 : decode cX7_findsShifts 100 = .ok (.getfield 23, 3) := by decide +kernel
theorem dX7_findsShifts_103 : decode cX7_findsShifts 103 = .ok (.bipush 41, 2) := by decide +kernel
theorem dX7_findsShifts_105 : decode cX7_findsShifts 105 = .ok (.iload_n 1, 1) := by decide +kernel
theorem dX7_findsShifts_106 : decode cX7_findsShifts 106 = .ok (.imul, 1) := by decide +kernel
theorem dX7_findsShifts_107 : decode cX7_findsShifts 107 = .ok (.iload_n 2, 1) := by decide +kernel
theorem dX7_findsShifts_108 : decode cX7_findsShifts 108 = .ok (.iadd, 1) := by decide +kernel
theorem dX7_findsShifts_109 : decode cX7_findsShifts 109 = .ok (.iconst 1, 1) := by decide +kernel
theorem dX7_findsShifts_110 : decode cX7_findsShifts 110 = .ok (.isub, 1) := by decide +kernel
theorem dX7_findsShifts_111 : decode cX7_findsShifts 111 = .ok (.iaload, 1) := by decide +kernel
theorem dX7_findsShifts_112 : decode cX7_findsShifts 112 = .ok (.istore 7, 2) := by decide +kernel
theorem dX7_findsShifts_114 : decode cX7_findsShifts 114 = .ok (.aload_n 0, 1) := by decide +kernel
theorem dX7_findsShifts_115 : decode cX7_findsShifts 115 = .ok (.getfield 26, 3) := by decide +kernel
theorem dX7_findsShifts_118 : decode cX7_findsShifts 118 = .ok (.bipush 41, 2) := by decide +kernel
theorem dX7_findsShifts_120 : decode cX7_findsShifts 120 = .ok (.iload_n 1, 1) := by decide +kernel
theorem dX7_findsShifts_121 : decode cX7_findsShifts 121 = .ok (.imul, 1) := by decide +kernel
theorem dX7_findsShifts_122 : decode cX7_findsShifts 122 = .ok (.iload_n 2, 1) := by decide +kernel
theorem dX7_findsShifts_123 : decode cX7_findsShifts 123 = .ok (.iadd, 1) := by decide +kernel
theorem dX7_findsShifts_124 : decode cX7_findsShifts 124 = .ok (.baload, 1) := by decide +kernel
theorem dX7_findsShifts_125 : decode cX7_findsShifts 125 = .ok (.ifCond .eq 74, 3) := by decide +kernel
theorem dX7_findsShifts_128 : decode cX7_findsShifts 128 = .ok (.iload 4, 2) := by decide +kernel
theorem dX7_findsShifts_130 : decode cX7_findsShifts 130 = .ok (.ifCond .ne 23, 3) := by decide +kernel
theorem dX7_findsShifts_133 : decode cX7_findsShifts 133 = .ok (.aload_n 0, 1) := by decide +kernel
theorem dX7_findsShifts_134 : decode cX7_findsShifts 134 = .ok (.getfield 26, 3) := by decide +kernel
theorem dX7_findsShifts_137 : decode cX7_findsShifts 137 = .ok (.bipush 41, 2) := by decide +kernel
theorem dX7_findsShifts_139 : decode cX7_findsShifts 139 = .ok (.iload_n 1, 1) := by decide +kernel
theorem dX7_findsShifts_140 : decode cX7_findsShifts 140 = .ok (.imul, 1) := by decide +kernel
theorem dX7_findsShifts_141 : decode cX7_findsShifts 141 = .ok (.iload_n 2, 1) := by decide +kernel
theorem dX7_findsShifts_142 : decode cX7_findsShifts 142 = .ok (.iadd, 1) := by decide +kernel
theorem dX7_findsShifts_143 : decode cX7_findsShifts 143 = .ok (.iconst 1, 1) := by decide +kernel
theorem dX7_findsShifts_144 : decode cX7_findsShifts 144 = .ok (.iadd, 1) := by decide +kernel
theorem dX7_findsShifts_145 : decode cX7_findsShifts 145 = .ok (.baload, 1) := by decide +kernel
theorem dX7_findsShifts_146 : decode cX7_findsShifts 146 = .ok (.ifCond .ne 7, 3) := by decide +kernel
theorem dX7_findsShifts_149 : decode cX7_findsShifts 149 = .ok (.iconst 1, 1) := by decide +kernel
theorem dX7_findsShifts_150 : decode cX7_findsShifts 150 = .ok (.goto 4, 3) := by decide +kernel
theorem dX7_findsShifts_153 : decode cX7_findsShifts 153 = .ok (.iconst 0, 1) := by decide +kernel
theorem dX7_findsShifts_154 : decode cX7_findsShifts 154 = .ok (.istore 8, 2) := by decide +kernel
theorem dX7_findsShifts_156 : decode cX7_findsShifts 156 = .ok (.aload_n 0, 1) := by decide +kernel
theorem dX7_findsShifts_157 : decode cX7_findsShifts 157 = .ok (.iload_n 3, 1) := by decide +kernel
theorem dX7_findsShifts_158 : decode cX7_findsShifts 158 = .ok (.iload 8, 2) := by decide +kernel
theorem dX7_findsShifts_160 : decode cX7_findsShifts 160 = .ok (.ifCond .ne 13, 3) := by decide +kernel
theorem dX7_findsShifts_163 : decode cX7_findsShifts 163 = .ok (.iload 5, 2) := by decide +kernel
theorem dX7_findsShifts_165 : decode cX7_findsShifts 165 = .ok (.iload_n 3, 1) := by decide +kernel
theorem dX7_findsShifts_166 : decode cX7_findsShifts 166 = .ok (.isub, 1) := by decide +kernel
theorem dX7_findsShifts_167 : decode cX7_findsShifts 167 = .ok (.sipush 480, 3) := by decide +kernel
theorem dX7_findsShifts_170 : decode cX7_findsShifts 170 = .ok (.if_icmp .ge 8, 3) := by decide +kernel
theorem dX7_findsShifts_173 : decode cX7_findsShifts 173 = .ok (.iload 5, 2) := by decide +kernel
theorem dX7_findsShifts_175 : decode cX7_findsShifts 175 = .ok (.goto 8, 3) := by decide +kernel
theorem dX7_findsShifts_178 : decode cX7_findsShifts 178 = .ok (.iload_n 3, 1) := by decide +kernel
theorem dX7_findsShifts_179 : decode cX7_findsShifts 179 = .ok (.sipush 480, 3) := by decide +kernel
theorem dX7_findsShifts_182 : decode cX7_findsShifts 182 = .ok (.iadd, 1) := by decide +kernel
theorem dX7_findsShifts_183 : decode cX7_findsShifts 183 = .ok (.iload 8, 2) := by decide +kernel
theorem dX7_findsShifts_185 : decode cX7_findsShifts 185 = .ok (.ifCond .ne 7, 3) := by decide +kernel
theorem dX7_findsShifts_188 : decode cX7_findsShifts 188 = .ok (.iconst 1, 1) := by decide +kernel
theorem dX7_findsShifts_189 : decode cX7_findsShifts 189 = .ok (.goto 4, 3) := by decide +kernel
theorem dX7_findsShifts_192 : decode cX7_findsShifts 192 = .ok (.iconst 0, 1) := by decide +kernel
theorem dX7_findsShifts_193 : decode cX7_findsShifts 193 = .ok (.invokevirtual 131, 3) := by decide +kernel
theorem dX7_findsShifts_196 : decode cX7_findsShifts 196 = .ok (.goto 50, 3) := by decide +kernel
theorem dX7_findsShifts_199 : decode cX7_findsShifts 199 = .ok (.iload 6, 2) := by decide +kernel
theorem dX7_findsShifts_201 : decode cX7_findsShifts 201 = .ok (.ifCond .ne 19, 3) := by decide +kernel
theorem dX7_findsShifts_204 : decode cX7_findsShifts 204 = .ok (.aload_n 0, 1) := by decide +kernel
theorem dX7_findsShifts_205 : decode cX7_findsShifts 205 = .ok (.getfield 26, 3) := by decide +kernel
theorem dX7_findsShifts_208 : decode cX7_findsShifts 208 = .ok (.bipush 41, 2) := by decide +kernel
theorem dX7_findsShifts_210 : decode cX7_findsShifts 210 = .ok (.iload_n 1, 1) := by decide +kernel
theorem dX7_findsShifts_211 : decode cX7_findsShifts 211 = .ok (.imul, 1) := by decide +kernel
theorem dX7_findsShifts_212 : decode cX7_findsShifts 212 = .ok (.iload_n 2, 1) := by decide +kernel
theorem dX7_findsShifts_213 : decode cX7_findsShifts 213 = .ok (.iadd, 1) := by decide +kernel
theorem dX7_findsShifts_214 : decode cX7_findsShifts 214 = .ok (.iconst 1, 1) := by decide +kernel
theorem dX7_findsShifts_215 : decode cX7_findsShifts 215 = .ok (.isub, 1) := by decide +kernel
theorem dX7_findsShifts_216 : decode cX7_findsShifts 216 = .ok (.baload, 1) := by decide +kernel
theorem dX7_findsShifts_217 : decode cX7_findsShifts 217 = .ok (.ifCond .ne 29, 3) := by decide +kernel
theorem dX7_findsShifts_220 : decode cX7_findsShifts 220 = .ok (.aload_n 0, 1) := by decide +kernel
theorem dX7_findsShifts_221 : decode cX7_findsShifts 221 = .ok (.iload_n 3, 1) := by decide +kernel
theorem dX7_findsShifts_222 : decode cX7_findsShifts 222 = .ok (.iload 7, 2) := by decide +kernel
theorem dX7_findsShifts_224 : decode cX7_findsShifts 224 = .ok (.isub, 1) := by decide +kernel
theorem dX7_findsShifts_225 : decode cX7_findsShifts 225 = .ok (.sipush 480, 3) := by decide +kernel
theorem dX7_findsShifts_228 : decode cX7_findsShifts 228 = .ok (.if_icmp .ge 8, 3) := by decide +kernel
theorem dX7_findsShifts_231 : decode cX7_findsShifts 231 = .ok (.iload 7, 2) := by decide +kernel
theorem dX7_findsShifts_233 : decode cX7_findsShifts 233 = .ok (.goto 8, 3) := by decide +kernel
theorem dX7_findsShifts_236 : decode cX7_findsShifts 236 = .ok (.iload_n 3, 1) := by decide +kernel
theorem dX7_findsShifts_237 : decode cX7_findsShifts 237 = .ok (.sipush 480, 3) := by decide +kernel
theorem dX7_findsShifts_240 : decode cX7_findsShifts 240 = .ok (.isub, 1) := by decide +kernel
theorem dX7_findsShifts_241 : decode cX7_findsShifts 241 = .ok (.iload_n 3, 1) := by decide +kernel
theorem dX7_findsShifts_242 : decode cX7_findsShifts 242 = .ok (.iconst 1, 1) := by decide +kernel
theorem dX7_findsShifts_243 : decode cX7_findsShifts 243 = .ok (.invokevirtual 131, 3) := by decide +kernel
theorem dX7_findsShifts_246 : decode cX7_findsShifts 246 = .ok (.iinc 2 1, 3) := by decide +kernel
theorem dX7_findsShifts_249 : decode cX7_findsShifts 249 = .ok (.goto (-237), 3) := by decide +kernel
theorem dX7_findsShifts_252 : decode cX7_findsShifts 252 = .ok (.return_, 1) := by decide +kernel
theorem dX7_marks_0 : decode cX7_marks 0 = .ok (.aload_n 1, 1) := by decide +kernel
theorem dX7_marks_1 : decode cX7_marks 1 = .ok (.iload_n 2, 1) := by decide +kernel
theorem dX7_marks_2 : decode cX7_marks 2 = .ok (.dup2, 1) := by decide +kernel
theorem dX7_marks_3 : decode cX7_marks 3 = .ok (.iaload, 1) := by decide +kernel
theorem dX7_marks_4 : decode cX7_marks 4 = .ok (.iconst 1, 1) := by decide +kernel
theorem dX7_marks_5 : decode cX7_marks 5 = .ok (.iadd, 1) := by decide +kernel
theorem dX7_marks_6 : decode cX7_marks 6 = .ok (.iastore, 1) := by decide +kernel
theorem dX7_marks_7 : decode cX7_marks 7 = .ok (.aload_n 1, 1) := by decide +kernel
theorem dX7_marks_8 : decode cX7_marks 8 = .ok (.iload_n 3, 1) := by decide +kernel
theorem dX7_marks_9 : decode cX7_marks 9 = .ok (.dup2, 1) := by decide +kernel
theorem dX7_marks_10 : decode cX7_marks 10 = .ok (.iaload, 1) := by decide +kernel
theorem dX7_marks_11 : decode cX7_marks 11 = .ok (.iconst 1, 1) := by decide +kernel
theorem dX7_marks_12 : decode cX7_marks 12 = .ok (.isub, 1) := by decide +kernel
theorem dX7_marks_13 : decode cX7_marks 13 = .ok (.iastore, 1) := by decide +kernel
theorem dX7_marks_14 : decode cX7_marks 14 = .ok (.return_, 1) := by decide +kernel
theorem dX7_lays_0 : decode cX7_lays 0 = .ok (.aload_n 0, 1) := by decide +kernel
theorem dX7_lays_1 : decode cX7_lays 1 = .ok (.iload_n 1, 1) := by decide +kernel
theorem dX7_lays_2 : decode cX7_lays 2 = .ok (.invokevirtual 135, 3) := by decide +kernel
theorem dX7_lays_5 : decode cX7_lays 5 = .ok (.iconst 0, 1) := by decide +kernel
theorem dX7_lays_6 : decode cX7_lays 6 = .ok (.istore_n 2, 1) := by decide +kernel
theorem dX7_lays_7 : decode cX7_lays 7 = .ok (.iload_n 2, 1) := by decide +kernel
theorem dX7_lays_8 : decode cX7_lays 8 = .ok (.sipush 10080, 3) := by decide +kernel
theorem dX7_lays_11 : decode cX7_lays 11 = .ok (.if_icmp .gt 23, 3) := by decide +kernel
theorem dX7_lays_14 : decode cX7_lays 14 = .ok (.aload_n 0, 1) := by decide +kernel
theorem dX7_lays_15 : decode cX7_lays 15 = .ok (.getfield 66, 3) := by decide +kernel
theorem dX7_lays_18 : decode cX7_lays 18 = .ok (.iload_n 2, 1) := by decide +kernel
theorem dX7_lays_19 : decode cX7_lays 19 = .ok (.iconst 0, 1) := by decide +kernel
theorem dX7_lays_20 : decode cX7_lays 20 = .ok (.iastore, 1) := by decide +kernel
theorem dX7_lays_21 : decode cX7_lays 21 = .ok (.aload_n 0, 1) := by decide +kernel
theorem dX7_lays_22 : decode cX7_lays 22 = .ok (.getfield 69, 3) := by decide +kernel
theorem dX7_lays_25 : decode cX7_lays 25 = .ok (.iload_n 2, 1) := by decide +kernel
theorem dX7_lays_26 : decode cX7_lays 26 = .ok (.iconst 0, 1) := by decide +kernel
theorem dX7_lays_27 : decode cX7_lays 27 = .ok (.iastore, 1) := by decide +kernel
theorem dX7_lays_28 : decode cX7_lays 28 = .ok (.iinc 2 1, 3) := by decide +kernel
theorem dX7_lays_31 : decode cX7_lays 31 = .ok (.goto (-24), 3) := by decide +kernel
theorem dX7_lays_34 : decode cX7_lays 34 = .ok (.iconst 0, 1) := by decide +kernel
theorem dX7_lays_35 : decode cX7_lays 35 = .ok (.istore_n 2, 1) := by decide +kernel
theorem dX7_lays_36 : decode cX7_lays 36 = .ok (.iload_n 2, 1) := by decide +kernel
theorem dX7_lays_37 : decode cX7_lays 37 = .ok (.aload_n 0, 1) := by decide +kernel
theorem dX7_lays_38 : decode cX7_lays 38 = .ok (.getfield 125, 3) := by decide +kernel
theorem dX7_lays_41 : decode cX7_lays 41 = .ok (.if_icmp .ge 29, 3) := by decide +kernel
theorem dX7_lays_44 : decode cX7_lays 44 = .ok (.aload_n 0, 1) := by decide +kernel
theorem dX7_lays_45 : decode cX7_lays 45 = .ok (.aload_n 0, 1) := by decide +kernel
theorem dX7_lays_46 : decode cX7_lays 46 = .ok (.getfield 66, 3) := by decide +kernel
theorem dX7_lays_49 : decode cX7_lays 49 = .ok (.aload_n 0, 1) := by decide +kernel
theorem dX7_lays_50 : decode cX7_lays 50 = .ok (.getfield 60, 3) := by decide +kernel
theorem dX7_lays_53 : decode cX7_lays 53 = .ok (.iload_n 2, 1) := by decide +kernel
theorem dX7_lays_54 : decode cX7_lays 54 = .ok (.iaload, 1) := by decide +kernel
theorem dX7_lays_55 : decode cX7_lays 55 = .ok (.aload_n 0, 1) := by decide +kernel
theorem dX7_lays_56 : decode cX7_lays 56 = .ok (.getfield 63, 3) := by decide +kernel
theorem dX7_lays_59 : decode cX7_lays 59 = .ok (.iload_n 2, 1) := by decide +kernel
theorem dX7_lays_60 : decode cX7_lays 60 = .ok (.iaload, 1) := by decide +kernel
theorem dX7_lays_61 : decode cX7_lays 61 = .ok (.invokevirtual 139, 3) := by decide +kernel
theorem dX7_lays_64 : decode cX7_lays 64 = .ok (.iinc 2 1, 3) := by decide +kernel
theorem dX7_lays_67 : decode cX7_lays 67 = .ok (.goto (-31), 3) := by decide +kernel
theorem dX7_lays_70 : decode cX7_lays 70 = .ok (.bipush 20, 2) := by decide +kernel
theorem dX7_lays_72 : decode cX7_lays 72 = .ok (.iload_n 1, 1) := by decide +kernel
theorem dX7_lays_73 : decode cX7_lays 73 = .ok (.imul, 1) := by decide +kernel
theorem dX7_lays_74 : decode cX7_lays 74 = .ok (.istore_n 2, 1) := by decide +kernel
theorem dX7_lays_75 : decode cX7_lays 75 = .ok (.iload_n 2, 1) := by decide +kernel
theorem dX7_lays_76 : decode cX7_lays 76 = .ok (.bipush 20, 2) := by decide +kernel
theorem dX7_lays_78 : decode cX7_lays 78 = .ok (.iload_n 1, 1) := by decide +kernel
theorem dX7_lays_79 : decode cX7_lays 79 = .ok (.imul, 1) := by decide +kernel
theorem dX7_lays_80 : decode cX7_lays 80 = .ok (.aload_n 0, 1) := by decide +kernel
theorem dX7_lays_81 : decode cX7_lays 81 = .ok (.getfield 30, 3) := by decide +kernel
theorem dX7_lays_84 : decode cX7_lays 84 = .ok (.iload_n 1, 1) := by decide +kernel
theorem dX7_lays_85 : decode cX7_lays 85 = .ok (.iaload, 1) := by decide +kernel
theorem dX7_lays_86 : decode cX7_lays 86 = .ok (.iadd, 1) := by decide +kernel
theorem dX7_lays_87 : decode cX7_lays 87 = .ok (.if_icmp .ge 29, 3) := by decide +kernel
theorem dX7_lays_90 : decode cX7_lays 90 = .ok (.aload_n 0, 1) := by decide +kernel
theorem dX7_lays_91 : decode cX7_lays 91 = .ok (.aload_n 0, 1) := by decide +kernel
theorem dX7_lays_92 : decode cX7_lays 92 = .ok (.getfield 66, 3) := by decide +kernel
theorem dX7_lays_95 : decode cX7_lays 95 = .ok (.aload_n 0, 1) := by decide +kernel
theorem dX7_lays_96 : decode cX7_lays 96 = .ok (.getfield 33, 3) := by decide +kernel
theorem dX7_lays_99 : decode cX7_lays 99 = .ok (.iload_n 2, 1) := by decide +kernel
theorem dX7_lays_100 : decode cX7_lays 100 = .ok (.iaload, 1) := by decide +kernel
theorem dX7_lays_101 : decode cX7_lays 101 = .ok (.aload_n 0, 1) := by decide +kernel
theorem dX7_lays_102 : decode cX7_lays 102 = .ok (.getfield 36, 3) := by decide +kernel
theorem dX7_lays_105 : decode cX7_lays 105 = .ok (.iload_n 2, 1) := by decide +kernel
theorem dX7_lays_106 : decode cX7_lays 106 = .ok (.iaload, 1) := by decide +kernel
theorem dX7_lays_107 : decode cX7_lays 107 = .ok (.invokevirtual 139, 3) := by decide +kernel
theorem dX7_lays_110 : decode cX7_lays 110 = .ok (.iinc 2 1, 3) := by decide +kernel
theorem dX7_lays_113 : decode cX7_lays 113 = .ok (.goto (-38), 3) := by decide +kernel
theorem dX7_lays_116 : decode cX7_lays 116 = .ok (.bipush 20, 2) := by decide +kernel
theorem dX7_lays_118 : decode cX7_lays 118 = .ok (.iload_n 1, 1) := by decide +kernel
theorem dX7_lays_119 : decode cX7_lays 119 = .ok (.imul, 1) := by decide +kernel
theorem dX7_lays_120 : decode cX7_lays 120 = .ok (.istore_n 2, 1) := by decide +kernel
theorem dX7_lays_121 : decode cX7_lays 121 = .ok (.iload_n 2, 1) := by decide +kernel
theorem dX7_lays_122 : decode cX7_lays 122 = .ok (.bipush 20, 2) := by decide +kernel
theorem dX7_lays_124 : decode cX7_lays 124 = .ok (.iload_n 1, 1) := by decide +kernel
theorem dX7_lays_125 : decode cX7_lays 125 = .ok (.imul, 1) := by decide +kernel
theorem dX7_lays_126 : decode cX7_lays 126 = .ok (.aload_n 0, 1) := by decide +kernel
theorem dX7_lays_127 : decode cX7_lays 127 = .ok (.getfield 39, 3) := by decide +kernel
theorem dX7_lays_130 : decode cX7_lays 130 = .ok (.iload_n 1, 1) := by decide +kernel
theorem dX7_lays_131 : decode cX7_lays 131 = .ok (.iaload, 1) := by decide +kernel
theorem dX7_lays_132 : decode cX7_lays 132 = .ok (.iadd, 1) := by decide +kernel
theorem dX7_lays_133 : decode cX7_lays 133 = .ok (.if_icmp .ge 29, 3) := by decide +kernel
theorem dX7_lays_136 : decode cX7_lays 136 = .ok (.aload_n 0, 1) := by decide +kernel
theorem dX7_lays_137 : decode cX7_lays 137 = .ok (.aload_n 0, 1) := by decide +kernel
theorem dX7_lays_138 : decode cX7_lays 138 = .ok (.getfield 69, 3) := by decide +kernel
theorem dX7_lays_141 : decode cX7_lays 141 = .ok (.aload_n 0, 1) := by decide +kernel
theorem dX7_lays_142 : decode cX7_lays 142 = .ok (.getfield 42, 3) := by decide +kernel
theorem dX7_lays_145 : decode cX7_lays 145 = .ok (.iload_n 2, 1) := by decide +kernel
theorem dX7_lays_146 : decode cX7_lays 146 = .ok (.iaload, 1) := by decide +kernel
theorem dX7_lays_147 : decode cX7_lays 147 = .ok (.aload_n 0, 1) := by decide +kernel
theorem dX7_lays_148 : decode cX7_lays 148 = .ok (.getfield 45, 3) := by decide +kernel
theorem dX7_lays_151 : decode cX7_lays 151 = .ok (.iload_n 2, 1) := by decide +kernel
theorem dX7_lays_152 : decode cX7_lays 152 = .ok (.iaload, 1) := by decide +kernel
theorem dX7_lays_153 : decode cX7_lays 153 = .ok (.invokevirtual 139, 3) := by decide +kernel
theorem dX7_lays_156 : decode cX7_lays 156 = .ok (.iinc 2 1, 3) := by decide +kernel
theorem dX7_lays_159 : decode cX7_lays 159 = .ok (.goto (-38), 3) := by decide +kernel
theorem dX7_lays_162 : decode cX7_lays 162 = .ok (.aload_n 0, 1) := by decide +kernel
theorem dX7_lays_163 : decode cX7_lays 163 = .ok (.invokevirtual 143, 3) := by decide +kernel
theorem dX7_lays_166 : decode cX7_lays 166 = .ok (.aload_n 0, 1) := by decide +kernel
theorem dX7_lays_167 : decode cX7_lays 167 = .ok (.invokevirtual 146, 3) := by decide +kernel
theorem dX7_lays_170 : decode cX7_lays 170 = .ok (.aload_n 0, 1) := by decide +kernel
theorem dX7_lays_171 : decode cX7_lays 171 = .ok (.invokevirtual 149, 3) := by decide +kernel
theorem dX7_lays_174 : decode cX7_lays 174 = .ok (.return_, 1) := by decide +kernel
theorem dX7_findsPaid_0 : decode cX7_findsPaid 0 = .ok (.aload_n 0, 1) := by decide +kernel
theorem dX7_findsPaid_1 : decode cX7_findsPaid 1 = .ok (.iconst 0, 1) := by decide +kernel
theorem dX7_findsPaid_2 : decode cX7_findsPaid 2 = .ok (.putfield 152, 3) := by decide +kernel
theorem dX7_findsPaid_5 : decode cX7_findsPaid 5 = .ok (.aload_n 0, 1) := by decide +kernel
theorem dX7_findsPaid_6 : decode cX7_findsPaid 6 = .ok (.iconst 0, 1) := by decide +kernel
theorem dX7_findsPaid_7 : decode cX7_findsPaid 7 = .ok (.putfield 155, 3) := by decide +kernel
theorem dX7_findsPaid_10 : decode cX7_findsPaid 10 = .ok (.aload_n 0, 1) := by decide +kernel
theorem dX7_findsPaid_11 : decode cX7_findsPaid 11 = .ok (.iconst 0, 1) := by decide +kernel
theorem dX7_findsPaid_12 : decode cX7_findsPaid 12 = .ok (.putfield 158, 3) := by decide +kernel
theorem dX7_findsPaid_15 : decode cX7_findsPaid 15 = .ok (.iconst 0, 1) := by decide +kernel
theorem dX7_findsPaid_16 : decode cX7_findsPaid 16 = .ok (.istore_n 1, 1) := by decide +kernel
theorem dX7_findsPaid_17 : decode cX7_findsPaid 17 = .ok (.iload_n 1, 1) := by decide +kernel
theorem dX7_findsPaid_18 : decode cX7_findsPaid 18 = .ok (.bipush 7, 2) := by decide +kernel
theorem dX7_findsPaid_20 : decode cX7_findsPaid 20 = .ok (.if_icmp .ge 23, 3) := by decide +kernel
theorem dX7_findsPaid_23 : decode cX7_findsPaid 23 = .ok (.aload_n 0, 1) := by decide +kernel
theorem dX7_findsPaid_24 : decode cX7_findsPaid 24 = .ok (.getfield 75, 3) := by decide +kernel
theorem dX7_findsPaid_27 : decode cX7_findsPaid 27 = .ok (.iload_n 1, 1) := by decide +kernel
theorem dX7_findsPaid_28 : decode cX7_findsPaid 28 = .ok (.iconst 0, 1) := by decide +kernel
theorem dX7_findsPaid_29 : decode cX7_findsPaid 29 = .ok (.iastore, 1) := by decide +kernel
theorem dX7_findsPaid_30 : decode cX7_findsPaid 30 = .ok (.aload_n 0, 1) := by decide +kernel
theorem dX7_findsPaid_31 : decode cX7_findsPaid 31 = .ok (.getfield 78, 3) := by decide +kernel
theorem dX7_findsPaid_34 : decode cX7_findsPaid 34 = .ok (.iload_n 1, 1) := by decide +kernel
theorem dX7_findsPaid_35 : decode cX7_findsPaid 35 = .ok (.iconst 0, 1) := by decide +kernel
theorem dX7_findsPaid_36 : decode cX7_findsPaid 36 = .ok (.iastore, 1) := by decide +kernel
theorem dX7_findsPaid_37 : decode cX7_findsPaid 37 = .ok (.iinc 1 1, 3) := by decide +kernel
theorem dX7_findsPaid_40 : decode cX7_findsPaid 40 = .ok (.goto (-23), 3) := by decide +kernel
theorem dX7_findsPaid_43 : decode cX7_findsPaid 43 = .ok (.iconst 0, 1) := by decide +kernel
theorem dX7_findsPaid_44 : decode cX7_findsPaid 44 = .ok (.istore_n 1, 1) := by decide +kernel
theorem dX7_findsPaid_45 : decode cX7_findsPaid 45 = .ok (.iconst 0, 1) := by decide +kernel
theorem dX7_findsPaid_46 : decode cX7_findsPaid 46 = .ok (.istore_n 2, 1) := by decide +kernel
theorem dX7_findsPaid_47 : decode cX7_findsPaid 47 = .ok (.iload_n 2, 1) := by decide +kernel
theorem dX7_findsPaid_48 : decode cX7_findsPaid 48 = .ok (.sipush 10080, 3) := by decide +kernel
theorem dX7_findsPaid_51 : decode cX7_findsPaid 51 = .ok (.if_icmp .ge 243, 3) := by decide +kernel
theorem dX7_findsPaid_54 : decode cX7_findsPaid 54 = .ok (.aload_n 0, 1) := by decide +kernel
theorem dX7_findsPaid_55 : decode cX7_findsPaid 55 = .ok (.getfield 66, 3) := by decide +kernel
theorem dX7_findsPaid_58 : decode cX7_findsPaid 58 = .ok (.iload_n 2, 1) := by decide +kernel
theorem dX7_findsPaid_59 : decode cX7_findsPaid 59 = .ok (.dup2, 1) := by decide +kernel
theorem dX7_findsPaid_60 : decode cX7_findsPaid 60 = .ok (.iaload, 1) := by decide +kernel
theorem dX7_findsPaid_61 : decode cX7_findsPaid 61 = .ok (.iload_n 2, 1) := by decide +kernel
theorem dX7_findsPaid_62 : decode cX7_findsPaid 62 = .ok (.ifCond .le 14, 3) := by decide +kernel
theorem dX7_findsPaid_65 : decode cX7_findsPaid 65 = .ok (.aload_n 0, 1) := by decide +kernel
theorem dX7_findsPaid_66 : decode cX7_findsPaid 66 = .ok (.getfield 66, 3) := by decide +kernel
theorem dX7_findsPaid_69 : decode cX7_findsPaid 69 = .ok (.iload_n 2, 1) := by decide +kernel
theorem dX7_findsPaid_70 : decode cX7_findsPaid 70 = .ok (.iconst 1, 1) := by decide +kernel
theorem dX7_findsPaid_71 : decode cX7_findsPaid 71 = .ok (.isub, 1) := by decide +kernel
theorem dX7_findsPaid_72 : decode cX7_findsPaid 72 = .ok (.iaload, 1) := by decide +kernel
theorem dX7_findsPaid_73 : decode cX7_findsPaid 73 = .ok (.goto 4, 3) := by decide +kernel
theorem dX7_findsPaid_76 : decode cX7_findsPaid 76 = .ok (.iconst 0, 1) := by decide +kernel
theorem dX7_findsPaid_77 : decode cX7_findsPaid 77 = .ok (.iadd, 1) := by decide +kernel
theorem dX7_findsPaid_78 : decode cX7_findsPaid 78 = .ok (.iastore, 1) := by decide +kernel
theorem dX7_findsPaid_79 : decode cX7_findsPaid 79 = .ok (.aload_n 0, 1) := by decide +kernel
theorem dX7_findsPaid_80 : decode cX7_findsPaid 80 = .ok (.getfield 69, 3) := by decide +kernel
theorem dX7_findsPaid_83 : decode cX7_findsPaid 83 = .ok (.iload_n 2, 1) := by decide +kernel
theorem dX7_findsPaid_84 : decode cX7_findsPaid 84 = .ok (.dup2, 1) := by decide +kernel
theorem dX7_findsPaid_85 : decode cX7_findsPaid 85 = .ok (.iaload, 1) := by decide +kernel
theorem dX7_findsPaid_86 : decode cX7_findsPaid 86 = .ok (.iload_n 2, 1) := by decide +kernel
theorem dX7_findsPaid_87 : decode cX7_findsPaid 87 = .ok (.ifCond .le 14, 3) := by decide +kernel
theorem dX7_findsPaid_90 : decode cX7_findsPaid 90 = .ok (.aload_n 0, 1) := by decide +kernel
theorem dX7_findsPaid_91 : decode cX7_findsPaid 91 = .ok (.getfield 69, 3) := by decide +kernel
theorem dX7_findsPaid_94 : decode cX7_findsPaid 94 = .ok (.iload_n 2, 1) := by decide +kernel
theorem dX7_findsPaid_95 : decode cX7_findsPaid 95 = .ok (.iconst 1, 1) := by decide +kernel
theorem dX7_findsPaid_96 : decode cX7_findsPaid 96 = .ok (.isub, 1) := by decide +kernel
theorem dX7_findsPaid_97 : decode cX7_findsPaid 97 = .ok (.iaload, 1) := by decide +kernel
theorem dX7_findsPaid_98 : decode cX7_findsPaid 98 = .ok (.goto 4, 3) := by decide +kernel
theorem dX7_findsPaid_101 : decode cX7_findsPaid 101 = .ok (.iconst 0, 1) := by decide +kernel
theorem dX7_findsPaid_102 : decode cX7_findsPaid 102 = .ok (.iadd, 1) := by decide +kernel
theorem dX7_findsPaid_103 : decode cX7_findsPaid 103 = .ok (.iastore, 1) := by decide +kernel
theorem dX7_findsPaid_104 : decode cX7_findsPaid 104 = .ok (.aload_n 0, 1) := by decide +kernel
theorem dX7_findsPaid_105 : decode cX7_findsPaid 105 = .ok (.getfield 66, 3) := by decide +kernel
theorem dX7_findsPaid_108 : decode cX7_findsPaid 108 = .ok (.iload_n 2, 1) := by decide +kernel
theorem dX7_findsPaid_109 : decode cX7_findsPaid 109 = .ok (.iaload, 1) := by decide +kernel
theorem dX7_findsPaid_110 : decode cX7_findsPaid 110 = .ok (.ifCond .le 16, 3) := by decide +kernel
theorem dX7_findsPaid_113 : decode cX7_findsPaid 113 = .ok (.aload_n 0, 1) := by decide +kernel
theorem dX7_findsPaid_114 : decode cX7_findsPaid 114 = .ok (.getfield 69, 3) := by decide +kernel
theorem dX7_findsPaid_117 : decode cX7_findsPaid 117 = .ok (.iload_n 2, 1) := by decide +kernel
theorem dX7_findsPaid_118 : decode cX7_findsPaid 118 = .ok (.iaload, 1) := by decide +kernel
theorem dX7_findsPaid_119 : decode cX7_findsPaid 119 = .ok (.ifCond .ne 7, 3) := by decide +kernel
theorem dX7_findsPaid_122 : decode cX7_findsPaid 122 = .ok (.iconst 1, 1) := by decide +kernel
theorem dX7_findsPaid_123 : decode cX7_findsPaid 123 = .ok (.goto 4, 3) := by decide +kernel
theorem dX7_findsPaid_126 : decode cX7_findsPaid 126 = .ok (.iconst 0, 1) := by decide +kernel
theorem dX7_findsPaid_127 : decode cX7_findsPaid 127 = .ok (.istore_n 3, 1) := by decide +kernel
theorem dX7_findsPaid_128 : decode cX7_findsPaid 128 = .ok (.iload_n 3, 1) := by decide +kernel
theorem dX7_findsPaid_129 : decode cX7_findsPaid 129 = .ok (.ifCond .eq 9, 3) := by decide +kernel
theorem dX7_findsPaid_132 : decode cX7_findsPaid 132 = .ok (.iload_n 1, 1) := by decide +kernel
theorem dX7_findsPaid_133 : decode cX7_findsPaid 133 = .ok (.iconst 1, 1) := by decide +kernel
theorem dX7_findsPaid_134 : decode cX7_findsPaid 134 = .ok (.iadd, 1) := by decide +kernel
theorem dX7_findsPaid_135 : decode cX7_findsPaid 135 = .ok (.goto 4, 3) := by decide +kernel
theorem dX7_findsPaid_138 : decode cX7_findsPaid 138 = .ok (.iconst 0, 1) := by decide +kernel
theorem dX7_findsPaid_139 : decode cX7_findsPaid 139 = .ok (.istore_n 1, 1) := by decide +kernel
theorem dX7_findsPaid_140 : decode cX7_findsPaid 140 = .ok (.aload_n 0, 1) := by decide +kernel
theorem dX7_findsPaid_141 : decode cX7_findsPaid 141 = .ok (.dup, 1) := by decide +kernel
theorem dX7_findsPaid_142 : decode cX7_findsPaid 142 = .ok (.getfield 152, 3) := by decide +kernel
theorem dX7_findsPaid_145 : decode cX7_findsPaid 145 = .ok (.aload_n 0, 1) := by decide +kernel
theorem dX7_findsPaid_146 : decode cX7_findsPaid 146 = .ok (.getfield 66, 3) := by decide +kernel
theorem dX7_findsPaid_149 : decode cX7_findsPaid 149 = .ok (.iload_n 2, 1) := by decide +kernel
theorem dX7_findsPaid_150 : decode cX7_findsPaid 150 = .ok (.iaload, 1) := by decide +kernel
theorem dX7_findsPaid_151 : decode cX7_findsPaid 151 = .ok (.iconst 1, 1) := by decide +kernel
theorem dX7_findsPaid_152 : decode cX7_findsPaid 152 = .ok (.if_icmp .le 7, 3) := by decide +kernel
theorem dX7_findsPaid_155 : decode cX7_findsPaid 155 = .ok (.iconst 1, 1) := by decide +kernel
theorem dX7_findsPaid_156 : decode cX7_findsPaid 156 = .ok (.goto 4, 3) := by decide +kernel
theorem dX7_findsPaid_159 : decode cX7_findsPaid 159 = .ok (.iconst 0, 1) := by decide +kernel
theorem dX7_findsPaid_160 : decode cX7_findsPaid 160 = .ok (.iadd, 1) := by decide +kernel
theorem dX7_findsPaid_161 : decode cX7_findsPaid 161 = .ok (.putfield 152, 3) := by decide +kernel
theorem dX7_findsPaid_164 : decode cX7_findsPaid 164 = .ok (.aload_n 0, 1) := by decide +kernel
theorem dX7_findsPaid_165 : decode cX7_findsPaid 165 = .ok (.dup, 1) := by decide +kernel
theorem dX7_findsPaid_166 : decode cX7_findsPaid 166 = .ok (.getfield 155, 3) := by decide +kernel
theorem dX7_findsPaid_169 : decode cX7_findsPaid 169 = .ok (.iload_n 1, 1) := by decide +kernel
theorem dX7_findsPaid_170 : decode cX7_findsPaid 170 = .ok (.iconst 1, 1) := by decide +kernel
theorem dX7_findsPaid_171 : decode cX7_findsPaid 171 = .ok (.if_icmp .ne 7, 3) := by decide +kernel
theorem dX7_findsPaid_174 : decode cX7_findsPaid 174 = .ok (.iconst 1, 1) := by decide +kernel
theorem dX7_findsPaid_175 : decode cX7_findsPaid 175 = .ok (.goto 4, 3) := by decide +kernel
theorem dX7_findsPaid_178 : decode cX7_findsPaid 178 = .ok (.iconst 0, 1) := by decide +kernel
theorem dX7_findsPaid_179 : decode cX7_findsPaid 179 = .ok (.iadd, 1) := by decide +kernel
theorem dX7_findsPaid_180 : decode cX7_findsPaid 180 = .ok (.putfield 155, 3) := by decide +kernel
theorem dX7_findsPaid_183 : decode cX7_findsPaid 183 = .ok (.aload_n 0, 1) := by decide +kernel
theorem dX7_findsPaid_184 : decode cX7_findsPaid 184 = .ok (.iload_n 1, 1) := by decide +kernel
theorem dX7_findsPaid_185 : decode cX7_findsPaid 185 = .ok (.aload_n 0, 1) := by decide +kernel
theorem dX7_findsPaid_186 : decode cX7_findsPaid 186 = .ok (.getfield 158, 3) := by decide +kernel
theorem dX7_findsPaid_189 : decode cX7_findsPaid 189 = .ok (.if_icmp .le 7, 3) := by decide +kernel
theorem dX7_findsPaid_192 : decode cX7_findsPaid 192 = .ok (.iload_n 1, 1) := by decide +kernel
theorem dX7_findsPaid_193 : decode cX7_findsPaid 193 = .ok (.goto 7, 3) := by decide +kernel
theorem dX7_findsPaid_196 : decode cX7_findsPaid 196 = .ok (.aload_n 0, 1) := by decide +kernel
theorem dX7_findsPaid_197 : decode cX7_findsPaid 197 = .ok (.getfield 158, 3) := by decide +kernel
theorem dX7_findsPaid_200 : decode cX7_findsPaid 200 = .ok (.putfield 158, 3) := by decide +kernel
theorem dX7_findsPaid_203 : decode cX7_findsPaid 203 = .ok (.aload_n 0, 1) := by decide +kernel
theorem dX7_findsPaid_204 : decode cX7_findsPaid 204 = .ok (.getfield 75, 3) := by decide +kernel
theorem dX7_findsPaid_207 : decode cX7_findsPaid 207 = .ok (.iload_n 2, 1) := by decide +kernel
theorem dX7_findsPaid_208 : decode cX7_findsPaid 208 = .ok (.sipush 1440, 3) := by decide +kernel
theorem dX7_findsPaid_211 : decode cX7_findsPaid 211 = .ok (.idiv, 1) := by decide +kernel
theorem dX7_findsPaid_212 : decode cX7_findsPaid 212 = .ok (.dup2, 1) := by decide +kernel
theorem dX7_findsPaid_213 : decode cX7_findsPaid 213 = .ok (.iaload, 1) := by decide +kernel
theorem dX7_findsPaid_214 : decode cX7_findsPaid 214 = .ok (.iload_n 3, 1) := by decide +kernel
theorem dX7_findsPaid_215 : decode cX7_findsPaid 215 = .ok (.ifCond .eq 7, 3) := by decide +kernel
theorem dX7_findsPaid_218 : decode cX7_findsPaid 218 = .ok (.iconst 1, 1) := by decide +kernel
theorem dX7_findsPaid_219 : decode cX7_findsPaid 219 = .ok (.goto 4, 3) := by decide +kernel
theorem dX7_findsPaid_222 : decode cX7_findsPaid 222 = .ok (.iconst 0, 1) := by decide +kernel
theorem dX7_findsPaid_223 : decode cX7_findsPaid 223 = .ok (.iadd, 1) := by decide +kernel
theorem dX7_findsPaid_224 : decode cX7_findsPaid 224 = .ok (.iastore, 1) := by decide +kernel
theorem dX7_findsPaid_225 : decode cX7_findsPaid 225 = .ok (.iload_n 3, 1) := by decide +kernel
theorem dX7_findsPaid_226 : decode cX7_findsPaid 226 = .ok (.ifCond .eq 20, 3) := by decide +kernel
theorem dX7_findsPaid_229 : decode cX7_findsPaid 229 = .ok (.iload_n 1, 1) := by decide +kernel
theorem dX7_findsPaid_230 : decode cX7_findsPaid 230 = .ok (.sipush 361, 3) := by decide +kernel
theorem dX7_findsPaid_233 : decode cX7_findsPaid 233 = .ok (.sipush 390, 3) := by decide +kernel
theorem dX7_findsPaid_236 : decode cX7_findsPaid 236 = .ok (.invokestatic 97, 3) := by decide +kernel
theorem dX7_findsPaid_239 : decode cX7_findsPaid 239 = .ok (.ifCond .ne 7, 3) := by decide +kernel
theorem dX7_findsPaid_242 : decode cX7_findsPaid 242 = .ok (.iconst 1, 1) := by decide +kernel
theorem dX7_findsPaid_243 : decode cX7_findsPaid 243 = .ok (.goto 4, 3) := by decide +kernel
theorem dX7_findsPaid_246 : decode cX7_findsPaid 246 = .ok (.iconst 0, 1) := by decide +kernel
theorem dX7_findsPaid_247 : decode cX7_findsPaid 247 = .ok (.istore 4, 2) := by decide +kernel
theorem dX7_findsPaid_249 : decode cX7_findsPaid 249 = .ok (.aload_n 0, 1) := by decide +kernel
theorem dX7_findsPaid_250 : decode cX7_findsPaid 250 = .ok (.getfield 72, 3) := by decide +kernel
theorem dX7_findsPaid_253 : decode cX7_findsPaid 253 = .ok (.iload_n 2, 1) := by decide +kernel
theorem dX7_findsPaid_254 : decode cX7_findsPaid 254 = .ok (.iload 4, 2) := by decide +kernel
theorem dX7_findsPaid_256 : decode cX7_findsPaid 256 = .ok (.ifCond .eq 7, 3) := by decide +kernel
theorem dX7_findsPaid_259 : decode cX7_findsPaid 259 = .ok (.iconst 0, 1) := by decide +kernel
theorem dX7_findsPaid_260 : decode cX7_findsPaid 260 = .ok (.goto 4, 3) := by decide +kernel
theorem dX7_findsPaid_263 : decode cX7_findsPaid 263 = .ok (.iconst (-1), 1) := by decide +kernel
theorem dX7_findsPaid_264 : decode cX7_findsPaid 264 = .ok (.iastore, 1) := by decide +kernel
theorem dX7_findsPaid_265 : decode cX7_findsPaid 265 = .ok (.aload_n 0, 1) := by decide +kernel
theorem dX7_findsPaid_266 : decode cX7_findsPaid 266 = .ok (.getfield 78, 3) := by decide +kernel
theorem dX7_findsPaid_269 : decode cX7_findsPaid 269 = .ok (.iload_n 2, 1) := by decide +kernel
theorem dX7_findsPaid_270 : decode cX7_findsPaid 270 = .ok (.sipush 1440, 3) := by decide +kernel
theorem dX7_findsPaid_273 : decode cX7_findsPaid 273 = .ok (.idiv, 1) := by decide +kernel
theorem dX7_findsPaid_274 : decode cX7_findsPaid 274 = .ok (.dup2, 1) := by decide +kernel
theorem dX7_findsPaid_275 : decode cX7_findsPaid 275 = .ok (.iaload, 1) := by decide +kernel
theorem dX7_findsPaid_276 : decode cX7_findsPaid 276 = .ok (.iload 4, 2) := by decide +kernel
theorem dX7_findsPaid_278 : decode cX7_findsPaid 278 = .ok (.ifCond .eq 7, 3) := by decide +kernel
theorem dX7_findsPaid_281 : decode cX7_findsPaid 281 = .ok (.iconst 1, 1) := by decide +kernel
theorem dX7_findsPaid_282 : decode cX7_findsPaid 282 = .ok (.goto 4, 3) := by decide +kernel
theorem dX7_findsPaid_285 : decode cX7_findsPaid 285 = .ok (.iconst 0, 1) := by decide +kernel
theorem dX7_findsPaid_286 : decode cX7_findsPaid 286 = .ok (.iadd, 1) := by decide +kernel
theorem dX7_findsPaid_287 : decode cX7_findsPaid 287 = .ok (.iastore, 1) := by decide +kernel
theorem dX7_findsPaid_288 : decode cX7_findsPaid 288 = .ok (.iinc 2 1, 3) := by decide +kernel
theorem dX7_findsPaid_291 : decode cX7_findsPaid 291 = .ok (.goto (-244), 3) := by decide +kernel
theorem dX7_findsPaid_294 : decode cX7_findsPaid 294 = .ok (.return_, 1) := by decide +kernel
theorem dX7_findsKinds_0 : decode cX7_findsKinds 0 = .ok (.iconst 1, 1) := by decide +kernel
theorem dX7_findsKinds_1 : decode cX7_findsKinds 1 = .ok (.istore_n 1, 1) := by decide +kernel
theorem dX7_findsKinds_2 : decode cX7_findsKinds 2 = .ok (.iconst 0, 1) := by decide +kernel
theorem dX7_findsKinds_3 : decode cX7_findsKinds 3 = .ok (.istore_n 2, 1) := by decide +kernel
theorem dX7_findsKinds_4 : decode cX7_findsKinds 4 = .ok (.iload_n 2, 1) := by decide +kernel
theorem dX7_findsKinds_5 : decode cX7_findsKinds 5 = .ok (.bipush 6, 2) := by decide +kernel
theorem dX7_findsKinds_7 : decode cX7_findsKinds 7 = .ok (.if_icmp .ge 28, 3) := by decide +kernel
theorem dX7_findsKinds_10 : decode cX7_findsKinds 10 = .ok (.iload_n 1, 1) := by decide +kernel
theorem dX7_findsKinds_11 : decode cX7_findsKinds 11 = .ok (.ifCond .eq 16, 3) := by decide +kernel
theorem dX7_findsKinds_14 : decode cX7_findsKinds 14 = .ok (.aload_n 0, 1) := by decide +kernel
theorem dX7_findsKinds_15 : decode cX7_findsKinds 15 = .ok (.getfield 78, 3) := by decide +kernel
theorem dX7_findsKinds_18 : decode cX7_findsKinds 18 = .ok (.iload_n 2, 1) := by decide +kernel
theorem dX7_findsKinds_19 : decode cX7_findsKinds 19 = .ok (.iaload, 1) := by decide +kernel
theorem dX7_findsKinds_20 : decode cX7_findsKinds 20 = .ok (.ifCond .le 7, 3) := by decide +kernel
theorem dX7_findsKinds_23 : decode cX7_findsKinds 23 = .ok (.iconst 1, 1) := by decide +kernel
theorem dX7_findsKinds_24 : decode cX7_findsKinds 24 = .ok (.goto 4, 3) := by decide +kernel
theorem dX7_findsKinds_27 : decode cX7_findsKinds 27 = .ok (.iconst 0, 1) := by decide +kernel
theorem dX7_findsKinds_28 : decode cX7_findsKinds 28 = .ok (.istore_n 1, 1) := by decide +kernel
theorem dX7_findsKinds_29 : decode cX7_findsKinds 29 = .ok (.iinc 2 1, 3) := by decide +kernel
theorem dX7_findsKinds_32 : decode cX7_findsKinds 32 = .ok (.goto (-28), 3) := by decide +kernel
theorem dX7_findsKinds_35 : decode cX7_findsKinds 35 = .ok (.iconst 0, 1) := by decide +kernel
theorem dX7_findsKinds_36 : decode cX7_findsKinds 36 = .ok (.istore_n 2, 1) := by decide +kernel
theorem dX7_findsKinds_37 : decode cX7_findsKinds 37 = .ok (.iload_n 2, 1) := by decide +kernel
theorem dX7_findsKinds_38 : decode cX7_findsKinds 38 = .ok (.bipush 21, 2) := by decide +kernel
theorem dX7_findsKinds_40 : decode cX7_findsKinds 40 = .ok (.if_icmp .ge 16, 3) := by decide +kernel
theorem dX7_findsKinds_43 : decode cX7_findsKinds 43 = .ok (.aload_n 0, 1) := by decide +kernel
theorem dX7_findsKinds_44 : decode cX7_findsKinds 44 = .ok (.getfield 81, 3) := by decide +kernel
theorem dX7_findsKinds_47 : decode cX7_findsKinds 47 = .ok (.iload_n 2, 1) := by decide +kernel
theorem dX7_findsKinds_48 : decode cX7_findsKinds 48 = .ok (.iconst 0, 1) := by decide +kernel
theorem dX7_findsKinds_49 : decode cX7_findsKinds 49 = .ok (.iastore, 1) := by decide +kernel
theorem dX7_findsKinds_50 : decode cX7_findsKinds 50 = .ok (.iinc 2 1, 3) := by decide +kernel
theorem dX7_findsKinds_53 : decode cX7_findsKinds 53 = .ok (.goto (-16), 3) := by decide +kernel
theorem dX7_findsKinds_56 : decode cX7_findsKinds 56 = .ok (.iconst 0, 1) := by decide +kernel
theorem dX7_findsKinds_57 : decode cX7_findsKinds 57 = .ok (.istore_n 2, 1) := by decide +kernel
theorem dX7_findsKinds_58 : decode cX7_findsKinds 58 = .ok (.iconst 0, 1) := by decide +kernel
theorem dX7_findsKinds_59 : decode cX7_findsKinds 59 = .ok (.istore_n 3, 1) := by decide +kernel
theorem dX7_findsKinds_60 : decode cX7_findsKinds 60 = .ok (.iconst 0, 1) := by decide +kernel
theorem dX7_findsKinds_61 : decode cX7_findsKinds 61 = .ok (.istore 4, 2) := by decide +kernel
theorem dX7_findsKinds_63 : decode cX7_findsKinds 63 = .ok (.iload 4, 2) := by decide +kernel
theorem dX7_findsKinds_65 : decode cX7_findsKinds 65 = .ok (.sipush 10080, 3) := by decide +kernel
theorem dX7_findsKinds_68 : decode cX7_findsKinds 68 = .ok (.if_icmp .ge 154, 3) := by decide +kernel
theorem dX7_findsKinds_71 : decode cX7_findsKinds 71 = .ok (.iload 4, 2) := by decide +kernel
theorem dX7_findsKinds_73 : decode cX7_findsKinds 73 = .ok (.sipush 1440, 3) := by decide +kernel
theorem dX7_findsKinds_76 : decode cX7_findsKinds 76 = .ok (.irem, 1) := by decide +kernel
theorem dX7_findsKinds_77 : decode cX7_findsKinds 77 = .ok (.ifCond .ne 7, 3) := by decide +kernel
theorem dX7_findsKinds_80 : decode cX7_findsKinds 80 = .ok (.iconst 0, 1) := by decide +kernel
theorem dX7_findsKinds_81 : decode cX7_findsKinds 81 = .ok (.goto 4, 3) := by decide +kernel
theorem dX7_findsKinds_84 : decode cX7_findsKinds 84 = .ok (.iload_n 3, 1) := by decide +kernel
theorem dX7_findsKinds_85 : decode cX7_findsKinds 85 = .ok (.istore_n 3, 1) := by decide +kernel
theorem dX7_findsKinds_86 : decode cX7_findsKinds 86 = .ok (.iload 4, 2) := by decide +kernel
theorem dX7_findsKinds_88 : decode cX7_findsKinds 88 = .ok (.sipush 1440, 3) := by decide +kernel
theorem dX7_findsKinds_91 : decode cX7_findsKinds 91 = .ok (.idiv, 1) := by decide +kernel
theorem dX7_findsKinds_92 : decode cX7_findsKinds 92 = .ok (.bipush 6, 2) := by decide +kernel
theorem dX7_findsKinds_94 : decode cX7_findsKinds 94 = .ok (.if_icmp .ne 11, 3) := by decide +kernel
theorem dX7_findsKinds_97 : decode cX7_findsKinds 97 = .ok (.iload_n 1, 1) := by decide +kernel
theorem dX7_findsKinds_98 : decode cX7_findsKinds 98 = .ok (.ifCond .eq 7, 3) := by decide +kernel
theorem dX7_findsKinds_101 : decode cX7_findsKinds 101 = .ok (.iconst 1, 1) := by decide +kernel
theorem dX7_findsKinds_102 : decode cX7_findsKinds 102 = .ok (.goto 4, 3) := by decide +kernel
theorem dX7_findsKinds_105 : decode cX7_findsKinds 105 = .ok (.iconst 0, 1) := by decide +kernel
theorem dX7_findsKinds_106 : decode cX7_findsKinds 106 = .ok (.istore 5, 2) := by decide +kernel
theorem dX7_findsKinds_108 : decode cX7_findsKinds 108 = .ok (.aload_n 0, 1) := by decide +kernel
theorem dX7_findsKinds_109 : decode cX7_findsKinds 109 = .ok (.getfield 72, 3) := by decide +kernel
theorem dX7_findsKinds_112 : decode cX7_findsKinds 112 = .ok (.iload 4, 2) := by decide +kernel
theorem dX7_findsKinds_114 : decode cX7_findsKinds 114 = .ok (.iaload, 1) := by decide +kernel
theorem dX7_findsKinds_115 : decode cX7_findsKinds 115 = .ok (.iconst (-1), 1) := by decide +kernel
theorem dX7_findsKinds_116 : decode cX7_findsKinds 116 = .ok (.if_icmp .eq 100, 3) := by decide +kernel
theorem dX7_findsKinds_119 : decode cX7_findsKinds 119 = .ok (.iload_n 3, 1) := by decide +kernel
theorem dX7_findsKinds_120 : decode cX7_findsKinds 120 = .ok (.sipush 720, 3) := by decide +kernel
theorem dX7_findsKinds_123 : decode cX7_findsKinds 123 = .ok (.if_icmp .ge 15, 3) := by decide +kernel
theorem dX7_findsKinds_126 : decode cX7_findsKinds 126 = .ok (.iload 5, 2) := by decide +kernel
theorem dX7_findsKinds_128 : decode cX7_findsKinds 128 = .ok (.ifCond .eq 14, 3) := by decide +kernel
theorem dX7_findsKinds_131 : decode cX7_findsKinds 131 = .ok (.iload_n 3, 1) := by decide +kernel
theorem dX7_findsKinds_132 : decode cX7_findsKinds 132 = .ok (.sipush 480, 3) := by decide +kernel
theorem dX7_findsKinds_135 : decode cX7_findsKinds 135 = .ok (.if_icmp .lt 7, 3) := by decide +kernel
theorem dX7_findsKinds_138 : decode cX7_findsKinds 138 = .ok (.iconst 1, 1) := by decide +kernel
theorem dX7_findsKinds_139 : decode cX7_findsKinds 139 = .ok (.goto 4, 3) := by decide +kernel
theorem dX7_findsKinds_142 : decode cX7_findsKinds 142 = .ok (.iconst 0, 1) := by decide +kernel
theorem dX7_findsKinds_143 : decode cX7_findsKinds 143 = .ok (.istore 6, 2) := by decide +kernel
theorem dX7_findsKinds_145 : decode cX7_findsKinds 145 = .ok (.aload_n 0, 1) := by decide +kernel
theorem dX7_findsKinds_146 : decode cX7_findsKinds 146 = .ok (.getfield 72, 3) := by decide +kernel
theorem dX7_findsKinds_149 : decode cX7_findsKinds 149 = .ok (.iload 4, 2) := by decide +kernel
theorem dX7_findsKinds_151 : decode cX7_findsKinds 151 = .ok (.iload 6, 2) := by decide +kernel
theorem dX7_findsKinds_153 : decode cX7_findsKinds 153 = .ok (.ifCond .eq 7, 3) := by decide +kernel
theorem dX7_findsKinds_156 : decode cX7_findsKinds 156 = .ok (.iconst 2, 1) := by decide +kernel
theorem dX7_findsKinds_157 : decode cX7_findsKinds 157 = .ok (.goto 27, 3) := by decide +kernel
theorem dX7_findsKinds_160 : decode cX7_findsKinds 160 = .ok (.iload_n 3, 1) := by decide +kernel
theorem dX7_findsKinds_161 : decode cX7_findsKinds 161 = .ok (.sipush 480, 3) := by decide +kernel
theorem dX7_findsKinds_164 : decode cX7_findsKinds 164 = .ok (.if_icmp .ge 15, 3) := by decide +kernel
theorem dX7_findsKinds_167 : decode cX7_findsKinds 167 = .ok (.iload_n 2, 1) := by decide +kernel
theorem dX7_findsKinds_168 : decode cX7_findsKinds 168 = .ok (.sipush 2400, 3) := by decide +kernel
theorem dX7_findsKinds_171 : decode cX7_findsKinds 171 = .ok (.if_icmp .ge 8, 3) := by decide +kernel
theorem dX7_findsKinds_174 : decode cX7_findsKinds 174 = .ok (.iload 5, 2) := by decide +kernel
theorem dX7_findsKinds_176 : decode cX7_findsKinds 176 = .ok (.ifCond .eq 7, 3) := by decide +kernel
theorem dX7_findsKinds_179 : decode cX7_findsKinds 179 = .ok (.iconst 1, 1) := by decide +kernel
theorem dX7_findsKinds_180 : decode cX7_findsKinds 180 = .ok (.goto 4, 3) := by decide +kernel
theorem dX7_findsKinds_183 : decode cX7_findsKinds 183 = .ok (.iconst 0, 1) := by decide +kernel
theorem dX7_findsKinds_184 : decode cX7_findsKinds 184 = .ok (.iastore, 1) := by decide +kernel
theorem dX7_findsKinds_185 : decode cX7_findsKinds 185 = .ok (.aload_n 0, 1) := by decide +kernel
theorem dX7_findsKinds_186 : decode cX7_findsKinds 186 = .ok (.getfield 81, 3) := by decide +kernel
theorem dX7_findsKinds_189 : decode cX7_findsKinds 189 = .ok (.iconst 3, 1) := by decide +kernel
theorem dX7_findsKinds_190 : decode cX7_findsKinds 190 = .ok (.iload 4, 2) := by decide +kernel
theorem dX7_findsKinds_192 : decode cX7_findsKinds 192 = .ok (.sipush 1440, 3) := by decide +kernel
theorem dX7_findsKinds_195 : decode cX7_findsKinds 195 = .ok (.idiv, 1) := by decide +kernel
theorem dX7_findsKinds_196 : decode cX7_findsKinds 196 = .ok (.imul, 1) := by decide +kernel
theorem dX7_findsKinds_197 : decode cX7_findsKinds 197 = .ok (.aload_n 0, 1) := by decide +kernel
theorem dX7_findsKinds_198 : decode cX7_findsKinds 198 = .ok (.getfield 72, 3) := by decide +kernel
theorem dX7_findsKinds_201 : decode cX7_findsKinds 201 = .ok (.iload 4, 2) := by decide +kernel
theorem dX7_findsKinds_203 : decode cX7_findsKinds 203 = .ok (.iaload, 1) := by decide +kernel
theorem dX7_findsKinds_204 : decode cX7_findsKinds 204 = .ok (.iadd, 1) := by decide +kernel
theorem dX7_findsKinds_205 : decode cX7_findsKinds 205 = .ok (.dup2, 1) := by decide +kernel
theorem dX7_findsKinds_206 : decode cX7_findsKinds 206 = .ok (.iaload, 1) := by decide +kernel
theorem dX7_findsKinds_207 : decode cX7_findsKinds 207 = .ok (.iconst 1, 1) := by decide +kernel
theorem dX7_findsKinds_208 : decode cX7_findsKinds 208 = .ok (.iadd, 1) := by decide +kernel
theorem dX7_findsKinds_209 : decode cX7_findsKinds 209 = .ok (.iastore, 1) := by decide +kernel
theorem dX7_findsKinds_210 : decode cX7_findsKinds 210 = .ok (.iinc 3 1, 3) := by decide +kernel
theorem dX7_findsKinds_213 : decode cX7_findsKinds 213 = .ok (.iinc 2 1, 3) := by decide +kernel
theorem dX7_findsKinds_216 : decode cX7_findsKinds 216 = .ok (.iinc 4 1, 3) := by decide +kernel
theorem dX7_findsKinds_219 : decode cX7_findsKinds 219 = .ok (.goto (-156), 3) := by decide +kernel
theorem dX7_findsKinds_222 : decode cX7_findsKinds 222 = .ok (.return_, 1) := by decide +kernel
theorem dX7_findsShares_0 : decode cX7_findsShares 0 = .ok (.iconst 0, 1) := by decide +kernel
theorem dX7_findsShares_1 : decode cX7_findsShares 1 = .ok (.istore_n 1, 1) := by decide +kernel
theorem dX7_findsShares_2 : decode cX7_findsShares 2 = .ok (.iload_n 1, 1) := by decide +kernel
theorem dX7_findsShares_3 : decode cX7_findsShares 3 = .ok (.iconst 3, 1) := by decide +kernel
theorem dX7_findsShares_4 : decode cX7_findsShares 4 = .ok (.if_icmp .ge 153, 3) := by decide +kernel
theorem dX7_findsShares_7 : decode cX7_findsShares 7 = .ok (.iconst 0, 1) := by decide +kernel
theorem dX7_findsShares_8 : decode cX7_findsShares 8 = .ok (.istore_n 2, 1) := by decide +kernel
theorem dX7_findsShares_9 : decode cX7_findsShares 9 = .ok (.iconst 0, 1) := by decide +kernel
theorem dX7_findsShares_10 : decode cX7_findsShares 10 = .ok (.istore_n 3, 1) := by decide +kernel
theorem dX7_findsShares_11 : decode cX7_findsShares 11 = .ok (.iconst 0, 1) := by decide +kernel
theorem dX7_findsShares_12 : decode cX7_findsShares 12 = .ok (.istore 4, 2) := by decide +kernel
theorem dX7_findsShares_14 : decode cX7_findsShares 14 = .ok (.iload 4, 2) := by decide +kernel
theorem dX7_findsShares_16 : decode cX7_findsShares 16 = .ok (.bipush 7, 2) := by decide +kernel
theorem dX7_findsShares_18 : decode cX7_findsShares 18 = .ok (.if_icmp .ge 65, 3) := by decide +kernel
theorem dX7_findsShares_21 : decode cX7_findsShares 21 = .ok (.iload_n 2, 1) := by decide +kernel
theorem dX7_findsShares_22 : decode cX7_findsShares 22 = .ok (.aload_n 0, 1) := by decide +kernel
theorem dX7_findsShares_23 : decode cX7_findsShares 23 = .ok (.getfield 81, 3) := by decide +kernel
theorem dX7_findsShares_26 : decode cX7_findsShares 26 = .ok (.iconst 3, 1) := by decide +kernel
theorem dX7_findsShares_27 : decode cX7_findsShares 27 = .ok (.iload 4, 2) := by decide +kernel
theorem dX7_findsShares_29 : decode cX7_findsShares 29 = .ok (.imul, 1) := by decide +kernel
theorem dX7_findsShares_30 : decode cX7_findsShares 30 = .ok (.iload_n 1, 1) := by decide +kernel
theorem dX7_findsShares_31 : decode cX7_findsShares 31 = .ok (.iadd, 1) := by decide +kernel
theorem dX7_findsShares_32 : decode cX7_findsShares 32 = .ok (.iaload, 1) := by decide +kernel
theorem dX7_findsShares_33 : decode cX7_findsShares 33 = .ok (.iadd, 1) := by decide +kernel
theorem dX7_findsShares_34 : decode cX7_findsShares 34 = .ok (.istore_n 2, 1) := by decide +kernel
theorem dX7_findsShares_35 : decode cX7_findsShares 35 = .ok (.aload_n 0, 1) := by decide +kernel
theorem dX7_findsShares_36 : decode cX7_findsShares 36 = .ok (.getfield 84, 3) := by decide +kernel
theorem dX7_findsShares_39 : decode cX7_findsShares 39 = .ok (.iconst 3, 1) := by decide +kernel
theorem dX7_findsShares_40 : decode cX7_findsShares 40 = .ok (.iload 4, 2) := by decide +kernel
theorem dX7_findsShares_42 : decode cX7_findsShares 42 = .ok (.imul, 1) := by decide +kernel
theorem dX7_findsShares_43 : decode cX7_findsShares 43 = .ok (.iload_n 1, 1) := by decide +kernel
theorem dX7_findsShares_44 : decode cX7_findsShares 44 = .ok (.iadd, 1) := by decide +kernel
theorem dX7_findsShares_45 : decode cX7_findsShares 45 = .ok (.aload_n 0, 1) := by decide +kernel
theorem dX7_findsShares_46 : decode cX7_findsShares 46 = .ok (.getfield 81, 3) := by decide +kernel
theorem dX7_findsShares_49 : decode cX7_findsShares 49 = .ok (.iconst 3, 1) := by decide +kernel
theorem dX7_findsShares_50 : decode cX7_findsShares 50 = .ok (.iload 4, 2) := by decide +kernel
theorem dX7_findsShares_52 : decode cX7_findsShares 52 = .ok (.imul, 1) := by decide +kernel
theorem dX7_findsShares_53 : decode cX7_findsShares 53 = .ok (.iload_n 1, 1) := by decide +kernel
theorem dX7_findsShares_54 : decode cX7_findsShares 54 = .ok (.iadd, 1) := by decide +kernel
theorem dX7_findsShares_55 : decode cX7_findsShares 55 = .ok (.iaload, 1) := by decide +kernel
theorem dX7_findsShares_56 : decode cX7_findsShares 56 = .ok (.bipush 15, 2) := by decide +kernel
theorem dX7_findsShares_58 : decode cX7_findsShares 58 = .ok (.idiv, 1) := by decide +kernel
theorem dX7_findsShares_59 : decode cX7_findsShares 59 = .ok (.iastore, 1) := by decide +kernel
theorem dX7_findsShares_60 : decode cX7_findsShares 60 = .ok (.iload_n 3, 1) := by decide +kernel
theorem dX7_findsShares_61 : decode cX7_findsShares 61 = .ok (.aload_n 0, 1) := by decide +kernel
theorem dX7_findsShares_62 : decode cX7_findsShares 62 = .ok (.getfield 81, 3) := by decide +kernel
theorem dX7_findsShares_65 : decode cX7_findsShares 65 = .ok (.iconst 3, 1) := by decide +kernel
theorem dX7_findsShares_66 : decode cX7_findsShares 66 = .ok (.iload 4, 2) := by decide +kernel
theorem dX7_findsShares_68 : decode cX7_findsShares 68 = .ok (.imul, 1) := by decide +kernel
theorem dX7_findsShares_69 : decode cX7_findsShares 69 = .ok (.iload_n 1, 1) := by decide +kernel
theorem dX7_findsShares_70 : decode cX7_findsShares 70 = .ok (.iadd, 1) := by decide +kernel
theorem dX7_findsShares_71 : decode cX7_findsShares 71 = .ok (.iaload, 1) := by decide +kernel
theorem dX7_findsShares_72 : decode cX7_findsShares 72 = .ok (.bipush 15, 2) := by decide +kernel
theorem dX7_findsShares_74 : decode cX7_findsShares 74 = .ok (.idiv, 1) := by decide +kernel
theorem dX7_findsShares_75 : decode cX7_findsShares 75 = .ok (.isub, 1) := by decide +kernel
theorem dX7_findsShares_76 : decode cX7_findsShares 76 = .ok (.istore_n 3, 1) := by decide +kernel
theorem dX7_findsShares_77 : decode cX7_findsShares 77 = .ok (.iinc 4 1, 3) := by decide +kernel
theorem dX7_findsShares_80 : decode cX7_findsShares 80 = .ok (.goto (-66), 3) := by decide +kernel
theorem dX7_findsShares_83 : decode cX7_findsShares 83 = .ok (.aload_n 0, 1) := by decide +kernel
theorem dX7_findsShares_84 : decode cX7_findsShares 84 = .ok (.getfield 87, 3) := by decide +kernel
theorem dX7_findsShares_87 : decode cX7_findsShares 87 = .ok (.iload_n 1, 1) := by decide +kernel
theorem dX7_findsShares_88 : decode cX7_findsShares 88 = .ok (.iload_n 2, 1) := by decide +kernel
theorem dX7_findsShares_89 : decode cX7_findsShares 89 = .ok (.bipush 7, 2) := by decide +kernel
theorem dX7_findsShares_91 : decode cX7_findsShares 91 = .ok (.iadd, 1) := by decide +kernel
theorem dX7_findsShares_92 : decode cX7_findsShares 92 = .ok (.bipush 15, 2) := by decide +kernel
theorem dX7_findsShares_94 : decode cX7_findsShares 94 = .ok (.idiv, 1) := by decide +kernel
theorem dX7_findsShares_95 : decode cX7_findsShares 95 = .ok (.iastore, 1) := by decide +kernel
theorem dX7_findsShares_96 : decode cX7_findsShares 96 = .ok (.iload_n 3, 1) := by decide +kernel
theorem dX7_findsShares_97 : decode cX7_findsShares 97 = .ok (.aload_n 0, 1) := by decide +kernel
theorem dX7_findsShares_98 : decode cX7_findsShares 98 = .ok (.getfield 87, 3) := by decide +kernel
theorem dX7_findsShares_101 : decode cX7_findsShares 101 = .ok (.iload_n 1, 1) := by decide +kernel
theorem dX7_findsShares_102 : decode cX7_findsShares 102 = .ok (.iaload, 1) := by decide +kernel
theorem dX7_findsShares_103 : decode cX7_findsShares 103 = .ok (.iadd, 1) := by decide +kernel
theorem dX7_findsShares_104 : decode cX7_findsShares 104 = .ok (.istore_n 3, 1) := by decide +kernel
theorem dX7_findsShares_105 : decode cX7_findsShares 105 = .ok (.iconst 0, 1) := by decide +kernel
theorem dX7_findsShares_106 : decode cX7_findsShares 106 = .ok (.istore 4, 2) := by decide +kernel
theorem dX7_findsShares_108 : decode cX7_findsShares 108 = .ok (.iload 4, 2) := by decide +kernel
theorem dX7_findsShares_110 : decode cX7_findsShares 110 = .ok (.bipush 7, 2) := by decide +kernel
theorem dX7_findsShares_112 : decode cX7_findsShares 112 = .ok (.if_icmp .ge 39, 3) := by decide +kernel
theorem dX7_findsShares_115 : decode cX7_findsShares 115 = .ok (.aload_n 0, 1) := by decide +kernel
theorem dX7_findsShares_116 : decode cX7_findsShares 116 = .ok (.getfield 84, 3) := by decide +kernel
theorem dX7_findsShares_119 : decode cX7_findsShares 119 = .ok (.iconst 3, 1) := by decide +kernel
theorem dX7_findsShares_120 : decode cX7_findsShares 120 = .ok (.iload 4, 2) := by decide +kernel
theorem dX7_findsShares_122 : decode cX7_findsShares 122 = .ok (.imul, 1) := by decide +kernel
theorem dX7_findsShares_123 : decode cX7_findsShares 123 = .ok (.iload_n 1, 1) := by decide +kernel
theorem dX7_findsShares_124 : decode cX7_findsShares 124 = .ok (.iadd, 1) := by decide +kernel
theorem dX7_findsShares_125 : decode cX7_findsShares 125 = .ok (.dup2, 1) := by decide +kernel
theorem dX7_findsShares_126 : decode cX7_findsShares 126 = .ok (.iaload, 1) := by decide +kernel
theorem dX7_findsShares_127 : decode cX7_findsShares 127 = .ok (.aload_n 0, 1) := by decide +kernel
theorem dX7_findsShares_128 : decode cX7_findsShares 128 = .ok (.iload 4, 2) := by decide +kernel
theorem dX7_findsShares_130 : decode cX7_findsShares 130 = .ok (.iload_n 1, 1) := by decide +kernel
theorem dX7_findsShares_131 : decode cX7_findsShares 131 = .ok (.invokevirtual 161, 3) := by decide +kernel
theorem dX7_findsShares_134 : decode cX7_findsShares 134 = .ok (.iload_n 3, 1) := by decide +kernel
theorem dX7_findsShares_135 : decode cX7_findsShares 135 = .ok (.if_icmp .ge 7, 3) := by decide +kernel
theorem dX7_findsShares_138 : decode cX7_findsShares 138 = .ok (.iconst 1, 1) := by decide +kernel
theorem dX7_findsShares_139 : decode cX7_findsShares 139 = .ok (.goto 4, 3) := by decide +kernel
theorem dX7_findsShares_142 : decode cX7_findsShares 142 = .ok (.iconst 0, 1) := by decide +kernel
theorem dX7_findsShares_143 : decode cX7_findsShares 143 = .ok (.iadd, 1) := by decide +kernel
theorem dX7_findsShares_144 : decode cX7_findsShares 144 = .ok (.iastore, 1) := by decide +kernel
theorem dX7_findsShares_145 : decode cX7_findsShares 145 = .ok (.iinc 4 1, 3) := by decide +kernel
theorem dX7_findsShares_148 : decode cX7_findsShares 148 = .ok (.goto (-40), 3) := by decide +kernel
theorem dX7_findsShares_151 : decode cX7_findsShares 151 = .ok (.iinc 1 1, 3) := by decide +kernel
theorem dX7_findsShares_154 : decode cX7_findsShares 154 = .ok (.goto (-152), 3) := by decide +kernel
theorem dX7_findsShares_157 : decode cX7_findsShares 157 = .ok (.return_, 1) := by decide +kernel
theorem dX7_ahead_0 : decode cX7_ahead 0 = .ok (.aload_n 0, 1) := by decide +kernel
theorem dX7_ahead_1 : decode cX7_ahead 1 = .ok (.getfield 81, 3) := by decide +kernel
theorem dX7_ahead_4 : decode cX7_ahead 4 = .ok (.iconst 3, 1) := by decide +kernel
theorem dX7_ahead_5 : decode cX7_ahead 5 = .ok (.iload_n 1, 1) := by decide +kernel
theorem dX7_ahead_6 : decode cX7_ahead 6 = .ok (.imul, 1) := by decide +kernel
theorem dX7_ahead_7 : decode cX7_ahead 7 = .ok (.iload_n 2, 1) := by decide +kernel
theorem dX7_ahead_8 : decode cX7_ahead 8 = .ok (.iadd, 1) := by decide +kernel
theorem dX7_ahead_9 : decode cX7_ahead 9 = .ok (.iaload, 1) := by decide +kernel
theorem dX7_ahead_10 : decode cX7_ahead 10 = .ok (.bipush 15, 2) := by decide +kernel
theorem dX7_ahead_12 : decode cX7_ahead 12 = .ok (.irem, 1) := by decide +kernel
theorem dX7_ahead_13 : decode cX7_ahead 13 = .ok (.istore_n 3, 1) := by decide +kernel
theorem dX7_ahead_14 : decode cX7_ahead 14 = .ok (.iconst 0, 1) := by decide +kernel
theorem dX7_ahead_15 : decode cX7_ahead 15 = .ok (.istore 4, 2) := by decide +kernel
theorem dX7_ahead_17 : decode cX7_ahead 17 = .ok (.iconst 0, 1) := by decide +kernel
theorem dX7_ahead_18 : decode cX7_ahead 18 = .ok (.istore 5, 2) := by decide +kernel
theorem dX7_ahead_20 : decode cX7_ahead 20 = .ok (.iload 5, 2) := by decide +kernel
theorem dX7_ahead_22 : decode cX7_ahead 22 = .ok (.bipush 7, 2) := by decide +kernel
theorem dX7_ahead_24 : decode cX7_ahead 24 = .ok (.if_icmp .ge 53, 3) := by decide +kernel
theorem dX7_ahead_27 : decode cX7_ahead 27 = .ok (.aload_n 0, 1) := by decide +kernel
theorem dX7_ahead_28 : decode cX7_ahead 28 = .ok (.getfield 81, 3) := by decide +kernel
theorem dX7_ahead_31 : decode cX7_ahead 31 = .ok (.iconst 3, 1) := by decide +kernel
theorem dX7_ahead_32 : decode cX7_ahead 32 = .ok (.iload 5, 2) := by decide +kernel
theorem dX7_ahead_34 : decode cX7_ahead 34 = .ok (.imul, 1) := by decide +kernel
theorem dX7_ahead_35 : decode cX7_ahead 35 = .ok (.iload_n 2, 1) := by decide +kernel
theorem dX7_ahead_36 : decode cX7_ahead 36 = .ok (.iadd, 1) := by decide +kernel
theorem dX7_ahead_37 : decode cX7_ahead 37 = .ok (.iaload, 1) := by decide +kernel
theorem dX7_ahead_38 : decode cX7_ahead 38 = .ok (.bipush 15, 2) := by decide +kernel
theorem dX7_ahead_40 : decode cX7_ahead 40 = .ok (.irem, 1) := by decide +kernel
theorem dX7_ahead_41 : decode cX7_ahead 41 = .ok (.istore 6, 2) := by decide +kernel
theorem dX7_ahead_43 : decode cX7_ahead 43 = .ok (.iload 4, 2) := by decide +kernel
theorem dX7_ahead_45 : decode cX7_ahead 45 = .ok (.iload 6, 2) := by decide +kernel
theorem dX7_ahead_47 : decode cX7_ahead 47 = .ok (.iload_n 3, 1) := by decide +kernel
theorem dX7_ahead_48 : decode cX7_ahead 48 = .ok (.if_icmp .gt 15, 3) := by decide +kernel
theorem dX7_ahead_51 : decode cX7_ahead 51 = .ok (.iload 6, 2) := by decide +kernel
theorem dX7_ahead_53 : decode cX7_ahead 53 = .ok (.iload_n 3, 1) := by decide +kernel
theorem dX7_ahead_54 : decode cX7_ahead 54 = .ok (.if_icmp .ne 13, 3) := by decide +kernel
theorem dX7_ahead_57 : decode cX7_ahead 57 = .ok (.iload 5, 2) := by decide +kernel
theorem dX7_ahead_59 : decode cX7_ahead 59 = .ok (.iload_n 1, 1) := by decide +kernel
theorem dX7_ahead_60 : decode cX7_ahead 60 = .ok (.if_icmp .ge 7, 3) := by decide +kernel
theorem dX7_ahead_63 : decode cX7_ahead 63 = .ok (.iconst 1, 1) := by decide +kernel
theorem dX7_ahead_64 : decode cX7_ahead 64 = .ok (.goto 4, 3) := by decide +kernel
theorem dX7_ahead_67 : decode cX7_ahead 67 = .ok (.iconst 0, 1) := by decide +kernel
theorem dX7_ahead_68 : decode cX7_ahead 68 = .ok (.iadd, 1) := by decide +kernel
theorem dX7_ahead_69 : decode cX7_ahead 69 = .ok (.istore 4, 2) := by decide +kernel
theorem dX7_ahead_71 : decode cX7_ahead 71 = .ok (.iinc 5 1, 3) := by decide +kernel
theorem dX7_ahead_74 : decode cX7_ahead 74 = .ok (.goto (-54), 3) := by decide +kernel
theorem dX7_ahead_77 : decode cX7_ahead 77 = .ok (.iload 4, 2) := by decide +kernel
theorem dX7_ahead_79 : decode cX7_ahead 79 = .ok (.ireturn, 1) := by decide +kernel
theorem dX7_applies_0 : decode cX7_applies 0 = .ok (.iload_n 2, 1) := by decide +kernel
theorem dX7_applies_1 : decode cX7_applies 1 = .ok (.sipush 1440, 3) := by decide +kernel
theorem dX7_applies_4 : decode cX7_applies 4 = .ok (.irem, 1) := by decide +kernel
theorem dX7_applies_5 : decode cX7_applies 5 = .ok (.istore_n 3, 1) := by decide +kernel
theorem dX7_applies_6 : decode cX7_applies 6 = .ok (.aload_n 0, 1) := by decide +kernel
theorem dX7_applies_7 : decode cX7_applies 7 = .ok (.getfield 51, 3) := by decide +kernel
theorem dX7_applies_10 : decode cX7_applies 10 = .ok (.iload_n 1, 1) := by decide +kernel
theorem dX7_applies_11 : decode cX7_applies 11 = .ok (.iaload, 1) := by decide +kernel
theorem dX7_applies_12 : decode cX7_applies 12 = .ok (.istore 4, 2) := by decide +kernel
theorem dX7_applies_14 : decode cX7_applies 14 = .ok (.aload_n 0, 1) := by decide +kernel
theorem dX7_applies_15 : decode cX7_applies 15 = .ok (.getfield 54, 3) := by decide +kernel
theorem dX7_applies_18 : decode cX7_applies 18 = .ok (.iload_n 1, 1) := by decide +kernel
theorem dX7_applies_19 : decode cX7_applies 19 = .ok (.iaload, 1) := by decide +kernel
theorem dX7_applies_20 : decode cX7_applies 20 = .ok (.istore 5, 2) := by decide +kernel
theorem dX7_applies_22 : decode cX7_applies 22 = .ok (.iload 4, 2) := by decide +kernel
theorem dX7_applies_24 : decode cX7_applies 24 = .ok (.iload 5, 2) := by decide +kernel
theorem dX7_applies_26 : decode cX7_applies 26 = .ok (.if_icmp .ge 16, 3) := by decide +kernel
theorem dX7_applies_29 : decode cX7_applies 29 = .ok (.iload_n 3, 1) := by decide +kernel
theorem dX7_applies_30 : decode cX7_applies 30 = .ok (.iload 4, 2) := by decide +kernel
theorem dX7_applies_32 : decode cX7_applies 32 = .ok (.iload 5, 2) := by decide +kernel
theorem dX7_applies_34 : decode cX7_applies 34 = .ok (.iconst 1, 1) := by decide +kernel
theorem dX7_applies_35 : decode cX7_applies 35 = .ok (.isub, 1) := by decide +kernel
theorem dX7_applies_36 : decode cX7_applies 36 = .ok (.invokestatic 97, 3) := by decide +kernel
theorem dX7_applies_39 : decode cX7_applies 39 = .ok (.goto 27, 3) := by decide +kernel
theorem dX7_applies_42 : decode cX7_applies 42 = .ok (.iload 4, 2) := by decide +kernel
theorem dX7_applies_44 : decode cX7_applies 44 = .ok (.iload 5, 2) := by decide +kernel
theorem dX7_applies_46 : decode cX7_applies 46 = .ok (.if_icmp .eq 15, 3) := by decide +kernel
theorem dX7_applies_49 : decode cX7_applies 49 = .ok (.iload_n 3, 1) := by decide +kernel
theorem dX7_applies_50 : decode cX7_applies 50 = .ok (.iload 4, 2) := by decide +kernel
theorem dX7_applies_52 : decode cX7_applies 52 = .ok (.if_icmp .ge 9, 3) := by decide +kernel
theorem dX7_applies_55 : decode cX7_applies 55 = .ok (.iload_n 3, 1) := by decide +kernel
theorem dX7_applies_56 : decode cX7_applies 56 = .ok (.iload 5, 2) := by decide +kernel
theorem dX7_applies_58 : decode cX7_applies 58 = .ok (.if_icmp .ge 7, 3) := by decide +kernel
theorem dX7_applies_61 : decode cX7_applies 61 = .ok (.iconst 1, 1) := by decide +kernel
theorem dX7_applies_62 : decode cX7_applies 62 = .ok (.goto 4, 3) := by decide +kernel
theorem dX7_applies_65 : decode cX7_applies 65 = .ok (.iconst 0, 1) := by decide +kernel
theorem dX7_applies_66 : decode cX7_applies 66 = .ok (.istore 6, 2) := by decide +kernel
theorem dX7_applies_68 : decode cX7_applies 68 = .ok (.aload_n 0, 1) := by decide +kernel
theorem dX7_applies_69 : decode cX7_applies 69 = .ok (.getfield 48, 3) := by decide +kernel
theorem dX7_applies_72 : decode cX7_applies 72 = .ok (.iload_n 1, 1) := by decide +kernel
theorem dX7_applies_73 : decode cX7_applies 73 = .ok (.iaload, 1) := by decide +kernel
theorem dX7_applies_74 : decode cX7_applies 74 = .ok (.iload_n 2, 1) := by decide +kernel
theorem dX7_applies_75 : decode cX7_applies 75 = .ok (.sipush 1440, 3) := by decide +kernel
theorem dX7_applies_78 : decode cX7_applies 78 = .ok (.idiv, 1) := by decide +kernel
theorem dX7_applies_79 : decode cX7_applies 79 = .ok (.ishr, 1) := by decide +kernel
theorem dX7_applies_80 : decode cX7_applies 80 = .ok (.iconst 2, 1) := by decide +kernel
theorem dX7_applies_81 : decode cX7_applies 81 = .ok (.irem, 1) := by decide +kernel
theorem dX7_applies_82 : decode cX7_applies 82 = .ok (.iconst 1, 1) := by decide +kernel
theorem dX7_applies_83 : decode cX7_applies 83 = .ok (.if_icmp .ne 12, 3) := by decide +kernel
theorem dX7_applies_86 : decode cX7_applies 86 = .ok (.iload 6, 2) := by decide +kernel
theorem dX7_applies_88 : decode cX7_applies 88 = .ok (.ifCond .eq 7, 3) := by decide +kernel
theorem dX7_applies_91 : decode cX7_applies 91 = .ok (.iconst 1, 1) := by decide +kernel
theorem dX7_applies_92 : decode cX7_applies 92 = .ok (.goto 4, 3) := by decide +kernel
theorem dX7_applies_95 : decode cX7_applies 95 = .ok (.iconst 0, 1) := by decide +kernel
theorem dX7_applies_96 : decode cX7_applies 96 = .ok (.ireturn, 1) := by decide +kernel
theorem dX7_extra_0 : decode cX7_extra 0 = .ok (.iconst 0, 1) := by decide +kernel
theorem dX7_extra_1 : decode cX7_extra 1 = .ok (.istore_n 1, 1) := by decide +kernel
theorem dX7_extra_2 : decode cX7_extra 2 = .ok (.iconst 0, 1) := by decide +kernel
theorem dX7_extra_3 : decode cX7_extra 3 = .ok (.istore_n 2, 1) := by decide +kernel
theorem dX7_extra_4 : decode cX7_extra 4 = .ok (.iload_n 2, 1) := by decide +kernel
theorem dX7_extra_5 : decode cX7_extra 5 = .ok (.sipush 10080, 3) := by decide +kernel
theorem dX7_extra_8 : decode cX7_extra 8 = .ok (.if_icmp .ge 76, 3) := by decide +kernel
theorem dX7_extra_11 : decode cX7_extra 11 = .ok (.iconst 0, 1) := by decide +kernel
theorem dX7_extra_12 : decode cX7_extra 12 = .ok (.istore_n 3, 1) := by decide +kernel
theorem dX7_extra_13 : decode cX7_extra 13 = .ok (.iconst 0, 1) := by decide +kernel
theorem dX7_extra_14 : decode cX7_extra 14 = .ok (.istore 4, 2) := by decide +kernel
theorem dX7_extra_16 : decode cX7_extra 16 = .ok (.iload 4, 2) := by decide +kernel
theorem dX7_extra_18 : decode cX7_extra 18 = .ok (.aload_n 0, 1) := by decide +kernel
theorem dX7_extra_19 : decode cX7_extra 19 = .ok (.getfield 122, 3) := by decide +kernel
theorem dX7_extra_22 : decode cX7_extra 22 = .ok (.if_icmp .ge 52, 3) := by decide +kernel
theorem dX7_extra_25 : decode cX7_extra 25 = .ok (.aload_n 0, 1) := by decide +kernel
theorem dX7_extra_26 : decode cX7_extra 26 = .ok (.getfield 72, 3) := by decide +kernel
theorem dX7_extra_29 : decode cX7_extra 29 = .ok (.iload_n 2, 1) := by decide +kernel
theorem dX7_extra_30 : decode cX7_extra 30 = .ok (.iaload, 1) := by decide +kernel
theorem dX7_extra_31 : decode cX7_extra 31 = .ok (.iconst (-1), 1) := by decide +kernel
theorem dX7_extra_32 : decode cX7_extra 32 = .ok (.if_icmp .eq 42, 3) := by decide +kernel
theorem dX7_extra_35 : decode cX7_extra 35 = .ok (.aload_n 0, 1) := by decide +kernel
theorem dX7_extra_36 : decode cX7_extra 36 = .ok (.getfield 57, 3) := by decide +kernel
theorem dX7_extra_39 : decode cX7_extra 39 = .ok (.iload 4, 2) := by decide +kernel
theorem dX7_extra_41 : decode cX7_extra 41 = .ok (.iaload, 1) := by decide +kernel
theorem dX7_extra_42 : decode cX7_extra 42 = .ok (.iload_n 3, 1) := by decide +kernel
theorem dX7_extra_43 : decode cX7_extra 43 = .ok (.if_icmp .le 23, 3) := by decide +kernel
theorem dX7_extra_46 : decode cX7_extra 46 = .ok (.aload_n 0, 1) := by decide +kernel
theorem dX7_extra_47 : decode cX7_extra 47 = .ok (.iload 4, 2) := by decide +kernel
theorem dX7_extra_49 : decode cX7_extra 49 = .ok (.iload_n 2, 1) := by decide +kernel
theorem dX7_extra_50 : decode cX7_extra 50 = .ok (.invokevirtual 164, 3) := by decide +kernel
theorem dX7_extra_53 : decode cX7_extra 53 = .ok (.ifCond .eq 13, 3) := by decide +kernel
theorem dX7_extra_56 : decode cX7_extra 56 = .ok (.aload_n 0, 1) := by decide +kernel
theorem dX7_extra_57 : decode cX7_extra 57 = .ok (.getfield 57, 3) := by decide +kernel
theorem dX7_extra_60 : decode cX7_extra 60 = .ok (.iload 4, 2) := by decide +kernel
theorem dX7_extra_62 : decode cX7_extra 62 = .ok (.iaload, 1) := by decide +kernel
theorem dX7_extra_63 : decode cX7_extra 63 = .ok (.goto 4, 3) := by decide +kernel
theorem dX7_extra_66 : decode cX7_extra 66 = .ok (.iload_n 3, 1) := by decide +kernel
theorem dX7_extra_67 : decode cX7_extra 67 = .ok (.istore_n 3, 1) := by decide +kernel
theorem dX7_extra_68 : decode cX7_extra 68 = .ok (.iinc 4 1, 3) := by decide +kernel
theorem dX7_extra_71 : decode cX7_extra 71 = .ok (.goto (-55), 3) := by decide +kernel
theorem dX7_extra_74 : decode cX7_extra 74 = .ok (.iload_n 1, 1) := by decide +kernel
theorem dX7_extra_75 : decode cX7_extra 75 = .ok (.iload_n 3, 1) := by decide +kernel
theorem dX7_extra_76 : decode cX7_extra 76 = .ok (.iadd, 1) := by decide +kernel
theorem dX7_extra_77 : decode cX7_extra 77 = .ok (.istore_n 1, 1) := by decide +kernel
theorem dX7_extra_78 : decode cX7_extra 78 = .ok (.iinc 2 1, 3) := by decide +kernel
theorem dX7_extra_81 : decode cX7_extra 81 = .ok (.goto (-77), 3) := by decide +kernel
theorem dX7_extra_84 : decode cX7_extra 84 = .ok (.iload_n 1, 1) := by decide +kernel
theorem dX7_extra_85 : decode cX7_extra 85 = .ok (.bipush 30, 2) := by decide +kernel
theorem dX7_extra_87 : decode cX7_extra 87 = .ok (.iadd, 1) := by decide +kernel
theorem dX7_extra_88 : decode cX7_extra 88 = .ok (.bipush 60, 2) := by decide +kernel
theorem dX7_extra_90 : decode cX7_extra 90 = .ok (.idiv, 1) := by decide +kernel
theorem dX7_extra_91 : decode cX7_extra 91 = .ok (.ireturn, 1) := by decide +kernel
theorem dX7_payOf_0 : decode cX7_payOf 0 = .ok (.aload_n 0, 1) := by decide +kernel
theorem dX7_payOf_1 : decode cX7_payOf 1 = .ok (.iload_n 1, 1) := by decide +kernel
theorem dX7_payOf_2 : decode cX7_payOf 2 = .ok (.invokevirtual 167, 3) := by decide +kernel
theorem dX7_payOf_5 : decode cX7_payOf 5 = .ok (.aload_n 0, 1) := by decide +kernel
theorem dX7_payOf_6 : decode cX7_payOf 6 = .ok (.getfield 7, 3) := by decide +kernel
theorem dX7_payOf_9 : decode cX7_payOf 9 = .ok (.iload_n 1, 1) := by decide +kernel
theorem dX7_payOf_10 : decode cX7_payOf 10 = .ok (.iaload, 1) := by decide +kernel
theorem dX7_payOf_11 : decode cX7_payOf 11 = .ok (.iconst 2, 1) := by decide +kernel
theorem dX7_payOf_12 : decode cX7_payOf 12 = .ok (.aload_n 0, 1) := by decide +kernel
theorem dX7_payOf_13 : decode cX7_payOf 13 = .ok (.getfield 87, 3) := by decide +kernel
theorem dX7_payOf_16 : decode cX7_payOf 16 = .ok (.iconst 0, 1) := by decide +kernel
theorem dX7_payOf_17 : decode cX7_payOf 17 = .ok (.iaload, 1) := by decide +kernel
theorem dX7_payOf_18 : decode cX7_payOf 18 = .ok (.imul, 1) := by decide +kernel
theorem dX7_payOf_19 : decode cX7_payOf 19 = .ok (.iconst 3, 1) := by decide +kernel
theorem dX7_payOf_20 : decode cX7_payOf 20 = .ok (.aload_n 0, 1) := by decide +kernel
theorem dX7_payOf_21 : decode cX7_payOf 21 = .ok (.getfield 87, 3) := by decide +kernel
theorem dX7_payOf_24 : decode cX7_payOf 24 = .ok (.iconst 1, 1) := by decide +kernel
theorem dX7_payOf_25 : decode cX7_payOf 25 = .ok (.iaload, 1) := by decide +kernel
theorem dX7_payOf_26 : decode cX7_payOf 26 = .ok (.imul, 1) := by decide +kernel
theorem dX7_payOf_27 : decode cX7_payOf 27 = .ok (.iadd, 1) := by decide +kernel
theorem dX7_payOf_28 : decode cX7_payOf 28 = .ok (.iconst 4, 1) := by decide +kernel
theorem dX7_payOf_29 : decode cX7_payOf 29 = .ok (.aload_n 0, 1) := by decide +kernel
theorem dX7_payOf_30 : decode cX7_payOf 30 = .ok (.getfield 87, 3) := by decide +kernel
theorem dX7_payOf_33 : decode cX7_payOf 33 = .ok (.iconst 2, 1) := by decide +kernel
theorem dX7_payOf_34 : decode cX7_payOf 34 = .ok (.iaload, 1) := by decide +kernel
theorem dX7_payOf_35 : decode cX7_payOf 35 = .ok (.imul, 1) := by decide +kernel
theorem dX7_payOf_36 : decode cX7_payOf 36 = .ok (.iadd, 1) := by decide +kernel
theorem dX7_payOf_37 : decode cX7_payOf 37 = .ok (.imul, 1) := by decide +kernel
theorem dX7_payOf_38 : decode cX7_payOf 38 = .ok (.istore_n 2, 1) := by decide +kernel
theorem dX7_payOf_39 : decode cX7_payOf 39 = .ok (.iload_n 2, 1) := by decide +kernel
theorem dX7_payOf_40 : decode cX7_payOf 40 = .ok (.iconst 4, 1) := by decide +kernel
theorem dX7_payOf_41 : decode cX7_payOf 41 = .ok (.iadd, 1) := by decide +kernel
theorem dX7_payOf_42 : decode cX7_payOf 42 = .ok (.bipush 8, 2) := by decide +kernel
theorem dX7_payOf_44 : decode cX7_payOf 44 = .ok (.idiv, 1) := by decide +kernel
theorem dX7_payOf_45 : decode cX7_payOf 45 = .ok (.aload_n 0, 1) := by decide +kernel
theorem dX7_payOf_46 : decode cX7_payOf 46 = .ok (.invokevirtual 170, 3) := by decide +kernel
theorem dX7_payOf_49 : decode cX7_payOf 49 = .ok (.iadd, 1) := by decide +kernel
theorem dX7_payOf_50 : decode cX7_payOf 50 = .ok (.ireturn, 1) := by decide +kernel
theorem dX7_closeWeek_0 : decode cX7_closeWeek 0 = .ok (.aload_n 0, 1) := by decide +kernel
theorem dX7_closeWeek_1 : decode cX7_closeWeek 1 = .ok (.aload_n 0, 1) := by decide +kernel
theorem dX7_closeWeek_2 : decode cX7_closeWeek 2 = .ok (.iload_n 1, 1) := by decide +kernel
theorem dX7_closeWeek_3 : decode cX7_closeWeek 3 = .ok (.invokevirtual 102, 3) := by decide +kernel
theorem dX7_closeWeek_6 : decode cX7_closeWeek 6 = .ok (.ifCond .ne 7, 3) := by decide +kernel
theorem dX7_closeWeek_9 : decode cX7_closeWeek 9 = .ok (.iconst 1, 1) := by decide +kernel
theorem dX7_closeWeek_10 : decode cX7_closeWeek 10 = .ok (.goto 26, 3) := by decide +kernel
theorem dX7_closeWeek_13 : decode cX7_closeWeek 13 = .ok (.aload_n 0, 1) := by decide +kernel
theorem dX7_closeWeek_14 : decode cX7_closeWeek 14 = .ok (.getfield 20, 3) := by decide +kernel
theorem dX7_closeWeek_17 : decode cX7_closeWeek 17 = .ok (.iload_n 1, 1) := by decide +kernel
theorem dX7_closeWeek_18 : decode cX7_closeWeek 18 = .ok (.iaload, 1) := by decide +kernel
theorem dX7_closeWeek_19 : decode cX7_closeWeek 19 = .ok (.ifCond .ne 16, 3) := by decide +kernel
theorem dX7_closeWeek_22 : decode cX7_closeWeek 22 = .ok (.aload_n 0, 1) := by decide +kernel
theorem dX7_closeWeek_23 : decode cX7_closeWeek 23 = .ok (.getfield 30, 3) := by decide +kernel
theorem dX7_closeWeek_26 : decode cX7_closeWeek 26 = .ok (.iload_n 1, 1) := by decide +kernel
theorem dX7_closeWeek_27 : decode cX7_closeWeek 27 = .ok (.iaload, 1) := by decide +kernel
theorem dX7_closeWeek_28 : decode cX7_closeWeek 28 = .ok (.ifCond .ne 7, 3) := by decide +kernel
theorem dX7_closeWeek_31 : decode cX7_closeWeek 31 = .ok (.iconst 2, 1) := by decide +kernel
theorem dX7_closeWeek_32 : decode cX7_closeWeek 32 = .ok (.goto 4, 3) := by decide +kernel
theorem dX7_closeWeek_35 : decode cX7_closeWeek 35 = .ok (.iconst 0, 1) := by decide +kernel
theorem dX7_closeWeek_36 : decode cX7_closeWeek 36 = .ok (.putfield 90, 3) := by decide +kernel
theorem dX7_closeWeek_39 : decode cX7_closeWeek 39 = .ok (.aload_n 0, 1) := by decide +kernel
theorem dX7_closeWeek_40 : decode cX7_closeWeek 40 = .ok (.getfield 90, 3) := by decide +kernel
theorem dX7_closeWeek_43 : decode cX7_closeWeek 43 = .ok (.ifCond .le 5, 3) := by decide +kernel
theorem dX7_closeWeek_46 : decode cX7_closeWeek 46 = .ok (.iconst 0, 1) := by decide +kernel
theorem dX7_closeWeek_47 : decode cX7_closeWeek 47 = .ok (.ireturn, 1) := by decide +kernel
theorem dX7_closeWeek_48 : decode cX7_closeWeek 48 = .ok (.aload_n 0, 1) := by decide +kernel
theorem dX7_closeWeek_49 : decode cX7_closeWeek 49 = .ok (.iload_n 1, 1) := by decide +kernel
theorem dX7_closeWeek_50 : decode cX7_closeWeek 50 = .ok (.invokevirtual 174, 3) := by decide +kernel
theorem dX7_closeWeek_53 : decode cX7_closeWeek 53 = .ok (.istore_n 2, 1) := by decide +kernel
theorem dX7_closeWeek_54 : decode cX7_closeWeek 54 = .ok (.aload_n 0, 1) := by decide +kernel
theorem dX7_closeWeek_55 : decode cX7_closeWeek 55 = .ok (.getfield 16, 3) := by decide +kernel
theorem dX7_closeWeek_58 : decode cX7_closeWeek 58 = .ok (.iload_n 1, 1) := by decide +kernel
theorem dX7_closeWeek_59 : decode cX7_closeWeek 59 = .ok (.dup2, 1) := by decide +kernel
theorem dX7_closeWeek_60 : decode cX7_closeWeek 60 = .ok (.laload, 1) := by decide +kernel
theorem dX7_closeWeek_61 : decode cX7_closeWeek 61 = .ok (.iload_n 2, 1) := by decide +kernel
theorem dX7_closeWeek_62 : decode cX7_closeWeek 62 = .ok (.i2l, 1) := by decide +kernel
theorem dX7_closeWeek_63 : decode cX7_closeWeek 63 = .ok (.ladd, 1) := by decide +kernel
theorem dX7_closeWeek_64 : decode cX7_closeWeek 64 = .ok (.lastore, 1) := by decide +kernel
theorem dX7_closeWeek_65 : decode cX7_closeWeek 65 = .ok (.aload_n 0, 1) := by decide +kernel
theorem dX7_closeWeek_66 : decode cX7_closeWeek 66 = .ok (.getfield 13, 3) := by decide +kernel
theorem dX7_closeWeek_69 : decode cX7_closeWeek 69 = .ok (.iload_n 1, 1) := by decide +kernel
theorem dX7_closeWeek_70 : decode cX7_closeWeek 70 = .ok (.dup2, 1) := by decide +kernel
theorem dX7_closeWeek_71 : decode cX7_closeWeek 71 = .ok (.iaload, 1) := by decide +kernel
theorem dX7_closeWeek_72 : decode cX7_closeWeek 72 = .ok (.iconst 1, 1) := by decide +kernel
theorem dX7_closeWeek_73 : decode cX7_closeWeek 73 = .ok (.iadd, 1) := by decide +kernel
theorem dX7_closeWeek_74 : decode cX7_closeWeek 74 = .ok (.iastore, 1) := by decide +kernel
theorem dX7_closeWeek_75 : decode cX7_closeWeek 75 = .ok (.aload_n 0, 1) := by decide +kernel
theorem dX7_closeWeek_76 : decode cX7_closeWeek 76 = .ok (.getfield 20, 3) := by decide +kernel
theorem dX7_closeWeek_79 : decode cX7_closeWeek 79 = .ok (.iload_n 1, 1) := by decide +kernel
theorem dX7_closeWeek_80 : decode cX7_closeWeek 80 = .ok (.iconst 0, 1) := by decide +kernel
theorem dX7_closeWeek_81 : decode cX7_closeWeek 81 = .ok (.iastore, 1) := by decide +kernel
theorem dX7_closeWeek_82 : decode cX7_closeWeek 82 = .ok (.aload_n 0, 1) := by decide +kernel
theorem dX7_closeWeek_83 : decode cX7_closeWeek 83 = .ok (.getfield 30, 3) := by decide +kernel
theorem dX7_closeWeek_86 : decode cX7_closeWeek 86 = .ok (.iload_n 1, 1) := by decide +kernel
theorem dX7_closeWeek_87 : decode cX7_closeWeek 87 = .ok (.iconst 0, 1) := by decide +kernel
theorem dX7_closeWeek_88 : decode cX7_closeWeek 88 = .ok (.iastore, 1) := by decide +kernel
theorem dX7_closeWeek_89 : decode cX7_closeWeek 89 = .ok (.aload_n 0, 1) := by decide +kernel
theorem dX7_closeWeek_90 : decode cX7_closeWeek 90 = .ok (.getfield 39, 3) := by decide +kernel
theorem dX7_closeWeek_93 : decode cX7_closeWeek 93 = .ok (.iload_n 1, 1) := by decide +kernel
theorem dX7_closeWeek_94 : decode cX7_closeWeek 94 = .ok (.iconst 0, 1) := by decide +kernel
theorem dX7_closeWeek_95 : decode cX7_closeWeek 95 = .ok (.iastore, 1) := by decide +kernel
theorem dX7_closeWeek_96 : decode cX7_closeWeek 96 = .ok (.iload_n 2, 1) := by decide +kernel
theorem dX7_closeWeek_97 : decode cX7_closeWeek 97 = .ok (.ireturn, 1) := by decide +kernel
theorem dX7_employees_0 : decode cX7_employees 0 = .ok (.aload_n 0, 1) := by decide +kernel
theorem dX7_employees_1 : decode cX7_employees 1 = .ok (.iconst 0, 1) := by decide +kernel
theorem dX7_employees_2 : decode cX7_employees 2 = .ok (.putfield 90, 3) := by decide +kernel
theorem dX7_employees_5 : decode cX7_employees 5 = .ok (.aload_n 0, 1) := by decide +kernel
theorem dX7_employees_6 : decode cX7_employees 6 = .ok (.getfield 94, 3) := by decide +kernel
theorem dX7_employees_9 : decode cX7_employees 9 = .ok (.ireturn, 1) := by decide +kernel
theorem dX7_closedWeeks_0 : decode cX7_closedWeeks 0 = .ok (.aload_n 0, 1) := by decide +kernel
theorem dX7_closedWeeks_1 : decode cX7_closedWeeks 1 = .ok (.iconst 0, 1) := by decide +kernel
theorem dX7_closedWeeks_2 : decode cX7_closedWeeks 2 = .ok (.putfield 90, 3) := by decide +kernel
theorem dX7_closedWeeks_5 : decode cX7_closedWeeks 5 = .ok (.aload_n 0, 1) := by decide +kernel
theorem dX7_closedWeeks_6 : decode cX7_closedWeeks 6 = .ok (.iload_n 1, 1) := by decide +kernel
theorem dX7_closedWeeks_7 : decode cX7_closedWeeks 7 = .ok (.invokevirtual 102, 3) := by decide +kernel
theorem dX7_closedWeeks_10 : decode cX7_closedWeeks 10 = .ok (.ifCond .eq 12, 3) := by decide +kernel
theorem dX7_closedWeeks_13 : decode cX7_closedWeeks 13 = .ok (.aload_n 0, 1) := by decide +kernel
theorem dX7_closedWeeks_14 : decode cX7_closedWeeks 14 = .ok (.getfield 13, 3) := by decide +kernel
theorem dX7_closedWeeks_17 : decode cX7_closedWeeks 17 = .ok (.iload_n 1, 1) := by decide +kernel
theorem dX7_closedWeeks_18 : decode cX7_closedWeeks 18 = .ok (.iaload, 1) := by decide +kernel
theorem dX7_closedWeeks_19 : decode cX7_closedWeeks 19 = .ok (.goto 8, 3) := by decide +kernel
theorem dX7_closedWeeks_22 : decode cX7_closedWeeks 22 = .ok (.aload_n 0, 1) := by decide +kernel
theorem dX7_closedWeeks_23 : decode cX7_closedWeeks 23 = .ok (.iconst 1, 1) := by decide +kernel
theorem dX7_closedWeeks_24 : decode cX7_closedWeeks 24 = .ok (.invokevirtual 178, 3) := by decide +kernel
theorem dX7_closedWeeks_27 : decode cX7_closedWeeks 27 = .ok (.ireturn, 1) := by decide +kernel
theorem dX7_earned_0 : decode cX7_earned 0 = .ok (.aload_n 0, 1) := by decide +kernel
theorem dX7_earned_1 : decode cX7_earned 1 = .ok (.aload_n 0, 1) := by decide +kernel
theorem dX7_earned_2 : decode cX7_earned 2 = .ok (.iload_n 1, 1) := by decide +kernel
theorem dX7_earned_3 : decode cX7_earned 3 = .ok (.invokevirtual 102, 3) := by decide +kernel
theorem dX7_earned_6 : decode cX7_earned 6 = .ok (.ifCond .eq 7, 3) := by decide +kernel
theorem dX7_earned_9 : decode cX7_earned 9 = .ok (.iconst 0, 1) := by decide +kernel
theorem dX7_earned_10 : decode cX7_earned 10 = .ok (.goto 4, 3) := by decide +kernel
theorem dX7_earned_13 : decode cX7_earned 13 = .ok (.iconst 1, 1) := by decide +kernel
theorem dX7_earned_14 : decode cX7_earned 14 = .ok (.putfield 90, 3) := by decide +kernel
theorem dX7_earned_17 : decode cX7_earned 17 = .ok (.aload_n 0, 1) := by decide +kernel
theorem dX7_earned_18 : decode cX7_earned 18 = .ok (.getfield 90, 3) := by decide +kernel
theorem dX7_earned_21 : decode cX7_earned 21 = .ok (.ifCond .le 7, 3) := by decide +kernel
theorem dX7_earned_24 : decode cX7_earned 24 = .ok (.lconst 0, 1) := by decide +kernel
theorem dX7_earned_25 : decode cX7_earned 25 = .ok (.goto 9, 3) := by decide +kernel
theorem dX7_earned_28 : decode cX7_earned 28 = .ok (.aload_n 0, 1) := by decide +kernel
theorem dX7_earned_29 : decode cX7_earned 29 = .ok (.getfield 16, 3) := by decide +kernel
theorem dX7_earned_32 : decode cX7_earned 32 = .ok (.iload_n 1, 1) := by decide +kernel
theorem dX7_earned_33 : decode cX7_earned 33 = .ok (.laload, 1) := by decide +kernel
theorem dX7_earned_34 : decode cX7_earned 34 = .ok (.lreturn, 1) := by decide +kernel
theorem dX7_looks_0 : decode cX7_looks 0 = .ok (.aload_n 0, 1) := by decide +kernel
theorem dX7_looks_1 : decode cX7_looks 1 = .ok (.aload_n 0, 1) := by decide +kernel
theorem dX7_looks_2 : decode cX7_looks 2 = .ok (.iload_n 1, 1) := by decide +kernel
theorem dX7_looks_3 : decode cX7_looks 3 = .ok (.invokevirtual 102, 3) := by decide +kernel
theorem dX7_looks_6 : decode cX7_looks 6 = .ok (.ifCond .eq 7, 3) := by decide +kernel
theorem dX7_looks_9 : decode cX7_looks 9 = .ok (.iconst 0, 1) := by decide +kernel
theorem dX7_looks_10 : decode cX7_looks 10 = .ok (.goto 4, 3) := by decide +kernel
theorem dX7_looks_13 : decode cX7_looks 13 = .ok (.iconst 1, 1) := by decide +kernel
theorem dX7_looks_14 : decode cX7_looks 14 = .ok (.putfield 90, 3) := by decide +kernel
theorem dX7_looks_17 : decode cX7_looks 17 = .ok (.aload_n 0, 1) := by decide +kernel
theorem dX7_looks_18 : decode cX7_looks 18 = .ok (.getfield 90, 3) := by decide +kernel
theorem dX7_looks_21 : decode cX7_looks 21 = .ok (.ifCond .ne 8, 3) := by decide +kernel
theorem dX7_looks_24 : decode cX7_looks 24 = .ok (.aload_n 0, 1) := by decide +kernel
theorem dX7_looks_25 : decode cX7_looks 25 = .ok (.iload_n 1, 1) := by decide +kernel
theorem dX7_looks_26 : decode cX7_looks 26 = .ok (.invokevirtual 167, 3) := by decide +kernel
theorem dX7_looks_29 : decode cX7_looks 29 = .ok (.aload_n 0, 1) := by decide +kernel
theorem dX7_looks_30 : decode cX7_looks 30 = .ok (.getfield 90, 3) := by decide +kernel
theorem dX7_looks_33 : decode cX7_looks 33 = .ok (.ifCond .ne 7, 3) := by decide +kernel
theorem dX7_looks_36 : decode cX7_looks 36 = .ok (.iconst 1, 1) := by decide +kernel
theorem dX7_looks_37 : decode cX7_looks 37 = .ok (.goto 4, 3) := by decide +kernel
theorem dX7_looks_40 : decode cX7_looks 40 = .ok (.iconst 0, 1) := by decide +kernel
theorem dX7_looks_41 : decode cX7_looks 41 = .ok (.ireturn, 1) := by decide +kernel
theorem dX7_shifts_0 : decode cX7_shifts 0 = .ok (.aload_n 0, 1) := by decide +kernel
theorem dX7_shifts_1 : decode cX7_shifts 1 = .ok (.iload_n 1, 1) := by decide +kernel
theorem dX7_shifts_2 : decode cX7_shifts 2 = .ok (.invokevirtual 181, 3) := by decide +kernel
theorem dX7_shifts_5 : decode cX7_shifts 5 = .ok (.ifCond .eq 10, 3) := by decide +kernel
theorem dX7_shifts_8 : decode cX7_shifts 8 = .ok (.aload_n 0, 1) := by decide +kernel
theorem dX7_shifts_9 : decode cX7_shifts 9 = .ok (.getfield 125, 3) := by decide +kernel
theorem dX7_shifts_12 : decode cX7_shifts 12 = .ok (.goto 4, 3) := by decide +kernel
theorem dX7_shifts_15 : decode cX7_shifts 15 = .ok (.iconst 0, 1) := by decide +kernel
theorem dX7_shifts_16 : decode cX7_shifts 16 = .ok (.ireturn, 1) := by decide +kernel
theorem dX7_shiftBegin_0 : decode cX7_shiftBegin 0 = .ok (.aload_n 0, 1) := by decide +kernel
theorem dX7_shiftBegin_1 : decode cX7_shiftBegin 1 = .ok (.iload_n 1, 1) := by decide +kernel
theorem dX7_shiftBegin_2 : decode cX7_shiftBegin 2 = .ok (.invokevirtual 181, 3) := by decide +kernel
theorem dX7_shiftBegin_5 : decode cX7_shiftBegin 5 = .ok (.ifCond .eq 21, 3) := by decide +kernel
theorem dX7_shiftBegin_8 : decode cX7_shiftBegin 8 = .ok (.iload_n 2, 1) := by decide +kernel
theorem dX7_shiftBegin_9 : decode cX7_shiftBegin 9 = .ok (.iconst 0, 1) := by decide +kernel
theorem dX7_shiftBegin_10 : decode cX7_shiftBegin 10 = .ok (.aload_n 0, 1) := by decide +kernel
theorem dX7_shiftBegin_11 : decode cX7_shiftBegin 11 = .ok (.getfield 125, 3) := by decide +kernel
theorem dX7_shiftBegin_14 : decode cX7_shiftBegin 14 = .ok (.iconst 1, 1) := by decide +kernel
theorem dX7_shiftBegin_15 : decode cX7_shiftBegin 15 = .ok (.isub, 1) := by decide +kernel
theorem dX7_shiftBegin_16 : decode cX7_shiftBegin 16 = .ok (.invokestatic 97, 3) := by decide +kernel
theorem dX7_shiftBegin_19 : decode cX7_shiftBegin 19 = .ok (.ifCond .eq 7, 3) := by decide +kernel
theorem dX7_shiftBegin_22 : decode cX7_shiftBegin 22 = .ok (.iconst 1, 1) := by decide +kernel
theorem dX7_shiftBegin_23 : decode cX7_shiftBegin 23 = .ok (.goto 4, 3) := by decide +kernel
theorem dX7_shiftBegin_26 : decode cX7_shiftBegin 26 = .ok (.iconst 0, 1) := by decide +kernel
theorem dX7_shiftBegin_27 : decode cX7_shiftBegin 27 = .ok (.istore_n 3, 1) := by decide +kernel
theorem dX7_shiftBegin_28 : decode cX7_shiftBegin 28 = .ok (.iload_n 3, 1) := by decide +kernel
theorem dX7_shiftBegin_29 : decode cX7_shiftBegin 29 = .ok (.ifCond .eq 12, 3) := by decide +kernel
theorem dX7_shiftBegin_32 : decode cX7_shiftBegin 32 = .ok (.aload_n 0, 1) := by decide +kernel
theorem dX7_shiftBegin_33 : decode cX7_shiftBegin 33 = .ok (.getfield 60, 3) := by decide +kernel
theorem dX7_shiftBegin_36 : decode cX7_shiftBegin 36 = .ok (.iload_n 2, 1) := by decide +kernel
theorem dX7_shiftBegin_37 : decode cX7_shiftBegin 37 = .ok (.iaload, 1) := by decide +kernel
theorem dX7_shiftBegin_38 : decode cX7_shiftBegin 38 = .ok (.goto 8, 3) := by decide +kernel
theorem dX7_shiftBegin_41 : decode cX7_shiftBegin 41 = .ok (.aload_n 0, 1) := by decide +kernel
theorem dX7_shiftBegin_42 : decode cX7_shiftBegin 42 = .ok (.iconst 1, 1) := by decide +kernel
theorem dX7_shiftBegin_43 : decode cX7_shiftBegin 43 = .ok (.invokevirtual 178, 3) := by decide +kernel
theorem dX7_shiftBegin_46 : decode cX7_shiftBegin 46 = .ok (.ireturn, 1) := by decide +kernel
theorem dX7_shiftEnd_0 : decode cX7_shiftEnd 0 = .ok (.aload_n 0, 1) := by decide +kernel
theorem dX7_shiftEnd_1 : decode cX7_shiftEnd 1 = .ok (.iload_n 1, 1) := by decide +kernel
theorem dX7_shiftEnd_2 : decode cX7_shiftEnd 2 = .ok (.invokevirtual 181, 3) := by decide +kernel
theorem dX7_shiftEnd_5 : decode cX7_shiftEnd 5 = .ok (.ifCond .eq 21, 3) := by decide +kernel
theorem dX7_shiftEnd_8 : decode cX7_shiftEnd 8 = .ok (.iload_n 2, 1) := by decide +kernel
theorem dX7_shiftEnd_9 : decode cX7_shiftEnd 9 = .ok (.iconst 0, 1) := by decide +kernel
theorem dX7_shiftEnd_10 : decode cX7_shiftEnd 10 = .ok (.aload_n 0, 1) := by decide +kernel
theorem dX7_shiftEnd_11 : decode cX7_shiftEnd 11 = .ok (.getfield 125, 3) := by decide +kernel
theorem dX7_shiftEnd_14 : decode cX7_shiftEnd 14 = .ok (.iconst 1, 1) := by decide +kernel
theorem dX7_shiftEnd_15 : decode cX7_shiftEnd 15 = .ok (.isub, 1) := by decide +kernel
theorem dX7_shiftEnd_16 : decode cX7_shiftEnd 16 = .ok (.invokestatic 97, 3) := by decide +kernel
theorem dX7_shiftEnd_19 : decode cX7_shiftEnd 19 = .ok (.ifCond .eq 7, 3) := by decide +kernel
theorem dX7_shiftEnd_22 : decode cX7_shiftEnd 22 = .ok (.iconst 1, 1) := by decide +kernel
theorem dX7_shiftEnd_23 : decode cX7_shiftEnd 23 = .ok (.goto 4, 3) := by decide +kernel
theorem dX7_shiftEnd_26 : decode cX7_shiftEnd 26 = .ok (.iconst 0, 1) := by decide +kernel
theorem dX7_shiftEnd_27 : decode cX7_shiftEnd 27 = .ok (.istore_n 3, 1) := by decide +kernel
theorem dX7_shiftEnd_28 : decode cX7_shiftEnd 28 = .ok (.iload_n 3, 1) := by decide +kernel
theorem dX7_shiftEnd_29 : decode cX7_shiftEnd 29 = .ok (.ifCond .eq 12, 3) := by decide +kernel
theorem dX7_shiftEnd_32 : decode cX7_shiftEnd 32 = .ok (.aload_n 0, 1) := by decide +kernel
theorem dX7_shiftEnd_33 : decode cX7_shiftEnd 33 = .ok (.getfield 63, 3) := by decide +kernel
theorem dX7_shiftEnd_36 : decode cX7_shiftEnd 36 = .ok (.iload_n 2, 1) := by decide +kernel
theorem dX7_shiftEnd_37 : decode cX7_shiftEnd 37 = .ok (.iaload, 1) := by decide +kernel
theorem dX7_shiftEnd_38 : decode cX7_shiftEnd 38 = .ok (.goto 8, 3) := by decide +kernel
theorem dX7_shiftEnd_41 : decode cX7_shiftEnd 41 = .ok (.aload_n 0, 1) := by decide +kernel
theorem dX7_shiftEnd_42 : decode cX7_shiftEnd 42 = .ok (.iconst 1, 1) := by decide +kernel
theorem dX7_shiftEnd_43 : decode cX7_shiftEnd 43 = .ok (.invokevirtual 178, 3) := by decide +kernel
theorem dX7_shiftEnd_46 : decode cX7_shiftEnd 46 = .ok (.ireturn, 1) := by decide +kernel
theorem dX7_repairedShifts_0 : decode cX7_repairedShifts 0 = .ok (.aload_n 0, 1) := by decide +kernel
theorem dX7_repairedShifts_1 : decode cX7_repairedShifts 1 = .ok (.iload_n 1, 1) := by decide +kernel
theorem dX7_repairedShifts_2 : decode cX7_repairedShifts 2 = .ok (.invokevirtual 181, 3) := by decide +kernel
theorem dX7_repairedShifts_5 : decode cX7_repairedShifts 5 = .ok (.ifCond .eq 10, 3) := by decide +kernel
theorem dX7_repairedShifts_8 : decode cX7_repairedShifts 8 = .ok (.aload_n 0, 1) := by decide +kernel
theorem dX7_repairedShifts_9 : decode cX7_repairedShifts 9 = .ok (.getfield 128, 3) := by decide +kernel
theorem dX7_repairedShifts_12 : decode cX7_repairedShifts 12 = .ok (.goto 4, 3) := by decide +kernel
theorem dX7_repairedShifts_15 : decode cX7_repairedShifts 15 = .ok (.iconst 0, 1) := by decide +kernel
theorem dX7_repairedShifts_16 : decode cX7_repairedShifts 16 = .ok (.ireturn, 1) := by decide +kernel
theorem dX7_coverage_0 : decode cX7_coverage 0 = .ok (.aload_n 0, 1) := by decide +kernel
theorem dX7_coverage_1 : decode cX7_coverage 1 = .ok (.iload_n 1, 1) := by decide +kernel
theorem dX7_coverage_2 : decode cX7_coverage 2 = .ok (.invokevirtual 181, 3) := by decide +kernel
theorem dX7_coverage_5 : decode cX7_coverage 5 = .ok (.istore_n 3, 1) := by decide +kernel
theorem dX7_coverage_6 : decode cX7_coverage 6 = .ok (.aload_n 0, 1) := by decide +kernel
theorem dX7_coverage_7 : decode cX7_coverage 7 = .ok (.iload_n 3, 1) := by decide +kernel
theorem dX7_coverage_8 : decode cX7_coverage 8 = .ok (.ifCond .eq 18, 3) := by decide +kernel
theorem dX7_coverage_11 : decode cX7_coverage 11 = .ok (.iload_n 2, 1) := by decide +kernel
theorem dX7_coverage_12 : decode cX7_coverage 12 = .ok (.iconst 0, 1) := by decide +kernel
theorem dX7_coverage_13 : decode cX7_coverage 13 = .ok (.sipush 10079, 3) := by decide +kernel
theorem dX7_coverage_16 : decode cX7_coverage 16 = .ok (.invokestatic 97, 3) := by decide +kernel
theorem dX7_coverage_19 : decode cX7_coverage 19 = .ok (.ifCond .ne 7, 3) := by decide +kernel
theorem dX7_coverage_22 : decode cX7_coverage 22 = .ok (.iconst 2, 1) := by decide +kernel
theorem dX7_coverage_23 : decode cX7_coverage 23 = .ok (.goto 7, 3) := by decide +kernel
theorem dX7_coverage_26 : decode cX7_coverage 26 = .ok (.aload_n 0, 1) := by decide +kernel
theorem dX7_coverage_27 : decode cX7_coverage 27 = .ok (.getfield 90, 3) := by decide +kernel
theorem dX7_coverage_30 : decode cX7_coverage 30 = .ok (.putfield 90, 3) := by decide +kernel
theorem dX7_coverage_33 : decode cX7_coverage 33 = .ok (.aload_n 0, 1) := by decide +kernel
theorem dX7_coverage_34 : decode cX7_coverage 34 = .ok (.getfield 90, 3) := by decide +kernel
theorem dX7_coverage_37 : decode cX7_coverage 37 = .ok (.ifCond .le 7, 3) := by decide +kernel
theorem dX7_coverage_40 : decode cX7_coverage 40 = .ok (.iconst 0, 1) := by decide +kernel
theorem dX7_coverage_41 : decode cX7_coverage 41 = .ok (.goto 9, 3) := by decide +kernel
theorem dX7_coverage_44 : decode cX7_coverage 44 = .ok (.aload_n 0, 1) := by decide +kernel
theorem dX7_coverage_45 : decode cX7_coverage 45 = .ok (.getfield 66, 3) := by decide +kernel
theorem dX7_coverage_48 : decode cX7_coverage 48 = .ok (.iload_n 2, 1) := by decide +kernel
theorem dX7_coverage_49 : decode cX7_coverage 49 = .ok (.iaload, 1) := by decide +kernel
theorem dX7_coverage_50 : decode cX7_coverage 50 = .ok (.ireturn, 1) := by decide +kernel
theorem dX7_overlap_0 : decode cX7_overlap 0 = .ok (.aload_n 0, 1) := by decide +kernel
theorem dX7_overlap_1 : decode cX7_overlap 1 = .ok (.iload_n 1, 1) := by decide +kernel
theorem dX7_overlap_2 : decode cX7_overlap 2 = .ok (.invokevirtual 181, 3) := by decide +kernel
theorem dX7_overlap_5 : decode cX7_overlap 5 = .ok (.ifCond .eq 10, 3) := by decide +kernel
theorem dX7_overlap_8 : decode cX7_overlap 8 = .ok (.aload_n 0, 1) := by decide +kernel
theorem dX7_overlap_9 : decode cX7_overlap 9 = .ok (.getfield 152, 3) := by decide +kernel
theorem dX7_overlap_12 : decode cX7_overlap 12 = .ok (.goto 4, 3) := by decide +kernel
theorem dX7_overlap_15 : decode cX7_overlap 15 = .ok (.iconst 0, 1) := by decide +kernel
theorem dX7_overlap_16 : decode cX7_overlap 16 = .ok (.ireturn, 1) := by decide +kernel
theorem dX7_workedOn_0 : decode cX7_workedOn 0 = .ok (.aload_n 0, 1) := by decide +kernel
theorem dX7_workedOn_1 : decode cX7_workedOn 1 = .ok (.iload_n 1, 1) := by decide +kernel
theorem dX7_workedOn_2 : decode cX7_workedOn 2 = .ok (.invokevirtual 181, 3) := by decide +kernel
theorem dX7_workedOn_5 : decode cX7_workedOn 5 = .ok (.istore_n 3, 1) := by decide +kernel
theorem dX7_workedOn_6 : decode cX7_workedOn 6 = .ok (.aload_n 0, 1) := by decide +kernel
theorem dX7_workedOn_7 : decode cX7_workedOn 7 = .ok (.iload_n 3, 1) := by decide +kernel
theorem dX7_workedOn_8 : decode cX7_workedOn 8 = .ok (.ifCond .eq 17, 3) := by decide +kernel
theorem dX7_workedOn_11 : decode cX7_workedOn 11 = .ok (.iload_n 2, 1) := by decide +kernel
theorem dX7_workedOn_12 : decode cX7_workedOn 12 = .ok (.iconst 0, 1) := by decide +kernel
theorem dX7_workedOn_13 : decode cX7_workedOn 13 = .ok (.bipush 6, 2) := by decide +kernel
theorem dX7_workedOn_15 : decode cX7_workedOn 15 = .ok (.invokestatic 97, 3) := by decide +kernel
theorem dX7_workedOn_18 : decode cX7_workedOn 18 = .ok (.ifCond .ne 7, 3) := by decide +kernel
theorem dX7_workedOn_21 : decode cX7_workedOn 21 = .ok (.iconst 2, 1) := by decide +kernel
theorem dX7_workedOn_22 : decode cX7_workedOn 22 = .ok (.goto 7, 3) := by decide +kernel
theorem dX7_workedOn_25 : decode cX7_workedOn 25 = .ok (.aload_n 0, 1) := by decide +kernel
theorem dX7_workedOn_26 : decode cX7_workedOn 26 = .ok (.getfield 90, 3) := by decide +kernel
theorem dX7_workedOn_29 : decode cX7_workedOn 29 = .ok (.putfield 90, 3) := by decide +kernel
theorem dX7_workedOn_32 : decode cX7_workedOn 32 = .ok (.aload_n 0, 1) := by decide +kernel
theorem dX7_workedOn_33 : decode cX7_workedOn 33 = .ok (.getfield 90, 3) := by decide +kernel
theorem dX7_workedOn_36 : decode cX7_workedOn 36 = .ok (.ifCond .le 7, 3) := by decide +kernel
theorem dX7_workedOn_39 : decode cX7_workedOn 39 = .ok (.iconst 0, 1) := by decide +kernel
theorem dX7_workedOn_40 : decode cX7_workedOn 40 = .ok (.goto 9, 3) := by decide +kernel
theorem dX7_workedOn_43 : decode cX7_workedOn 43 = .ok (.aload_n 0, 1) := by decide +kernel
theorem dX7_workedOn_44 : decode cX7_workedOn 44 = .ok (.getfield 75, 3) := by decide +kernel
theorem dX7_workedOn_47 : decode cX7_workedOn 47 = .ok (.iload_n 2, 1) := by decide +kernel
theorem dX7_workedOn_48 : decode cX7_workedOn 48 = .ok (.iaload, 1) := by decide +kernel
theorem dX7_workedOn_49 : decode cX7_workedOn 49 = .ok (.ireturn, 1) := by decide +kernel
theorem dX7_stretches_0 : decode cX7_stretches 0 = .ok (.aload_n 0, 1) := by decide +kernel
theorem dX7_stretches_1 : decode cX7_stretches 1 = .ok (.iload_n 1, 1) := by decide +kernel
theorem dX7_stretches_2 : decode cX7_stretches 2 = .ok (.invokevirtual 181, 3) := by decide +kernel
theorem dX7_stretches_5 : decode cX7_stretches 5 = .ok (.ifCond .eq 10, 3) := by decide +kernel
theorem dX7_stretches_8 : decode cX7_stretches 8 = .ok (.aload_n 0, 1) := by decide +kernel
theorem dX7_stretches_9 : decode cX7_stretches 9 = .ok (.getfield 155, 3) := by decide +kernel
theorem dX7_stretches_12 : decode cX7_stretches 12 = .ok (.goto 4, 3) := by decide +kernel
theorem dX7_stretches_15 : decode cX7_stretches 15 = .ok (.iconst 0, 1) := by decide +kernel
theorem dX7_stretches_16 : decode cX7_stretches 16 = .ok (.ireturn, 1) := by decide +kernel
theorem dX7_longestStretch_0 : decode cX7_longestStretch 0 = .ok (.aload_n 0, 1) := by decide +kernel
theorem dX7_longestStretch_1 : decode cX7_longestStretch 1 = .ok (.iload_n 1, 1) := by decide +kernel
theorem dX7_longestStretch_2 : decode cX7_longestStretch 2 = .ok (.invokevirtual 181, 3) := by decide +kernel
theorem dX7_longestStretch_5 : decode cX7_longestStretch 5 = .ok (.ifCond .eq 10, 3) := by decide +kernel
theorem dX7_longestStretch_8 : decode cX7_longestStretch 8 = .ok (.aload_n 0, 1) := by decide +kernel
theorem dX7_longestStretch_9 : decode cX7_longestStretch 9 = .ok (.getfield 158, 3) := by decide +kernel
theorem dX7_longestStretch_12 : decode cX7_longestStretch 12 = .ok (.goto 4, 3) := by decide +kernel
theorem dX7_longestStretch_15 : decode cX7_longestStretch 15 = .ok (.iconst 0, 1) := by decide +kernel
theorem dX7_longestStretch_16 : decode cX7_longestStretch 16 = .ok (.ireturn, 1) := by decide +kernel
theorem dX7_category_0 : decode cX7_category 0 = .ok (.aload_n 0, 1) := by decide +kernel
theorem dX7_category_1 : decode cX7_category 1 = .ok (.iload_n 1, 1) := by decide +kernel
theorem dX7_category_2 : decode cX7_category 2 = .ok (.invokevirtual 181, 3) := by decide +kernel
theorem dX7_category_5 : decode cX7_category 5 = .ok (.istore_n 3, 1) := by decide +kernel
theorem dX7_category_6 : decode cX7_category 6 = .ok (.aload_n 0, 1) := by decide +kernel
theorem dX7_category_7 : decode cX7_category 7 = .ok (.iload_n 3, 1) := by decide +kernel
theorem dX7_category_8 : decode cX7_category 8 = .ok (.ifCond .eq 18, 3) := by decide +kernel
theorem dX7_category_11 : decode cX7_category 11 = .ok (.iload_n 2, 1) := by decide +kernel
theorem dX7_category_12 : decode cX7_category 12 = .ok (.iconst 0, 1) := by decide +kernel
theorem dX7_category_13 : decode cX7_category 13 = .ok (.sipush 10079, 3) := by decide +kernel
theorem dX7_category_16 : decode cX7_category 16 = .ok (.invokestatic 97, 3) := by decide +kernel
theorem dX7_category_19 : decode cX7_category 19 = .ok (.ifCond .ne 7, 3) := by decide +kernel
theorem dX7_category_22 : decode cX7_category 22 = .ok (.iconst 2, 1) := by decide +kernel
theorem dX7_category_23 : decode cX7_category 23 = .ok (.goto 7, 3) := by decide +kernel
theorem dX7_category_26 : decode cX7_category 26 = .ok (.aload_n 0, 1) := by decide +kernel
theorem dX7_category_27 : decode cX7_category 27 = .ok (.getfield 90, 3) := by decide +kernel
theorem dX7_category_30 : decode cX7_category 30 = .ok (.putfield 90, 3) := by decide +kernel
theorem dX7_category_33 : decode cX7_category 33 = .ok (.aload_n 0, 1) := by decide +kernel
theorem dX7_category_34 : decode cX7_category 34 = .ok (.getfield 90, 3) := by decide +kernel
theorem dX7_category_37 : decode cX7_category 37 = .ok (.ifCond .le 7, 3) := by decide +kernel
theorem dX7_category_40 : decode cX7_category 40 = .ok (.iconst 0, 1) := by decide +kernel
theorem dX7_category_41 : decode cX7_category 41 = .ok (.goto 9, 3) := by decide +kernel
theorem dX7_category_44 : decode cX7_category 44 = .ok (.aload_n 0, 1) := by decide +kernel
theorem dX7_category_45 : decode cX7_category 45 = .ok (.getfield 72, 3) := by decide +kernel
theorem dX7_category_48 : decode cX7_category 48 = .ok (.iload_n 2, 1) := by decide +kernel
theorem dX7_category_49 : decode cX7_category 49 = .ok (.iaload, 1) := by decide +kernel
theorem dX7_category_50 : decode cX7_category 50 = .ok (.ireturn, 1) := by decide +kernel
theorem dX7_told_0 : decode cX7_told 0 = .ok (.aload_n 0, 1) := by decide +kernel
theorem dX7_told_1 : decode cX7_told 1 = .ok (.iload_n 1, 1) := by decide +kernel
theorem dX7_told_2 : decode cX7_told 2 = .ok (.invokevirtual 181, 3) := by decide +kernel
theorem dX7_told_5 : decode cX7_told 5 = .ok (.istore 5, 2) := by decide +kernel
theorem dX7_told_7 : decode cX7_told 7 = .ok (.aload_n 0, 1) := by decide +kernel
theorem dX7_told_8 : decode cX7_told 8 = .ok (.iload 5, 2) := by decide +kernel
theorem dX7_told_10 : decode cX7_told 10 = .ok (.ifCond .eq 26, 3) := by decide +kernel
theorem dX7_told_13 : decode cX7_told 13 = .ok (.iload_n 2, 1) := by decide +kernel
theorem dX7_told_14 : decode cX7_told 14 = .ok (.iconst 0, 1) := by decide +kernel
theorem dX7_told_15 : decode cX7_told 15 = .ok (.bipush 6, 2) := by decide +kernel
theorem dX7_told_17 : decode cX7_told 17 = .ok (.invokestatic 97, 3) := by decide +kernel
theorem dX7_told_20 : decode cX7_told 20 = .ok (.ifCond .eq 12, 3) := by decide +kernel
theorem dX7_told_23 : decode cX7_told 23 = .ok (.iload_n 3, 1) := by decide +kernel
theorem dX7_told_24 : decode cX7_told 24 = .ok (.iconst 0, 1) := by decide +kernel
theorem dX7_told_25 : decode cX7_told 25 = .ok (.iconst 2, 1) := by decide +kernel
theorem dX7_told_26 : decode cX7_told 26 = .ok (.invokestatic 97, 3) := by decide +kernel
theorem dX7_told_29 : decode cX7_told 29 = .ok (.ifCond .ne 7, 3) := by decide +kernel
theorem dX7_told_32 : decode cX7_told 32 = .ok (.iconst 2, 1) := by decide +kernel
theorem dX7_told_33 : decode cX7_told 33 = .ok (.goto 7, 3) := by decide +kernel
theorem dX7_told_36 : decode cX7_told 36 = .ok (.aload_n 0, 1) := by decide +kernel
theorem dX7_told_37 : decode cX7_told 37 = .ok (.getfield 90, 3) := by decide +kernel
theorem dX7_told_40 : decode cX7_told 40 = .ok (.putfield 90, 3) := by decide +kernel
theorem dX7_told_43 : decode cX7_told 43 = .ok (.aload_n 0, 1) := by decide +kernel
theorem dX7_told_44 : decode cX7_told 44 = .ok (.getfield 90, 3) := by decide +kernel
theorem dX7_told_47 : decode cX7_told 47 = .ok (.ifCond .le 7, 3) := by decide +kernel
theorem dX7_told_50 : decode cX7_told 50 = .ok (.iconst 0, 1) := by decide +kernel
theorem dX7_told_51 : decode cX7_told 51 = .ok (.goto 11, 3) := by decide +kernel
theorem dX7_told_54 : decode cX7_told 54 = .ok (.aload 4, 2) := by decide +kernel
theorem dX7_told_56 : decode cX7_told 56 = .ok (.iconst 3, 1) := by decide +kernel
theorem dX7_told_57 : decode cX7_told 57 = .ok (.iload_n 2, 1) := by decide +kernel
theorem dX7_told_58 : decode cX7_told 58 = .ok (.imul, 1) := by decide +kernel
theorem dX7_told_59 : decode cX7_told 59 = .ok (.iload_n 3, 1) := by decide +kernel
theorem dX7_told_60 : decode cX7_told 60 = .ok (.iadd, 1) := by decide +kernel
theorem dX7_told_61 : decode cX7_told 61 = .ok (.iaload, 1) := by decide +kernel
theorem dX7_told_62 : decode cX7_told 62 = .ok (.ireturn, 1) := by decide +kernel
theorem dX7_minutes_0 : decode cX7_minutes 0 = .ok (.aload_n 0, 1) := by decide +kernel
theorem dX7_minutes_1 : decode cX7_minutes 1 = .ok (.iload_n 1, 1) := by decide +kernel
theorem dX7_minutes_2 : decode cX7_minutes 2 = .ok (.iload_n 2, 1) := by decide +kernel
theorem dX7_minutes_3 : decode cX7_minutes 3 = .ok (.iload_n 3, 1) := by decide +kernel
theorem dX7_minutes_4 : decode cX7_minutes 4 = .ok (.aload_n 0, 1) := by decide +kernel
theorem dX7_minutes_5 : decode cX7_minutes 5 = .ok (.getfield 81, 3) := by decide +kernel
theorem dX7_minutes_8 : decode cX7_minutes 8 = .ok (.invokevirtual 184, 3) := by decide +kernel
theorem dX7_minutes_11 : decode cX7_minutes 11 = .ok (.ireturn, 1) := by decide +kernel
theorem dX7_quarters_0 : decode cX7_quarters 0 = .ok (.aload_n 0, 1) := by decide +kernel
theorem dX7_quarters_1 : decode cX7_quarters 1 = .ok (.iload_n 1, 1) := by decide +kernel
theorem dX7_quarters_2 : decode cX7_quarters 2 = .ok (.iload_n 2, 1) := by decide +kernel
theorem dX7_quarters_3 : decode cX7_quarters 3 = .ok (.iload_n 3, 1) := by decide +kernel
theorem dX7_quarters_4 : decode cX7_quarters 4 = .ok (.aload_n 0, 1) := by decide +kernel
theorem dX7_quarters_5 : decode cX7_quarters 5 = .ok (.getfield 84, 3) := by decide +kernel
theorem dX7_quarters_8 : decode cX7_quarters 8 = .ok (.invokevirtual 184, 3) := by decide +kernel
theorem dX7_quarters_11 : decode cX7_quarters 11 = .ok (.ireturn, 1) := by decide +kernel
theorem dX7_premiumPay_0 : decode cX7_premiumPay 0 = .ok (.aload_n 0, 1) := by decide +kernel
theorem dX7_premiumPay_1 : decode cX7_premiumPay 1 = .ok (.iload_n 1, 1) := by decide +kernel
theorem dX7_premiumPay_2 : decode cX7_premiumPay 2 = .ok (.invokevirtual 181, 3) := by decide +kernel
theorem dX7_premiumPay_5 : decode cX7_premiumPay 5 = .ok (.ifCond .eq 10, 3) := by decide +kernel
theorem dX7_premiumPay_8 : decode cX7_premiumPay 8 = .ok (.aload_n 0, 1) := by decide +kernel
theorem dX7_premiumPay_9 : decode cX7_premiumPay 9 = .ok (.invokevirtual 170, 3) := by decide +kernel
theorem dX7_premiumPay_12 : decode cX7_premiumPay 12 = .ok (.goto 4, 3) := by decide +kernel
theorem dX7_premiumPay_15 : decode cX7_premiumPay 15 = .ok (.iconst 0, 1) := by decide +kernel
theorem dX7_premiumPay_16 : decode cX7_premiumPay 16 = .ok (.ireturn, 1) := by decide +kernel
theorem dX7_pay_0 : decode cX7_pay 0 = .ok (.aload_n 0, 1) := by decide +kernel
theorem dX7_pay_1 : decode cX7_pay 1 = .ok (.aload_n 0, 1) := by decide +kernel
theorem dX7_pay_2 : decode cX7_pay 2 = .ok (.iload_n 1, 1) := by decide +kernel
theorem dX7_pay_3 : decode cX7_pay 3 = .ok (.invokevirtual 102, 3) := by decide +kernel
theorem dX7_pay_6 : decode cX7_pay 6 = .ok (.ifCond .eq 7, 3) := by decide +kernel
theorem dX7_pay_9 : decode cX7_pay 9 = .ok (.iconst 0, 1) := by decide +kernel
theorem dX7_pay_10 : decode cX7_pay 10 = .ok (.goto 4, 3) := by decide +kernel
theorem dX7_pay_13 : decode cX7_pay 13 = .ok (.iconst 1, 1) := by decide +kernel
theorem dX7_pay_14 : decode cX7_pay 14 = .ok (.putfield 90, 3) := by decide +kernel
theorem dX7_pay_17 : decode cX7_pay 17 = .ok (.aload_n 0, 1) := by decide +kernel
theorem dX7_pay_18 : decode cX7_pay 18 = .ok (.getfield 90, 3) := by decide +kernel
theorem dX7_pay_21 : decode cX7_pay 21 = .ok (.ifCond .le 7, 3) := by decide +kernel
theorem dX7_pay_24 : decode cX7_pay 24 = .ok (.iconst 0, 1) := by decide +kernel
theorem dX7_pay_25 : decode cX7_pay 25 = .ok (.goto 8, 3) := by decide +kernel
theorem dX7_pay_28 : decode cX7_pay 28 = .ok (.aload_n 0, 1) := by decide +kernel
theorem dX7_pay_29 : decode cX7_pay 29 = .ok (.iload_n 1, 1) := by decide +kernel
theorem dX7_pay_30 : decode cX7_pay 30 = .ok (.invokevirtual 174, 3) := by decide +kernel
theorem dX7_pay_33 : decode cX7_pay 33 = .ok (.ireturn, 1) := by decide +kernel
