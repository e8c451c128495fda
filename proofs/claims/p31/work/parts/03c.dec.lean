theorem dL_cell_0 : decode cL_cell 0 = .ok (.iload_n 1, 1) := by decide +kernel
theorem dL_cell_1 : decode cL_cell 1 = .ok (.aload_n 0, 1) := by decide +kernel
theorem dL_cell_2 : decode cL_cell 2 = .ok (.arraylength, 1) := by decide +kernel
theorem dL_cell_3 : decode cL_cell 3 = .ok (.if_icmp .ge 9, 3) := by decide +kernel
theorem dL_cell_6 : decode cL_cell 6 = .ok (.aload_n 0, 1) := by decide +kernel
theorem dL_cell_7 : decode cL_cell 7 = .ok (.iload_n 1, 1) := by decide +kernel
theorem dL_cell_8 : decode cL_cell 8 = .ok (.iaload, 1) := by decide +kernel
theorem dL_cell_9 : decode cL_cell 9 = .ok (.goto 15, 3) := by decide +kernel
theorem dL_cell_12 : decode cL_cell 12 = .ok (.sipush 7919, 3) := by decide +kernel
theorem dL_cell_15 : decode cL_cell 15 = .ok (.iload_n 1, 1) := by decide +kernel
theorem dL_cell_16 : decode cL_cell 16 = .ok (.iconst 3, 1) := by decide +kernel
theorem dL_cell_17 : decode cL_cell 17 = .ok (.iadd, 1) := by decide +kernel
theorem dL_cell_18 : decode cL_cell 18 = .ok (.imul, 1) := by decide +kernel
theorem dL_cell_19 : decode cL_cell 19 = .ok (.iload_n 1, 1) := by decide +kernel
theorem dL_cell_20 : decode cL_cell 20 = .ok (.bipush 11, 2) := by decide +kernel
theorem dL_cell_22 : decode cL_cell 22 = .ok (.iadd, 1) := by decide +kernel
theorem dL_cell_23 : decode cL_cell 23 = .ok (.imul, 1) := by decide +kernel
theorem dL_cell_24 : decode cL_cell 24 = .ok (.ireturn, 1) := by decide +kernel
theorem dL_low_0 : decode cL_low 0 = .ok (.iload_n 0, 1) := by decide +kernel
theorem dL_low_1 : decode cL_low 1 = .ok (.ldc 7, 2) := by decide +kernel
theorem dL_low_3 : decode cL_low 3 = .ok (.iand, 1) := by decide +kernel
theorem dL_low_4 : decode cL_low 4 = .ok (.iload_n 1, 1) := by decide +kernel
theorem dL_low_5 : decode cL_low 5 = .ok (.irem, 1) := by decide +kernel
theorem dL_low_6 : decode cL_low 6 = .ok (.ireturn, 1) := by decide +kernel
theorem dL_reads_0 : decode cL_reads 0 = .ok (.iconst 0, 1) := by decide +kernel
theorem dL_reads_1 : decode cL_reads 1 = .ok (.istore_n 3, 1) := by decide +kernel
theorem dL_reads_2 : decode cL_reads 2 = .ok (.iload_n 3, 1) := by decide +kernel
theorem dL_reads_3 : decode cL_reads 3 = .ok (.bipush 21, 2) := by decide +kernel
theorem dL_reads_5 : decode cL_reads 5 = .ok (.if_icmp .ge 37, 3) := by decide +kernel
theorem dL_reads_8 : decode cL_reads 8 = .ok (.aload_n 1, 1) := by decide +kernel
theorem dL_reads_9 : decode cL_reads 9 = .ok (.iload_n 3, 1) := by decide +kernel
theorem dL_reads_10 : decode cL_reads 10 = .ok (.aload_n 0, 1) := by decide +kernel
theorem dL_reads_11 : decode cL_reads 11 = .ok (.iconst 0, 1) := by decide +kernel
theorem dL_reads_12 : decode cL_reads 12 = .ok (.iload_n 3, 1) := by decide +kernel
theorem dL_reads_13 : decode cL_reads 13 = .ok (.iconst 3, 1) := by decide +kernel
theorem dL_reads_14 : decode cL_reads 14 = .ok (.idiv, 1) := by decide +kernel
theorem dL_reads_15 : decode cL_reads 15 = .ok (.iload_n 3, 1) := by decide +kernel
theorem dL_reads_16 : decode cL_reads 16 = .ok (.iconst 3, 1) := by decide +kernel
theorem dL_reads_17 : decode cL_reads 17 = .ok (.irem, 1) := by decide +kernel
theorem dL_reads_18 : decode cL_reads 18 = .ok (.invokevirtual 8, 3) := by decide +kernel
theorem dL_reads_21 : decode cL_reads 21 = .ok (.iastore, 1) := by decide +kernel
theorem dL_reads_22 : decode cL_reads 22 = .ok (.aload_n 2, 1) := by decide +kernel
theorem dL_reads_23 : decode cL_reads 23 = .ok (.iload_n 3, 1) := by decide +kernel
theorem dL_reads_24 : decode cL_reads 24 = .ok (.aload_n 0, 1) := by decide +kernel
theorem dL_reads_25 : decode cL_reads 25 = .ok (.iconst 0, 1) := by decide +kernel
theorem dL_reads_26 : decode cL_reads 26 = .ok (.iload_n 3, 1) := by decide +kernel
theorem dL_reads_27 : decode cL_reads 27 = .ok (.iconst 3, 1) := by decide +kernel
theorem dL_reads_28 : decode cL_reads 28 = .ok (.idiv, 1) := by decide +kernel
theorem dL_reads_29 : decode cL_reads 29 = .ok (.iload_n 3, 1) := by decide +kernel
theorem dL_reads_30 : decode cL_reads 30 = .ok (.iconst 3, 1) := by decide +kernel
theorem dL_reads_31 : decode cL_reads 31 = .ok (.irem, 1) := by decide +kernel
theorem dL_reads_32 : decode cL_reads 32 = .ok (.invokevirtual 14, 3) := by decide +kernel
theorem dL_reads_35 : decode cL_reads 35 = .ok (.iastore, 1) := by decide +kernel
theorem dL_reads_36 : decode cL_reads 36 = .ok (.iinc 3 1, 3) := by decide +kernel
theorem dL_reads_39 : decode cL_reads 39 = .ok (.goto (-37), 3) := by decide +kernel
theorem dL_reads_42 : decode cL_reads 42 = .ok (.return_, 1) := by decide +kernel
theorem dL_weekOf_0 : decode cL_weekOf 0 = .ok (.iconst 0, 1) := by decide +kernel
theorem dL_weekOf_1 : decode cL_weekOf 1 = .ok (.istore_n 3, 1) := by decide +kernel
theorem dL_weekOf_2 : decode cL_weekOf 2 = .ok (.iconst 0, 1) := by decide +kernel
theorem dL_weekOf_3 : decode cL_weekOf 3 = .ok (.istore 4, 2) := by decide +kernel
theorem dL_weekOf_5 : decode cL_weekOf 5 = .ok (.iconst 1, 1) := by decide +kernel
theorem dL_weekOf_6 : decode cL_weekOf 6 = .ok (.istore 5, 2) := by decide +kernel
theorem dL_weekOf_8 : decode cL_weekOf 8 = .ok (.iload_n 2, 1) := by decide +kernel
theorem dL_weekOf_9 : decode cL_weekOf 9 = .ok (.istore 6, 2) := by decide +kernel
theorem dL_weekOf_11 : decode cL_weekOf 11 = .ok (.iload 6, 2) := by decide +kernel
theorem dL_weekOf_13 : decode cL_weekOf 13 = .ok (.bipush 21, 2) := by decide +kernel
theorem dL_weekOf_15 : decode cL_weekOf 15 = .ok (.if_icmp .ge 162, 3) := by decide +kernel
theorem dL_weekOf_18 : decode cL_weekOf 18 = .ok (.aload_n 1, 1) := by decide +kernel
theorem dL_weekOf_19 : decode cL_weekOf 19 = .ok (.iload 6, 2) := by decide +kernel
theorem dL_weekOf_21 : decode cL_weekOf 21 = .ok (.iaload, 1) := by decide +kernel
theorem dL_weekOf_22 : decode cL_weekOf 22 = .ok (.aload_n 0, 1) := by decide +kernel
theorem dL_weekOf_23 : decode cL_weekOf 23 = .ok (.iload 6, 2) := by decide +kernel
theorem dL_weekOf_25 : decode cL_weekOf 25 = .ok (.iaload, 1) := by decide +kernel
theorem dL_weekOf_26 : decode cL_weekOf 26 = .ok (.bipush 15, 2) := by decide +kernel
theorem dL_weekOf_28 : decode cL_weekOf 28 = .ok (.idiv, 1) := by decide +kernel
theorem dL_weekOf_29 : decode cL_weekOf 29 = .ok (.isub, 1) := by decide +kernel
theorem dL_weekOf_30 : decode cL_weekOf 30 = .ok (.istore 7, 2) := by decide +kernel
theorem dL_weekOf_32 : decode cL_weekOf 32 = .ok (.iload 5, 2) := by decide +kernel
theorem dL_weekOf_34 : decode cL_weekOf 34 = .ok (.ifCond .eq 28, 3) := by decide +kernel
theorem dL_weekOf_37 : decode cL_weekOf 37 = .ok (.iload 7, 2) := by decide +kernel
theorem dL_weekOf_39 : decode cL_weekOf 39 = .ok (.ifCond .eq 19, 3) := by decide +kernel
theorem dL_weekOf_42 : decode cL_weekOf 42 = .ok (.iload 7, 2) := by decide +kernel
theorem dL_weekOf_44 : decode cL_weekOf 44 = .ok (.iconst 1, 1) := by decide +kernel
theorem dL_weekOf_45 : decode cL_weekOf 45 = .ok (.if_icmp .ne 17, 3) := by decide +kernel
theorem dL_weekOf_48 : decode cL_weekOf 48 = .ok (.aload_n 0, 1) := by decide +kernel
theorem dL_weekOf_49 : decode cL_weekOf 49 = .ok (.iload 6, 2) := by decide +kernel
theorem dL_weekOf_51 : decode cL_weekOf 51 = .ok (.iaload, 1) := by decide +kernel
theorem dL_weekOf_52 : decode cL_weekOf 52 = .ok (.bipush 15, 2) := by decide +kernel
theorem dL_weekOf_54 : decode cL_weekOf 54 = .ok (.irem, 1) := by decide +kernel
theorem dL_weekOf_55 : decode cL_weekOf 55 = .ok (.ifCond .le 7, 3) := by decide +kernel
theorem dL_weekOf_58 : decode cL_weekOf 58 = .ok (.iconst 1, 1) := by decide +kernel
theorem dL_weekOf_59 : decode cL_weekOf 59 = .ok (.goto 4, 3) := by decide +kernel
theorem dL_weekOf_62 : decode cL_weekOf 62 = .ok (.iconst 0, 1) := by decide +kernel
theorem dL_weekOf_63 : decode cL_weekOf 63 = .ok (.istore 5, 2) := by decide +kernel
theorem dL_weekOf_65 : decode cL_weekOf 65 = .ok (.iload_n 3, 1) := by decide +kernel
theorem dL_weekOf_66 : decode cL_weekOf 66 = .ok (.aload_n 0, 1) := by decide +kernel
theorem dL_weekOf_67 : decode cL_weekOf 67 = .ok (.iload 6, 2) := by decide +kernel
theorem dL_weekOf_69 : decode cL_weekOf 69 = .ok (.iaload, 1) := by decide +kernel
theorem dL_weekOf_70 : decode cL_weekOf 70 = .ok (.iadd, 1) := by decide +kernel
theorem dL_weekOf_71 : decode cL_weekOf 71 = .ok (.istore_n 3, 1) := by decide +kernel
theorem dL_weekOf_72 : decode cL_weekOf 72 = .ok (.iload 4, 2) := by decide +kernel
theorem dL_weekOf_74 : decode cL_weekOf 74 = .ok (.aload_n 1, 1) := by decide +kernel
theorem dL_weekOf_75 : decode cL_weekOf 75 = .ok (.iload 6, 2) := by decide +kernel
theorem dL_weekOf_77 : decode cL_weekOf 77 = .ok (.iaload, 1) := by decide +kernel
theorem dL_weekOf_78 : decode cL_weekOf 78 = .ok (.iadd, 1) := by decide +kernel
theorem dL_weekOf_79 : decode cL_weekOf 79 = .ok (.istore 4, 2) := by decide +kernel
theorem dL_weekOf_81 : decode cL_weekOf 81 = .ok (.iload_n 2, 1) := by decide +kernel
theorem dL_weekOf_82 : decode cL_weekOf 82 = .ok (.istore 8, 2) := by decide +kernel
theorem dL_weekOf_84 : decode cL_weekOf 84 = .ok (.iload 8, 2) := by decide +kernel
theorem dL_weekOf_86 : decode cL_weekOf 86 = .ok (.iload 6, 2) := by decide +kernel
theorem dL_weekOf_88 : decode cL_weekOf 88 = .ok (.if_icmp .ge 83, 3) := by decide +kernel
theorem dL_weekOf_91 : decode cL_weekOf 91 = .ok (.aload_n 1, 1) := by decide +kernel
theorem dL_weekOf_92 : decode cL_weekOf 92 = .ok (.iload 8, 2) := by decide +kernel
theorem dL_weekOf_94 : decode cL_weekOf 94 = .ok (.iaload, 1) := by decide +kernel
theorem dL_weekOf_95 : decode cL_weekOf 95 = .ok (.aload_n 0, 1) := by decide +kernel
theorem dL_weekOf_96 : decode cL_weekOf 96 = .ok (.iload 8, 2) := by decide +kernel
theorem dL_weekOf_98 : decode cL_weekOf 98 = .ok (.iaload, 1) := by decide +kernel
theorem dL_weekOf_99 : decode cL_weekOf 99 = .ok (.bipush 15, 2) := by decide +kernel
theorem dL_weekOf_101 : decode cL_weekOf 101 = .ok (.idiv, 1) := by decide +kernel
theorem dL_weekOf_102 : decode cL_weekOf 102 = .ok (.isub, 1) := by decide +kernel
theorem dL_weekOf_103 : decode cL_weekOf 103 = .ok (.istore 9, 2) := by decide +kernel
theorem dL_weekOf_105 : decode cL_weekOf 105 = .ok (.iload 5, 2) := by decide +kernel
theorem dL_weekOf_107 : decode cL_weekOf 107 = .ok (.ifCond .eq 55, 3) := by decide +kernel
theorem dL_weekOf_110 : decode cL_weekOf 110 = .ok (.iload 7, 2) := by decide +kernel
theorem dL_weekOf_112 : decode cL_weekOf 112 = .ok (.iload 9, 2) := by decide +kernel
theorem dL_weekOf_114 : decode cL_weekOf 114 = .ok (.if_icmp .le 20, 3) := by decide +kernel
theorem dL_weekOf_117 : decode cL_weekOf 117 = .ok (.aload_n 0, 1) := by decide +kernel
theorem dL_weekOf_118 : decode cL_weekOf 118 = .ok (.iload 6, 2) := by decide +kernel
theorem dL_weekOf_120 : decode cL_weekOf 120 = .ok (.iaload, 1) := by decide +kernel
theorem dL_weekOf_121 : decode cL_weekOf 121 = .ok (.bipush 15, 2) := by decide +kernel
theorem dL_weekOf_123 : decode cL_weekOf 123 = .ok (.irem, 1) := by decide +kernel
theorem dL_weekOf_124 : decode cL_weekOf 124 = .ok (.aload_n 0, 1) := by decide +kernel
theorem dL_weekOf_125 : decode cL_weekOf 125 = .ok (.iload 8, 2) := by decide +kernel
theorem dL_weekOf_127 : decode cL_weekOf 127 = .ok (.iaload, 1) := by decide +kernel
theorem dL_weekOf_128 : decode cL_weekOf 128 = .ok (.bipush 15, 2) := by decide +kernel
theorem dL_weekOf_130 : decode cL_weekOf 130 = .ok (.irem, 1) := by decide +kernel
theorem dL_weekOf_131 : decode cL_weekOf 131 = .ok (.if_icmp .le 31, 3) := by decide +kernel
theorem dL_weekOf_134 : decode cL_weekOf 134 = .ok (.iload 7, 2) := by decide +kernel
theorem dL_weekOf_136 : decode cL_weekOf 136 = .ok (.iload 9, 2) := by decide +kernel
theorem dL_weekOf_138 : decode cL_weekOf 138 = .ok (.if_icmp .ge 20, 3) := by decide +kernel
theorem dL_weekOf_141 : decode cL_weekOf 141 = .ok (.aload_n 0, 1) := by decide +kernel
theorem dL_weekOf_142 : decode cL_weekOf 142 = .ok (.iload 6, 2) := by decide +kernel
theorem dL_weekOf_144 : decode cL_weekOf 144 = .ok (.iaload, 1) := by decide +kernel
theorem dL_weekOf_145 : decode cL_weekOf 145 = .ok (.bipush 15, 2) := by decide +kernel
theorem dL_weekOf_147 : decode cL_weekOf 147 = .ok (.irem, 1) := by decide +kernel
theorem dL_weekOf_148 : decode cL_weekOf 148 = .ok (.aload_n 0, 1) := by decide +kernel
theorem dL_weekOf_149 : decode cL_weekOf 149 = .ok (.iload 8, 2) := by decide +kernel
theorem dL_weekOf_151 : decode cL_weekOf 151 = .ok (.iaload, 1) := by decide +kernel
theorem dL_weekOf_152 : decode cL_weekOf 152 = .ok (.bipush 15, 2) := by decide +kernel
theorem dL_weekOf_154 : decode cL_weekOf 154 = .ok (.irem, 1) := by decide +kernel
theorem dL_weekOf_155 : decode cL_weekOf 155 = .ok (.if_icmp .gt 7, 3) := by decide +kernel
theorem dL_weekOf_158 : decode cL_weekOf 158 = .ok (.iconst 1, 1) := by decide +kernel
theorem dL_weekOf_159 : decode cL_weekOf 159 = .ok (.goto 4, 3) := by decide +kernel
theorem dL_weekOf_162 : decode cL_weekOf 162 = .ok (.iconst 0, 1) := by decide +kernel
theorem dL_weekOf_163 : decode cL_weekOf 163 = .ok (.istore 5, 2) := by decide +kernel
theorem dL_weekOf_165 : decode cL_weekOf 165 = .ok (.iinc 8 3, 3) := by decide +kernel
theorem dL_weekOf_168 : decode cL_weekOf 168 = .ok (.goto (-84), 3) := by decide +kernel
theorem dL_weekOf_171 : decode cL_weekOf 171 = .ok (.iinc 6 3, 3) := by decide +kernel
theorem dL_weekOf_174 : decode cL_weekOf 174 = .ok (.goto (-163), 3) := by decide +kernel
theorem dL_weekOf_177 : decode cL_weekOf 177 = .ok (.bipush 15, 2) := by decide +kernel
theorem dL_weekOf_179 : decode cL_weekOf 179 = .ok (.iload 4, 2) := by decide +kernel
theorem dL_weekOf_181 : decode cL_weekOf 181 = .ok (.imul, 1) := by decide +kernel
theorem dL_weekOf_182 : decode cL_weekOf 182 = .ok (.iload_n 3, 1) := by decide +kernel
theorem dL_weekOf_183 : decode cL_weekOf 183 = .ok (.isub, 1) := by decide +kernel
theorem dL_weekOf_184 : decode cL_weekOf 184 = .ok (.istore 6, 2) := by decide +kernel
theorem dL_weekOf_186 : decode cL_weekOf 186 = .ok (.iload 5, 2) := by decide +kernel
theorem dL_weekOf_188 : decode cL_weekOf 188 = .ok (.ifCond .eq 22, 3) := by decide +kernel
theorem dL_weekOf_191 : decode cL_weekOf 191 = .ok (.iload 6, 2) := by decide +kernel
theorem dL_weekOf_193 : decode cL_weekOf 193 = .ok (.bipush 7, 2) := by decide +kernel
theorem dL_weekOf_195 : decode cL_weekOf 195 = .ok (.if_icmp .gt 15, 3) := by decide +kernel
theorem dL_weekOf_198 : decode cL_weekOf 198 = .ok (.iload 6, 2) := by decide +kernel
theorem dL_weekOf_200 : decode cL_weekOf 200 = .ok (.bipush (-7), 2) := by decide +kernel
theorem dL_weekOf_202 : decode cL_weekOf 202 = .ok (.if_icmp .lt 8, 3) := by decide +kernel
theorem dL_weekOf_205 : decode cL_weekOf 205 = .ok (.iload 4, 2) := by decide +kernel
theorem dL_weekOf_207 : decode cL_weekOf 207 = .ok (.goto 4, 3) := by decide +kernel
theorem dL_weekOf_210 : decode cL_weekOf 210 = .ok (.iconst (-1), 1) := by decide +kernel
theorem dL_weekOf_211 : decode cL_weekOf 211 = .ok (.ireturn, 1) := by decide +kernel
theorem dL_isPaid_0 : decode cL_isPaid 0 = .ok (.aload_n 0, 1) := by decide +kernel
theorem dL_isPaid_1 : decode cL_isPaid 1 = .ok (.aload_n 1, 1) := by decide +kernel
theorem dL_isPaid_2 : decode cL_isPaid 2 = .ok (.aload_n 2, 1) := by decide +kernel
theorem dL_isPaid_3 : decode cL_isPaid 3 = .ok (.invokestatic 17, 3) := by decide +kernel
theorem dL_isPaid_6 : decode cL_isPaid 6 = .ok (.aload_n 1, 1) := by decide +kernel
theorem dL_isPaid_7 : decode cL_isPaid 7 = .ok (.aload_n 2, 1) := by decide +kernel
theorem dL_isPaid_8 : decode cL_isPaid 8 = .ok (.iconst 0, 1) := by decide +kernel
theorem dL_isPaid_9 : decode cL_isPaid 9 = .ok (.invokestatic 23, 3) := by decide +kernel
theorem dL_isPaid_12 : decode cL_isPaid 12 = .ok (.istore 5, 2) := by decide +kernel
theorem dL_isPaid_14 : decode cL_isPaid 14 = .ok (.aload_n 1, 1) := by decide +kernel
theorem dL_isPaid_15 : decode cL_isPaid 15 = .ok (.aload_n 2, 1) := by decide +kernel
theorem dL_isPaid_16 : decode cL_isPaid 16 = .ok (.iconst 1, 1) := by decide +kernel
theorem dL_isPaid_17 : decode cL_isPaid 17 = .ok (.invokestatic 23, 3) := by decide +kernel
theorem dL_isPaid_20 : decode cL_isPaid 20 = .ok (.istore 6, 2) := by decide +kernel
theorem dL_isPaid_22 : decode cL_isPaid 22 = .ok (.aload_n 1, 1) := by decide +kernel
theorem dL_isPaid_23 : decode cL_isPaid 23 = .ok (.aload_n 2, 1) := by decide +kernel
theorem dL_isPaid_24 : decode cL_isPaid 24 = .ok (.iconst 2, 1) := by decide +kernel
theorem dL_isPaid_25 : decode cL_isPaid 25 = .ok (.invokestatic 23, 3) := by decide +kernel
theorem dL_isPaid_28 : decode cL_isPaid 28 = .ok (.istore 7, 2) := by decide +kernel
theorem dL_isPaid_30 : decode cL_isPaid 30 = .ok (.iload_n 3, 1) := by decide +kernel
theorem dL_isPaid_31 : decode cL_isPaid 31 = .ok (.iconst 2, 1) := by decide +kernel
theorem dL_isPaid_32 : decode cL_isPaid 32 = .ok (.iload 5, 2) := by decide +kernel
theorem dL_isPaid_34 : decode cL_isPaid 34 = .ok (.imul, 1) := by decide +kernel
theorem dL_isPaid_35 : decode cL_isPaid 35 = .ok (.iconst 3, 1) := by decide +kernel
theorem dL_isPaid_36 : decode cL_isPaid 36 = .ok (.iload 6, 2) := by decide +kernel
theorem dL_isPaid_38 : decode cL_isPaid 38 = .ok (.imul, 1) := by decide +kernel
theorem dL_isPaid_39 : decode cL_isPaid 39 = .ok (.iadd, 1) := by decide +kernel
theorem dL_isPaid_40 : decode cL_isPaid 40 = .ok (.iconst 4, 1) := by decide +kernel
theorem dL_isPaid_41 : decode cL_isPaid 41 = .ok (.iload 7, 2) := by decide +kernel
theorem dL_isPaid_43 : decode cL_isPaid 43 = .ok (.imul, 1) := by decide +kernel
theorem dL_isPaid_44 : decode cL_isPaid 44 = .ok (.iadd, 1) := by decide +kernel
theorem dL_isPaid_45 : decode cL_isPaid 45 = .ok (.imul, 1) := by decide +kernel
theorem dL_isPaid_46 : decode cL_isPaid 46 = .ok (.iconst 4, 1) := by decide +kernel
theorem dL_isPaid_47 : decode cL_isPaid 47 = .ok (.iadd, 1) := by decide +kernel
theorem dL_isPaid_48 : decode cL_isPaid 48 = .ok (.bipush 8, 2) := by decide +kernel
theorem dL_isPaid_50 : decode cL_isPaid 50 = .ok (.idiv, 1) := by decide +kernel
theorem dL_isPaid_51 : decode cL_isPaid 51 = .ok (.istore 8, 2) := by decide +kernel
theorem dL_isPaid_53 : decode cL_isPaid 53 = .ok (.aload_n 0, 1) := by decide +kernel
theorem dL_isPaid_54 : decode cL_isPaid 54 = .ok (.iconst 0, 1) := by decide +kernel
theorem dL_isPaid_55 : decode cL_isPaid 55 = .ok (.invokevirtual 27, 3) := by decide +kernel
theorem dL_isPaid_58 : decode cL_isPaid 58 = .ok (.istore 9, 2) := by decide +kernel
theorem dL_isPaid_60 : decode cL_isPaid 60 = .ok (.iload 5, 2) := by decide +kernel
theorem dL_isPaid_62 : decode cL_isPaid 62 = .ok (.ifCond .lt 40, 3) := by decide +kernel
theorem dL_isPaid_65 : decode cL_isPaid 65 = .ok (.iload 6, 2) := by decide +kernel
theorem dL_isPaid_67 : decode cL_isPaid 67 = .ok (.ifCond .lt 35, 3) := by decide +kernel
theorem dL_isPaid_70 : decode cL_isPaid 70 = .ok (.iload 7, 2) := by decide +kernel
theorem dL_isPaid_72 : decode cL_isPaid 72 = .ok (.ifCond .lt 30, 3) := by decide +kernel
theorem dL_isPaid_75 : decode cL_isPaid 75 = .ok (.aload_n 0, 1) := by decide +kernel
theorem dL_isPaid_76 : decode cL_isPaid 76 = .ok (.iconst 0, 1) := by decide +kernel
theorem dL_isPaid_77 : decode cL_isPaid 77 = .ok (.invokevirtual 31, 3) := by decide +kernel
theorem dL_isPaid_80 : decode cL_isPaid 80 = .ok (.iload 8, 2) := by decide +kernel
theorem dL_isPaid_82 : decode cL_isPaid 82 = .ok (.iload 9, 2) := by decide +kernel
theorem dL_isPaid_84 : decode cL_isPaid 84 = .ok (.iadd, 1) := by decide +kernel
theorem dL_isPaid_85 : decode cL_isPaid 85 = .ok (.if_icmp .ne 17, 3) := by decide +kernel
theorem dL_isPaid_88 : decode cL_isPaid 88 = .ok (.iload 4, 2) := by decide +kernel
theorem dL_isPaid_90 : decode cL_isPaid 90 = .ok (.ifCond .ne 8, 3) := by decide +kernel
theorem dL_isPaid_93 : decode cL_isPaid 93 = .ok (.iload 9, 2) := by decide +kernel
theorem dL_isPaid_95 : decode cL_isPaid 95 = .ok (.ifCond .ne 7, 3) := by decide +kernel
theorem dL_isPaid_98 : decode cL_isPaid 98 = .ok (.iconst 1, 1) := by decide +kernel
theorem dL_isPaid_99 : decode cL_isPaid 99 = .ok (.goto 4, 3) := by decide +kernel
theorem dL_isPaid_102 : decode cL_isPaid 102 = .ok (.iconst 0, 1) := by decide +kernel
theorem dL_isPaid_103 : decode cL_isPaid 103 = .ok (.istore 10, 2) := by decide +kernel
theorem dL_isPaid_105 : decode cL_isPaid 105 = .ok (.iconst 0, 1) := by decide +kernel
theorem dL_isPaid_106 : decode cL_isPaid 106 = .ok (.istore 11, 2) := by decide +kernel
theorem dL_isPaid_108 : decode cL_isPaid 108 = .ok (.iload 11, 2) := by decide +kernel
theorem dL_isPaid_110 : decode cL_isPaid 110 = .ok (.bipush 7, 2) := by decide +kernel
theorem dL_isPaid_112 : decode cL_isPaid 112 = .ok (.if_icmp .ge 91, 3) := by decide +kernel
theorem dL_isPaid_115 : decode cL_isPaid 115 = .ok (.aload_n 0, 1) := by decide +kernel
theorem dL_isPaid_116 : decode cL_isPaid 116 = .ok (.iconst 0, 1) := by decide +kernel
theorem dL_isPaid_117 : decode cL_isPaid 117 = .ok (.iload 11, 2) := by decide +kernel
theorem dL_isPaid_119 : decode cL_isPaid 119 = .ok (.invokevirtual 34, 3) := by decide +kernel
theorem dL_isPaid_122 : decode cL_isPaid 122 = .ok (.istore 12, 2) := by decide +kernel
theorem dL_isPaid_124 : decode cL_isPaid 124 = .ok (.aload_n 1, 1) := by decide +kernel
theorem dL_isPaid_125 : decode cL_isPaid 125 = .ok (.iconst 3, 1) := by decide +kernel
theorem dL_isPaid_126 : decode cL_isPaid 126 = .ok (.iload 11, 2) := by decide +kernel
theorem dL_isPaid_128 : decode cL_isPaid 128 = .ok (.imul, 1) := by decide +kernel
theorem dL_isPaid_129 : decode cL_isPaid 129 = .ok (.iaload, 1) := by decide +kernel
theorem dL_isPaid_130 : decode cL_isPaid 130 = .ok (.aload_n 1, 1) := by decide +kernel
theorem dL_isPaid_131 : decode cL_isPaid 131 = .ok (.iconst 3, 1) := by decide +kernel
theorem dL_isPaid_132 : decode cL_isPaid 132 = .ok (.iload 11, 2) := by decide +kernel
theorem dL_isPaid_134 : decode cL_isPaid 134 = .ok (.imul, 1) := by decide +kernel
theorem dL_isPaid_135 : decode cL_isPaid 135 = .ok (.iconst 1, 1) := by decide +kernel
theorem dL_isPaid_136 : decode cL_isPaid 136 = .ok (.iadd, 1) := by decide +kernel
theorem dL_isPaid_137 : decode cL_isPaid 137 = .ok (.iaload, 1) := by decide +kernel
theorem dL_isPaid_138 : decode cL_isPaid 138 = .ok (.iadd, 1) := by decide +kernel
theorem dL_isPaid_139 : decode cL_isPaid 139 = .ok (.istore 13, 2) := by decide +kernel
theorem dL_isPaid_141 : decode cL_isPaid 141 = .ok (.iload 10, 2) := by decide +kernel
theorem dL_isPaid_143 : decode cL_isPaid 143 = .ok (.ifCond .eq 51, 3) := by decide +kernel
theorem dL_isPaid_146 : decode cL_isPaid 146 = .ok (.iload 13, 2) := by decide +kernel
theorem dL_isPaid_148 : decode cL_isPaid 148 = .ok (.aload_n 1, 1) := by decide +kernel
theorem dL_isPaid_149 : decode cL_isPaid 149 = .ok (.iconst 3, 1) := by decide +kernel
theorem dL_isPaid_150 : decode cL_isPaid 150 = .ok (.iload 11, 2) := by decide +kernel
theorem dL_isPaid_152 : decode cL_isPaid 152 = .ok (.imul, 1) := by decide +kernel
theorem dL_isPaid_153 : decode cL_isPaid 153 = .ok (.iconst 2, 1) := by decide +kernel
theorem dL_isPaid_154 : decode cL_isPaid 154 = .ok (.iadd, 1) := by decide +kernel
theorem dL_isPaid_155 : decode cL_isPaid 155 = .ok (.iaload, 1) := by decide +kernel
theorem dL_isPaid_156 : decode cL_isPaid 156 = .ok (.iadd, 1) := by decide +kernel
theorem dL_isPaid_157 : decode cL_isPaid 157 = .ok (.iload 12, 2) := by decide +kernel
theorem dL_isPaid_159 : decode cL_isPaid 159 = .ok (.if_icmp .gt 35, 3) := by decide +kernel
theorem dL_isPaid_162 : decode cL_isPaid 162 = .ok (.iload 12, 2) := by decide +kernel
theorem dL_isPaid_164 : decode cL_isPaid 164 = .ok (.sipush 1440, 3) := by decide +kernel
theorem dL_isPaid_167 : decode cL_isPaid 167 = .ok (.if_icmp .gt 27, 3) := by decide +kernel
theorem dL_isPaid_170 : decode cL_isPaid 170 = .ok (.aload_n 1, 1) := by decide +kernel
theorem dL_isPaid_171 : decode cL_isPaid 171 = .ok (.iconst 3, 1) := by decide +kernel
theorem dL_isPaid_172 : decode cL_isPaid 172 = .ok (.iload 11, 2) := by decide +kernel
theorem dL_isPaid_174 : decode cL_isPaid 174 = .ok (.imul, 1) := by decide +kernel
theorem dL_isPaid_175 : decode cL_isPaid 175 = .ok (.iaload, 1) := by decide +kernel
theorem dL_isPaid_176 : decode cL_isPaid 176 = .ok (.sipush 480, 3) := by decide +kernel
theorem dL_isPaid_179 : decode cL_isPaid 179 = .ok (.if_icmp .gt 15, 3) := by decide +kernel
theorem dL_isPaid_182 : decode cL_isPaid 182 = .ok (.iload 13, 2) := by decide +kernel
theorem dL_isPaid_184 : decode cL_isPaid 184 = .ok (.sipush 720, 3) := by decide +kernel
theorem dL_isPaid_187 : decode cL_isPaid 187 = .ok (.if_icmp .gt 7, 3) := by decide +kernel
theorem dL_isPaid_190 : decode cL_isPaid 190 = .ok (.iconst 1, 1) := by decide +kernel
theorem dL_isPaid_191 : decode cL_isPaid 191 = .ok (.goto 4, 3) := by decide +kernel
theorem dL_isPaid_194 : decode cL_isPaid 194 = .ok (.iconst 0, 1) := by decide +kernel
theorem dL_isPaid_195 : decode cL_isPaid 195 = .ok (.istore 10, 2) := by decide +kernel
theorem dL_isPaid_197 : decode cL_isPaid 197 = .ok (.iinc 11 1, 3) := by decide +kernel
theorem dL_isPaid_200 : decode cL_isPaid 200 = .ok (.goto (-92), 3) := by decide +kernel
theorem dL_isPaid_203 : decode cL_isPaid 203 = .ok (.iload 10, 2) := by decide +kernel
theorem dL_isPaid_205 : decode cL_isPaid 205 = .ok (.ireturn, 1) := by decide +kernel
theorem dL_isEmpty_0 : decode cL_isEmpty 0 = .ok (.aload_n 0, 1) := by decide +kernel
theorem dL_isEmpty_1 : decode cL_isEmpty 1 = .ok (.iload_n 1, 1) := by decide +kernel
theorem dL_isEmpty_2 : decode cL_isEmpty 2 = .ok (.invokevirtual 31, 3) := by decide +kernel
theorem dL_isEmpty_5 : decode cL_isEmpty 5 = .ok (.ifCond .ne 47, 3) := by decide +kernel
theorem dL_isEmpty_8 : decode cL_isEmpty 8 = .ok (.aload_n 0, 1) := by decide +kernel
theorem dL_isEmpty_9 : decode cL_isEmpty 9 = .ok (.iload_n 1, 1) := by decide +kernel
theorem dL_isEmpty_10 : decode cL_isEmpty 10 = .ok (.invokevirtual 38, 3) := by decide +kernel
theorem dL_isEmpty_13 : decode cL_isEmpty 13 = .ok (.ifCond .ne 39, 3) := by decide +kernel
theorem dL_isEmpty_16 : decode cL_isEmpty 16 = .ok (.aload_n 0, 1) := by decide +kernel
theorem dL_isEmpty_17 : decode cL_isEmpty 17 = .ok (.iload_n 1, 1) := by decide +kernel
theorem dL_isEmpty_18 : decode cL_isEmpty 18 = .ok (.invokevirtual 41, 3) := by decide +kernel
theorem dL_isEmpty_21 : decode cL_isEmpty 21 = .ok (.ifCond .ne 31, 3) := by decide +kernel
theorem dL_isEmpty_24 : decode cL_isEmpty 24 = .ok (.aload_n 0, 1) := by decide +kernel
theorem dL_isEmpty_25 : decode cL_isEmpty 25 = .ok (.iload_n 1, 1) := by decide +kernel
theorem dL_isEmpty_26 : decode cL_isEmpty 26 = .ok (.invokevirtual 44, 3) := by decide +kernel
theorem dL_isEmpty_29 : decode cL_isEmpty 29 = .ok (.ifCond .ne 23, 3) := by decide +kernel
theorem dL_isEmpty_32 : decode cL_isEmpty 32 = .ok (.aload_n 0, 1) := by decide +kernel
theorem dL_isEmpty_33 : decode cL_isEmpty 33 = .ok (.iload_n 1, 1) := by decide +kernel
theorem dL_isEmpty_34 : decode cL_isEmpty 34 = .ok (.invokevirtual 47, 3) := by decide +kernel
theorem dL_isEmpty_37 : decode cL_isEmpty 37 = .ok (.ifCond .ne 15, 3) := by decide +kernel
theorem dL_isEmpty_40 : decode cL_isEmpty 40 = .ok (.aload_n 0, 1) := by decide +kernel
theorem dL_isEmpty_41 : decode cL_isEmpty 41 = .ok (.iload_n 1, 1) := by decide +kernel
theorem dL_isEmpty_42 : decode cL_isEmpty 42 = .ok (.invokevirtual 50, 3) := by decide +kernel
theorem dL_isEmpty_45 : decode cL_isEmpty 45 = .ok (.ifCond .ne 7, 3) := by decide +kernel
theorem dL_isEmpty_48 : decode cL_isEmpty 48 = .ok (.iconst 1, 1) := by decide +kernel
theorem dL_isEmpty_49 : decode cL_isEmpty 49 = .ok (.goto 4, 3) := by decide +kernel
theorem dL_isEmpty_52 : decode cL_isEmpty 52 = .ok (.iconst 0, 1) := by decide +kernel
theorem dL_isEmpty_53 : decode cL_isEmpty 53 = .ok (.ireturn, 1) := by decide +kernel
