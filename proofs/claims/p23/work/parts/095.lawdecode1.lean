theorem dL_part_0 : decode cL_part 0 = .ok (.iload_n 0, 1) := by decide +kernel
theorem dL_part_1 : decode cL_part 1 = .ok (.ldc 7, 2) := by decide +kernel
theorem dL_part_3 : decode cL_part 3 = .ok (.iand, 1) := by decide +kernel
theorem dL_part_4 : decode cL_part 4 = .ok (.iload_n 1, 1) := by decide +kernel
theorem dL_part_5 : decode cL_part 5 = .ok (.irem, 1) := by decide +kernel
theorem dL_part_6 : decode cL_part 6 = .ok (.ireturn, 1) := by decide +kernel
theorem dL_cell_0 : decode cL_cell 0 = .ok (.aload_n 0, 1) := by decide +kernel
theorem dL_cell_1 : decode cL_cell 1 = .ok (.arraylength, 1) := by decide +kernel
theorem dL_cell_2 : decode cL_cell 2 = .ok (.ifCond .ne 13, 3) := by decide +kernel
theorem dL_cell_5 : decode cL_cell 5 = .ok (.sipush 7919, 3) := by decide +kernel
theorem dL_cell_8 : decode cL_cell 8 = .ok (.iload_n 1, 1) := by decide +kernel
theorem dL_cell_9 : decode cL_cell 9 = .ok (.imul, 1) := by decide +kernel
theorem dL_cell_10 : decode cL_cell 10 = .ok (.iconst 3, 1) := by decide +kernel
theorem dL_cell_11 : decode cL_cell 11 = .ok (.iadd, 1) := by decide +kernel
theorem dL_cell_12 : decode cL_cell 12 = .ok (.goto 27, 3) := by decide +kernel
theorem dL_cell_15 : decode cL_cell 15 = .ok (.aload_n 0, 1) := by decide +kernel
theorem dL_cell_16 : decode cL_cell 16 = .ok (.iload_n 1, 1) := by decide +kernel
theorem dL_cell_17 : decode cL_cell 17 = .ok (.aload_n 0, 1) := by decide +kernel
theorem dL_cell_18 : decode cL_cell 18 = .ok (.arraylength, 1) := by decide +kernel
theorem dL_cell_19 : decode cL_cell 19 = .ok (.irem, 1) := by decide +kernel
theorem dL_cell_20 : decode cL_cell 20 = .ok (.iaload, 1) := by decide +kernel
theorem dL_cell_21 : decode cL_cell 21 = .ok (.iload_n 1, 1) := by decide +kernel
theorem dL_cell_22 : decode cL_cell 22 = .ok (.bipush 7, 2) := by decide +kernel
theorem dL_cell_24 : decode cL_cell 24 = .ok (.irem, 1) := by decide +kernel
theorem dL_cell_25 : decode cL_cell 25 = .ok (.ishr, 1) := by decide +kernel
theorem dL_cell_26 : decode cL_cell 26 = .ok (.iload_n 1, 1) := by decide +kernel
theorem dL_cell_27 : decode cL_cell 27 = .ok (.aload_n 0, 1) := by decide +kernel
theorem dL_cell_28 : decode cL_cell 28 = .ok (.arraylength, 1) := by decide +kernel
theorem dL_cell_29 : decode cL_cell 29 = .ok (.idiv, 1) := by decide +kernel
theorem dL_cell_30 : decode cL_cell 30 = .ok (.bipush 31, 2) := by decide +kernel
theorem dL_cell_32 : decode cL_cell 32 = .ok (.imul, 1) := by decide +kernel
theorem dL_cell_33 : decode cL_cell 33 = .ok (.ixor, 1) := by decide +kernel
theorem dL_cell_34 : decode cL_cell 34 = .ok (.iload_n 1, 1) := by decide +kernel
theorem dL_cell_35 : decode cL_cell 35 = .ok (.ldc 8, 2) := by decide +kernel
theorem dL_cell_37 : decode cL_cell 37 = .ok (.imul, 1) := by decide +kernel
theorem dL_cell_38 : decode cL_cell 38 = .ok (.ixor, 1) := by decide +kernel
theorem dL_cell_39 : decode cL_cell 39 = .ok (.ireturn, 1) := by decide +kernel
theorem dL_number_0 : decode cL_number 0 = .ok (.iload_n 1, 1) := by decide +kernel
theorem dL_number_1 : decode cL_number 1 = .ok (.bipush 9, 2) := by decide +kernel
theorem dL_number_3 : decode cL_number 3 = .ok (.if_icmp .le 15, 3) := by decide +kernel
theorem dL_number_6 : decode cL_number 6 = .ok (.aload_n 0, 1) := by decide +kernel
theorem dL_number_7 : decode cL_number 7 = .ok (.bipush 48, 2) := by decide +kernel
theorem dL_number_9 : decode cL_number 9 = .ok (.iload_n 1, 1) := by decide +kernel
theorem dL_number_10 : decode cL_number 10 = .ok (.bipush 10, 2) := by decide +kernel
theorem dL_number_12 : decode cL_number 12 = .ok (.idiv, 1) := by decide +kernel
theorem dL_number_13 : decode cL_number 13 = .ok (.iadd, 1) := by decide +kernel
theorem dL_number_14 : decode cL_number 14 = .ok (.invokevirtual 9, 3) := by decide +kernel
theorem dL_number_17 : decode cL_number 17 = .ok (.pop, 1) := by decide +kernel
theorem dL_number_18 : decode cL_number 18 = .ok (.aload_n 0, 1) := by decide +kernel
theorem dL_number_19 : decode cL_number 19 = .ok (.bipush 48, 2) := by decide +kernel
theorem dL_number_21 : decode cL_number 21 = .ok (.iload_n 1, 1) := by decide +kernel
theorem dL_number_22 : decode cL_number 22 = .ok (.bipush 10, 2) := by decide +kernel
theorem dL_number_24 : decode cL_number 24 = .ok (.irem, 1) := by decide +kernel
theorem dL_number_25 : decode cL_number 25 = .ok (.iadd, 1) := by decide +kernel
theorem dL_number_26 : decode cL_number 26 = .ok (.invokevirtual 9, 3) := by decide +kernel
theorem dL_number_29 : decode cL_number 29 = .ok (.pop, 1) := by decide +kernel
theorem dL_number_30 : decode cL_number 30 = .ok (.aload_n 0, 1) := by decide +kernel
theorem dL_number_31 : decode cL_number 31 = .ok (.iload_n 2, 1) := by decide +kernel
theorem dL_number_32 : decode cL_number 32 = .ok (.invokevirtual 9, 3) := by decide +kernel
theorem dL_number_35 : decode cL_number 35 = .ok (.pop, 1) := by decide +kernel
theorem dL_number_36 : decode cL_number 36 = .ok (.return_, 1) := by decide +kernel
theorem dL_lays_0 : decode cL_lays 0 = .ok (.iconst 0, 1) := by decide +kernel
theorem dL_lays_1 : decode cL_lays 1 = .ok (.istore 8, 2) := by decide +kernel
theorem dL_lays_3 : decode cL_lays 3 = .ok (.iload 8, 2) := by decide +kernel
theorem dL_lays_5 : decode cL_lays 5 = .ok (.bipush 49, 2) := by decide +kernel
theorem dL_lays_7 : decode cL_lays 7 = .ok (.if_icmp .ge 15, 3) := by decide +kernel
theorem dL_lays_10 : decode cL_lays 10 = .ok (.aload 7, 2) := by decide +kernel
theorem dL_lays_12 : decode cL_lays 12 = .ok (.iload 8, 2) := by decide +kernel
theorem dL_lays_14 : decode cL_lays 14 = .ok (.iconst 0, 1) := by decide +kernel
theorem dL_lays_15 : decode cL_lays 15 = .ok (.iastore, 1) := by decide +kernel
theorem dL_lays_16 : decode cL_lays 16 = .ok (.iinc 8 1, 3) := by decide +kernel
theorem dL_lays_19 : decode cL_lays 19 = .ok (.goto (-16), 3) := by decide +kernel
theorem dL_lays_22 : decode cL_lays 22 = .ok (.aload_n 0, 1) := by decide +kernel
theorem dL_lays_23 : decode cL_lays 23 = .ok (.invokevirtual 15, 3) := by decide +kernel
theorem dL_lays_26 : decode cL_lays 26 = .ok (.pop, 1) := by decide +kernel
theorem dL_lays_27 : decode cL_lays 27 = .ok (.aload 7, 2) := by decide +kernel
theorem dL_lays_29 : decode cL_lays 29 = .ok (.iconst 0, 1) := by decide +kernel
theorem dL_lays_30 : decode cL_lays 30 = .ok (.iconst 1, 1) := by decide +kernel
theorem dL_lays_31 : decode cL_lays 31 = .ok (.aload_n 1, 1) := by decide +kernel
theorem dL_lays_32 : decode cL_lays 32 = .ok (.iload_n 2, 1) := by decide +kernel
theorem dL_lays_33 : decode cL_lays 33 = .ok (.invokestatic 19, 3) := by decide +kernel
theorem dL_lays_36 : decode cL_lays 36 = .ok (.iload_n 3, 1) := by decide +kernel
theorem dL_lays_37 : decode cL_lays 37 = .ok (.invokestatic 25, 3) := by decide +kernel
theorem dL_lays_40 : decode cL_lays 40 = .ok (.iadd, 1) := by decide +kernel
theorem dL_lays_41 : decode cL_lays 41 = .ok (.iastore, 1) := by decide +kernel
theorem dL_lays_42 : decode cL_lays 42 = .ok (.iconst 0, 1) := by decide +kernel
theorem dL_lays_43 : decode cL_lays 43 = .ok (.istore 8, 2) := by decide +kernel
theorem dL_lays_45 : decode cL_lays 45 = .ok (.iload 8, 2) := by decide +kernel
theorem dL_lays_47 : decode cL_lays 47 = .ok (.aload 7, 2) := by decide +kernel
theorem dL_lays_49 : decode cL_lays 49 = .ok (.iconst 0, 1) := by decide +kernel
theorem dL_lays_50 : decode cL_lays 50 = .ok (.iaload, 1) := by decide +kernel
theorem dL_lays_51 : decode cL_lays 51 = .ok (.if_icmp .ge 199, 3) := by decide +kernel
theorem dL_lays_54 : decode cL_lays 54 = .ok (.aload_n 0, 1) := by decide +kernel
theorem dL_lays_55 : decode cL_lays 55 = .ok (.bipush 115, 2) := by decide +kernel
theorem dL_lays_57 : decode cL_lays 57 = .ok (.invokevirtual 9, 3) := by decide +kernel
theorem dL_lays_60 : decode cL_lays 60 = .ok (.pop, 1) := by decide +kernel
theorem dL_lays_61 : decode cL_lays 61 = .ok (.aload_n 0, 1) := by decide +kernel
theorem dL_lays_62 : decode cL_lays 62 = .ok (.bipush 59, 2) := by decide +kernel
theorem dL_lays_64 : decode cL_lays 64 = .ok (.invokevirtual 9, 3) := by decide +kernel
theorem dL_lays_67 : decode cL_lays 67 = .ok (.pop, 1) := by decide +kernel
theorem dL_lays_68 : decode cL_lays 68 = .ok (.aload 7, 2) := by decide +kernel
theorem dL_lays_70 : decode cL_lays 70 = .ok (.iconst 1, 1) := by decide +kernel
theorem dL_lays_71 : decode cL_lays 71 = .ok (.iload 8, 2) := by decide +kernel
theorem dL_lays_73 : decode cL_lays 73 = .ok (.iadd, 1) := by decide +kernel
theorem dL_lays_74 : decode cL_lays 74 = .ok (.iconst 2, 1) := by decide +kernel
theorem dL_lays_75 : decode cL_lays 75 = .ok (.aload_n 1, 1) := by decide +kernel
theorem dL_lays_76 : decode cL_lays 76 = .ok (.iload_n 2, 1) := by decide +kernel
theorem dL_lays_77 : decode cL_lays 77 = .ok (.iconst 1, 1) := by decide +kernel
theorem dL_lays_78 : decode cL_lays 78 = .ok (.iadd, 1) := by decide +kernel
theorem dL_lays_79 : decode cL_lays 79 = .ok (.iload 8, 2) := by decide +kernel
theorem dL_lays_81 : decode cL_lays 81 = .ok (.iadd, 1) := by decide +kernel
theorem dL_lays_82 : decode cL_lays 82 = .ok (.invokestatic 19, 3) := by decide +kernel
theorem dL_lays_85 : decode cL_lays 85 = .ok (.iload 4, 2) := by decide +kernel
theorem dL_lays_87 : decode cL_lays 87 = .ok (.iconst 1, 1) := by decide +kernel
theorem dL_lays_88 : decode cL_lays 88 = .ok (.isub, 1) := by decide +kernel
theorem dL_lays_89 : decode cL_lays 89 = .ok (.invokestatic 25, 3) := by decide +kernel
theorem dL_lays_92 : decode cL_lays 92 = .ok (.iadd, 1) := by decide +kernel
theorem dL_lays_93 : decode cL_lays 93 = .ok (.iastore, 1) := by decide +kernel
theorem dL_lays_94 : decode cL_lays 94 = .ok (.iconst 0, 1) := by decide +kernel
theorem dL_lays_95 : decode cL_lays 95 = .ok (.istore 9, 2) := by decide +kernel
theorem dL_lays_97 : decode cL_lays 97 = .ok (.iload 9, 2) := by decide +kernel
theorem dL_lays_99 : decode cL_lays 99 = .ok (.aload 7, 2) := by decide +kernel
theorem dL_lays_101 : decode cL_lays 101 = .ok (.iconst 1, 1) := by decide +kernel
theorem dL_lays_102 : decode cL_lays 102 = .ok (.iload 8, 2) := by decide +kernel
theorem dL_lays_104 : decode cL_lays 104 = .ok (.iadd, 1) := by decide +kernel
theorem dL_lays_105 : decode cL_lays 105 = .ok (.iaload, 1) := by decide +kernel
theorem dL_lays_106 : decode cL_lays 106 = .ok (.if_icmp .ge 138, 3) := by decide +kernel
theorem dL_lays_109 : decode cL_lays 109 = .ok (.aload_n 1, 1) := by decide +kernel
theorem dL_lays_110 : decode cL_lays 110 = .ok (.iload_n 2, 1) := by decide +kernel
theorem dL_lays_111 : decode cL_lays 111 = .ok (.iconst 4, 1) := by decide +kernel
theorem dL_lays_112 : decode cL_lays 112 = .ok (.iadd, 1) := by decide +kernel
theorem dL_lays_113 : decode cL_lays 113 = .ok (.iconst 5, 1) := by decide +kernel
theorem dL_lays_114 : decode cL_lays 114 = .ok (.iload 8, 2) := by decide +kernel
theorem dL_lays_116 : decode cL_lays 116 = .ok (.imul, 1) := by decide +kernel
theorem dL_lays_117 : decode cL_lays 117 = .ok (.iadd, 1) := by decide +kernel
theorem dL_lays_118 : decode cL_lays 118 = .ok (.iload 9, 2) := by decide +kernel
theorem dL_lays_120 : decode cL_lays 120 = .ok (.iadd, 1) := by decide +kernel
theorem dL_lays_121 : decode cL_lays 121 = .ok (.invokestatic 19, 3) := by decide +kernel
theorem dL_lays_124 : decode cL_lays 124 = .ok (.istore 10, 2) := by decide +kernel
theorem dL_lays_126 : decode cL_lays 126 = .ok (.iconst 4, 1) := by decide +kernel
theorem dL_lays_127 : decode cL_lays 127 = .ok (.bipush 15, 2) := by decide +kernel
theorem dL_lays_129 : decode cL_lays 129 = .ok (.iload 8, 2) := by decide +kernel
theorem dL_lays_131 : decode cL_lays 131 = .ok (.imul, 1) := by decide +kernel
theorem dL_lays_132 : decode cL_lays 132 = .ok (.iadd, 1) := by decide +kernel
theorem dL_lays_133 : decode cL_lays 133 = .ok (.iconst 3, 1) := by decide +kernel
theorem dL_lays_134 : decode cL_lays 134 = .ok (.iload 9, 2) := by decide +kernel
theorem dL_lays_136 : decode cL_lays 136 = .ok (.imul, 1) := by decide +kernel
theorem dL_lays_137 : decode cL_lays 137 = .ok (.iadd, 1) := by decide +kernel
theorem dL_lays_138 : decode cL_lays 138 = .ok (.istore 11, 2) := by decide +kernel
theorem dL_lays_140 : decode cL_lays 140 = .ok (.aload 7, 2) := by decide +kernel
theorem dL_lays_142 : decode cL_lays 142 = .ok (.iload 11, 2) := by decide +kernel
theorem dL_lays_144 : decode cL_lays 144 = .ok (.iconst 1, 1) := by decide +kernel
theorem dL_lays_145 : decode cL_lays 145 = .ok (.iload 10, 2) := by decide +kernel
theorem dL_lays_147 : decode cL_lays 147 = .ok (.iload 5, 2) := by decide +kernel
theorem dL_lays_149 : decode cL_lays 149 = .ok (.invokestatic 25, 3) := by decide +kernel
theorem dL_lays_152 : decode cL_lays 152 = .ok (.iadd, 1) := by decide +kernel
theorem dL_lays_153 : decode cL_lays 153 = .ok (.iastore, 1) := by decide +kernel
theorem dL_lays_154 : decode cL_lays 154 = .ok (.aload 7, 2) := by decide +kernel
theorem dL_lays_156 : decode cL_lays 156 = .ok (.iload 11, 2) := by decide +kernel
theorem dL_lays_158 : decode cL_lays 158 = .ok (.iconst 1, 1) := by decide +kernel
theorem dL_lays_159 : decode cL_lays 159 = .ok (.iadd, 1) := by decide +kernel
theorem dL_lays_160 : decode cL_lays 160 = .ok (.iload 10, 2) := by decide +kernel
theorem dL_lays_162 : decode cL_lays 162 = .ok (.iconst 4, 1) := by decide +kernel
theorem dL_lays_163 : decode cL_lays 163 = .ok (.ishr, 1) := by decide +kernel
theorem dL_lays_164 : decode cL_lays 164 = .ok (.aload 7, 2) := by decide +kernel
theorem dL_lays_166 : decode cL_lays 166 = .ok (.iload 11, 2) := by decide +kernel
theorem dL_lays_168 : decode cL_lays 168 = .ok (.iaload, 1) := by decide +kernel
theorem dL_lays_169 : decode cL_lays 169 = .ok (.iconst 1, 1) := by decide +kernel
theorem dL_lays_170 : decode cL_lays 170 = .ok (.iadd, 1) := by decide +kernel
theorem dL_lays_171 : decode cL_lays 171 = .ok (.invokestatic 25, 3) := by decide +kernel
theorem dL_lays_174 : decode cL_lays 174 = .ok (.iastore, 1) := by decide +kernel
theorem dL_lays_175 : decode cL_lays 175 = .ok (.aload 7, 2) := by decide +kernel
theorem dL_lays_177 : decode cL_lays 177 = .ok (.iload 11, 2) := by decide +kernel
theorem dL_lays_179 : decode cL_lays 179 = .ok (.iconst 2, 1) := by decide +kernel
theorem dL_lays_180 : decode cL_lays 180 = .ok (.iadd, 1) := by decide +kernel
theorem dL_lays_181 : decode cL_lays 181 = .ok (.iload 10, 2) := by decide +kernel
theorem dL_lays_183 : decode cL_lays 183 = .ok (.bipush 8, 2) := by decide +kernel
theorem dL_lays_185 : decode cL_lays 185 = .ok (.ishr, 1) := by decide +kernel
theorem dL_lays_186 : decode cL_lays 186 = .ok (.iload 6, 2) := by decide +kernel
theorem dL_lays_188 : decode cL_lays 188 = .ok (.iconst 1, 1) := by decide +kernel
theorem dL_lays_189 : decode cL_lays 189 = .ok (.iadd, 1) := by decide +kernel
theorem dL_lays_190 : decode cL_lays 190 = .ok (.invokestatic 25, 3) := by decide +kernel
theorem dL_lays_193 : decode cL_lays 193 = .ok (.iastore, 1) := by decide +kernel
theorem dL_lays_194 : decode cL_lays 194 = .ok (.aload_n 0, 1) := by decide +kernel
theorem dL_lays_195 : decode cL_lays 195 = .ok (.bipush 99, 2) := by decide +kernel
theorem dL_lays_197 : decode cL_lays 197 = .ok (.invokevirtual 9, 3) := by decide +kernel
theorem dL_lays_200 : decode cL_lays 200 = .ok (.pop, 1) := by decide +kernel
theorem dL_lays_201 : decode cL_lays 201 = .ok (.aload_n 0, 1) := by decide +kernel
theorem dL_lays_202 : decode cL_lays 202 = .ok (.aload 7, 2) := by decide +kernel
theorem dL_lays_204 : decode cL_lays 204 = .ok (.iload 11, 2) := by decide +kernel
theorem dL_lays_206 : decode cL_lays 206 = .ok (.iaload, 1) := by decide +kernel
theorem dL_lays_207 : decode cL_lays 207 = .ok (.bipush 44, 2) := by decide +kernel
theorem dL_lays_209 : decode cL_lays 209 = .ok (.invokestatic 29, 3) := by decide +kernel
theorem dL_lays_212 : decode cL_lays 212 = .ok (.aload_n 0, 1) := by decide +kernel
theorem dL_lays_213 : decode cL_lays 213 = .ok (.aload 7, 2) := by decide +kernel
theorem dL_lays_215 : decode cL_lays 215 = .ok (.iload 11, 2) := by decide +kernel
theorem dL_lays_217 : decode cL_lays 217 = .ok (.iconst 1, 1) := by decide +kernel
theorem dL_lays_218 : decode cL_lays 218 = .ok (.iadd, 1) := by decide +kernel
theorem dL_lays_219 : decode cL_lays 219 = .ok (.iaload, 1) := by decide +kernel
theorem dL_lays_220 : decode cL_lays 220 = .ok (.bipush 44, 2) := by decide +kernel
theorem dL_lays_222 : decode cL_lays 222 = .ok (.invokestatic 29, 3) := by decide +kernel
theorem dL_lays_225 : decode cL_lays 225 = .ok (.aload_n 0, 1) := by decide +kernel
theorem dL_lays_226 : decode cL_lays 226 = .ok (.aload 7, 2) := by decide +kernel
theorem dL_lays_228 : decode cL_lays 228 = .ok (.iload 11, 2) := by decide +kernel
theorem dL_lays_230 : decode cL_lays 230 = .ok (.iconst 2, 1) := by decide +kernel
theorem dL_lays_231 : decode cL_lays 231 = .ok (.iadd, 1) := by decide +kernel
theorem dL_lays_232 : decode cL_lays 232 = .ok (.iaload, 1) := by decide +kernel
theorem dL_lays_233 : decode cL_lays 233 = .ok (.bipush 59, 2) := by decide +kernel
theorem dL_lays_235 : decode cL_lays 235 = .ok (.invokestatic 29, 3) := by decide +kernel
theorem dL_lays_238 : decode cL_lays 238 = .ok (.iinc 9 1, 3) := by decide +kernel
theorem dL_lays_241 : decode cL_lays 241 = .ok (.goto (-144), 3) := by decide +kernel
theorem dL_lays_244 : decode cL_lays 244 = .ok (.iinc 8 1, 3) := by decide +kernel
theorem dL_lays_247 : decode cL_lays 247 = .ok (.goto (-202), 3) := by decide +kernel
theorem dL_lays_250 : decode cL_lays 250 = .ok (.aload_n 0, 1) := by decide +kernel
theorem dL_lays_251 : decode cL_lays 251 = .ok (.invokevirtual 33, 3) := by decide +kernel
theorem dL_lays_254 : decode cL_lays 254 = .ok (.bipush (-4), 2) := by decide +kernel
theorem dL_lays_256 : decode cL_lays 256 = .ok (.if_icmp .ne 38, 3) := by decide +kernel
theorem dL_lays_259 : decode cL_lays 259 = .ok (.aload_n 0, 1) := by decide +kernel
theorem dL_lays_260 : decode cL_lays 260 = .ok (.invokevirtual 36, 3) := by decide +kernel
theorem dL_lays_263 : decode cL_lays 263 = .ok (.aload 7, 2) := by decide +kernel
theorem dL_lays_265 : decode cL_lays 265 = .ok (.iconst 0, 1) := by decide +kernel
theorem dL_lays_266 : decode cL_lays 266 = .ok (.iaload, 1) := by decide +kernel
theorem dL_lays_267 : decode cL_lays 267 = .ok (.if_icmp .ne 27, 3) := by decide +kernel
theorem dL_lays_270 : decode cL_lays 270 = .ok (.aload_n 0, 1) := by decide +kernel
theorem dL_lays_271 : decode cL_lays 271 = .ok (.iconst 0, 1) := by decide +kernel
theorem dL_lays_272 : decode cL_lays 272 = .ok (.invokevirtual 39, 3) := by decide +kernel
theorem dL_lays_275 : decode cL_lays 275 = .ok (.aload 7, 2) := by decide +kernel
theorem dL_lays_277 : decode cL_lays 277 = .ok (.iconst 0, 1) := by decide +kernel
theorem dL_lays_278 : decode cL_lays 278 = .ok (.iaload, 1) := by decide +kernel
theorem dL_lays_279 : decode cL_lays 279 = .ok (.if_icmp .ne 15, 3) := by decide +kernel
theorem dL_lays_282 : decode cL_lays 282 = .ok (.aload_n 0, 1) := by decide +kernel
theorem dL_lays_283 : decode cL_lays 283 = .ok (.iconst 5, 1) := by decide +kernel
theorem dL_lays_284 : decode cL_lays 284 = .ok (.invokevirtual 39, 3) := by decide +kernel
theorem dL_lays_287 : decode cL_lays 287 = .ok (.ifCond .ne 7, 3) := by decide +kernel
theorem dL_lays_290 : decode cL_lays 290 = .ok (.iconst 1, 1) := by decide +kernel
theorem dL_lays_291 : decode cL_lays 291 = .ok (.goto 4, 3) := by decide +kernel
theorem dL_lays_294 : decode cL_lays 294 = .ok (.iconst 0, 1) := by decide +kernel
theorem dL_lays_295 : decode cL_lays 295 = .ok (.ireturn, 1) := by decide +kernel
theorem dL_whole_0 : decode cL_whole 0 = .ok (.ldc2_w 42, 3) := by decide +kernel
theorem dL_whole_3 : decode cL_whole 3 = .ok (.lstore_n 1, 1) := by decide +kernel
theorem dL_whole_4 : decode cL_whole 4 = .ok (.iconst 0, 1) := by decide +kernel
theorem dL_whole_5 : decode cL_whole 5 = .ok (.istore_n 3, 1) := by decide +kernel
theorem dL_whole_6 : decode cL_whole 6 = .ok (.iload_n 3, 1) := by decide +kernel
theorem dL_whole_7 : decode cL_whole 7 = .ok (.iconst 5, 1) := by decide +kernel
theorem dL_whole_8 : decode cL_whole 8 = .ok (.if_icmp .ge 22, 3) := by decide +kernel
theorem dL_whole_11 : decode cL_whole 11 = .ok (.ldc2_w 44, 3) := by decide +kernel
theorem dL_whole_14 : decode cL_whole 14 = .ok (.lload_n 1, 1) := by decide +kernel
theorem dL_whole_15 : decode cL_whole 15 = .ok (.lmul, 1) := by decide +kernel
theorem dL_whole_16 : decode cL_whole 16 = .ok (.aload_n 0, 1) := by decide +kernel
theorem dL_whole_17 : decode cL_whole 17 = .ok (.iload_n 3, 1) := by decide +kernel
theorem dL_whole_18 : decode cL_whole 18 = .ok (.invokevirtual 39, 3) := by decide +kernel
theorem dL_whole_21 : decode cL_whole 21 = .ok (.i2l, 1) := by decide +kernel
theorem dL_whole_22 : decode cL_whole 22 = .ok (.ladd, 1) := by decide +kernel
theorem dL_whole_23 : decode cL_whole 23 = .ok (.lstore_n 1, 1) := by decide +kernel
theorem dL_whole_24 : decode cL_whole 24 = .ok (.iinc 3 1, 3) := by decide +kernel
theorem dL_whole_27 : decode cL_whole 27 = .ok (.goto (-21), 3) := by decide +kernel
theorem dL_whole_30 : decode cL_whole 30 = .ok (.iconst 0, 1) := by decide +kernel
theorem dL_whole_31 : decode cL_whole 31 = .ok (.istore_n 3, 1) := by decide +kernel
theorem dL_whole_32 : decode cL_whole 32 = .ok (.iload_n 3, 1) := by decide +kernel
theorem dL_whole_33 : decode cL_whole 33 = .ok (.aload_n 0, 1) := by decide +kernel
theorem dL_whole_34 : decode cL_whole 34 = .ok (.iconst 0, 1) := by decide +kernel
theorem dL_whole_35 : decode cL_whole 35 = .ok (.invokevirtual 39, 3) := by decide +kernel
theorem dL_whole_38 : decode cL_whole 38 = .ok (.if_icmp .ge 116, 3) := by decide +kernel
theorem dL_whole_41 : decode cL_whole 41 = .ok (.iconst 0, 1) := by decide +kernel
theorem dL_whole_42 : decode cL_whole 42 = .ok (.istore 4, 2) := by decide +kernel
theorem dL_whole_44 : decode cL_whole 44 = .ok (.iload 4, 2) := by decide +kernel
theorem dL_whole_46 : decode cL_whole 46 = .ok (.bipush 7, 2) := by decide +kernel
theorem dL_whole_48 : decode cL_whole 48 = .ok (.if_icmp .ge 24, 3) := by decide +kernel
theorem dL_whole_51 : decode cL_whole 51 = .ok (.ldc2_w 44, 3) := by decide +kernel
theorem dL_whole_54 : decode cL_whole 54 = .ok (.lload_n 1, 1) := by decide +kernel
theorem dL_whole_55 : decode cL_whole 55 = .ok (.lmul, 1) := by decide +kernel
theorem dL_whole_56 : decode cL_whole 56 = .ok (.aload_n 0, 1) := by decide +kernel
theorem dL_whole_57 : decode cL_whole 57 = .ok (.iload_n 3, 1) := by decide +kernel
theorem dL_whole_58 : decode cL_whole 58 = .ok (.iload 4, 2) := by decide +kernel
theorem dL_whole_60 : decode cL_whole 60 = .ok (.invokevirtual 46, 3) := by decide +kernel
theorem dL_whole_63 : decode cL_whole 63 = .ok (.i2l, 1) := by decide +kernel
theorem dL_whole_64 : decode cL_whole 64 = .ok (.ladd, 1) := by decide +kernel
theorem dL_whole_65 : decode cL_whole 65 = .ok (.lstore_n 1, 1) := by decide +kernel
theorem dL_whole_66 : decode cL_whole 66 = .ok (.iinc 4 1, 3) := by decide +kernel
theorem dL_whole_69 : decode cL_whole 69 = .ok (.goto (-25), 3) := by decide +kernel
theorem dL_whole_72 : decode cL_whole 72 = .ok (.iconst 0, 1) := by decide +kernel
theorem dL_whole_73 : decode cL_whole 73 = .ok (.istore 4, 2) := by decide +kernel
theorem dL_whole_75 : decode cL_whole 75 = .ok (.iload 4, 2) := by decide +kernel
theorem dL_whole_77 : decode cL_whole 77 = .ok (.aload_n 0, 1) := by decide +kernel
theorem dL_whole_78 : decode cL_whole 78 = .ok (.iload_n 3, 1) := by decide +kernel
theorem dL_whole_79 : decode cL_whole 79 = .ok (.iconst 0, 1) := by decide +kernel
theorem dL_whole_80 : decode cL_whole 80 = .ok (.invokevirtual 46, 3) := by decide +kernel
theorem dL_whole_83 : decode cL_whole 83 = .ok (.if_icmp .ge 41, 3) := by decide +kernel
theorem dL_whole_86 : decode cL_whole 86 = .ok (.iconst 0, 1) := by decide +kernel
theorem dL_whole_87 : decode cL_whole 87 = .ok (.istore 5, 2) := by decide +kernel
theorem dL_whole_89 : decode cL_whole 89 = .ok (.iload 5, 2) := by decide +kernel
theorem dL_whole_91 : decode cL_whole 91 = .ok (.iconst 3, 1) := by decide +kernel
theorem dL_whole_92 : decode cL_whole 92 = .ok (.if_icmp .ge 26, 3) := by decide +kernel
theorem dL_whole_95 : decode cL_whole 95 = .ok (.ldc2_w 44, 3) := by decide +kernel
theorem dL_whole_98 : decode cL_whole 98 = .ok (.lload_n 1, 1) := by decide +kernel
theorem dL_whole_99 : decode cL_whole 99 = .ok (.lmul, 1) := by decide +kernel
theorem dL_whole_100 : decode cL_whole 100 = .ok (.aload_n 0, 1) := by decide +kernel
theorem dL_whole_101 : decode cL_whole 101 = .ok (.iload_n 3, 1) := by decide +kernel
theorem dL_whole_102 : decode cL_whole 102 = .ok (.iload 4, 2) := by decide +kernel
theorem dL_whole_104 : decode cL_whole 104 = .ok (.iload 5, 2) := by decide +kernel
theorem dL_whole_106 : decode cL_whole 106 = .ok (.invokevirtual 49, 3) := by decide +kernel
theorem dL_whole_109 : decode cL_whole 109 = .ok (.i2l, 1) := by decide +kernel
theorem dL_whole_110 : decode cL_whole 110 = .ok (.ladd, 1) := by decide +kernel
theorem dL_whole_111 : decode cL_whole 111 = .ok (.lstore_n 1, 1) := by decide +kernel
theorem dL_whole_112 : decode cL_whole 112 = .ok (.iinc 5 1, 3) := by decide +kernel
theorem dL_whole_115 : decode cL_whole 115 = .ok (.goto (-26), 3) := by decide +kernel
theorem dL_whole_118 : decode cL_whole 118 = .ok (.iinc 4 1, 3) := by decide +kernel
theorem dL_whole_121 : decode cL_whole 121 = .ok (.goto (-46), 3) := by decide +kernel
theorem dL_whole_124 : decode cL_whole 124 = .ok (.ldc2_w 44, 3) := by decide +kernel
theorem dL_whole_127 : decode cL_whole 127 = .ok (.ldc2_w 44, 3) := by decide +kernel
theorem dL_whole_130 : decode cL_whole 130 = .ok (.lload_n 1, 1) := by decide +kernel
theorem dL_whole_131 : decode cL_whole 131 = .ok (.lmul, 1) := by decide +kernel
theorem dL_whole_132 : decode cL_whole 132 = .ok (.aload_n 0, 1) := by decide +kernel
theorem dL_whole_133 : decode cL_whole 133 = .ok (.iload_n 3, 1) := by decide +kernel
theorem dL_whole_134 : decode cL_whole 134 = .ok (.iconst 0, 1) := by decide +kernel
theorem dL_whole_135 : decode cL_whole 135 = .ok (.invokevirtual 53, 3) := by decide +kernel
theorem dL_whole_138 : decode cL_whole 138 = .ok (.ladd, 1) := by decide +kernel
theorem dL_whole_139 : decode cL_whole 139 = .ok (.lmul, 1) := by decide +kernel
theorem dL_whole_140 : decode cL_whole 140 = .ok (.aload_n 0, 1) := by decide +kernel
theorem dL_whole_141 : decode cL_whole 141 = .ok (.iload_n 3, 1) := by decide +kernel
theorem dL_whole_142 : decode cL_whole 142 = .ok (.invokevirtual 57, 3) := by decide +kernel
theorem dL_whole_145 : decode cL_whole 145 = .ok (.i2l, 1) := by decide +kernel
theorem dL_whole_146 : decode cL_whole 146 = .ok (.ladd, 1) := by decide +kernel
theorem dL_whole_147 : decode cL_whole 147 = .ok (.lstore_n 1, 1) := by decide +kernel
theorem dL_whole_148 : decode cL_whole 148 = .ok (.iinc 3 1, 3) := by decide +kernel
theorem dL_whole_151 : decode cL_whole 151 = .ok (.goto (-119), 3) := by decide +kernel
theorem dL_whole_154 : decode cL_whole 154 = .ok (.lload_n 1, 1) := by decide +kernel
theorem dL_whole_155 : decode cL_whole 155 = .ok (.lreturn, 1) := by decide +kernel
theorem dL_holds_0 : decode cL_holds 0 = .ok (.aload_n 0, 1) := by decide +kernel
theorem dL_holds_1 : decode cL_holds 1 = .ok (.iload_n 1, 1) := by decide +kernel
theorem dL_holds_2 : decode cL_holds 2 = .ok (.iconst 0, 1) := by decide +kernel
theorem dL_holds_3 : decode cL_holds 3 = .ok (.invokevirtual 46, 3) := by decide +kernel
theorem dL_holds_6 : decode cL_holds 6 = .ok (.istore_n 3, 1) := by decide +kernel
theorem dL_holds_7 : decode cL_holds 7 = .ok (.aload_n 0, 1) := by decide +kernel
theorem dL_holds_8 : decode cL_holds 8 = .ok (.iload_n 1, 1) := by decide +kernel
theorem dL_holds_9 : decode cL_holds 9 = .ok (.iconst 2, 1) := by decide +kernel
theorem dL_holds_10 : decode cL_holds 10 = .ok (.invokevirtual 46, 3) := by decide +kernel
theorem dL_holds_13 : decode cL_holds 13 = .ok (.istore 4, 2) := by decide +kernel
theorem dL_holds_15 : decode cL_holds 15 = .ok (.aload_n 0, 1) := by decide +kernel
theorem dL_holds_16 : decode cL_holds 16 = .ok (.iload_n 1, 1) := by decide +kernel
theorem dL_holds_17 : decode cL_holds 17 = .ok (.iconst 4, 1) := by decide +kernel
theorem dL_holds_18 : decode cL_holds 18 = .ok (.invokevirtual 46, 3) := by decide +kernel
theorem dL_holds_21 : decode cL_holds 21 = .ok (.istore 5, 2) := by decide +kernel
theorem dL_holds_23 : decode cL_holds 23 = .ok (.aload_n 0, 1) := by decide +kernel
theorem dL_holds_24 : decode cL_holds 24 = .ok (.iload_n 1, 1) := by decide +kernel
theorem dL_holds_25 : decode cL_holds 25 = .ok (.invokevirtual 57, 3) := by decide +kernel
theorem dL_holds_28 : decode cL_holds 28 = .ok (.istore 6, 2) := by decide +kernel
theorem dL_holds_30 : decode cL_holds 30 = .ok (.iload 6, 2) := by decide +kernel
theorem dL_holds_32 : decode cL_holds 32 = .ok (.ifCond .lt 10, 3) := by decide +kernel
theorem dL_holds_35 : decode cL_holds 35 = .ok (.iload 6, 2) := by decide +kernel
theorem dL_holds_37 : decode cL_holds 37 = .ok (.iload 5, 2) := by decide +kernel
theorem dL_holds_39 : decode cL_holds 39 = .ok (.if_icmp .lt 5, 3) := by decide +kernel
theorem dL_holds_42 : decode cL_holds 42 = .ok (.iconst 0, 1) := by decide +kernel
theorem dL_holds_43 : decode cL_holds 43 = .ok (.ireturn, 1) := by decide +kernel
theorem dL_holds_44 : decode cL_holds 44 = .ok (.iconst 0, 1) := by decide +kernel
theorem dL_holds_45 : decode cL_holds 45 = .ok (.istore 7, 2) := by decide +kernel
theorem dL_holds_47 : decode cL_holds 47 = .ok (.iload 7, 2) := by decide +kernel
theorem dL_holds_49 : decode cL_holds 49 = .ok (.iload_n 3, 1) := by decide +kernel
theorem dL_holds_50 : decode cL_holds 50 = .ok (.if_icmp .ge 31, 3) := by decide +kernel
theorem dL_holds_53 : decode cL_holds 53 = .ok (.aload_n 0, 1) := by decide +kernel
theorem dL_holds_54 : decode cL_holds 54 = .ok (.iload_n 1, 1) := by decide +kernel
theorem dL_holds_55 : decode cL_holds 55 = .ok (.iload 6, 2) := by decide +kernel
theorem dL_holds_57 : decode cL_holds 57 = .ok (.iload 7, 2) := by decide +kernel
theorem dL_holds_59 : decode cL_holds 59 = .ok (.invokevirtual 60, 3) := by decide +kernel
theorem dL_holds_62 : decode cL_holds 62 = .ok (.aload_n 0, 1) := by decide +kernel
theorem dL_holds_63 : decode cL_holds 63 = .ok (.iload_n 1, 1) := by decide +kernel
theorem dL_holds_64 : decode cL_holds 64 = .ok (.iload 7, 2) := by decide +kernel
theorem dL_holds_66 : decode cL_holds 66 = .ok (.iconst 1, 1) := by decide +kernel
theorem dL_holds_67 : decode cL_holds 67 = .ok (.invokevirtual 49, 3) := by decide +kernel
theorem dL_holds_70 : decode cL_holds 70 = .ok (.if_icmp .eq 5, 3) := by decide +kernel
theorem dL_holds_73 : decode cL_holds 73 = .ok (.iconst 0, 1) := by decide +kernel
theorem dL_holds_74 : decode cL_holds 74 = .ok (.ireturn, 1) := by decide +kernel
theorem dL_holds_75 : decode cL_holds 75 = .ok (.iinc 7 1, 3) := by decide +kernel
theorem dL_holds_78 : decode cL_holds 78 = .ok (.goto (-31), 3) := by decide +kernel
theorem dL_holds_81 : decode cL_holds 81 = .ok (.iload_n 2, 1) := by decide +kernel
theorem dL_holds_82 : decode cL_holds 82 = .ok (.iload 5, 2) := by decide +kernel
theorem dL_holds_84 : decode cL_holds 84 = .ok (.invokestatic 25, 3) := by decide +kernel
theorem dL_holds_87 : decode cL_holds 87 = .ok (.istore 7, 2) := by decide +kernel
theorem dL_holds_89 : decode cL_holds 89 = .ok (.iconst 0, 1) := by decide +kernel
theorem dL_holds_90 : decode cL_holds 90 = .ok (.istore 8, 2) := by decide +kernel
theorem dL_holds_92 : decode cL_holds 92 = .ok (.iload 7, 2) := by decide +kernel
theorem dL_holds_94 : decode cL_holds 94 = .ok (.iconst 1, 1) := by decide +kernel
theorem dL_holds_95 : decode cL_holds 95 = .ok (.iadd, 1) := by decide +kernel
theorem dL_holds_96 : decode cL_holds 96 = .ok (.iload 5, 2) := by decide +kernel
theorem dL_holds_98 : decode cL_holds 98 = .ok (.if_icmp .lt 7, 3) := by decide +kernel
theorem dL_holds_101 : decode cL_holds 101 = .ok (.iconst 1, 1) := by decide +kernel
theorem dL_holds_102 : decode cL_holds 102 = .ok (.goto 4, 3) := by decide +kernel
theorem dL_holds_105 : decode cL_holds 105 = .ok (.iconst 0, 1) := by decide +kernel
theorem dL_holds_106 : decode cL_holds 106 = .ok (.istore 9, 2) := by decide +kernel
theorem dL_holds_108 : decode cL_holds 108 = .ok (.iconst 0, 1) := by decide +kernel
theorem dL_holds_109 : decode cL_holds 109 = .ok (.istore 10, 2) := by decide +kernel
theorem dL_holds_111 : decode cL_holds 111 = .ok (.iload 10, 2) := by decide +kernel
theorem dL_holds_113 : decode cL_holds 113 = .ok (.iload_n 3, 1) := by decide +kernel
theorem dL_holds_114 : decode cL_holds 114 = .ok (.if_icmp .ge 98, 3) := by decide +kernel
theorem dL_holds_117 : decode cL_holds 117 = .ok (.aload_n 0, 1) := by decide +kernel
theorem dL_holds_118 : decode cL_holds 118 = .ok (.iload_n 1, 1) := by decide +kernel
theorem dL_holds_119 : decode cL_holds 119 = .ok (.iload 7, 2) := by decide +kernel
theorem dL_holds_121 : decode cL_holds 121 = .ok (.iload 10, 2) := by decide +kernel
theorem dL_holds_123 : decode cL_holds 123 = .ok (.invokevirtual 60, 3) := by decide +kernel
theorem dL_holds_126 : decode cL_holds 126 = .ok (.istore 11, 2) := by decide +kernel
theorem dL_holds_128 : decode cL_holds 128 = .ok (.iload 8, 2) := by decide +kernel
theorem dL_holds_130 : decode cL_holds 130 = .ok (.iload 11, 2) := by decide +kernel
theorem dL_holds_132 : decode cL_holds 132 = .ok (.iadd, 1) := by decide +kernel
theorem dL_holds_133 : decode cL_holds 133 = .ok (.istore 8, 2) := by decide +kernel
theorem dL_holds_135 : decode cL_holds 135 = .ok (.iload 11, 2) := by decide +kernel
theorem dL_holds_137 : decode cL_holds 137 = .ok (.ifCond .lt 16, 3) := by decide +kernel
theorem dL_holds_140 : decode cL_holds 140 = .ok (.iload 11, 2) := by decide +kernel
theorem dL_holds_142 : decode cL_holds 142 = .ok (.aload_n 0, 1) := by decide +kernel
theorem dL_holds_143 : decode cL_holds 143 = .ok (.iload_n 1, 1) := by decide +kernel
theorem dL_holds_144 : decode cL_holds 144 = .ok (.iload 10, 2) := by decide +kernel
theorem dL_holds_146 : decode cL_holds 146 = .ok (.iconst 0, 1) := by decide +kernel
theorem dL_holds_147 : decode cL_holds 147 = .ok (.invokevirtual 49, 3) := by decide +kernel
theorem dL_holds_150 : decode cL_holds 150 = .ok (.if_icmp .le 5, 3) := by decide +kernel
theorem dL_holds_153 : decode cL_holds 153 = .ok (.iconst 0, 1) := by decide +kernel
theorem dL_holds_154 : decode cL_holds 154 = .ok (.ireturn, 1) := by decide +kernel
theorem dL_holds_155 : decode cL_holds 155 = .ok (.iload 9, 2) := by decide +kernel
theorem dL_holds_157 : decode cL_holds 157 = .ok (.ifCond .ne 21, 3) := by decide +kernel
theorem dL_holds_160 : decode cL_holds 160 = .ok (.aload_n 0, 1) := by decide +kernel
theorem dL_holds_161 : decode cL_holds 161 = .ok (.iload_n 1, 1) := by decide +kernel
theorem dL_holds_162 : decode cL_holds 162 = .ok (.iload 7, 2) := by decide +kernel
theorem dL_holds_164 : decode cL_holds 164 = .ok (.iconst 1, 1) := by decide +kernel
theorem dL_holds_165 : decode cL_holds 165 = .ok (.iadd, 1) := by decide +kernel
theorem dL_holds_166 : decode cL_holds 166 = .ok (.iload 10, 2) := by decide +kernel
theorem dL_holds_168 : decode cL_holds 168 = .ok (.invokevirtual 60, 3) := by decide +kernel
theorem dL_holds_171 : decode cL_holds 171 = .ok (.iload 11, 2) := by decide +kernel
theorem dL_holds_173 : decode cL_holds 173 = .ok (.if_icmp .ge 5, 3) := by decide +kernel
theorem dL_holds_176 : decode cL_holds 176 = .ok (.iconst 0, 1) := by decide +kernel
theorem dL_holds_177 : decode cL_holds 177 = .ok (.ireturn, 1) := by decide +kernel
theorem dL_holds_178 : decode cL_holds 178 = .ok (.iload 9, 2) := by decide +kernel
theorem dL_holds_180 : decode cL_holds 180 = .ok (.ifCond .ne 19, 3) := by decide +kernel
theorem dL_holds_183 : decode cL_holds 183 = .ok (.aload_n 0, 1) := by decide +kernel
theorem dL_holds_184 : decode cL_holds 184 = .ok (.iload_n 1, 1) := by decide +kernel
theorem dL_holds_185 : decode cL_holds 185 = .ok (.iload 7, 2) := by decide +kernel
theorem dL_holds_187 : decode cL_holds 187 = .ok (.iconst 1, 1) := by decide +kernel
theorem dL_holds_188 : decode cL_holds 188 = .ok (.iadd, 1) := by decide +kernel
theorem dL_holds_189 : decode cL_holds 189 = .ok (.iload 10, 2) := by decide +kernel
theorem dL_holds_191 : decode cL_holds 191 = .ok (.invokevirtual 60, 3) := by decide +kernel
theorem dL_holds_194 : decode cL_holds 194 = .ok (.iload 11, 2) := by decide +kernel
theorem dL_holds_196 : decode cL_holds 196 = .ok (.if_icmp .le 7, 3) := by decide +kernel
theorem dL_holds_199 : decode cL_holds 199 = .ok (.iconst 1, 1) := by decide +kernel
theorem dL_holds_200 : decode cL_holds 200 = .ok (.goto 4, 3) := by decide +kernel
theorem dL_holds_203 : decode cL_holds 203 = .ok (.iconst 0, 1) := by decide +kernel
theorem dL_holds_204 : decode cL_holds 204 = .ok (.istore 9, 2) := by decide +kernel
theorem dL_holds_206 : decode cL_holds 206 = .ok (.iinc 10 1, 3) := by decide +kernel
theorem dL_holds_209 : decode cL_holds 209 = .ok (.goto (-98), 3) := by decide +kernel
theorem dL_holds_212 : decode cL_holds 212 = .ok (.iload 8, 2) := by decide +kernel
theorem dL_holds_214 : decode cL_holds 214 = .ok (.iload 4, 2) := by decide +kernel
theorem dL_holds_216 : decode cL_holds 216 = .ok (.if_icmp .ne 8, 3) := by decide +kernel
theorem dL_holds_219 : decode cL_holds 219 = .ok (.iload 9, 2) := by decide +kernel
theorem dL_holds_221 : decode cL_holds 221 = .ok (.ifCond .ne 5, 3) := by decide +kernel
theorem dL_holds_224 : decode cL_holds 224 = .ok (.iconst 0, 1) := by decide +kernel
theorem dL_holds_225 : decode cL_holds 225 = .ok (.ireturn, 1) := by decide +kernel
theorem dL_holds_226 : decode cL_holds 226 = .ok (.aload_n 0, 1) := by decide +kernel
theorem dL_holds_227 : decode cL_holds 227 = .ok (.iload_n 1, 1) := by decide +kernel
theorem dL_holds_228 : decode cL_holds 228 = .ok (.iconst 1, 1) := by decide +kernel
theorem dL_holds_229 : decode cL_holds 229 = .ok (.invokevirtual 53, 3) := by decide +kernel
theorem dL_holds_232 : decode cL_holds 232 = .ok (.lstore 10, 2) := by decide +kernel
theorem dL_holds_234 : decode cL_holds 234 = .ok (.lconst 0, 1) := by decide +kernel
theorem dL_holds_235 : decode cL_holds 235 = .ok (.lstore 12, 2) := by decide +kernel
theorem dL_holds_237 : decode cL_holds 237 = .ok (.iload_n 2, 1) := by decide +kernel
theorem dL_holds_238 : decode cL_holds 238 = .ok (.iconst 5, 1) := by decide +kernel
theorem dL_holds_239 : decode cL_holds 239 = .ok (.ishr, 1) := by decide +kernel
theorem dL_holds_240 : decode cL_holds 240 = .ok (.iload_n 3, 1) := by decide +kernel
theorem dL_holds_241 : decode cL_holds 241 = .ok (.iconst 1, 1) := by decide +kernel
theorem dL_holds_242 : decode cL_holds 242 = .ok (.iadd, 1) := by decide +kernel
theorem dL_holds_243 : decode cL_holds 243 = .ok (.invokestatic 25, 3) := by decide +kernel
theorem dL_holds_246 : decode cL_holds 246 = .ok (.istore 14, 2) := by decide +kernel
theorem dL_holds_248 : decode cL_holds 248 = .ok (.iconst 0, 1) := by decide +kernel
theorem dL_holds_249 : decode cL_holds 249 = .ok (.istore 15, 2) := by decide +kernel
theorem dL_holds_251 : decode cL_holds 251 = .ok (.iload 15, 2) := by decide +kernel
theorem dL_holds_253 : decode cL_holds 253 = .ok (.iload 4, 2) := by decide +kernel
theorem dL_holds_255 : decode cL_holds 255 = .ok (.if_icmp .gt 54, 3) := by decide +kernel
theorem dL_holds_258 : decode cL_holds 258 = .ok (.lload 12, 2) := by decide +kernel
theorem dL_holds_260 : decode cL_holds 260 = .ok (.aload_n 0, 1) := by decide +kernel
theorem dL_holds_261 : decode cL_holds 261 = .ok (.iload_n 1, 1) := by decide +kernel
theorem dL_holds_262 : decode cL_holds 262 = .ok (.iload 14, 2) := by decide +kernel
theorem dL_holds_264 : decode cL_holds 264 = .ok (.iload 15, 2) := by decide +kernel
theorem dL_holds_266 : decode cL_holds 266 = .ok (.iconst 0, 1) := by decide +kernel
theorem dL_holds_267 : decode cL_holds 267 = .ok (.invokevirtual 63, 3) := by decide +kernel
theorem dL_holds_270 : decode cL_holds 270 = .ok (.lconst 0, 1) := by decide +kernel
theorem dL_holds_271 : decode cL_holds 271 = .ok (.lcmp, 1) := by decide +kernel
theorem dL_holds_272 : decode cL_holds 272 = .ok (.ifCond .ge 7, 3) := by decide +kernel
theorem dL_holds_275 : decode cL_holds 275 = .ok (.lconst 0, 1) := by decide +kernel
theorem dL_holds_276 : decode cL_holds 276 = .ok (.goto 24, 3) := by decide +kernel
theorem dL_holds_279 : decode cL_holds 279 = .ok (.aload_n 0, 1) := by decide +kernel
theorem dL_holds_280 : decode cL_holds 280 = .ok (.iload_n 1, 1) := by decide +kernel
theorem dL_holds_281 : decode cL_holds 281 = .ok (.iload 14, 2) := by decide +kernel
theorem dL_holds_283 : decode cL_holds 283 = .ok (.iload 15, 2) := by decide +kernel
theorem dL_holds_285 : decode cL_holds 285 = .ok (.iconst 0, 1) := by decide +kernel
theorem dL_holds_286 : decode cL_holds 286 = .ok (.invokevirtual 63, 3) := by decide +kernel
theorem dL_holds_289 : decode cL_holds 289 = .ok (.aload_n 0, 1) := by decide +kernel
theorem dL_holds_290 : decode cL_holds 290 = .ok (.iload_n 1, 1) := by decide +kernel
theorem dL_holds_291 : decode cL_holds 291 = .ok (.iload 14, 2) := by decide +kernel
theorem dL_holds_293 : decode cL_holds 293 = .ok (.iload 15, 2) := by decide +kernel
theorem dL_holds_295 : decode cL_holds 295 = .ok (.iconst 1, 1) := by decide +kernel
theorem dL_holds_296 : decode cL_holds 296 = .ok (.invokevirtual 63, 3) := by decide +kernel
theorem dL_holds_299 : decode cL_holds 299 = .ok (.lmul, 1) := by decide +kernel
theorem dL_holds_300 : decode cL_holds 300 = .ok (.ladd, 1) := by decide +kernel
theorem dL_holds_301 : decode cL_holds 301 = .ok (.lstore 12, 2) := by decide +kernel
theorem dL_holds_303 : decode cL_holds 303 = .ok (.iinc 15 1, 3) := by decide +kernel
theorem dL_holds_306 : decode cL_holds 306 = .ok (.goto (-55), 3) := by decide +kernel
theorem dL_holds_309 : decode cL_holds 309 = .ok (.lload 12, 2) := by decide +kernel
theorem dL_holds_311 : decode cL_holds 311 = .ok (.lload 10, 2) := by decide +kernel
theorem dL_holds_313 : decode cL_holds 313 = .ok (.lcmp, 1) := by decide +kernel
theorem dL_holds_314 : decode cL_holds 314 = .ok (.ifCond .ne 68, 3) := by decide +kernel
theorem dL_holds_317 : decode cL_holds 317 = .ok (.aload_n 0, 1) := by decide +kernel
theorem dL_holds_318 : decode cL_holds 318 = .ok (.iload_n 1, 1) := by decide +kernel
theorem dL_holds_319 : decode cL_holds 319 = .ok (.iconst 0, 1) := by decide +kernel
theorem dL_holds_320 : decode cL_holds 320 = .ok (.iconst 0, 1) := by decide +kernel
theorem dL_holds_321 : decode cL_holds 321 = .ok (.iconst 1, 1) := by decide +kernel
theorem dL_holds_322 : decode cL_holds 322 = .ok (.invokevirtual 63, 3) := by decide +kernel
theorem dL_holds_325 : decode cL_holds 325 = .ok (.lload 10, 2) := by decide +kernel
theorem dL_holds_327 : decode cL_holds 327 = .ok (.lcmp, 1) := by decide +kernel
theorem dL_holds_328 : decode cL_holds 328 = .ok (.ifCond .ne 54, 3) := by decide +kernel
theorem dL_holds_331 : decode cL_holds 331 = .ok (.aload_n 0, 1) := by decide +kernel
theorem dL_holds_332 : decode cL_holds 332 = .ok (.iload_n 1, 1) := by decide +kernel
theorem dL_holds_333 : decode cL_holds 333 = .ok (.iload_n 3, 1) := by decide +kernel
theorem dL_holds_334 : decode cL_holds 334 = .ok (.iload 4, 2) := by decide +kernel
theorem dL_holds_336 : decode cL_holds 336 = .ok (.iconst 0, 1) := by decide +kernel
theorem dL_holds_337 : decode cL_holds 337 = .ok (.invokevirtual 63, 3) := by decide +kernel
theorem dL_holds_340 : decode cL_holds 340 = .ok (.lload 10, 2) := by decide +kernel
theorem dL_holds_342 : decode cL_holds 342 = .ok (.lcmp, 1) := by decide +kernel
theorem dL_holds_343 : decode cL_holds 343 = .ok (.ifCond .ne 39, 3) := by decide +kernel
theorem dL_holds_346 : decode cL_holds 346 = .ok (.aload_n 0, 1) := by decide +kernel
theorem dL_holds_347 : decode cL_holds 347 = .ok (.iload_n 1, 1) := by decide +kernel
theorem dL_holds_348 : decode cL_holds 348 = .ok (.iconst 0, 1) := by decide +kernel
theorem dL_holds_349 : decode cL_holds 349 = .ok (.iconst 0, 1) := by decide +kernel
theorem dL_holds_350 : decode cL_holds 350 = .ok (.iconst 2, 1) := by decide +kernel
theorem dL_holds_351 : decode cL_holds 351 = .ok (.invokevirtual 63, 3) := by decide +kernel
theorem dL_holds_354 : decode cL_holds 354 = .ok (.aload_n 0, 1) := by decide +kernel
theorem dL_holds_355 : decode cL_holds 355 = .ok (.iload_n 1, 1) := by decide +kernel
theorem dL_holds_356 : decode cL_holds 356 = .ok (.iconst 2, 1) := by decide +kernel
theorem dL_holds_357 : decode cL_holds 357 = .ok (.invokevirtual 53, 3) := by decide +kernel
theorem dL_holds_360 : decode cL_holds 360 = .ok (.lcmp, 1) := by decide +kernel
theorem dL_holds_361 : decode cL_holds 361 = .ok (.ifCond .ne 21, 3) := by decide +kernel
theorem dL_holds_364 : decode cL_holds 364 = .ok (.aload_n 0, 1) := by decide +kernel
theorem dL_holds_365 : decode cL_holds 365 = .ok (.iload_n 1, 1) := by decide +kernel
theorem dL_holds_366 : decode cL_holds 366 = .ok (.iconst 0, 1) := by decide +kernel
theorem dL_holds_367 : decode cL_holds 367 = .ok (.iconst 0, 1) := by decide +kernel
theorem dL_holds_368 : decode cL_holds 368 = .ok (.iconst 3, 1) := by decide +kernel
theorem dL_holds_369 : decode cL_holds 369 = .ok (.invokevirtual 63, 3) := by decide +kernel
theorem dL_holds_372 : decode cL_holds 372 = .ok (.aload_n 0, 1) := by decide +kernel
theorem dL_holds_373 : decode cL_holds 373 = .ok (.iload_n 1, 1) := by decide +kernel
theorem dL_holds_374 : decode cL_holds 374 = .ok (.iconst 3, 1) := by decide +kernel
theorem dL_holds_375 : decode cL_holds 375 = .ok (.invokevirtual 53, 3) := by decide +kernel
theorem dL_holds_378 : decode cL_holds 378 = .ok (.lcmp, 1) := by decide +kernel
theorem dL_holds_379 : decode cL_holds 379 = .ok (.ifCond .eq 5, 3) := by decide +kernel
theorem dL_holds_382 : decode cL_holds 382 = .ok (.iconst 0, 1) := by decide +kernel
theorem dL_holds_383 : decode cL_holds 383 = .ok (.ireturn, 1) := by decide +kernel
theorem dL_holds_384 : decode cL_holds 384 = .ok (.iconst 0, 1) := by decide +kernel
theorem dL_holds_385 : decode cL_holds 385 = .ok (.istore 15, 2) := by decide +kernel
theorem dL_holds_387 : decode cL_holds 387 = .ok (.iload 15, 2) := by decide +kernel
theorem dL_holds_389 : decode cL_holds 389 = .ok (.iconst 3, 1) := by decide +kernel
theorem dL_holds_390 : decode cL_holds 390 = .ok (.if_icmp .ge 79, 3) := by decide +kernel
theorem dL_holds_393 : decode cL_holds 393 = .ok (.aload_n 0, 1) := by decide +kernel
theorem dL_holds_394 : decode cL_holds 394 = .ok (.iload_n 1, 1) := by decide +kernel
theorem dL_holds_395 : decode cL_holds 395 = .ok (.iload 15, 2) := by decide +kernel
theorem dL_holds_397 : decode cL_holds 397 = .ok (.iconst 0, 1) := by decide +kernel
theorem dL_holds_398 : decode cL_holds 398 = .ok (.invokevirtual 67, 3) := by decide +kernel
theorem dL_holds_401 : decode cL_holds 401 = .ok (.lstore 16, 2) := by decide +kernel
theorem dL_holds_403 : decode cL_holds 403 = .ok (.aload_n 0, 1) := by decide +kernel
theorem dL_holds_404 : decode cL_holds 404 = .ok (.iload_n 1, 1) := by decide +kernel
theorem dL_holds_405 : decode cL_holds 405 = .ok (.iload 15, 2) := by decide +kernel
theorem dL_holds_407 : decode cL_holds 407 = .ok (.iconst 1, 1) := by decide +kernel
theorem dL_holds_408 : decode cL_holds 408 = .ok (.invokevirtual 67, 3) := by decide +kernel
theorem dL_holds_411 : decode cL_holds 411 = .ok (.lstore 18, 2) := by decide +kernel
theorem dL_holds_413 : decode cL_holds 413 = .ok (.lload 16, 2) := by decide +kernel
theorem dL_holds_415 : decode cL_holds 415 = .ok (.lconst 1, 1) := by decide +kernel
theorem dL_holds_416 : decode cL_holds 416 = .ok (.lcmp, 1) := by decide +kernel
theorem dL_holds_417 : decode cL_holds 417 = .ok (.ifCond .lt 44, 3) := by decide +kernel
theorem dL_holds_420 : decode cL_holds 420 = .ok (.lload 16, 2) := by decide +kernel
theorem dL_holds_422 : decode cL_holds 422 = .ok (.lload 18, 2) := by decide +kernel
theorem dL_holds_424 : decode cL_holds 424 = .ok (.lcmp, 1) := by decide +kernel
theorem dL_holds_425 : decode cL_holds 425 = .ok (.ifCond .gt 36, 3) := by decide +kernel
theorem dL_holds_428 : decode cL_holds 428 = .ok (.lload 10, 2) := by decide +kernel
theorem dL_holds_430 : decode cL_holds 430 = .ok (.lload 18, 2) := by decide +kernel
theorem dL_holds_432 : decode cL_holds 432 = .ok (.lrem, 1) := by decide +kernel
theorem dL_holds_433 : decode cL_holds 433 = .ok (.lconst 0, 1) := by decide +kernel
theorem dL_holds_434 : decode cL_holds 434 = .ok (.lcmp, 1) := by decide +kernel
theorem dL_holds_435 : decode cL_holds 435 = .ok (.ifCond .ne 26, 3) := by decide +kernel
theorem dL_holds_438 : decode cL_holds 438 = .ok (.aload_n 0, 1) := by decide +kernel
theorem dL_holds_439 : decode cL_holds 439 = .ok (.iload_n 1, 1) := by decide +kernel
theorem dL_holds_440 : decode cL_holds 440 = .ok (.iload 15, 2) := by decide +kernel
theorem dL_holds_442 : decode cL_holds 442 = .ok (.invokevirtual 71, 3) := by decide +kernel
theorem dL_holds_445 : decode cL_holds 445 = .ok (.iconst 1, 1) := by decide +kernel
theorem dL_holds_446 : decode cL_holds 446 = .ok (.if_icmp .lt 15, 3) := by decide +kernel
theorem dL_holds_449 : decode cL_holds 449 = .ok (.aload_n 0, 1) := by decide +kernel
theorem dL_holds_450 : decode cL_holds 450 = .ok (.iload_n 1, 1) := by decide +kernel
theorem dL_holds_451 : decode cL_holds 451 = .ok (.iload 15, 2) := by decide +kernel
theorem dL_holds_453 : decode cL_holds 453 = .ok (.invokevirtual 71, 3) := by decide +kernel
theorem dL_holds_456 : decode cL_holds 456 = .ok (.iload 5, 2) := by decide +kernel
theorem dL_holds_458 : decode cL_holds 458 = .ok (.if_icmp .le 5, 3) := by decide +kernel
theorem dL_holds_461 : decode cL_holds 461 = .ok (.iconst 0, 1) := by decide +kernel
theorem dL_holds_462 : decode cL_holds 462 = .ok (.ireturn, 1) := by decide +kernel
theorem dL_holds_463 : decode cL_holds 463 = .ok (.iinc 15 1, 3) := by decide +kernel
theorem dL_holds_466 : decode cL_holds 466 = .ok (.goto (-79), 3) := by decide +kernel
theorem dL_holds_469 : decode cL_holds 469 = .ok (.aload_n 0, 1) := by decide +kernel
theorem dL_holds_470 : decode cL_holds 470 = .ok (.iload_n 1, 1) := by decide +kernel
theorem dL_holds_471 : decode cL_holds 471 = .ok (.iconst 1, 1) := by decide +kernel
theorem dL_holds_472 : decode cL_holds 472 = .ok (.iconst 0, 1) := by decide +kernel
theorem dL_holds_473 : decode cL_holds 473 = .ok (.invokevirtual 67, 3) := by decide +kernel
theorem dL_holds_476 : decode cL_holds 476 = .ok (.lload 10, 2) := by decide +kernel
theorem dL_holds_478 : decode cL_holds 478 = .ok (.aload_n 0, 1) := by decide +kernel
theorem dL_holds_479 : decode cL_holds 479 = .ok (.iload_n 1, 1) := by decide +kernel
theorem dL_holds_480 : decode cL_holds 480 = .ok (.iconst 1, 1) := by decide +kernel
theorem dL_holds_481 : decode cL_holds 481 = .ok (.iconst 1, 1) := by decide +kernel
theorem dL_holds_482 : decode cL_holds 482 = .ok (.invokevirtual 67, 3) := by decide +kernel
theorem dL_holds_485 : decode cL_holds 485 = .ok (.ldiv, 1) := by decide +kernel
theorem dL_holds_486 : decode cL_holds 486 = .ok (.lmul, 1) := by decide +kernel
theorem dL_holds_487 : decode cL_holds 487 = .ok (.lstore 15, 2) := by decide +kernel
theorem dL_holds_489 : decode cL_holds 489 = .ok (.aload_n 0, 1) := by decide +kernel
theorem dL_holds_490 : decode cL_holds 490 = .ok (.iload_n 1, 1) := by decide +kernel
theorem dL_holds_491 : decode cL_holds 491 = .ok (.iconst 2, 1) := by decide +kernel
theorem dL_holds_492 : decode cL_holds 492 = .ok (.iconst 0, 1) := by decide +kernel
theorem dL_holds_493 : decode cL_holds 493 = .ok (.invokevirtual 67, 3) := by decide +kernel
theorem dL_holds_496 : decode cL_holds 496 = .ok (.lload 10, 2) := by decide +kernel
theorem dL_holds_498 : decode cL_holds 498 = .ok (.aload_n 0, 1) := by decide +kernel
theorem dL_holds_499 : decode cL_holds 499 = .ok (.iload_n 1, 1) := by decide +kernel
theorem dL_holds_500 : decode cL_holds 500 = .ok (.iconst 2, 1) := by decide +kernel
theorem dL_holds_501 : decode cL_holds 501 = .ok (.iconst 1, 1) := by decide +kernel
theorem dL_holds_502 : decode cL_holds 502 = .ok (.invokevirtual 67, 3) := by decide +kernel
theorem dL_holds_505 : decode cL_holds 505 = .ok (.ldiv, 1) := by decide +kernel
theorem dL_holds_506 : decode cL_holds 506 = .ok (.lmul, 1) := by decide +kernel
theorem dL_holds_507 : decode cL_holds 507 = .ok (.lstore 17, 2) := by decide +kernel
theorem dL_holds_509 : decode cL_holds 509 = .ok (.lload 15, 2) := by decide +kernel
theorem dL_holds_511 : decode cL_holds 511 = .ok (.lload 17, 2) := by decide +kernel
theorem dL_holds_513 : decode cL_holds 513 = .ok (.ladd, 1) := by decide +kernel
theorem dL_holds_514 : decode cL_holds 514 = .ok (.lload 10, 2) := by decide +kernel
theorem dL_holds_516 : decode cL_holds 516 = .ok (.aload_n 0, 1) := by decide +kernel
theorem dL_holds_517 : decode cL_holds 517 = .ok (.iload_n 1, 1) := by decide +kernel
theorem dL_holds_518 : decode cL_holds 518 = .ok (.iconst 0, 1) := by decide +kernel
theorem dL_holds_519 : decode cL_holds 519 = .ok (.invokevirtual 53, 3) := by decide +kernel
theorem dL_holds_522 : decode cL_holds 522 = .ok (.ladd, 1) := by decide +kernel
theorem dL_holds_523 : decode cL_holds 523 = .ok (.lcmp, 1) := by decide +kernel
theorem dL_holds_524 : decode cL_holds 524 = .ok (.ifCond .lt 21, 3) := by decide +kernel
theorem dL_holds_527 : decode cL_holds 527 = .ok (.aload_n 0, 1) := by decide +kernel
theorem dL_holds_528 : decode cL_holds 528 = .ok (.iload_n 1, 1) := by decide +kernel
theorem dL_holds_529 : decode cL_holds 529 = .ok (.iconst 1, 1) := by decide +kernel
theorem dL_holds_530 : decode cL_holds 530 = .ok (.invokevirtual 71, 3) := by decide +kernel
theorem dL_holds_533 : decode cL_holds 533 = .ok (.aload_n 0, 1) := by decide +kernel
theorem dL_holds_534 : decode cL_holds 534 = .ok (.iload_n 1, 1) := by decide +kernel
theorem dL_holds_535 : decode cL_holds 535 = .ok (.iconst 2, 1) := by decide +kernel
theorem dL_holds_536 : decode cL_holds 536 = .ok (.invokevirtual 71, 3) := by decide +kernel
theorem dL_holds_539 : decode cL_holds 539 = .ok (.iadd, 1) := by decide +kernel
theorem dL_holds_540 : decode cL_holds 540 = .ok (.iload 5, 2) := by decide +kernel
theorem dL_holds_542 : decode cL_holds 542 = .ok (.if_icmp .gt 5, 3) := by decide +kernel
theorem dL_holds_545 : decode cL_holds 545 = .ok (.iconst 0, 1) := by decide +kernel
theorem dL_holds_546 : decode cL_holds 546 = .ok (.ireturn, 1) := by decide +kernel
theorem dL_holds_547 : decode cL_holds 547 = .ok (.iload 4, 2) := by decide +kernel
theorem dL_holds_549 : decode cL_holds 549 = .ok (.ifCond .eq 14, 3) := by decide +kernel
theorem dL_holds_552 : decode cL_holds 552 = .ok (.iload 4, 2) := by decide +kernel
theorem dL_holds_554 : decode cL_holds 554 = .ok (.aload_n 0, 1) := by decide +kernel
theorem dL_holds_555 : decode cL_holds 555 = .ok (.iload_n 1, 1) := by decide +kernel
theorem dL_holds_556 : decode cL_holds 556 = .ok (.iconst 1, 1) := by decide +kernel
theorem dL_holds_557 : decode cL_holds 557 = .ok (.invokevirtual 46, 3) := by decide +kernel
theorem dL_holds_560 : decode cL_holds 560 = .ok (.if_icmp .ne 9, 3) := by decide +kernel
theorem dL_holds_563 : decode cL_holds 563 = .ok (.iload 5, 2) := by decide +kernel
theorem dL_holds_565 : decode cL_holds 565 = .ok (.iconst 1, 1) := by decide +kernel
theorem dL_holds_566 : decode cL_holds 566 = .ok (.if_icmp .ne 32, 3) := by decide +kernel
theorem dL_holds_569 : decode cL_holds 569 = .ok (.aload_n 0, 1) := by decide +kernel
theorem dL_holds_570 : decode cL_holds 570 = .ok (.iload_n 1, 1) := by decide +kernel
theorem dL_holds_571 : decode cL_holds 571 = .ok (.iconst 0, 1) := by decide +kernel
theorem dL_holds_572 : decode cL_holds 572 = .ok (.invokevirtual 74, 3) := by decide +kernel
theorem dL_holds_575 : decode cL_holds 575 = .ok (.aload_n 0, 1) := by decide +kernel
theorem dL_holds_576 : decode cL_holds 576 = .ok (.iload_n 1, 1) := by decide +kernel
theorem dL_holds_577 : decode cL_holds 577 = .ok (.iconst 1, 1) := by decide +kernel
theorem dL_holds_578 : decode cL_holds 578 = .ok (.invokevirtual 74, 3) := by decide +kernel
theorem dL_holds_581 : decode cL_holds 581 = .ok (.if_icmp .gt 17, 3) := by decide +kernel
theorem dL_holds_584 : decode cL_holds 584 = .ok (.aload_n 0, 1) := by decide +kernel
theorem dL_holds_585 : decode cL_holds 585 = .ok (.iload_n 1, 1) := by decide +kernel
theorem dL_holds_586 : decode cL_holds 586 = .ok (.iconst 0, 1) := by decide +kernel
theorem dL_holds_587 : decode cL_holds 587 = .ok (.invokevirtual 74, 3) := by decide +kernel
theorem dL_holds_590 : decode cL_holds 590 = .ok (.iconst 1, 1) := by decide +kernel
theorem dL_holds_591 : decode cL_holds 591 = .ok (.if_icmp .lt 7, 3) := by decide +kernel
theorem dL_holds_594 : decode cL_holds 594 = .ok (.iconst 1, 1) := by decide +kernel
theorem dL_holds_595 : decode cL_holds 595 = .ok (.goto 4, 3) := by decide +kernel
theorem dL_holds_598 : decode cL_holds 598 = .ok (.iconst 0, 1) := by decide +kernel
theorem dL_holds_599 : decode cL_holds 599 = .ok (.ireturn, 1) := by decide +kernel
theorem dL_turns_0 : decode cL_turns 0 = .ok (.aload_n 0, 1) := by decide +kernel
theorem dL_turns_1 : decode cL_turns 1 = .ok (.invokestatic 77, 3) := by decide +kernel
theorem dL_turns_4 : decode cL_turns 4 = .ok (.lstore_n 2, 1) := by decide +kernel
theorem dL_turns_5 : decode cL_turns 5 = .ok (.aload_n 0, 1) := by decide +kernel
theorem dL_turns_6 : decode cL_turns 6 = .ok (.iload_n 1, 1) := by decide +kernel
theorem dL_turns_7 : decode cL_turns 7 = .ok (.iconst 0, 1) := by decide +kernel
theorem dL_turns_8 : decode cL_turns 8 = .ok (.iconst 0, 1) := by decide +kernel
theorem dL_turns_9 : decode cL_turns 9 = .ok (.invokevirtual 67, 3) := by decide +kernel
theorem dL_turns_12 : decode cL_turns 12 = .ok (.lstore 4, 2) := by decide +kernel
theorem dL_turns_14 : decode cL_turns 14 = .ok (.aload_n 0, 1) := by decide +kernel
theorem dL_turns_15 : decode cL_turns 15 = .ok (.iload_n 1, 1) := by decide +kernel
theorem dL_turns_16 : decode cL_turns 16 = .ok (.iconst 0, 1) := by decide +kernel
theorem dL_turns_17 : decode cL_turns 17 = .ok (.iconst 1, 1) := by decide +kernel
theorem dL_turns_18 : decode cL_turns 18 = .ok (.invokevirtual 67, 3) := by decide +kernel
theorem dL_turns_21 : decode cL_turns 21 = .ok (.lstore 6, 2) := by decide +kernel
theorem dL_turns_23 : decode cL_turns 23 = .ok (.aload_n 0, 1) := by decide +kernel
theorem dL_turns_24 : decode cL_turns 24 = .ok (.iload_n 1, 1) := by decide +kernel
theorem dL_turns_25 : decode cL_turns 25 = .ok (.iconst 0, 1) := by decide +kernel
theorem dL_turns_26 : decode cL_turns 26 = .ok (.invokevirtual 53, 3) := by decide +kernel
theorem dL_turns_29 : decode cL_turns 29 = .ok (.lstore 8, 2) := by decide +kernel
theorem dL_turns_31 : decode cL_turns 31 = .ok (.aload_n 0, 1) := by decide +kernel
theorem dL_turns_32 : decode cL_turns 32 = .ok (.iload_n 1, 1) := by decide +kernel
theorem dL_turns_33 : decode cL_turns 33 = .ok (.iconst 1, 1) := by decide +kernel
theorem dL_turns_34 : decode cL_turns 34 = .ok (.invokevirtual 46, 3) := by decide +kernel
theorem dL_turns_37 : decode cL_turns 37 = .ok (.aload_n 0, 1) := by decide +kernel
theorem dL_turns_38 : decode cL_turns 38 = .ok (.iload_n 1, 1) := by decide +kernel
theorem dL_turns_39 : decode cL_turns 39 = .ok (.iconst 2, 1) := by decide +kernel
theorem dL_turns_40 : decode cL_turns 40 = .ok (.invokevirtual 46, 3) := by decide +kernel
theorem dL_turns_43 : decode cL_turns 43 = .ok (.isub, 1) := by decide +kernel
theorem dL_turns_44 : decode cL_turns 44 = .ok (.istore 10, 2) := by decide +kernel
theorem dL_turns_46 : decode cL_turns 46 = .ok (.aload_n 0, 1) := by decide +kernel
theorem dL_turns_47 : decode cL_turns 47 = .ok (.iload_n 1, 1) := by decide +kernel
theorem dL_turns_48 : decode cL_turns 48 = .ok (.iconst 0, 1) := by decide +kernel
theorem dL_turns_49 : decode cL_turns 49 = .ok (.invokevirtual 71, 3) := by decide +kernel
theorem dL_turns_52 : decode cL_turns 52 = .ok (.istore 11, 2) := by decide +kernel
theorem dL_turns_54 : decode cL_turns 54 = .ok (.aload_n 0, 1) := by decide +kernel
theorem dL_turns_55 : decode cL_turns 55 = .ok (.iload_n 1, 1) := by decide +kernel
theorem dL_turns_56 : decode cL_turns 56 = .ok (.invokevirtual 81, 3) := by decide +kernel
theorem dL_turns_59 : decode cL_turns 59 = .ok (.iload 10, 2) := by decide +kernel
theorem dL_turns_61 : decode cL_turns 61 = .ok (.if_icmp .ne 52, 3) := by decide +kernel
theorem dL_turns_64 : decode cL_turns 64 = .ok (.aload_n 0, 1) := by decide +kernel
theorem dL_turns_65 : decode cL_turns 65 = .ok (.iload_n 1, 1) := by decide +kernel
theorem dL_turns_66 : decode cL_turns 66 = .ok (.iconst 0, 1) := by decide +kernel
theorem dL_turns_67 : decode cL_turns 67 = .ok (.iconst 0, 1) := by decide +kernel
theorem dL_turns_68 : decode cL_turns 68 = .ok (.invokevirtual 67, 3) := by decide +kernel
theorem dL_turns_71 : decode cL_turns 71 = .ok (.lload 4, 2) := by decide +kernel
theorem dL_turns_73 : decode cL_turns 73 = .ok (.lcmp, 1) := by decide +kernel
theorem dL_turns_74 : decode cL_turns 74 = .ok (.ifCond .ne 39, 3) := by decide +kernel
theorem dL_turns_77 : decode cL_turns 77 = .ok (.aload_n 0, 1) := by decide +kernel
theorem dL_turns_78 : decode cL_turns 78 = .ok (.iload_n 1, 1) := by decide +kernel
theorem dL_turns_79 : decode cL_turns 79 = .ok (.iconst 0, 1) := by decide +kernel
theorem dL_turns_80 : decode cL_turns 80 = .ok (.iconst 1, 1) := by decide +kernel
theorem dL_turns_81 : decode cL_turns 81 = .ok (.invokevirtual 67, 3) := by decide +kernel
theorem dL_turns_84 : decode cL_turns 84 = .ok (.lload 6, 2) := by decide +kernel
theorem dL_turns_86 : decode cL_turns 86 = .ok (.lcmp, 1) := by decide +kernel
theorem dL_turns_87 : decode cL_turns 87 = .ok (.ifCond .ne 26, 3) := by decide +kernel
theorem dL_turns_90 : decode cL_turns 90 = .ok (.aload_n 0, 1) := by decide +kernel
theorem dL_turns_91 : decode cL_turns 91 = .ok (.iload_n 1, 1) := by decide +kernel
theorem dL_turns_92 : decode cL_turns 92 = .ok (.iconst 0, 1) := by decide +kernel
theorem dL_turns_93 : decode cL_turns 93 = .ok (.invokevirtual 71, 3) := by decide +kernel
theorem dL_turns_96 : decode cL_turns 96 = .ok (.iload 11, 2) := by decide +kernel
theorem dL_turns_98 : decode cL_turns 98 = .ok (.if_icmp .ne 15, 3) := by decide +kernel
theorem dL_turns_101 : decode cL_turns 101 = .ok (.aload_n 0, 1) := by decide +kernel
theorem dL_turns_102 : decode cL_turns 102 = .ok (.iload_n 1, 1) := by decide +kernel
theorem dL_turns_103 : decode cL_turns 103 = .ok (.iconst 0, 1) := by decide +kernel
theorem dL_turns_104 : decode cL_turns 104 = .ok (.invokevirtual 53, 3) := by decide +kernel
theorem dL_turns_107 : decode cL_turns 107 = .ok (.lload 8, 2) := by decide +kernel
theorem dL_turns_109 : decode cL_turns 109 = .ok (.lcmp, 1) := by decide +kernel
theorem dL_turns_110 : decode cL_turns 110 = .ok (.ifCond .eq 5, 3) := by decide +kernel
theorem dL_turns_113 : decode cL_turns 113 = .ok (.iconst 0, 1) := by decide +kernel
theorem dL_turns_114 : decode cL_turns 114 = .ok (.ireturn, 1) := by decide +kernel
theorem dL_turns_115 : decode cL_turns 115 = .ok (.aload_n 0, 1) := by decide +kernel
theorem dL_turns_116 : decode cL_turns 116 = .ok (.invokevirtual 84, 3) := by decide +kernel
theorem dL_turns_119 : decode cL_turns 119 = .ok (.ifCond .lt 16, 3) := by decide +kernel
theorem dL_turns_122 : decode cL_turns 122 = .ok (.aload_n 0, 1) := by decide +kernel
theorem dL_turns_123 : decode cL_turns 123 = .ok (.invokestatic 77, 3) := by decide +kernel
theorem dL_turns_126 : decode cL_turns 126 = .ok (.lload_n 2, 1) := by decide +kernel
theorem dL_turns_127 : decode cL_turns 127 = .ok (.lcmp, 1) := by decide +kernel
theorem dL_turns_128 : decode cL_turns 128 = .ok (.ifCond .ne 7, 3) := by decide +kernel
theorem dL_turns_131 : decode cL_turns 131 = .ok (.iconst 1, 1) := by decide +kernel
theorem dL_turns_132 : decode cL_turns 132 = .ok (.goto 4, 3) := by decide +kernel
theorem dL_turns_135 : decode cL_turns 135 = .ok (.iconst 0, 1) := by decide +kernel
theorem dL_turns_136 : decode cL_turns 136 = .ok (.ireturn, 1) := by decide +kernel
theorem dL_undoes_0 : decode cL_undoes 0 = .ok (.bipush 12, 2) := by decide +kernel
theorem dL_undoes_2 : decode cL_undoes 2 = .ok (.newarray .long, 2) := by decide +kernel
theorem dL_undoes_4 : decode cL_undoes 4 = .ok (.astore 4, 2) := by decide +kernel
theorem dL_undoes_6 : decode cL_undoes 6 = .ok (.iconst 0, 1) := by decide +kernel
theorem dL_undoes_7 : decode cL_undoes 7 = .ok (.istore 5, 2) := by decide +kernel
theorem dL_undoes_9 : decode cL_undoes 9 = .ok (.aload_n 0, 1) := by decide +kernel
theorem dL_undoes_10 : decode cL_undoes 10 = .ok (.iconst 5, 1) := by decide +kernel
theorem dL_undoes_11 : decode cL_undoes 11 = .ok (.invokevirtual 39, 3) := by decide +kernel
theorem dL_undoes_14 : decode cL_undoes 14 = .ok (.istore 6, 2) := by decide +kernel
theorem dL_undoes_16 : decode cL_undoes 16 = .ok (.iconst 0, 1) := by decide +kernel
theorem dL_undoes_17 : decode cL_undoes 17 = .ok (.istore 7, 2) := by decide +kernel
theorem dL_undoes_19 : decode cL_undoes 19 = .ok (.iload 7, 2) := by decide +kernel
theorem dL_undoes_21 : decode cL_undoes 21 = .ok (.bipush 9, 2) := by decide +kernel
theorem dL_undoes_23 : decode cL_undoes 23 = .ok (.if_icmp .ge 197, 3) := by decide +kernel
theorem dL_undoes_26 : decode cL_undoes 26 = .ok (.aload_n 1, 1) := by decide +kernel
theorem dL_undoes_27 : decode cL_undoes 27 = .ok (.iload_n 2, 1) := by decide +kernel
theorem dL_undoes_28 : decode cL_undoes 28 = .ok (.iload 7, 2) := by decide +kernel
theorem dL_undoes_30 : decode cL_undoes 30 = .ok (.iadd, 1) := by decide +kernel
theorem dL_undoes_31 : decode cL_undoes 31 = .ok (.invokestatic 19, 3) := by decide +kernel
theorem dL_undoes_34 : decode cL_undoes 34 = .ok (.istore 8, 2) := by decide +kernel
theorem dL_undoes_36 : decode cL_undoes 36 = .ok (.iload 8, 2) := by decide +kernel
theorem dL_undoes_38 : decode cL_undoes 38 = .ok (.iconst 3, 1) := by decide +kernel
theorem dL_undoes_39 : decode cL_undoes 39 = .ok (.ishr, 1) := by decide +kernel
theorem dL_undoes_40 : decode cL_undoes 40 = .ok (.aload_n 3, 1) := by decide +kernel
theorem dL_undoes_41 : decode cL_undoes 41 = .ok (.iconst 0, 1) := by decide +kernel
theorem dL_undoes_42 : decode cL_undoes 42 = .ok (.iaload, 1) := by decide +kernel
theorem dL_undoes_43 : decode cL_undoes 43 = .ok (.iconst 1, 1) := by decide +kernel
theorem dL_undoes_44 : decode cL_undoes 44 = .ok (.iadd, 1) := by decide +kernel
theorem dL_undoes_45 : decode cL_undoes 45 = .ok (.invokestatic 25, 3) := by decide +kernel
theorem dL_undoes_48 : decode cL_undoes 48 = .ok (.istore 9, 2) := by decide +kernel
theorem dL_undoes_50 : decode cL_undoes 50 = .ok (.iload 8, 2) := by decide +kernel
theorem dL_undoes_52 : decode cL_undoes 52 = .ok (.iconst 5, 1) := by decide +kernel
theorem dL_undoes_53 : decode cL_undoes 53 = .ok (.ishr, 1) := by decide +kernel
theorem dL_undoes_54 : decode cL_undoes 54 = .ok (.bipush 6, 2) := by decide +kernel
theorem dL_undoes_56 : decode cL_undoes 56 = .ok (.invokestatic 25, 3) := by decide +kernel
theorem dL_undoes_59 : decode cL_undoes 59 = .ok (.istore 10, 2) := by decide +kernel
theorem dL_undoes_61 : decode cL_undoes 61 = .ok (.iload 8, 2) := by decide +kernel
theorem dL_undoes_63 : decode cL_undoes 63 = .ok (.iconst 5, 1) := by decide +kernel
theorem dL_undoes_64 : decode cL_undoes 64 = .ok (.invokestatic 25, 3) := by decide +kernel
theorem dL_undoes_67 : decode cL_undoes 67 = .ok (.istore 11, 2) := by decide +kernel
theorem dL_undoes_69 : decode cL_undoes 69 = .ok (.aload_n 0, 1) := by decide +kernel
theorem dL_undoes_70 : decode cL_undoes 70 = .ok (.iconst 5, 1) := by decide +kernel
theorem dL_undoes_71 : decode cL_undoes 71 = .ok (.invokevirtual 39, 3) := by decide +kernel
theorem dL_undoes_74 : decode cL_undoes 74 = .ok (.istore 12, 2) := by decide +kernel
theorem dL_undoes_76 : decode cL_undoes 76 = .ok (.aload 4, 2) := by decide +kernel
theorem dL_undoes_78 : decode cL_undoes 78 = .ok (.iload 5, 2) := by decide +kernel
theorem dL_undoes_80 : decode cL_undoes 80 = .ok (.aload_n 0, 1) := by decide +kernel
theorem dL_undoes_81 : decode cL_undoes 81 = .ok (.invokestatic 77, 3) := by decide +kernel
theorem dL_undoes_84 : decode cL_undoes 84 = .ok (.lastore, 1) := by decide +kernel
theorem dL_undoes_85 : decode cL_undoes 85 = .ok (.iload 11, 2) := by decide +kernel
theorem dL_undoes_87 : decode cL_undoes 87 = .ok (.iconst 2, 1) := by decide +kernel
theorem dL_undoes_88 : decode cL_undoes 88 = .ok (.if_icmp .ge 26, 3) := by decide +kernel
theorem dL_undoes_91 : decode cL_undoes 91 = .ok (.aload_n 0, 1) := by decide +kernel
theorem dL_undoes_92 : decode cL_undoes 92 = .ok (.iload 9, 2) := by decide +kernel
theorem dL_undoes_94 : decode cL_undoes 94 = .ok (.iload 10, 2) := by decide +kernel
theorem dL_undoes_96 : decode cL_undoes 96 = .ok (.iload 11, 2) := by decide +kernel
theorem dL_undoes_98 : decode cL_undoes 98 = .ok (.iload 8, 2) := by decide +kernel
theorem dL_undoes_100 : decode cL_undoes 100 = .ok (.bipush 8, 2) := by decide +kernel
theorem dL_undoes_102 : decode cL_undoes 102 = .ok (.ishr, 1) := by decide +kernel
theorem dL_undoes_103 : decode cL_undoes 103 = .ok (.bipush 11, 2) := by decide +kernel
theorem dL_undoes_105 : decode cL_undoes 105 = .ok (.invokestatic 25, 3) := by decide +kernel
theorem dL_undoes_108 : decode cL_undoes 108 = .ok (.invokevirtual 87, 3) := by decide +kernel
theorem dL_undoes_111 : decode cL_undoes 111 = .ok (.goto 35, 3) := by decide +kernel
theorem dL_undoes_114 : decode cL_undoes 114 = .ok (.iload 11, 2) := by decide +kernel
theorem dL_undoes_116 : decode cL_undoes 116 = .ok (.iconst 4, 1) := by decide +kernel
theorem dL_undoes_117 : decode cL_undoes 117 = .ok (.if_icmp .ge 23, 3) := by decide +kernel
theorem dL_undoes_120 : decode cL_undoes 120 = .ok (.aload_n 0, 1) := by decide +kernel
theorem dL_undoes_121 : decode cL_undoes 121 = .ok (.iload 9, 2) := by decide +kernel
theorem dL_undoes_123 : decode cL_undoes 123 = .ok (.iload 10, 2) := by decide +kernel
theorem dL_undoes_125 : decode cL_undoes 125 = .ok (.iload 8, 2) := by decide +kernel
theorem dL_undoes_127 : decode cL_undoes 127 = .ok (.bipush 8, 2) := by decide +kernel
theorem dL_undoes_129 : decode cL_undoes 129 = .ok (.ishr, 1) := by decide +kernel
theorem dL_undoes_130 : decode cL_undoes 130 = .ok (.iconst 5, 1) := by decide +kernel
theorem dL_undoes_131 : decode cL_undoes 131 = .ok (.invokestatic 25, 3) := by decide +kernel
theorem dL_undoes_134 : decode cL_undoes 134 = .ok (.invokevirtual 91, 3) := by decide +kernel
theorem dL_undoes_137 : decode cL_undoes 137 = .ok (.goto 9, 3) := by decide +kernel
theorem dL_undoes_140 : decode cL_undoes 140 = .ok (.aload_n 0, 1) := by decide +kernel
theorem dL_undoes_141 : decode cL_undoes 141 = .ok (.iload 9, 2) := by decide +kernel
theorem dL_undoes_143 : decode cL_undoes 143 = .ok (.invokevirtual 81, 3) := by decide +kernel
theorem dL_undoes_146 : decode cL_undoes 146 = .ok (.istore 13, 2) := by decide +kernel
theorem dL_undoes_148 : decode cL_undoes 148 = .ok (.iload 13, 2) := by decide +kernel
theorem dL_undoes_150 : decode cL_undoes 150 = .ok (.ifCond .ge 35, 3) := by decide +kernel
theorem dL_undoes_153 : decode cL_undoes 153 = .ok (.iload 13, 2) := by decide +kernel
theorem dL_undoes_155 : decode cL_undoes 155 = .ok (.bipush (-2), 2) := by decide +kernel
theorem dL_undoes_157 : decode cL_undoes 157 = .ok (.if_icmp .lt 26, 3) := by decide +kernel
theorem dL_undoes_160 : decode cL_undoes 160 = .ok (.aload_n 0, 1) := by decide +kernel
theorem dL_undoes_161 : decode cL_undoes 161 = .ok (.invokestatic 77, 3) := by decide +kernel
theorem dL_undoes_164 : decode cL_undoes 164 = .ok (.aload 4, 2) := by decide +kernel
theorem dL_undoes_166 : decode cL_undoes 166 = .ok (.iload 5, 2) := by decide +kernel
theorem dL_undoes_168 : decode cL_undoes 168 = .ok (.laload, 1) := by decide +kernel
theorem dL_undoes_169 : decode cL_undoes 169 = .ok (.lcmp, 1) := by decide +kernel
theorem dL_undoes_170 : decode cL_undoes 170 = .ok (.ifCond .ne 13, 3) := by decide +kernel
theorem dL_undoes_173 : decode cL_undoes 173 = .ok (.aload_n 0, 1) := by decide +kernel
theorem dL_undoes_174 : decode cL_undoes 174 = .ok (.iconst 5, 1) := by decide +kernel
theorem dL_undoes_175 : decode cL_undoes 175 = .ok (.invokevirtual 39, 3) := by decide +kernel
theorem dL_undoes_178 : decode cL_undoes 178 = .ok (.iload 12, 2) := by decide +kernel
theorem dL_undoes_180 : decode cL_undoes 180 = .ok (.if_icmp .eq 34, 3) := by decide +kernel
theorem dL_undoes_183 : decode cL_undoes 183 = .ok (.iconst 0, 1) := by decide +kernel
theorem dL_undoes_184 : decode cL_undoes 184 = .ok (.ireturn, 1) := by decide +kernel
theorem dL_undoes_185 : decode cL_undoes 185 = .ok (.aload_n 0, 1) := by decide +kernel
theorem dL_undoes_186 : decode cL_undoes 186 = .ok (.iconst 5, 1) := by decide +kernel
theorem dL_undoes_187 : decode cL_undoes 187 = .ok (.invokevirtual 39, 3) := by decide +kernel
theorem dL_undoes_190 : decode cL_undoes 190 = .ok (.iload 12, 2) := by decide +kernel
theorem dL_undoes_192 : decode cL_undoes 192 = .ok (.bipush 6, 2) := by decide +kernel
theorem dL_undoes_194 : decode cL_undoes 194 = .ok (.if_icmp .ge 10, 3) := by decide +kernel
theorem dL_undoes_197 : decode cL_undoes 197 = .ok (.iload 12, 2) := by decide +kernel
theorem dL_undoes_199 : decode cL_undoes 199 = .ok (.iconst 1, 1) := by decide +kernel
theorem dL_undoes_200 : decode cL_undoes 200 = .ok (.iadd, 1) := by decide +kernel
theorem dL_undoes_201 : decode cL_undoes 201 = .ok (.goto 5, 3) := by decide +kernel
theorem dL_undoes_204 : decode cL_undoes 204 = .ok (.bipush 6, 2) := by decide +kernel
theorem dL_undoes_206 : decode cL_undoes 206 = .ok (.if_icmp .eq 5, 3) := by decide +kernel
theorem dL_undoes_209 : decode cL_undoes 209 = .ok (.iconst 0, 1) := by decide +kernel
theorem dL_undoes_210 : decode cL_undoes 210 = .ok (.ireturn, 1) := by decide +kernel
theorem dL_undoes_211 : decode cL_undoes 211 = .ok (.iinc 5 1, 3) := by decide +kernel
theorem dL_undoes_214 : decode cL_undoes 214 = .ok (.iinc 7 1, 3) := by decide +kernel
theorem dL_undoes_217 : decode cL_undoes 217 = .ok (.goto (-198), 3) := by decide +kernel
theorem dL_undoes_220 : decode cL_undoes 220 = .ok (.iload 6, 2) := by decide +kernel
theorem dL_undoes_222 : decode cL_undoes 222 = .ok (.iload 5, 2) := by decide +kernel
theorem dL_undoes_224 : decode cL_undoes 224 = .ok (.iadd, 1) := by decide +kernel
theorem dL_undoes_225 : decode cL_undoes 225 = .ok (.bipush 6, 2) := by decide +kernel
theorem dL_undoes_227 : decode cL_undoes 227 = .ok (.if_icmp .ge 11, 3) := by decide +kernel
theorem dL_undoes_230 : decode cL_undoes 230 = .ok (.iload 6, 2) := by decide +kernel
theorem dL_undoes_232 : decode cL_undoes 232 = .ok (.iload 5, 2) := by decide +kernel
theorem dL_undoes_234 : decode cL_undoes 234 = .ok (.iadd, 1) := by decide +kernel
theorem dL_undoes_235 : decode cL_undoes 235 = .ok (.goto 5, 3) := by decide +kernel
theorem dL_undoes_238 : decode cL_undoes 238 = .ok (.bipush 6, 2) := by decide +kernel
theorem dL_undoes_240 : decode cL_undoes 240 = .ok (.istore 7, 2) := by decide +kernel
theorem dL_undoes_242 : decode cL_undoes 242 = .ok (.aload_n 0, 1) := by decide +kernel
theorem dL_undoes_243 : decode cL_undoes 243 = .ok (.iconst 5, 1) := by decide +kernel
theorem dL_undoes_244 : decode cL_undoes 244 = .ok (.invokevirtual 39, 3) := by decide +kernel
theorem dL_undoes_247 : decode cL_undoes 247 = .ok (.iload 7, 2) := by decide +kernel
theorem dL_undoes_249 : decode cL_undoes 249 = .ok (.if_icmp .eq 5, 3) := by decide +kernel
theorem dL_undoes_252 : decode cL_undoes 252 = .ok (.iconst 0, 1) := by decide +kernel
theorem dL_undoes_253 : decode cL_undoes 253 = .ok (.ireturn, 1) := by decide +kernel
theorem dL_undoes_254 : decode cL_undoes 254 = .ok (.iconst 1, 1) := by decide +kernel
theorem dL_undoes_255 : decode cL_undoes 255 = .ok (.istore 8, 2) := by decide +kernel
theorem dL_undoes_257 : decode cL_undoes 257 = .ok (.iload 8, 2) := by decide +kernel
theorem dL_undoes_259 : decode cL_undoes 259 = .ok (.iload 5, 2) := by decide +kernel
theorem dL_undoes_261 : decode cL_undoes 261 = .ok (.if_icmp .gt 46, 3) := by decide +kernel
theorem dL_undoes_264 : decode cL_undoes 264 = .ok (.iload 8, 2) := by decide +kernel
theorem dL_undoes_266 : decode cL_undoes 266 = .ok (.iload 7, 2) := by decide +kernel
theorem dL_undoes_268 : decode cL_undoes 268 = .ok (.if_icmp .gt 39, 3) := by decide +kernel
theorem dL_undoes_271 : decode cL_undoes 271 = .ok (.aload_n 0, 1) := by decide +kernel
theorem dL_undoes_272 : decode cL_undoes 272 = .ok (.invokevirtual 84, 3) := by decide +kernel
theorem dL_undoes_275 : decode cL_undoes 275 = .ok (.iload 7, 2) := by decide +kernel
theorem dL_undoes_277 : decode cL_undoes 277 = .ok (.iload 8, 2) := by decide +kernel
theorem dL_undoes_279 : decode cL_undoes 279 = .ok (.isub, 1) := by decide +kernel
theorem dL_undoes_280 : decode cL_undoes 280 = .ok (.if_icmp .ne 19, 3) := by decide +kernel
theorem dL_undoes_283 : decode cL_undoes 283 = .ok (.aload_n 0, 1) := by decide +kernel
theorem dL_undoes_284 : decode cL_undoes 284 = .ok (.invokestatic 77, 3) := by decide +kernel
theorem dL_undoes_287 : decode cL_undoes 287 = .ok (.aload 4, 2) := by decide +kernel
theorem dL_undoes_289 : decode cL_undoes 289 = .ok (.iload 5, 2) := by decide +kernel
theorem dL_undoes_291 : decode cL_undoes 291 = .ok (.iload 8, 2) := by decide +kernel
theorem dL_undoes_293 : decode cL_undoes 293 = .ok (.isub, 1) := by decide +kernel
theorem dL_undoes_294 : decode cL_undoes 294 = .ok (.laload, 1) := by decide +kernel
theorem dL_undoes_295 : decode cL_undoes 295 = .ok (.lcmp, 1) := by decide +kernel
theorem dL_undoes_296 : decode cL_undoes 296 = .ok (.ifCond .eq 5, 3) := by decide +kernel
theorem dL_undoes_299 : decode cL_undoes 299 = .ok (.iconst 0, 1) := by decide +kernel
theorem dL_undoes_300 : decode cL_undoes 300 = .ok (.ireturn, 1) := by decide +kernel
theorem dL_undoes_301 : decode cL_undoes 301 = .ok (.iinc 8 1, 3) := by decide +kernel
theorem dL_undoes_304 : decode cL_undoes 304 = .ok (.goto (-47), 3) := by decide +kernel
theorem dL_undoes_307 : decode cL_undoes 307 = .ok (.iconst 1, 1) := by decide +kernel
theorem dL_undoes_308 : decode cL_undoes 308 = .ok (.ireturn, 1) := by decide +kernel
theorem dL_says_0 : decode cL_says 0 = .ok (.iconst 4, 1) := by decide +kernel
theorem dL_says_1 : decode cL_says 1 = .ok (.newarray .int, 2) := by decide +kernel
theorem dL_says_3 : decode cL_says 3 = .ok (.astore 5, 2) := by decide +kernel
theorem dL_says_5 : decode cL_says 5 = .ok (.aload 5, 2) := by decide +kernel
theorem dL_says_7 : decode cL_says 7 = .ok (.iconst 0, 1) := by decide +kernel
theorem dL_says_8 : decode cL_says 8 = .ok (.iload_n 1, 1) := by decide +kernel
theorem dL_says_9 : decode cL_says 9 = .ok (.iastore, 1) := by decide +kernel
theorem dL_says_10 : decode cL_says 10 = .ok (.aload 5, 2) := by decide +kernel
theorem dL_says_12 : decode cL_says 12 = .ok (.iconst 1, 1) := by decide +kernel
theorem dL_says_13 : decode cL_says 13 = .ok (.iload_n 2, 1) := by decide +kernel
theorem dL_says_14 : decode cL_says 14 = .ok (.iastore, 1) := by decide +kernel
theorem dL_says_15 : decode cL_says 15 = .ok (.aload 5, 2) := by decide +kernel
theorem dL_says_17 : decode cL_says 17 = .ok (.iconst 2, 1) := by decide +kernel
theorem dL_says_18 : decode cL_says 18 = .ok (.iload_n 3, 1) := by decide +kernel
theorem dL_says_19 : decode cL_says 19 = .ok (.iastore, 1) := by decide +kernel
theorem dL_says_20 : decode cL_says 20 = .ok (.aload 5, 2) := by decide +kernel
theorem dL_says_22 : decode cL_says 22 = .ok (.iconst 3, 1) := by decide +kernel
theorem dL_says_23 : decode cL_says 23 = .ok (.iload 4, 2) := by decide +kernel
theorem dL_says_25 : decode cL_says 25 = .ok (.iastore, 1) := by decide +kernel
theorem dL_says_26 : decode cL_says 26 = .ok (.iconst 0, 1) := by decide +kernel
theorem dL_says_27 : decode cL_says 27 = .ok (.istore 6, 2) := by decide +kernel
theorem dL_says_29 : decode cL_says 29 = .ok (.iload 6, 2) := by decide +kernel
theorem dL_says_31 : decode cL_says 31 = .ok (.iconst 4, 1) := by decide +kernel
theorem dL_says_32 : decode cL_says 32 = .ok (.if_icmp .ge 27, 3) := by decide +kernel
theorem dL_says_35 : decode cL_says 35 = .ok (.aload 5, 2) := by decide +kernel
theorem dL_says_37 : decode cL_says 37 = .ok (.iload 6, 2) := by decide +kernel
theorem dL_says_39 : decode cL_says 39 = .ok (.iaload, 1) := by decide +kernel
theorem dL_says_40 : decode cL_says 40 = .ok (.ifCond .eq 13, 3) := by decide +kernel
theorem dL_says_43 : decode cL_says 43 = .ok (.aload_n 0, 1) := by decide +kernel
theorem dL_says_44 : decode cL_says 44 = .ok (.aload 5, 2) := by decide +kernel
theorem dL_says_46 : decode cL_says 46 = .ok (.iload 6, 2) := by decide +kernel
theorem dL_says_48 : decode cL_says 48 = .ok (.iaload, 1) := by decide +kernel
theorem dL_says_49 : decode cL_says 49 = .ok (.invokevirtual 9, 3) := by decide +kernel
theorem dL_says_52 : decode cL_says 52 = .ok (.pop, 1) := by decide +kernel
theorem dL_says_53 : decode cL_says 53 = .ok (.iinc 6 1, 3) := by decide +kernel
theorem dL_says_56 : decode cL_says 56 = .ok (.goto (-27), 3) := by decide +kernel
theorem dL_says_59 : decode cL_says 59 = .ok (.return_, 1) := by decide +kernel
theorem dL_column_0 : decode cL_column 0 = .ok (.aload_n 0, 1) := by decide +kernel
theorem dL_column_1 : decode cL_column 1 = .ok (.bipush 99, 2) := by decide +kernel
theorem dL_column_3 : decode cL_column 3 = .ok (.invokevirtual 9, 3) := by decide +kernel
theorem dL_column_6 : decode cL_column 6 = .ok (.pop, 1) := by decide +kernel
theorem dL_column_7 : decode cL_column 7 = .ok (.aload_n 0, 1) := by decide +kernel
theorem dL_column_8 : decode cL_column 8 = .ok (.iload_n 1, 1) := by decide +kernel
theorem dL_column_9 : decode cL_column 9 = .ok (.bipush 44, 2) := by decide +kernel
theorem dL_column_11 : decode cL_column 11 = .ok (.invokestatic 29, 3) := by decide +kernel
theorem dL_column_14 : decode cL_column 14 = .ok (.aload_n 0, 1) := by decide +kernel
theorem dL_column_15 : decode cL_column 15 = .ok (.iload_n 2, 1) := by decide +kernel
theorem dL_column_16 : decode cL_column 16 = .ok (.bipush 44, 2) := by decide +kernel
theorem dL_column_18 : decode cL_column 18 = .ok (.invokestatic 29, 3) := by decide +kernel
theorem dL_column_21 : decode cL_column 21 = .ok (.aload_n 0, 1) := by decide +kernel
theorem dL_column_22 : decode cL_column 22 = .ok (.iload_n 3, 1) := by decide +kernel
theorem dL_column_23 : decode cL_column 23 = .ok (.bipush 59, 2) := by decide +kernel
theorem dL_column_25 : decode cL_column 25 = .ok (.invokestatic 29, 3) := by decide +kernel
theorem dL_column_28 : decode cL_column 28 = .ok (.return_, 1) := by decide +kernel
theorem dL_isFault_0 : decode cL_isFault 0 = .ok (.aload_n 0, 1) := by decide +kernel
theorem dL_isFault_1 : decode cL_isFault 1 = .ok (.invokestatic 77, 3) := by decide +kernel
theorem dL_isFault_4 : decode cL_isFault 4 = .ok (.lstore_n 2, 1) := by decide +kernel
theorem dL_isFault_5 : decode cL_isFault 5 = .ok (.aload_n 0, 1) := by decide +kernel
theorem dL_isFault_6 : decode cL_isFault 6 = .ok (.bipush 6, 2) := by decide +kernel
theorem dL_isFault_8 : decode cL_isFault 8 = .ok (.invokevirtual 39, 3) := by decide +kernel
theorem dL_isFault_11 : decode cL_isFault 11 = .ok (.istore 4, 2) := by decide +kernel
theorem dL_isFault_13 : decode cL_isFault 13 = .ok (.aload_n 0, 1) := by decide +kernel
theorem dL_isFault_14 : decode cL_isFault 14 = .ok (.iconst 5, 1) := by decide +kernel
theorem dL_isFault_15 : decode cL_isFault 15 = .ok (.invokevirtual 39, 3) := by decide +kernel
theorem dL_isFault_18 : decode cL_isFault 18 = .ok (.istore 5, 2) := by decide +kernel
theorem dL_isFault_20 : decode cL_isFault 20 = .ok (.aload_n 0, 1) := by decide +kernel
theorem dL_isFault_21 : decode cL_isFault 21 = .ok (.invokevirtual 33, 3) := by decide +kernel
theorem dL_isFault_24 : decode cL_isFault 24 = .ok (.iload_n 1, 1) := by decide +kernel
theorem dL_isFault_25 : decode cL_isFault 25 = .ok (.if_icmp .ne 46, 3) := by decide +kernel
theorem dL_isFault_28 : decode cL_isFault 28 = .ok (.aload_n 0, 1) := by decide +kernel
theorem dL_isFault_29 : decode cL_isFault 29 = .ok (.invokevirtual 36, 3) := by decide +kernel
theorem dL_isFault_32 : decode cL_isFault 32 = .ok (.bipush (-2), 2) := by decide +kernel
theorem dL_isFault_34 : decode cL_isFault 34 = .ok (.if_icmp .ne 37, 3) := by decide +kernel
theorem dL_isFault_37 : decode cL_isFault 37 = .ok (.aload_n 0, 1) := by decide +kernel
theorem dL_isFault_38 : decode cL_isFault 38 = .ok (.invokestatic 77, 3) := by decide +kernel
theorem dL_isFault_41 : decode cL_isFault 41 = .ok (.lload_n 2, 1) := by decide +kernel
theorem dL_isFault_42 : decode cL_isFault 42 = .ok (.lcmp, 1) := by decide +kernel
theorem dL_isFault_43 : decode cL_isFault 43 = .ok (.ifCond .ne 28, 3) := by decide +kernel
theorem dL_isFault_46 : decode cL_isFault 46 = .ok (.aload_n 0, 1) := by decide +kernel
theorem dL_isFault_47 : decode cL_isFault 47 = .ok (.bipush 6, 2) := by decide +kernel
theorem dL_isFault_49 : decode cL_isFault 49 = .ok (.invokevirtual 39, 3) := by decide +kernel
theorem dL_isFault_52 : decode cL_isFault 52 = .ok (.iload 4, 2) := by decide +kernel
theorem dL_isFault_54 : decode cL_isFault 54 = .ok (.if_icmp .ne 17, 3) := by decide +kernel
theorem dL_isFault_57 : decode cL_isFault 57 = .ok (.aload_n 0, 1) := by decide +kernel
theorem dL_isFault_58 : decode cL_isFault 58 = .ok (.iconst 5, 1) := by decide +kernel
theorem dL_isFault_59 : decode cL_isFault 59 = .ok (.invokevirtual 39, 3) := by decide +kernel
theorem dL_isFault_62 : decode cL_isFault 62 = .ok (.iload 5, 2) := by decide +kernel
theorem dL_isFault_64 : decode cL_isFault 64 = .ok (.if_icmp .ne 7, 3) := by decide +kernel
theorem dL_isFault_67 : decode cL_isFault 67 = .ok (.iconst 1, 1) := by decide +kernel
theorem dL_isFault_68 : decode cL_isFault 68 = .ok (.goto 4, 3) := by decide +kernel
theorem dL_isFault_71 : decode cL_isFault 71 = .ok (.iconst 0, 1) := by decide +kernel
theorem dL_isFault_72 : decode cL_isFault 72 = .ok (.istore 6, 2) := by decide +kernel
theorem dL_isFault_74 : decode cL_isFault 74 = .ok (.iload 6, 2) := by decide +kernel
theorem dL_isFault_76 : decode cL_isFault 76 = .ok (.ifCond .eq 25, 3) := by decide +kernel
theorem dL_isFault_79 : decode cL_isFault 79 = .ok (.aload_n 0, 1) := by decide +kernel
theorem dL_isFault_80 : decode cL_isFault 80 = .ok (.invokevirtual 15, 3) := by decide +kernel
theorem dL_isFault_83 : decode cL_isFault 83 = .ok (.iload 4, 2) := by decide +kernel
theorem dL_isFault_85 : decode cL_isFault 85 = .ok (.if_icmp .ne 16, 3) := by decide +kernel
theorem dL_isFault_88 : decode cL_isFault 88 = .ok (.aload_n 0, 1) := by decide +kernel
theorem dL_isFault_89 : decode cL_isFault 89 = .ok (.bipush 6, 2) := by decide +kernel
theorem dL_isFault_91 : decode cL_isFault 91 = .ok (.invokevirtual 39, 3) := by decide +kernel
theorem dL_isFault_94 : decode cL_isFault 94 = .ok (.ifCond .ne 7, 3) := by decide +kernel
theorem dL_isFault_97 : decode cL_isFault 97 = .ok (.iconst 1, 1) := by decide +kernel
theorem dL_isFault_98 : decode cL_isFault 98 = .ok (.goto 4, 3) := by decide +kernel
theorem dL_isFault_101 : decode cL_isFault 101 = .ok (.iconst 0, 1) := by decide +kernel
theorem dL_isFault_102 : decode cL_isFault 102 = .ok (.ireturn, 1) := by decide +kernel
theorem dL_faults_0 : decode cL_faults 0 = .ok (.aload_n 0, 1) := by decide +kernel
theorem dL_faults_1 : decode cL_faults 1 = .ok (.invokevirtual 15, 3) := by decide +kernel
theorem dL_faults_4 : decode cL_faults 4 = .ok (.pop, 1) := by decide +kernel
theorem dL_faults_5 : decode cL_faults 5 = .ok (.aload_n 0, 1) := by decide +kernel
theorem dL_faults_6 : decode cL_faults 6 = .ok (.iconst 4, 1) := by decide +kernel
theorem dL_faults_7 : decode cL_faults 7 = .ok (.iconst 2, 1) := by decide +kernel
theorem dL_faults_8 : decode cL_faults 8 = .ok (.iconst 0, 1) := by decide +kernel
theorem dL_faults_9 : decode cL_faults 9 = .ok (.invokestatic 94, 3) := by decide +kernel
theorem dL_faults_12 : decode cL_faults 12 = .ok (.aload_n 0, 1) := by decide +kernel
theorem dL_faults_13 : decode cL_faults 13 = .ok (.iconst 0, 1) := by decide +kernel
theorem dL_faults_14 : decode cL_faults 14 = .ok (.invokestatic 97, 3) := by decide +kernel
theorem dL_faults_17 : decode cL_faults 17 = .ok (.ifCond .ne 5, 3) := by decide +kernel
theorem dL_faults_20 : decode cL_faults 20 = .ok (.iconst 0, 1) := by decide +kernel
theorem dL_faults_21 : decode cL_faults 21 = .ok (.ireturn, 1) := by decide +kernel
theorem dL_faults_22 : decode cL_faults 22 = .ok (.aload_n 0, 1) := by decide +kernel
theorem dL_faults_23 : decode cL_faults 23 = .ok (.bipush 115, 2) := by decide +kernel
theorem dL_faults_25 : decode cL_faults 25 = .ok (.bipush 32, 2) := by decide +kernel
theorem dL_faults_27 : decode cL_faults 27 = .ok (.bipush 59, 2) := by decide +kernel
theorem dL_faults_29 : decode cL_faults 29 = .ok (.iconst 0, 1) := by decide +kernel
theorem dL_faults_30 : decode cL_faults 30 = .ok (.invokestatic 101, 3) := by decide +kernel
theorem dL_faults_33 : decode cL_faults 33 = .ok (.aload_n 0, 1) := by decide +kernel
theorem dL_faults_34 : decode cL_faults 34 = .ok (.iconst 0, 1) := by decide +kernel
theorem dL_faults_35 : decode cL_faults 35 = .ok (.invokestatic 97, 3) := by decide +kernel
theorem dL_faults_38 : decode cL_faults 38 = .ok (.ifCond .ne 5, 3) := by decide +kernel
theorem dL_faults_41 : decode cL_faults 41 = .ok (.iconst 0, 1) := by decide +kernel
theorem dL_faults_42 : decode cL_faults 42 = .ok (.ireturn, 1) := by decide +kernel
theorem dL_faults_43 : decode cL_faults 43 = .ok (.aload_n 0, 1) := by decide +kernel
theorem dL_faults_44 : decode cL_faults 44 = .ok (.bipush 115, 2) := by decide +kernel
theorem dL_faults_46 : decode cL_faults 46 = .ok (.iconst 0, 1) := by decide +kernel
theorem dL_faults_47 : decode cL_faults 47 = .ok (.iconst 0, 1) := by decide +kernel
theorem dL_faults_48 : decode cL_faults 48 = .ok (.iconst 0, 1) := by decide +kernel
theorem dL_faults_49 : decode cL_faults 49 = .ok (.invokestatic 101, 3) := by decide +kernel
theorem dL_faults_52 : decode cL_faults 52 = .ok (.aload_n 0, 1) := by decide +kernel
theorem dL_faults_53 : decode cL_faults 53 = .ok (.iconst 0, 1) := by decide +kernel
theorem dL_faults_54 : decode cL_faults 54 = .ok (.invokestatic 97, 3) := by decide +kernel
theorem dL_faults_57 : decode cL_faults 57 = .ok (.ifCond .ne 5, 3) := by decide +kernel
theorem dL_faults_60 : decode cL_faults 60 = .ok (.iconst 0, 1) := by decide +kernel
theorem dL_faults_61 : decode cL_faults 61 = .ok (.ireturn, 1) := by decide +kernel
theorem dL_faults_62 : decode cL_faults 62 = .ok (.aload_n 0, 1) := by decide +kernel
theorem dL_faults_63 : decode cL_faults 63 = .ok (.bipush 115, 2) := by decide +kernel
theorem dL_faults_65 : decode cL_faults 65 = .ok (.bipush 59, 2) := by decide +kernel
theorem dL_faults_67 : decode cL_faults 67 = .ok (.iconst 0, 1) := by decide +kernel
theorem dL_faults_68 : decode cL_faults 68 = .ok (.iconst 0, 1) := by decide +kernel
theorem dL_faults_69 : decode cL_faults 69 = .ok (.invokestatic 101, 3) := by decide +kernel
theorem dL_faults_72 : decode cL_faults 72 = .ok (.aload_n 0, 1) := by decide +kernel
theorem dL_faults_73 : decode cL_faults 73 = .ok (.bipush 13, 2) := by decide +kernel
theorem dL_faults_75 : decode cL_faults 75 = .ok (.iconst 2, 1) := by decide +kernel
theorem dL_faults_76 : decode cL_faults 76 = .ok (.iconst 0, 1) := by decide +kernel
theorem dL_faults_77 : decode cL_faults 77 = .ok (.invokestatic 94, 3) := by decide +kernel
theorem dL_faults_80 : decode cL_faults 80 = .ok (.aload_n 0, 1) := by decide +kernel
theorem dL_faults_81 : decode cL_faults 81 = .ok (.iconst 2, 1) := by decide +kernel
theorem dL_faults_82 : decode cL_faults 82 = .ok (.invokestatic 97, 3) := by decide +kernel
theorem dL_faults_85 : decode cL_faults 85 = .ok (.ifCond .ne 5, 3) := by decide +kernel
theorem dL_faults_88 : decode cL_faults 88 = .ok (.iconst 0, 1) := by decide +kernel
theorem dL_faults_89 : decode cL_faults 89 = .ok (.ireturn, 1) := by decide +kernel
theorem dL_faults_90 : decode cL_faults 90 = .ok (.aload_n 0, 1) := by decide +kernel
theorem dL_faults_91 : decode cL_faults 91 = .ok (.bipush 115, 2) := by decide +kernel
theorem dL_faults_93 : decode cL_faults 93 = .ok (.bipush 59, 2) := by decide +kernel
theorem dL_faults_95 : decode cL_faults 95 = .ok (.iconst 0, 1) := by decide +kernel
theorem dL_faults_96 : decode cL_faults 96 = .ok (.iconst 0, 1) := by decide +kernel
theorem dL_faults_97 : decode cL_faults 97 = .ok (.invokestatic 101, 3) := by decide +kernel
theorem dL_faults_100 : decode cL_faults 100 = .ok (.aload_n 0, 1) := by decide +kernel
theorem dL_faults_101 : decode cL_faults 101 = .ok (.iconst 0, 1) := by decide +kernel
theorem dL_faults_102 : decode cL_faults 102 = .ok (.iconst 0, 1) := by decide +kernel
theorem dL_faults_103 : decode cL_faults 103 = .ok (.iconst 0, 1) := by decide +kernel
theorem dL_faults_104 : decode cL_faults 104 = .ok (.invokestatic 94, 3) := by decide +kernel
theorem dL_faults_107 : decode cL_faults 107 = .ok (.aload_n 0, 1) := by decide +kernel
theorem dL_faults_108 : decode cL_faults 108 = .ok (.iconst 2, 1) := by decide +kernel
theorem dL_faults_109 : decode cL_faults 109 = .ok (.invokestatic 97, 3) := by decide +kernel
theorem dL_faults_112 : decode cL_faults 112 = .ok (.ifCond .ne 5, 3) := by decide +kernel
theorem dL_faults_115 : decode cL_faults 115 = .ok (.iconst 0, 1) := by decide +kernel
theorem dL_faults_116 : decode cL_faults 116 = .ok (.ireturn, 1) := by decide +kernel
theorem dL_faults_117 : decode cL_faults 117 = .ok (.aload_n 0, 1) := by decide +kernel
theorem dL_faults_118 : decode cL_faults 118 = .ok (.bipush 115, 2) := by decide +kernel
theorem dL_faults_120 : decode cL_faults 120 = .ok (.bipush 59, 2) := by decide +kernel
theorem dL_faults_122 : decode cL_faults 122 = .ok (.iconst 0, 1) := by decide +kernel
theorem dL_faults_123 : decode cL_faults 123 = .ok (.iconst 0, 1) := by decide +kernel
theorem dL_faults_124 : decode cL_faults 124 = .ok (.invokestatic 101, 3) := by decide +kernel
theorem dL_faults_127 : decode cL_faults 127 = .ok (.aload_n 0, 1) := by decide +kernel
theorem dL_faults_128 : decode cL_faults 128 = .ok (.iconst 4, 1) := by decide +kernel
theorem dL_faults_129 : decode cL_faults 129 = .ok (.iconst 5, 1) := by decide +kernel
theorem dL_faults_130 : decode cL_faults 130 = .ok (.iconst 0, 1) := by decide +kernel
theorem dL_faults_131 : decode cL_faults 131 = .ok (.invokestatic 94, 3) := by decide +kernel
theorem dL_faults_134 : decode cL_faults 134 = .ok (.aload_n 0, 1) := by decide +kernel
theorem dL_faults_135 : decode cL_faults 135 = .ok (.iconst 2, 1) := by decide +kernel
theorem dL_faults_136 : decode cL_faults 136 = .ok (.invokestatic 97, 3) := by decide +kernel
theorem dL_faults_139 : decode cL_faults 139 = .ok (.ifCond .ne 5, 3) := by decide +kernel
theorem dL_faults_142 : decode cL_faults 142 = .ok (.iconst 0, 1) := by decide +kernel
theorem dL_faults_143 : decode cL_faults 143 = .ok (.ireturn, 1) := by decide +kernel
theorem dL_faults_144 : decode cL_faults 144 = .ok (.aload_n 0, 1) := by decide +kernel
theorem dL_faults_145 : decode cL_faults 145 = .ok (.bipush 115, 2) := by decide +kernel
theorem dL_faults_147 : decode cL_faults 147 = .ok (.bipush 59, 2) := by decide +kernel
theorem dL_faults_149 : decode cL_faults 149 = .ok (.iconst 0, 1) := by decide +kernel
theorem dL_faults_150 : decode cL_faults 150 = .ok (.iconst 0, 1) := by decide +kernel
theorem dL_faults_151 : decode cL_faults 151 = .ok (.invokestatic 101, 3) := by decide +kernel
theorem dL_faults_154 : decode cL_faults 154 = .ok (.aload_n 0, 1) := by decide +kernel
theorem dL_faults_155 : decode cL_faults 155 = .ok (.iconst 4, 1) := by decide +kernel
theorem dL_faults_156 : decode cL_faults 156 = .ok (.iconst 2, 1) := by decide +kernel
theorem dL_faults_157 : decode cL_faults 157 = .ok (.bipush 10, 2) := by decide +kernel
theorem dL_faults_159 : decode cL_faults 159 = .ok (.invokestatic 94, 3) := by decide +kernel
theorem dL_faults_162 : decode cL_faults 162 = .ok (.aload_n 0, 1) := by decide +kernel
theorem dL_faults_163 : decode cL_faults 163 = .ok (.iconst 2, 1) := by decide +kernel
theorem dL_faults_164 : decode cL_faults 164 = .ok (.invokestatic 97, 3) := by decide +kernel
theorem dL_faults_167 : decode cL_faults 167 = .ok (.ifCond .ne 5, 3) := by decide +kernel
theorem dL_faults_170 : decode cL_faults 170 = .ok (.iconst 0, 1) := by decide +kernel
theorem dL_faults_171 : decode cL_faults 171 = .ok (.ireturn, 1) := by decide +kernel
theorem dL_faults_172 : decode cL_faults 172 = .ok (.aload_n 0, 1) := by decide +kernel
theorem dL_faults_173 : decode cL_faults 173 = .ok (.bipush 115, 2) := by decide +kernel
theorem dL_faults_175 : decode cL_faults 175 = .ok (.bipush 59, 2) := by decide +kernel
theorem dL_faults_177 : decode cL_faults 177 = .ok (.bipush 99, 2) := by decide +kernel
theorem dL_faults_179 : decode cL_faults 179 = .ok (.bipush 48, 2) := by decide +kernel
theorem dL_faults_181 : decode cL_faults 181 = .ok (.invokestatic 101, 3) := by decide +kernel
theorem dL_faults_184 : decode cL_faults 184 = .ok (.aload_n 0, 1) := by decide +kernel
theorem dL_faults_185 : decode cL_faults 185 = .ok (.bipush 48, 2) := by decide +kernel
theorem dL_faults_187 : decode cL_faults 187 = .ok (.bipush 52, 2) := by decide +kernel
theorem dL_faults_189 : decode cL_faults 189 = .ok (.bipush 44, 2) := by decide +kernel
theorem dL_faults_191 : decode cL_faults 191 = .ok (.bipush 49, 2) := by decide +kernel
theorem dL_faults_193 : decode cL_faults 193 = .ok (.invokestatic 101, 3) := by decide +kernel
theorem dL_faults_196 : decode cL_faults 196 = .ok (.aload_n 0, 1) := by decide +kernel
theorem dL_faults_197 : decode cL_faults 197 = .ok (.bipush 44, 2) := by decide +kernel
theorem dL_faults_199 : decode cL_faults 199 = .ok (.bipush 49, 2) := by decide +kernel
theorem dL_faults_201 : decode cL_faults 201 = .ok (.bipush 59, 2) := by decide +kernel
theorem dL_faults_203 : decode cL_faults 203 = .ok (.iconst 0, 1) := by decide +kernel
theorem dL_faults_204 : decode cL_faults 204 = .ok (.invokestatic 101, 3) := by decide +kernel
theorem dL_faults_207 : decode cL_faults 207 = .ok (.aload_n 0, 1) := by decide +kernel
theorem dL_faults_208 : decode cL_faults 208 = .ok (.iconst 2, 1) := by decide +kernel
theorem dL_faults_209 : decode cL_faults 209 = .ok (.invokestatic 97, 3) := by decide +kernel
theorem dL_faults_212 : decode cL_faults 212 = .ok (.ifCond .ne 5, 3) := by decide +kernel
theorem dL_faults_215 : decode cL_faults 215 = .ok (.iconst 0, 1) := by decide +kernel
theorem dL_faults_216 : decode cL_faults 216 = .ok (.ireturn, 1) := by decide +kernel
theorem dL_faults_217 : decode cL_faults 217 = .ok (.aload_n 0, 1) := by decide +kernel
theorem dL_faults_218 : decode cL_faults 218 = .ok (.bipush 115, 2) := by decide +kernel
theorem dL_faults_220 : decode cL_faults 220 = .ok (.bipush 59, 2) := by decide +kernel
theorem dL_faults_222 : decode cL_faults 222 = .ok (.bipush 99, 2) := by decide +kernel
theorem dL_faults_224 : decode cL_faults 224 = .ok (.bipush 52, 2) := by decide +kernel
theorem dL_faults_226 : decode cL_faults 226 = .ok (.invokestatic 101, 3) := by decide +kernel
theorem dL_faults_229 : decode cL_faults 229 = .ok (.aload_n 0, 1) := by decide +kernel
theorem dL_faults_230 : decode cL_faults 230 = .ok (.bipush 44, 2) := by decide +kernel
theorem dL_faults_232 : decode cL_faults 232 = .ok (.bipush 44, 2) := by decide +kernel
theorem dL_faults_234 : decode cL_faults 234 = .ok (.bipush 49, 2) := by decide +kernel
theorem dL_faults_236 : decode cL_faults 236 = .ok (.bipush 59, 2) := by decide +kernel
theorem dL_faults_238 : decode cL_faults 238 = .ok (.invokestatic 101, 3) := by decide +kernel
theorem dL_faults_241 : decode cL_faults 241 = .ok (.aload_n 0, 1) := by decide +kernel
theorem dL_faults_242 : decode cL_faults 242 = .ok (.iconst 2, 1) := by decide +kernel
theorem dL_faults_243 : decode cL_faults 243 = .ok (.invokestatic 97, 3) := by decide +kernel
theorem dL_faults_246 : decode cL_faults 246 = .ok (.ifCond .ne 5, 3) := by decide +kernel
theorem dL_faults_249 : decode cL_faults 249 = .ok (.iconst 0, 1) := by decide +kernel
theorem dL_faults_250 : decode cL_faults 250 = .ok (.ireturn, 1) := by decide +kernel
theorem dL_faults_251 : decode cL_faults 251 = .ok (.aload_n 0, 1) := by decide +kernel
theorem dL_faults_252 : decode cL_faults 252 = .ok (.bipush 115, 2) := by decide +kernel
theorem dL_faults_254 : decode cL_faults 254 = .ok (.bipush 59, 2) := by decide +kernel
theorem dL_faults_256 : decode cL_faults 256 = .ok (.iconst 0, 1) := by decide +kernel
theorem dL_faults_257 : decode cL_faults 257 = .ok (.iconst 0, 1) := by decide +kernel
theorem dL_faults_258 : decode cL_faults 258 = .ok (.invokestatic 101, 3) := by decide +kernel
theorem dL_faults_261 : decode cL_faults 261 = .ok (.iconst 0, 1) := by decide +kernel
