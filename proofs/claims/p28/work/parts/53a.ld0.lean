theorem dL_cell_0 : decode cL_cell 0 = .ok (.iload_n 1, 1) := by decide +kernel
theorem dL_cell_1 : decode cL_cell 1 = .ok (.aload_n 0, 1) := by decide +kernel
theorem dL_cell_2 : decode cL_cell 2 = .ok (.arraylength, 1) := by decide +kernel
theorem dL_cell_3 : decode cL_cell 3 = .ok (.if_icmp .ge 9, 3) := by decide +kernel
theorem dL_cell_6 : decode cL_cell 6 = .ok (.aload_n 0, 1) := by decide +kernel
theorem dL_cell_7 : decode cL_cell 7 = .ok (.iload_n 1, 1) := by decide +kernel
theorem dL_cell_8 : decode cL_cell 8 = .ok (.iaload, 1) := by decide +kernel
theorem dL_cell_9 : decode cL_cell 9 = .ok (.goto 16, 3) := by decide +kernel
theorem dL_cell_12 : decode cL_cell 12 = .ok (.sipush 7919, 3) := by decide +kernel
theorem dL_cell_15 : decode cL_cell 15 = .ok (.iload_n 1, 1) := by decide +kernel
theorem dL_cell_16 : decode cL_cell 16 = .ok (.bipush 7, 2) := by decide +kernel
theorem dL_cell_18 : decode cL_cell 18 = .ok (.iadd, 1) := by decide +kernel
theorem dL_cell_19 : decode cL_cell 19 = .ok (.imul, 1) := by decide +kernel
theorem dL_cell_20 : decode cL_cell 20 = .ok (.iload_n 1, 1) := by decide +kernel
theorem dL_cell_21 : decode cL_cell 21 = .ok (.bipush 13, 2) := by decide +kernel
theorem dL_cell_23 : decode cL_cell 23 = .ok (.iadd, 1) := by decide +kernel
theorem dL_cell_24 : decode cL_cell 24 = .ok (.imul, 1) := by decide +kernel
theorem dL_cell_25 : decode cL_cell 25 = .ok (.ireturn, 1) := by decide +kernel
theorem dL_low_0 : decode cL_low 0 = .ok (.iload_n 0, 1) := by decide +kernel
theorem dL_low_1 : decode cL_low 1 = .ok (.ldc 7, 2) := by decide +kernel
theorem dL_low_3 : decode cL_low 3 = .ok (.iand, 1) := by decide +kernel
theorem dL_low_4 : decode cL_low 4 = .ok (.iload_n 1, 1) := by decide +kernel
theorem dL_low_5 : decode cL_low 5 = .ok (.irem, 1) := by decide +kernel
theorem dL_low_6 : decode cL_low 6 = .ok (.ireturn, 1) := by decide +kernel
theorem dL_all_0 : decode cL_all 0 = .ok (.ldc2_w 8, 3) := by decide +kernel
theorem dL_all_3 : decode cL_all 3 = .ok (.lstore_n 1, 1) := by decide +kernel
theorem dL_all_4 : decode cL_all 4 = .ok (.iconst 0, 1) := by decide +kernel
theorem dL_all_5 : decode cL_all 5 = .ok (.istore_n 3, 1) := by decide +kernel
theorem dL_all_6 : decode cL_all 6 = .ok (.iload_n 3, 1) := by decide +kernel
theorem dL_all_7 : decode cL_all 7 = .ok (.bipush 17, 2) := by decide +kernel
theorem dL_all_9 : decode cL_all 9 = .ok (.if_icmp .ge 32, 3) := by decide +kernel
theorem dL_all_12 : decode cL_all 12 = .ok (.ldc2_w 10, 3) := by decide +kernel
theorem dL_all_15 : decode cL_all 15 = .ok (.lload_n 1, 1) := by decide +kernel
theorem dL_all_16 : decode cL_all 16 = .ok (.lmul, 1) := by decide +kernel
theorem dL_all_17 : decode cL_all 17 = .ok (.iload_n 3, 1) := by decide +kernel
theorem dL_all_18 : decode cL_all 18 = .ok (.bipush 14, 2) := by decide +kernel
theorem dL_all_20 : decode cL_all 20 = .ok (.if_icmp .ne 7, 3) := by decide +kernel
theorem dL_all_23 : decode cL_all 23 = .ok (.iconst 0, 1) := by decide +kernel
theorem dL_all_24 : decode cL_all 24 = .ok (.goto 8, 3) := by decide +kernel
theorem dL_all_27 : decode cL_all 27 = .ok (.aload_n 0, 1) := by decide +kernel
theorem dL_all_28 : decode cL_all 28 = .ok (.iload_n 3, 1) := by decide +kernel
theorem dL_all_29 : decode cL_all 29 = .ok (.invokevirtual 12, 3) := by decide +kernel
theorem dL_all_32 : decode cL_all 32 = .ok (.i2l, 1) := by decide +kernel
theorem dL_all_33 : decode cL_all 33 = .ok (.ladd, 1) := by decide +kernel
theorem dL_all_34 : decode cL_all 34 = .ok (.lstore_n 1, 1) := by decide +kernel
theorem dL_all_35 : decode cL_all 35 = .ok (.iinc 3 1, 3) := by decide +kernel
theorem dL_all_38 : decode cL_all 38 = .ok (.goto (-32), 3) := by decide +kernel
theorem dL_all_41 : decode cL_all 41 = .ok (.iconst 0, 1) := by decide +kernel
theorem dL_all_42 : decode cL_all 42 = .ok (.istore_n 3, 1) := by decide +kernel
theorem dL_all_43 : decode cL_all 43 = .ok (.iload_n 3, 1) := by decide +kernel
theorem dL_all_44 : decode cL_all 44 = .ok (.bipush 40, 2) := by decide +kernel
theorem dL_all_46 : decode cL_all 46 = .ok (.if_icmp .ge 40, 3) := by decide +kernel
theorem dL_all_49 : decode cL_all 49 = .ok (.iconst 0, 1) := by decide +kernel
theorem dL_all_50 : decode cL_all 50 = .ok (.istore 4, 2) := by decide +kernel
theorem dL_all_52 : decode cL_all 52 = .ok (.iload 4, 2) := by decide +kernel
theorem dL_all_54 : decode cL_all 54 = .ok (.bipush 6, 2) := by decide +kernel
theorem dL_all_56 : decode cL_all 56 = .ok (.if_icmp .ge 24, 3) := by decide +kernel
theorem dL_all_59 : decode cL_all 59 = .ok (.ldc2_w 10, 3) := by decide +kernel
theorem dL_all_62 : decode cL_all 62 = .ok (.lload_n 1, 1) := by decide +kernel
theorem dL_all_63 : decode cL_all 63 = .ok (.lmul, 1) := by decide +kernel
theorem dL_all_64 : decode cL_all 64 = .ok (.aload_n 0, 1) := by decide +kernel
theorem dL_all_65 : decode cL_all 65 = .ok (.iload_n 3, 1) := by decide +kernel
theorem dL_all_66 : decode cL_all 66 = .ok (.iload 4, 2) := by decide +kernel
theorem dL_all_68 : decode cL_all 68 = .ok (.invokevirtual 18, 3) := by decide +kernel
theorem dL_all_71 : decode cL_all 71 = .ok (.i2l, 1) := by decide +kernel
theorem dL_all_72 : decode cL_all 72 = .ok (.ladd, 1) := by decide +kernel
theorem dL_all_73 : decode cL_all 73 = .ok (.lstore_n 1, 1) := by decide +kernel
theorem dL_all_74 : decode cL_all 74 = .ok (.iinc 4 1, 3) := by decide +kernel
theorem dL_all_77 : decode cL_all 77 = .ok (.goto (-25), 3) := by decide +kernel
theorem dL_all_80 : decode cL_all 80 = .ok (.iinc 3 1, 3) := by decide +kernel
theorem dL_all_83 : decode cL_all 83 = .ok (.goto (-40), 3) := by decide +kernel
theorem dL_all_86 : decode cL_all 86 = .ok (.iconst 0, 1) := by decide +kernel
theorem dL_all_87 : decode cL_all 87 = .ok (.istore_n 3, 1) := by decide +kernel
theorem dL_all_88 : decode cL_all 88 = .ok (.iload_n 3, 1) := by decide +kernel
theorem dL_all_89 : decode cL_all 89 = .ok (.aload_n 0, 1) := by decide +kernel
theorem dL_all_90 : decode cL_all 90 = .ok (.bipush 10, 2) := by decide +kernel
theorem dL_all_92 : decode cL_all 92 = .ok (.invokevirtual 12, 3) := by decide +kernel
theorem dL_all_95 : decode cL_all 95 = .ok (.if_icmp .ge 77, 3) := by decide +kernel
theorem dL_all_98 : decode cL_all 98 = .ok (.iconst 0, 1) := by decide +kernel
theorem dL_all_99 : decode cL_all 99 = .ok (.istore 4, 2) := by decide +kernel
theorem dL_all_101 : decode cL_all 101 = .ok (.iload 4, 2) := by decide +kernel
theorem dL_all_103 : decode cL_all 103 = .ok (.bipush 16, 2) := by decide +kernel
theorem dL_all_105 : decode cL_all 105 = .ok (.if_icmp .ge 24, 3) := by decide +kernel
theorem dL_all_108 : decode cL_all 108 = .ok (.ldc2_w 10, 3) := by decide +kernel
theorem dL_all_111 : decode cL_all 111 = .ok (.lload_n 1, 1) := by decide +kernel
theorem dL_all_112 : decode cL_all 112 = .ok (.lmul, 1) := by decide +kernel
theorem dL_all_113 : decode cL_all 113 = .ok (.aload_n 0, 1) := by decide +kernel
theorem dL_all_114 : decode cL_all 114 = .ok (.iload_n 3, 1) := by decide +kernel
theorem dL_all_115 : decode cL_all 115 = .ok (.iload 4, 2) := by decide +kernel
theorem dL_all_117 : decode cL_all 117 = .ok (.invokevirtual 22, 3) := by decide +kernel
theorem dL_all_120 : decode cL_all 120 = .ok (.i2l, 1) := by decide +kernel
theorem dL_all_121 : decode cL_all 121 = .ok (.ladd, 1) := by decide +kernel
theorem dL_all_122 : decode cL_all 122 = .ok (.lstore_n 1, 1) := by decide +kernel
theorem dL_all_123 : decode cL_all 123 = .ok (.iinc 4 1, 3) := by decide +kernel
theorem dL_all_126 : decode cL_all 126 = .ok (.goto (-25), 3) := by decide +kernel
theorem dL_all_129 : decode cL_all 129 = .ok (.iconst 0, 1) := by decide +kernel
theorem dL_all_130 : decode cL_all 130 = .ok (.istore 4, 2) := by decide +kernel
theorem dL_all_132 : decode cL_all 132 = .ok (.iload 4, 2) := by decide +kernel
theorem dL_all_134 : decode cL_all 134 = .ok (.bipush 16, 2) := by decide +kernel
theorem dL_all_136 : decode cL_all 136 = .ok (.if_icmp .ge 30, 3) := by decide +kernel
theorem dL_all_139 : decode cL_all 139 = .ok (.ldc2_w 10, 3) := by decide +kernel
theorem dL_all_142 : decode cL_all 142 = .ok (.lload_n 1, 1) := by decide +kernel
theorem dL_all_143 : decode cL_all 143 = .ok (.lmul, 1) := by decide +kernel
theorem dL_all_144 : decode cL_all 144 = .ok (.aload_n 0, 1) := by decide +kernel
theorem dL_all_145 : decode cL_all 145 = .ok (.iload_n 3, 1) := by decide +kernel
theorem dL_all_146 : decode cL_all 146 = .ok (.iload 4, 2) := by decide +kernel
theorem dL_all_148 : decode cL_all 148 = .ok (.iconst 4, 1) := by decide +kernel
theorem dL_all_149 : decode cL_all 149 = .ok (.idiv, 1) := by decide +kernel
theorem dL_all_150 : decode cL_all 150 = .ok (.iload 4, 2) := by decide +kernel
theorem dL_all_152 : decode cL_all 152 = .ok (.iconst 4, 1) := by decide +kernel
theorem dL_all_153 : decode cL_all 153 = .ok (.irem, 1) := by decide +kernel
theorem dL_all_154 : decode cL_all 154 = .ok (.invokevirtual 25, 3) := by decide +kernel
theorem dL_all_157 : decode cL_all 157 = .ok (.i2l, 1) := by decide +kernel
theorem dL_all_158 : decode cL_all 158 = .ok (.ladd, 1) := by decide +kernel
theorem dL_all_159 : decode cL_all 159 = .ok (.lstore_n 1, 1) := by decide +kernel
theorem dL_all_160 : decode cL_all 160 = .ok (.iinc 4 1, 3) := by decide +kernel
theorem dL_all_163 : decode cL_all 163 = .ok (.goto (-31), 3) := by decide +kernel
theorem dL_all_166 : decode cL_all 166 = .ok (.iinc 3 1, 3) := by decide +kernel
theorem dL_all_169 : decode cL_all 169 = .ok (.goto (-81), 3) := by decide +kernel
theorem dL_all_172 : decode cL_all 172 = .ok (.iconst 0, 1) := by decide +kernel
theorem dL_all_173 : decode cL_all 173 = .ok (.istore_n 3, 1) := by decide +kernel
theorem dL_all_174 : decode cL_all 174 = .ok (.iload_n 3, 1) := by decide +kernel
theorem dL_all_175 : decode cL_all 175 = .ok (.bipush 48, 2) := by decide +kernel
theorem dL_all_177 : decode cL_all 177 = .ok (.if_icmp .ge 27, 3) := by decide +kernel
theorem dL_all_180 : decode cL_all 180 = .ok (.ldc2_w 10, 3) := by decide +kernel
theorem dL_all_183 : decode cL_all 183 = .ok (.lload_n 1, 1) := by decide +kernel
theorem dL_all_184 : decode cL_all 184 = .ok (.lmul, 1) := by decide +kernel
theorem dL_all_185 : decode cL_all 185 = .ok (.aload_n 0, 1) := by decide +kernel
theorem dL_all_186 : decode cL_all 186 = .ok (.iload_n 3, 1) := by decide +kernel
theorem dL_all_187 : decode cL_all 187 = .ok (.iconst 4, 1) := by decide +kernel
theorem dL_all_188 : decode cL_all 188 = .ok (.idiv, 1) := by decide +kernel
theorem dL_all_189 : decode cL_all 189 = .ok (.iload_n 3, 1) := by decide +kernel
theorem dL_all_190 : decode cL_all 190 = .ok (.iconst 4, 1) := by decide +kernel
theorem dL_all_191 : decode cL_all 191 = .ok (.irem, 1) := by decide +kernel
theorem dL_all_192 : decode cL_all 192 = .ok (.invokevirtual 29, 3) := by decide +kernel
theorem dL_all_195 : decode cL_all 195 = .ok (.i2l, 1) := by decide +kernel
theorem dL_all_196 : decode cL_all 196 = .ok (.ladd, 1) := by decide +kernel
theorem dL_all_197 : decode cL_all 197 = .ok (.lstore_n 1, 1) := by decide +kernel
theorem dL_all_198 : decode cL_all 198 = .ok (.iinc 3 1, 3) := by decide +kernel
theorem dL_all_201 : decode cL_all 201 = .ok (.goto (-27), 3) := by decide +kernel
theorem dL_all_204 : decode cL_all 204 = .ok (.lload_n 1, 1) := by decide +kernel
theorem dL_all_205 : decode cL_all 205 = .ok (.lreturn, 1) := by decide +kernel
theorem dL_isSound_0 : decode cL_isSound 0 = .ok (.iconst 0, 1) := by decide +kernel
theorem dL_isSound_1 : decode cL_isSound 1 = .ok (.istore_n 1, 1) := by decide +kernel
theorem dL_isSound_2 : decode cL_isSound 2 = .ok (.iconst 0, 1) := by decide +kernel
theorem dL_isSound_3 : decode cL_isSound 3 = .ok (.istore_n 2, 1) := by decide +kernel
theorem dL_isSound_4 : decode cL_isSound 4 = .ok (.iconst 0, 1) := by decide +kernel
theorem dL_isSound_5 : decode cL_isSound 5 = .ok (.istore_n 3, 1) := by decide +kernel
theorem dL_isSound_6 : decode cL_isSound 6 = .ok (.iconst 0, 1) := by decide +kernel
theorem dL_isSound_7 : decode cL_isSound 7 = .ok (.istore 4, 2) := by decide +kernel
theorem dL_isSound_9 : decode cL_isSound 9 = .ok (.iload 4, 2) := by decide +kernel
theorem dL_isSound_11 : decode cL_isSound 11 = .ok (.aload_n 0, 1) := by decide +kernel
theorem dL_isSound_12 : decode cL_isSound 12 = .ok (.bipush 10, 2) := by decide +kernel
theorem dL_isSound_14 : decode cL_isSound 14 = .ok (.invokevirtual 12, 3) := by decide +kernel
theorem dL_isSound_17 : decode cL_isSound 17 = .ok (.if_icmp .ge 245, 3) := by decide +kernel
theorem dL_isSound_20 : decode cL_isSound 20 = .ok (.aload_n 0, 1) := by decide +kernel
theorem dL_isSound_21 : decode cL_isSound 21 = .ok (.iload 4, 2) := by decide +kernel
theorem dL_isSound_23 : decode cL_isSound 23 = .ok (.iconst 3, 1) := by decide +kernel
theorem dL_isSound_24 : decode cL_isSound 24 = .ok (.invokevirtual 22, 3) := by decide +kernel
theorem dL_isSound_27 : decode cL_isSound 27 = .ok (.istore 5, 2) := by decide +kernel
