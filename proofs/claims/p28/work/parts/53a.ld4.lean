theorem dL_isForetold_126 : decode cL_isForetold 126 = .ok (.iinc 10 1, 3) := by decide +kernel
theorem dL_isForetold_129 : decode cL_isForetold 129 = .ok (.goto (-58), 3) := by decide +kernel
theorem dL_isForetold_132 : decode cL_isForetold 132 = .ok (.aload_n 0, 1) := by decide +kernel
theorem dL_isForetold_133 : decode cL_isForetold 133 = .ok (.invokestatic 73, 3) := by decide +kernel
theorem dL_isForetold_136 : decode cL_isForetold 136 = .ok (.lload_n 2, 1) := by decide +kernel
theorem dL_isForetold_137 : decode cL_isForetold 137 = .ok (.lcmp, 1) := by decide +kernel
theorem dL_isForetold_138 : decode cL_isForetold 138 = .ok (.ifCond .eq 5, 3) := by decide +kernel
theorem dL_isForetold_141 : decode cL_isForetold 141 = .ok (.iconst 0, 1) := by decide +kernel
theorem dL_isForetold_142 : decode cL_isForetold 142 = .ok (.ireturn, 1) := by decide +kernel
theorem dL_isForetold_143 : decode cL_isForetold 143 = .ok (.aload_n 0, 1) := by decide +kernel
theorem dL_isForetold_144 : decode cL_isForetold 144 = .ok (.iconst 4, 1) := by decide +kernel
theorem dL_isForetold_145 : decode cL_isForetold 145 = .ok (.invokevirtual 12, 3) := by decide +kernel
theorem dL_isForetold_148 : decode cL_isForetold 148 = .ok (.istore 10, 2) := by decide +kernel
theorem dL_isForetold_150 : decode cL_isForetold 150 = .ok (.aload_n 0, 1) := by decide +kernel
theorem dL_isForetold_151 : decode cL_isForetold 151 = .ok (.iload 4, 2) := by decide +kernel
theorem dL_isForetold_153 : decode cL_isForetold 153 = .ok (.iload 5, 2) := by decide +kernel
theorem dL_isForetold_155 : decode cL_isForetold 155 = .ok (.invokevirtual 70, 3) := by decide +kernel
theorem dL_isForetold_158 : decode cL_isForetold 158 = .ok (.istore 11, 2) := by decide +kernel
theorem dL_isForetold_160 : decode cL_isForetold 160 = .ok (.iload 11, 2) := by decide +kernel
theorem dL_isForetold_162 : decode cL_isForetold 162 = .ok (.ifCond .lt 41, 3) := by decide +kernel
theorem dL_isForetold_165 : decode cL_isForetold 165 = .ok (.iload 11, 2) := by decide +kernel
theorem dL_isForetold_167 : decode cL_isForetold 167 = .ok (.iconst 3, 1) := by decide +kernel
theorem dL_isForetold_168 : decode cL_isForetold 168 = .ok (.if_icmp .ge 35, 3) := by decide +kernel
theorem dL_isForetold_171 : decode cL_isForetold 171 = .ok (.aload_n 0, 1) := by decide +kernel
theorem dL_isForetold_172 : decode cL_isForetold 172 = .ok (.iconst 0, 1) := by decide +kernel
theorem dL_isForetold_173 : decode cL_isForetold 173 = .ok (.iconst 3, 1) := by decide +kernel
theorem dL_isForetold_174 : decode cL_isForetold 174 = .ok (.invokevirtual 29, 3) := by decide +kernel
theorem dL_isForetold_177 : decode cL_isForetold 177 = .ok (.aload_n 0, 1) := by decide +kernel
theorem dL_isForetold_178 : decode cL_isForetold 178 = .ok (.iconst 4, 1) := by decide +kernel
theorem dL_isForetold_179 : decode cL_isForetold 179 = .ok (.invokevirtual 12, 3) := by decide +kernel
theorem dL_isForetold_182 : decode cL_isForetold 182 = .ok (.iload 10, 2) := by decide +kernel
theorem dL_isForetold_184 : decode cL_isForetold 184 = .ok (.isub, 1) := by decide +kernel
theorem dL_isForetold_185 : decode cL_isForetold 185 = .ok (.if_icmp .ne 18, 3) := by decide +kernel
theorem dL_isForetold_188 : decode cL_isForetold 188 = .ok (.aload_n 0, 1) := by decide +kernel
theorem dL_isForetold_189 : decode cL_isForetold 189 = .ok (.iconst 0, 1) := by decide +kernel
theorem dL_isForetold_190 : decode cL_isForetold 190 = .ok (.iconst 3, 1) := by decide +kernel
theorem dL_isForetold_191 : decode cL_isForetold 191 = .ok (.invokevirtual 29, 3) := by decide +kernel
theorem dL_isForetold_194 : decode cL_isForetold 194 = .ok (.iload 9, 2) := by decide +kernel
theorem dL_isForetold_196 : decode cL_isForetold 196 = .ok (.if_icmp .gt 7, 3) := by decide +kernel
theorem dL_isForetold_199 : decode cL_isForetold 199 = .ok (.iconst 1, 1) := by decide +kernel
theorem dL_isForetold_200 : decode cL_isForetold 200 = .ok (.goto 4, 3) := by decide +kernel
theorem dL_isForetold_203 : decode cL_isForetold 203 = .ok (.iconst 0, 1) := by decide +kernel
theorem dL_isForetold_204 : decode cL_isForetold 204 = .ok (.istore 12, 2) := by decide +kernel
theorem dL_isForetold_206 : decode cL_isForetold 206 = .ok (.aload_n 0, 1) := by decide +kernel
theorem dL_isForetold_207 : decode cL_isForetold 207 = .ok (.invokevirtual 83, 3) := by decide +kernel
theorem dL_isForetold_210 : decode cL_isForetold 210 = .ok (.pop, 1) := by decide +kernel
theorem dL_isForetold_211 : decode cL_isForetold 211 = .ok (.iload 12, 2) := by decide +kernel
theorem dL_isForetold_213 : decode cL_isForetold 213 = .ok (.ifCond .eq 29, 3) := by decide +kernel
theorem dL_isForetold_216 : decode cL_isForetold 216 = .ok (.aload_n 0, 1) := by decide +kernel
theorem dL_isForetold_217 : decode cL_isForetold 217 = .ok (.invokestatic 73, 3) := by decide +kernel
theorem dL_isForetold_220 : decode cL_isForetold 220 = .ok (.lload_n 2, 1) := by decide +kernel
theorem dL_isForetold_221 : decode cL_isForetold 221 = .ok (.lcmp, 1) := by decide +kernel
theorem dL_isForetold_222 : decode cL_isForetold 222 = .ok (.ifCond .ne 20, 3) := by decide +kernel
theorem dL_isForetold_225 : decode cL_isForetold 225 = .ok (.aload_n 0, 1) := by decide +kernel
theorem dL_isForetold_226 : decode cL_isForetold 226 = .ok (.iload 4, 2) := by decide +kernel
theorem dL_isForetold_228 : decode cL_isForetold 228 = .ok (.iload 5, 2) := by decide +kernel
theorem dL_isForetold_230 : decode cL_isForetold 230 = .ok (.iload 6, 2) := by decide +kernel
theorem dL_isForetold_232 : decode cL_isForetold 232 = .ok (.iload 7, 2) := by decide +kernel
theorem dL_isForetold_234 : decode cL_isForetold 234 = .ok (.invokevirtual 66, 3) := by decide +kernel
theorem dL_isForetold_237 : decode cL_isForetold 237 = .ok (.iload 8, 2) := by decide +kernel
theorem dL_isForetold_239 : decode cL_isForetold 239 = .ok (.if_icmp .eq 5, 3) := by decide +kernel
theorem dL_isForetold_242 : decode cL_isForetold 242 = .ok (.iconst 0, 1) := by decide +kernel
theorem dL_isForetold_243 : decode cL_isForetold 243 = .ok (.ireturn, 1) := by decide +kernel
theorem dL_isForetold_244 : decode cL_isForetold 244 = .ok (.aload_n 0, 1) := by decide +kernel
theorem dL_isForetold_245 : decode cL_isForetold 245 = .ok (.invokevirtual 83, 3) := by decide +kernel
theorem dL_isForetold_248 : decode cL_isForetold 248 = .ok (.pop, 1) := by decide +kernel
theorem dL_isForetold_249 : decode cL_isForetold 249 = .ok (.aload_n 0, 1) := by decide +kernel
theorem dL_isForetold_250 : decode cL_isForetold 250 = .ok (.invokestatic 73, 3) := by decide +kernel
theorem dL_isForetold_253 : decode cL_isForetold 253 = .ok (.lload_n 2, 1) := by decide +kernel
theorem dL_isForetold_254 : decode cL_isForetold 254 = .ok (.lcmp, 1) := by decide +kernel
theorem dL_isForetold_255 : decode cL_isForetold 255 = .ok (.ifCond .ne 7, 3) := by decide +kernel
theorem dL_isForetold_258 : decode cL_isForetold 258 = .ok (.iconst 1, 1) := by decide +kernel
theorem dL_isForetold_259 : decode cL_isForetold 259 = .ok (.goto 4, 3) := by decide +kernel
theorem dL_isForetold_262 : decode cL_isForetold 262 = .ok (.iconst 0, 1) := by decide +kernel
theorem dL_isForetold_263 : decode cL_isForetold 263 = .ok (.ireturn, 1) := by decide +kernel
theorem dL_law_0 : decode cL_law 0 = .ok (.new 13, 3) := by decide +kernel
theorem dL_law_3 : decode cL_law 3 = .ok (.dup, 1) := by decide +kernel
theorem dL_law_4 : decode cL_law 4 = .ok (.invokespecial 86, 3) := by decide +kernel
theorem dL_law_7 : decode cL_law 7 = .ok (.astore_n 1, 1) := by decide +kernel
theorem dL_law_8 : decode cL_law 8 = .ok (.aload_n 0, 1) := by decide +kernel
theorem dL_law_9 : decode cL_law 9 = .ok (.iconst 0, 1) := by decide +kernel
theorem dL_law_10 : decode cL_law 10 = .ok (.invokestatic 87, 3) := by decide +kernel
theorem dL_law_13 : decode cL_law 13 = .ok (.istore_n 2, 1) := by decide +kernel
theorem dL_law_14 : decode cL_law 14 = .ok (.aload_n 1, 1) := by decide +kernel
theorem dL_law_15 : decode cL_law 15 = .ok (.iconst 1, 1) := by decide +kernel
theorem dL_law_16 : decode cL_law 16 = .ok (.iload_n 2, 1) := by decide +kernel
theorem dL_law_17 : decode cL_law 17 = .ok (.iconst 4, 1) := by decide +kernel
theorem dL_law_18 : decode cL_law 18 = .ok (.invokestatic 41, 3) := by decide +kernel
theorem dL_law_21 : decode cL_law 21 = .ok (.iadd, 1) := by decide +kernel
theorem dL_law_22 : decode cL_law 22 = .ok (.iconst 1, 1) := by decide +kernel
theorem dL_law_23 : decode cL_law 23 = .ok (.iload_n 2, 1) := by decide +kernel
theorem dL_law_24 : decode cL_law 24 = .ok (.iconst 4, 1) := by decide +kernel
theorem dL_law_25 : decode cL_law 25 = .ok (.ishr, 1) := by decide +kernel
theorem dL_law_26 : decode cL_law 26 = .ok (.iconst 2, 1) := by decide +kernel
theorem dL_law_27 : decode cL_law 27 = .ok (.invokestatic 41, 3) := by decide +kernel
theorem dL_law_30 : decode cL_law 30 = .ok (.iadd, 1) := by decide +kernel
theorem dL_law_31 : decode cL_law 31 = .ok (.invokevirtual 44, 3) := by decide +kernel
theorem dL_law_34 : decode cL_law 34 = .ok (.pop, 1) := by decide +kernel
theorem dL_law_35 : decode cL_law 35 = .ok (.aload_n 1, 1) := by decide +kernel
theorem dL_law_36 : decode cL_law 36 = .ok (.iload_n 2, 1) := by decide +kernel
theorem dL_law_37 : decode cL_law 37 = .ok (.bipush 7, 2) := by decide +kernel
theorem dL_law_39 : decode cL_law 39 = .ok (.ishr, 1) := by decide +kernel
theorem dL_law_40 : decode cL_law 40 = .ok (.iconst 3, 1) := by decide +kernel
theorem dL_law_41 : decode cL_law 41 = .ok (.invokestatic 41, 3) := by decide +kernel
theorem dL_law_44 : decode cL_law 44 = .ok (.iconst 1, 1) := by decide +kernel
theorem dL_law_45 : decode cL_law 45 = .ok (.iload_n 2, 1) := by decide +kernel
theorem dL_law_46 : decode cL_law 46 = .ok (.bipush 9, 2) := by decide +kernel
theorem dL_law_48 : decode cL_law 48 = .ok (.ishr, 1) := by decide +kernel
theorem dL_law_49 : decode cL_law 49 = .ok (.iconst 4, 1) := by decide +kernel
theorem dL_law_50 : decode cL_law 50 = .ok (.invokestatic 41, 3) := by decide +kernel
theorem dL_law_53 : decode cL_law 53 = .ok (.iadd, 1) := by decide +kernel
theorem dL_law_54 : decode cL_law 54 = .ok (.iconst 1, 1) := by decide +kernel
theorem dL_law_55 : decode cL_law 55 = .ok (.iload_n 2, 1) := by decide +kernel
theorem dL_law_56 : decode cL_law 56 = .ok (.bipush 12, 2) := by decide +kernel
theorem dL_law_58 : decode cL_law 58 = .ok (.ishr, 1) := by decide +kernel
theorem dL_law_59 : decode cL_law 59 = .ok (.iconst 3, 1) := by decide +kernel
theorem dL_law_60 : decode cL_law 60 = .ok (.invokestatic 41, 3) := by decide +kernel
theorem dL_law_63 : decode cL_law 63 = .ok (.iadd, 1) := by decide +kernel
theorem dL_law_64 : decode cL_law 64 = .ok (.invokevirtual 51, 3) := by decide +kernel
theorem dL_law_67 : decode cL_law 67 = .ok (.pop, 1) := by decide +kernel
theorem dL_law_68 : decode cL_law 68 = .ok (.aload_n 1, 1) := by decide +kernel
theorem dL_law_69 : decode cL_law 69 = .ok (.iload_n 2, 1) := by decide +kernel
theorem dL_law_70 : decode cL_law 70 = .ok (.bipush 15, 2) := by decide +kernel
theorem dL_law_72 : decode cL_law 72 = .ok (.ishr, 1) := by decide +kernel
theorem dL_law_73 : decode cL_law 73 = .ok (.iconst 3, 1) := by decide +kernel
theorem dL_law_74 : decode cL_law 74 = .ok (.invokestatic 41, 3) := by decide +kernel
theorem dL_law_77 : decode cL_law 77 = .ok (.iconst 1, 1) := by decide +kernel
theorem dL_law_78 : decode cL_law 78 = .ok (.iload_n 2, 1) := by decide +kernel
theorem dL_law_79 : decode cL_law 79 = .ok (.bipush 17, 2) := by decide +kernel
theorem dL_law_81 : decode cL_law 81 = .ok (.ishr, 1) := by decide +kernel
theorem dL_law_82 : decode cL_law 82 = .ok (.iconst 4, 1) := by decide +kernel
theorem dL_law_83 : decode cL_law 83 = .ok (.invokestatic 41, 3) := by decide +kernel
theorem dL_law_86 : decode cL_law 86 = .ok (.iadd, 1) := by decide +kernel
theorem dL_law_87 : decode cL_law 87 = .ok (.iconst 1, 1) := by decide +kernel
theorem dL_law_88 : decode cL_law 88 = .ok (.iload_n 2, 1) := by decide +kernel
theorem dL_law_89 : decode cL_law 89 = .ok (.bipush 20, 2) := by decide +kernel
theorem dL_law_91 : decode cL_law 91 = .ok (.ishr, 1) := by decide +kernel
theorem dL_law_92 : decode cL_law 92 = .ok (.iconst 3, 1) := by decide +kernel
theorem dL_law_93 : decode cL_law 93 = .ok (.invokestatic 41, 3) := by decide +kernel
theorem dL_law_96 : decode cL_law 96 = .ok (.iadd, 1) := by decide +kernel
theorem dL_law_97 : decode cL_law 97 = .ok (.invokevirtual 51, 3) := by decide +kernel
theorem dL_law_100 : decode cL_law 100 = .ok (.pop, 1) := by decide +kernel
theorem dL_law_101 : decode cL_law 101 = .ok (.iconst 0, 1) := by decide +kernel
theorem dL_law_102 : decode cL_law 102 = .ok (.istore_n 3, 1) := by decide +kernel
theorem dL_law_103 : decode cL_law 103 = .ok (.iload_n 3, 1) := by decide +kernel
theorem dL_law_104 : decode cL_law 104 = .ok (.bipush 24, 2) := by decide +kernel
theorem dL_law_106 : decode cL_law 106 = .ok (.if_icmp .ge 112, 3) := by decide +kernel
theorem dL_law_109 : decode cL_law 109 = .ok (.aload_n 0, 1) := by decide +kernel
theorem dL_law_110 : decode cL_law 110 = .ok (.iconst 1, 1) := by decide +kernel
theorem dL_law_111 : decode cL_law 111 = .ok (.iload_n 3, 1) := by decide +kernel
theorem dL_law_112 : decode cL_law 112 = .ok (.iadd, 1) := by decide +kernel
theorem dL_law_113 : decode cL_law 113 = .ok (.invokestatic 87, 3) := by decide +kernel
theorem dL_law_116 : decode cL_law 116 = .ok (.istore 4, 2) := by decide +kernel
theorem dL_law_118 : decode cL_law 118 = .ok (.aload_n 1, 1) := by decide +kernel
theorem dL_law_119 : decode cL_law 119 = .ok (.invokestatic 73, 3) := by decide +kernel
theorem dL_law_122 : decode cL_law 122 = .ok (.lstore 5, 2) := by decide +kernel
theorem dL_law_124 : decode cL_law 124 = .ok (.aload_n 1, 1) := by decide +kernel
theorem dL_law_125 : decode cL_law 125 = .ok (.iload 4, 2) := by decide +kernel
theorem dL_law_127 : decode cL_law 127 = .ok (.invokestatic 91, 3) := by decide +kernel
theorem dL_law_130 : decode cL_law 130 = .ok (.istore 7, 2) := by decide +kernel
