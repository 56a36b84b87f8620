theorem dL_acts_106 : decode cL_acts 106 = .ok (.iload_n 1, 1) := by decide +kernel
theorem dL_acts_107 : decode cL_acts 107 = .ok (.bipush 9, 2) := by decide +kernel
theorem dL_acts_109 : decode cL_acts 109 = .ok (.ishr, 1) := by decide +kernel
theorem dL_acts_110 : decode cL_acts 110 = .ok (.iconst 4, 1) := by decide +kernel
theorem dL_acts_111 : decode cL_acts 111 = .ok (.invokestatic 41, 3) := by decide +kernel
theorem dL_acts_114 : decode cL_acts 114 = .ok (.iadd, 1) := by decide +kernel
theorem dL_acts_115 : decode cL_acts 115 = .ok (.iconst 1, 1) := by decide +kernel
theorem dL_acts_116 : decode cL_acts 116 = .ok (.iload_n 1, 1) := by decide +kernel
theorem dL_acts_117 : decode cL_acts 117 = .ok (.bipush 12, 2) := by decide +kernel
theorem dL_acts_119 : decode cL_acts 119 = .ok (.ishr, 1) := by decide +kernel
theorem dL_acts_120 : decode cL_acts 120 = .ok (.iconst 3, 1) := by decide +kernel
theorem dL_acts_121 : decode cL_acts 121 = .ok (.invokestatic 41, 3) := by decide +kernel
theorem dL_acts_124 : decode cL_acts 124 = .ok (.iadd, 1) := by decide +kernel
theorem dL_acts_125 : decode cL_acts 125 = .ok (.invokevirtual 44, 3) := by decide +kernel
theorem dL_acts_128 : decode cL_acts 128 = .ok (.ireturn, 1) := by decide +kernel
theorem dL_acts_129 : decode cL_acts 129 = .ok (.aload_n 0, 1) := by decide +kernel
theorem dL_acts_130 : decode cL_acts 130 = .ok (.invokevirtual 47, 3) := by decide +kernel
theorem dL_acts_133 : decode cL_acts 133 = .ok (.ireturn, 1) := by decide +kernel
theorem dL_acts_134 : decode cL_acts 134 = .ok (.aload_n 0, 1) := by decide +kernel
theorem dL_acts_135 : decode cL_acts 135 = .ok (.iload_n 1, 1) := by decide +kernel
theorem dL_acts_136 : decode cL_acts 136 = .ok (.bipush 9, 2) := by decide +kernel
theorem dL_acts_138 : decode cL_acts 138 = .ok (.ishr, 1) := by decide +kernel
theorem dL_acts_139 : decode cL_acts 139 = .ok (.iconst 3, 1) := by decide +kernel
theorem dL_acts_140 : decode cL_acts 140 = .ok (.invokestatic 41, 3) := by decide +kernel
theorem dL_acts_143 : decode cL_acts 143 = .ok (.iconst 1, 1) := by decide +kernel
theorem dL_acts_144 : decode cL_acts 144 = .ok (.iload_n 1, 1) := by decide +kernel
theorem dL_acts_145 : decode cL_acts 145 = .ok (.bipush 11, 2) := by decide +kernel
theorem dL_acts_147 : decode cL_acts 147 = .ok (.ishr, 1) := by decide +kernel
theorem dL_acts_148 : decode cL_acts 148 = .ok (.iconst 5, 1) := by decide +kernel
theorem dL_acts_149 : decode cL_acts 149 = .ok (.invokestatic 41, 3) := by decide +kernel
theorem dL_acts_152 : decode cL_acts 152 = .ok (.iadd, 1) := by decide +kernel
theorem dL_acts_153 : decode cL_acts 153 = .ok (.iconst 1, 1) := by decide +kernel
theorem dL_acts_154 : decode cL_acts 154 = .ok (.iload_n 1, 1) := by decide +kernel
theorem dL_acts_155 : decode cL_acts 155 = .ok (.bipush 14, 2) := by decide +kernel
theorem dL_acts_157 : decode cL_acts 157 = .ok (.ishr, 1) := by decide +kernel
theorem dL_acts_158 : decode cL_acts 158 = .ok (.iconst 5, 1) := by decide +kernel
theorem dL_acts_159 : decode cL_acts 159 = .ok (.invokestatic 41, 3) := by decide +kernel
theorem dL_acts_162 : decode cL_acts 162 = .ok (.iadd, 1) := by decide +kernel
theorem dL_acts_163 : decode cL_acts 163 = .ok (.invokevirtual 51, 3) := by decide +kernel
theorem dL_acts_166 : decode cL_acts 166 = .ok (.ireturn, 1) := by decide +kernel
theorem dL_acts_167 : decode cL_acts 167 = .ok (.aload_n 0, 1) := by decide +kernel
theorem dL_acts_168 : decode cL_acts 168 = .ok (.iload_n 2, 1) := by decide +kernel
theorem dL_acts_169 : decode cL_acts 169 = .ok (.iload_n 1, 1) := by decide +kernel
theorem dL_acts_170 : decode cL_acts 170 = .ok (.bipush 9, 2) := by decide +kernel
theorem dL_acts_172 : decode cL_acts 172 = .ok (.ishr, 1) := by decide +kernel
theorem dL_acts_173 : decode cL_acts 173 = .ok (.bipush 6, 2) := by decide +kernel
theorem dL_acts_175 : decode cL_acts 175 = .ok (.invokestatic 41, 3) := by decide +kernel
theorem dL_acts_178 : decode cL_acts 178 = .ok (.invokevirtual 54, 3) := by decide +kernel
theorem dL_acts_181 : decode cL_acts 181 = .ok (.ireturn, 1) := by decide +kernel
theorem dL_acts_182 : decode cL_acts 182 = .ok (.aload_n 0, 1) := by decide +kernel
theorem dL_acts_183 : decode cL_acts 183 = .ok (.iconst 1, 1) := by decide +kernel
theorem dL_acts_184 : decode cL_acts 184 = .ok (.iload_n 1, 1) := by decide +kernel
theorem dL_acts_185 : decode cL_acts 185 = .ok (.bipush 9, 2) := by decide +kernel
theorem dL_acts_187 : decode cL_acts 187 = .ok (.ishr, 1) := by decide +kernel
theorem dL_acts_188 : decode cL_acts 188 = .ok (.iconst 4, 1) := by decide +kernel
theorem dL_acts_189 : decode cL_acts 189 = .ok (.invokestatic 41, 3) := by decide +kernel
theorem dL_acts_192 : decode cL_acts 192 = .ok (.iadd, 1) := by decide +kernel
theorem dL_acts_193 : decode cL_acts 193 = .ok (.invokevirtual 57, 3) := by decide +kernel
theorem dL_acts_196 : decode cL_acts 196 = .ok (.ireturn, 1) := by decide +kernel
theorem dL_acts_197 : decode cL_acts 197 = .ok (.aload_n 0, 1) := by decide +kernel
theorem dL_acts_198 : decode cL_acts 198 = .ok (.iload_n 2, 1) := by decide +kernel
theorem dL_acts_199 : decode cL_acts 199 = .ok (.invokevirtual 60, 3) := by decide +kernel
theorem dL_acts_202 : decode cL_acts 202 = .ok (.ireturn, 1) := by decide +kernel
theorem dL_acts_203 : decode cL_acts 203 = .ok (.aload_n 0, 1) := by decide +kernel
theorem dL_acts_204 : decode cL_acts 204 = .ok (.iload_n 2, 1) := by decide +kernel
theorem dL_acts_205 : decode cL_acts 205 = .ok (.invokevirtual 63, 3) := by decide +kernel
theorem dL_acts_208 : decode cL_acts 208 = .ok (.ireturn, 1) := by decide +kernel
theorem dL_acts_209 : decode cL_acts 209 = .ok (.aload_n 0, 1) := by decide +kernel
theorem dL_acts_210 : decode cL_acts 210 = .ok (.iload_n 3, 1) := by decide +kernel
theorem dL_acts_211 : decode cL_acts 211 = .ok (.iload 4, 2) := by decide +kernel
theorem dL_acts_213 : decode cL_acts 213 = .ok (.iload_n 1, 1) := by decide +kernel
theorem dL_acts_214 : decode cL_acts 214 = .ok (.bipush 16, 2) := by decide +kernel
theorem dL_acts_216 : decode cL_acts 216 = .ok (.ishr, 1) := by decide +kernel
theorem dL_acts_217 : decode cL_acts 217 = .ok (.bipush 9, 2) := by decide +kernel
theorem dL_acts_219 : decode cL_acts 219 = .ok (.invokestatic 41, 3) := by decide +kernel
theorem dL_acts_222 : decode cL_acts 222 = .ok (.iconst 4, 1) := by decide +kernel
theorem dL_acts_223 : decode cL_acts 223 = .ok (.isub, 1) := by decide +kernel
theorem dL_acts_224 : decode cL_acts 224 = .ok (.iconst 1, 1) := by decide +kernel
theorem dL_acts_225 : decode cL_acts 225 = .ok (.iload_n 1, 1) := by decide +kernel
theorem dL_acts_226 : decode cL_acts 226 = .ok (.bipush 20, 2) := by decide +kernel
theorem dL_acts_228 : decode cL_acts 228 = .ok (.ishr, 1) := by decide +kernel
theorem dL_acts_229 : decode cL_acts 229 = .ok (.bipush 8, 2) := by decide +kernel
theorem dL_acts_231 : decode cL_acts 231 = .ok (.invokestatic 41, 3) := by decide +kernel
theorem dL_acts_234 : decode cL_acts 234 = .ok (.iadd, 1) := by decide +kernel
theorem dL_acts_235 : decode cL_acts 235 = .ok (.invokevirtual 66, 3) := by decide +kernel
theorem dL_acts_238 : decode cL_acts 238 = .ok (.ireturn, 1) := by decide +kernel
theorem dL_acts_239 : decode cL_acts 239 = .ok (.aload_n 0, 1) := by decide +kernel
theorem dL_acts_240 : decode cL_acts 240 = .ok (.iload_n 3, 1) := by decide +kernel
theorem dL_acts_241 : decode cL_acts 241 = .ok (.iload 4, 2) := by decide +kernel
theorem dL_acts_243 : decode cL_acts 243 = .ok (.invokevirtual 70, 3) := by decide +kernel
theorem dL_acts_246 : decode cL_acts 246 = .ok (.ireturn, 1) := by decide +kernel
theorem dL_isForetold_0 : decode cL_isForetold 0 = .ok (.aload_n 0, 1) := by decide +kernel
theorem dL_isForetold_1 : decode cL_isForetold 1 = .ok (.invokestatic 73, 3) := by decide +kernel
theorem dL_isForetold_4 : decode cL_isForetold 4 = .ok (.lstore_n 2, 1) := by decide +kernel
theorem dL_isForetold_5 : decode cL_isForetold 5 = .ok (.iload_n 1, 1) := by decide +kernel
theorem dL_isForetold_6 : decode cL_isForetold 6 = .ok (.iconst 3, 1) := by decide +kernel
theorem dL_isForetold_7 : decode cL_isForetold 7 = .ok (.invokestatic 41, 3) := by decide +kernel
theorem dL_isForetold_10 : decode cL_isForetold 10 = .ok (.istore 4, 2) := by decide +kernel
theorem dL_isForetold_12 : decode cL_isForetold 12 = .ok (.bipush 60, 2) := by decide +kernel
theorem dL_isForetold_14 : decode cL_isForetold 14 = .ok (.iload_n 1, 1) := by decide +kernel
theorem dL_isForetold_15 : decode cL_isForetold 15 = .ok (.iconst 3, 1) := by decide +kernel
theorem dL_isForetold_16 : decode cL_isForetold 16 = .ok (.ishr, 1) := by decide +kernel
theorem dL_isForetold_17 : decode cL_isForetold 17 = .ok (.bipush 40, 2) := by decide +kernel
theorem dL_isForetold_19 : decode cL_isForetold 19 = .ok (.invokestatic 41, 3) := by decide +kernel
theorem dL_isForetold_22 : decode cL_isForetold 22 = .ok (.iadd, 1) := by decide +kernel
theorem dL_isForetold_23 : decode cL_isForetold 23 = .ok (.istore 5, 2) := by decide +kernel
theorem dL_isForetold_25 : decode cL_isForetold 25 = .ok (.iload_n 1, 1) := by decide +kernel
theorem dL_isForetold_26 : decode cL_isForetold 26 = .ok (.bipush 9, 2) := by decide +kernel
theorem dL_isForetold_28 : decode cL_isForetold 28 = .ok (.ishr, 1) := by decide +kernel
theorem dL_isForetold_29 : decode cL_isForetold 29 = .ok (.bipush 11, 2) := by decide +kernel
theorem dL_isForetold_31 : decode cL_isForetold 31 = .ok (.invokestatic 41, 3) := by decide +kernel
theorem dL_isForetold_34 : decode cL_isForetold 34 = .ok (.iconst 5, 1) := by decide +kernel
theorem dL_isForetold_35 : decode cL_isForetold 35 = .ok (.isub, 1) := by decide +kernel
theorem dL_isForetold_36 : decode cL_isForetold 36 = .ok (.istore 6, 2) := by decide +kernel
theorem dL_isForetold_38 : decode cL_isForetold 38 = .ok (.iconst 1, 1) := by decide +kernel
theorem dL_isForetold_39 : decode cL_isForetold 39 = .ok (.iload_n 1, 1) := by decide +kernel
theorem dL_isForetold_40 : decode cL_isForetold 40 = .ok (.bipush 13, 2) := by decide +kernel
theorem dL_isForetold_42 : decode cL_isForetold 42 = .ok (.ishr, 1) := by decide +kernel
theorem dL_isForetold_43 : decode cL_isForetold 43 = .ok (.bipush 9, 2) := by decide +kernel
theorem dL_isForetold_45 : decode cL_isForetold 45 = .ok (.invokestatic 41, 3) := by decide +kernel
theorem dL_isForetold_48 : decode cL_isForetold 48 = .ok (.iadd, 1) := by decide +kernel
theorem dL_isForetold_49 : decode cL_isForetold 49 = .ok (.istore 7, 2) := by decide +kernel
theorem dL_isForetold_51 : decode cL_isForetold 51 = .ok (.aload_n 0, 1) := by decide +kernel
theorem dL_isForetold_52 : decode cL_isForetold 52 = .ok (.iload 4, 2) := by decide +kernel
theorem dL_isForetold_54 : decode cL_isForetold 54 = .ok (.iload 5, 2) := by decide +kernel
theorem dL_isForetold_56 : decode cL_isForetold 56 = .ok (.iload 6, 2) := by decide +kernel
theorem dL_isForetold_58 : decode cL_isForetold 58 = .ok (.iload 7, 2) := by decide +kernel
theorem dL_isForetold_60 : decode cL_isForetold 60 = .ok (.invokevirtual 77, 3) := by decide +kernel
theorem dL_isForetold_63 : decode cL_isForetold 63 = .ok (.istore 8, 2) := by decide +kernel
theorem dL_isForetold_65 : decode cL_isForetold 65 = .ok (.iconst 0, 1) := by decide +kernel
theorem dL_isForetold_66 : decode cL_isForetold 66 = .ok (.istore 9, 2) := by decide +kernel
theorem dL_isForetold_68 : decode cL_isForetold 68 = .ok (.iconst 0, 1) := by decide +kernel
theorem dL_isForetold_69 : decode cL_isForetold 69 = .ok (.istore 10, 2) := by decide +kernel
theorem dL_isForetold_71 : decode cL_isForetold 71 = .ok (.iload 10, 2) := by decide +kernel
theorem dL_isForetold_73 : decode cL_isForetold 73 = .ok (.aload_n 0, 1) := by decide +kernel
theorem dL_isForetold_74 : decode cL_isForetold 74 = .ok (.bipush 10, 2) := by decide +kernel
theorem dL_isForetold_76 : decode cL_isForetold 76 = .ok (.invokevirtual 12, 3) := by decide +kernel
theorem dL_isForetold_79 : decode cL_isForetold 79 = .ok (.if_icmp .ge 53, 3) := by decide +kernel
theorem dL_isForetold_82 : decode cL_isForetold 82 = .ok (.iconst 0, 1) := by decide +kernel
theorem dL_isForetold_83 : decode cL_isForetold 83 = .ok (.istore 11, 2) := by decide +kernel
theorem dL_isForetold_85 : decode cL_isForetold 85 = .ok (.iload 11, 2) := by decide +kernel
theorem dL_isForetold_87 : decode cL_isForetold 87 = .ok (.iconst 4, 1) := by decide +kernel
theorem dL_isForetold_88 : decode cL_isForetold 88 = .ok (.if_icmp .ge 38, 3) := by decide +kernel
theorem dL_isForetold_91 : decode cL_isForetold 91 = .ok (.aload_n 0, 1) := by decide +kernel
theorem dL_isForetold_92 : decode cL_isForetold 92 = .ok (.iload 10, 2) := by decide +kernel
theorem dL_isForetold_94 : decode cL_isForetold 94 = .ok (.iload 4, 2) := by decide +kernel
theorem dL_isForetold_96 : decode cL_isForetold 96 = .ok (.iload 5, 2) := by decide +kernel
theorem dL_isForetold_98 : decode cL_isForetold 98 = .ok (.iload 11, 2) := by decide +kernel
theorem dL_isForetold_100 : decode cL_isForetold 100 = .ok (.invokevirtual 80, 3) := by decide +kernel
theorem dL_isForetold_103 : decode cL_isForetold 103 = .ok (.istore 12, 2) := by decide +kernel
theorem dL_isForetold_105 : decode cL_isForetold 105 = .ok (.iload 9, 2) := by decide +kernel
theorem dL_isForetold_107 : decode cL_isForetold 107 = .ok (.iload 12, 2) := by decide +kernel
theorem dL_isForetold_109 : decode cL_isForetold 109 = .ok (.ifCond .lt 7, 3) := by decide +kernel
theorem dL_isForetold_112 : decode cL_isForetold 112 = .ok (.iconst 1, 1) := by decide +kernel
theorem dL_isForetold_113 : decode cL_isForetold 113 = .ok (.goto 4, 3) := by decide +kernel
theorem dL_isForetold_116 : decode cL_isForetold 116 = .ok (.iconst 0, 1) := by decide +kernel
theorem dL_isForetold_117 : decode cL_isForetold 117 = .ok (.iadd, 1) := by decide +kernel
theorem dL_isForetold_118 : decode cL_isForetold 118 = .ok (.istore 9, 2) := by decide +kernel
theorem dL_isForetold_120 : decode cL_isForetold 120 = .ok (.iinc 11 1, 3) := by decide +kernel
theorem dL_isForetold_123 : decode cL_isForetold 123 = .ok (.goto (-38), 3) := by decide +kernel
