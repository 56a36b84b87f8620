theorem dL_isSound_29 : decode cL_isSound 29 = .ok (.aload_n 0, 1) := by decide +kernel
theorem dL_isSound_30 : decode cL_isSound 30 = .ok (.iload 4, 2) := by decide +kernel
theorem dL_isSound_32 : decode cL_isSound 32 = .ok (.iconst 4, 1) := by decide +kernel
theorem dL_isSound_33 : decode cL_isSound 33 = .ok (.invokevirtual 22, 3) := by decide +kernel
theorem dL_isSound_36 : decode cL_isSound 36 = .ok (.istore 6, 2) := by decide +kernel
theorem dL_isSound_38 : decode cL_isSound 38 = .ok (.aload_n 0, 1) := by decide +kernel
theorem dL_isSound_39 : decode cL_isSound 39 = .ok (.iload 4, 2) := by decide +kernel
theorem dL_isSound_41 : decode cL_isSound 41 = .ok (.iconst 5, 1) := by decide +kernel
theorem dL_isSound_42 : decode cL_isSound 42 = .ok (.invokevirtual 22, 3) := by decide +kernel
theorem dL_isSound_45 : decode cL_isSound 45 = .ok (.istore 7, 2) := by decide +kernel
theorem dL_isSound_47 : decode cL_isSound 47 = .ok (.aload_n 0, 1) := by decide +kernel
theorem dL_isSound_48 : decode cL_isSound 48 = .ok (.iload 4, 2) := by decide +kernel
theorem dL_isSound_50 : decode cL_isSound 50 = .ok (.bipush 7, 2) := by decide +kernel
theorem dL_isSound_52 : decode cL_isSound 52 = .ok (.invokevirtual 22, 3) := by decide +kernel
theorem dL_isSound_55 : decode cL_isSound 55 = .ok (.aload_n 0, 1) := by decide +kernel
theorem dL_isSound_56 : decode cL_isSound 56 = .ok (.iload 4, 2) := by decide +kernel
theorem dL_isSound_58 : decode cL_isSound 58 = .ok (.bipush 8, 2) := by decide +kernel
theorem dL_isSound_60 : decode cL_isSound 60 = .ok (.invokevirtual 22, 3) := by decide +kernel
theorem dL_isSound_63 : decode cL_isSound 63 = .ok (.aload_n 0, 1) := by decide +kernel
theorem dL_isSound_64 : decode cL_isSound 64 = .ok (.iload 4, 2) := by decide +kernel
theorem dL_isSound_66 : decode cL_isSound 66 = .ok (.bipush 9, 2) := by decide +kernel
theorem dL_isSound_68 : decode cL_isSound 68 = .ok (.invokevirtual 22, 3) := by decide +kernel
theorem dL_isSound_71 : decode cL_isSound 71 = .ok (.iadd, 1) := by decide +kernel
theorem dL_isSound_72 : decode cL_isSound 72 = .ok (.aload_n 0, 1) := by decide +kernel
theorem dL_isSound_73 : decode cL_isSound 73 = .ok (.iload 4, 2) := by decide +kernel
theorem dL_isSound_75 : decode cL_isSound 75 = .ok (.bipush 10, 2) := by decide +kernel
theorem dL_isSound_77 : decode cL_isSound 77 = .ok (.invokevirtual 22, 3) := by decide +kernel
theorem dL_isSound_80 : decode cL_isSound 80 = .ok (.iadd, 1) := by decide +kernel
theorem dL_isSound_81 : decode cL_isSound 81 = .ok (.if_icmp .ne 53, 3) := by decide +kernel
theorem dL_isSound_84 : decode cL_isSound 84 = .ok (.aload_n 0, 1) := by decide +kernel
theorem dL_isSound_85 : decode cL_isSound 85 = .ok (.iload 4, 2) := by decide +kernel
theorem dL_isSound_87 : decode cL_isSound 87 = .ok (.bipush 12, 2) := by decide +kernel
theorem dL_isSound_89 : decode cL_isSound 89 = .ok (.invokevirtual 22, 3) := by decide +kernel
theorem dL_isSound_92 : decode cL_isSound 92 = .ok (.aload_n 0, 1) := by decide +kernel
theorem dL_isSound_93 : decode cL_isSound 93 = .ok (.iload 4, 2) := by decide +kernel
theorem dL_isSound_95 : decode cL_isSound 95 = .ok (.bipush 13, 2) := by decide +kernel
theorem dL_isSound_97 : decode cL_isSound 97 = .ok (.invokevirtual 22, 3) := by decide +kernel
theorem dL_isSound_100 : decode cL_isSound 100 = .ok (.iadd, 1) := by decide +kernel
theorem dL_isSound_101 : decode cL_isSound 101 = .ok (.iload 6, 2) := by decide +kernel
theorem dL_isSound_103 : decode cL_isSound 103 = .ok (.iadd, 1) := by decide +kernel
theorem dL_isSound_104 : decode cL_isSound 104 = .ok (.aload_n 0, 1) := by decide +kernel
theorem dL_isSound_105 : decode cL_isSound 105 = .ok (.iload 4, 2) := by decide +kernel
theorem dL_isSound_107 : decode cL_isSound 107 = .ok (.iconst 2, 1) := by decide +kernel
theorem dL_isSound_108 : decode cL_isSound 108 = .ok (.invokevirtual 22, 3) := by decide +kernel
theorem dL_isSound_111 : decode cL_isSound 111 = .ok (.aload_n 0, 1) := by decide +kernel
theorem dL_isSound_112 : decode cL_isSound 112 = .ok (.iload 4, 2) := by decide +kernel
theorem dL_isSound_114 : decode cL_isSound 114 = .ok (.bipush 9, 2) := by decide +kernel
theorem dL_isSound_116 : decode cL_isSound 116 = .ok (.invokevirtual 22, 3) := by decide +kernel
theorem dL_isSound_119 : decode cL_isSound 119 = .ok (.imul, 1) := by decide +kernel
theorem dL_isSound_120 : decode cL_isSound 120 = .ok (.iconst 2, 1) := by decide +kernel
theorem dL_isSound_121 : decode cL_isSound 121 = .ok (.aload_n 0, 1) := by decide +kernel
theorem dL_isSound_122 : decode cL_isSound 122 = .ok (.iload 4, 2) := by decide +kernel
theorem dL_isSound_124 : decode cL_isSound 124 = .ok (.bipush 11, 2) := by decide +kernel
theorem dL_isSound_126 : decode cL_isSound 126 = .ok (.invokevirtual 22, 3) := by decide +kernel
theorem dL_isSound_129 : decode cL_isSound 129 = .ok (.imul, 1) := by decide +kernel
theorem dL_isSound_130 : decode cL_isSound 130 = .ok (.iadd, 1) := by decide +kernel
theorem dL_isSound_131 : decode cL_isSound 131 = .ok (.if_icmp .eq 5, 3) := by decide +kernel
theorem dL_isSound_134 : decode cL_isSound 134 = .ok (.iconst 0, 1) := by decide +kernel
theorem dL_isSound_135 : decode cL_isSound 135 = .ok (.ireturn, 1) := by decide +kernel
theorem dL_isSound_136 : decode cL_isSound 136 = .ok (.iload 5, 2) := by decide +kernel
theorem dL_isSound_138 : decode cL_isSound 138 = .ok (.iconst 2, 1) := by decide +kernel
theorem dL_isSound_139 : decode cL_isSound 139 = .ok (.if_icmp .ne 7, 3) := by decide +kernel
theorem dL_isSound_142 : decode cL_isSound 142 = .ok (.iconst 1, 1) := by decide +kernel
theorem dL_isSound_143 : decode cL_isSound 143 = .ok (.goto 4, 3) := by decide +kernel
theorem dL_isSound_146 : decode cL_isSound 146 = .ok (.iconst 0, 1) := by decide +kernel
theorem dL_isSound_147 : decode cL_isSound 147 = .ok (.iload 6, 2) := by decide +kernel
theorem dL_isSound_149 : decode cL_isSound 149 = .ok (.ifCond .le 7, 3) := by decide +kernel
theorem dL_isSound_152 : decode cL_isSound 152 = .ok (.iconst 1, 1) := by decide +kernel
theorem dL_isSound_153 : decode cL_isSound 153 = .ok (.goto 4, 3) := by decide +kernel
theorem dL_isSound_156 : decode cL_isSound 156 = .ok (.iconst 0, 1) := by decide +kernel
theorem dL_isSound_157 : decode cL_isSound 157 = .ok (.if_icmp .ne 64, 3) := by decide +kernel
theorem dL_isSound_160 : decode cL_isSound 160 = .ok (.iload 5, 2) := by decide +kernel
theorem dL_isSound_162 : decode cL_isSound 162 = .ok (.iconst 1, 1) := by decide +kernel
theorem dL_isSound_163 : decode cL_isSound 163 = .ok (.if_icmp .ne 7, 3) := by decide +kernel
theorem dL_isSound_166 : decode cL_isSound 166 = .ok (.iconst 1, 1) := by decide +kernel
theorem dL_isSound_167 : decode cL_isSound 167 = .ok (.goto 4, 3) := by decide +kernel
theorem dL_isSound_170 : decode cL_isSound 170 = .ok (.iconst 0, 1) := by decide +kernel
theorem dL_isSound_171 : decode cL_isSound 171 = .ok (.iload 7, 2) := by decide +kernel
theorem dL_isSound_173 : decode cL_isSound 173 = .ok (.ifCond .le 7, 3) := by decide +kernel
theorem dL_isSound_176 : decode cL_isSound 176 = .ok (.iconst 1, 1) := by decide +kernel
theorem dL_isSound_177 : decode cL_isSound 177 = .ok (.goto 4, 3) := by decide +kernel
theorem dL_isSound_180 : decode cL_isSound 180 = .ok (.iconst 0, 1) := by decide +kernel
theorem dL_isSound_181 : decode cL_isSound 181 = .ok (.if_icmp .ne 40, 3) := by decide +kernel
theorem dL_isSound_184 : decode cL_isSound 184 = .ok (.aload_n 0, 1) := by decide +kernel
theorem dL_isSound_185 : decode cL_isSound 185 = .ok (.iload 4, 2) := by decide +kernel
theorem dL_isSound_187 : decode cL_isSound 187 = .ok (.bipush 6, 2) := by decide +kernel
theorem dL_isSound_189 : decode cL_isSound 189 = .ok (.invokevirtual 22, 3) := by decide +kernel
theorem dL_isSound_192 : decode cL_isSound 192 = .ok (.iload 5, 2) := by decide +kernel
theorem dL_isSound_194 : decode cL_isSound 194 = .ok (.ifCond .ne 13, 3) := by decide +kernel
theorem dL_isSound_197 : decode cL_isSound 197 = .ok (.aload_n 0, 1) := by decide +kernel
theorem dL_isSound_198 : decode cL_isSound 198 = .ok (.iload 4, 2) := by decide +kernel
theorem dL_isSound_200 : decode cL_isSound 200 = .ok (.iconst 1, 1) := by decide +kernel
theorem dL_isSound_201 : decode cL_isSound 201 = .ok (.invokevirtual 22, 3) := by decide +kernel
theorem dL_isSound_204 : decode cL_isSound 204 = .ok (.goto 14, 3) := by decide +kernel
theorem dL_isSound_207 : decode cL_isSound 207 = .ok (.iload 5, 2) := by decide +kernel
theorem dL_isSound_209 : decode cL_isSound 209 = .ok (.iconst 1, 1) := by decide +kernel
theorem dL_isSound_210 : decode cL_isSound 210 = .ok (.if_icmp .ne 7, 3) := by decide +kernel
theorem dL_isSound_213 : decode cL_isSound 213 = .ok (.iconst 1, 1) := by decide +kernel
theorem dL_isSound_214 : decode cL_isSound 214 = .ok (.goto 4, 3) := by decide +kernel
theorem dL_isSound_217 : decode cL_isSound 217 = .ok (.iconst 0, 1) := by decide +kernel
theorem dL_isSound_218 : decode cL_isSound 218 = .ok (.if_icmp .eq 5, 3) := by decide +kernel
theorem dL_isSound_221 : decode cL_isSound 221 = .ok (.iconst 0, 1) := by decide +kernel
theorem dL_isSound_222 : decode cL_isSound 222 = .ok (.ireturn, 1) := by decide +kernel
theorem dL_isSound_223 : decode cL_isSound 223 = .ok (.iload_n 1, 1) := by decide +kernel
theorem dL_isSound_224 : decode cL_isSound 224 = .ok (.aload_n 0, 1) := by decide +kernel
theorem dL_isSound_225 : decode cL_isSound 225 = .ok (.iload 4, 2) := by decide +kernel
theorem dL_isSound_227 : decode cL_isSound 227 = .ok (.bipush 7, 2) := by decide +kernel
theorem dL_isSound_229 : decode cL_isSound 229 = .ok (.invokevirtual 22, 3) := by decide +kernel
theorem dL_isSound_232 : decode cL_isSound 232 = .ok (.iadd, 1) := by decide +kernel
theorem dL_isSound_233 : decode cL_isSound 233 = .ok (.istore_n 1, 1) := by decide +kernel
theorem dL_isSound_234 : decode cL_isSound 234 = .ok (.iload_n 2, 1) := by decide +kernel
theorem dL_isSound_235 : decode cL_isSound 235 = .ok (.aload_n 0, 1) := by decide +kernel
theorem dL_isSound_236 : decode cL_isSound 236 = .ok (.iload 4, 2) := by decide +kernel
theorem dL_isSound_238 : decode cL_isSound 238 = .ok (.bipush 8, 2) := by decide +kernel
theorem dL_isSound_240 : decode cL_isSound 240 = .ok (.invokevirtual 22, 3) := by decide +kernel
theorem dL_isSound_243 : decode cL_isSound 243 = .ok (.iadd, 1) := by decide +kernel
theorem dL_isSound_244 : decode cL_isSound 244 = .ok (.istore_n 2, 1) := by decide +kernel
theorem dL_isSound_245 : decode cL_isSound 245 = .ok (.iload_n 3, 1) := by decide +kernel
theorem dL_isSound_246 : decode cL_isSound 246 = .ok (.aload_n 0, 1) := by decide +kernel
theorem dL_isSound_247 : decode cL_isSound 247 = .ok (.iload 4, 2) := by decide +kernel
theorem dL_isSound_249 : decode cL_isSound 249 = .ok (.bipush 10, 2) := by decide +kernel
theorem dL_isSound_251 : decode cL_isSound 251 = .ok (.invokevirtual 22, 3) := by decide +kernel
theorem dL_isSound_254 : decode cL_isSound 254 = .ok (.iadd, 1) := by decide +kernel
theorem dL_isSound_255 : decode cL_isSound 255 = .ok (.istore_n 3, 1) := by decide +kernel
theorem dL_isSound_256 : decode cL_isSound 256 = .ok (.iinc 4 1, 3) := by decide +kernel
theorem dL_isSound_259 : decode cL_isSound 259 = .ok (.goto (-250), 3) := by decide +kernel
theorem dL_isSound_262 : decode cL_isSound 262 = .ok (.iconst 0, 1) := by decide +kernel
theorem dL_isSound_263 : decode cL_isSound 263 = .ok (.istore 4, 2) := by decide +kernel
theorem dL_isSound_265 : decode cL_isSound 265 = .ok (.iconst 0, 1) := by decide +kernel
theorem dL_isSound_266 : decode cL_isSound 266 = .ok (.istore 5, 2) := by decide +kernel
theorem dL_isSound_268 : decode cL_isSound 268 = .ok (.iload 5, 2) := by decide +kernel
theorem dL_isSound_270 : decode cL_isSound 270 = .ok (.aload_n 0, 1) := by decide +kernel
theorem dL_isSound_271 : decode cL_isSound 271 = .ok (.bipush 6, 2) := by decide +kernel
theorem dL_isSound_273 : decode cL_isSound 273 = .ok (.invokevirtual 12, 3) := by decide +kernel
theorem dL_isSound_276 : decode cL_isSound 276 = .ok (.if_icmp .ge 117, 3) := by decide +kernel
theorem dL_isSound_279 : decode cL_isSound 279 = .ok (.iconst 0, 1) := by decide +kernel
theorem dL_isSound_280 : decode cL_isSound 280 = .ok (.istore 6, 2) := by decide +kernel
theorem dL_isSound_282 : decode cL_isSound 282 = .ok (.iload 6, 2) := by decide +kernel
theorem dL_isSound_284 : decode cL_isSound 284 = .ok (.iconst 5, 1) := by decide +kernel
theorem dL_isSound_285 : decode cL_isSound 285 = .ok (.if_icmp .ge 102, 3) := by decide +kernel
theorem dL_isSound_288 : decode cL_isSound 288 = .ok (.aload_n 0, 1) := by decide +kernel
theorem dL_isSound_289 : decode cL_isSound 289 = .ok (.iload 5, 2) := by decide +kernel
theorem dL_isSound_291 : decode cL_isSound 291 = .ok (.iload 6, 2) := by decide +kernel
theorem dL_isSound_293 : decode cL_isSound 293 = .ok (.invokevirtual 32, 3) := by decide +kernel
theorem dL_isSound_296 : decode cL_isSound 296 = .ok (.istore 7, 2) := by decide +kernel
theorem dL_isSound_298 : decode cL_isSound 298 = .ok (.iload 7, 2) := by decide +kernel
theorem dL_isSound_300 : decode cL_isSound 300 = .ok (.ifCond .lt 7, 3) := by decide +kernel
theorem dL_isSound_303 : decode cL_isSound 303 = .ok (.iconst 1, 1) := by decide +kernel
theorem dL_isSound_304 : decode cL_isSound 304 = .ok (.goto 4, 3) := by decide +kernel
theorem dL_isSound_307 : decode cL_isSound 307 = .ok (.iconst 0, 1) := by decide +kernel
theorem dL_isSound_308 : decode cL_isSound 308 = .ok (.istore 8, 2) := by decide +kernel
theorem dL_isSound_310 : decode cL_isSound 310 = .ok (.iload 4, 2) := by decide +kernel
theorem dL_isSound_312 : decode cL_isSound 312 = .ok (.iload 8, 2) := by decide +kernel
theorem dL_isSound_314 : decode cL_isSound 314 = .ok (.ifCond .eq 7, 3) := by decide +kernel
theorem dL_isSound_317 : decode cL_isSound 317 = .ok (.iconst 1, 1) := by decide +kernel
theorem dL_isSound_318 : decode cL_isSound 318 = .ok (.goto 4, 3) := by decide +kernel
theorem dL_isSound_321 : decode cL_isSound 321 = .ok (.iconst 0, 1) := by decide +kernel
theorem dL_isSound_322 : decode cL_isSound 322 = .ok (.iadd, 1) := by decide +kernel
theorem dL_isSound_323 : decode cL_isSound 323 = .ok (.istore 4, 2) := by decide +kernel
theorem dL_isSound_325 : decode cL_isSound 325 = .ok (.iload 8, 2) := by decide +kernel
