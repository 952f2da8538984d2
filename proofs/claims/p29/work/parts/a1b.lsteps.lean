/-! the law's words and instructions (out of a short program) -/
theorem dL_steps_0 : decode cL_steps 0 = .ok (.aload_n 1, 1) := by decide +kernel
theorem dL_steps_1 : decode cL_steps 1 = .ok (.aload_n 3, 1) := by decide +kernel
theorem dL_steps_2 : decode cL_steps 2 = .ok (.invokestatic 24, 3) := by decide +kernel
theorem dL_steps_5 : decode cL_steps 5 = .ok (.ifCond .le 7, 3) := by decide +kernel
theorem dL_steps_8 : decode cL_steps 8 = .ok (.iconst 1, 1) := by decide +kernel
theorem dL_steps_9 : decode cL_steps 9 = .ok (.goto 4, 3) := by decide +kernel
theorem dL_steps_12 : decode cL_steps 12 = .ok (.iconst 0, 1) := by decide +kernel
theorem dL_steps_13 : decode cL_steps 13 = .ok (.istore 5, 2) := by decide +kernel
theorem dL_steps_15 : decode cL_steps 15 = .ok (.aload_n 3, 1) := by decide +kernel
theorem dL_steps_16 : decode cL_steps 16 = .ok (.iconst 3, 1) := by decide +kernel
theorem dL_steps_17 : decode cL_steps 17 = .ok (.dup2, 1) := by decide +kernel
theorem dL_steps_18 : decode cL_steps 18 = .ok (.iaload, 1) := by decide +kernel
theorem dL_steps_19 : decode cL_steps 19 = .ok (.iload 5, 2) := by decide +kernel
theorem dL_steps_21 : decode cL_steps 21 = .ok (.ifCond .eq 7, 3) := by decide +kernel
theorem dL_steps_24 : decode cL_steps 24 = .ok (.iconst 1, 1) := by decide +kernel
theorem dL_steps_25 : decode cL_steps 25 = .ok (.goto 4, 3) := by decide +kernel
theorem dL_steps_28 : decode cL_steps 28 = .ok (.iconst 0, 1) := by decide +kernel
theorem dL_steps_29 : decode cL_steps 29 = .ok (.iadd, 1) := by decide +kernel
theorem dL_steps_30 : decode cL_steps 30 = .ok (.iastore, 1) := by decide +kernel
theorem dL_steps_31 : decode cL_steps 31 = .ok (.aload_n 3, 1) := by decide +kernel
theorem dL_steps_32 : decode cL_steps 32 = .ok (.iconst 4, 1) := by decide +kernel
theorem dL_steps_33 : decode cL_steps 33 = .ok (.iload 5, 2) := by decide +kernel
theorem dL_steps_35 : decode cL_steps 35 = .ok (.ifCond .eq 7, 3) := by decide +kernel
theorem dL_steps_38 : decode cL_steps 38 = .ok (.iconst 0, 1) := by decide +kernel
theorem dL_steps_39 : decode cL_steps 39 = .ok (.goto 8, 3) := by decide +kernel
theorem dL_steps_42 : decode cL_steps 42 = .ok (.aload_n 3, 1) := by decide +kernel
theorem dL_steps_43 : decode cL_steps 43 = .ok (.iconst 4, 1) := by decide +kernel
theorem dL_steps_44 : decode cL_steps 44 = .ok (.iaload, 1) := by decide +kernel
theorem dL_steps_45 : decode cL_steps 45 = .ok (.iconst 1, 1) := by decide +kernel
theorem dL_steps_46 : decode cL_steps 46 = .ok (.iadd, 1) := by decide +kernel
theorem dL_steps_47 : decode cL_steps 47 = .ok (.iastore, 1) := by decide +kernel
theorem dL_steps_48 : decode cL_steps 48 = .ok (.aload_n 3, 1) := by decide +kernel
theorem dL_steps_49 : decode cL_steps 49 = .ok (.iconst 5, 1) := by decide +kernel
theorem dL_steps_50 : decode cL_steps 50 = .ok (.aload_n 3, 1) := by decide +kernel
theorem dL_steps_51 : decode cL_steps 51 = .ok (.iconst 5, 1) := by decide +kernel
theorem dL_steps_52 : decode cL_steps 52 = .ok (.iaload, 1) := by decide +kernel
theorem dL_steps_53 : decode cL_steps 53 = .ok (.aload_n 3, 1) := by decide +kernel
theorem dL_steps_54 : decode cL_steps 54 = .ok (.iconst 4, 1) := by decide +kernel
theorem dL_steps_55 : decode cL_steps 55 = .ok (.iaload, 1) := by decide +kernel
theorem dL_steps_56 : decode cL_steps 56 = .ok (.if_icmp .le 9, 3) := by decide +kernel
theorem dL_steps_59 : decode cL_steps 59 = .ok (.aload_n 3, 1) := by decide +kernel
theorem dL_steps_60 : decode cL_steps 60 = .ok (.iconst 5, 1) := by decide +kernel
theorem dL_steps_61 : decode cL_steps 61 = .ok (.iaload, 1) := by decide +kernel
theorem dL_steps_62 : decode cL_steps 62 = .ok (.goto 6, 3) := by decide +kernel
theorem dL_steps_65 : decode cL_steps 65 = .ok (.aload_n 3, 1) := by decide +kernel
theorem dL_steps_66 : decode cL_steps 66 = .ok (.iconst 4, 1) := by decide +kernel
theorem dL_steps_67 : decode cL_steps 67 = .ok (.iaload, 1) := by decide +kernel
theorem dL_steps_68 : decode cL_steps 68 = .ok (.iastore, 1) := by decide +kernel
theorem dL_steps_69 : decode cL_steps 69 = .ok (.aload_n 3, 1) := by decide +kernel
theorem dL_steps_70 : decode cL_steps 70 = .ok (.iconst 0, 1) := by decide +kernel
theorem dL_steps_71 : decode cL_steps 71 = .ok (.dup2, 1) := by decide +kernel
theorem dL_steps_72 : decode cL_steps 72 = .ok (.iaload, 1) := by decide +kernel
theorem dL_steps_73 : decode cL_steps 73 = .ok (.iconst 1, 1) := by decide +kernel
theorem dL_steps_74 : decode cL_steps 74 = .ok (.iadd, 1) := by decide +kernel
theorem dL_steps_75 : decode cL_steps 75 = .ok (.iastore, 1) := by decide +kernel
theorem dL_steps_76 : decode cL_steps 76 = .ok (.iconst 0, 1) := by decide +kernel
theorem dL_steps_77 : decode cL_steps 77 = .ok (.istore 6, 2) := by decide +kernel
theorem dL_steps_79 : decode cL_steps 79 = .ok (.iconst 0, 1) := by decide +kernel
theorem dL_steps_80 : decode cL_steps 80 = .ok (.istore 7, 2) := by decide +kernel
theorem dL_steps_82 : decode cL_steps 82 = .ok (.iload 7, 2) := by decide +kernel
theorem dL_steps_84 : decode cL_steps 84 = .ok (.aload_n 3, 1) := by decide +kernel
theorem dL_steps_85 : decode cL_steps 85 = .ok (.bipush 6, 2) := by decide +kernel
theorem dL_steps_87 : decode cL_steps 87 = .ok (.iaload, 1) := by decide +kernel
theorem dL_steps_88 : decode cL_steps 88 = .ok (.if_icmp .ge 128, 3) := by decide +kernel
theorem dL_steps_91 : decode cL_steps 91 = .ok (.aload_n 1, 1) := by decide +kernel
theorem dL_steps_92 : decode cL_steps 92 = .ok (.iconst 5, 1) := by decide +kernel
theorem dL_steps_93 : decode cL_steps 93 = .ok (.iload 7, 2) := by decide +kernel
theorem dL_steps_95 : decode cL_steps 95 = .ok (.imul, 1) := by decide +kernel
theorem dL_steps_96 : decode cL_steps 96 = .ok (.iconst 2, 1) := by decide +kernel
theorem dL_steps_97 : decode cL_steps 97 = .ok (.iadd, 1) := by decide +kernel
theorem dL_steps_98 : decode cL_steps 98 = .ok (.iaload, 1) := by decide +kernel
theorem dL_steps_99 : decode cL_steps 99 = .ok (.aload_n 1, 1) := by decide +kernel
theorem dL_steps_100 : decode cL_steps 100 = .ok (.iconst 5, 1) := by decide +kernel
theorem dL_steps_101 : decode cL_steps 101 = .ok (.iload 7, 2) := by decide +kernel
theorem dL_steps_103 : decode cL_steps 103 = .ok (.imul, 1) := by decide +kernel
theorem dL_steps_104 : decode cL_steps 104 = .ok (.iconst 3, 1) := by decide +kernel
theorem dL_steps_105 : decode cL_steps 105 = .ok (.iadd, 1) := by decide +kernel
theorem dL_steps_106 : decode cL_steps 106 = .ok (.iaload, 1) := by decide +kernel
theorem dL_steps_107 : decode cL_steps 107 = .ok (.iadd, 1) := by decide +kernel
theorem dL_steps_108 : decode cL_steps 108 = .ok (.ifCond .le 7, 3) := by decide +kernel
theorem dL_steps_111 : decode cL_steps 111 = .ok (.iconst 1, 1) := by decide +kernel
theorem dL_steps_112 : decode cL_steps 112 = .ok (.goto 4, 3) := by decide +kernel
theorem dL_steps_115 : decode cL_steps 115 = .ok (.iconst 0, 1) := by decide +kernel
theorem dL_steps_116 : decode cL_steps 116 = .ok (.istore 8, 2) := by decide +kernel
theorem dL_steps_118 : decode cL_steps 118 = .ok (.aload_n 1, 1) := by decide +kernel
theorem dL_steps_119 : decode cL_steps 119 = .ok (.iconst 5, 1) := by decide +kernel
theorem dL_steps_120 : decode cL_steps 120 = .ok (.iload 7, 2) := by decide +kernel
theorem dL_steps_122 : decode cL_steps 122 = .ok (.imul, 1) := by decide +kernel
theorem dL_steps_123 : decode cL_steps 123 = .ok (.dup2, 1) := by decide +kernel
theorem dL_steps_124 : decode cL_steps 124 = .ok (.iaload, 1) := by decide +kernel
theorem dL_steps_125 : decode cL_steps 125 = .ok (.aload_n 1, 1) := by decide +kernel
theorem dL_steps_126 : decode cL_steps 126 = .ok (.iconst 5, 1) := by decide +kernel
theorem dL_steps_127 : decode cL_steps 127 = .ok (.iload 7, 2) := by decide +kernel
theorem dL_steps_129 : decode cL_steps 129 = .ok (.imul, 1) := by decide +kernel
theorem dL_steps_130 : decode cL_steps 130 = .ok (.iconst 2, 1) := by decide +kernel
theorem dL_steps_131 : decode cL_steps 131 = .ok (.iadd, 1) := by decide +kernel
theorem dL_steps_132 : decode cL_steps 132 = .ok (.iaload, 1) := by decide +kernel
theorem dL_steps_133 : decode cL_steps 133 = .ok (.iadd, 1) := by decide +kernel
theorem dL_steps_134 : decode cL_steps 134 = .ok (.iastore, 1) := by decide +kernel
theorem dL_steps_135 : decode cL_steps 135 = .ok (.aload_n 1, 1) := by decide +kernel
theorem dL_steps_136 : decode cL_steps 136 = .ok (.iconst 5, 1) := by decide +kernel
theorem dL_steps_137 : decode cL_steps 137 = .ok (.iload 7, 2) := by decide +kernel
theorem dL_steps_139 : decode cL_steps 139 = .ok (.imul, 1) := by decide +kernel
theorem dL_steps_140 : decode cL_steps 140 = .ok (.iconst 1, 1) := by decide +kernel
theorem dL_steps_141 : decode cL_steps 141 = .ok (.iadd, 1) := by decide +kernel
theorem dL_steps_142 : decode cL_steps 142 = .ok (.dup2, 1) := by decide +kernel
theorem dL_steps_143 : decode cL_steps 143 = .ok (.iaload, 1) := by decide +kernel
theorem dL_steps_144 : decode cL_steps 144 = .ok (.aload_n 0, 1) := by decide +kernel
theorem dL_steps_145 : decode cL_steps 145 = .ok (.aload_n 1, 1) := by decide +kernel
theorem dL_steps_146 : decode cL_steps 146 = .ok (.iload 7, 2) := by decide +kernel
theorem dL_steps_148 : decode cL_steps 148 = .ok (.invokestatic 16, 3) := by decide +kernel
theorem dL_steps_151 : decode cL_steps 151 = .ok (.ifCond .le 14, 3) := by decide +kernel
theorem dL_steps_154 : decode cL_steps 154 = .ok (.aload_n 1, 1) := by decide +kernel
theorem dL_steps_155 : decode cL_steps 155 = .ok (.iconst 5, 1) := by decide +kernel
theorem dL_steps_156 : decode cL_steps 156 = .ok (.iload 7, 2) := by decide +kernel
theorem dL_steps_158 : decode cL_steps 158 = .ok (.imul, 1) := by decide +kernel
theorem dL_steps_159 : decode cL_steps 159 = .ok (.iconst 3, 1) := by decide +kernel
theorem dL_steps_160 : decode cL_steps 160 = .ok (.iadd, 1) := by decide +kernel
theorem dL_steps_161 : decode cL_steps 161 = .ok (.iaload, 1) := by decide +kernel
theorem dL_steps_162 : decode cL_steps 162 = .ok (.goto 4, 3) := by decide +kernel
theorem dL_steps_165 : decode cL_steps 165 = .ok (.iconst 0, 1) := by decide +kernel
theorem dL_steps_166 : decode cL_steps 166 = .ok (.iadd, 1) := by decide +kernel
theorem dL_steps_167 : decode cL_steps 167 = .ok (.iastore, 1) := by decide +kernel
theorem dL_steps_168 : decode cL_steps 168 = .ok (.iload 8, 2) := by decide +kernel
theorem dL_steps_170 : decode cL_steps 170 = .ok (.ifCond .eq 40, 3) := by decide +kernel
theorem dL_steps_173 : decode cL_steps 173 = .ok (.aload_n 0, 1) := by decide +kernel
theorem dL_steps_174 : decode cL_steps 174 = .ok (.aload_n 1, 1) := by decide +kernel
theorem dL_steps_175 : decode cL_steps 175 = .ok (.iload 7, 2) := by decide +kernel
theorem dL_steps_177 : decode cL_steps 177 = .ok (.invokestatic 16, 3) := by decide +kernel
theorem dL_steps_180 : decode cL_steps 180 = .ok (.ifCond .ne 30, 3) := by decide +kernel
theorem dL_steps_183 : decode cL_steps 183 = .ok (.aload_n 1, 1) := by decide +kernel
theorem dL_steps_184 : decode cL_steps 184 = .ok (.iconst 5, 1) := by decide +kernel
theorem dL_steps_185 : decode cL_steps 185 = .ok (.iload 7, 2) := by decide +kernel
theorem dL_steps_187 : decode cL_steps 187 = .ok (.imul, 1) := by decide +kernel
theorem dL_steps_188 : decode cL_steps 188 = .ok (.iconst 2, 1) := by decide +kernel
theorem dL_steps_189 : decode cL_steps 189 = .ok (.iadd, 1) := by decide +kernel
theorem dL_steps_190 : decode cL_steps 190 = .ok (.iconst 0, 1) := by decide +kernel
theorem dL_steps_191 : decode cL_steps 191 = .ok (.iastore, 1) := by decide +kernel
theorem dL_steps_192 : decode cL_steps 192 = .ok (.aload_n 1, 1) := by decide +kernel
theorem dL_steps_193 : decode cL_steps 193 = .ok (.iconst 5, 1) := by decide +kernel
theorem dL_steps_194 : decode cL_steps 194 = .ok (.iload 7, 2) := by decide +kernel
theorem dL_steps_196 : decode cL_steps 196 = .ok (.imul, 1) := by decide +kernel
theorem dL_steps_197 : decode cL_steps 197 = .ok (.iconst 3, 1) := by decide +kernel
theorem dL_steps_198 : decode cL_steps 198 = .ok (.iadd, 1) := by decide +kernel
theorem dL_steps_199 : decode cL_steps 199 = .ok (.iconst 0, 1) := by decide +kernel
theorem dL_steps_200 : decode cL_steps 200 = .ok (.iastore, 1) := by decide +kernel
theorem dL_steps_201 : decode cL_steps 201 = .ok (.iload 6, 2) := by decide +kernel
theorem dL_steps_203 : decode cL_steps 203 = .ok (.iconst 1, 1) := by decide +kernel
theorem dL_steps_204 : decode cL_steps 204 = .ok (.iload 7, 2) := by decide +kernel
theorem dL_steps_206 : decode cL_steps 206 = .ok (.ishl, 1) := by decide +kernel
theorem dL_steps_207 : decode cL_steps 207 = .ok (.ior, 1) := by decide +kernel
theorem dL_steps_208 : decode cL_steps 208 = .ok (.istore 6, 2) := by decide +kernel
theorem dL_steps_210 : decode cL_steps 210 = .ok (.iinc 7 1, 3) := by decide +kernel
theorem dL_steps_213 : decode cL_steps 213 = .ok (.goto (-131), 3) := by decide +kernel
theorem dL_steps_216 : decode cL_steps 216 = .ok (.iconst 0, 1) := by decide +kernel
theorem dL_steps_217 : decode cL_steps 217 = .ok (.istore 7, 2) := by decide +kernel
theorem dL_steps_219 : decode cL_steps 219 = .ok (.iconst 0, 1) := by decide +kernel
theorem dL_steps_220 : decode cL_steps 220 = .ok (.istore 8, 2) := by decide +kernel
theorem dL_steps_222 : decode cL_steps 222 = .ok (.iload 8, 2) := by decide +kernel
theorem dL_steps_224 : decode cL_steps 224 = .ok (.aload_n 3, 1) := by decide +kernel
theorem dL_steps_225 : decode cL_steps 225 = .ok (.bipush 6, 2) := by decide +kernel
theorem dL_steps_227 : decode cL_steps 227 = .ok (.iaload, 1) := by decide +kernel
theorem dL_steps_228 : decode cL_steps 228 = .ok (.if_icmp .ge 115, 3) := by decide +kernel
theorem dL_steps_231 : decode cL_steps 231 = .ok (.iload 6, 2) := by decide +kernel
theorem dL_steps_233 : decode cL_steps 233 = .ok (.iload 8, 2) := by decide +kernel
theorem dL_steps_235 : decode cL_steps 235 = .ok (.ishr, 1) := by decide +kernel
theorem dL_steps_236 : decode cL_steps 236 = .ok (.iconst 1, 1) := by decide +kernel
theorem dL_steps_237 : decode cL_steps 237 = .ok (.iand, 1) := by decide +kernel
theorem dL_steps_238 : decode cL_steps 238 = .ok (.iconst 1, 1) := by decide +kernel
theorem dL_steps_239 : decode cL_steps 239 = .ok (.if_icmp .ne 98, 3) := by decide +kernel
theorem dL_steps_242 : decode cL_steps 242 = .ok (.iinc 7 1, 3) := by decide +kernel
theorem dL_steps_245 : decode cL_steps 245 = .ok (.aload_n 1, 1) := by decide +kernel
theorem dL_steps_246 : decode cL_steps 246 = .ok (.iconst 5, 1) := by decide +kernel
theorem dL_steps_247 : decode cL_steps 247 = .ok (.iload 8, 2) := by decide +kernel
theorem dL_steps_249 : decode cL_steps 249 = .ok (.imul, 1) := by decide +kernel
theorem dL_steps_250 : decode cL_steps 250 = .ok (.iconst 4, 1) := by decide +kernel
theorem dL_steps_251 : decode cL_steps 251 = .ok (.iadd, 1) := by decide +kernel
theorem dL_steps_252 : decode cL_steps 252 = .ok (.aload_n 3, 1) := by decide +kernel
theorem dL_steps_253 : decode cL_steps 253 = .ok (.iconst 0, 1) := by decide +kernel
theorem dL_steps_254 : decode cL_steps 254 = .ok (.iaload, 1) := by decide +kernel
theorem dL_steps_255 : decode cL_steps 255 = .ok (.iastore, 1) := by decide +kernel
theorem dL_steps_256 : decode cL_steps 256 = .ok (.aload 4, 2) := by decide +kernel
theorem dL_steps_258 : decode cL_steps 258 = .ok (.aload_n 3, 1) := by decide +kernel
theorem dL_steps_259 : decode cL_steps 259 = .ok (.iconst 2, 1) := by decide +kernel
theorem dL_steps_260 : decode cL_steps 260 = .ok (.iload 8, 2) := by decide +kernel
theorem dL_steps_262 : decode cL_steps 262 = .ok (.invokestatic 20, 3) := by decide +kernel
theorem dL_steps_265 : decode cL_steps 265 = .ok (.iconst 0, 1) := by decide +kernel
theorem dL_steps_266 : decode cL_steps 266 = .ok (.istore 9, 2) := by decide +kernel
theorem dL_steps_268 : decode cL_steps 268 = .ok (.iload 9, 2) := by decide +kernel
theorem dL_steps_270 : decode cL_steps 270 = .ok (.aload_n 3, 1) := by decide +kernel
theorem dL_steps_271 : decode cL_steps 271 = .ok (.bipush 7, 2) := by decide +kernel
theorem dL_steps_273 : decode cL_steps 273 = .ok (.iaload, 1) := by decide +kernel
theorem dL_steps_274 : decode cL_steps 274 = .ok (.if_icmp .ge 63, 3) := by decide +kernel
theorem dL_steps_277 : decode cL_steps 277 = .ok (.aload_n 2, 1) := by decide +kernel
theorem dL_steps_278 : decode cL_steps 278 = .ok (.iconst 4, 1) := by decide +kernel
theorem dL_steps_279 : decode cL_steps 279 = .ok (.iload 9, 2) := by decide +kernel
theorem dL_steps_281 : decode cL_steps 281 = .ok (.imul, 1) := by decide +kernel
theorem dL_steps_282 : decode cL_steps 282 = .ok (.iconst 3, 1) := by decide +kernel
theorem dL_steps_283 : decode cL_steps 283 = .ok (.iadd, 1) := by decide +kernel
theorem dL_steps_284 : decode cL_steps 284 = .ok (.dup2, 1) := by decide +kernel
theorem dL_steps_285 : decode cL_steps 285 = .ok (.iaload, 1) := by decide +kernel
theorem dL_steps_286 : decode cL_steps 286 = .ok (.aload_n 2, 1) := by decide +kernel
theorem dL_steps_287 : decode cL_steps 287 = .ok (.iconst 4, 1) := by decide +kernel
theorem dL_steps_288 : decode cL_steps 288 = .ok (.iload 9, 2) := by decide +kernel
theorem dL_steps_290 : decode cL_steps 290 = .ok (.imul, 1) := by decide +kernel
theorem dL_steps_291 : decode cL_steps 291 = .ok (.iaload, 1) := by decide +kernel
theorem dL_steps_292 : decode cL_steps 292 = .ok (.iload 8, 2) := by decide +kernel
theorem dL_steps_294 : decode cL_steps 294 = .ok (.if_icmp .ne 34, 3) := by decide +kernel
theorem dL_steps_297 : decode cL_steps 297 = .ok (.aload_n 0, 1) := by decide +kernel
theorem dL_steps_298 : decode cL_steps 298 = .ok (.aload_n 1, 1) := by decide +kernel
theorem dL_steps_299 : decode cL_steps 299 = .ok (.aload_n 3, 1) := by decide +kernel
theorem dL_steps_300 : decode cL_steps 300 = .ok (.aload 4, 2) := by decide +kernel
theorem dL_steps_302 : decode cL_steps 302 = .ok (.aload_n 2, 1) := by decide +kernel
theorem dL_steps_303 : decode cL_steps 303 = .ok (.iconst 4, 1) := by decide +kernel
theorem dL_steps_304 : decode cL_steps 304 = .ok (.iload 9, 2) := by decide +kernel
theorem dL_steps_306 : decode cL_steps 306 = .ok (.imul, 1) := by decide +kernel
theorem dL_steps_307 : decode cL_steps 307 = .ok (.iconst 1, 1) := by decide +kernel
theorem dL_steps_308 : decode cL_steps 308 = .ok (.iadd, 1) := by decide +kernel
theorem dL_steps_309 : decode cL_steps 309 = .ok (.iaload, 1) := by decide +kernel
theorem dL_steps_310 : decode cL_steps 310 = .ok (.aload_n 2, 1) := by decide +kernel
theorem dL_steps_311 : decode cL_steps 311 = .ok (.iconst 4, 1) := by decide +kernel
theorem dL_steps_312 : decode cL_steps 312 = .ok (.iload 9, 2) := by decide +kernel
theorem dL_steps_314 : decode cL_steps 314 = .ok (.imul, 1) := by decide +kernel
theorem dL_steps_315 : decode cL_steps 315 = .ok (.iconst 2, 1) := by decide +kernel
theorem dL_steps_316 : decode cL_steps 316 = .ok (.iadd, 1) := by decide +kernel
theorem dL_steps_317 : decode cL_steps 317 = .ok (.iaload, 1) := by decide +kernel
theorem dL_steps_318 : decode cL_steps 318 = .ok (.invokestatic 28, 3) := by decide +kernel
theorem dL_steps_321 : decode cL_steps 321 = .ok (.ifCond .eq 7, 3) := by decide +kernel
theorem dL_steps_324 : decode cL_steps 324 = .ok (.iconst 1, 1) := by decide +kernel
theorem dL_steps_325 : decode cL_steps 325 = .ok (.goto 4, 3) := by decide +kernel
theorem dL_steps_328 : decode cL_steps 328 = .ok (.iconst 0, 1) := by decide +kernel
theorem dL_steps_329 : decode cL_steps 329 = .ok (.iadd, 1) := by decide +kernel
theorem dL_steps_330 : decode cL_steps 330 = .ok (.iastore, 1) := by decide +kernel
theorem dL_steps_331 : decode cL_steps 331 = .ok (.iinc 9 1, 3) := by decide +kernel
theorem dL_steps_334 : decode cL_steps 334 = .ok (.goto (-66), 3) := by decide +kernel
theorem dL_steps_337 : decode cL_steps 337 = .ok (.iinc 8 1, 3) := by decide +kernel
theorem dL_steps_340 : decode cL_steps 340 = .ok (.goto (-118), 3) := by decide +kernel
theorem dL_steps_343 : decode cL_steps 343 = .ok (.aload_n 3, 1) := by decide +kernel
theorem dL_steps_344 : decode cL_steps 344 = .ok (.iconst 1, 1) := by decide +kernel
theorem dL_steps_345 : decode cL_steps 345 = .ok (.dup2, 1) := by decide +kernel
theorem dL_steps_346 : decode cL_steps 346 = .ok (.iaload, 1) := by decide +kernel
theorem dL_steps_347 : decode cL_steps 347 = .ok (.iload 7, 2) := by decide +kernel
theorem dL_steps_349 : decode cL_steps 349 = .ok (.iadd, 1) := by decide +kernel
theorem dL_steps_350 : decode cL_steps 350 = .ok (.iastore, 1) := by decide +kernel
theorem dL_steps_351 : decode cL_steps 351 = .ok (.iload 7, 2) := by decide +kernel
theorem dL_steps_353 : decode cL_steps 353 = .ok (.ireturn, 1) := by decide +kernel
