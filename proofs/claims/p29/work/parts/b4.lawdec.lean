theorem dL_law_0 : decode cL_law 0 = .ok (.new 33, 3) := by decide +kernel
theorem dL_law_3 : decode cL_law 3 = .ok (.dup, 1) := by decide +kernel
theorem dL_law_4 : decode cL_law 4 = .ok (.invokespecial 123, 3) := by decide +kernel
theorem dL_law_7 : decode cL_law 7 = .ok (.astore_n 1, 1) := by decide +kernel
theorem dL_law_8 : decode cL_law 8 = .ok (.bipush 24, 2) := by decide +kernel
theorem dL_law_10 : decode cL_law 10 = .ok (.newarray .int, 2) := by decide +kernel
theorem dL_law_12 : decode cL_law 12 = .ok (.astore_n 2, 1) := by decide +kernel
theorem dL_law_13 : decode cL_law 13 = .ok (.bipush 20, 2) := by decide +kernel
theorem dL_law_15 : decode cL_law 15 = .ok (.newarray .int, 2) := by decide +kernel
theorem dL_law_17 : decode cL_law 17 = .ok (.astore_n 3, 1) := by decide +kernel
theorem dL_law_18 : decode cL_law 18 = .ok (.bipush 32, 2) := by decide +kernel
theorem dL_law_20 : decode cL_law 20 = .ok (.newarray .int, 2) := by decide +kernel
theorem dL_law_22 : decode cL_law 22 = .ok (.astore 4, 2) := by decide +kernel
theorem dL_law_24 : decode cL_law 24 = .ok (.bipush 9, 2) := by decide +kernel
theorem dL_law_26 : decode cL_law 26 = .ok (.newarray .int, 2) := by decide +kernel
theorem dL_law_28 : decode cL_law 28 = .ok (.astore 5, 2) := by decide +kernel
theorem dL_law_30 : decode cL_law 30 = .ok (.bipush 8, 2) := by decide +kernel
theorem dL_law_32 : decode cL_law 32 = .ok (.newarray .int, 2) := by decide +kernel
theorem dL_law_34 : decode cL_law 34 = .ok (.astore 6, 2) := by decide +kernel
theorem dL_law_36 : decode cL_law 36 = .ok (.aload_n 1, 1) := by decide +kernel
theorem dL_law_37 : decode cL_law 37 = .ok (.aload_n 2, 1) := by decide +kernel
theorem dL_law_38 : decode cL_law 38 = .ok (.aload_n 3, 1) := by decide +kernel
theorem dL_law_39 : decode cL_law 39 = .ok (.aload 5, 2) := by decide +kernel
theorem dL_law_41 : decode cL_law 41 = .ok (.invokestatic 124, 3) := by decide +kernel
theorem dL_law_44 : decode cL_law 44 = .ok (.ifCond .eq 45, 3) := by decide +kernel
theorem dL_law_47 : decode cL_law 47 = .ok (.aload_n 1, 1) := by decide +kernel
theorem dL_law_48 : decode cL_law 48 = .ok (.aload 4, 2) := by decide +kernel
theorem dL_law_50 : decode cL_law 50 = .ok (.aload 5, 2) := by decide +kernel
theorem dL_law_52 : decode cL_law 52 = .ok (.aload 6, 2) := by decide +kernel
theorem dL_law_54 : decode cL_law 54 = .ok (.invokestatic 128, 3) := by decide +kernel
theorem dL_law_57 : decode cL_law 57 = .ok (.ifCond .eq 32, 3) := by decide +kernel
theorem dL_law_60 : decode cL_law 60 = .ok (.aload_n 1, 1) := by decide +kernel
theorem dL_law_61 : decode cL_law 61 = .ok (.iconst 0, 1) := by decide +kernel
theorem dL_law_62 : decode cL_law 62 = .ok (.iconst (-1), 1) := by decide +kernel
theorem dL_law_63 : decode cL_law 63 = .ok (.invokevirtual 84, 3) := by decide +kernel
theorem dL_law_66 : decode cL_law 66 = .ok (.ifCond .ne 23, 3) := by decide +kernel
theorem dL_law_69 : decode cL_law 69 = .ok (.aload_n 1, 1) := by decide +kernel
theorem dL_law_70 : decode cL_law 70 = .ok (.aload_n 2, 1) := by decide +kernel
theorem dL_law_71 : decode cL_law 71 = .ok (.aload_n 3, 1) := by decide +kernel
theorem dL_law_72 : decode cL_law 72 = .ok (.aload 5, 2) := by decide +kernel
theorem dL_law_74 : decode cL_law 74 = .ok (.aload_n 0, 1) := by decide +kernel
theorem dL_law_75 : decode cL_law 75 = .ok (.iconst 0, 1) := by decide +kernel
theorem dL_law_76 : decode cL_law 76 = .ok (.invokestatic 131, 3) := by decide +kernel
theorem dL_law_79 : decode cL_law 79 = .ok (.invokestatic 96, 3) := by decide +kernel
theorem dL_law_82 : decode cL_law 82 = .ok (.ifCond .eq 7, 3) := by decide +kernel
theorem dL_law_85 : decode cL_law 85 = .ok (.iconst 1, 1) := by decide +kernel
theorem dL_law_86 : decode cL_law 86 = .ok (.goto 4, 3) := by decide +kernel
theorem dL_law_89 : decode cL_law 89 = .ok (.iconst 0, 1) := by decide +kernel
theorem dL_law_90 : decode cL_law 90 = .ok (.istore 7, 2) := by decide +kernel
theorem dL_law_92 : decode cL_law 92 = .ok (.iconst 0, 1) := by decide +kernel
theorem dL_law_93 : decode cL_law 93 = .ok (.istore 8, 2) := by decide +kernel
theorem dL_law_95 : decode cL_law 95 = .ok (.iload 8, 2) := by decide +kernel
theorem dL_law_97 : decode cL_law 97 = .ok (.bipush 42, 2) := by decide +kernel
theorem dL_law_99 : decode cL_law 99 = .ok (.if_icmp .ge 165, 3) := by decide +kernel
theorem dL_law_102 : decode cL_law 102 = .ok (.iload 7, 2) := by decide +kernel
theorem dL_law_104 : decode cL_law 104 = .ok (.ifCond .eq 160, 3) := by decide +kernel
theorem dL_law_107 : decode cL_law 107 = .ok (.aload_n 0, 1) := by decide +kernel
theorem dL_law_108 : decode cL_law 108 = .ok (.iconst 1, 1) := by decide +kernel
theorem dL_law_109 : decode cL_law 109 = .ok (.iload 8, 2) := by decide +kernel
theorem dL_law_111 : decode cL_law 111 = .ok (.iadd, 1) := by decide +kernel
theorem dL_law_112 : decode cL_law 112 = .ok (.invokestatic 131, 3) := by decide +kernel
theorem dL_law_115 : decode cL_law 115 = .ok (.istore 9, 2) := by decide +kernel
theorem dL_law_117 : decode cL_law 117 = .ok (.aload_n 1, 1) := by decide +kernel
theorem dL_law_118 : decode cL_law 118 = .ok (.aload_n 2, 1) := by decide +kernel
theorem dL_law_119 : decode cL_law 119 = .ok (.aload_n 3, 1) := by decide +kernel
theorem dL_law_120 : decode cL_law 120 = .ok (.aload 4, 2) := by decide +kernel
theorem dL_law_122 : decode cL_law 122 = .ok (.aload 5, 2) := by decide +kernel
theorem dL_law_124 : decode cL_law 124 = .ok (.aload 6, 2) := by decide +kernel
theorem dL_law_126 : decode cL_law 126 = .ok (.iload 8, 2) := by decide +kernel
theorem dL_law_128 : decode cL_law 128 = .ok (.iconst 3, 1) := by decide +kernel
theorem dL_law_129 : decode cL_law 129 = .ok (.if_icmp .ge 7, 3) := by decide +kernel
theorem dL_law_132 : decode cL_law 132 = .ok (.iconst 0, 1) := by decide +kernel
theorem dL_law_133 : decode cL_law 133 = .ok (.goto 13, 3) := by decide +kernel
theorem dL_law_136 : decode cL_law 136 = .ok (.iload 9, 2) := by decide +kernel
theorem dL_law_138 : decode cL_law 138 = .ok (.bipush 18, 2) := by decide +kernel
theorem dL_law_140 : decode cL_law 140 = .ok (.ishr, 1) := by decide +kernel
theorem dL_law_141 : decode cL_law 141 = .ok (.bipush 17, 2) := by decide +kernel
theorem dL_law_143 : decode cL_law 143 = .ok (.invokestatic 90, 3) := by decide +kernel
theorem dL_law_146 : decode cL_law 146 = .ok (.iload 9, 2) := by decide +kernel
theorem dL_law_148 : decode cL_law 148 = .ok (.invokestatic 134, 3) := by decide +kernel
theorem dL_law_151 : decode cL_law 151 = .ok (.ifCond .eq 104, 3) := by decide +kernel
theorem dL_law_154 : decode cL_law 154 = .ok (.aload_n 1, 1) := by decide +kernel
theorem dL_law_155 : decode cL_law 155 = .ok (.aload_n 2, 1) := by decide +kernel
theorem dL_law_156 : decode cL_law 156 = .ok (.aload_n 3, 1) := by decide +kernel
theorem dL_law_157 : decode cL_law 157 = .ok (.aload 5, 2) := by decide +kernel
theorem dL_law_159 : decode cL_law 159 = .ok (.invokestatic 124, 3) := by decide +kernel
theorem dL_law_162 : decode cL_law 162 = .ok (.ifCond .eq 93, 3) := by decide +kernel
theorem dL_law_165 : decode cL_law 165 = .ok (.aload_n 1, 1) := by decide +kernel
theorem dL_law_166 : decode cL_law 166 = .ok (.aload 4, 2) := by decide +kernel
theorem dL_law_168 : decode cL_law 168 = .ok (.aload 5, 2) := by decide +kernel
theorem dL_law_170 : decode cL_law 170 = .ok (.aload 6, 2) := by decide +kernel
theorem dL_law_172 : decode cL_law 172 = .ok (.invokestatic 128, 3) := by decide +kernel
theorem dL_law_175 : decode cL_law 175 = .ok (.ifCond .eq 80, 3) := by decide +kernel
theorem dL_law_178 : decode cL_law 178 = .ok (.aload_n 1, 1) := by decide +kernel
theorem dL_law_179 : decode cL_law 179 = .ok (.aload_n 2, 1) := by decide +kernel
theorem dL_law_180 : decode cL_law 180 = .ok (.aload_n 3, 1) := by decide +kernel
theorem dL_law_181 : decode cL_law 181 = .ok (.aload 4, 2) := by decide +kernel
theorem dL_law_183 : decode cL_law 183 = .ok (.aload 5, 2) := by decide +kernel
theorem dL_law_185 : decode cL_law 185 = .ok (.aload 6, 2) := by decide +kernel
theorem dL_law_187 : decode cL_law 187 = .ok (.invokestatic 138, 3) := by decide +kernel
theorem dL_law_190 : decode cL_law 190 = .ok (.ifCond .eq 65, 3) := by decide +kernel
theorem dL_law_193 : decode cL_law 193 = .ok (.iload 8, 2) := by decide +kernel
theorem dL_law_195 : decode cL_law 195 = .ok (.bipush 14, 2) := by decide +kernel
theorem dL_law_197 : decode cL_law 197 = .ok (.irem, 1) := by decide +kernel
theorem dL_law_198 : decode cL_law 198 = .ok (.bipush 13, 2) := by decide +kernel
theorem dL_law_200 : decode cL_law 200 = .ok (.if_icmp .ne 51, 3) := by decide +kernel
theorem dL_law_203 : decode cL_law 203 = .ok (.aload_n 1, 1) := by decide +kernel
theorem dL_law_204 : decode cL_law 204 = .ok (.aload_n 2, 1) := by decide +kernel
theorem dL_law_205 : decode cL_law 205 = .ok (.aload 5, 2) := by decide +kernel
theorem dL_law_207 : decode cL_law 207 = .ok (.iload 9, 2) := by decide +kernel
theorem dL_law_209 : decode cL_law 209 = .ok (.bipush 6, 2) := by decide +kernel
theorem dL_law_211 : decode cL_law 211 = .ok (.ishr, 1) := by decide +kernel
theorem dL_law_212 : decode cL_law 212 = .ok (.iconst 1, 1) := by decide +kernel
theorem dL_law_213 : decode cL_law 213 = .ok (.aload 5, 2) := by decide +kernel
theorem dL_law_215 : decode cL_law 215 = .ok (.bipush 6, 2) := by decide +kernel
theorem dL_law_217 : decode cL_law 217 = .ok (.iaload, 1) := by decide +kernel
theorem dL_law_218 : decode cL_law 218 = .ok (.ishl, 1) := by decide +kernel
theorem dL_law_219 : decode cL_law 219 = .ok (.aload 5, 2) := by decide +kernel
theorem dL_law_221 : decode cL_law 221 = .ok (.bipush 6, 2) := by decide +kernel
theorem dL_law_223 : decode cL_law 223 = .ok (.iaload, 1) := by decide +kernel
theorem dL_law_224 : decode cL_law 224 = .ok (.iconst 4, 1) := by decide +kernel
theorem dL_law_225 : decode cL_law 225 = .ok (.if_icmp .ne 7, 3) := by decide +kernel
theorem dL_law_228 : decode cL_law 228 = .ok (.iconst 1, 1) := by decide +kernel
theorem dL_law_229 : decode cL_law 229 = .ok (.goto 4, 3) := by decide +kernel
theorem dL_law_232 : decode cL_law 232 = .ok (.iconst 0, 1) := by decide +kernel
theorem dL_law_233 : decode cL_law 233 = .ok (.isub, 1) := by decide +kernel
theorem dL_law_234 : decode cL_law 234 = .ok (.invokestatic 90, 3) := by decide +kernel
theorem dL_law_237 : decode cL_law 237 = .ok (.iload 9, 2) := by decide +kernel
theorem dL_law_239 : decode cL_law 239 = .ok (.iconst 5, 1) := by decide +kernel
theorem dL_law_240 : decode cL_law 240 = .ok (.ishr, 1) := by decide +kernel
theorem dL_law_241 : decode cL_law 241 = .ok (.sipush 1023, 3) := by decide +kernel
theorem dL_law_244 : decode cL_law 244 = .ok (.iand, 1) := by decide +kernel
theorem dL_law_245 : decode cL_law 245 = .ok (.invokestatic 142, 3) := by decide +kernel
theorem dL_law_248 : decode cL_law 248 = .ok (.ifCond .eq 7, 3) := by decide +kernel
theorem dL_law_251 : decode cL_law 251 = .ok (.iconst 1, 1) := by decide +kernel
theorem dL_law_252 : decode cL_law 252 = .ok (.goto 4, 3) := by decide +kernel
theorem dL_law_255 : decode cL_law 255 = .ok (.iconst 0, 1) := by decide +kernel
theorem dL_law_256 : decode cL_law 256 = .ok (.istore 7, 2) := by decide +kernel
theorem dL_law_258 : decode cL_law 258 = .ok (.iinc 8 1, 3) := by decide +kernel
theorem dL_law_261 : decode cL_law 261 = .ok (.goto (-166), 3) := by decide +kernel
theorem dL_law_264 : decode cL_law 264 = .ok (.iload 7, 2) := by decide +kernel
theorem dL_law_266 : decode cL_law 266 = .ok (.ireturn, 1) := by decide +kernel

