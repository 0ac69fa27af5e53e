theorem dL_leaves_183 : decode cL_leaves 183 = .ok (.iastore, 1) := by decide +kernel
theorem dL_leaves_184 : decode cL_leaves 184 = .ok (.aload 5, 2) := by decide +kernel
theorem dL_leaves_186 : decode cL_leaves 186 = .ok (.iconst 0, 1) := by decide +kernel
theorem dL_leaves_187 : decode cL_leaves 187 = .ok (.aload_n 3, 1) := by decide +kernel
theorem dL_leaves_188 : decode cL_leaves 188 = .ok (.bipush 16, 2) := by decide +kernel
theorem dL_leaves_190 : decode cL_leaves 190 = .ok (.iload_n 0, 1) := by decide +kernel
theorem dL_leaves_191 : decode cL_leaves 191 = .ok (.iadd, 1) := by decide +kernel
theorem dL_leaves_192 : decode cL_leaves 192 = .ok (.iaload, 1) := by decide +kernel
theorem dL_leaves_193 : decode cL_leaves 193 = .ok (.aload_n 2, 1) := by decide +kernel
theorem dL_leaves_194 : decode cL_leaves 194 = .ok (.iconst 4, 1) := by decide +kernel
theorem dL_leaves_195 : decode cL_leaves 195 = .ok (.iload_n 0, 1) := by decide +kernel
theorem dL_leaves_196 : decode cL_leaves 196 = .ok (.imul, 1) := by decide +kernel
theorem dL_leaves_197 : decode cL_leaves 197 = .ok (.iaload, 1) := by decide +kernel
theorem dL_leaves_198 : decode cL_leaves 198 = .ok (.iadd, 1) := by decide +kernel
theorem dL_leaves_199 : decode cL_leaves 199 = .ok (.aload 4, 2) := by decide +kernel
theorem dL_leaves_201 : decode cL_leaves 201 = .ok (.iload_n 0, 1) := by decide +kernel
theorem dL_leaves_202 : decode cL_leaves 202 = .ok (.iaload, 1) := by decide +kernel
theorem dL_leaves_203 : decode cL_leaves 203 = .ok (.iadd, 1) := by decide +kernel
theorem dL_leaves_204 : decode cL_leaves 204 = .ok (.iload 6, 2) := by decide +kernel
theorem dL_leaves_206 : decode cL_leaves 206 = .ok (.iadd, 1) := by decide +kernel
theorem dL_leaves_207 : decode cL_leaves 207 = .ok (.iastore, 1) := by decide +kernel
theorem dL_leaves_208 : decode cL_leaves 208 = .ok (.goto 88, 3) := by decide +kernel
theorem dL_leaves_211 : decode cL_leaves 211 = .ok (.iload 6, 2) := by decide +kernel
theorem dL_leaves_213 : decode cL_leaves 213 = .ok (.ifCond .le 28, 3) := by decide +kernel
theorem dL_leaves_216 : decode cL_leaves 216 = .ok (.aload 5, 2) := by decide +kernel
theorem dL_leaves_218 : decode cL_leaves 218 = .ok (.aload_n 3, 1) := by decide +kernel
theorem dL_leaves_219 : decode cL_leaves 219 = .ok (.invokestatic 16, 3) := by decide +kernel
theorem dL_leaves_222 : decode cL_leaves 222 = .ok (.aload 5, 2) := by decide +kernel
theorem dL_leaves_224 : decode cL_leaves 224 = .ok (.iconst 0, 1) := by decide +kernel
theorem dL_leaves_225 : decode cL_leaves 225 = .ok (.iaload, 1) := by decide +kernel
theorem dL_leaves_226 : decode cL_leaves 226 = .ok (.aload_n 3, 1) := by decide +kernel
theorem dL_leaves_227 : decode cL_leaves 227 = .ok (.bipush 16, 2) := by decide +kernel
theorem dL_leaves_229 : decode cL_leaves 229 = .ok (.iload_n 0, 1) := by decide +kernel
theorem dL_leaves_230 : decode cL_leaves 230 = .ok (.iadd, 1) := by decide +kernel
theorem dL_leaves_231 : decode cL_leaves 231 = .ok (.iaload, 1) := by decide +kernel
theorem dL_leaves_232 : decode cL_leaves 232 = .ok (.isub, 1) := by decide +kernel
theorem dL_leaves_233 : decode cL_leaves 233 = .ok (.aload_n 2, 1) := by decide +kernel
theorem dL_leaves_234 : decode cL_leaves 234 = .ok (.iconst 4, 1) := by decide +kernel
theorem dL_leaves_235 : decode cL_leaves 235 = .ok (.iload_n 0, 1) := by decide +kernel
theorem dL_leaves_236 : decode cL_leaves 236 = .ok (.imul, 1) := by decide +kernel
theorem dL_leaves_237 : decode cL_leaves 237 = .ok (.iaload, 1) := by decide +kernel
theorem dL_leaves_238 : decode cL_leaves 238 = .ok (.isub, 1) := by decide +kernel
theorem dL_leaves_239 : decode cL_leaves 239 = .ok (.istore 8, 2) := by decide +kernel
theorem dL_leaves_241 : decode cL_leaves 241 = .ok (.aload_n 3, 1) := by decide +kernel
theorem dL_leaves_242 : decode cL_leaves 242 = .ok (.bipush 48, 2) := by decide +kernel
theorem dL_leaves_244 : decode cL_leaves 244 = .ok (.iload_n 0, 1) := by decide +kernel
theorem dL_leaves_245 : decode cL_leaves 245 = .ok (.iadd, 1) := by decide +kernel
theorem dL_leaves_246 : decode cL_leaves 246 = .ok (.iload 8, 2) := by decide +kernel
theorem dL_leaves_248 : decode cL_leaves 248 = .ok (.ifCond .le 8, 3) := by decide +kernel
theorem dL_leaves_251 : decode cL_leaves 251 = .ok (.iload 8, 2) := by decide +kernel
theorem dL_leaves_253 : decode cL_leaves 253 = .ok (.goto 4, 3) := by decide +kernel
theorem dL_leaves_256 : decode cL_leaves 256 = .ok (.iconst 0, 1) := by decide +kernel
theorem dL_leaves_257 : decode cL_leaves 257 = .ok (.iastore, 1) := by decide +kernel
theorem dL_leaves_258 : decode cL_leaves 258 = .ok (.aload 5, 2) := by decide +kernel
theorem dL_leaves_260 : decode cL_leaves 260 = .ok (.iconst 0, 1) := by decide +kernel
theorem dL_leaves_261 : decode cL_leaves 261 = .ok (.iload 6, 2) := by decide +kernel
theorem dL_leaves_263 : decode cL_leaves 263 = .ok (.ifCond .le 28, 3) := by decide +kernel
theorem dL_leaves_266 : decode cL_leaves 266 = .ok (.aload_n 3, 1) := by decide +kernel
theorem dL_leaves_267 : decode cL_leaves 267 = .ok (.bipush 16, 2) := by decide +kernel
theorem dL_leaves_269 : decode cL_leaves 269 = .ok (.iload_n 0, 1) := by decide +kernel
theorem dL_leaves_270 : decode cL_leaves 270 = .ok (.iadd, 1) := by decide +kernel
theorem dL_leaves_271 : decode cL_leaves 271 = .ok (.iaload, 1) := by decide +kernel
theorem dL_leaves_272 : decode cL_leaves 272 = .ok (.aload_n 2, 1) := by decide +kernel
theorem dL_leaves_273 : decode cL_leaves 273 = .ok (.iconst 4, 1) := by decide +kernel
theorem dL_leaves_274 : decode cL_leaves 274 = .ok (.iload_n 0, 1) := by decide +kernel
theorem dL_leaves_275 : decode cL_leaves 275 = .ok (.imul, 1) := by decide +kernel
theorem dL_leaves_276 : decode cL_leaves 276 = .ok (.iaload, 1) := by decide +kernel
theorem dL_leaves_277 : decode cL_leaves 277 = .ok (.iadd, 1) := by decide +kernel
theorem dL_leaves_278 : decode cL_leaves 278 = .ok (.aload_n 3, 1) := by decide +kernel
theorem dL_leaves_279 : decode cL_leaves 279 = .ok (.bipush 48, 2) := by decide +kernel
theorem dL_leaves_281 : decode cL_leaves 281 = .ok (.iload_n 0, 1) := by decide +kernel
theorem dL_leaves_282 : decode cL_leaves 282 = .ok (.iadd, 1) := by decide +kernel
theorem dL_leaves_283 : decode cL_leaves 283 = .ok (.iaload, 1) := by decide +kernel
theorem dL_leaves_284 : decode cL_leaves 284 = .ok (.iadd, 1) := by decide +kernel
theorem dL_leaves_285 : decode cL_leaves 285 = .ok (.iload 6, 2) := by decide +kernel
theorem dL_leaves_287 : decode cL_leaves 287 = .ok (.iadd, 1) := by decide +kernel
theorem dL_leaves_288 : decode cL_leaves 288 = .ok (.goto 7, 3) := by decide +kernel
theorem dL_leaves_291 : decode cL_leaves 291 = .ok (.aload 5, 2) := by decide +kernel
theorem dL_leaves_293 : decode cL_leaves 293 = .ok (.iconst 0, 1) := by decide +kernel
theorem dL_leaves_294 : decode cL_leaves 294 = .ok (.iaload, 1) := by decide +kernel
theorem dL_leaves_295 : decode cL_leaves 295 = .ok (.iastore, 1) := by decide +kernel
theorem dL_leaves_296 : decode cL_leaves 296 = .ok (.aload_n 1, 1) := by decide +kernel
theorem dL_leaves_297 : decode cL_leaves 297 = .ok (.iconst 4, 1) := by decide +kernel
theorem dL_leaves_298 : decode cL_leaves 298 = .ok (.iload_n 0, 1) := by decide +kernel
theorem dL_leaves_299 : decode cL_leaves 299 = .ok (.imul, 1) := by decide +kernel
theorem dL_leaves_300 : decode cL_leaves 300 = .ok (.iconst 2, 1) := by decide +kernel
theorem dL_leaves_301 : decode cL_leaves 301 = .ok (.iadd, 1) := by decide +kernel
theorem dL_leaves_302 : decode cL_leaves 302 = .ok (.iaload, 1) := by decide +kernel
theorem dL_leaves_303 : decode cL_leaves 303 = .ok (.aload 5, 2) := by decide +kernel
theorem dL_leaves_305 : decode cL_leaves 305 = .ok (.invokestatic 10, 3) := by decide +kernel
theorem dL_leaves_308 : decode cL_leaves 308 = .ok (.return_, 1) := by decide +kernel
theorem dL_shuts_0 : decode cL_shuts 0 = .ok (.aload 5, 2) := by decide +kernel
theorem dL_shuts_2 : decode cL_shuts 2 = .ok (.iconst 3, 1) := by decide +kernel
theorem dL_shuts_3 : decode cL_shuts 3 = .ok (.aload 4, 2) := by decide +kernel
theorem dL_shuts_5 : decode cL_shuts 5 = .ok (.bipush 6, 2) := by decide +kernel
theorem dL_shuts_7 : decode cL_shuts 7 = .ok (.iaload, 1) := by decide +kernel
theorem dL_shuts_8 : decode cL_shuts 8 = .ok (.imul, 1) := by decide +kernel
theorem dL_shuts_9 : decode cL_shuts 9 = .ok (.iload_n 0, 1) := by decide +kernel
theorem dL_shuts_10 : decode cL_shuts 10 = .ok (.iastore, 1) := by decide +kernel
theorem dL_shuts_11 : decode cL_shuts 11 = .ok (.aload 5, 2) := by decide +kernel
theorem dL_shuts_13 : decode cL_shuts 13 = .ok (.iconst 3, 1) := by decide +kernel
theorem dL_shuts_14 : decode cL_shuts 14 = .ok (.aload 4, 2) := by decide +kernel
theorem dL_shuts_16 : decode cL_shuts 16 = .ok (.bipush 6, 2) := by decide +kernel
theorem dL_shuts_18 : decode cL_shuts 18 = .ok (.iaload, 1) := by decide +kernel
theorem dL_shuts_19 : decode cL_shuts 19 = .ok (.imul, 1) := by decide +kernel
theorem dL_shuts_20 : decode cL_shuts 20 = .ok (.iconst 1, 1) := by decide +kernel
theorem dL_shuts_21 : decode cL_shuts 21 = .ok (.iadd, 1) := by decide +kernel
theorem dL_shuts_22 : decode cL_shuts 22 = .ok (.aload 4, 2) := by decide +kernel
theorem dL_shuts_24 : decode cL_shuts 24 = .ok (.iconst 0, 1) := by decide +kernel
theorem dL_shuts_25 : decode cL_shuts 25 = .ok (.iaload, 1) := by decide +kernel
theorem dL_shuts_26 : decode cL_shuts 26 = .ok (.iastore, 1) := by decide +kernel
theorem dL_shuts_27 : decode cL_shuts 27 = .ok (.aload 5, 2) := by decide +kernel
theorem dL_shuts_29 : decode cL_shuts 29 = .ok (.iconst 3, 1) := by decide +kernel
theorem dL_shuts_30 : decode cL_shuts 30 = .ok (.aload 4, 2) := by decide +kernel
theorem dL_shuts_32 : decode cL_shuts 32 = .ok (.bipush 6, 2) := by decide +kernel
theorem dL_shuts_34 : decode cL_shuts 34 = .ok (.iaload, 1) := by decide +kernel
theorem dL_shuts_35 : decode cL_shuts 35 = .ok (.imul, 1) := by decide +kernel
theorem dL_shuts_36 : decode cL_shuts 36 = .ok (.iconst 2, 1) := by decide +kernel
theorem dL_shuts_37 : decode cL_shuts 37 = .ok (.iadd, 1) := by decide +kernel
theorem dL_shuts_38 : decode cL_shuts 38 = .ok (.iload_n 1, 1) := by decide +kernel
theorem dL_shuts_39 : decode cL_shuts 39 = .ok (.iastore, 1) := by decide +kernel
theorem dL_shuts_40 : decode cL_shuts 40 = .ok (.aload 4, 2) := by decide +kernel
theorem dL_shuts_42 : decode cL_shuts 42 = .ok (.bipush 6, 2) := by decide +kernel
theorem dL_shuts_44 : decode cL_shuts 44 = .ok (.dup2, 1) := by decide +kernel
theorem dL_shuts_45 : decode cL_shuts 45 = .ok (.iaload, 1) := by decide +kernel
theorem dL_shuts_46 : decode cL_shuts 46 = .ok (.iconst 1, 1) := by decide +kernel
theorem dL_shuts_47 : decode cL_shuts 47 = .ok (.iadd, 1) := by decide +kernel
theorem dL_shuts_48 : decode cL_shuts 48 = .ok (.iastore, 1) := by decide +kernel
theorem dL_shuts_49 : decode cL_shuts 49 = .ok (.aload 4, 2) := by decide +kernel
theorem dL_shuts_51 : decode cL_shuts 51 = .ok (.iconst 0, 1) := by decide +kernel
theorem dL_shuts_52 : decode cL_shuts 52 = .ok (.dup2, 1) := by decide +kernel
theorem dL_shuts_53 : decode cL_shuts 53 = .ok (.iaload, 1) := by decide +kernel
theorem dL_shuts_54 : decode cL_shuts 54 = .ok (.iload_n 2, 1) := by decide +kernel
theorem dL_shuts_55 : decode cL_shuts 55 = .ok (.iload_n 3, 1) := by decide +kernel
theorem dL_shuts_56 : decode cL_shuts 56 = .ok (.iadd, 1) := by decide +kernel
theorem dL_shuts_57 : decode cL_shuts 57 = .ok (.iadd, 1) := by decide +kernel
theorem dL_shuts_58 : decode cL_shuts 58 = .ok (.iastore, 1) := by decide +kernel
theorem dL_shuts_59 : decode cL_shuts 59 = .ok (.return_, 1) := by decide +kernel
theorem dL_runs_0 : decode cL_runs 0 = .ok (.iload_n 1, 1) := by decide +kernel
theorem dL_runs_1 : decode cL_runs 1 = .ok (.istore 8, 2) := by decide +kernel
theorem dL_runs_3 : decode cL_runs 3 = .ok (.aload_n 2, 1) := by decide +kernel
theorem dL_runs_4 : decode cL_runs 4 = .ok (.bipush 32, 2) := by decide +kernel
theorem dL_runs_6 : decode cL_runs 6 = .ok (.iload_n 1, 1) := by decide +kernel
theorem dL_runs_7 : decode cL_runs 7 = .ok (.iadd, 1) := by decide +kernel
theorem dL_runs_8 : decode cL_runs 8 = .ok (.iaload, 1) := by decide +kernel
theorem dL_runs_9 : decode cL_runs 9 = .ok (.istore 9, 2) := by decide +kernel
theorem dL_runs_11 : decode cL_runs 11 = .ok (.iload_n 0, 1) := by decide +kernel
theorem dL_runs_12 : decode cL_runs 12 = .ok (.iload_n 1, 1) := by decide +kernel
theorem dL_runs_13 : decode cL_runs 13 = .ok (.aload_n 2, 1) := by decide +kernel
theorem dL_runs_14 : decode cL_runs 14 = .ok (.aload 6, 2) := by decide +kernel
theorem dL_runs_16 : decode cL_runs 16 = .ok (.invokestatic 28, 3) := by decide +kernel
theorem dL_runs_19 : decode cL_runs 19 = .ok (.istore 10, 2) := by decide +kernel
theorem dL_runs_21 : decode cL_runs 21 = .ok (.iload 10, 2) := by decide +kernel
theorem dL_runs_23 : decode cL_runs 23 = .ok (.ifCond .le 44, 3) := by decide +kernel
theorem dL_runs_26 : decode cL_runs 26 = .ok (.aload_n 2, 1) := by decide +kernel
theorem dL_runs_27 : decode cL_runs 27 = .ok (.bipush 16, 2) := by decide +kernel
theorem dL_runs_29 : decode cL_runs 29 = .ok (.iload 10, 2) := by decide +kernel
theorem dL_runs_31 : decode cL_runs 31 = .ok (.iadd, 1) := by decide +kernel
theorem dL_runs_32 : decode cL_runs 32 = .ok (.iaload, 1) := by decide +kernel
theorem dL_runs_33 : decode cL_runs 33 = .ok (.iconst 1, 1) := by decide +kernel
theorem dL_runs_34 : decode cL_runs 34 = .ok (.if_icmp .ne 33, 3) := by decide +kernel
theorem dL_runs_37 : decode cL_runs 37 = .ok (.iload 10, 2) := by decide +kernel
theorem dL_runs_39 : decode cL_runs 39 = .ok (.istore 8, 2) := by decide +kernel
theorem dL_runs_41 : decode cL_runs 41 = .ok (.iload 9, 2) := by decide +kernel
theorem dL_runs_43 : decode cL_runs 43 = .ok (.aload_n 2, 1) := by decide +kernel
theorem dL_runs_44 : decode cL_runs 44 = .ok (.bipush 32, 2) := by decide +kernel
theorem dL_runs_46 : decode cL_runs 46 = .ok (.iload 10, 2) := by decide +kernel
theorem dL_runs_48 : decode cL_runs 48 = .ok (.iadd, 1) := by decide +kernel
theorem dL_runs_49 : decode cL_runs 49 = .ok (.iaload, 1) := by decide +kernel
theorem dL_runs_50 : decode cL_runs 50 = .ok (.iadd, 1) := by decide +kernel
theorem dL_runs_51 : decode cL_runs 51 = .ok (.istore 9, 2) := by decide +kernel
theorem dL_runs_53 : decode cL_runs 53 = .ok (.iload_n 0, 1) := by decide +kernel
theorem dL_runs_54 : decode cL_runs 54 = .ok (.iload 10, 2) := by decide +kernel
theorem dL_runs_56 : decode cL_runs 56 = .ok (.aload_n 2, 1) := by decide +kernel
theorem dL_runs_57 : decode cL_runs 57 = .ok (.aload 6, 2) := by decide +kernel
theorem dL_runs_59 : decode cL_runs 59 = .ok (.invokestatic 28, 3) := by decide +kernel
theorem dL_runs_62 : decode cL_runs 62 = .ok (.istore 10, 2) := by decide +kernel
theorem dL_runs_64 : decode cL_runs 64 = .ok (.goto (-43), 3) := by decide +kernel
theorem dL_runs_67 : decode cL_runs 67 = .ok (.iload 9, 2) := by decide +kernel
theorem dL_runs_69 : decode cL_runs 69 = .ok (.ifCond .ne 6, 3) := by decide +kernel
theorem dL_runs_72 : decode cL_runs 72 = .ok (.iload 8, 2) := by decide +kernel
theorem dL_runs_74 : decode cL_runs 74 = .ok (.ireturn, 1) := by decide +kernel
theorem dL_runs_75 : decode cL_runs 75 = .ok (.aload 6, 2) := by decide +kernel
theorem dL_runs_77 : decode cL_runs 77 = .ok (.aload 4, 2) := by decide +kernel
theorem dL_runs_79 : decode cL_runs 79 = .ok (.invokestatic 16, 3) := by decide +kernel
theorem dL_runs_82 : decode cL_runs 82 = .ok (.iconst 0, 1) := by decide +kernel
theorem dL_runs_83 : decode cL_runs 83 = .ok (.istore 11, 2) := by decide +kernel
theorem dL_runs_85 : decode cL_runs 85 = .ok (.iconst 0, 1) := by decide +kernel
theorem dL_runs_86 : decode cL_runs 86 = .ok (.istore 12, 2) := by decide +kernel
theorem dL_runs_88 : decode cL_runs 88 = .ok (.iconst 0, 1) := by decide +kernel
theorem dL_runs_89 : decode cL_runs 89 = .ok (.istore 13, 2) := by decide +kernel
theorem dL_runs_91 : decode cL_runs 91 = .ok (.iload_n 1, 1) := by decide +kernel
theorem dL_runs_92 : decode cL_runs 92 = .ok (.istore 14, 2) := by decide +kernel
theorem dL_runs_94 : decode cL_runs 94 = .ok (.iload 14, 2) := by decide +kernel
theorem dL_runs_96 : decode cL_runs 96 = .ok (.ifCond .le 212, 3) := by decide +kernel
theorem dL_runs_99 : decode cL_runs 99 = .ok (.iload 14, 2) := by decide +kernel
theorem dL_runs_101 : decode cL_runs 101 = .ok (.iload 8, 2) := by decide +kernel
theorem dL_runs_103 : decode cL_runs 103 = .ok (.if_icmp .gt 205, 3) := by decide +kernel
theorem dL_runs_106 : decode cL_runs 106 = .ok (.iconst 0, 1) := by decide +kernel
theorem dL_runs_107 : decode cL_runs 107 = .ok (.istore 15, 2) := by decide +kernel
theorem dL_runs_109 : decode cL_runs 109 = .ok (.iload 15, 2) := by decide +kernel
theorem dL_runs_111 : decode cL_runs 111 = .ok (.aload_n 2, 1) := by decide +kernel
theorem dL_runs_112 : decode cL_runs 112 = .ok (.bipush 32, 2) := by decide +kernel
theorem dL_runs_114 : decode cL_runs 114 = .ok (.iload 14, 2) := by decide +kernel
theorem dL_runs_116 : decode cL_runs 116 = .ok (.iadd, 1) := by decide +kernel
theorem dL_runs_117 : decode cL_runs 117 = .ok (.iaload, 1) := by decide +kernel
theorem dL_runs_118 : decode cL_runs 118 = .ok (.if_icmp .ge 176, 3) := by decide +kernel
theorem dL_runs_121 : decode cL_runs 121 = .ok (.aload_n 3, 1) := by decide +kernel
theorem dL_runs_122 : decode cL_runs 122 = .ok (.iconst 4, 1) := by decide +kernel
theorem dL_runs_123 : decode cL_runs 123 = .ok (.iload 14, 2) := by decide +kernel
theorem dL_runs_125 : decode cL_runs 125 = .ok (.imul, 1) := by decide +kernel
theorem dL_runs_126 : decode cL_runs 126 = .ok (.iload 15, 2) := by decide +kernel
theorem dL_runs_128 : decode cL_runs 128 = .ok (.iadd, 1) := by decide +kernel
theorem dL_runs_129 : decode cL_runs 129 = .ok (.iaload, 1) := by decide +kernel
theorem dL_runs_130 : decode cL_runs 130 = .ok (.istore 16, 2) := by decide +kernel
theorem dL_runs_132 : decode cL_runs 132 = .ok (.iload 11, 2) := by decide +kernel
theorem dL_runs_134 : decode cL_runs 134 = .ok (.ifCond .le 43, 3) := by decide +kernel
theorem dL_runs_137 : decode cL_runs 137 = .ok (.iload 11, 2) := by decide +kernel
theorem dL_runs_139 : decode cL_runs 139 = .ok (.iconst 1, 1) := by decide +kernel
theorem dL_runs_140 : decode cL_runs 140 = .ok (.iadd, 1) := by decide +kernel
theorem dL_runs_141 : decode cL_runs 141 = .ok (.iload 16, 2) := by decide +kernel
theorem dL_runs_143 : decode cL_runs 143 = .ok (.iadd, 1) := by decide +kernel
theorem dL_runs_144 : decode cL_runs 144 = .ok (.aload 4, 2) := by decide +kernel
theorem dL_runs_146 : decode cL_runs 146 = .ok (.bipush 32, 2) := by decide +kernel
theorem dL_runs_148 : decode cL_runs 148 = .ok (.iload_n 0, 1) := by decide +kernel
theorem dL_runs_149 : decode cL_runs 149 = .ok (.iadd, 1) := by decide +kernel
theorem dL_runs_150 : decode cL_runs 150 = .ok (.iaload, 1) := by decide +kernel
theorem dL_runs_151 : decode cL_runs 151 = .ok (.if_icmp .le 26, 3) := by decide +kernel
theorem dL_runs_154 : decode cL_runs 154 = .ok (.iload_n 0, 1) := by decide +kernel
theorem dL_runs_155 : decode cL_runs 155 = .ok (.iload 11, 2) := by decide +kernel
theorem dL_runs_157 : decode cL_runs 157 = .ok (.iload 12, 2) := by decide +kernel
theorem dL_runs_159 : decode cL_runs 159 = .ok (.iload 13, 2) := by decide +kernel
theorem dL_runs_161 : decode cL_runs 161 = .ok (.aload 6, 2) := by decide +kernel
theorem dL_runs_163 : decode cL_runs 163 = .ok (.aload 7, 2) := by decide +kernel
theorem dL_runs_165 : decode cL_runs 165 = .ok (.invokestatic 32, 3) := by decide +kernel
theorem dL_runs_168 : decode cL_runs 168 = .ok (.iconst 0, 1) := by decide +kernel
theorem dL_runs_169 : decode cL_runs 169 = .ok (.istore 11, 2) := by decide +kernel
theorem dL_runs_171 : decode cL_runs 171 = .ok (.iconst 0, 1) := by decide +kernel
theorem dL_runs_172 : decode cL_runs 172 = .ok (.istore 12, 2) := by decide +kernel
theorem dL_runs_174 : decode cL_runs 174 = .ok (.iconst 0, 1) := by decide +kernel
theorem dL_runs_175 : decode cL_runs 175 = .ok (.istore 13, 2) := by decide +kernel
theorem dL_runs_177 : decode cL_runs 177 = .ok (.iconst 3, 1) := by decide +kernel
theorem dL_runs_178 : decode cL_runs 178 = .ok (.aload_n 2, 1) := by decide +kernel
theorem dL_runs_179 : decode cL_runs 179 = .ok (.bipush 48, 2) := by decide +kernel
theorem dL_runs_181 : decode cL_runs 181 = .ok (.iload 14, 2) := by decide +kernel
theorem dL_runs_183 : decode cL_runs 183 = .ok (.iadd, 1) := by decide +kernel
theorem dL_runs_184 : decode cL_runs 184 = .ok (.iaload, 1) := by decide +kernel
theorem dL_runs_185 : decode cL_runs 185 = .ok (.imul, 1) := by decide +kernel
theorem dL_runs_186 : decode cL_runs 186 = .ok (.iconst 4, 1) := by decide +kernel
theorem dL_runs_187 : decode cL_runs 187 = .ok (.idiv, 1) := by decide +kernel
theorem dL_runs_188 : decode cL_runs 188 = .ok (.istore 17, 2) := by decide +kernel
theorem dL_runs_190 : decode cL_runs 190 = .ok (.iload 15, 2) := by decide +kernel
theorem dL_runs_192 : decode cL_runs 192 = .ok (.ifCond .ne 30, 3) := by decide +kernel
theorem dL_runs_195 : decode cL_runs 195 = .ok (.aload 4, 2) := by decide +kernel
theorem dL_runs_197 : decode cL_runs 197 = .ok (.iload 14, 2) := by decide +kernel
theorem dL_runs_199 : decode cL_runs 199 = .ok (.iload_n 0, 1) := by decide +kernel
theorem dL_runs_200 : decode cL_runs 200 = .ok (.aload 4, 2) := by decide +kernel
theorem dL_runs_202 : decode cL_runs 202 = .ok (.aload 5, 2) := by decide +kernel
theorem dL_runs_204 : decode cL_runs 204 = .ok (.invokestatic 24, 3) := by decide +kernel
theorem dL_runs_207 : decode cL_runs 207 = .ok (.iload 11, 2) := by decide +kernel
theorem dL_runs_209 : decode cL_runs 209 = .ok (.ifCond .le 10, 3) := by decide +kernel
theorem dL_runs_212 : decode cL_runs 212 = .ok (.iload 11, 2) := by decide +kernel
theorem dL_runs_214 : decode cL_runs 214 = .ok (.iconst 1, 1) := by decide +kernel
theorem dL_runs_215 : decode cL_runs 215 = .ok (.iadd, 1) := by decide +kernel
theorem dL_runs_216 : decode cL_runs 216 = .ok (.goto 4, 3) := by decide +kernel
theorem dL_runs_219 : decode cL_runs 219 = .ok (.iconst 0, 1) := by decide +kernel
theorem dL_runs_220 : decode cL_runs 220 = .ok (.iadd, 1) := by decide +kernel
theorem dL_runs_221 : decode cL_runs 221 = .ok (.iastore, 1) := by decide +kernel
theorem dL_runs_222 : decode cL_runs 222 = .ok (.iload 11, 2) := by decide +kernel
theorem dL_runs_224 : decode cL_runs 224 = .ok (.iload 11, 2) := by decide +kernel
theorem dL_runs_226 : decode cL_runs 226 = .ok (.ifCond .le 7, 3) := by decide +kernel
theorem dL_runs_229 : decode cL_runs 229 = .ok (.iconst 1, 1) := by decide +kernel
theorem dL_runs_230 : decode cL_runs 230 = .ok (.goto 4, 3) := by decide +kernel
theorem dL_runs_233 : decode cL_runs 233 = .ok (.iconst 0, 1) := by decide +kernel
theorem dL_runs_234 : decode cL_runs 234 = .ok (.iload 16, 2) := by decide +kernel
theorem dL_runs_236 : decode cL_runs 236 = .ok (.iadd, 1) := by decide +kernel
theorem dL_runs_237 : decode cL_runs 237 = .ok (.iadd, 1) := by decide +kernel
theorem dL_runs_238 : decode cL_runs 238 = .ok (.istore 11, 2) := by decide +kernel
theorem dL_runs_240 : decode cL_runs 240 = .ok (.iload 17, 2) := by decide +kernel
theorem dL_runs_242 : decode cL_runs 242 = .ok (.iload 12, 2) := by decide +kernel
theorem dL_runs_244 : decode cL_runs 244 = .ok (.if_icmp .le 8, 3) := by decide +kernel
theorem dL_runs_247 : decode cL_runs 247 = .ok (.iload 17, 2) := by decide +kernel
theorem dL_runs_249 : decode cL_runs 249 = .ok (.goto 5, 3) := by decide +kernel
theorem dL_runs_252 : decode cL_runs 252 = .ok (.iload 12, 2) := by decide +kernel
theorem dL_runs_254 : decode cL_runs 254 = .ok (.istore 12, 2) := by decide +kernel
theorem dL_runs_256 : decode cL_runs 256 = .ok (.aload_n 2, 1) := by decide +kernel
theorem dL_runs_257 : decode cL_runs 257 = .ok (.bipush 48, 2) := by decide +kernel
theorem dL_runs_259 : decode cL_runs 259 = .ok (.iload 14, 2) := by decide +kernel
theorem dL_runs_261 : decode cL_runs 261 = .ok (.iadd, 1) := by decide +kernel
theorem dL_runs_262 : decode cL_runs 262 = .ok (.iaload, 1) := by decide +kernel
theorem dL_runs_263 : decode cL_runs 263 = .ok (.iload 17, 2) := by decide +kernel
theorem dL_runs_265 : decode cL_runs 265 = .ok (.isub, 1) := by decide +kernel
theorem dL_runs_266 : decode cL_runs 266 = .ok (.iload 13, 2) := by decide +kernel
theorem dL_runs_268 : decode cL_runs 268 = .ok (.if_icmp .le 16, 3) := by decide +kernel
theorem dL_runs_271 : decode cL_runs 271 = .ok (.aload_n 2, 1) := by decide +kernel
theorem dL_runs_272 : decode cL_runs 272 = .ok (.bipush 48, 2) := by decide +kernel
theorem dL_runs_274 : decode cL_runs 274 = .ok (.iload 14, 2) := by decide +kernel
theorem dL_runs_276 : decode cL_runs 276 = .ok (.iadd, 1) := by decide +kernel
theorem dL_runs_277 : decode cL_runs 277 = .ok (.iaload, 1) := by decide +kernel
theorem dL_runs_278 : decode cL_runs 278 = .ok (.iload 17, 2) := by decide +kernel
theorem dL_runs_280 : decode cL_runs 280 = .ok (.isub, 1) := by decide +kernel
theorem dL_runs_281 : decode cL_runs 281 = .ok (.goto 5, 3) := by decide +kernel
theorem dL_runs_284 : decode cL_runs 284 = .ok (.iload 13, 2) := by decide +kernel
theorem dL_runs_286 : decode cL_runs 286 = .ok (.istore 13, 2) := by decide +kernel
theorem dL_runs_288 : decode cL_runs 288 = .ok (.iinc 15 1, 3) := by decide +kernel
theorem dL_runs_291 : decode cL_runs 291 = .ok (.goto (-182), 3) := by decide +kernel
theorem dL_runs_294 : decode cL_runs 294 = .ok (.iload_n 0, 1) := by decide +kernel
theorem dL_runs_295 : decode cL_runs 295 = .ok (.iload 14, 2) := by decide +kernel
theorem dL_runs_297 : decode cL_runs 297 = .ok (.aload_n 2, 1) := by decide +kernel
theorem dL_runs_298 : decode cL_runs 298 = .ok (.aload 6, 2) := by decide +kernel
theorem dL_runs_300 : decode cL_runs 300 = .ok (.invokestatic 28, 3) := by decide +kernel
theorem dL_runs_303 : decode cL_runs 303 = .ok (.istore 14, 2) := by decide +kernel
theorem dL_runs_305 : decode cL_runs 305 = .ok (.goto (-211), 3) := by decide +kernel
theorem dL_runs_308 : decode cL_runs 308 = .ok (.iload_n 0, 1) := by decide +kernel
theorem dL_runs_309 : decode cL_runs 309 = .ok (.iload 11, 2) := by decide +kernel
theorem dL_runs_311 : decode cL_runs 311 = .ok (.iload 12, 2) := by decide +kernel
theorem dL_runs_313 : decode cL_runs 313 = .ok (.iload 13, 2) := by decide +kernel
theorem dL_runs_315 : decode cL_runs 315 = .ok (.aload 6, 2) := by decide +kernel
theorem dL_runs_317 : decode cL_runs 317 = .ok (.aload 7, 2) := by decide +kernel
theorem dL_runs_319 : decode cL_runs 319 = .ok (.invokestatic 32, 3) := by decide +kernel
theorem dL_runs_322 : decode cL_runs 322 = .ok (.iload 8, 2) := by decide +kernel
theorem dL_runs_324 : decode cL_runs 324 = .ok (.ireturn, 1) := by decide +kernel
theorem dL_lays_0 : decode cL_lays 0 = .ok (.iconst 0, 1) := by decide +kernel
theorem dL_lays_1 : decode cL_lays 1 = .ok (.istore 9, 2) := by decide +kernel
theorem dL_lays_3 : decode cL_lays 3 = .ok (.iconst 0, 1) := by decide +kernel
theorem dL_lays_4 : decode cL_lays 4 = .ok (.istore 10, 2) := by decide +kernel
theorem dL_lays_6 : decode cL_lays 6 = .ok (.aload 7, 2) := by decide +kernel
theorem dL_lays_8 : decode cL_lays 8 = .ok (.iconst 0, 1) := by decide +kernel
theorem dL_lays_9 : decode cL_lays 9 = .ok (.iconst 0, 1) := by decide +kernel
theorem dL_lays_10 : decode cL_lays 10 = .ok (.iastore, 1) := by decide +kernel
theorem dL_lays_11 : decode cL_lays 11 = .ok (.aload 7, 2) := by decide +kernel
theorem dL_lays_13 : decode cL_lays 13 = .ok (.iconst 1, 1) := by decide +kernel
theorem dL_lays_14 : decode cL_lays 14 = .ok (.iconst 0, 1) := by decide +kernel
theorem dL_lays_15 : decode cL_lays 15 = .ok (.iastore, 1) := by decide +kernel
theorem dL_lays_16 : decode cL_lays 16 = .ok (.aload 7, 2) := by decide +kernel
theorem dL_lays_18 : decode cL_lays 18 = .ok (.iconst 2, 1) := by decide +kernel
theorem dL_lays_19 : decode cL_lays 19 = .ok (.iconst 0, 1) := by decide +kernel
theorem dL_lays_20 : decode cL_lays 20 = .ok (.iastore, 1) := by decide +kernel
theorem dL_lays_21 : decode cL_lays 21 = .ok (.aload 7, 2) := by decide +kernel
theorem dL_lays_23 : decode cL_lays 23 = .ok (.iconst 5, 1) := by decide +kernel
theorem dL_lays_24 : decode cL_lays 24 = .ok (.iconst 0, 1) := by decide +kernel
theorem dL_lays_25 : decode cL_lays 25 = .ok (.iastore, 1) := by decide +kernel
theorem dL_lays_26 : decode cL_lays 26 = .ok (.aload 7, 2) := by decide +kernel
theorem dL_lays_28 : decode cL_lays 28 = .ok (.bipush 6, 2) := by decide +kernel
theorem dL_lays_30 : decode cL_lays 30 = .ok (.iconst 0, 1) := by decide +kernel
theorem dL_lays_31 : decode cL_lays 31 = .ok (.iastore, 1) := by decide +kernel
theorem dL_lays_32 : decode cL_lays 32 = .ok (.aload 5, 2) := by decide +kernel
theorem dL_lays_34 : decode cL_lays 34 = .ok (.bipush 32, 2) := by decide +kernel
theorem dL_lays_36 : decode cL_lays 36 = .ok (.aload 7, 2) := by decide +kernel
theorem dL_lays_38 : decode cL_lays 38 = .ok (.iconst 4, 1) := by decide +kernel
theorem dL_lays_39 : decode cL_lays 39 = .ok (.iaload, 1) := by decide +kernel
theorem dL_lays_40 : decode cL_lays 40 = .ok (.iastore, 1) := by decide +kernel
theorem dL_lays_41 : decode cL_lays 41 = .ok (.aload 6, 2) := by decide +kernel
theorem dL_lays_43 : decode cL_lays 43 = .ok (.iconst 0, 1) := by decide +kernel
theorem dL_lays_44 : decode cL_lays 44 = .ok (.iconst (-1), 1) := by decide +kernel
theorem dL_lays_45 : decode cL_lays 45 = .ok (.iastore, 1) := by decide +kernel
theorem dL_lays_46 : decode cL_lays 46 = .ok (.iconst 0, 1) := by decide +kernel
theorem dL_lays_47 : decode cL_lays 47 = .ok (.istore 11, 2) := by decide +kernel
theorem dL_lays_49 : decode cL_lays 49 = .ok (.iload 11, 2) := by decide +kernel
theorem dL_lays_51 : decode cL_lays 51 = .ok (.ifCond .ne 121, 3) := by decide +kernel
theorem dL_lays_54 : decode cL_lays 54 = .ok (.iload 9, 2) := by decide +kernel
theorem dL_lays_56 : decode cL_lays 56 = .ok (.iload 10, 2) := by decide +kernel
theorem dL_lays_58 : decode cL_lays 58 = .ok (.aload_n 0, 1) := by decide +kernel
theorem dL_lays_59 : decode cL_lays 59 = .ok (.aload 7, 2) := by decide +kernel
theorem dL_lays_61 : decode cL_lays 61 = .ok (.invokestatic 28, 3) := by decide +kernel
theorem dL_lays_64 : decode cL_lays 64 = .ok (.istore 12, 2) := by decide +kernel
theorem dL_lays_66 : decode cL_lays 66 = .ok (.iload 12, 2) := by decide +kernel
theorem dL_lays_68 : decode cL_lays 68 = .ok (.ifCond .le 36, 3) := by decide +kernel
theorem dL_lays_71 : decode cL_lays 71 = .ok (.aload_n 0, 1) := by decide +kernel
theorem dL_lays_72 : decode cL_lays 72 = .ok (.bipush 16, 2) := by decide +kernel
theorem dL_lays_74 : decode cL_lays 74 = .ok (.iload 12, 2) := by decide +kernel
theorem dL_lays_76 : decode cL_lays 76 = .ok (.iadd, 1) := by decide +kernel
theorem dL_lays_77 : decode cL_lays 77 = .ok (.iaload, 1) := by decide +kernel
theorem dL_lays_78 : decode cL_lays 78 = .ok (.iconst 1, 1) := by decide +kernel
theorem dL_lays_79 : decode cL_lays 79 = .ok (.if_icmp .ne 25, 3) := by decide +kernel
theorem dL_lays_82 : decode cL_lays 82 = .ok (.iload 9, 2) := by decide +kernel
theorem dL_lays_84 : decode cL_lays 84 = .ok (.iload 12, 2) := by decide +kernel
theorem dL_lays_86 : decode cL_lays 86 = .ok (.aload_n 0, 1) := by decide +kernel
theorem dL_lays_87 : decode cL_lays 87 = .ok (.aload 4, 2) := by decide +kernel
theorem dL_lays_89 : decode cL_lays 89 = .ok (.aload 5, 2) := by decide +kernel
theorem dL_lays_91 : decode cL_lays 91 = .ok (.aload_n 2, 1) := by decide +kernel
theorem dL_lays_92 : decode cL_lays 92 = .ok (.aload 7, 2) := by decide +kernel
theorem dL_lays_94 : decode cL_lays 94 = .ok (.aload 8, 2) := by decide +kernel
theorem dL_lays_96 : decode cL_lays 96 = .ok (.invokestatic 36, 3) := by decide +kernel
theorem dL_lays_99 : decode cL_lays 99 = .ok (.istore 10, 2) := by decide +kernel
theorem dL_lays_101 : decode cL_lays 101 = .ok (.goto 68, 3) := by decide +kernel
theorem dL_lays_104 : decode cL_lays 104 = .ok (.iload 12, 2) := by decide +kernel
theorem dL_lays_106 : decode cL_lays 106 = .ok (.ifCond .le 29, 3) := by decide +kernel
theorem dL_lays_109 : decode cL_lays 109 = .ok (.iload 12, 2) := by decide +kernel
theorem dL_lays_111 : decode cL_lays 111 = .ok (.aload_n 0, 1) := by decide +kernel
theorem dL_lays_112 : decode cL_lays 112 = .ok (.aload_n 1, 1) := by decide +kernel
theorem dL_lays_113 : decode cL_lays 113 = .ok (.aload_n 2, 1) := by decide +kernel
theorem dL_lays_114 : decode cL_lays 114 = .ok (.aload_n 3, 1) := by decide +kernel
theorem dL_lays_115 : decode cL_lays 115 = .ok (.aload 5, 2) := by decide +kernel
theorem dL_lays_117 : decode cL_lays 117 = .ok (.aload 6, 2) := by decide +kernel
theorem dL_lays_119 : decode cL_lays 119 = .ok (.aload 7, 2) := by decide +kernel
theorem dL_lays_121 : decode cL_lays 121 = .ok (.invokestatic 40, 3) := by decide +kernel
theorem dL_lays_124 : decode cL_lays 124 = .ok (.iload 12, 2) := by decide +kernel
theorem dL_lays_126 : decode cL_lays 126 = .ok (.istore 9, 2) := by decide +kernel
theorem dL_lays_128 : decode cL_lays 128 = .ok (.iload 12, 2) := by decide +kernel
theorem dL_lays_130 : decode cL_lays 130 = .ok (.istore 10, 2) := by decide +kernel
theorem dL_lays_132 : decode cL_lays 132 = .ok (.goto 37, 3) := by decide +kernel
theorem dL_lays_135 : decode cL_lays 135 = .ok (.iload 9, 2) := by decide +kernel
theorem dL_lays_137 : decode cL_lays 137 = .ok (.ifCond .le 29, 3) := by decide +kernel
theorem dL_lays_140 : decode cL_lays 140 = .ok (.iload 9, 2) := by decide +kernel
theorem dL_lays_142 : decode cL_lays 142 = .ok (.aload_n 1, 1) := by decide +kernel
theorem dL_lays_143 : decode cL_lays 143 = .ok (.aload_n 2, 1) := by decide +kernel
theorem dL_lays_144 : decode cL_lays 144 = .ok (.aload 5, 2) := by decide +kernel
theorem dL_lays_146 : decode cL_lays 146 = .ok (.aload 6, 2) := by decide +kernel
theorem dL_lays_148 : decode cL_lays 148 = .ok (.aload 7, 2) := by decide +kernel
theorem dL_lays_150 : decode cL_lays 150 = .ok (.invokestatic 44, 3) := by decide +kernel
theorem dL_lays_153 : decode cL_lays 153 = .ok (.iload 9, 2) := by decide +kernel
theorem dL_lays_155 : decode cL_lays 155 = .ok (.istore 10, 2) := by decide +kernel
theorem dL_lays_157 : decode cL_lays 157 = .ok (.aload_n 0, 1) := by decide +kernel
theorem dL_lays_158 : decode cL_lays 158 = .ok (.iload 9, 2) := by decide +kernel
theorem dL_lays_160 : decode cL_lays 160 = .ok (.iaload, 1) := by decide +kernel
theorem dL_lays_161 : decode cL_lays 161 = .ok (.istore 9, 2) := by decide +kernel
theorem dL_lays_163 : decode cL_lays 163 = .ok (.goto 6, 3) := by decide +kernel
theorem dL_lays_166 : decode cL_lays 166 = .ok (.iconst 1, 1) := by decide +kernel
theorem dL_lays_167 : decode cL_lays 167 = .ok (.istore 11, 2) := by decide +kernel
theorem dL_lays_169 : decode cL_lays 169 = .ok (.goto (-120), 3) := by decide +kernel
theorem dL_lays_172 : decode cL_lays 172 = .ok (.aload 7, 2) := by decide +kernel
theorem dL_lays_174 : decode cL_lays 174 = .ok (.aload 5, 2) := by decide +kernel
theorem dL_lays_176 : decode cL_lays 176 = .ok (.invokestatic 16, 3) := by decide +kernel
theorem dL_lays_179 : decode cL_lays 179 = .ok (.aload 5, 2) := by decide +kernel
theorem dL_lays_181 : decode cL_lays 181 = .ok (.bipush 48, 2) := by decide +kernel
theorem dL_lays_183 : decode cL_lays 183 = .ok (.aload 7, 2) := by decide +kernel
theorem dL_lays_185 : decode cL_lays 185 = .ok (.iconst 0, 1) := by decide +kernel
theorem dL_lays_186 : decode cL_lays 186 = .ok (.iaload, 1) := by decide +kernel
theorem dL_lays_187 : decode cL_lays 187 = .ok (.ifCond .le 10, 3) := by decide +kernel
theorem dL_lays_190 : decode cL_lays 190 = .ok (.aload 7, 2) := by decide +kernel
theorem dL_lays_192 : decode cL_lays 192 = .ok (.iconst 0, 1) := by decide +kernel
theorem dL_lays_193 : decode cL_lays 193 = .ok (.iaload, 1) := by decide +kernel
theorem dL_lays_194 : decode cL_lays 194 = .ok (.goto 4, 3) := by decide +kernel
theorem dL_lays_197 : decode cL_lays 197 = .ok (.iconst 0, 1) := by decide +kernel
theorem dL_lays_198 : decode cL_lays 198 = .ok (.iastore, 1) := by decide +kernel
theorem dL_lays_199 : decode cL_lays 199 = .ok (.return_, 1) := by decide +kernel
theorem dL_same_0 : decode cL_same 0 = .ok (.aload_n 0, 1) := by decide +kernel
theorem dL_same_1 : decode cL_same 1 = .ok (.iconst 0, 1) := by decide +kernel
theorem dL_same_2 : decode cL_same 2 = .ok (.invokevirtual 48, 3) := by decide +kernel
theorem dL_same_5 : decode cL_same 5 = .ok (.aload_n 3, 1) := by decide +kernel
theorem dL_same_6 : decode cL_same 6 = .ok (.bipush 48, 2) := by decide +kernel
theorem dL_same_8 : decode cL_same 8 = .ok (.iaload, 1) := by decide +kernel
theorem dL_same_9 : decode cL_same 9 = .ok (.if_icmp .ne 30, 3) := by decide +kernel
theorem dL_same_12 : decode cL_same 12 = .ok (.aload_n 0, 1) := by decide +kernel
theorem dL_same_13 : decode cL_same 13 = .ok (.iconst 0, 1) := by decide +kernel
theorem dL_same_14 : decode cL_same 14 = .ok (.invokevirtual 54, 3) := by decide +kernel
theorem dL_same_17 : decode cL_same 17 = .ok (.aload 4, 2) := by decide +kernel
theorem dL_same_19 : decode cL_same 19 = .ok (.iconst 4, 1) := by decide +kernel
theorem dL_same_20 : decode cL_same 20 = .ok (.iaload, 1) := by decide +kernel
theorem dL_same_21 : decode cL_same 21 = .ok (.if_icmp .ne 18, 3) := by decide +kernel
theorem dL_same_24 : decode cL_same 24 = .ok (.aload_n 0, 1) := by decide +kernel
theorem dL_same_25 : decode cL_same 25 = .ok (.invokevirtual 57, 3) := by decide +kernel
theorem dL_same_28 : decode cL_same 28 = .ok (.aload 4, 2) := by decide +kernel
theorem dL_same_30 : decode cL_same 30 = .ok (.iconst 3, 1) := by decide +kernel
theorem dL_same_31 : decode cL_same 31 = .ok (.iaload, 1) := by decide +kernel
theorem dL_same_32 : decode cL_same 32 = .ok (.if_icmp .ne 7, 3) := by decide +kernel
theorem dL_same_35 : decode cL_same 35 = .ok (.iconst 1, 1) := by decide +kernel
theorem dL_same_36 : decode cL_same 36 = .ok (.goto 4, 3) := by decide +kernel
theorem dL_same_39 : decode cL_same 39 = .ok (.iconst 0, 1) := by decide +kernel
theorem dL_same_40 : decode cL_same 40 = .ok (.istore 6, 2) := by decide +kernel
theorem dL_same_42 : decode cL_same 42 = .ok (.iconst 1, 1) := by decide +kernel
theorem dL_same_43 : decode cL_same 43 = .ok (.istore 7, 2) := by decide +kernel
theorem dL_same_45 : decode cL_same 45 = .ok (.iload 7, 2) := by decide +kernel
theorem dL_same_47 : decode cL_same 47 = .ok (.aload 4, 2) := by decide +kernel
theorem dL_same_49 : decode cL_same 49 = .ok (.iconst 3, 1) := by decide +kernel
theorem dL_same_50 : decode cL_same 50 = .ok (.iaload, 1) := by decide +kernel
theorem dL_same_51 : decode cL_same 51 = .ok (.if_icmp .ge 210, 3) := by decide +kernel
theorem dL_same_54 : decode cL_same 54 = .ok (.iload 6, 2) := by decide +kernel
theorem dL_same_56 : decode cL_same 56 = .ok (.ifCond .eq 205, 3) := by decide +kernel
theorem dL_same_59 : decode cL_same 59 = .ok (.aload_n 1, 1) := by decide +kernel
theorem dL_same_60 : decode cL_same 60 = .ok (.bipush 16, 2) := by decide +kernel
theorem dL_same_62 : decode cL_same 62 = .ok (.iload 7, 2) := by decide +kernel
theorem dL_same_64 : decode cL_same 64 = .ok (.iadd, 1) := by decide +kernel
theorem dL_same_65 : decode cL_same 65 = .ok (.iaload, 1) := by decide +kernel
theorem dL_same_66 : decode cL_same 66 = .ok (.ifCond .ne 117, 3) := by decide +kernel
theorem dL_same_69 : decode cL_same 69 = .ok (.aload_n 0, 1) := by decide +kernel
theorem dL_same_70 : decode cL_same 70 = .ok (.iload 7, 2) := by decide +kernel
theorem dL_same_72 : decode cL_same 72 = .ok (.invokevirtual 61, 3) := by decide +kernel
theorem dL_same_75 : decode cL_same 75 = .ok (.aload_n 3, 1) := by decide +kernel
theorem dL_same_76 : decode cL_same 76 = .ok (.iload 7, 2) := by decide +kernel
theorem dL_same_78 : decode cL_same 78 = .ok (.iaload, 1) := by decide +kernel
theorem dL_same_79 : decode cL_same 79 = .ok (.if_icmp .ne 98, 3) := by decide +kernel
theorem dL_same_82 : decode cL_same 82 = .ok (.aload_n 0, 1) := by decide +kernel
theorem dL_same_83 : decode cL_same 83 = .ok (.iload 7, 2) := by decide +kernel
theorem dL_same_85 : decode cL_same 85 = .ok (.invokevirtual 64, 3) := by decide +kernel
theorem dL_same_88 : decode cL_same 88 = .ok (.aload_n 3, 1) := by decide +kernel
theorem dL_same_89 : decode cL_same 89 = .ok (.bipush 16, 2) := by decide +kernel
theorem dL_same_91 : decode cL_same 91 = .ok (.iload 7, 2) := by decide +kernel
theorem dL_same_93 : decode cL_same 93 = .ok (.iadd, 1) := by decide +kernel
theorem dL_same_94 : decode cL_same 94 = .ok (.iaload, 1) := by decide +kernel
theorem dL_same_95 : decode cL_same 95 = .ok (.if_icmp .ne 82, 3) := by decide +kernel
theorem dL_same_98 : decode cL_same 98 = .ok (.aload_n 0, 1) := by decide +kernel
theorem dL_same_99 : decode cL_same 99 = .ok (.iload 7, 2) := by decide +kernel
theorem dL_same_101 : decode cL_same 101 = .ok (.invokevirtual 54, 3) := by decide +kernel
theorem dL_same_104 : decode cL_same 104 = .ok (.aload_n 3, 1) := by decide +kernel
theorem dL_same_105 : decode cL_same 105 = .ok (.bipush 32, 2) := by decide +kernel
theorem dL_same_107 : decode cL_same 107 = .ok (.iload 7, 2) := by decide +kernel
theorem dL_same_109 : decode cL_same 109 = .ok (.iadd, 1) := by decide +kernel
theorem dL_same_110 : decode cL_same 110 = .ok (.iaload, 1) := by decide +kernel
theorem dL_same_111 : decode cL_same 111 = .ok (.aload_n 2, 1) := by decide +kernel
theorem dL_same_112 : decode cL_same 112 = .ok (.iconst 4, 1) := by decide +kernel
theorem dL_same_113 : decode cL_same 113 = .ok (.iload 7, 2) := by decide +kernel
theorem dL_same_115 : decode cL_same 115 = .ok (.imul, 1) := by decide +kernel
theorem dL_same_116 : decode cL_same 116 = .ok (.iconst 1, 1) := by decide +kernel
theorem dL_same_117 : decode cL_same 117 = .ok (.iadd, 1) := by decide +kernel
theorem dL_same_118 : decode cL_same 118 = .ok (.iaload, 1) := by decide +kernel
theorem dL_same_119 : decode cL_same 119 = .ok (.iadd, 1) := by decide +kernel
theorem dL_same_120 : decode cL_same 120 = .ok (.aload_n 2, 1) := by decide +kernel
theorem dL_same_121 : decode cL_same 121 = .ok (.iconst 4, 1) := by decide +kernel
theorem dL_same_122 : decode cL_same 122 = .ok (.iload 7, 2) := by decide +kernel
theorem dL_same_124 : decode cL_same 124 = .ok (.imul, 1) := by decide +kernel
theorem dL_same_125 : decode cL_same 125 = .ok (.iconst 3, 1) := by decide +kernel
theorem dL_same_126 : decode cL_same 126 = .ok (.iadd, 1) := by decide +kernel
theorem dL_same_127 : decode cL_same 127 = .ok (.iaload, 1) := by decide +kernel
theorem dL_same_128 : decode cL_same 128 = .ok (.iadd, 1) := by decide +kernel
theorem dL_same_129 : decode cL_same 129 = .ok (.if_icmp .ne 48, 3) := by decide +kernel
theorem dL_same_132 : decode cL_same 132 = .ok (.aload_n 0, 1) := by decide +kernel
theorem dL_same_133 : decode cL_same 133 = .ok (.iload 7, 2) := by decide +kernel
theorem dL_same_135 : decode cL_same 135 = .ok (.invokevirtual 48, 3) := by decide +kernel
theorem dL_same_138 : decode cL_same 138 = .ok (.aload_n 3, 1) := by decide +kernel
theorem dL_same_139 : decode cL_same 139 = .ok (.bipush 48, 2) := by decide +kernel
theorem dL_same_141 : decode cL_same 141 = .ok (.iload 7, 2) := by decide +kernel
theorem dL_same_143 : decode cL_same 143 = .ok (.iadd, 1) := by decide +kernel
theorem dL_same_144 : decode cL_same 144 = .ok (.iaload, 1) := by decide +kernel
theorem dL_same_145 : decode cL_same 145 = .ok (.aload_n 2, 1) := by decide +kernel
theorem dL_same_146 : decode cL_same 146 = .ok (.iconst 4, 1) := by decide +kernel
theorem dL_same_147 : decode cL_same 147 = .ok (.iload 7, 2) := by decide +kernel
theorem dL_same_149 : decode cL_same 149 = .ok (.imul, 1) := by decide +kernel
theorem dL_same_150 : decode cL_same 150 = .ok (.iaload, 1) := by decide +kernel
theorem dL_same_151 : decode cL_same 151 = .ok (.iadd, 1) := by decide +kernel
theorem dL_same_152 : decode cL_same 152 = .ok (.aload_n 2, 1) := by decide +kernel
theorem dL_same_153 : decode cL_same 153 = .ok (.iconst 4, 1) := by decide +kernel
theorem dL_same_154 : decode cL_same 154 = .ok (.iload 7, 2) := by decide +kernel
theorem dL_same_156 : decode cL_same 156 = .ok (.imul, 1) := by decide +kernel
theorem dL_same_157 : decode cL_same 157 = .ok (.iconst 2, 1) := by decide +kernel
theorem dL_same_158 : decode cL_same 158 = .ok (.iadd, 1) := by decide +kernel
theorem dL_same_159 : decode cL_same 159 = .ok (.iaload, 1) := by decide +kernel
theorem dL_same_160 : decode cL_same 160 = .ok (.iadd, 1) := by decide +kernel
theorem dL_same_161 : decode cL_same 161 = .ok (.if_icmp .ne 16, 3) := by decide +kernel
theorem dL_same_164 : decode cL_same 164 = .ok (.aload_n 0, 1) := by decide +kernel
theorem dL_same_165 : decode cL_same 165 = .ok (.iload 7, 2) := by decide +kernel
theorem dL_same_167 : decode cL_same 167 = .ok (.invokevirtual 67, 3) := by decide +kernel
theorem dL_same_170 : decode cL_same 170 = .ok (.ifCond .ne 7, 3) := by decide +kernel
theorem dL_same_173 : decode cL_same 173 = .ok (.iconst 1, 1) := by decide +kernel
theorem dL_same_174 : decode cL_same 174 = .ok (.goto 4, 3) := by decide +kernel
theorem dL_same_177 : decode cL_same 177 = .ok (.iconst 0, 1) := by decide +kernel
theorem dL_same_178 : decode cL_same 178 = .ok (.istore 6, 2) := by decide +kernel
theorem dL_same_180 : decode cL_same 180 = .ok (.goto 75, 3) := by decide +kernel
theorem dL_same_183 : decode cL_same 183 = .ok (.aload_n 1, 1) := by decide +kernel
theorem dL_same_184 : decode cL_same 184 = .ok (.bipush 32, 2) := by decide +kernel
theorem dL_same_186 : decode cL_same 186 = .ok (.iload 7, 2) := by decide +kernel
theorem dL_same_188 : decode cL_same 188 = .ok (.iadd, 1) := by decide +kernel
theorem dL_same_189 : decode cL_same 189 = .ok (.iaload, 1) := by decide +kernel
theorem dL_same_190 : decode cL_same 190 = .ok (.ifCond .le 65, 3) := by decide +kernel
theorem dL_same_193 : decode cL_same 193 = .ok (.aload_n 0, 1) := by decide +kernel
theorem dL_same_194 : decode cL_same 194 = .ok (.iload 7, 2) := by decide +kernel
theorem dL_same_196 : decode cL_same 196 = .ok (.invokevirtual 61, 3) := by decide +kernel
theorem dL_same_199 : decode cL_same 199 = .ok (.aload_n 3, 1) := by decide +kernel
theorem dL_same_200 : decode cL_same 200 = .ok (.iload 7, 2) := by decide +kernel
theorem dL_same_202 : decode cL_same 202 = .ok (.iaload, 1) := by decide +kernel
theorem dL_same_203 : decode cL_same 203 = .ok (.if_icmp .ne 49, 3) := by decide +kernel
theorem dL_same_206 : decode cL_same 206 = .ok (.aload_n 0, 1) := by decide +kernel
theorem dL_same_207 : decode cL_same 207 = .ok (.iload 7, 2) := by decide +kernel
theorem dL_same_209 : decode cL_same 209 = .ok (.invokevirtual 48, 3) := by decide +kernel
theorem dL_same_212 : decode cL_same 212 = .ok (.aload_n 1, 1) := by decide +kernel
theorem dL_same_213 : decode cL_same 213 = .ok (.bipush 48, 2) := by decide +kernel
theorem dL_same_215 : decode cL_same 215 = .ok (.iload 7, 2) := by decide +kernel
theorem dL_same_217 : decode cL_same 217 = .ok (.iadd, 1) := by decide +kernel
theorem dL_same_218 : decode cL_same 218 = .ok (.iaload, 1) := by decide +kernel
theorem dL_same_219 : decode cL_same 219 = .ok (.if_icmp .ne 33, 3) := by decide +kernel
theorem dL_same_222 : decode cL_same 222 = .ok (.aload_n 1, 1) := by decide +kernel
theorem dL_same_223 : decode cL_same 223 = .ok (.bipush 48, 2) := by decide +kernel
theorem dL_same_225 : decode cL_same 225 = .ok (.iload 7, 2) := by decide +kernel
theorem dL_same_227 : decode cL_same 227 = .ok (.iadd, 1) := by decide +kernel
theorem dL_same_228 : decode cL_same 228 = .ok (.iaload, 1) := by decide +kernel
theorem dL_same_229 : decode cL_same 229 = .ok (.iconst 4, 1) := by decide +kernel
theorem dL_same_230 : decode cL_same 230 = .ok (.irem, 1) := by decide +kernel
theorem dL_same_231 : decode cL_same 231 = .ok (.ifCond .gt 17, 3) := by decide +kernel
theorem dL_same_234 : decode cL_same 234 = .ok (.aload_n 0, 1) := by decide +kernel
theorem dL_same_235 : decode cL_same 235 = .ok (.iload 7, 2) := by decide +kernel
theorem dL_same_237 : decode cL_same 237 = .ok (.iconst 0, 1) := by decide +kernel
theorem dL_same_238 : decode cL_same 238 = .ok (.invokevirtual 70, 3) := by decide +kernel
theorem dL_same_241 : decode cL_same 241 = .ok (.aload_n 3, 1) := by decide +kernel
theorem dL_same_242 : decode cL_same 242 = .ok (.iload 7, 2) := by decide +kernel
theorem dL_same_244 : decode cL_same 244 = .ok (.iaload, 1) := by decide +kernel
theorem dL_same_245 : decode cL_same 245 = .ok (.if_icmp .ne 7, 3) := by decide +kernel
theorem dL_same_248 : decode cL_same 248 = .ok (.iconst 1, 1) := by decide +kernel
theorem dL_same_249 : decode cL_same 249 = .ok (.goto 4, 3) := by decide +kernel
theorem dL_same_252 : decode cL_same 252 = .ok (.iconst 0, 1) := by decide +kernel
theorem dL_same_253 : decode cL_same 253 = .ok (.istore 6, 2) := by decide +kernel
theorem dL_same_255 : decode cL_same 255 = .ok (.iinc 7 1, 3) := by decide +kernel
theorem dL_same_258 : decode cL_same 258 = .ok (.goto (-213), 3) := by decide +kernel
theorem dL_same_261 : decode cL_same 261 = .ok (.iconst 0, 1) := by decide +kernel
theorem dL_same_262 : decode cL_same 262 = .ok (.istore 7, 2) := by decide +kernel
theorem dL_same_264 : decode cL_same 264 = .ok (.iload 7, 2) := by decide +kernel
theorem dL_same_266 : decode cL_same 266 = .ok (.aload 4, 2) := by decide +kernel
theorem dL_same_268 : decode cL_same 268 = .ok (.iconst 3, 1) := by decide +kernel
theorem dL_same_269 : decode cL_same 269 = .ok (.iaload, 1) := by decide +kernel
theorem dL_same_270 : decode cL_same 270 = .ok (.if_icmp .ge 183, 3) := by decide +kernel
theorem dL_same_273 : decode cL_same 273 = .ok (.iload 6, 2) := by decide +kernel
theorem dL_same_275 : decode cL_same 275 = .ok (.ifCond .eq 178, 3) := by decide +kernel
theorem dL_same_278 : decode cL_same 278 = .ok (.iconst 0, 1) := by decide +kernel
theorem dL_same_279 : decode cL_same 279 = .ok (.istore 8, 2) := by decide +kernel
theorem dL_same_281 : decode cL_same 281 = .ok (.iconst 0, 1) := by decide +kernel
theorem dL_same_282 : decode cL_same 282 = .ok (.istore 9, 2) := by decide +kernel
theorem dL_same_284 : decode cL_same 284 = .ok (.iload 9, 2) := by decide +kernel
theorem dL_same_286 : decode cL_same 286 = .ok (.aload 4, 2) := by decide +kernel
theorem dL_same_288 : decode cL_same 288 = .ok (.bipush 6, 2) := by decide +kernel
theorem dL_same_290 : decode cL_same 290 = .ok (.iaload, 1) := by decide +kernel
theorem dL_same_291 : decode cL_same 291 = .ok (.if_icmp .ge 122, 3) := by decide +kernel
theorem dL_same_294 : decode cL_same 294 = .ok (.iload 6, 2) := by decide +kernel
theorem dL_same_296 : decode cL_same 296 = .ok (.ifCond .eq 117, 3) := by decide +kernel
theorem dL_same_299 : decode cL_same 299 = .ok (.aload_n 1, 1) := by decide +kernel
theorem dL_same_300 : decode cL_same 300 = .ok (.bipush 16, 2) := by decide +kernel
theorem dL_same_302 : decode cL_same 302 = .ok (.iload 7, 2) := by decide +kernel
theorem dL_same_304 : decode cL_same 304 = .ok (.iadd, 1) := by decide +kernel
theorem dL_same_305 : decode cL_same 305 = .ok (.iaload, 1) := by decide +kernel
theorem dL_same_306 : decode cL_same 306 = .ok (.ifCond .ne 107, 3) := by decide +kernel
theorem dL_same_309 : decode cL_same 309 = .ok (.aload 5, 2) := by decide +kernel
theorem dL_same_311 : decode cL_same 311 = .ok (.iconst 3, 1) := by decide +kernel
theorem dL_same_312 : decode cL_same 312 = .ok (.iload 9, 2) := by decide +kernel
theorem dL_same_314 : decode cL_same 314 = .ok (.imul, 1) := by decide +kernel
theorem dL_same_315 : decode cL_same 315 = .ok (.iaload, 1) := by decide +kernel
theorem dL_same_316 : decode cL_same 316 = .ok (.iload 7, 2) := by decide +kernel
theorem dL_same_318 : decode cL_same 318 = .ok (.if_icmp .ne 89, 3) := by decide +kernel
theorem dL_same_321 : decode cL_same 321 = .ok (.aload_n 0, 1) := by decide +kernel
theorem dL_same_322 : decode cL_same 322 = .ok (.iload 7, 2) := by decide +kernel
theorem dL_same_324 : decode cL_same 324 = .ok (.iload 8, 2) := by decide +kernel
theorem dL_same_326 : decode cL_same 326 = .ok (.iconst 1, 1) := by decide +kernel
theorem dL_same_327 : decode cL_same 327 = .ok (.invokevirtual 74, 3) := by decide +kernel
theorem dL_same_330 : decode cL_same 330 = .ok (.aload 5, 2) := by decide +kernel
theorem dL_same_332 : decode cL_same 332 = .ok (.iconst 3, 1) := by decide +kernel
theorem dL_same_333 : decode cL_same 333 = .ok (.iload 9, 2) := by decide +kernel
theorem dL_same_335 : decode cL_same 335 = .ok (.imul, 1) := by decide +kernel
theorem dL_same_336 : decode cL_same 336 = .ok (.iconst 1, 1) := by decide +kernel
theorem dL_same_337 : decode cL_same 337 = .ok (.iadd, 1) := by decide +kernel
theorem dL_same_338 : decode cL_same 338 = .ok (.iaload, 1) := by decide +kernel
theorem dL_same_339 : decode cL_same 339 = .ok (.if_icmp .ne 62, 3) := by decide +kernel
theorem dL_same_342 : decode cL_same 342 = .ok (.aload_n 0, 1) := by decide +kernel
theorem dL_same_343 : decode cL_same 343 = .ok (.iload 7, 2) := by decide +kernel
theorem dL_same_345 : decode cL_same 345 = .ok (.iload 8, 2) := by decide +kernel
theorem dL_same_347 : decode cL_same 347 = .ok (.iconst 2, 1) := by decide +kernel
theorem dL_same_348 : decode cL_same 348 = .ok (.invokevirtual 74, 3) := by decide +kernel
theorem dL_same_351 : decode cL_same 351 = .ok (.aload 5, 2) := by decide +kernel
theorem dL_same_353 : decode cL_same 353 = .ok (.iconst 3, 1) := by decide +kernel
theorem dL_same_354 : decode cL_same 354 = .ok (.iload 9, 2) := by decide +kernel
theorem dL_same_356 : decode cL_same 356 = .ok (.imul, 1) := by decide +kernel
theorem dL_same_357 : decode cL_same 357 = .ok (.iconst 2, 1) := by decide +kernel
theorem dL_same_358 : decode cL_same 358 = .ok (.iadd, 1) := by decide +kernel
theorem dL_same_359 : decode cL_same 359 = .ok (.iaload, 1) := by decide +kernel
theorem dL_same_360 : decode cL_same 360 = .ok (.if_icmp .ne 41, 3) := by decide +kernel
theorem dL_same_363 : decode cL_same 363 = .ok (.aload_n 0, 1) := by decide +kernel
theorem dL_same_364 : decode cL_same 364 = .ok (.iload 7, 2) := by decide +kernel
theorem dL_same_366 : decode cL_same 366 = .ok (.iload 8, 2) := by decide +kernel
theorem dL_same_368 : decode cL_same 368 = .ok (.iconst 0, 1) := by decide +kernel
theorem dL_same_369 : decode cL_same 369 = .ok (.invokevirtual 74, 3) := by decide +kernel
theorem dL_same_372 : decode cL_same 372 = .ok (.iload 7, 2) := by decide +kernel
theorem dL_same_374 : decode cL_same 374 = .ok (.ifCond .ne 7, 3) := by decide +kernel
theorem dL_same_377 : decode cL_same 377 = .ok (.iconst 0, 1) := by decide +kernel
theorem dL_same_378 : decode cL_same 378 = .ok (.goto 16, 3) := by decide +kernel
theorem dL_same_381 : decode cL_same 381 = .ok (.aload_n 3, 1) := by decide +kernel
theorem dL_same_382 : decode cL_same 382 = .ok (.iload 7, 2) := by decide +kernel
theorem dL_same_384 : decode cL_same 384 = .ok (.iaload, 1) := by decide +kernel
theorem dL_same_385 : decode cL_same 385 = .ok (.aload_n 2, 1) := by decide +kernel
theorem dL_same_386 : decode cL_same 386 = .ok (.iconst 4, 1) := by decide +kernel
theorem dL_same_387 : decode cL_same 387 = .ok (.iload 7, 2) := by decide +kernel
theorem dL_same_389 : decode cL_same 389 = .ok (.imul, 1) := by decide +kernel
theorem dL_same_390 : decode cL_same 390 = .ok (.iconst 3, 1) := by decide +kernel
theorem dL_same_391 : decode cL_same 391 = .ok (.iadd, 1) := by decide +kernel
theorem dL_same_392 : decode cL_same 392 = .ok (.iaload, 1) := by decide +kernel
theorem dL_same_393 : decode cL_same 393 = .ok (.iadd, 1) := by decide +kernel
theorem dL_same_394 : decode cL_same 394 = .ok (.if_icmp .ne 7, 3) := by decide +kernel
theorem dL_same_397 : decode cL_same 397 = .ok (.iconst 1, 1) := by decide +kernel
theorem dL_same_398 : decode cL_same 398 = .ok (.goto 4, 3) := by decide +kernel
theorem dL_same_401 : decode cL_same 401 = .ok (.iconst 0, 1) := by decide +kernel
theorem dL_same_402 : decode cL_same 402 = .ok (.istore 6, 2) := by decide +kernel
theorem dL_same_404 : decode cL_same 404 = .ok (.iinc 8 1, 3) := by decide +kernel
theorem dL_same_407 : decode cL_same 407 = .ok (.iinc 9 1, 3) := by decide +kernel
theorem dL_same_410 : decode cL_same 410 = .ok (.goto (-126), 3) := by decide +kernel
theorem dL_same_413 : decode cL_same 413 = .ok (.iload 6, 2) := by decide +kernel
theorem dL_same_415 : decode cL_same 415 = .ok (.ifCond .eq 29, 3) := by decide +kernel
theorem dL_same_418 : decode cL_same 418 = .ok (.aload_n 1, 1) := by decide +kernel
theorem dL_same_419 : decode cL_same 419 = .ok (.bipush 16, 2) := by decide +kernel
theorem dL_same_421 : decode cL_same 421 = .ok (.iload 7, 2) := by decide +kernel
theorem dL_same_423 : decode cL_same 423 = .ok (.iadd, 1) := by decide +kernel
theorem dL_same_424 : decode cL_same 424 = .ok (.iaload, 1) := by decide +kernel
theorem dL_same_425 : decode cL_same 425 = .ok (.iconst 1, 1) := by decide +kernel
theorem dL_same_426 : decode cL_same 426 = .ok (.if_icmp .eq 14, 3) := by decide +kernel
theorem dL_same_429 : decode cL_same 429 = .ok (.aload_n 0, 1) := by decide +kernel
theorem dL_same_430 : decode cL_same 430 = .ok (.iload 7, 2) := by decide +kernel
theorem dL_same_432 : decode cL_same 432 = .ok (.invokevirtual 78, 3) := by decide +kernel
theorem dL_same_435 : decode cL_same 435 = .ok (.iload 8, 2) := by decide +kernel
theorem dL_same_437 : decode cL_same 437 = .ok (.if_icmp .ne 7, 3) := by decide +kernel
theorem dL_same_440 : decode cL_same 440 = .ok (.iconst 1, 1) := by decide +kernel
theorem dL_same_441 : decode cL_same 441 = .ok (.goto 4, 3) := by decide +kernel
theorem dL_same_444 : decode cL_same 444 = .ok (.iconst 0, 1) := by decide +kernel
theorem dL_same_445 : decode cL_same 445 = .ok (.istore 6, 2) := by decide +kernel
theorem dL_same_447 : decode cL_same 447 = .ok (.iinc 7 1, 3) := by decide +kernel
theorem dL_same_450 : decode cL_same 450 = .ok (.goto (-186), 3) := by decide +kernel
theorem dL_same_453 : decode cL_same 453 = .ok (.iload 6, 2) := by decide +kernel
theorem dL_same_455 : decode cL_same 455 = .ok (.ireturn, 1) := by decide +kernel
theorem dL_makes_0 : decode cL_makes 0 = .ok (.aload 5, 2) := by decide +kernel
theorem dL_makes_2 : decode cL_makes 2 = .ok (.iconst 3, 1) := by decide +kernel
theorem dL_makes_3 : decode cL_makes 3 = .ok (.iaload, 1) := by decide +kernel
theorem dL_makes_4 : decode cL_makes 4 = .ok (.istore 6, 2) := by decide +kernel
theorem dL_makes_6 : decode cL_makes 6 = .ok (.iload_n 1, 1) := by decide +kernel
theorem dL_makes_7 : decode cL_makes 7 = .ok (.iload 6, 2) := by decide +kernel
theorem dL_makes_9 : decode cL_makes 9 = .ok (.invokestatic 81, 3) := by decide +kernel
theorem dL_makes_12 : decode cL_makes 12 = .ok (.istore 7, 2) := by decide +kernel
theorem dL_makes_14 : decode cL_makes 14 = .ok (.aload_n 2, 1) := by decide +kernel
theorem dL_makes_15 : decode cL_makes 15 = .ok (.bipush 16, 2) := by decide +kernel
theorem dL_makes_17 : decode cL_makes 17 = .ok (.iload 7, 2) := by decide +kernel
theorem dL_makes_19 : decode cL_makes 19 = .ok (.iadd, 1) := by decide +kernel
theorem dL_makes_20 : decode cL_makes 20 = .ok (.iaload, 1) := by decide +kernel
theorem dL_makes_21 : decode cL_makes 21 = .ok (.iconst 1, 1) := by decide +kernel
theorem dL_makes_22 : decode cL_makes 22 = .ok (.if_icmp .ne 7, 3) := by decide +kernel
theorem dL_makes_25 : decode cL_makes 25 = .ok (.iconst 0, 1) := by decide +kernel
theorem dL_makes_26 : decode cL_makes 26 = .ok (.goto 5, 3) := by decide +kernel
theorem dL_makes_29 : decode cL_makes 29 = .ok (.iload 7, 2) := by decide +kernel
theorem dL_makes_31 : decode cL_makes 31 = .ok (.istore 7, 2) := by decide +kernel
theorem dL_makes_33 : decode cL_makes 33 = .ok (.iload 6, 2) := by decide +kernel
theorem dL_makes_35 : decode cL_makes 35 = .ok (.iconst 1, 1) := by decide +kernel
theorem dL_makes_36 : decode cL_makes 36 = .ok (.if_icmp .le 17, 3) := by decide +kernel
theorem dL_makes_39 : decode cL_makes 39 = .ok (.iload_n 1, 1) := by decide +kernel
theorem dL_makes_40 : decode cL_makes 40 = .ok (.iconst 4, 1) := by decide +kernel
theorem dL_makes_41 : decode cL_makes 41 = .ok (.ishr, 1) := by decide +kernel
theorem dL_makes_42 : decode cL_makes 42 = .ok (.iconst 3, 1) := by decide +kernel
theorem dL_makes_43 : decode cL_makes 43 = .ok (.invokestatic 81, 3) := by decide +kernel
theorem dL_makes_46 : decode cL_makes 46 = .ok (.ifCond .ne 7, 3) := by decide +kernel
theorem dL_makes_49 : decode cL_makes 49 = .ok (.iconst 1, 1) := by decide +kernel
theorem dL_makes_50 : decode cL_makes 50 = .ok (.goto 4, 3) := by decide +kernel
theorem dL_makes_53 : decode cL_makes 53 = .ok (.iconst 0, 1) := by decide +kernel
theorem dL_makes_54 : decode cL_makes 54 = .ok (.istore 8, 2) := by decide +kernel
theorem dL_makes_56 : decode cL_makes 56 = .ok (.aload_n 2, 1) := by decide +kernel
theorem dL_makes_57 : decode cL_makes 57 = .ok (.iload 6, 2) := by decide +kernel
theorem dL_makes_59 : decode cL_makes 59 = .ok (.iload 7, 2) := by decide +kernel
theorem dL_makes_61 : decode cL_makes 61 = .ok (.iastore, 1) := by decide +kernel
theorem dL_makes_62 : decode cL_makes 62 = .ok (.aload_n 2, 1) := by decide +kernel
theorem dL_makes_63 : decode cL_makes 63 = .ok (.bipush 16, 2) := by decide +kernel
theorem dL_makes_65 : decode cL_makes 65 = .ok (.iload 6, 2) := by decide +kernel
theorem dL_makes_67 : decode cL_makes 67 = .ok (.iadd, 1) := by decide +kernel
theorem dL_makes_68 : decode cL_makes 68 = .ok (.iload 8, 2) := by decide +kernel
theorem dL_makes_70 : decode cL_makes 70 = .ok (.ifCond .eq 7, 3) := by decide +kernel
theorem dL_makes_73 : decode cL_makes 73 = .ok (.iconst 1, 1) := by decide +kernel
theorem dL_makes_74 : decode cL_makes 74 = .ok (.goto 4, 3) := by decide +kernel
theorem dL_makes_77 : decode cL_makes 77 = .ok (.iconst 0, 1) := by decide +kernel
theorem dL_makes_78 : decode cL_makes 78 = .ok (.iastore, 1) := by decide +kernel
theorem dL_makes_79 : decode cL_makes 79 = .ok (.aload_n 2, 1) := by decide +kernel
theorem dL_makes_80 : decode cL_makes 80 = .ok (.bipush 32, 2) := by decide +kernel
theorem dL_makes_82 : decode cL_makes 82 = .ok (.iload 6, 2) := by decide +kernel
theorem dL_makes_84 : decode cL_makes 84 = .ok (.iadd, 1) := by decide +kernel
theorem dL_makes_85 : decode cL_makes 85 = .ok (.iconst 0, 1) := by decide +kernel
theorem dL_makes_86 : decode cL_makes 86 = .ok (.iastore, 1) := by decide +kernel
theorem dL_makes_87 : decode cL_makes 87 = .ok (.aload_n 2, 1) := by decide +kernel
theorem dL_makes_88 : decode cL_makes 88 = .ok (.bipush 48, 2) := by decide +kernel
theorem dL_makes_90 : decode cL_makes 90 = .ok (.iload 6, 2) := by decide +kernel
theorem dL_makes_92 : decode cL_makes 92 = .ok (.iadd, 1) := by decide +kernel
theorem dL_makes_93 : decode cL_makes 93 = .ok (.iconst 1, 1) := by decide +kernel
theorem dL_makes_94 : decode cL_makes 94 = .ok (.iload_n 1, 1) := by decide +kernel
theorem dL_makes_95 : decode cL_makes 95 = .ok (.bipush 6, 2) := by decide +kernel
theorem dL_makes_97 : decode cL_makes 97 = .ok (.ishr, 1) := by decide +kernel
theorem dL_makes_98 : decode cL_makes 98 = .ok (.bipush 20, 2) := by decide +kernel
theorem dL_makes_100 : decode cL_makes 100 = .ok (.invokestatic 81, 3) := by decide +kernel
theorem dL_makes_103 : decode cL_makes 103 = .ok (.iadd, 1) := by decide +kernel
theorem dL_makes_104 : decode cL_makes 104 = .ok (.iastore, 1) := by decide +kernel
theorem dL_makes_105 : decode cL_makes 105 = .ok (.aload_n 3, 1) := by decide +kernel
theorem dL_makes_106 : decode cL_makes 106 = .ok (.iload 6, 2) := by decide +kernel
theorem dL_makes_108 : decode cL_makes 108 = .ok (.iconst (-1), 1) := by decide +kernel
theorem dL_makes_109 : decode cL_makes 109 = .ok (.iastore, 1) := by decide +kernel
theorem dL_makes_110 : decode cL_makes 110 = .ok (.aload_n 3, 1) := by decide +kernel
theorem dL_makes_111 : decode cL_makes 111 = .ok (.bipush 16, 2) := by decide +kernel
theorem dL_makes_113 : decode cL_makes 113 = .ok (.iload 6, 2) := by decide +kernel
theorem dL_makes_115 : decode cL_makes 115 = .ok (.iadd, 1) := by decide +kernel
theorem dL_makes_116 : decode cL_makes 116 = .ok (.iconst (-1), 1) := by decide +kernel
theorem dL_makes_117 : decode cL_makes 117 = .ok (.iastore, 1) := by decide +kernel
theorem dL_makes_118 : decode cL_makes 118 = .ok (.aload 5, 2) := by decide +kernel
theorem dL_makes_120 : decode cL_makes 120 = .ok (.iconst 3, 1) := by decide +kernel
theorem dL_makes_121 : decode cL_makes 121 = .ok (.dup2, 1) := by decide +kernel
theorem dL_makes_122 : decode cL_makes 122 = .ok (.iaload, 1) := by decide +kernel
theorem dL_makes_123 : decode cL_makes 123 = .ok (.iconst 1, 1) := by decide +kernel
theorem dL_makes_124 : decode cL_makes 124 = .ok (.iadd, 1) := by decide +kernel
theorem dL_makes_125 : decode cL_makes 125 = .ok (.iastore, 1) := by decide +kernel
theorem dL_makes_126 : decode cL_makes 126 = .ok (.iload 8, 2) := by decide +kernel
theorem dL_makes_128 : decode cL_makes 128 = .ok (.ifCond .eq 25, 3) := by decide +kernel
theorem dL_makes_131 : decode cL_makes 131 = .ok (.aload_n 0, 1) := by decide +kernel
theorem dL_makes_132 : decode cL_makes 132 = .ok (.iload 7, 2) := by decide +kernel
theorem dL_makes_134 : decode cL_makes 134 = .ok (.aload_n 0, 1) := by decide +kernel
theorem dL_makes_135 : decode cL_makes 135 = .ok (.iload 7, 2) := by decide +kernel
theorem dL_makes_137 : decode cL_makes 137 = .ok (.invokevirtual 84, 3) := by decide +kernel
theorem dL_makes_140 : decode cL_makes 140 = .ok (.aload_n 2, 1) := by decide +kernel
theorem dL_makes_141 : decode cL_makes 141 = .ok (.bipush 48, 2) := by decide +kernel
theorem dL_makes_143 : decode cL_makes 143 = .ok (.iload 6, 2) := by decide +kernel
theorem dL_makes_145 : decode cL_makes 145 = .ok (.iadd, 1) := by decide +kernel
theorem dL_makes_146 : decode cL_makes 146 = .ok (.iaload, 1) := by decide +kernel
theorem dL_makes_147 : decode cL_makes 147 = .ok (.invokevirtual 87, 3) := by decide +kernel
theorem dL_makes_150 : decode cL_makes 150 = .ok (.goto 15, 3) := by decide +kernel
theorem dL_makes_153 : decode cL_makes 153 = .ok (.aload_n 0, 1) := by decide +kernel
theorem dL_makes_154 : decode cL_makes 154 = .ok (.iload 7, 2) := by decide +kernel
theorem dL_makes_156 : decode cL_makes 156 = .ok (.aload_n 0, 1) := by decide +kernel
theorem dL_makes_157 : decode cL_makes 157 = .ok (.iload 7, 2) := by decide +kernel
theorem dL_makes_159 : decode cL_makes 159 = .ok (.invokevirtual 84, 3) := by decide +kernel
theorem dL_makes_162 : decode cL_makes 162 = .ok (.invokevirtual 90, 3) := by decide +kernel
theorem dL_makes_165 : decode cL_makes 165 = .ok (.iload 6, 2) := by decide +kernel
theorem dL_makes_167 : decode cL_makes 167 = .ok (.if_icmp .ne 7, 3) := by decide +kernel
theorem dL_makes_170 : decode cL_makes 170 = .ok (.iconst 1, 1) := by decide +kernel
theorem dL_makes_171 : decode cL_makes 171 = .ok (.goto 4, 3) := by decide +kernel
theorem dL_makes_174 : decode cL_makes 174 = .ok (.iconst 0, 1) := by decide +kernel
theorem dL_makes_175 : decode cL_makes 175 = .ok (.istore 9, 2) := by decide +kernel
theorem dL_makes_177 : decode cL_makes 177 = .ok (.iconst 0, 1) := by decide +kernel
theorem dL_makes_178 : decode cL_makes 178 = .ok (.istore 10, 2) := by decide +kernel
theorem dL_makes_180 : decode cL_makes 180 = .ok (.iload 10, 2) := by decide +kernel
theorem dL_makes_182 : decode cL_makes 182 = .ok (.iconst 4, 1) := by decide +kernel
theorem dL_makes_183 : decode cL_makes 183 = .ok (.if_icmp .ge 116, 3) := by decide +kernel
theorem dL_makes_186 : decode cL_makes 186 = .ok (.iload 8, 2) := by decide +kernel
theorem dL_makes_188 : decode cL_makes 188 = .ok (.ifCond .eq 111, 3) := by decide +kernel
theorem dL_makes_191 : decode cL_makes 191 = .ok (.iload_n 1, 1) := by decide +kernel
theorem dL_makes_192 : decode cL_makes 192 = .ok (.bipush 9, 2) := by decide +kernel
theorem dL_makes_194 : decode cL_makes 194 = .ok (.ishr, 1) := by decide +kernel
theorem dL_makes_195 : decode cL_makes 195 = .ok (.iconst 5, 1) := by decide +kernel
theorem dL_makes_196 : decode cL_makes 196 = .ok (.invokestatic 81, 3) := by decide +kernel
theorem dL_makes_199 : decode cL_makes 199 = .ok (.iload 10, 2) := by decide +kernel
theorem dL_makes_201 : decode cL_makes 201 = .ok (.if_icmp .le 98, 3) := by decide +kernel
theorem dL_makes_204 : decode cL_makes 204 = .ok (.aload 5, 2) := by decide +kernel
theorem dL_makes_206 : decode cL_makes 206 = .ok (.bipush 7, 2) := by decide +kernel
theorem dL_makes_208 : decode cL_makes 208 = .ok (.iaload, 1) := by decide +kernel
theorem dL_makes_209 : decode cL_makes 209 = .ok (.bipush 20, 2) := by decide +kernel
theorem dL_makes_211 : decode cL_makes 211 = .ok (.if_icmp .ge 88, 3) := by decide +kernel
theorem dL_makes_214 : decode cL_makes 214 = .ok (.aload 4, 2) := by decide +kernel
theorem dL_makes_216 : decode cL_makes 216 = .ok (.iconst 4, 1) := by decide +kernel
theorem dL_makes_217 : decode cL_makes 217 = .ok (.iload 6, 2) := by decide +kernel
theorem dL_makes_219 : decode cL_makes 219 = .ok (.imul, 1) := by decide +kernel
theorem dL_makes_220 : decode cL_makes 220 = .ok (.iload 10, 2) := by decide +kernel
theorem dL_makes_222 : decode cL_makes 222 = .ok (.iadd, 1) := by decide +kernel
theorem dL_makes_223 : decode cL_makes 223 = .ok (.iconst 1, 1) := by decide +kernel
theorem dL_makes_224 : decode cL_makes 224 = .ok (.iload_n 1, 1) := by decide +kernel
theorem dL_makes_225 : decode cL_makes 225 = .ok (.iconst 3, 1) := by decide +kernel
theorem dL_makes_226 : decode cL_makes 226 = .ok (.iload 10, 2) := by decide +kernel
theorem dL_makes_228 : decode cL_makes 228 = .ok (.imul, 1) := by decide +kernel
theorem dL_makes_229 : decode cL_makes 229 = .ok (.ishr, 1) := by decide +kernel
theorem dL_makes_230 : decode cL_makes 230 = .ok (.bipush 30, 2) := by decide +kernel
theorem dL_makes_232 : decode cL_makes 232 = .ok (.invokestatic 81, 3) := by decide +kernel
theorem dL_makes_235 : decode cL_makes 235 = .ok (.iadd, 1) := by decide +kernel
theorem dL_makes_236 : decode cL_makes 236 = .ok (.iastore, 1) := by decide +kernel
theorem dL_makes_237 : decode cL_makes 237 = .ok (.aload_n 2, 1) := by decide +kernel
theorem dL_makes_238 : decode cL_makes 238 = .ok (.bipush 32, 2) := by decide +kernel
theorem dL_makes_240 : decode cL_makes 240 = .ok (.iload 6, 2) := by decide +kernel
theorem dL_makes_242 : decode cL_makes 242 = .ok (.iadd, 1) := by decide +kernel
theorem dL_makes_243 : decode cL_makes 243 = .ok (.dup2, 1) := by decide +kernel
theorem dL_makes_244 : decode cL_makes 244 = .ok (.iaload, 1) := by decide +kernel
theorem dL_makes_245 : decode cL_makes 245 = .ok (.iconst 1, 1) := by decide +kernel
theorem dL_makes_246 : decode cL_makes 246 = .ok (.iadd, 1) := by decide +kernel
theorem dL_makes_247 : decode cL_makes 247 = .ok (.iastore, 1) := by decide +kernel
theorem dL_makes_248 : decode cL_makes 248 = .ok (.aload 5, 2) := by decide +kernel
theorem dL_makes_250 : decode cL_makes 250 = .ok (.bipush 7, 2) := by decide +kernel
theorem dL_makes_252 : decode cL_makes 252 = .ok (.dup2, 1) := by decide +kernel
theorem dL_makes_253 : decode cL_makes 253 = .ok (.iaload, 1) := by decide +kernel
theorem dL_makes_254 : decode cL_makes 254 = .ok (.iconst 1, 1) := by decide +kernel
theorem dL_makes_255 : decode cL_makes 255 = .ok (.iadd, 1) := by decide +kernel
theorem dL_makes_256 : decode cL_makes 256 = .ok (.iastore, 1) := by decide +kernel
theorem dL_makes_257 : decode cL_makes 257 = .ok (.iload 9, 2) := by decide +kernel
theorem dL_makes_259 : decode cL_makes 259 = .ok (.ifCond .eq 31, 3) := by decide +kernel
theorem dL_makes_262 : decode cL_makes 262 = .ok (.aload_n 0, 1) := by decide +kernel
theorem dL_makes_263 : decode cL_makes 263 = .ok (.iload 6, 2) := by decide +kernel
theorem dL_makes_265 : decode cL_makes 265 = .ok (.aload 4, 2) := by decide +kernel
theorem dL_makes_267 : decode cL_makes 267 = .ok (.iconst 4, 1) := by decide +kernel
theorem dL_makes_268 : decode cL_makes 268 = .ok (.iload 6, 2) := by decide +kernel
theorem dL_makes_270 : decode cL_makes 270 = .ok (.imul, 1) := by decide +kernel
theorem dL_makes_271 : decode cL_makes 271 = .ok (.iload 10, 2) := by decide +kernel
theorem dL_makes_273 : decode cL_makes 273 = .ok (.iadd, 1) := by decide +kernel
theorem dL_makes_274 : decode cL_makes 274 = .ok (.iaload, 1) := by decide +kernel
theorem dL_makes_275 : decode cL_makes 275 = .ok (.iconst 0, 1) := by decide +kernel
theorem dL_makes_276 : decode cL_makes 276 = .ok (.invokevirtual 93, 3) := by decide +kernel
theorem dL_makes_279 : decode cL_makes 279 = .ok (.iload 10, 2) := by decide +kernel
theorem dL_makes_281 : decode cL_makes 281 = .ok (.iconst 1, 1) := by decide +kernel
theorem dL_makes_282 : decode cL_makes 282 = .ok (.iadd, 1) := by decide +kernel
theorem dL_makes_283 : decode cL_makes 283 = .ok (.if_icmp .ne 7, 3) := by decide +kernel
theorem dL_makes_286 : decode cL_makes 286 = .ok (.iconst 1, 1) := by decide +kernel
theorem dL_makes_287 : decode cL_makes 287 = .ok (.goto 4, 3) := by decide +kernel
theorem dL_makes_290 : decode cL_makes 290 = .ok (.iconst 0, 1) := by decide +kernel
theorem dL_makes_291 : decode cL_makes 291 = .ok (.istore 9, 2) := by decide +kernel
theorem dL_makes_293 : decode cL_makes 293 = .ok (.iinc 10 1, 3) := by decide +kernel
theorem dL_makes_296 : decode cL_makes 296 = .ok (.goto (-116), 3) := by decide +kernel
theorem dL_makes_299 : decode cL_makes 299 = .ok (.iload 9, 2) := by decide +kernel
theorem dL_makes_301 : decode cL_makes 301 = .ok (.ireturn, 1) := by decide +kernel
theorem dL_styles_0 : decode cL_styles 0 = .ok (.iconst 1, 1) := by decide +kernel
theorem dL_styles_1 : decode cL_styles 1 = .ok (.iload_n 1, 1) := by decide +kernel
theorem dL_styles_2 : decode cL_styles 2 = .ok (.aload 6, 2) := by decide +kernel
theorem dL_styles_4 : decode cL_styles 4 = .ok (.iconst 3, 1) := by decide +kernel
theorem dL_styles_5 : decode cL_styles 5 = .ok (.iaload, 1) := by decide +kernel
theorem dL_styles_6 : decode cL_styles 6 = .ok (.iconst 1, 1) := by decide +kernel
theorem dL_styles_7 : decode cL_styles 7 = .ok (.isub, 1) := by decide +kernel
theorem dL_styles_8 : decode cL_styles 8 = .ok (.invokestatic 81, 3) := by decide +kernel
theorem dL_styles_11 : decode cL_styles 11 = .ok (.iadd, 1) := by decide +kernel
theorem dL_styles_12 : decode cL_styles 12 = .ok (.istore 7, 2) := by decide +kernel
theorem dL_styles_14 : decode cL_styles 14 = .ok (.aload_n 2, 1) := by decide +kernel
theorem dL_styles_15 : decode cL_styles 15 = .ok (.bipush 16, 2) := by decide +kernel
theorem dL_styles_17 : decode cL_styles 17 = .ok (.iload 7, 2) := by decide +kernel
theorem dL_styles_19 : decode cL_styles 19 = .ok (.iadd, 1) := by decide +kernel
theorem dL_styles_20 : decode cL_styles 20 = .ok (.iaload, 1) := by decide +kernel
theorem dL_styles_21 : decode cL_styles 21 = .ok (.iconst 1, 1) := by decide +kernel
theorem dL_styles_22 : decode cL_styles 22 = .ok (.if_icmp .ne 5, 3) := by decide +kernel
theorem dL_styles_25 : decode cL_styles 25 = .ok (.iconst 1, 1) := by decide +kernel
theorem dL_styles_26 : decode cL_styles 26 = .ok (.ireturn, 1) := by decide +kernel
theorem dL_styles_27 : decode cL_styles 27 = .ok (.iload_n 1, 1) := by decide +kernel
theorem dL_styles_28 : decode cL_styles 28 = .ok (.iconst 4, 1) := by decide +kernel
theorem dL_styles_29 : decode cL_styles 29 = .ok (.ishr, 1) := by decide +kernel
theorem dL_styles_30 : decode cL_styles 30 = .ok (.bipush 10, 2) := by decide +kernel
theorem dL_styles_32 : decode cL_styles 32 = .ok (.invokestatic 81, 3) := by decide +kernel
theorem dL_styles_35 : decode cL_styles 35 = .ok (.istore 8, 2) := by decide +kernel
theorem dL_styles_37 : decode cL_styles 37 = .ok (.iload 8, 2) := by decide +kernel
theorem dL_styles_39 : decode cL_styles 39 = .ok (.iconst 2, 1) := by decide +kernel
theorem dL_styles_40 : decode cL_styles 40 = .ok (.if_icmp .ge 68, 3) := by decide +kernel
theorem dL_styles_43 : decode cL_styles 43 = .ok (.iload_n 1, 1) := by decide +kernel
theorem dL_styles_44 : decode cL_styles 44 = .ok (.bipush 7, 2) := by decide +kernel
theorem dL_styles_46 : decode cL_styles 46 = .ok (.ishr, 1) := by decide +kernel
theorem dL_styles_47 : decode cL_styles 47 = .ok (.iconst 3, 1) := by decide +kernel
theorem dL_styles_48 : decode cL_styles 48 = .ok (.invokestatic 81, 3) := by decide +kernel
theorem dL_styles_51 : decode cL_styles 51 = .ok (.ifCond .ne 7, 3) := by decide +kernel
theorem dL_styles_54 : decode cL_styles 54 = .ok (.iconst (-1), 1) := by decide +kernel
theorem dL_styles_55 : decode cL_styles 55 = .ok (.goto 114, 3) := by decide +kernel
theorem dL_styles_58 : decode cL_styles 58 = .ok (.iload_n 1, 1) := by decide +kernel
theorem dL_styles_59 : decode cL_styles 59 = .ok (.bipush 7, 2) := by decide +kernel
theorem dL_styles_61 : decode cL_styles 61 = .ok (.ishr, 1) := by decide +kernel
theorem dL_styles_62 : decode cL_styles 62 = .ok (.iconst 3, 1) := by decide +kernel
theorem dL_styles_63 : decode cL_styles 63 = .ok (.invokestatic 81, 3) := by decide +kernel
theorem dL_styles_66 : decode cL_styles 66 = .ok (.iconst 1, 1) := by decide +kernel
theorem dL_styles_67 : decode cL_styles 67 = .ok (.if_icmp .ne 19, 3) := by decide +kernel
theorem dL_styles_70 : decode cL_styles 70 = .ok (.sipush 1000, 3) := by decide +kernel
theorem dL_styles_73 : decode cL_styles 73 = .ok (.iload_n 1, 1) := by decide +kernel
theorem dL_styles_74 : decode cL_styles 74 = .ok (.bipush 9, 2) := by decide +kernel
theorem dL_styles_76 : decode cL_styles 76 = .ok (.ishr, 1) := by decide +kernel
theorem dL_styles_77 : decode cL_styles 77 = .ok (.bipush 101, 2) := by decide +kernel
theorem dL_styles_79 : decode cL_styles 79 = .ok (.invokestatic 81, 3) := by decide +kernel
theorem dL_styles_82 : decode cL_styles 82 = .ok (.iadd, 1) := by decide +kernel
theorem dL_styles_83 : decode cL_styles 83 = .ok (.goto 86, 3) := by decide +kernel
theorem dL_styles_86 : decode cL_styles 86 = .ok (.iload_n 1, 1) := by decide +kernel
theorem dL_styles_87 : decode cL_styles 87 = .ok (.bipush 9, 2) := by decide +kernel
theorem dL_styles_89 : decode cL_styles 89 = .ok (.ishr, 1) := by decide +kernel
theorem dL_styles_90 : decode cL_styles 90 = .ok (.iload 8, 2) := by decide +kernel
theorem dL_styles_92 : decode cL_styles 92 = .ok (.ifCond .ne 8, 3) := by decide +kernel
theorem dL_styles_95 : decode cL_styles 95 = .ok (.bipush 61, 2) := by decide +kernel
theorem dL_styles_97 : decode cL_styles 97 = .ok (.goto 5, 3) := by decide +kernel
theorem dL_styles_100 : decode cL_styles 100 = .ok (.bipush 20, 2) := by decide +kernel
theorem dL_styles_102 : decode cL_styles 102 = .ok (.invokestatic 81, 3) := by decide +kernel
theorem dL_styles_105 : decode cL_styles 105 = .ok (.goto 64, 3) := by decide +kernel
theorem dL_styles_108 : decode cL_styles 108 = .ok (.iload 8, 2) := by decide +kernel
theorem dL_styles_110 : decode cL_styles 110 = .ok (.bipush 6, 2) := by decide +kernel
theorem dL_styles_112 : decode cL_styles 112 = .ok (.if_icmp .ge 33, 3) := by decide +kernel
theorem dL_styles_115 : decode cL_styles 115 = .ok (.iload_n 1, 1) := by decide +kernel
theorem dL_styles_116 : decode cL_styles 116 = .ok (.bipush 9, 2) := by decide +kernel
theorem dL_styles_118 : decode cL_styles 118 = .ok (.ishr, 1) := by decide +kernel
theorem dL_styles_119 : decode cL_styles 119 = .ok (.bipush 31, 2) := by decide +kernel
theorem dL_styles_121 : decode cL_styles 121 = .ok (.invokestatic 81, 3) := by decide +kernel
theorem dL_styles_124 : decode cL_styles 124 = .ok (.iload_n 1, 1) := by decide +kernel
theorem dL_styles_125 : decode cL_styles 125 = .ok (.bipush 7, 2) := by decide +kernel
theorem dL_styles_127 : decode cL_styles 127 = .ok (.ishr, 1) := by decide +kernel
theorem dL_styles_128 : decode cL_styles 128 = .ok (.iconst 2, 1) := by decide +kernel
theorem dL_styles_129 : decode cL_styles 129 = .ok (.invokestatic 81, 3) := by decide +kernel
theorem dL_styles_132 : decode cL_styles 132 = .ok (.ifCond .ne 8, 3) := by decide +kernel
theorem dL_styles_135 : decode cL_styles 135 = .ok (.bipush 15, 2) := by decide +kernel
theorem dL_styles_137 : decode cL_styles 137 = .ok (.goto 4, 3) := by decide +kernel
theorem dL_styles_140 : decode cL_styles 140 = .ok (.iconst 0, 1) := by decide +kernel
theorem dL_styles_141 : decode cL_styles 141 = .ok (.isub, 1) := by decide +kernel
theorem dL_styles_142 : decode cL_styles 142 = .ok (.goto 27, 3) := by decide +kernel
theorem dL_styles_145 : decode cL_styles 145 = .ok (.iload_n 1, 1) := by decide +kernel
theorem dL_styles_146 : decode cL_styles 146 = .ok (.bipush 7, 2) := by decide +kernel
theorem dL_styles_148 : decode cL_styles 148 = .ok (.ishr, 1) := by decide +kernel
theorem dL_styles_149 : decode cL_styles 149 = .ok (.iconst 2, 1) := by decide +kernel
theorem dL_styles_150 : decode cL_styles 150 = .ok (.invokestatic 81, 3) := by decide +kernel
theorem dL_styles_153 : decode cL_styles 153 = .ok (.ifCond .ne 7, 3) := by decide +kernel
theorem dL_styles_156 : decode cL_styles 156 = .ok (.iconst 0, 1) := by decide +kernel
theorem dL_styles_157 : decode cL_styles 157 = .ok (.goto 12, 3) := by decide +kernel
theorem dL_styles_160 : decode cL_styles 160 = .ok (.iload_n 1, 1) := by decide +kernel
theorem dL_styles_161 : decode cL_styles 161 = .ok (.bipush 9, 2) := by decide +kernel
theorem dL_styles_163 : decode cL_styles 163 = .ok (.ishr, 1) := by decide +kernel
theorem dL_styles_164 : decode cL_styles 164 = .ok (.bipush 9, 2) := by decide +kernel
theorem dL_styles_166 : decode cL_styles 166 = .ok (.invokestatic 81, 3) := by decide +kernel
theorem dL_styles_169 : decode cL_styles 169 = .ok (.istore 9, 2) := by decide +kernel
theorem dL_styles_171 : decode cL_styles 171 = .ok (.iload 8, 2) := by decide +kernel
theorem dL_styles_173 : decode cL_styles 173 = .ok (.ifCond .ne 11, 3) := by decide +kernel
theorem dL_styles_176 : decode cL_styles 176 = .ok (.aload 5, 2) := by decide +kernel
theorem dL_styles_178 : decode cL_styles 178 = .ok (.iload 7, 2) := by decide +kernel
theorem dL_styles_180 : decode cL_styles 180 = .ok (.iaload, 1) := by decide +kernel
theorem dL_styles_181 : decode cL_styles 181 = .ok (.goto 54, 3) := by decide +kernel
theorem dL_styles_184 : decode cL_styles 184 = .ok (.iload 8, 2) := by decide +kernel
theorem dL_styles_186 : decode cL_styles 186 = .ok (.iconst 1, 1) := by decide +kernel
theorem dL_styles_187 : decode cL_styles 187 = .ok (.if_icmp .ne 14, 3) := by decide +kernel
theorem dL_styles_190 : decode cL_styles 190 = .ok (.aload 5, 2) := by decide +kernel
theorem dL_styles_192 : decode cL_styles 192 = .ok (.bipush 16, 2) := by decide +kernel
theorem dL_styles_194 : decode cL_styles 194 = .ok (.iload 7, 2) := by decide +kernel
theorem dL_styles_196 : decode cL_styles 196 = .ok (.iadd, 1) := by decide +kernel
theorem dL_styles_197 : decode cL_styles 197 = .ok (.iaload, 1) := by decide +kernel
theorem dL_styles_198 : decode cL_styles 198 = .ok (.goto 37, 3) := by decide +kernel
theorem dL_styles_201 : decode cL_styles 201 = .ok (.iload 8, 2) := by decide +kernel
theorem dL_styles_203 : decode cL_styles 203 = .ok (.bipush 6, 2) := by decide +kernel
theorem dL_styles_205 : decode cL_styles 205 = .ok (.if_icmp .ge 17, 3) := by decide +kernel
theorem dL_styles_208 : decode cL_styles 208 = .ok (.aload_n 3, 1) := by decide +kernel
theorem dL_styles_209 : decode cL_styles 209 = .ok (.iconst 4, 1) := by decide +kernel
theorem dL_styles_210 : decode cL_styles 210 = .ok (.iload 7, 2) := by decide +kernel
theorem dL_styles_212 : decode cL_styles 212 = .ok (.imul, 1) := by decide +kernel
theorem dL_styles_213 : decode cL_styles 213 = .ok (.iload 8, 2) := by decide +kernel
theorem dL_styles_215 : decode cL_styles 215 = .ok (.iadd, 1) := by decide +kernel
theorem dL_styles_216 : decode cL_styles 216 = .ok (.iconst 2, 1) := by decide +kernel
theorem dL_styles_217 : decode cL_styles 217 = .ok (.isub, 1) := by decide +kernel
theorem dL_styles_218 : decode cL_styles 218 = .ok (.iaload, 1) := by decide +kernel
theorem dL_styles_219 : decode cL_styles 219 = .ok (.goto 16, 3) := by decide +kernel
theorem dL_styles_222 : decode cL_styles 222 = .ok (.aload 4, 2) := by decide +kernel
theorem dL_styles_224 : decode cL_styles 224 = .ok (.iconst 4, 1) := by decide +kernel
theorem dL_styles_225 : decode cL_styles 225 = .ok (.iload 7, 2) := by decide +kernel
theorem dL_styles_227 : decode cL_styles 227 = .ok (.imul, 1) := by decide +kernel
theorem dL_styles_228 : decode cL_styles 228 = .ok (.iload 8, 2) := by decide +kernel
theorem dL_styles_230 : decode cL_styles 230 = .ok (.iadd, 1) := by decide +kernel
theorem dL_styles_231 : decode cL_styles 231 = .ok (.bipush 6, 2) := by decide +kernel
theorem dL_styles_233 : decode cL_styles 233 = .ok (.isub, 1) := by decide +kernel
theorem dL_styles_234 : decode cL_styles 234 = .ok (.iaload, 1) := by decide +kernel
theorem dL_styles_235 : decode cL_styles 235 = .ok (.istore 10, 2) := by decide +kernel
theorem dL_styles_237 : decode cL_styles 237 = .ok (.aload 5, 2) := by decide +kernel
theorem dL_styles_239 : decode cL_styles 239 = .ok (.iload 8, 2) := by decide +kernel
theorem dL_styles_241 : decode cL_styles 241 = .ok (.ifCond .ne 8, 3) := by decide +kernel
theorem dL_styles_244 : decode cL_styles 244 = .ok (.iload 7, 2) := by decide +kernel
theorem dL_styles_246 : decode cL_styles 246 = .ok (.goto 18, 3) := by decide +kernel
theorem dL_styles_249 : decode cL_styles 249 = .ok (.iload 8, 2) := by decide +kernel
theorem dL_styles_251 : decode cL_styles 251 = .ok (.iconst 1, 1) := by decide +kernel
theorem dL_styles_252 : decode cL_styles 252 = .ok (.if_icmp .ne 11, 3) := by decide +kernel
theorem dL_styles_255 : decode cL_styles 255 = .ok (.bipush 16, 2) := by decide +kernel
theorem dL_styles_257 : decode cL_styles 257 = .ok (.iload 7, 2) := by decide +kernel
theorem dL_styles_259 : decode cL_styles 259 = .ok (.iadd, 1) := by decide +kernel
theorem dL_styles_260 : decode cL_styles 260 = .ok (.goto 4, 3) := by decide +kernel
theorem dL_styles_263 : decode cL_styles 263 = .ok (.iconst 0, 1) := by decide +kernel
theorem dL_styles_264 : decode cL_styles 264 = .ok (.iload 8, 2) := by decide +kernel
theorem dL_styles_266 : decode cL_styles 266 = .ok (.iconst 2, 1) := by decide +kernel
theorem dL_styles_267 : decode cL_styles 267 = .ok (.if_icmp .ge 8, 3) := by decide +kernel
theorem dL_styles_270 : decode cL_styles 270 = .ok (.iload 9, 2) := by decide +kernel
theorem dL_styles_272 : decode cL_styles 272 = .ok (.goto 7, 3) := by decide +kernel
theorem dL_styles_275 : decode cL_styles 275 = .ok (.aload 5, 2) := by decide +kernel
theorem dL_styles_277 : decode cL_styles 277 = .ok (.iconst 0, 1) := by decide +kernel
theorem dL_styles_278 : decode cL_styles 278 = .ok (.iaload, 1) := by decide +kernel
theorem dL_styles_279 : decode cL_styles 279 = .ok (.iastore, 1) := by decide +kernel
theorem dL_styles_280 : decode cL_styles 280 = .ok (.aload_n 3, 1) := by decide +kernel
theorem dL_styles_281 : decode cL_styles 281 = .ok (.iload 8, 2) := by decide +kernel
theorem dL_styles_283 : decode cL_styles 283 = .ok (.iconst 1, 1) := by decide +kernel
theorem dL_styles_284 : decode cL_styles 284 = .ok (.if_icmp .le 22, 3) := by decide +kernel
theorem dL_styles_287 : decode cL_styles 287 = .ok (.iload 8, 2) := by decide +kernel
theorem dL_styles_289 : decode cL_styles 289 = .ok (.bipush 6, 2) := by decide +kernel
theorem dL_styles_291 : decode cL_styles 291 = .ok (.if_icmp .ge 15, 3) := by decide +kernel
theorem dL_styles_294 : decode cL_styles 294 = .ok (.iconst 4, 1) := by decide +kernel
theorem dL_styles_295 : decode cL_styles 295 = .ok (.iload 7, 2) := by decide +kernel
theorem dL_styles_297 : decode cL_styles 297 = .ok (.imul, 1) := by decide +kernel
theorem dL_styles_298 : decode cL_styles 298 = .ok (.iload 8, 2) := by decide +kernel
theorem dL_styles_300 : decode cL_styles 300 = .ok (.iadd, 1) := by decide +kernel
theorem dL_styles_301 : decode cL_styles 301 = .ok (.iconst 2, 1) := by decide +kernel
theorem dL_styles_302 : decode cL_styles 302 = .ok (.isub, 1) := by decide +kernel
theorem dL_styles_303 : decode cL_styles 303 = .ok (.goto 4, 3) := by decide +kernel
theorem dL_styles_306 : decode cL_styles 306 = .ok (.iconst 0, 1) := by decide +kernel
theorem dL_styles_307 : decode cL_styles 307 = .ok (.iload 8, 2) := by decide +kernel
theorem dL_styles_309 : decode cL_styles 309 = .ok (.iconst 1, 1) := by decide +kernel
theorem dL_styles_310 : decode cL_styles 310 = .ok (.if_icmp .le 15, 3) := by decide +kernel
theorem dL_styles_313 : decode cL_styles 313 = .ok (.iload 8, 2) := by decide +kernel
theorem dL_styles_315 : decode cL_styles 315 = .ok (.bipush 6, 2) := by decide +kernel
theorem dL_styles_317 : decode cL_styles 317 = .ok (.if_icmp .ge 8, 3) := by decide +kernel
theorem dL_styles_320 : decode cL_styles 320 = .ok (.iload 9, 2) := by decide +kernel
theorem dL_styles_322 : decode cL_styles 322 = .ok (.goto 6, 3) := by decide +kernel
theorem dL_styles_325 : decode cL_styles 325 = .ok (.aload_n 3, 1) := by decide +kernel
theorem dL_styles_326 : decode cL_styles 326 = .ok (.iconst 0, 1) := by decide +kernel
theorem dL_styles_327 : decode cL_styles 327 = .ok (.iaload, 1) := by decide +kernel
theorem dL_styles_328 : decode cL_styles 328 = .ok (.iastore, 1) := by decide +kernel
theorem dL_styles_329 : decode cL_styles 329 = .ok (.aload 4, 2) := by decide +kernel
theorem dL_styles_331 : decode cL_styles 331 = .ok (.iload 8, 2) := by decide +kernel
theorem dL_styles_333 : decode cL_styles 333 = .ok (.iconst 5, 1) := by decide +kernel
theorem dL_styles_334 : decode cL_styles 334 = .ok (.if_icmp .le 16, 3) := by decide +kernel
theorem dL_styles_337 : decode cL_styles 337 = .ok (.iconst 4, 1) := by decide +kernel
theorem dL_styles_338 : decode cL_styles 338 = .ok (.iload 7, 2) := by decide +kernel
theorem dL_styles_340 : decode cL_styles 340 = .ok (.imul, 1) := by decide +kernel
theorem dL_styles_341 : decode cL_styles 341 = .ok (.iload 8, 2) := by decide +kernel
theorem dL_styles_343 : decode cL_styles 343 = .ok (.iadd, 1) := by decide +kernel
theorem dL_styles_344 : decode cL_styles 344 = .ok (.bipush 6, 2) := by decide +kernel
theorem dL_styles_346 : decode cL_styles 346 = .ok (.isub, 1) := by decide +kernel
theorem dL_styles_347 : decode cL_styles 347 = .ok (.goto 4, 3) := by decide +kernel
theorem dL_styles_350 : decode cL_styles 350 = .ok (.iconst 0, 1) := by decide +kernel
theorem dL_styles_351 : decode cL_styles 351 = .ok (.iload 8, 2) := by decide +kernel
theorem dL_styles_353 : decode cL_styles 353 = .ok (.iconst 5, 1) := by decide +kernel
theorem dL_styles_354 : decode cL_styles 354 = .ok (.if_icmp .le 8, 3) := by decide +kernel
theorem dL_styles_357 : decode cL_styles 357 = .ok (.iload 9, 2) := by decide +kernel
theorem dL_styles_359 : decode cL_styles 359 = .ok (.goto 7, 3) := by decide +kernel
theorem dL_styles_362 : decode cL_styles 362 = .ok (.aload 4, 2) := by decide +kernel
theorem dL_styles_364 : decode cL_styles 364 = .ok (.iconst 0, 1) := by decide +kernel
theorem dL_styles_365 : decode cL_styles 365 = .ok (.iaload, 1) := by decide +kernel
theorem dL_styles_366 : decode cL_styles 366 = .ok (.iastore, 1) := by decide +kernel
theorem dL_styles_367 : decode cL_styles 367 = .ok (.aload_n 0, 1) := by decide +kernel
theorem dL_styles_368 : decode cL_styles 368 = .ok (.iload 7, 2) := by decide +kernel
theorem dL_styles_370 : decode cL_styles 370 = .ok (.iconst 4, 1) := by decide +kernel
theorem dL_styles_371 : decode cL_styles 371 = .ok (.iload 8, 2) := by decide +kernel
theorem dL_styles_373 : decode cL_styles 373 = .ok (.iadd, 1) := by decide +kernel
theorem dL_styles_374 : decode cL_styles 374 = .ok (.iload 9, 2) := by decide +kernel
theorem dL_styles_376 : decode cL_styles 376 = .ok (.invokevirtual 96, 3) := by decide +kernel
theorem dL_styles_379 : decode cL_styles 379 = .ok (.iload 10, 2) := by decide +kernel
theorem dL_styles_381 : decode cL_styles 381 = .ok (.if_icmp .ne 7, 3) := by decide +kernel
theorem dL_styles_384 : decode cL_styles 384 = .ok (.iconst 1, 1) := by decide +kernel
theorem dL_styles_385 : decode cL_styles 385 = .ok (.goto 4, 3) := by decide +kernel
theorem dL_styles_388 : decode cL_styles 388 = .ok (.iconst 0, 1) := by decide +kernel
theorem dL_styles_389 : decode cL_styles 389 = .ok (.ireturn, 1) := by decide +kernel
theorem dL_law_0 : decode cL_law 0 = .ok (.new 49, 3) := by decide +kernel
theorem dL_law_3 : decode cL_law 3 = .ok (.dup, 1) := by decide +kernel
theorem dL_law_4 : decode cL_law 4 = .ok (.invokespecial 99, 3) := by decide +kernel
theorem dL_law_7 : decode cL_law 7 = .ok (.astore_n 1, 1) := by decide +kernel
theorem dL_law_8 : decode cL_law 8 = .ok (.bipush 64, 2) := by decide +kernel
theorem dL_law_10 : decode cL_law 10 = .ok (.newarray .int, 2) := by decide +kernel
theorem dL_law_12 : decode cL_law 12 = .ok (.astore_n 2, 1) := by decide +kernel
theorem dL_law_13 : decode cL_law 13 = .ok (.bipush 48, 2) := by decide +kernel
theorem dL_law_15 : decode cL_law 15 = .ok (.newarray .int, 2) := by decide +kernel
theorem dL_law_17 : decode cL_law 17 = .ok (.astore_n 3, 1) := by decide +kernel
theorem dL_law_18 : decode cL_law 18 = .ok (.bipush 48, 2) := by decide +kernel
theorem dL_law_20 : decode cL_law 20 = .ok (.newarray .int, 2) := by decide +kernel
theorem dL_law_22 : decode cL_law 22 = .ok (.astore 4, 2) := by decide +kernel
theorem dL_law_24 : decode cL_law 24 = .ok (.bipush 32, 2) := by decide +kernel
theorem dL_law_26 : decode cL_law 26 = .ok (.newarray .int, 2) := by decide +kernel
theorem dL_law_28 : decode cL_law 28 = .ok (.astore 5, 2) := by decide +kernel
theorem dL_law_30 : decode cL_law 30 = .ok (.bipush 48, 2) := by decide +kernel
theorem dL_law_32 : decode cL_law 32 = .ok (.newarray .int, 2) := by decide +kernel
theorem dL_law_34 : decode cL_law 34 = .ok (.astore 6, 2) := by decide +kernel
theorem dL_law_36 : decode cL_law 36 = .ok (.bipush 64, 2) := by decide +kernel
theorem dL_law_38 : decode cL_law 38 = .ok (.newarray .int, 2) := by decide +kernel
theorem dL_law_40 : decode cL_law 40 = .ok (.astore 7, 2) := by decide +kernel
theorem dL_law_42 : decode cL_law 42 = .ok (.bipush 16, 2) := by decide +kernel
theorem dL_law_44 : decode cL_law 44 = .ok (.newarray .int, 2) := by decide +kernel
theorem dL_law_46 : decode cL_law 46 = .ok (.astore 8, 2) := by decide +kernel
theorem dL_law_48 : decode cL_law 48 = .ok (.bipush 8, 2) := by decide +kernel
theorem dL_law_50 : decode cL_law 50 = .ok (.newarray .int, 2) := by decide +kernel
theorem dL_law_52 : decode cL_law 52 = .ok (.astore 9, 2) := by decide +kernel
theorem dL_law_54 : decode cL_law 54 = .ok (.bipush 64, 2) := by decide +kernel
theorem dL_law_56 : decode cL_law 56 = .ok (.newarray .int, 2) := by decide +kernel
theorem dL_law_58 : decode cL_law 58 = .ok (.astore 10, 2) := by decide +kernel
theorem dL_law_60 : decode cL_law 60 = .ok (.aload 9, 2) := by decide +kernel
theorem dL_law_62 : decode cL_law 62 = .ok (.iconst 3, 1) := by decide +kernel
theorem dL_law_63 : decode cL_law 63 = .ok (.iconst 1, 1) := by decide +kernel
theorem dL_law_64 : decode cL_law 64 = .ok (.iastore, 1) := by decide +kernel
theorem dL_law_65 : decode cL_law 65 = .ok (.aload 9, 2) := by decide +kernel
theorem dL_law_67 : decode cL_law 67 = .ok (.iconst 4, 1) := by decide +kernel
theorem dL_law_68 : decode cL_law 68 = .ok (.bipush 60, 2) := by decide +kernel
theorem dL_law_70 : decode cL_law 70 = .ok (.iastore, 1) := by decide +kernel
theorem dL_law_71 : decode cL_law 71 = .ok (.aload 5, 2) := by decide +kernel
theorem dL_law_73 : decode cL_law 73 = .ok (.iconst 0, 1) := by decide +kernel
theorem dL_law_74 : decode cL_law 74 = .ok (.iconst (-1), 1) := by decide +kernel
theorem dL_law_75 : decode cL_law 75 = .ok (.iastore, 1) := by decide +kernel
theorem dL_law_76 : decode cL_law 76 = .ok (.aload 5, 2) := by decide +kernel
theorem dL_law_78 : decode cL_law 78 = .ok (.bipush 16, 2) := by decide +kernel
theorem dL_law_80 : decode cL_law 80 = .ok (.iconst (-1), 1) := by decide +kernel
theorem dL_law_81 : decode cL_law 81 = .ok (.iastore, 1) := by decide +kernel
theorem dL_law_82 : decode cL_law 82 = .ok (.iconst 0, 1) := by decide +kernel
theorem dL_law_83 : decode cL_law 83 = .ok (.istore 11, 2) := by decide +kernel
theorem dL_law_85 : decode cL_law 85 = .ok (.iload 11, 2) := by decide +kernel
theorem dL_law_87 : decode cL_law 87 = .ok (.bipush 60, 2) := by decide +kernel
theorem dL_law_89 : decode cL_law 89 = .ok (.if_icmp .ge 197, 3) := by decide +kernel
theorem dL_law_92 : decode cL_law 92 = .ok (.aload_n 0, 1) := by decide +kernel
theorem dL_law_93 : decode cL_law 93 = .ok (.iload 11, 2) := by decide +kernel
theorem dL_law_95 : decode cL_law 95 = .ok (.invokestatic 100, 3) := by decide +kernel
theorem dL_law_98 : decode cL_law 98 = .ok (.istore 12, 2) := by decide +kernel
theorem dL_law_100 : decode cL_law 100 = .ok (.iconst 1, 1) := by decide +kernel
theorem dL_law_101 : decode cL_law 101 = .ok (.istore 13, 2) := by decide +kernel
theorem dL_law_103 : decode cL_law 103 = .ok (.iload 11, 2) := by decide +kernel
theorem dL_law_105 : decode cL_law 105 = .ok (.iconst 5, 1) := by decide +kernel
theorem dL_law_106 : decode cL_law 106 = .ok (.if_icmp .lt 21, 3) := by decide +kernel
theorem dL_law_109 : decode cL_law 109 = .ok (.aload 9, 2) := by decide +kernel
theorem dL_law_111 : decode cL_law 111 = .ok (.iconst 3, 1) := by decide +kernel
theorem dL_law_112 : decode cL_law 112 = .ok (.iaload, 1) := by decide +kernel
theorem dL_law_113 : decode cL_law 113 = .ok (.bipush 12, 2) := by decide +kernel
theorem dL_law_115 : decode cL_law 115 = .ok (.if_icmp .ge 32, 3) := by decide +kernel
theorem dL_law_118 : decode cL_law 118 = .ok (.iload 12, 2) := by decide +kernel
theorem dL_law_120 : decode cL_law 120 = .ok (.iconst 4, 1) := by decide +kernel
theorem dL_law_121 : decode cL_law 121 = .ok (.invokestatic 81, 3) := by decide +kernel
theorem dL_law_124 : decode cL_law 124 = .ok (.ifCond .ne 23, 3) := by decide +kernel
theorem dL_law_127 : decode cL_law 127 = .ok (.aload_n 1, 1) := by decide +kernel
theorem dL_law_128 : decode cL_law 128 = .ok (.iload 12, 2) := by decide +kernel
theorem dL_law_130 : decode cL_law 130 = .ok (.iconst 3, 1) := by decide +kernel
theorem dL_law_131 : decode cL_law 131 = .ok (.ishr, 1) := by decide +kernel
theorem dL_law_132 : decode cL_law 132 = .ok (.aload_n 2, 1) := by decide +kernel
theorem dL_law_133 : decode cL_law 133 = .ok (.aload 5, 2) := by decide +kernel
theorem dL_law_135 : decode cL_law 135 = .ok (.aload 6, 2) := by decide +kernel
theorem dL_law_137 : decode cL_law 137 = .ok (.aload 9, 2) := by decide +kernel
theorem dL_law_139 : decode cL_law 139 = .ok (.invokestatic 104, 3) := by decide +kernel
theorem dL_law_142 : decode cL_law 142 = .ok (.istore 13, 2) := by decide +kernel
theorem dL_law_144 : decode cL_law 144 = .ok (.goto 94, 3) := by decide +kernel
theorem dL_law_147 : decode cL_law 147 = .ok (.iload 12, 2) := by decide +kernel
theorem dL_law_149 : decode cL_law 149 = .ok (.bipush 9, 2) := by decide +kernel
theorem dL_law_151 : decode cL_law 151 = .ok (.invokestatic 81, 3) := by decide +kernel
theorem dL_law_154 : decode cL_law 154 = .ok (.iconst 1, 1) := by decide +kernel
theorem dL_law_155 : decode cL_law 155 = .ok (.if_icmp .ne 65, 3) := by decide +kernel
theorem dL_law_158 : decode cL_law 158 = .ok (.aload 9, 2) := by decide +kernel
theorem dL_law_160 : decode cL_law 160 = .ok (.iconst 4, 1) := by decide +kernel
theorem dL_law_161 : decode cL_law 161 = .ok (.iaload, 1) := by decide +kernel
theorem dL_law_162 : decode cL_law 162 = .ok (.istore 14, 2) := by decide +kernel
theorem dL_law_164 : decode cL_law 164 = .ok (.aload 9, 2) := by decide +kernel
theorem dL_law_166 : decode cL_law 166 = .ok (.iconst 4, 1) := by decide +kernel
theorem dL_law_167 : decode cL_law 167 = .ok (.iconst 1, 1) := by decide +kernel
theorem dL_law_168 : decode cL_law 168 = .ok (.iload 12, 2) := by decide +kernel
theorem dL_law_170 : decode cL_law 170 = .ok (.iconst 5, 1) := by decide +kernel
theorem dL_law_171 : decode cL_law 171 = .ok (.ishr, 1) := by decide +kernel
theorem dL_law_172 : decode cL_law 172 = .ok (.iload 12, 2) := by decide +kernel
theorem dL_law_174 : decode cL_law 174 = .ok (.bipush 14, 2) := by decide +kernel
theorem dL_law_176 : decode cL_law 176 = .ok (.ishr, 1) := by decide +kernel
theorem dL_law_177 : decode cL_law 177 = .ok (.iconst 2, 1) := by decide +kernel
theorem dL_law_178 : decode cL_law 178 = .ok (.invokestatic 81, 3) := by decide +kernel
theorem dL_law_181 : decode cL_law 181 = .ok (.ifCond .ne 9, 3) := by decide +kernel
theorem dL_law_184 : decode cL_law 184 = .ok (.sipush 300, 3) := by decide +kernel
theorem dL_law_187 : decode cL_law 187 = .ok (.goto 5, 3) := by decide +kernel
theorem dL_law_190 : decode cL_law 190 = .ok (.bipush 60, 2) := by decide +kernel
theorem dL_law_192 : decode cL_law 192 = .ok (.invokestatic 81, 3) := by decide +kernel
theorem dL_law_195 : decode cL_law 195 = .ok (.iadd, 1) := by decide +kernel
theorem dL_law_196 : decode cL_law 196 = .ok (.iastore, 1) := by decide +kernel
theorem dL_law_197 : decode cL_law 197 = .ok (.aload_n 1, 1) := by decide +kernel
theorem dL_law_198 : decode cL_law 198 = .ok (.aload 9, 2) := by decide +kernel
theorem dL_law_200 : decode cL_law 200 = .ok (.iconst 4, 1) := by decide +kernel
theorem dL_law_201 : decode cL_law 201 = .ok (.iaload, 1) := by decide +kernel
theorem dL_law_202 : decode cL_law 202 = .ok (.invokevirtual 108, 3) := by decide +kernel
theorem dL_law_205 : decode cL_law 205 = .ok (.iload 14, 2) := by decide +kernel
theorem dL_law_207 : decode cL_law 207 = .ok (.if_icmp .ne 7, 3) := by decide +kernel
theorem dL_law_210 : decode cL_law 210 = .ok (.iconst 1, 1) := by decide +kernel
theorem dL_law_211 : decode cL_law 211 = .ok (.goto 4, 3) := by decide +kernel
theorem dL_law_214 : decode cL_law 214 = .ok (.iconst 0, 1) := by decide +kernel
theorem dL_law_215 : decode cL_law 215 = .ok (.istore 13, 2) := by decide +kernel
theorem dL_law_217 : decode cL_law 217 = .ok (.goto 21, 3) := by decide +kernel
theorem dL_law_220 : decode cL_law 220 = .ok (.aload_n 1, 1) := by decide +kernel
theorem dL_law_221 : decode cL_law 221 = .ok (.iload 12, 2) := by decide +kernel
theorem dL_law_223 : decode cL_law 223 = .ok (.iconst 5, 1) := by decide +kernel
theorem dL_law_224 : decode cL_law 224 = .ok (.ishr, 1) := by decide +kernel
theorem dL_law_225 : decode cL_law 225 = .ok (.aload_n 2, 1) := by decide +kernel
theorem dL_law_226 : decode cL_law 226 = .ok (.aload_n 3, 1) := by decide +kernel
theorem dL_law_227 : decode cL_law 227 = .ok (.aload 4, 2) := by decide +kernel
theorem dL_law_229 : decode cL_law 229 = .ok (.aload 5, 2) := by decide +kernel
theorem dL_law_231 : decode cL_law 231 = .ok (.aload 9, 2) := by decide +kernel
theorem dL_law_233 : decode cL_law 233 = .ok (.invokestatic 111, 3) := by decide +kernel
theorem dL_law_236 : decode cL_law 236 = .ok (.istore 13, 2) := by decide +kernel
theorem dL_law_238 : decode cL_law 238 = .ok (.aload_n 2, 1) := by decide +kernel
theorem dL_law_239 : decode cL_law 239 = .ok (.aload_n 3, 1) := by decide +kernel
theorem dL_law_240 : decode cL_law 240 = .ok (.aload 4, 2) := by decide +kernel
theorem dL_law_242 : decode cL_law 242 = .ok (.aload 5, 2) := by decide +kernel
theorem dL_law_244 : decode cL_law 244 = .ok (.aload 6, 2) := by decide +kernel
theorem dL_law_246 : decode cL_law 246 = .ok (.aload 7, 2) := by decide +kernel
theorem dL_law_248 : decode cL_law 248 = .ok (.aload 8, 2) := by decide +kernel
theorem dL_law_250 : decode cL_law 250 = .ok (.aload 9, 2) := by decide +kernel
theorem dL_law_252 : decode cL_law 252 = .ok (.aload 10, 2) := by decide +kernel
theorem dL_law_254 : decode cL_law 254 = .ok (.invokestatic 115, 3) := by decide +kernel
theorem dL_law_257 : decode cL_law 257 = .ok (.iload 13, 2) := by decide +kernel
theorem dL_law_259 : decode cL_law 259 = .ok (.ifCond .eq 19, 3) := by decide +kernel
theorem dL_law_262 : decode cL_law 262 = .ok (.aload_n 1, 1) := by decide +kernel
theorem dL_law_263 : decode cL_law 263 = .ok (.aload_n 2, 1) := by decide +kernel
theorem dL_law_264 : decode cL_law 264 = .ok (.aload 4, 2) := by decide +kernel
theorem dL_law_266 : decode cL_law 266 = .ok (.aload 7, 2) := by decide +kernel
theorem dL_law_268 : decode cL_law 268 = .ok (.aload 9, 2) := by decide +kernel
theorem dL_law_270 : decode cL_law 270 = .ok (.aload 10, 2) := by decide +kernel
theorem dL_law_272 : decode cL_law 272 = .ok (.invokestatic 119, 3) := by decide +kernel
theorem dL_law_275 : decode cL_law 275 = .ok (.ifCond .ne 5, 3) := by decide +kernel
theorem dL_law_278 : decode cL_law 278 = .ok (.iconst 0, 1) := by decide +kernel
theorem dL_law_279 : decode cL_law 279 = .ok (.ireturn, 1) := by decide +kernel
theorem dL_law_280 : decode cL_law 280 = .ok (.iinc 11 1, 3) := by decide +kernel
theorem dL_law_283 : decode cL_law 283 = .ok (.goto (-198), 3) := by decide +kernel
theorem dL_law_286 : decode cL_law 286 = .ok (.iconst 1, 1) := by decide +kernel
theorem dL_law_287 : decode cL_law 287 = .ok (.ireturn, 1) := by decide +kernel
