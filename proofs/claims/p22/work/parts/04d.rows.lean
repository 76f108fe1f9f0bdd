theorem dL_holds_50 : decode cL_holds 50 = .ok (.iconst 0, 1) := by decide +kernel
theorem dL_holds_51 : decode cL_holds 51 = .ok (.iload 5, 2) := by decide +kernel
theorem dL_holds_53 : decode cL_holds 53 = .ok (.iconst 5, 1) := by decide +kernel
theorem dL_holds_54 : decode cL_holds 54 = .ok (.if_icmp .ne 7, 3) := by decide +kernel
theorem dL_holds_57 : decode cL_holds 57 = .ok (.iconst 1, 1) := by decide +kernel
theorem dL_holds_58 : decode cL_holds 58 = .ok (.goto 4, 3) := by decide +kernel
theorem dL_holds_61 : decode cL_holds 61 = .ok (.iconst 0, 1) := by decide +kernel
theorem dL_holds_62 : decode cL_holds 62 = .ok (.if_icmp .ne 42, 3) := by decide +kernel
theorem dL_holds_65 : decode cL_holds 65 = .ok (.iload 6, 2) := by decide +kernel
theorem dL_holds_67 : decode cL_holds 67 = .ok (.aload_n 1, 1) := by decide +kernel
theorem dL_holds_68 : decode cL_holds 68 = .ok (.bipush 40, 2) := by decide +kernel
theorem dL_holds_70 : decode cL_holds 70 = .ok (.iaload, 1) := by decide +kernel
theorem dL_holds_71 : decode cL_holds 71 = .ok (.if_icmp .ge 33, 3) := by decide +kernel
theorem dL_holds_74 : decode cL_holds 74 = .ok (.aload_n 0, 1) := by decide +kernel
theorem dL_holds_75 : decode cL_holds 75 = .ok (.iload 4, 2) := by decide +kernel
theorem dL_holds_77 : decode cL_holds 77 = .ok (.invokestatic 74, 3) := by decide +kernel
theorem dL_holds_80 : decode cL_holds 80 = .ok (.bipush (-4), 2) := by decide +kernel
theorem dL_holds_82 : decode cL_holds 82 = .ok (.if_icmp .ne 7, 3) := by decide +kernel
theorem dL_holds_85 : decode cL_holds 85 = .ok (.iconst 1, 1) := by decide +kernel
theorem dL_holds_86 : decode cL_holds 86 = .ok (.goto 4, 3) := by decide +kernel
theorem dL_holds_89 : decode cL_holds 89 = .ok (.iconst 0, 1) := by decide +kernel
theorem dL_holds_90 : decode cL_holds 90 = .ok (.iload 5, 2) := by decide +kernel
theorem dL_holds_92 : decode cL_holds 92 = .ok (.iconst 2, 1) := by decide +kernel
theorem dL_holds_93 : decode cL_holds 93 = .ok (.if_icmp .ne 7, 3) := by decide +kernel
theorem dL_holds_96 : decode cL_holds 96 = .ok (.iconst 1, 1) := by decide +kernel
theorem dL_holds_97 : decode cL_holds 97 = .ok (.goto 4, 3) := by decide +kernel
theorem dL_holds_100 : decode cL_holds 100 = .ok (.iconst 0, 1) := by decide +kernel
theorem dL_holds_101 : decode cL_holds 101 = .ok (.if_icmp .ne 5, 3) := by decide +kernel
theorem dL_holds_104 : decode cL_holds 104 = .ok (.iconst 0, 1) := by decide +kernel
theorem dL_holds_105 : decode cL_holds 105 = .ok (.ireturn, 1) := by decide +kernel
theorem dL_holds_106 : decode cL_holds 106 = .ok (.iload 6, 2) := by decide +kernel
theorem dL_holds_108 : decode cL_holds 108 = .ok (.ifCond .lt 33, 3) := by decide +kernel
theorem dL_holds_111 : decode cL_holds 111 = .ok (.aload_n 1, 1) := by decide +kernel
theorem dL_holds_112 : decode cL_holds 112 = .ok (.iload 6, 2) := by decide +kernel
theorem dL_holds_114 : decode cL_holds 114 = .ok (.iaload, 1) := by decide +kernel
theorem dL_holds_115 : decode cL_holds 115 = .ok (.aload_n 2, 1) := by decide +kernel
theorem dL_holds_116 : decode cL_holds 116 = .ok (.iload 4, 2) := by decide +kernel
theorem dL_holds_118 : decode cL_holds 118 = .ok (.iaload, 1) := by decide +kernel
theorem dL_holds_119 : decode cL_holds 119 = .ok (.if_icmp .eq 20, 3) := by decide +kernel
theorem dL_holds_122 : decode cL_holds 122 = .ok (.aload_n 1, 1) := by decide +kernel
theorem dL_holds_123 : decode cL_holds 123 = .ok (.bipush 20, 2) := by decide +kernel
theorem dL_holds_125 : decode cL_holds 125 = .ok (.iload 6, 2) := by decide +kernel
theorem dL_holds_127 : decode cL_holds 127 = .ok (.iadd, 1) := by decide +kernel
theorem dL_holds_128 : decode cL_holds 128 = .ok (.iaload, 1) := by decide +kernel
theorem dL_holds_129 : decode cL_holds 129 = .ok (.aload_n 2, 1) := by decide +kernel
theorem dL_holds_130 : decode cL_holds 130 = .ok (.bipush 20, 2) := by decide +kernel
theorem dL_holds_132 : decode cL_holds 132 = .ok (.iload 4, 2) := by decide +kernel
theorem dL_holds_134 : decode cL_holds 134 = .ok (.iadd, 1) := by decide +kernel
theorem dL_holds_135 : decode cL_holds 135 = .ok (.iaload, 1) := by decide +kernel
theorem dL_holds_136 : decode cL_holds 136 = .ok (.if_icmp .eq 5, 3) := by decide +kernel
theorem dL_holds_139 : decode cL_holds 139 = .ok (.iconst 0, 1) := by decide +kernel
theorem dL_holds_140 : decode cL_holds 140 = .ok (.ireturn, 1) := by decide +kernel
theorem dL_holds_141 : decode cL_holds 141 = .ok (.iload 5, 2) := by decide +kernel
theorem dL_holds_143 : decode cL_holds 143 = .ok (.ifCond .le 63, 3) := by decide +kernel
theorem dL_holds_146 : decode cL_holds 146 = .ok (.iload 5, 2) := by decide +kernel
theorem dL_holds_148 : decode cL_holds 148 = .ok (.iconst 4, 1) := by decide +kernel
theorem dL_holds_149 : decode cL_holds 149 = .ok (.if_icmp .ge 57, 3) := by decide +kernel
theorem dL_holds_152 : decode cL_holds 152 = .ok (.iload_n 3, 1) := by decide +kernel
theorem dL_holds_153 : decode cL_holds 153 = .ok (.iload 6, 2) := by decide +kernel
theorem dL_holds_155 : decode cL_holds 155 = .ok (.ishr, 1) := by decide +kernel
theorem dL_holds_156 : decode cL_holds 156 = .ok (.iconst 1, 1) := by decide +kernel
theorem dL_holds_157 : decode cL_holds 157 = .ok (.iand, 1) := by decide +kernel
theorem dL_holds_158 : decode cL_holds 158 = .ok (.iconst 1, 1) := by decide +kernel
theorem dL_holds_159 : decode cL_holds 159 = .ok (.if_icmp .eq 38, 3) := by decide +kernel
theorem dL_holds_162 : decode cL_holds 162 = .ok (.aload_n 0, 1) := by decide +kernel
theorem dL_holds_163 : decode cL_holds 163 = .ok (.iload 6, 2) := by decide +kernel
theorem dL_holds_165 : decode cL_holds 165 = .ok (.invokevirtual 66, 3) := by decide +kernel
theorem dL_holds_168 : decode cL_holds 168 = .ok (.ifCond .ne 29, 3) := by decide +kernel
theorem dL_holds_171 : decode cL_holds 171 = .ok (.aload_n 0, 1) := by decide +kernel
theorem dL_holds_172 : decode cL_holds 172 = .ok (.iload 6, 2) := by decide +kernel
theorem dL_holds_174 : decode cL_holds 174 = .ok (.invokevirtual 60, 3) := by decide +kernel
theorem dL_holds_177 : decode cL_holds 177 = .ok (.iload 5, 2) := by decide +kernel
theorem dL_holds_179 : decode cL_holds 179 = .ok (.iconst 1, 1) := by decide +kernel
theorem dL_holds_180 : decode cL_holds 180 = .ok (.if_icmp .ne 10, 3) := by decide +kernel
theorem dL_holds_183 : decode cL_holds 183 = .ok (.aload_n 1, 1) := by decide +kernel
theorem dL_holds_184 : decode cL_holds 184 = .ok (.iload 6, 2) := by decide +kernel
theorem dL_holds_186 : decode cL_holds 186 = .ok (.iaload, 1) := by decide +kernel
theorem dL_holds_187 : decode cL_holds 187 = .ok (.goto 7, 3) := by decide +kernel
theorem dL_holds_190 : decode cL_holds 190 = .ok (.aload_n 2, 1) := by decide +kernel
theorem dL_holds_191 : decode cL_holds 191 = .ok (.iload 4, 2) := by decide +kernel
theorem dL_holds_193 : decode cL_holds 193 = .ok (.iaload, 1) := by decide +kernel
theorem dL_holds_194 : decode cL_holds 194 = .ok (.if_icmp .eq 5, 3) := by decide +kernel
theorem dL_holds_197 : decode cL_holds 197 = .ok (.iconst 0, 1) := by decide +kernel
theorem dL_holds_198 : decode cL_holds 198 = .ok (.ireturn, 1) := by decide +kernel
theorem dL_holds_199 : decode cL_holds 199 = .ok (.iload_n 3, 1) := by decide +kernel
theorem dL_holds_200 : decode cL_holds 200 = .ok (.iconst 1, 1) := by decide +kernel
theorem dL_holds_201 : decode cL_holds 201 = .ok (.iload 6, 2) := by decide +kernel
theorem dL_holds_203 : decode cL_holds 203 = .ok (.ishl, 1) := by decide +kernel
theorem dL_holds_204 : decode cL_holds 204 = .ok (.ior, 1) := by decide +kernel
theorem dL_holds_205 : decode cL_holds 205 = .ok (.istore_n 3, 1) := by decide +kernel
theorem dL_holds_206 : decode cL_holds 206 = .ok (.iinc 4 1, 3) := by decide +kernel
theorem dL_holds_209 : decode cL_holds 209 = .ok (.goto (-204), 3) := by decide +kernel
theorem dL_holds_212 : decode cL_holds 212 = .ok (.iconst 0, 1) := by decide +kernel
theorem dL_holds_213 : decode cL_holds 213 = .ok (.istore 4, 2) := by decide +kernel
theorem dL_holds_215 : decode cL_holds 215 = .ok (.iload 4, 2) := by decide +kernel
theorem dL_holds_217 : decode cL_holds 217 = .ok (.aload_n 1, 1) := by decide +kernel
theorem dL_holds_218 : decode cL_holds 218 = .ok (.bipush 40, 2) := by decide +kernel
theorem dL_holds_220 : decode cL_holds 220 = .ok (.iaload, 1) := by decide +kernel
theorem dL_holds_221 : decode cL_holds 221 = .ok (.if_icmp .ge 53, 3) := by decide +kernel
theorem dL_holds_224 : decode cL_holds 224 = .ok (.aload_n 0, 1) := by decide +kernel
theorem dL_holds_225 : decode cL_holds 225 = .ok (.iload 4, 2) := by decide +kernel
theorem dL_holds_227 : decode cL_holds 227 = .ok (.invokevirtual 63, 3) := by decide +kernel
theorem dL_holds_230 : decode cL_holds 230 = .ok (.istore 5, 2) := by decide +kernel
theorem dL_holds_232 : decode cL_holds 232 = .ok (.iload_n 3, 1) := by decide +kernel
theorem dL_holds_233 : decode cL_holds 233 = .ok (.iload 4, 2) := by decide +kernel
theorem dL_holds_235 : decode cL_holds 235 = .ok (.ishr, 1) := by decide +kernel
theorem dL_holds_236 : decode cL_holds 236 = .ok (.iconst 1, 1) := by decide +kernel
theorem dL_holds_237 : decode cL_holds 237 = .ok (.iand, 1) := by decide +kernel
theorem dL_holds_238 : decode cL_holds 238 = .ok (.ifCond .ne 16, 3) := by decide +kernel
theorem dL_holds_241 : decode cL_holds 241 = .ok (.aload_n 0, 1) := by decide +kernel
theorem dL_holds_242 : decode cL_holds 242 = .ok (.iload 4, 2) := by decide +kernel
theorem dL_holds_244 : decode cL_holds 244 = .ok (.invokevirtual 60, 3) := by decide +kernel
theorem dL_holds_247 : decode cL_holds 247 = .ok (.aload_n 1, 1) := by decide +kernel
theorem dL_holds_248 : decode cL_holds 248 = .ok (.iload 4, 2) := by decide +kernel
theorem dL_holds_250 : decode cL_holds 250 = .ok (.iaload, 1) := by decide +kernel
theorem dL_holds_251 : decode cL_holds 251 = .ok (.if_icmp .ne 15, 3) := by decide +kernel
theorem dL_holds_254 : decode cL_holds 254 = .ok (.iload 5, 2) := by decide +kernel
theorem dL_holds_256 : decode cL_holds 256 = .ok (.iconst (-1), 1) := by decide +kernel
theorem dL_holds_257 : decode cL_holds 257 = .ok (.if_icmp .lt 9, 3) := by decide +kernel
theorem dL_holds_260 : decode cL_holds 260 = .ok (.iload 5, 2) := by decide +kernel
theorem dL_holds_262 : decode cL_holds 262 = .ok (.iconst 1, 1) := by decide +kernel
theorem dL_holds_263 : decode cL_holds 263 = .ok (.if_icmp .le 5, 3) := by decide +kernel
theorem dL_holds_266 : decode cL_holds 266 = .ok (.iconst 0, 1) := by decide +kernel
theorem dL_holds_267 : decode cL_holds 267 = .ok (.ireturn, 1) := by decide +kernel
theorem dL_holds_268 : decode cL_holds 268 = .ok (.iinc 4 1, 3) := by decide +kernel
theorem dL_holds_271 : decode cL_holds 271 = .ok (.goto (-56), 3) := by decide +kernel
theorem dL_holds_274 : decode cL_holds 274 = .ok (.iconst 0, 1) := by decide +kernel
theorem dL_holds_275 : decode cL_holds 275 = .ok (.istore 4, 2) := by decide +kernel
theorem dL_holds_277 : decode cL_holds 277 = .ok (.iload 4, 2) := by decide +kernel
theorem dL_holds_279 : decode cL_holds 279 = .ok (.bipush 36, 2) := by decide +kernel
theorem dL_holds_281 : decode cL_holds 281 = .ok (.if_icmp .ge 68, 3) := by decide +kernel
theorem dL_holds_284 : decode cL_holds 284 = .ok (.aload_n 0, 1) := by decide +kernel
theorem dL_holds_285 : decode cL_holds 285 = .ok (.iload 4, 2) := by decide +kernel
theorem dL_holds_287 : decode cL_holds 287 = .ok (.bipush 6, 2) := by decide +kernel
theorem dL_holds_289 : decode cL_holds 289 = .ok (.idiv, 1) := by decide +kernel
theorem dL_holds_290 : decode cL_holds 290 = .ok (.iload 4, 2) := by decide +kernel
theorem dL_holds_292 : decode cL_holds 292 = .ok (.bipush 6, 2) := by decide +kernel
theorem dL_holds_294 : decode cL_holds 294 = .ok (.irem, 1) := by decide +kernel
theorem dL_holds_295 : decode cL_holds 295 = .ok (.invokestatic 85, 3) := by decide +kernel
theorem dL_holds_298 : decode cL_holds 298 = .ok (.aload_n 0, 1) := by decide +kernel
theorem dL_holds_299 : decode cL_holds 299 = .ok (.iload 4, 2) := by decide +kernel
theorem dL_holds_301 : decode cL_holds 301 = .ok (.bipush 6, 2) := by decide +kernel
theorem dL_holds_303 : decode cL_holds 303 = .ok (.irem, 1) := by decide +kernel
theorem dL_holds_304 : decode cL_holds 304 = .ok (.iload 4, 2) := by decide +kernel
theorem dL_holds_306 : decode cL_holds 306 = .ok (.bipush 6, 2) := by decide +kernel
theorem dL_holds_308 : decode cL_holds 308 = .ok (.idiv, 1) := by decide +kernel
theorem dL_holds_309 : decode cL_holds 309 = .ok (.invokestatic 85, 3) := by decide +kernel
theorem dL_holds_312 : decode cL_holds 312 = .ok (.ineg, 1) := by decide +kernel
theorem dL_holds_313 : decode cL_holds 313 = .ok (.if_icmp .ne 28, 3) := by decide +kernel
theorem dL_holds_316 : decode cL_holds 316 = .ok (.aload_n 0, 1) := by decide +kernel
theorem dL_holds_317 : decode cL_holds 317 = .ok (.iload 4, 2) := by decide +kernel
theorem dL_holds_319 : decode cL_holds 319 = .ok (.bipush 6, 2) := by decide +kernel
theorem dL_holds_321 : decode cL_holds 321 = .ok (.irem, 1) := by decide +kernel
theorem dL_holds_322 : decode cL_holds 322 = .ok (.invokevirtual 79, 3) := by decide +kernel
theorem dL_holds_325 : decode cL_holds 325 = .ok (.ifCond .lt 16, 3) := by decide +kernel
theorem dL_holds_328 : decode cL_holds 328 = .ok (.aload_n 0, 1) := by decide +kernel
theorem dL_holds_329 : decode cL_holds 329 = .ok (.iload 4, 2) := by decide +kernel
theorem dL_holds_331 : decode cL_holds 331 = .ok (.bipush 6, 2) := by decide +kernel
theorem dL_holds_333 : decode cL_holds 333 = .ok (.irem, 1) := by decide +kernel
theorem dL_holds_334 : decode cL_holds 334 = .ok (.invokevirtual 79, 3) := by decide +kernel
theorem dL_holds_337 : decode cL_holds 337 = .ok (.iconst 2, 1) := by decide +kernel
theorem dL_holds_338 : decode cL_holds 338 = .ok (.if_icmp .le 5, 3) := by decide +kernel
theorem dL_holds_341 : decode cL_holds 341 = .ok (.iconst 0, 1) := by decide +kernel
theorem dL_holds_342 : decode cL_holds 342 = .ok (.ireturn, 1) := by decide +kernel
theorem dL_holds_343 : decode cL_holds 343 = .ok (.iinc 4 1, 3) := by decide +kernel
theorem dL_holds_346 : decode cL_holds 346 = .ok (.goto (-69), 3) := by decide +kernel
theorem dL_holds_349 : decode cL_holds 349 = .ok (.aload_n 0, 1) := by decide +kernel
theorem dL_holds_350 : decode cL_holds 350 = .ok (.aload_n 2, 1) := by decide +kernel
theorem dL_holds_351 : decode cL_holds 351 = .ok (.bipush 40, 2) := by decide +kernel
theorem dL_holds_353 : decode cL_holds 353 = .ok (.iaload, 1) := by decide +kernel
theorem dL_holds_354 : decode cL_holds 354 = .ok (.invokestatic 74, 3) := by decide +kernel
theorem dL_holds_357 : decode cL_holds 357 = .ok (.bipush (-2), 2) := by decide +kernel
theorem dL_holds_359 : decode cL_holds 359 = .ok (.if_icmp .ne 17, 3) := by decide +kernel
theorem dL_holds_362 : decode cL_holds 362 = .ok (.aload_n 0, 1) := by decide +kernel
theorem dL_holds_363 : decode cL_holds 363 = .ok (.iconst (-1), 1) := by decide +kernel
theorem dL_holds_364 : decode cL_holds 364 = .ok (.invokestatic 89, 3) := by decide +kernel
theorem dL_holds_367 : decode cL_holds 367 = .ok (.bipush (-2), 2) := by decide +kernel
theorem dL_holds_369 : decode cL_holds 369 = .ok (.if_icmp .ne 7, 3) := by decide +kernel
theorem dL_holds_372 : decode cL_holds 372 = .ok (.iconst 1, 1) := by decide +kernel
theorem dL_holds_373 : decode cL_holds 373 = .ok (.goto 4, 3) := by decide +kernel
theorem dL_holds_376 : decode cL_holds 376 = .ok (.iconst 0, 1) := by decide +kernel
theorem dL_holds_377 : decode cL_holds 377 = .ok (.ireturn, 1) := by decide +kernel
theorem dL_goesOn_0 : decode cL_goesOn 0 = .ok (.iconst 0, 1) := by decide +kernel
theorem dL_goesOn_1 : decode cL_goesOn 1 = .ok (.istore_n 3, 1) := by decide +kernel
theorem dL_goesOn_2 : decode cL_goesOn 2 = .ok (.iload_n 3, 1) := by decide +kernel
theorem dL_goesOn_3 : decode cL_goesOn 3 = .ok (.iload_n 2, 1) := by decide +kernel
theorem dL_goesOn_4 : decode cL_goesOn 4 = .ok (.if_icmp .ge 65, 3) := by decide +kernel
theorem dL_goesOn_7 : decode cL_goesOn 7 = .ok (.aload_n 0, 1) := by decide +kernel
theorem dL_goesOn_8 : decode cL_goesOn 8 = .ok (.bipush 10, 2) := by decide +kernel
theorem dL_goesOn_10 : decode cL_goesOn 10 = .ok (.iload_n 3, 1) := by decide +kernel
theorem dL_goesOn_11 : decode cL_goesOn 11 = .ok (.iadd, 1) := by decide +kernel
theorem dL_goesOn_12 : decode cL_goesOn 12 = .ok (.iaload, 1) := by decide +kernel
theorem dL_goesOn_13 : decode cL_goesOn 13 = .ok (.sipush 20000, 3) := by decide +kernel
theorem dL_goesOn_16 : decode cL_goesOn 16 = .ok (.iadd, 1) := by decide +kernel
theorem dL_goesOn_17 : decode cL_goesOn 17 = .ok (.ldc 70, 2) := by decide +kernel
theorem dL_goesOn_19 : decode cL_goesOn 19 = .ok (.idiv, 1) := by decide +kernel
theorem dL_goesOn_20 : decode cL_goesOn 20 = .ok (.istore 4, 2) := by decide +kernel
theorem dL_goesOn_22 : decode cL_goesOn 22 = .ok (.aload_n 1, 1) := by decide +kernel
theorem dL_goesOn_23 : decode cL_goesOn 23 = .ok (.bipush 10, 2) := by decide +kernel
theorem dL_goesOn_25 : decode cL_goesOn 25 = .ok (.iload_n 3, 1) := by decide +kernel
theorem dL_goesOn_26 : decode cL_goesOn 26 = .ok (.iadd, 1) := by decide +kernel
theorem dL_goesOn_27 : decode cL_goesOn 27 = .ok (.iaload, 1) := by decide +kernel
theorem dL_goesOn_28 : decode cL_goesOn 28 = .ok (.sipush 20000, 3) := by decide +kernel
theorem dL_goesOn_31 : decode cL_goesOn 31 = .ok (.iadd, 1) := by decide +kernel
theorem dL_goesOn_32 : decode cL_goesOn 32 = .ok (.ldc 70, 2) := by decide +kernel
theorem dL_goesOn_34 : decode cL_goesOn 34 = .ok (.idiv, 1) := by decide +kernel
theorem dL_goesOn_35 : decode cL_goesOn 35 = .ok (.istore 5, 2) := by decide +kernel
theorem dL_goesOn_37 : decode cL_goesOn 37 = .ok (.iload 5, 2) := by decide +kernel
theorem dL_goesOn_39 : decode cL_goesOn 39 = .ok (.iload 4, 2) := by decide +kernel
theorem dL_goesOn_41 : decode cL_goesOn 41 = .ok (.if_icmp .lt 20, 3) := by decide +kernel
theorem dL_goesOn_44 : decode cL_goesOn 44 = .ok (.iload 5, 2) := by decide +kernel
theorem dL_goesOn_46 : decode cL_goesOn 46 = .ok (.iconst 5, 1) := by decide +kernel
theorem dL_goesOn_47 : decode cL_goesOn 47 = .ok (.if_icmp .ne 16, 3) := by decide +kernel
theorem dL_goesOn_50 : decode cL_goesOn 50 = .ok (.iload 4, 2) := by decide +kernel
theorem dL_goesOn_52 : decode cL_goesOn 52 = .ok (.ifCond .le 11, 3) := by decide +kernel
theorem dL_goesOn_55 : decode cL_goesOn 55 = .ok (.iload 4, 2) := by decide +kernel
theorem dL_goesOn_57 : decode cL_goesOn 57 = .ok (.iconst 5, 1) := by decide +kernel
theorem dL_goesOn_58 : decode cL_goesOn 58 = .ok (.if_icmp .ge 5, 3) := by decide +kernel
theorem dL_goesOn_61 : decode cL_goesOn 61 = .ok (.iconst 0, 1) := by decide +kernel
theorem dL_goesOn_62 : decode cL_goesOn 62 = .ok (.ireturn, 1) := by decide +kernel
theorem dL_goesOn_63 : decode cL_goesOn 63 = .ok (.iinc 3 1, 3) := by decide +kernel
theorem dL_goesOn_66 : decode cL_goesOn 66 = .ok (.goto (-64), 3) := by decide +kernel
theorem dL_goesOn_69 : decode cL_goesOn 69 = .ok (.iconst 1, 1) := by decide +kernel
theorem dL_goesOn_70 : decode cL_goesOn 70 = .ok (.ireturn, 1) := by decide +kernel
set_option maxRecDepth 20000 in
theorem ggL_act_L_low : GoodIn wsL_act wsL_low := goodIn_r _ [4, 5] (by decide +kernel) (by decide +kernel)
set_option maxRecDepth 20000 in
theorem gL_act_L_low : GoodIn wsL_act (va_wsS RL 92 yL_low wsL_low) := goodIn_app (goodIn_of _ (by decide +kernel)) ggL_act_L_low
set_option maxRecDepth 20000 in
theorem ggL_act_L_added : GoodIn wsL_act wsL_added := goodIn_ca (goodIn_ca (goodIn_r _ [8, 9, 10, 11, 12, 13, 14, 15, 16, 17, 18, 19, 20, 21, 22, 23, 24, 25, 26, 27, 28, 29, 30, 31, 32, 33, 34, 35, 36, 37, 38, 39, 40, 41, 42, 43, 44, 45, 46, 47, 48, 49, 50, 51, 52, 53, 54, 55, 56, 57, 58, 59, 60, 61, 62, 63, 64, 65, 66, 67, 68, 69, 70, 71, 72, 73, 74, 75, 76, 77, 78, 79, 80, 81, 82, 83, 84, 290, 291, 292, 293, 294, 295, 296, 297, 298, 299, 300, 301, 302, 303, 304, 305, 306, 307, 308, 309, 310, 311, 312, 313] (by decide +kernel) (by decide +kernel)) (goodIn_sub (fun _ h => List.mem_cons_of_mem _ (List.mem_append_left _ (List.mem_append_left _ (List.mem_append_right _ h)))) (by decide +kernel))) (goodIn_sub (fun _ h => List.mem_cons_of_mem _ (List.mem_append_left _ (List.mem_append_right _ h))) (by decide +kernel))
set_option maxRecDepth 20000 in
theorem gL_act_L_added : GoodIn wsL_act (va_wsS RL 95 yL_added wsL_added) := goodIn_app (goodIn_of _ (by decide +kernel)) ggL_act_L_added
set_option maxRecDepth 20000 in
theorem ggL_act_L_asked : GoodIn wsL_act wsL_asked := goodIn_ca (goodIn_ca (goodIn_r _ [87, 9, 10, 88, 89, 90, 14, 91, 16, 17, 18, 19, 92, 93, 94, 95, 96, 26, 27, 28, 29, 30, 31, 97, 98, 99, 100, 36, 37, 101, 102, 103, 104, 105, 106, 107, 108, 109, 110, 111, 112, 113, 56, 114, 115, 116, 117, 118, 21, 119, 120, 121, 122, 123, 124, 125, 126, 127, 128, 129, 130, 131, 132, 133, 134, 135, 136, 60, 61, 62, 63, 64, 65, 66, 67, 68, 69, 70, 71, 72, 73, 74, 75, 76, 77, 78, 79, 80, 81, 82, 83, 84, 290, 291, 292, 293, 294, 295, 296, 314, 315, 316, 317, 318, 319, 320, 297, 298, 299, 300, 301, 302, 303, 304, 308, 309, 310, 311, 312, 313] (by decide +kernel) (by decide +kernel)) (goodIn_sub (fun _ h => List.mem_cons_of_mem _ (List.mem_append_left _ (List.mem_append_left _ (List.mem_append_right _ h)))) (by decide +kernel))) (goodIn_sub (fun _ h => List.mem_cons_of_mem _ (List.mem_append_left _ (List.mem_append_right _ h))) (by decide +kernel))
set_option maxRecDepth 20000 in
theorem gL_act_L_asked : GoodIn wsL_act (va_wsS RL 98 yL_asked wsL_asked) := goodIn_app (goodIn_of _ (by decide +kernel)) ggL_act_L_asked
set_option maxRecDepth 20000 in
theorem ggL_act_L_harmed : GoodIn wsL_act wsL_harmed := goodIn_ca (goodIn_ca (goodIn_r _ [139, 140, 10, 141, 142, 143, 14, 144, 18, 19, 145, 146, 147, 148, 149, 150, 151, 152, 21, 153, 154, 155, 24, 156, 44, 297, 298, 299, 300, 301, 302, 303, 304, 290, 291, 292, 293, 294, 295, 296] (by decide +kernel) (by decide +kernel)) (goodIn_sub (fun _ h => List.mem_cons_of_mem _ (List.mem_append_left _ (List.mem_append_right _ h))) (by decide +kernel))) (goodIn_sub (fun _ h => List.mem_cons_of_mem _ (List.mem_append_right _ h)) (by decide +kernel))
set_option maxRecDepth 20000 in
theorem gL_act_L_harmed : GoodIn wsL_act (va_wsS RL 101 yL_harmed wsL_harmed) := goodIn_app (goodIn_of _ (by decide +kernel)) ggL_act_L_harmed
set_option maxRecDepth 20000 in
theorem ggL_act_L_looked : GoodIn wsL_act wsL_looked := goodIn_ca (goodIn_ca (goodIn_r _ [159, 140, 10, 160, 161, 162, 14, 163, 18, 19, 164, 147, 148, 149, 150, 151, 152, 21, 165, 166, 167, 168, 169, 146, 56, 25, 153, 154, 155, 24, 156, 44, 170, 171, 172, 49, 173, 174, 27, 28, 297, 298, 299, 300, 301, 302, 303, 304, 290, 291, 292, 293, 294, 295, 296, 305, 306, 307] (by decide +kernel) (by decide +kernel)) (goodIn_sub (fun _ h => List.mem_cons_of_mem _ (List.mem_append_left _ (List.mem_append_right _ h))) (by decide +kernel))) (goodIn_sub (fun _ h => List.mem_cons_of_mem _ (List.mem_append_right _ h)) (by decide +kernel))
set_option maxRecDepth 20000 in
theorem gL_act_L_looked : GoodIn wsL_act (va_wsS RL 104 yL_looked wsL_looked) := goodIn_app (goodIn_of _ (by decide +kernel)) ggL_act_L_looked
set_option maxRecDepth 20000 in
theorem ggL_act_L_mended : GoodIn wsL_act wsL_mended := goodIn_ca (goodIn_ca (goodIn_r _ [177, 140, 10, 178, 179, 180, 14, 181, 18, 19, 169, 146, 147, 148, 149, 150, 151, 152, 21, 182, 183, 184, 24, 185, 41, 39, 42, 52, 53, 54, 55, 56, 57, 58, 59, 60, 61, 62, 63, 64, 65, 66, 67, 68, 69, 70, 71, 72, 36, 37, 73, 74, 75, 76, 77, 78, 79, 80, 81, 82, 83, 84, 297, 298, 299, 300, 301, 302, 303, 304, 290, 291, 292, 293, 294, 295, 296, 308, 309, 310, 311, 312, 313] (by decide +kernel) (by decide +kernel)) (goodIn_sub (fun _ h => List.mem_cons_of_mem _ (List.mem_append_left _ (List.mem_append_right _ h))) (by decide +kernel))) (goodIn_sub (fun _ h => List.mem_cons_of_mem _ (List.mem_append_right _ h)) (by decide +kernel))
set_option maxRecDepth 20000 in
theorem gL_act_L_mended : GoodIn wsL_act (va_wsS RL 107 yL_mended wsL_mended) := goodIn_app (goodIn_of _ (by decide +kernel)) ggL_act_L_mended
set_option maxRecDepth 20000 in
theorem ggL_act_L_renewed : GoodIn wsL_act wsL_renewed := goodIn_ca (goodIn_ca (goodIn_r _ [188, 140, 10, 189, 190, 191, 14, 192, 18, 19, 112, 113, 114, 56, 193, 194, 195, 196, 151, 152, 93, 126, 127, 128, 129, 130, 131, 132, 60, 61, 62, 63, 64, 65, 66, 67, 68, 69, 70, 71, 72, 36, 37, 73, 74, 75, 76, 77, 78, 79, 80, 81, 82, 83, 84, 314, 315, 316, 317, 318, 319, 320, 297, 298, 299, 300, 301, 302, 303, 304, 290, 291, 292, 293, 294, 295, 296, 308, 309, 310, 311, 312, 313] (by decide +kernel) (by decide +kernel)) (goodIn_sub (fun _ h => List.mem_cons_of_mem _ (List.mem_append_left _ (List.mem_append_right _ h))) (by decide +kernel))) (goodIn_sub (fun _ h => List.mem_cons_of_mem _ (List.mem_append_right _ h)) (by decide +kernel))
set_option maxRecDepth 20000 in
theorem gL_act_L_renewed : GoodIn wsL_act (va_wsS RL 110 yL_renewed wsL_renewed) := goodIn_app (goodIn_of _ (by decide +kernel)) ggL_act_L_renewed
set_option maxRecDepth 20000 in
theorem ggL_act_L_recalled : GoodIn wsL_act wsL_recalled := goodIn_ca (goodIn_ca (goodIn_r _ [199, 140, 10, 200, 201, 202, 14, 203, 18, 19, 112, 113, 204, 114, 56, 193, 194, 195, 196, 151, 152, 93, 126, 127, 128, 129, 130, 131, 132, 60, 61, 62, 63, 64, 65, 66, 67, 68, 69, 70, 71, 72, 36, 37, 73, 74, 75, 76, 77, 78, 79, 80, 81, 82, 83, 84, 314, 315, 316, 317, 318, 319, 320, 297, 298, 299, 300, 301, 302, 303, 304, 290, 291, 292, 293, 294, 295, 296, 308, 309, 310, 311, 312, 313] (by decide +kernel) (by decide +kernel)) (goodIn_sub (fun _ h => List.mem_cons_of_mem _ (List.mem_append_left _ (List.mem_append_right _ h))) (by decide +kernel))) (goodIn_sub (fun _ h => List.mem_cons_of_mem _ (List.mem_append_right _ h)) (by decide +kernel))
set_option maxRecDepth 20000 in
theorem gL_act_L_recalled : GoodIn wsL_act (va_wsS RL 113 yL_recalled wsL_recalled) := goodIn_app (goodIn_of _ (by decide +kernel)) ggL_act_L_recalled
set_option maxRecDepth 20000 in
theorem ggL_act_L_back : GoodIn wsL_act wsL_back := goodIn_ca (goodIn_ca (goodIn_r _ [207, 140, 10, 208, 209, 210, 14, 211, 18, 19, 112, 113, 64, 212, 213, 214, 131, 215, 25, 114, 56, 164, 193, 194, 195, 196, 151, 152, 93, 170, 171, 172, 49, 173, 174, 27, 28, 126, 127, 128, 129, 130, 132, 60, 61, 62, 63, 65, 66, 67, 68, 69, 70, 71, 72, 36, 37, 73, 74, 75, 76, 77, 78, 79, 80, 81, 82, 83, 84, 314, 315, 316, 317, 318, 319, 320, 290, 291, 292, 293, 294, 295, 296, 297, 298, 299, 300, 301, 302, 303, 304, 305, 306, 307, 308, 309, 310, 311, 312, 313] (by decide +kernel) (by decide +kernel)) (goodIn_sub (fun _ h => List.mem_cons_of_mem _ (List.mem_append_left _ (List.mem_append_right _ h))) (by decide +kernel))) (goodIn_sub (fun _ h => List.mem_cons_of_mem _ (List.mem_append_right _ h)) (by decide +kernel))
set_option maxRecDepth 20000 in
theorem gL_act_L_back : GoodIn wsL_act (va_wsS RL 116 yL_back wsL_back) := goodIn_app (goodIn_of _ (by decide +kernel)) ggL_act_L_back
set_option maxRecDepth 20000 in
theorem ggL_act_X5_settle : GoodIn wsL_act wsX5_settle := goodIn_r _ [219, 25, 220, 221, 222, 49, 223, 174, 224, 225, 226, 227, 27, 14, 28, 290, 291, 292, 293, 294, 295, 296, 305, 306, 307] (by decide +kernel) (by decide +kernel)
set_option maxRecDepth 20000 in
theorem gL_act_X5_settle : GoodIn wsL_act (wsV RL 119 RX5 yX5_settle wsX5_settle) := goodIn_app (goodIn_of _ (by decide +kernel)) ggL_act_X5_settle
set_option maxRecDepth 20000 in
theorem ggL_act_L_passed : GoodIn wsL_act wsL_passed := goodIn_ca (goodIn_r _ [230, 9, 231, 232, 233, 14, 234, 16, 17, 235, 236, 237, 238, 64, 25, 65, 239, 240, 241, 242, 49, 243, 244, 245, 246, 247, 80, 248, 82, 83, 84, 249, 250, 251, 252, 253, 254, 255, 256, 257, 258, 259, 260, 113, 164, 114, 56, 261, 262, 263, 24, 264, 45, 265, 183, 184, 185, 41, 39, 42, 108, 109, 110, 111, 112, 115, 116, 117, 118, 21, 119, 120, 121, 96, 122, 107, 123, 124, 102, 125, 101, 126, 127, 128, 129, 130, 131, 132, 133, 134, 135, 136, 60, 61, 62, 63, 66, 67, 68, 69, 70, 71, 72, 36, 37, 73, 74, 75, 76, 77, 78, 79, 81, 52, 53, 54, 55, 57, 58, 59, 266, 267, 268, 269, 145, 212, 270, 271, 272, 273, 51, 27, 28, 274, 171, 172, 173, 174, 275, 276, 277, 278, 165, 166, 167, 168, 169, 146, 153, 154, 155, 156, 44, 170, 279, 280, 281, 282, 204, 283, 284, 285, 286, 287, 288, 289, 290, 291, 292, 293, 294, 295, 296, 312, 313, 305, 306, 307, 308, 309, 310, 311, 297, 298, 299, 300, 301, 302, 303, 304, 314, 315, 316, 317, 318, 319, 320] (by decide +kernel) (by decide +kernel)) (goodIn_sub (fun _ h => List.mem_cons_of_mem _ (List.mem_append_left _ (List.mem_append_left _ (List.mem_append_right _ h)))) (by decide +kernel))
set_option maxRecDepth 20000 in
theorem gL_act_L_passed : GoodIn wsL_act (va_wsS RL 122 yL_passed wsL_passed) := goodIn_app (goodIn_of _ (by decide +kernel)) ggL_act_L_passed
theorem dL_act_0 : decode cL_act 0 = .ok (.iload_n 2, 1) := by decide +kernel
theorem dL_act_1 : decode cL_act 1 = .ok (.bipush 7, 2) := by decide +kernel
theorem dL_act_3 : decode cL_act 3 = .ok (.invokestatic 92, 3) := by decide +kernel
theorem dL_act_6 : decode cL_act 6 = .ok (.ifCond .ne 16, 3) := by decide +kernel
theorem dL_act_9 : decode cL_act 9 = .ok (.iload_n 2, 1) := by decide +kernel
theorem dL_act_10 : decode cL_act 10 = .ok (.iconst 3, 1) := by decide +kernel
theorem dL_act_11 : decode cL_act 11 = .ok (.ishr, 1) := by decide +kernel
theorem dL_act_12 : decode cL_act 12 = .ok (.bipush 22, 2) := by decide +kernel
theorem dL_act_14 : decode cL_act 14 = .ok (.invokestatic 92, 3) := by decide +kernel
theorem dL_act_17 : decode cL_act 17 = .ok (.iconst 1, 1) := by decide +kernel
theorem dL_act_18 : decode cL_act 18 = .ok (.isub, 1) := by decide +kernel
theorem dL_act_19 : decode cL_act 19 = .ok (.goto 11, 3) := by decide +kernel
theorem dL_act_22 : decode cL_act 22 = .ok (.iload_n 2, 1) := by decide +kernel
theorem dL_act_23 : decode cL_act 23 = .ok (.iconst 3, 1) := by decide +kernel
theorem dL_act_24 : decode cL_act 24 = .ok (.ishr, 1) := by decide +kernel
theorem dL_act_25 : decode cL_act 25 = .ok (.bipush 6, 2) := by decide +kernel
theorem dL_act_27 : decode cL_act 27 = .ok (.invokestatic 92, 3) := by decide +kernel
theorem dL_act_30 : decode cL_act 30 = .ok (.istore 4, 2) := by decide +kernel
theorem dL_act_32 : decode cL_act 32 = .ok (.iload_n 2, 1) := by decide +kernel
theorem dL_act_33 : decode cL_act 33 = .ok (.bipush 9, 2) := by decide +kernel
theorem dL_act_35 : decode cL_act 35 = .ok (.invokestatic 92, 3) := by decide +kernel
theorem dL_act_38 : decode cL_act 38 = .ok (.ifCond .ne 16, 3) := by decide +kernel
theorem dL_act_41 : decode cL_act 41 = .ok (.iload_n 2, 1) := by decide +kernel
theorem dL_act_42 : decode cL_act 42 = .ok (.iconst 4, 1) := by decide +kernel
theorem dL_act_43 : decode cL_act 43 = .ok (.ishr, 1) := by decide +kernel
theorem dL_act_44 : decode cL_act 44 = .ok (.bipush 22, 2) := by decide +kernel
theorem dL_act_46 : decode cL_act 46 = .ok (.invokestatic 92, 3) := by decide +kernel
theorem dL_act_49 : decode cL_act 49 = .ok (.iconst 1, 1) := by decide +kernel
theorem dL_act_50 : decode cL_act 50 = .ok (.isub, 1) := by decide +kernel
theorem dL_act_51 : decode cL_act 51 = .ok (.goto 11, 3) := by decide +kernel
theorem dL_act_54 : decode cL_act 54 = .ok (.iload_n 2, 1) := by decide +kernel
theorem dL_act_55 : decode cL_act 55 = .ok (.iconst 4, 1) := by decide +kernel
theorem dL_act_56 : decode cL_act 56 = .ok (.ishr, 1) := by decide +kernel
theorem dL_act_57 : decode cL_act 57 = .ok (.bipush 9, 2) := by decide +kernel
theorem dL_act_59 : decode cL_act 59 = .ok (.invokestatic 92, 3) := by decide +kernel
theorem dL_act_62 : decode cL_act 62 = .ok (.istore 5, 2) := by decide +kernel
theorem dL_act_64 : decode cL_act 64 = .ok (.iload_n 3, 1) := by decide +kernel
theorem dL_act_65 : decode cL_act 65 = .ok (.tableswitch 204 0 9 #[55, 106, 106, 157, 164, 171, 178, 185, 192, 199], 55) := by decide +kernel
theorem dL_act_120 : decode cL_act 120 = .ok (.aload_n 0, 1) := by decide +kernel
theorem dL_act_121 : decode cL_act 121 = .ok (.iload_n 2, 1) := by decide +kernel
theorem dL_act_122 : decode cL_act 122 = .ok (.bipush 13, 2) := by decide +kernel
theorem dL_act_124 : decode cL_act 124 = .ok (.invokestatic 92, 3) := by decide +kernel
theorem dL_act_127 : decode cL_act 127 = .ok (.ifCond .ne 8, 3) := by decide +kernel
theorem dL_act_130 : decode cL_act 130 = .ok (.bipush 6, 2) := by decide +kernel
theorem dL_act_132 : decode cL_act 132 = .ok (.goto 11, 3) := by decide +kernel
theorem dL_act_135 : decode cL_act 135 = .ok (.iload_n 2, 1) := by decide +kernel
theorem dL_act_136 : decode cL_act 136 = .ok (.iconst 4, 1) := by decide +kernel
theorem dL_act_137 : decode cL_act 137 = .ok (.ishr, 1) := by decide +kernel
theorem dL_act_138 : decode cL_act 138 = .ok (.bipush 6, 2) := by decide +kernel
theorem dL_act_140 : decode cL_act 140 = .ok (.invokestatic 92, 3) := by decide +kernel
theorem dL_act_143 : decode cL_act 143 = .ok (.iload_n 2, 1) := by decide +kernel
theorem dL_act_144 : decode cL_act 144 = .ok (.bipush 8, 2) := by decide +kernel
theorem dL_act_146 : decode cL_act 146 = .ok (.ishr, 1) := by decide +kernel
theorem dL_act_147 : decode cL_act 147 = .ok (.bipush 17, 2) := by decide +kernel
theorem dL_act_149 : decode cL_act 149 = .ok (.invokestatic 92, 3) := by decide +kernel
theorem dL_act_152 : decode cL_act 152 = .ok (.ifCond .ne 7, 3) := by decide +kernel
theorem dL_act_155 : decode cL_act 155 = .ok (.iconst (-1), 1) := by decide +kernel
theorem dL_act_156 : decode cL_act 156 = .ok (.goto 11, 3) := by decide +kernel
theorem dL_act_159 : decode cL_act 159 = .ok (.iload_n 2, 1) := by decide +kernel
theorem dL_act_160 : decode cL_act 160 = .ok (.bipush 9, 2) := by decide +kernel
theorem dL_act_162 : decode cL_act 162 = .ok (.ishr, 1) := by decide +kernel
theorem dL_act_163 : decode cL_act 163 = .ok (.iconst 2, 1) := by decide +kernel
theorem dL_act_164 : decode cL_act 164 = .ok (.invokestatic 92, 3) := by decide +kernel
theorem dL_act_167 : decode cL_act 167 = .ok (.invokestatic 95, 3) := by decide +kernel
theorem dL_act_170 : decode cL_act 170 = .ok (.ireturn, 1) := by decide +kernel
theorem dL_act_171 : decode cL_act 171 = .ok (.aload_n 0, 1) := by decide +kernel
theorem dL_act_172 : decode cL_act 172 = .ok (.iload_n 2, 1) := by decide +kernel
theorem dL_act_173 : decode cL_act 173 = .ok (.bipush 13, 2) := by decide +kernel
theorem dL_act_175 : decode cL_act 175 = .ok (.invokestatic 92, 3) := by decide +kernel
theorem dL_act_178 : decode cL_act 178 = .ok (.ifCond .ne 7, 3) := by decide +kernel
theorem dL_act_181 : decode cL_act 181 = .ok (.iconst (-1), 1) := by decide +kernel
theorem dL_act_182 : decode cL_act 182 = .ok (.goto 11, 3) := by decide +kernel
theorem dL_act_185 : decode cL_act 185 = .ok (.iload_n 2, 1) := by decide +kernel
theorem dL_act_186 : decode cL_act 186 = .ok (.iconst 4, 1) := by decide +kernel
theorem dL_act_187 : decode cL_act 187 = .ok (.ishr, 1) := by decide +kernel
theorem dL_act_188 : decode cL_act 188 = .ok (.bipush 6, 2) := by decide +kernel
theorem dL_act_190 : decode cL_act 190 = .ok (.invokestatic 92, 3) := by decide +kernel
theorem dL_act_193 : decode cL_act 193 = .ok (.iload_n 2, 1) := by decide +kernel
theorem dL_act_194 : decode cL_act 194 = .ok (.bipush 8, 2) := by decide +kernel
theorem dL_act_196 : decode cL_act 196 = .ok (.ishr, 1) := by decide +kernel
theorem dL_act_197 : decode cL_act 197 = .ok (.bipush 17, 2) := by decide +kernel
theorem dL_act_199 : decode cL_act 199 = .ok (.invokestatic 92, 3) := by decide +kernel
theorem dL_act_202 : decode cL_act 202 = .ok (.ifCond .ne 8, 3) := by decide +kernel
theorem dL_act_205 : decode cL_act 205 = .ok (.bipush 8, 2) := by decide +kernel
theorem dL_act_207 : decode cL_act 207 = .ok (.goto 11, 3) := by decide +kernel
theorem dL_act_210 : decode cL_act 210 = .ok (.iload_n 2, 1) := by decide +kernel
theorem dL_act_211 : decode cL_act 211 = .ok (.bipush 9, 2) := by decide +kernel
theorem dL_act_213 : decode cL_act 213 = .ok (.ishr, 1) := by decide +kernel
theorem dL_act_214 : decode cL_act 214 = .ok (.iconst 2, 1) := by decide +kernel
theorem dL_act_215 : decode cL_act 215 = .ok (.invokestatic 92, 3) := by decide +kernel
theorem dL_act_218 : decode cL_act 218 = .ok (.invokestatic 98, 3) := by decide +kernel
theorem dL_act_221 : decode cL_act 221 = .ok (.ireturn, 1) := by decide +kernel
theorem dL_act_222 : decode cL_act 222 = .ok (.aload_n 0, 1) := by decide +kernel
theorem dL_act_223 : decode cL_act 223 = .ok (.iload 4, 2) := by decide +kernel
theorem dL_act_225 : decode cL_act 225 = .ok (.invokestatic 101, 3) := by decide +kernel
theorem dL_act_228 : decode cL_act 228 = .ok (.ireturn, 1) := by decide +kernel
theorem dL_act_229 : decode cL_act 229 = .ok (.aload_n 0, 1) := by decide +kernel
theorem dL_act_230 : decode cL_act 230 = .ok (.iload 4, 2) := by decide +kernel
theorem dL_act_232 : decode cL_act 232 = .ok (.invokestatic 104, 3) := by decide +kernel
theorem dL_act_235 : decode cL_act 235 = .ok (.ireturn, 1) := by decide +kernel
theorem dL_act_236 : decode cL_act 236 = .ok (.aload_n 0, 1) := by decide +kernel
theorem dL_act_237 : decode cL_act 237 = .ok (.iload 4, 2) := by decide +kernel
theorem dL_act_239 : decode cL_act 239 = .ok (.invokestatic 107, 3) := by decide +kernel
theorem dL_act_242 : decode cL_act 242 = .ok (.ireturn, 1) := by decide +kernel
theorem dL_act_243 : decode cL_act 243 = .ok (.aload_n 0, 1) := by decide +kernel
theorem dL_act_244 : decode cL_act 244 = .ok (.iload 5, 2) := by decide +kernel
theorem dL_act_246 : decode cL_act 246 = .ok (.invokestatic 110, 3) := by decide +kernel
theorem dL_act_249 : decode cL_act 249 = .ok (.ireturn, 1) := by decide +kernel
theorem dL_act_250 : decode cL_act 250 = .ok (.aload_n 0, 1) := by decide +kernel
theorem dL_act_251 : decode cL_act 251 = .ok (.iload 5, 2) := by decide +kernel
theorem dL_act_253 : decode cL_act 253 = .ok (.invokestatic 113, 3) := by decide +kernel
theorem dL_act_256 : decode cL_act 256 = .ok (.ireturn, 1) := by decide +kernel
theorem dL_act_257 : decode cL_act 257 = .ok (.aload_n 0, 1) := by decide +kernel
theorem dL_act_258 : decode cL_act 258 = .ok (.iload 5, 2) := by decide +kernel
theorem dL_act_260 : decode cL_act 260 = .ok (.invokestatic 116, 3) := by decide +kernel
theorem dL_act_263 : decode cL_act 263 = .ok (.ireturn, 1) := by decide +kernel
theorem dL_act_264 : decode cL_act 264 = .ok (.aload_n 0, 1) := by decide +kernel
theorem dL_act_265 : decode cL_act 265 = .ok (.invokevirtual 119, 3) := by decide +kernel
theorem dL_act_268 : decode cL_act 268 = .ok (.ireturn, 1) := by decide +kernel
theorem dL_act_269 : decode cL_act 269 = .ok (.aload_n 0, 1) := by decide +kernel
theorem dL_act_270 : decode cL_act 270 = .ok (.iload_n 2, 1) := by decide +kernel
theorem dL_act_271 : decode cL_act 271 = .ok (.bipush 23, 2) := by decide +kernel
theorem dL_act_273 : decode cL_act 273 = .ok (.invokestatic 92, 3) := by decide +kernel
theorem dL_act_276 : decode cL_act 276 = .ok (.ifCond .ne 16, 3) := by decide +kernel
theorem dL_act_279 : decode cL_act 279 = .ok (.bipush 101, 2) := by decide +kernel
theorem dL_act_281 : decode cL_act 281 = .ok (.iload_n 2, 1) := by decide +kernel
theorem dL_act_282 : decode cL_act 282 = .ok (.iconst 5, 1) := by decide +kernel
theorem dL_act_283 : decode cL_act 283 = .ok (.ishr, 1) := by decide +kernel
theorem dL_act_284 : decode cL_act 284 = .ok (.iconst 2, 1) := by decide +kernel
theorem dL_act_285 : decode cL_act 285 = .ok (.invokestatic 92, 3) := by decide +kernel
theorem dL_act_288 : decode cL_act 288 = .ok (.imul, 1) := by decide +kernel
theorem dL_act_289 : decode cL_act 289 = .ok (.goto 36, 3) := by decide +kernel
theorem dL_act_292 : decode cL_act 292 = .ok (.iload_n 1, 1) := by decide +kernel
theorem dL_act_293 : decode cL_act 293 = .ok (.bipush 7, 2) := by decide +kernel
theorem dL_act_295 : decode cL_act 295 = .ok (.ishr, 1) := by decide +kernel
theorem dL_act_296 : decode cL_act 296 = .ok (.iconst 3, 1) := by decide +kernel
theorem dL_act_297 : decode cL_act 297 = .ok (.invokestatic 92, 3) := by decide +kernel
theorem dL_act_300 : decode cL_act 300 = .ok (.ifCond .ne 16, 3) := by decide +kernel
theorem dL_act_303 : decode cL_act 303 = .ok (.iconst 1, 1) := by decide +kernel
theorem dL_act_304 : decode cL_act 304 = .ok (.iload_n 2, 1) := by decide +kernel
theorem dL_act_305 : decode cL_act 305 = .ok (.iconst 5, 1) := by decide +kernel
theorem dL_act_306 : decode cL_act 306 = .ok (.ishr, 1) := by decide +kernel
theorem dL_act_307 : decode cL_act 307 = .ok (.bipush 30, 2) := by decide +kernel
theorem dL_act_309 : decode cL_act 309 = .ok (.invokestatic 92, 3) := by decide +kernel
theorem dL_act_312 : decode cL_act 312 = .ok (.iadd, 1) := by decide +kernel
theorem dL_act_313 : decode cL_act 313 = .ok (.goto 12, 3) := by decide +kernel
theorem dL_act_316 : decode cL_act 316 = .ok (.iconst 1, 1) := by decide +kernel
theorem dL_act_317 : decode cL_act 317 = .ok (.iload_n 2, 1) := by decide +kernel
theorem dL_act_318 : decode cL_act 318 = .ok (.iconst 5, 1) := by decide +kernel
theorem dL_act_319 : decode cL_act 319 = .ok (.ishr, 1) := by decide +kernel
theorem dL_act_320 : decode cL_act 320 = .ok (.iconst 5, 1) := by decide +kernel
theorem dL_act_321 : decode cL_act 321 = .ok (.invokestatic 92, 3) := by decide +kernel
theorem dL_act_324 : decode cL_act 324 = .ok (.iadd, 1) := by decide +kernel
theorem dL_act_325 : decode cL_act 325 = .ok (.invokestatic 122, 3) := by decide +kernel
theorem dL_act_328 : decode cL_act 328 = .ok (.ireturn, 1) := by decide +kernel
set_option maxRecDepth 20000 in
theorem ggL_law_X5_init : GoodIn wsL_law wsX5_init := goodIn_r _ [6, 7, 8, 9, 10, 11, 12, 13, 14, 15, 16, 17, 18, 19, 20, 21, 22, 23, 24, 25, 26, 27, 28, 29, 30, 31, 32, 33, 34, 35, 36, 37, 38, 39, 3, 40, 41, 42, 387, 388, 389, 390, 391, 392, 393, 394, 395, 396, 397, 398] (by decide +kernel) (by decide +kernel)
set_option maxRecDepth 20000 in
theorem gL_law_X5_init : GoodIn wsL_law (wsX5_init) := ggL_law_X5_init
set_option maxRecDepth 20000 in
theorem ggL_law_L_cell : GoodIn wsL_law wsL_cell := goodIn_r _ [46, 47] (by decide +kernel) (by decide +kernel)
set_option maxRecDepth 20000 in
theorem gL_law_L_cell : GoodIn wsL_law (va_wsS RL 126 yL_cell wsL_cell) := goodIn_app (goodIn_of _ (by decide +kernel)) ggL_law_L_cell
set_option maxRecDepth 20000 in
theorem ggL_law_L_low : GoodIn wsL_law wsL_low := goodIn_r _ [50, 51] (by decide +kernel) (by decide +kernel)
set_option maxRecDepth 20000 in
theorem gL_law_L_low : GoodIn wsL_law (va_wsS RL 92 yL_low wsL_low) := goodIn_app (goodIn_of _ (by decide +kernel)) ggL_law_L_low
set_option maxRecDepth 20000 in
theorem ggL_law_L_tell : GoodIn wsL_law wsL_tell := goodIn_ca (goodIn_ca (goodIn_ca (goodIn_r _ [54, 3, 55, 56, 57, 58, 2, 59, 24, 60, 61, 62, 63, 64, 65, 66, 67, 68, 69, 70, 11, 71, 72, 73, 74, 75, 76, 77, 78, 79, 80, 81, 82, 83, 84, 85, 86, 87, 88, 89, 90, 91, 92, 93, 94, 95, 96, 97, 98, 99, 100, 101, 13, 102, 103, 104, 105, 106, 107, 108, 109, 45, 110, 111, 112, 113, 114, 115, 116, 117, 118, 119, 120, 121, 122, 123, 124, 125, 21, 126, 127, 128, 129, 130, 131, 20, 132, 42, 133, 134, 135, 136, 137, 138, 139, 140, 40, 387, 388, 389, 390, 391, 392, 393, 399, 400, 401, 402, 403, 404, 405, 406, 407, 408, 409, 410, 411, 412, 413, 396, 397, 398] (by decide +kernel) (by decide +kernel)) (goodIn_sub (fun _ h => List.mem_append_left _ (List.mem_append_left _ (List.mem_append_right _ h))) (by decide +kernel))) (goodIn_sub (fun _ h => List.mem_append_left _ (List.mem_append_right _ h)) (by decide +kernel))) (goodIn_sub (fun _ h => List.mem_append_right _ h) (by decide +kernel))
set_option maxRecDepth 20000 in
theorem gL_law_L_tell : GoodIn wsL_law (va_wsS RL 130 yL_tell wsL_tell) := goodIn_app (goodIn_of _ (by decide +kernel)) ggL_law_L_tell
set_option maxRecDepth 20000 in
theorem ggL_law_L_first : GoodIn wsL_law wsL_first := goodIn_ca (goodIn_r _ [143, 71, 72, 73, 2, 74, 75, 65, 66, 67, 68, 69, 70, 11, 144, 145, 45, 146, 399, 400, 401, 402, 403, 404, 405, 406, 387, 388, 389, 390, 391, 392, 393] (by decide +kernel) (by decide +kernel)) (goodIn_sub (fun _ h => List.mem_append_left _ (List.mem_append_left _ (List.mem_append_right _ h))) (by decide +kernel))
set_option maxRecDepth 20000 in
theorem gL_law_L_first : GoodIn wsL_law (va_wsS RL 134 yL_first wsL_first) := goodIn_app (goodIn_of _ (by decide +kernel)) ggL_law_L_first
set_option maxRecDepth 20000 in
theorem ggL_law_L_act : GoodIn wsL_law wsL_act := goodIn_ca (goodIn_ca (goodIn_ca (goodIn_r _ [149, 48, 49, 45, 50, 51, 150, 151, 152, 153, 112, 154, 155, 156, 2, 157, 124, 125, 117, 118, 22, 11, 10, 158, 83, 21, 126, 127, 128, 159, 160, 161, 162, 163, 164, 165, 8, 9, 166, 91, 167, 90, 92, 168, 169, 85, 170, 171, 172, 20, 173, 41, 174, 175, 176, 177, 178, 179, 180, 181, 182, 183, 184, 185, 24, 17, 186, 187, 188, 189, 190, 191, 192, 193, 194, 195, 196, 197, 198, 199, 16, 200, 35, 34, 201, 202, 203, 204, 205, 206, 207, 208, 23, 13, 12, 209, 210, 211, 212, 213, 214, 215, 216, 217, 218, 219, 220, 221, 222, 223, 224, 225, 106, 97, 226, 227, 228, 229, 230, 231, 232, 233, 234, 235, 236, 237, 238, 239, 240, 241, 242, 31, 243, 244, 245, 246, 247, 248, 249, 250, 111, 251, 252, 253, 254, 64, 255, 65, 66, 67, 68, 69, 70, 256, 257, 258, 259, 260, 261, 262, 263, 264, 265, 266, 267, 268, 269, 270, 271, 272, 273, 274, 275, 276, 40, 277, 278, 279, 280, 281, 282, 283, 284, 87, 88, 89, 285, 286, 287, 288, 289, 290, 291, 98, 99, 100, 101, 292, 293, 294, 295, 296, 297, 298, 299, 300, 301, 302, 303, 304, 305, 306, 119, 307, 30, 32, 308, 309, 310, 311, 312, 313, 314, 315, 316, 138, 139, 140, 317, 318, 319, 320, 321, 322, 323, 324, 325, 326, 327, 328, 329, 330, 331, 332, 42, 333, 334, 335, 336, 337, 338, 339, 340, 341, 342, 343, 75, 344, 345, 346, 347, 80, 81, 82, 84, 86, 348, 349, 350, 351, 352, 353, 354, 355, 356, 357, 358, 359, 360, 361, 362, 363, 364, 365, 366, 367, 368, 369, 370, 371, 387, 388, 389, 390, 391, 392, 393, 399, 400, 401, 402, 403, 404, 405, 406, 396, 397, 398, 414, 415, 416, 417, 394, 395, 407, 408, 409, 410, 411, 412, 413] (by decide +kernel) (by decide +kernel)) (goodIn_sub (fun _ h => List.mem_append_right _ h) (by decide +kernel))) (goodIn_sub (fun _ h => List.mem_append_left _ (List.mem_append_right _ h)) (by decide +kernel))) (goodIn_sub (fun _ h => List.mem_append_left _ (List.mem_append_left _ (List.mem_append_right _ h))) (by decide +kernel))
set_option maxRecDepth 20000 in
theorem gL_law_L_act : GoodIn wsL_law (va_wsS RL 138 yL_act wsL_act) := goodIn_app (goodIn_of _ (by decide +kernel)) ggL_law_L_act
set_option maxRecDepth 20000 in
theorem ggL_law_L_same : GoodIn wsL_law wsL_same := goodIn_r _ [374] (by decide +kernel) (by decide +kernel)
set_option maxRecDepth 20000 in
theorem gL_law_L_same : GoodIn wsL_law (va_wsS RL 142 yL_same wsL_same) := goodIn_app (goodIn_of _ (by decide +kernel)) ggL_law_L_same
set_option maxRecDepth 20000 in
theorem ggL_law_X5_listed : GoodIn wsL_law wsX5_listed := goodIn_ca (goodIn_r _ [74, 75, 65, 66, 67, 2, 68, 69, 70, 11, 399, 400, 401, 402, 403, 404, 405, 406, 387, 388, 389, 390, 391, 392, 393] (by decide +kernel) (by decide +kernel)) (goodIn_sub (fun _ h => List.mem_append_left _ (List.mem_append_left _ (List.mem_append_right _ h))) (by decide +kernel))
set_option maxRecDepth 20000 in
theorem gL_law_X5_listed : GoodIn wsL_law (wsV RL 63 RX5 yX5_listed wsX5_listed) := goodIn_app (goodIn_of _ (by decide +kernel)) ggL_law_X5_listed
set_option maxRecDepth 20000 in
theorem ggL_law_X5_isFree : GoodIn wsL_law wsX5_isFree := goodIn_ca (goodIn_r _ [79, 65, 66, 67, 2, 68, 69, 70, 11, 80, 81, 82, 83, 84, 85, 86, 87, 88, 89, 90, 91, 92, 387, 388, 389, 390, 391, 392, 393, 399, 400, 401, 402, 403, 404, 405, 406] (by decide +kernel) (by decide +kernel)) (goodIn_sub (fun _ h => List.mem_append_left _ (List.mem_append_left _ (List.mem_append_right _ h))) (by decide +kernel))
set_option maxRecDepth 20000 in
theorem gL_law_X5_isFree : GoodIn wsL_law (wsV RL 66 RX5 yX5_isFree wsX5_isFree) := goodIn_app (goodIn_of _ (by decide +kernel)) ggL_law_X5_isFree
set_option maxRecDepth 20000 in
theorem ggL_law_X5_copyOf : GoodIn wsL_law wsX5_copyOf := goodIn_ca (goodIn_r _ [105, 106, 107, 98, 99, 100, 2, 101, 69, 70, 13, 407, 408, 409, 410, 411, 412, 413, 399, 400, 401, 402, 403, 404, 405, 406, 387, 388, 389, 390, 391, 392, 393] (by decide +kernel) (by decide +kernel)) (goodIn_sub (fun _ h => List.mem_append_left _ (List.mem_append_left _ (List.mem_append_right _ h))) (by decide +kernel))
set_option maxRecDepth 20000 in
theorem gL_law_X5_copyOf : GoodIn wsL_law (wsV RL 71 RX5 yX5_copyOf wsX5_copyOf) := goodIn_app (goodIn_of _ (by decide +kernel)) ggL_law_X5_copyOf
set_option maxRecDepth 20000 in
theorem ggL_law_X5_state : GoodIn wsL_law wsX5_state := goodIn_ca (goodIn_r _ [96, 97, 98, 99, 100, 2, 101, 69, 70, 13, 407, 408, 409, 410, 411, 412, 413, 387, 388, 389, 390, 391, 392, 393] (by decide +kernel) (by decide +kernel)) (goodIn_sub (fun _ h => List.mem_append_left _ (List.mem_append_left _ (List.mem_append_right _ h))) (by decide +kernel))
set_option maxRecDepth 20000 in
theorem gL_law_X5_state : GoodIn wsL_law (wsV RL 50 RX5 yX5_state wsX5_state) := goodIn_app (goodIn_of _ (by decide +kernel)) ggL_law_X5_state
set_option maxRecDepth 20000 in
theorem ggL_law_X5_settle : GoodIn wsL_law wsX5_settle := goodIn_r _ [311, 21, 312, 313, 314, 20, 315, 40, 316, 138, 139, 140, 127, 2, 128, 387, 388, 389, 390, 391, 392, 393, 396, 397, 398] (by decide +kernel) (by decide +kernel)
set_option maxRecDepth 20000 in
theorem gL_law_X5_settle : GoodIn wsL_law (wsV RL 119 RX5 yX5_settle wsX5_settle) := goodIn_app (goodIn_of _ (by decide +kernel)) ggL_law_X5_settle
set_option maxRecDepth 20000 in
theorem ggL_law_L_goesOn : GoodIn wsL_law wsL_goesOn := goodIn_r _ [377, 55] (by decide +kernel) (by decide +kernel)
set_option maxRecDepth 20000 in
theorem gL_law_L_goesOn : GoodIn wsL_law (va_wsS RL 146 yL_goesOn wsL_goesOn) := goodIn_app (goodIn_of _ (by decide +kernel)) ggL_law_L_goesOn
set_option maxRecDepth 20000 in
theorem ggL_law_L_holds : GoodIn wsL_law wsL_holds := goodIn_ca (goodIn_ca (goodIn_ca (goodIn_r _ [380, 93, 94, 95, 2, 96, 97, 98, 99, 100, 101, 69, 70, 13, 102, 103, 104, 105, 106, 107, 108, 109, 45, 110, 111, 112, 113, 114, 115, 116, 117, 118, 119, 76, 77, 78, 79, 65, 66, 67, 68, 11, 80, 81, 82, 83, 84, 85, 86, 87, 88, 89, 90, 91, 92, 60, 61, 62, 63, 64, 71, 72, 73, 74, 75, 381, 382, 383, 153, 133, 134, 135, 136, 124, 125, 21, 126, 127, 128, 137, 138, 139, 20, 140, 40, 120, 121, 122, 123, 129, 130, 131, 132, 42, 384, 385, 386, 407, 408, 409, 410, 411, 412, 413, 387, 388, 389, 390, 391, 392, 393, 399, 400, 401, 402, 403, 404, 405, 406, 396, 397, 398] (by decide +kernel) (by decide +kernel)) (goodIn_sub (fun _ h => List.mem_append_left _ (List.mem_append_left _ (List.mem_append_right _ h))) (by decide +kernel))) (goodIn_sub (fun _ h => List.mem_append_left _ (List.mem_append_right _ h)) (by decide +kernel))) (goodIn_sub (fun _ h => List.mem_append_right _ h) (by decide +kernel))
set_option maxRecDepth 20000 in
theorem gL_law_L_holds : GoodIn wsL_law (va_wsS RL 150 yL_holds wsL_holds) := goodIn_app (goodIn_of _ (by decide +kernel)) ggL_law_L_holds
set_option maxRecDepth 20000 in
theorem ggL_law_L_added : GoodIn wsL_law wsL_added := goodIn_ca (goodIn_ca (goodIn_r _ [152, 153, 112, 154, 155, 156, 2, 157, 124, 125, 117, 118, 22, 11, 10, 158, 83, 21, 126, 127, 128, 159, 160, 161, 162, 163, 164, 165, 8, 9, 166, 91, 167, 90, 92, 168, 169, 85, 170, 171, 172, 20, 173, 41, 174, 175, 176, 177, 178, 179, 180, 181, 182, 183, 184, 185, 24, 17, 186, 187, 188, 189, 190, 191, 192, 193, 194, 195, 196, 197, 198, 199, 16, 200, 35, 34, 201, 387, 388, 389, 390, 391, 392, 393, 399, 400, 401, 402, 403, 404, 405, 406, 396, 397, 398, 414, 415, 416, 417, 394, 395] (by decide +kernel) (by decide +kernel)) (goodIn_sub (fun _ h => List.mem_append_right _ h) (by decide +kernel))) (goodIn_sub (fun _ h => List.mem_append_left _ (List.mem_append_right _ h)) (by decide +kernel))
set_option maxRecDepth 20000 in
theorem gL_law_L_added : GoodIn wsL_law (va_wsS RL 95 yL_added wsL_added) := goodIn_app (goodIn_of _ (by decide +kernel)) ggL_law_L_added
set_option maxRecDepth 20000 in
theorem ggL_law_L_asked : GoodIn wsL_law wsL_asked := goodIn_ca (goodIn_ca (goodIn_r _ [204, 153, 112, 205, 206, 207, 2, 208, 124, 125, 117, 118, 23, 13, 12, 209, 210, 126, 127, 128, 159, 160, 161, 211, 212, 213, 214, 8, 9, 215, 216, 217, 218, 219, 220, 221, 222, 223, 224, 225, 106, 97, 178, 226, 227, 228, 229, 230, 11, 231, 232, 233, 234, 235, 236, 237, 238, 239, 240, 241, 242, 31, 243, 244, 245, 246, 247, 182, 183, 184, 185, 24, 17, 186, 187, 188, 189, 190, 191, 192, 193, 194, 195, 196, 197, 198, 199, 16, 200, 35, 34, 201, 387, 388, 389, 390, 391, 392, 393, 407, 408, 409, 410, 411, 412, 413, 399, 400, 401, 402, 403, 404, 405, 406, 414, 415, 416, 417, 394, 395] (by decide +kernel) (by decide +kernel)) (goodIn_sub (fun _ h => List.mem_append_right _ h) (by decide +kernel))) (goodIn_sub (fun _ h => List.mem_append_left _ (List.mem_append_right _ h)) (by decide +kernel))
set_option maxRecDepth 20000 in
theorem gL_law_L_asked : GoodIn wsL_law (va_wsS RL 98 yL_asked wsL_asked) := goodIn_app (goodIn_of _ (by decide +kernel)) ggL_law_L_asked
set_option maxRecDepth 20000 in
theorem ggL_law_L_harmed : GoodIn wsL_law wsL_harmed := goodIn_ca (goodIn_ca (goodIn_r _ [250, 111, 112, 251, 252, 253, 2, 254, 117, 118, 64, 255, 65, 66, 67, 68, 69, 70, 11, 256, 257, 258, 83, 259, 169, 399, 400, 401, 402, 403, 404, 405, 406, 387, 388, 389, 390, 391, 392, 393] (by decide +kernel) (by decide +kernel)) (goodIn_sub (fun _ h => List.mem_append_left _ (List.mem_append_right _ h)) (by decide +kernel))) (goodIn_sub (fun _ h => List.mem_append_left _ (List.mem_append_left _ (List.mem_append_right _ h))) (by decide +kernel))
set_option maxRecDepth 20000 in
theorem gL_law_L_harmed : GoodIn wsL_law (va_wsS RL 101 yL_harmed wsL_harmed) := goodIn_app (goodIn_of _ (by decide +kernel)) ggL_law_L_harmed
set_option maxRecDepth 20000 in
theorem ggL_law_L_looked : GoodIn wsL_law wsL_looked := goodIn_ca (goodIn_ca (goodIn_r _ [262, 111, 112, 263, 264, 265, 2, 266, 117, 118, 267, 65, 66, 67, 68, 69, 70, 11, 268, 269, 270, 271, 272, 255, 178, 21, 256, 257, 258, 83, 259, 169, 273, 274, 275, 20, 276, 40, 127, 128, 399, 400, 401, 402, 403, 404, 405, 406, 387, 388, 389, 390, 391, 392, 393, 396, 397, 398] (by decide +kernel) (by decide +kernel)) (goodIn_sub (fun _ h => List.mem_append_left _ (List.mem_append_right _ h)) (by decide +kernel))) (goodIn_sub (fun _ h => List.mem_append_left _ (List.mem_append_left _ (List.mem_append_right _ h))) (by decide +kernel))
set_option maxRecDepth 20000 in
theorem gL_law_L_looked : GoodIn wsL_law (va_wsS RL 104 yL_looked wsL_looked) := goodIn_app (goodIn_of _ (by decide +kernel)) ggL_law_L_looked
set_option maxRecDepth 20000 in
theorem ggL_law_L_mended : GoodIn wsL_law wsL_mended := goodIn_ca (goodIn_ca (goodIn_r _ [279, 111, 112, 280, 281, 282, 2, 283, 117, 118, 272, 255, 65, 66, 67, 68, 69, 70, 11, 284, 87, 88, 83, 89, 90, 91, 92, 174, 175, 176, 177, 178, 179, 180, 181, 182, 183, 184, 185, 24, 17, 186, 187, 188, 189, 190, 191, 192, 8, 9, 193, 194, 195, 196, 197, 198, 199, 16, 200, 35, 34, 201, 399, 400, 401, 402, 403, 404, 405, 406, 387, 388, 389, 390, 391, 392, 393, 414, 415, 416, 417, 394, 395] (by decide +kernel) (by decide +kernel)) (goodIn_sub (fun _ h => List.mem_append_left _ (List.mem_append_right _ h)) (by decide +kernel))) (goodIn_sub (fun _ h => List.mem_append_left _ (List.mem_append_left _ (List.mem_append_right _ h))) (by decide +kernel))
set_option maxRecDepth 20000 in
theorem gL_law_L_mended : GoodIn wsL_law (va_wsS RL 107 yL_mended wsL_mended) := goodIn_app (goodIn_of _ (by decide +kernel)) ggL_law_L_mended
set_option maxRecDepth 20000 in
theorem ggL_law_L_renewed : GoodIn wsL_law wsL_renewed := goodIn_ca (goodIn_ca (goodIn_r _ [287, 111, 112, 288, 289, 290, 2, 291, 117, 118, 106, 97, 226, 178, 98, 99, 100, 101, 69, 70, 13, 238, 239, 240, 241, 242, 31, 243, 182, 183, 184, 185, 24, 17, 186, 187, 188, 189, 190, 191, 192, 8, 9, 193, 194, 195, 196, 197, 198, 199, 16, 200, 35, 34, 201, 407, 408, 409, 410, 411, 412, 413, 399, 400, 401, 402, 403, 404, 405, 406, 387, 388, 389, 390, 391, 392, 393, 414, 415, 416, 417, 394, 395] (by decide +kernel) (by decide +kernel)) (goodIn_sub (fun _ h => List.mem_append_left _ (List.mem_append_right _ h)) (by decide +kernel))) (goodIn_sub (fun _ h => List.mem_append_left _ (List.mem_append_left _ (List.mem_append_right _ h))) (by decide +kernel))
set_option maxRecDepth 20000 in
theorem gL_law_L_renewed : GoodIn wsL_law (va_wsS RL 110 yL_renewed wsL_renewed) := goodIn_app (goodIn_of _ (by decide +kernel)) ggL_law_L_renewed
set_option maxRecDepth 20000 in
theorem ggL_law_L_recalled : GoodIn wsL_law wsL_recalled := goodIn_ca (goodIn_ca (goodIn_r _ [294, 111, 112, 295, 296, 297, 2, 298, 117, 118, 106, 97, 299, 226, 178, 98, 99, 100, 101, 69, 70, 13, 238, 239, 240, 241, 242, 31, 243, 182, 183, 184, 185, 24, 17, 186, 187, 188, 189, 190, 191, 192, 8, 9, 193, 194, 195, 196, 197, 198, 199, 16, 200, 35, 34, 201, 407, 408, 409, 410, 411, 412, 413, 399, 400, 401, 402, 403, 404, 405, 406, 387, 388, 389, 390, 391, 392, 393, 414, 415, 416, 417, 394, 395] (by decide +kernel) (by decide +kernel)) (goodIn_sub (fun _ h => List.mem_append_left _ (List.mem_append_right _ h)) (by decide +kernel))) (goodIn_sub (fun _ h => List.mem_append_left _ (List.mem_append_left _ (List.mem_append_right _ h))) (by decide +kernel))
set_option maxRecDepth 20000 in
theorem gL_law_L_recalled : GoodIn wsL_law (va_wsS RL 113 yL_recalled wsL_recalled) := goodIn_app (goodIn_of _ (by decide +kernel)) ggL_law_L_recalled
set_option maxRecDepth 20000 in
theorem ggL_law_L_back : GoodIn wsL_law wsL_back := goodIn_ca (goodIn_ca (goodIn_r _ [302, 111, 112, 303, 304, 305, 2, 306, 117, 118, 106, 97, 24, 119, 307, 30, 31, 32, 21, 226, 178, 267, 98, 99, 100, 101, 69, 70, 13, 273, 274, 275, 20, 276, 40, 127, 128, 238, 239, 240, 241, 242, 243, 182, 183, 184, 185, 17, 186, 187, 188, 189, 190, 191, 192, 8, 9, 193, 194, 195, 196, 197, 198, 199, 16, 200, 35, 34, 201, 407, 408, 409, 410, 411, 412, 413, 387, 388, 389, 390, 391, 392, 393, 399, 400, 401, 402, 403, 404, 405, 406, 396, 397, 398, 414, 415, 416, 417, 394, 395] (by decide +kernel) (by decide +kernel)) (goodIn_sub (fun _ h => List.mem_append_left _ (List.mem_append_right _ h)) (by decide +kernel))) (goodIn_sub (fun _ h => List.mem_append_left _ (List.mem_append_left _ (List.mem_append_right _ h))) (by decide +kernel))
set_option maxRecDepth 20000 in
theorem gL_law_L_back : GoodIn wsL_law (va_wsS RL 116 yL_back wsL_back) := goodIn_app (goodIn_of _ (by decide +kernel)) ggL_law_L_back
set_option maxRecDepth 20000 in
theorem ggL_law_L_passed : GoodIn wsL_law wsL_passed := goodIn_ca (goodIn_r _ [319, 153, 320, 321, 322, 2, 323, 124, 125, 324, 325, 326, 327, 24, 21, 17, 328, 329, 330, 331, 20, 332, 42, 333, 334, 335, 16, 336, 35, 34, 201, 337, 338, 339, 340, 341, 342, 343, 75, 344, 345, 346, 347, 97, 267, 226, 178, 80, 81, 82, 83, 84, 85, 86, 87, 88, 89, 90, 91, 92, 222, 223, 224, 225, 106, 227, 228, 229, 230, 11, 231, 232, 233, 210, 234, 221, 235, 236, 216, 237, 215, 238, 239, 240, 241, 242, 31, 243, 244, 245, 246, 247, 182, 183, 184, 185, 186, 187, 188, 189, 190, 191, 192, 8, 9, 193, 194, 195, 196, 197, 198, 199, 200, 174, 175, 176, 177, 179, 180, 181, 348, 349, 350, 351, 64, 119, 352, 353, 354, 355, 41, 127, 128, 356, 274, 275, 276, 40, 357, 358, 359, 360, 268, 269, 270, 271, 272, 255, 256, 257, 258, 259, 169, 273, 361, 362, 363, 364, 299, 365, 366, 367, 368, 369, 370, 371, 387, 388, 389, 390, 391, 392, 393, 394, 395, 396, 397, 398, 414, 415, 416, 417, 399, 400, 401, 402, 403, 404, 405, 406, 407, 408, 409, 410, 411, 412, 413] (by decide +kernel) (by decide +kernel)) (goodIn_sub (fun _ h => List.mem_append_right _ h) (by decide +kernel))
set_option maxRecDepth 20000 in
theorem gL_law_L_passed : GoodIn wsL_law (va_wsS RL 122 yL_passed wsL_passed) := goodIn_app (goodIn_of _ (by decide +kernel)) ggL_law_L_passed
set_option maxRecDepth 20000 in
theorem ggL_law_L_owed : GoodIn wsL_law wsL_owed := goodIn_ca (goodIn_r _ [383, 153, 133, 134, 135, 2, 136, 124, 125, 21, 126, 127, 128, 137, 138, 139, 20, 140, 40, 387, 388, 389, 390, 391, 392, 393, 396, 397, 398] (by decide +kernel) (by decide +kernel)) (goodIn_sub (fun _ h => List.mem_append_right _ h) (by decide +kernel))
set_option maxRecDepth 20000 in
theorem gL_law_L_owed : GoodIn wsL_law (va_wsS RL 85 yL_owed wsL_owed) := goodIn_app (goodIn_of _ (by decide +kernel)) ggL_law_L_owed
theorem dL_law_0 : decode cL_law 0 = .ok (.new 10, 3) := by decide +kernel
theorem dL_law_3 : decode cL_law 3 = .ok (.dup, 1) := by decide +kernel
theorem dL_law_4 : decode cL_law 4 = .ok (.invokespecial 125, 3) := by decide +kernel
theorem dL_law_7 : decode cL_law 7 = .ok (.astore_n 1, 1) := by decide +kernel
theorem dL_law_8 : decode cL_law 8 = .ok (.bipush 41, 2) := by decide +kernel
theorem dL_law_10 : decode cL_law 10 = .ok (.newarray .int, 2) := by decide +kernel
theorem dL_law_12 : decode cL_law 12 = .ok (.astore_n 2, 1) := by decide +kernel
theorem dL_law_13 : decode cL_law 13 = .ok (.bipush 41, 2) := by decide +kernel
theorem dL_law_15 : decode cL_law 15 = .ok (.newarray .int, 2) := by decide +kernel
theorem dL_law_17 : decode cL_law 17 = .ok (.astore_n 3, 1) := by decide +kernel
theorem dL_law_18 : decode cL_law 18 = .ok (.iconst 0, 1) := by decide +kernel
theorem dL_law_19 : decode cL_law 19 = .ok (.istore 4, 2) := by decide +kernel
theorem dL_law_21 : decode cL_law 21 = .ok (.iload 4, 2) := by decide +kernel
theorem dL_law_23 : decode cL_law 23 = .ok (.bipush 60, 2) := by decide +kernel
theorem dL_law_25 : decode cL_law 25 = .ok (.if_icmp .ge 430, 3) := by decide +kernel
theorem dL_law_28 : decode cL_law 28 = .ok (.aload_n 0, 1) := by decide +kernel
theorem dL_law_29 : decode cL_law 29 = .ok (.iconst 2, 1) := by decide +kernel
theorem dL_law_30 : decode cL_law 30 = .ok (.iload 4, 2) := by decide +kernel
theorem dL_law_32 : decode cL_law 32 = .ok (.imul, 1) := by decide +kernel
theorem dL_law_33 : decode cL_law 33 = .ok (.invokestatic 126, 3) := by decide +kernel
theorem dL_law_36 : decode cL_law 36 = .ok (.istore 5, 2) := by decide +kernel
theorem dL_law_38 : decode cL_law 38 = .ok (.aload_n 0, 1) := by decide +kernel
theorem dL_law_39 : decode cL_law 39 = .ok (.iconst 2, 1) := by decide +kernel
theorem dL_law_40 : decode cL_law 40 = .ok (.iload 4, 2) := by decide +kernel
theorem dL_law_42 : decode cL_law 42 = .ok (.imul, 1) := by decide +kernel
theorem dL_law_43 : decode cL_law 43 = .ok (.iconst 1, 1) := by decide +kernel
theorem dL_law_44 : decode cL_law 44 = .ok (.iadd, 1) := by decide +kernel
theorem dL_law_45 : decode cL_law 45 = .ok (.invokestatic 126, 3) := by decide +kernel
theorem dL_law_48 : decode cL_law 48 = .ok (.istore 6, 2) := by decide +kernel
theorem dL_law_50 : decode cL_law 50 = .ok (.iload 4, 2) := by decide +kernel
theorem dL_law_52 : decode cL_law 52 = .ok (.iconst 4, 1) := by decide +kernel
theorem dL_law_53 : decode cL_law 53 = .ok (.if_icmp .ge 7, 3) := by decide +kernel
theorem dL_law_56 : decode cL_law 56 = .ok (.iconst 0, 1) := by decide +kernel
theorem dL_law_57 : decode cL_law 57 = .ok (.goto 12, 3) := by decide +kernel
theorem dL_law_60 : decode cL_law 60 = .ok (.iload 5, 2) := by decide +kernel
theorem dL_law_62 : decode cL_law 62 = .ok (.iconst 3, 1) := by decide +kernel
theorem dL_law_63 : decode cL_law 63 = .ok (.ishr, 1) := by decide +kernel
theorem dL_law_64 : decode cL_law 64 = .ok (.bipush 15, 2) := by decide +kernel
theorem dL_law_66 : decode cL_law 66 = .ok (.invokestatic 92, 3) := by decide +kernel
theorem dL_law_69 : decode cL_law 69 = .ok (.istore 7, 2) := by decide +kernel
theorem dL_law_71 : decode cL_law 71 = .ok (.iload 7, 2) := by decide +kernel
theorem dL_law_73 : decode cL_law 73 = .ok (.ifCond .le 22, 3) := by decide +kernel
theorem dL_law_76 : decode cL_law 76 = .ok (.iload 7, 2) := by decide +kernel
theorem dL_law_78 : decode cL_law 78 = .ok (.iconst 3, 1) := by decide +kernel
theorem dL_law_79 : decode cL_law 79 = .ok (.if_icmp .ge 16, 3) := by decide +kernel
theorem dL_law_82 : decode cL_law 82 = .ok (.aload_n 3, 1) := by decide +kernel
theorem dL_law_83 : decode cL_law 83 = .ok (.bipush 40, 2) := by decide +kernel
theorem dL_law_85 : decode cL_law 85 = .ok (.iaload, 1) := by decide +kernel
theorem dL_law_86 : decode cL_law 86 = .ok (.bipush 20, 2) := by decide +kernel
theorem dL_law_88 : decode cL_law 88 = .ok (.if_icmp .ne 7, 3) := by decide +kernel
theorem dL_law_91 : decode cL_law 91 = .ok (.bipush 10, 2) := by decide +kernel
theorem dL_law_93 : decode cL_law 93 = .ok (.istore 7, 2) := by decide +kernel
theorem dL_law_95 : decode cL_law 95 = .ok (.aload_n 1, 1) := by decide +kernel
theorem dL_law_96 : decode cL_law 96 = .ok (.aload_n 2, 1) := by decide +kernel
theorem dL_law_97 : decode cL_law 97 = .ok (.aload_n 3, 1) := by decide +kernel
theorem dL_law_98 : decode cL_law 98 = .ok (.invokestatic 130, 3) := by decide +kernel
theorem dL_law_101 : decode cL_law 101 = .ok (.astore 8, 2) := by decide +kernel
theorem dL_law_103 : decode cL_law 103 = .ok (.iload 7, 2) := by decide +kernel
theorem dL_law_105 : decode cL_law 105 = .ok (.iconst 1, 1) := by decide +kernel
theorem dL_law_106 : decode cL_law 106 = .ok (.if_icmp .eq 9, 3) := by decide +kernel
theorem dL_law_109 : decode cL_law 109 = .ok (.iload 7, 2) := by decide +kernel
theorem dL_law_111 : decode cL_law 111 = .ok (.iconst 2, 1) := by decide +kernel
theorem dL_law_112 : decode cL_law 112 = .ok (.if_icmp .ne 29, 3) := by decide +kernel
theorem dL_law_115 : decode cL_law 115 = .ok (.aload_n 1, 1) := by decide +kernel
theorem dL_law_116 : decode cL_law 116 = .ok (.aload_n 2, 1) := by decide +kernel
theorem dL_law_117 : decode cL_law 117 = .ok (.iload 6, 2) := by decide +kernel
theorem dL_law_119 : decode cL_law 119 = .ok (.iconst 4, 1) := by decide +kernel
theorem dL_law_120 : decode cL_law 120 = .ok (.ishr, 1) := by decide +kernel
theorem dL_law_121 : decode cL_law 121 = .ok (.bipush 6, 2) := by decide +kernel
theorem dL_law_123 : decode cL_law 123 = .ok (.invokestatic 92, 3) := by decide +kernel
theorem dL_law_126 : decode cL_law 126 = .ok (.iload 6, 2) := by decide +kernel
theorem dL_law_128 : decode cL_law 128 = .ok (.bipush 9, 2) := by decide +kernel
theorem dL_law_130 : decode cL_law 130 = .ok (.ishr, 1) := by decide +kernel
theorem dL_law_131 : decode cL_law 131 = .ok (.iconst 2, 1) := by decide +kernel
theorem dL_law_132 : decode cL_law 132 = .ok (.invokestatic 92, 3) := by decide +kernel
theorem dL_law_135 : decode cL_law 135 = .ok (.invokestatic 134, 3) := by decide +kernel
theorem dL_law_138 : decode cL_law 138 = .ok (.goto 4, 3) := by decide +kernel
theorem dL_law_141 : decode cL_law 141 = .ok (.iconst (-1), 1) := by decide +kernel
theorem dL_law_142 : decode cL_law 142 = .ok (.istore 9, 2) := by decide +kernel
theorem dL_law_144 : decode cL_law 144 = .ok (.aload_n 1, 1) := by decide +kernel
theorem dL_law_145 : decode cL_law 145 = .ok (.iload 5, 2) := by decide +kernel
theorem dL_law_147 : decode cL_law 147 = .ok (.iload 6, 2) := by decide +kernel
theorem dL_law_149 : decode cL_law 149 = .ok (.iload 7, 2) := by decide +kernel
theorem dL_law_151 : decode cL_law 151 = .ok (.invokestatic 138, 3) := by decide +kernel
theorem dL_law_154 : decode cL_law 154 = .ok (.istore 10, 2) := by decide +kernel
theorem dL_law_156 : decode cL_law 156 = .ok (.iload 10, 2) := by decide +kernel
theorem dL_law_158 : decode cL_law 158 = .ok (.ifCond .ge 19, 3) := by decide +kernel
theorem dL_law_161 : decode cL_law 161 = .ok (.aload 8, 2) := by decide +kernel
theorem dL_law_163 : decode cL_law 163 = .ok (.aload_n 1, 1) := by decide +kernel
theorem dL_law_164 : decode cL_law 164 = .ok (.aload_n 2, 1) := by decide +kernel
theorem dL_law_165 : decode cL_law 165 = .ok (.aload_n 3, 1) := by decide +kernel
theorem dL_law_166 : decode cL_law 166 = .ok (.invokestatic 130, 3) := by decide +kernel
theorem dL_law_169 : decode cL_law 169 = .ok (.invokestatic 142, 3) := by decide +kernel
theorem dL_law_172 : decode cL_law 172 = .ok (.ifCond .ne 266, 3) := by decide +kernel
theorem dL_law_175 : decode cL_law 175 = .ok (.iconst 0, 1) := by decide +kernel
theorem dL_law_176 : decode cL_law 176 = .ok (.ireturn, 1) := by decide +kernel
theorem dL_law_177 : decode cL_law 177 = .ok (.iload 7, 2) := by decide +kernel
theorem dL_law_179 : decode cL_law 179 = .ok (.ifCond .ne 73, 3) := by decide +kernel
theorem dL_law_182 : decode cL_law 182 = .ok (.iload 10, 2) := by decide +kernel
theorem dL_law_184 : decode cL_law 184 = .ok (.aload_n 2, 1) := by decide +kernel
theorem dL_law_185 : decode cL_law 185 = .ok (.bipush 40, 2) := by decide +kernel
theorem dL_law_187 : decode cL_law 187 = .ok (.iaload, 1) := by decide +kernel
theorem dL_law_188 : decode cL_law 188 = .ok (.if_icmp .ne 22, 3) := by decide +kernel
theorem dL_law_191 : decode cL_law 191 = .ok (.aload_n 1, 1) := by decide +kernel
theorem dL_law_192 : decode cL_law 192 = .ok (.iload 10, 2) := by decide +kernel
theorem dL_law_194 : decode cL_law 194 = .ok (.invokevirtual 63, 3) := by decide +kernel
theorem dL_law_197 : decode cL_law 197 = .ok (.iconst (-1), 1) := by decide +kernel
theorem dL_law_198 : decode cL_law 198 = .ok (.if_icmp .ne 12, 3) := by decide +kernel
theorem dL_law_201 : decode cL_law 201 = .ok (.aload_n 1, 1) := by decide +kernel
theorem dL_law_202 : decode cL_law 202 = .ok (.iload 10, 2) := by decide +kernel
theorem dL_law_204 : decode cL_law 204 = .ok (.invokevirtual 66, 3) := by decide +kernel
theorem dL_law_207 : decode cL_law 207 = .ok (.ifCond .ne 5, 3) := by decide +kernel
theorem dL_law_210 : decode cL_law 210 = .ok (.iconst 0, 1) := by decide +kernel
theorem dL_law_211 : decode cL_law 211 = .ok (.ireturn, 1) := by decide +kernel
theorem dL_law_212 : decode cL_law 212 = .ok (.aload_n 2, 1) := by decide +kernel
theorem dL_law_213 : decode cL_law 213 = .ok (.iload 10, 2) := by decide +kernel
theorem dL_law_215 : decode cL_law 215 = .ok (.iload 6, 2) := by decide +kernel
theorem dL_law_217 : decode cL_law 217 = .ok (.iconst 4, 1) := by decide +kernel
theorem dL_law_218 : decode cL_law 218 = .ok (.ishr, 1) := by decide +kernel
theorem dL_law_219 : decode cL_law 219 = .ok (.bipush 6, 2) := by decide +kernel
theorem dL_law_221 : decode cL_law 221 = .ok (.invokestatic 92, 3) := by decide +kernel
theorem dL_law_224 : decode cL_law 224 = .ok (.iastore, 1) := by decide +kernel
theorem dL_law_225 : decode cL_law 225 = .ok (.aload_n 2, 1) := by decide +kernel
theorem dL_law_226 : decode cL_law 226 = .ok (.bipush 20, 2) := by decide +kernel
theorem dL_law_228 : decode cL_law 228 = .ok (.iload 10, 2) := by decide +kernel
theorem dL_law_230 : decode cL_law 230 = .ok (.iadd, 1) := by decide +kernel
theorem dL_law_231 : decode cL_law 231 = .ok (.iload 6, 2) := by decide +kernel
theorem dL_law_233 : decode cL_law 233 = .ok (.bipush 9, 2) := by decide +kernel
theorem dL_law_235 : decode cL_law 235 = .ok (.ishr, 1) := by decide +kernel
theorem dL_law_236 : decode cL_law 236 = .ok (.iconst 2, 1) := by decide +kernel
theorem dL_law_237 : decode cL_law 237 = .ok (.invokestatic 92, 3) := by decide +kernel
theorem dL_law_240 : decode cL_law 240 = .ok (.iastore, 1) := by decide +kernel
theorem dL_law_241 : decode cL_law 241 = .ok (.aload_n 2, 1) := by decide +kernel
theorem dL_law_242 : decode cL_law 242 = .ok (.bipush 40, 2) := by decide +kernel
theorem dL_law_244 : decode cL_law 244 = .ok (.dup2, 1) := by decide +kernel
theorem dL_law_245 : decode cL_law 245 = .ok (.iaload, 1) := by decide +kernel
theorem dL_law_246 : decode cL_law 246 = .ok (.iconst 1, 1) := by decide +kernel
theorem dL_law_247 : decode cL_law 247 = .ok (.iadd, 1) := by decide +kernel
theorem dL_law_248 : decode cL_law 248 = .ok (.iastore, 1) := by decide +kernel
theorem dL_law_249 : decode cL_law 249 = .ok (.goto 189, 3) := by decide +kernel
theorem dL_law_252 : decode cL_law 252 = .ok (.iload 7, 2) := by decide +kernel
theorem dL_law_254 : decode cL_law 254 = .ok (.iconst 3, 1) := by decide +kernel
theorem dL_law_255 : decode cL_law 255 = .ok (.if_icmp .ge 84, 3) := by decide +kernel
theorem dL_law_258 : decode cL_law 258 = .ok (.iload 10, 2) := by decide +kernel
theorem dL_law_260 : decode cL_law 260 = .ok (.aload_n 3, 1) := by decide +kernel
theorem dL_law_261 : decode cL_law 261 = .ok (.bipush 40, 2) := by decide +kernel
theorem dL_law_263 : decode cL_law 263 = .ok (.iaload, 1) := by decide +kernel
theorem dL_law_264 : decode cL_law 264 = .ok (.if_icmp .ne 33, 3) := by decide +kernel
theorem dL_law_267 : decode cL_law 267 = .ok (.aload_n 1, 1) := by decide +kernel
theorem dL_law_268 : decode cL_law 268 = .ok (.iload 10, 2) := by decide +kernel
theorem dL_law_270 : decode cL_law 270 = .ok (.invokevirtual 71, 3) := by decide +kernel
theorem dL_law_273 : decode cL_law 273 = .ok (.iload 9, 2) := by decide +kernel
theorem dL_law_275 : decode cL_law 275 = .ok (.if_icmp .ne 22, 3) := by decide +kernel
theorem dL_law_278 : decode cL_law 278 = .ok (.aload_n 1, 1) := by decide +kernel
theorem dL_law_279 : decode cL_law 279 = .ok (.iload 10, 2) := by decide +kernel
theorem dL_law_281 : decode cL_law 281 = .ok (.invokevirtual 50, 3) := by decide +kernel
theorem dL_law_284 : decode cL_law 284 = .ok (.iload 9, 2) := by decide +kernel
theorem dL_law_286 : decode cL_law 286 = .ok (.ifCond .ge 7, 3) := by decide +kernel
theorem dL_law_289 : decode cL_law 289 = .ok (.iconst 5, 1) := by decide +kernel
theorem dL_law_290 : decode cL_law 290 = .ok (.goto 4, 3) := by decide +kernel
theorem dL_law_293 : decode cL_law 293 = .ok (.iconst 0, 1) := by decide +kernel
theorem dL_law_294 : decode cL_law 294 = .ok (.if_icmp .eq 5, 3) := by decide +kernel
theorem dL_law_297 : decode cL_law 297 = .ok (.iconst 0, 1) := by decide +kernel
theorem dL_law_298 : decode cL_law 298 = .ok (.ireturn, 1) := by decide +kernel
theorem dL_law_299 : decode cL_law 299 = .ok (.aload_n 3, 1) := by decide +kernel
theorem dL_law_300 : decode cL_law 300 = .ok (.iload 10, 2) := by decide +kernel
theorem dL_law_302 : decode cL_law 302 = .ok (.iload 6, 2) := by decide +kernel
theorem dL_law_304 : decode cL_law 304 = .ok (.iconst 4, 1) := by decide +kernel
theorem dL_law_305 : decode cL_law 305 = .ok (.ishr, 1) := by decide +kernel
theorem dL_law_306 : decode cL_law 306 = .ok (.bipush 6, 2) := by decide +kernel
theorem dL_law_308 : decode cL_law 308 = .ok (.invokestatic 92, 3) := by decide +kernel
