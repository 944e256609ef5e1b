theorem dL_law_0 : decode cL_law 0 = .ok (.new 9, 3) := by decide +kernel
theorem dL_law_3 : decode cL_law 3 = .ok (.dup, 1) := by decide +kernel
theorem dL_law_4 : decode cL_law 4 = .ok (.invokespecial 30, 3) := by decide +kernel
theorem dL_law_7 : decode cL_law 7 = .ok (.astore_n 1, 1) := by decide +kernel
theorem dL_law_8 : decode cL_law 8 = .ok (.bipush 6, 2) := by decide +kernel
theorem dL_law_10 : decode cL_law 10 = .ok (.newarray .int, 2) := by decide +kernel
theorem dL_law_12 : decode cL_law 12 = .ok (.astore_n 2, 1) := by decide +kernel
theorem dL_law_13 : decode cL_law 13 = .ok (.bipush 6, 2) := by decide +kernel
theorem dL_law_15 : decode cL_law 15 = .ok (.newarray .int, 2) := by decide +kernel
theorem dL_law_17 : decode cL_law 17 = .ok (.astore_n 3, 1) := by decide +kernel
theorem dL_law_18 : decode cL_law 18 = .ok (.bipush 6, 2) := by decide +kernel
theorem dL_law_20 : decode cL_law 20 = .ok (.newarray .int, 2) := by decide +kernel
theorem dL_law_22 : decode cL_law 22 = .ok (.astore 4, 2) := by decide +kernel
theorem dL_law_24 : decode cL_law 24 = .ok (.bipush 6, 2) := by decide +kernel
theorem dL_law_26 : decode cL_law 26 = .ok (.newarray .int, 2) := by decide +kernel
theorem dL_law_28 : decode cL_law 28 = .ok (.astore 5, 2) := by decide +kernel
theorem dL_law_30 : decode cL_law 30 = .ok (.bipush 6, 2) := by decide +kernel
theorem dL_law_32 : decode cL_law 32 = .ok (.newarray .int, 2) := by decide +kernel
theorem dL_law_34 : decode cL_law 34 = .ok (.astore 6, 2) := by decide +kernel
theorem dL_law_36 : decode cL_law 36 = .ok (.bipush 6, 2) := by decide +kernel
theorem dL_law_38 : decode cL_law 38 = .ok (.newarray .int, 2) := by decide +kernel
theorem dL_law_40 : decode cL_law 40 = .ok (.astore 7, 2) := by decide +kernel
theorem dL_law_42 : decode cL_law 42 = .ok (.iconst 0, 1) := by decide +kernel
theorem dL_law_43 : decode cL_law 43 = .ok (.istore 8, 2) := by decide +kernel
theorem dL_law_45 : decode cL_law 45 = .ok (.iconst 0, 1) := by decide +kernel
theorem dL_law_46 : decode cL_law 46 = .ok (.istore 9, 2) := by decide +kernel
theorem dL_law_48 : decode cL_law 48 = .ok (.iload 9, 2) := by decide +kernel
theorem dL_law_50 : decode cL_law 50 = .ok (.bipush 70, 2) := by decide +kernel
theorem dL_law_52 : decode cL_law 52 = .ok (.if_icmp .ge 600, 3) := by decide +kernel
theorem dL_law_55 : decode cL_law 55 = .ok (.aload_n 0, 1) := by decide +kernel
theorem dL_law_56 : decode cL_law 56 = .ok (.iconst 2, 1) := by decide +kernel
theorem dL_law_57 : decode cL_law 57 = .ok (.iload 9, 2) := by decide +kernel
theorem dL_law_59 : decode cL_law 59 = .ok (.imul, 1) := by decide +kernel
theorem dL_law_60 : decode cL_law 60 = .ok (.invokestatic 31, 3) := by decide +kernel
theorem dL_law_63 : decode cL_law 63 = .ok (.istore 10, 2) := by decide +kernel
theorem dL_law_65 : decode cL_law 65 = .ok (.aload_n 0, 1) := by decide +kernel
theorem dL_law_66 : decode cL_law 66 = .ok (.iconst 2, 1) := by decide +kernel
theorem dL_law_67 : decode cL_law 67 = .ok (.iload 9, 2) := by decide +kernel
theorem dL_law_69 : decode cL_law 69 = .ok (.imul, 1) := by decide +kernel
theorem dL_law_70 : decode cL_law 70 = .ok (.iconst 1, 1) := by decide +kernel
theorem dL_law_71 : decode cL_law 71 = .ok (.iadd, 1) := by decide +kernel
theorem dL_law_72 : decode cL_law 72 = .ok (.invokestatic 31, 3) := by decide +kernel
theorem dL_law_75 : decode cL_law 75 = .ok (.istore 11, 2) := by decide +kernel
theorem dL_law_77 : decode cL_law 77 = .ok (.iload 10, 2) := by decide +kernel
theorem dL_law_79 : decode cL_law 79 = .ok (.bipush 16, 2) := by decide +kernel
theorem dL_law_81 : decode cL_law 81 = .ok (.invokestatic 37, 3) := by decide +kernel
theorem dL_law_84 : decode cL_law 84 = .ok (.istore 12, 2) := by decide +kernel
theorem dL_law_86 : decode cL_law 86 = .ok (.iload 11, 2) := by decide +kernel
theorem dL_law_88 : decode cL_law 88 = .ok (.bipush 6, 2) := by decide +kernel
theorem dL_law_90 : decode cL_law 90 = .ok (.invokestatic 37, 3) := by decide +kernel
theorem dL_law_93 : decode cL_law 93 = .ok (.istore 13, 2) := by decide +kernel
theorem dL_law_95 : decode cL_law 95 = .ok (.iconst 0, 1) := by decide +kernel
theorem dL_law_96 : decode cL_law 96 = .ok (.istore 14, 2) := by decide +kernel
theorem dL_law_98 : decode cL_law 98 = .ok (.aload_n 1, 1) := by decide +kernel
theorem dL_law_99 : decode cL_law 99 = .ok (.invokevirtual 40, 3) := by decide +kernel
theorem dL_law_102 : decode cL_law 102 = .ok (.ifCond .eq 18, 3) := by decide +kernel
theorem dL_law_105 : decode cL_law 105 = .ok (.iload 12, 2) := by decide +kernel
theorem dL_law_107 : decode cL_law 107 = .ok (.iconst 2, 1) := by decide +kernel
theorem dL_law_108 : decode cL_law 108 = .ok (.if_icmp .ge 65, 3) := by decide +kernel
theorem dL_law_111 : decode cL_law 111 = .ok (.aload_n 1, 1) := by decide +kernel
theorem dL_law_112 : decode cL_law 112 = .ok (.invokevirtual 40, 3) := by decide +kernel
theorem dL_law_115 : decode cL_law 115 = .ok (.bipush 6, 2) := by decide +kernel
theorem dL_law_117 : decode cL_law 117 = .ok (.if_icmp .ge 56, 3) := by decide +kernel
theorem dL_law_120 : decode cL_law 120 = .ok (.aload_n 1, 1) := by decide +kernel
theorem dL_law_121 : decode cL_law 121 = .ok (.invokevirtual 44, 3) := by decide +kernel
theorem dL_law_124 : decode cL_law 124 = .ok (.istore 15, 2) := by decide +kernel
theorem dL_law_126 : decode cL_law 126 = .ok (.iload 15, 2) := by decide +kernel
theorem dL_law_128 : decode cL_law 128 = .ok (.ifCond .lt 17, 3) := by decide +kernel
theorem dL_law_131 : decode cL_law 131 = .ok (.iload 15, 2) := by decide +kernel
theorem dL_law_133 : decode cL_law 133 = .ok (.iconst 5, 1) := by decide +kernel
theorem dL_law_134 : decode cL_law 134 = .ok (.if_icmp .gt 11, 3) := by decide +kernel
theorem dL_law_137 : decode cL_law 137 = .ok (.aload_n 2, 1) := by decide +kernel
theorem dL_law_138 : decode cL_law 138 = .ok (.iload 15, 2) := by decide +kernel
theorem dL_law_140 : decode cL_law 140 = .ok (.iaload, 1) := by decide +kernel
theorem dL_law_141 : decode cL_law 141 = .ok (.iconst 1, 1) := by decide +kernel
theorem dL_law_142 : decode cL_law 142 = .ok (.if_icmp .ne 5, 3) := by decide +kernel
theorem dL_law_145 : decode cL_law 145 = .ok (.iconst 0, 1) := by decide +kernel
theorem dL_law_146 : decode cL_law 146 = .ok (.ireturn, 1) := by decide +kernel
theorem dL_law_147 : decode cL_law 147 = .ok (.aload_n 2, 1) := by decide +kernel
theorem dL_law_148 : decode cL_law 148 = .ok (.iload 15, 2) := by decide +kernel
theorem dL_law_150 : decode cL_law 150 = .ok (.iconst 1, 1) := by decide +kernel
theorem dL_law_151 : decode cL_law 151 = .ok (.iastore, 1) := by decide +kernel
theorem dL_law_152 : decode cL_law 152 = .ok (.aload_n 3, 1) := by decide +kernel
theorem dL_law_153 : decode cL_law 153 = .ok (.iload 15, 2) := by decide +kernel
theorem dL_law_155 : decode cL_law 155 = .ok (.iconst 3, 1) := by decide +kernel
theorem dL_law_156 : decode cL_law 156 = .ok (.iastore, 1) := by decide +kernel
theorem dL_law_157 : decode cL_law 157 = .ok (.aload 4, 2) := by decide +kernel
theorem dL_law_159 : decode cL_law 159 = .ok (.iload 15, 2) := by decide +kernel
theorem dL_law_161 : decode cL_law 161 = .ok (.bipush 100, 2) := by decide +kernel
theorem dL_law_163 : decode cL_law 163 = .ok (.iastore, 1) := by decide +kernel
theorem dL_law_164 : decode cL_law 164 = .ok (.aload 5, 2) := by decide +kernel
theorem dL_law_166 : decode cL_law 166 = .ok (.iload 15, 2) := by decide +kernel
theorem dL_law_168 : decode cL_law 168 = .ok (.iconst 0, 1) := by decide +kernel
theorem dL_law_169 : decode cL_law 169 = .ok (.iastore, 1) := by decide +kernel
theorem dL_law_170 : decode cL_law 170 = .ok (.goto 364, 3) := by decide +kernel
theorem dL_law_173 : decode cL_law 173 = .ok (.aload_n 2, 1) := by decide +kernel
theorem dL_law_174 : decode cL_law 174 = .ok (.iload 13, 2) := by decide +kernel
theorem dL_law_176 : decode cL_law 176 = .ok (.iaload, 1) := by decide +kernel
theorem dL_law_177 : decode cL_law 177 = .ok (.ifCond .ne 9, 3) := by decide +kernel
theorem dL_law_180 : decode cL_law 180 = .ok (.iconst 0, 1) := by decide +kernel
theorem dL_law_181 : decode cL_law 181 = .ok (.istore 14, 2) := by decide +kernel
theorem dL_law_183 : decode cL_law 183 = .ok (.goto 351, 3) := by decide +kernel
theorem dL_law_186 : decode cL_law 186 = .ok (.iload 12, 2) := by decide +kernel
theorem dL_law_188 : decode cL_law 188 = .ok (.iconst 2, 1) := by decide +kernel
theorem dL_law_189 : decode cL_law 189 = .ok (.if_icmp .ne 31, 3) := by decide +kernel
theorem dL_law_192 : decode cL_law 192 = .ok (.aload_n 1, 1) := by decide +kernel
theorem dL_law_193 : decode cL_law 193 = .ok (.iload 13, 2) := by decide +kernel
theorem dL_law_195 : decode cL_law 195 = .ok (.invokevirtual 47, 3) := by decide +kernel
theorem dL_law_198 : decode cL_law 198 = .ok (.aload_n 2, 1) := by decide +kernel
theorem dL_law_199 : decode cL_law 199 = .ok (.iload 13, 2) := by decide +kernel
theorem dL_law_201 : decode cL_law 201 = .ok (.iconst 0, 1) := by decide +kernel
theorem dL_law_202 : decode cL_law 202 = .ok (.iastore, 1) := by decide +kernel
theorem dL_law_203 : decode cL_law 203 = .ok (.aload 5, 2) := by decide +kernel
theorem dL_law_205 : decode cL_law 205 = .ok (.iload 13, 2) := by decide +kernel
theorem dL_law_207 : decode cL_law 207 = .ok (.iconst 0, 1) := by decide +kernel
theorem dL_law_208 : decode cL_law 208 = .ok (.iastore, 1) := by decide +kernel
theorem dL_law_209 : decode cL_law 209 = .ok (.aload_n 1, 1) := by decide +kernel
theorem dL_law_210 : decode cL_law 210 = .ok (.invokevirtual 51, 3) := by decide +kernel
theorem dL_law_213 : decode cL_law 213 = .ok (.iload 13, 2) := by decide +kernel
theorem dL_law_215 : decode cL_law 215 = .ok (.if_icmp .ne 319, 3) := by decide +kernel
theorem dL_law_218 : decode cL_law 218 = .ok (.iconst 0, 1) := by decide +kernel
theorem dL_law_219 : decode cL_law 219 = .ok (.ireturn, 1) := by decide +kernel
theorem dL_law_220 : decode cL_law 220 = .ok (.iload 12, 2) := by decide +kernel
theorem dL_law_222 : decode cL_law 222 = .ok (.bipush 6, 2) := by decide +kernel
theorem dL_law_224 : decode cL_law 224 = .ok (.if_icmp .ge 61, 3) := by decide +kernel
theorem dL_law_227 : decode cL_law 227 = .ok (.aload 6, 2) := by decide +kernel
theorem dL_law_229 : decode cL_law 229 = .ok (.iload 13, 2) := by decide +kernel
theorem dL_law_231 : decode cL_law 231 = .ok (.iconst 1, 1) := by decide +kernel
theorem dL_law_232 : decode cL_law 232 = .ok (.iload 11, 2) := by decide +kernel
theorem dL_law_234 : decode cL_law 234 = .ok (.iconst 3, 1) := by decide +kernel
theorem dL_law_235 : decode cL_law 235 = .ok (.ishr, 1) := by decide +kernel
theorem dL_law_236 : decode cL_law 236 = .ok (.bipush 60, 2) := by decide +kernel
theorem dL_law_238 : decode cL_law 238 = .ok (.invokestatic 37, 3) := by decide +kernel
theorem dL_law_241 : decode cL_law 241 = .ok (.iadd, 1) := by decide +kernel
theorem dL_law_242 : decode cL_law 242 = .ok (.iastore, 1) := by decide +kernel
theorem dL_law_243 : decode cL_law 243 = .ok (.aload 7, 2) := by decide +kernel
theorem dL_law_245 : decode cL_law 245 = .ok (.iload 13, 2) := by decide +kernel
theorem dL_law_247 : decode cL_law 247 = .ok (.iconst 1, 1) := by decide +kernel
theorem dL_law_248 : decode cL_law 248 = .ok (.iload 11, 2) := by decide +kernel
theorem dL_law_250 : decode cL_law 250 = .ok (.bipush 9, 2) := by decide +kernel
theorem dL_law_252 : decode cL_law 252 = .ok (.ishr, 1) := by decide +kernel
theorem dL_law_253 : decode cL_law 253 = .ok (.bipush 60, 2) := by decide +kernel
theorem dL_law_255 : decode cL_law 255 = .ok (.invokestatic 37, 3) := by decide +kernel
theorem dL_law_258 : decode cL_law 258 = .ok (.iadd, 1) := by decide +kernel
theorem dL_law_259 : decode cL_law 259 = .ok (.iastore, 1) := by decide +kernel
theorem dL_law_260 : decode cL_law 260 = .ok (.aload 5, 2) := by decide +kernel
theorem dL_law_262 : decode cL_law 262 = .ok (.iload 13, 2) := by decide +kernel
theorem dL_law_264 : decode cL_law 264 = .ok (.iconst 1, 1) := by decide +kernel
theorem dL_law_265 : decode cL_law 265 = .ok (.iastore, 1) := by decide +kernel
theorem dL_law_266 : decode cL_law 266 = .ok (.aload_n 1, 1) := by decide +kernel
theorem dL_law_267 : decode cL_law 267 = .ok (.iload 13, 2) := by decide +kernel
theorem dL_law_269 : decode cL_law 269 = .ok (.aload 6, 2) := by decide +kernel
theorem dL_law_271 : decode cL_law 271 = .ok (.iload 13, 2) := by decide +kernel
theorem dL_law_273 : decode cL_law 273 = .ok (.iaload, 1) := by decide +kernel
theorem dL_law_274 : decode cL_law 274 = .ok (.aload 7, 2) := by decide +kernel
theorem dL_law_276 : decode cL_law 276 = .ok (.iload 13, 2) := by decide +kernel
theorem dL_law_278 : decode cL_law 278 = .ok (.iaload, 1) := by decide +kernel
theorem dL_law_279 : decode cL_law 279 = .ok (.invokevirtual 54, 3) := by decide +kernel
theorem dL_law_282 : decode cL_law 282 = .ok (.goto 252, 3) := by decide +kernel
theorem dL_law_285 : decode cL_law 285 = .ok (.iload 12, 2) := by decide +kernel
theorem dL_law_287 : decode cL_law 287 = .ok (.bipush 6, 2) := by decide +kernel
theorem dL_law_289 : decode cL_law 289 = .ok (.if_icmp .ne 27, 3) := by decide +kernel
theorem dL_law_292 : decode cL_law 292 = .ok (.aload 5, 2) := by decide +kernel
theorem dL_law_294 : decode cL_law 294 = .ok (.iload 13, 2) := by decide +kernel
theorem dL_law_296 : decode cL_law 296 = .ok (.iaload, 1) := by decide +kernel
theorem dL_law_297 : decode cL_law 297 = .ok (.iconst 1, 1) := by decide +kernel
theorem dL_law_298 : decode cL_law 298 = .ok (.if_icmp .ne 18, 3) := by decide +kernel
theorem dL_law_301 : decode cL_law 301 = .ok (.aload_n 1, 1) := by decide +kernel
theorem dL_law_302 : decode cL_law 302 = .ok (.iload 13, 2) := by decide +kernel
theorem dL_law_304 : decode cL_law 304 = .ok (.invokevirtual 58, 3) := by decide +kernel
theorem dL_law_307 : decode cL_law 307 = .ok (.aload 5, 2) := by decide +kernel
theorem dL_law_309 : decode cL_law 309 = .ok (.iload 13, 2) := by decide +kernel
theorem dL_law_311 : decode cL_law 311 = .ok (.iconst 0, 1) := by decide +kernel
theorem dL_law_312 : decode cL_law 312 = .ok (.iastore, 1) := by decide +kernel
theorem dL_law_313 : decode cL_law 313 = .ok (.goto 221, 3) := by decide +kernel
theorem dL_law_316 : decode cL_law 316 = .ok (.iload 12, 2) := by decide +kernel
theorem dL_law_318 : decode cL_law 318 = .ok (.bipush 7, 2) := by decide +kernel
theorem dL_law_320 : decode cL_law 320 = .ok (.if_icmp .ne 30, 3) := by decide +kernel
theorem dL_law_323 : decode cL_law 323 = .ok (.aload_n 3, 1) := by decide +kernel
theorem dL_law_324 : decode cL_law 324 = .ok (.iload 13, 2) := by decide +kernel
theorem dL_law_326 : decode cL_law 326 = .ok (.iload 11, 2) := by decide +kernel
theorem dL_law_328 : decode cL_law 328 = .ok (.iconst 3, 1) := by decide +kernel
theorem dL_law_329 : decode cL_law 329 = .ok (.ishr, 1) := by decide +kernel
theorem dL_law_330 : decode cL_law 330 = .ok (.bipush 6, 2) := by decide +kernel
theorem dL_law_332 : decode cL_law 332 = .ok (.invokestatic 37, 3) := by decide +kernel
theorem dL_law_335 : decode cL_law 335 = .ok (.iastore, 1) := by decide +kernel
theorem dL_law_336 : decode cL_law 336 = .ok (.aload_n 1, 1) := by decide +kernel
theorem dL_law_337 : decode cL_law 337 = .ok (.iload 13, 2) := by decide +kernel
theorem dL_law_339 : decode cL_law 339 = .ok (.aload_n 3, 1) := by decide +kernel
theorem dL_law_340 : decode cL_law 340 = .ok (.iload 13, 2) := by decide +kernel
theorem dL_law_342 : decode cL_law 342 = .ok (.iaload, 1) := by decide +kernel
theorem dL_law_343 : decode cL_law 343 = .ok (.invokevirtual 61, 3) := by decide +kernel
theorem dL_law_346 : decode cL_law 346 = .ok (.pop, 1) := by decide +kernel
theorem dL_law_347 : decode cL_law 347 = .ok (.goto 187, 3) := by decide +kernel
theorem dL_law_350 : decode cL_law 350 = .ok (.iload 12, 2) := by decide +kernel
theorem dL_law_352 : decode cL_law 352 = .ok (.bipush 8, 2) := by decide +kernel
theorem dL_law_354 : decode cL_law 354 = .ok (.if_icmp .ne 33, 3) := by decide +kernel
theorem dL_law_357 : decode cL_law 357 = .ok (.aload 4, 2) := by decide +kernel
theorem dL_law_359 : decode cL_law 359 = .ok (.iload 13, 2) := by decide +kernel
theorem dL_law_361 : decode cL_law 361 = .ok (.iload 11, 2) := by decide +kernel
theorem dL_law_363 : decode cL_law 363 = .ok (.iconst 3, 1) := by decide +kernel
theorem dL_law_364 : decode cL_law 364 = .ok (.ishr, 1) := by decide +kernel
theorem dL_law_365 : decode cL_law 365 = .ok (.sipush 400, 3) := by decide +kernel
theorem dL_law_368 : decode cL_law 368 = .ok (.invokestatic 37, 3) := by decide +kernel
theorem dL_law_371 : decode cL_law 371 = .ok (.iastore, 1) := by decide +kernel
theorem dL_law_372 : decode cL_law 372 = .ok (.aload_n 1, 1) := by decide +kernel
theorem dL_law_373 : decode cL_law 373 = .ok (.iload 13, 2) := by decide +kernel
theorem dL_law_375 : decode cL_law 375 = .ok (.aload 4, 2) := by decide +kernel
theorem dL_law_377 : decode cL_law 377 = .ok (.iload 13, 2) := by decide +kernel
theorem dL_law_379 : decode cL_law 379 = .ok (.iaload, 1) := by decide +kernel
theorem dL_law_380 : decode cL_law 380 = .ok (.invokevirtual 64, 3) := by decide +kernel
theorem dL_law_383 : decode cL_law 383 = .ok (.pop, 1) := by decide +kernel
theorem dL_law_384 : decode cL_law 384 = .ok (.goto 150, 3) := by decide +kernel
theorem dL_law_387 : decode cL_law 387 = .ok (.iload 12, 2) := by decide +kernel
theorem dL_law_389 : decode cL_law 389 = .ok (.bipush 11, 2) := by decide +kernel
theorem dL_law_391 : decode cL_law 391 = .ok (.if_icmp .ge 22, 3) := by decide +kernel
theorem dL_law_394 : decode cL_law 394 = .ok (.aload_n 1, 1) := by decide +kernel
theorem dL_law_395 : decode cL_law 395 = .ok (.iload 13, 2) := by decide +kernel
theorem dL_law_397 : decode cL_law 397 = .ok (.iload 11, 2) := by decide +kernel
theorem dL_law_399 : decode cL_law 399 = .ok (.iconst 3, 1) := by decide +kernel
theorem dL_law_400 : decode cL_law 400 = .ok (.ishr, 1) := by decide +kernel
theorem dL_law_401 : decode cL_law 401 = .ok (.bipush 101, 2) := by decide +kernel
theorem dL_law_403 : decode cL_law 403 = .ok (.invokestatic 37, 3) := by decide +kernel
theorem dL_law_406 : decode cL_law 406 = .ok (.invokevirtual 67, 3) := by decide +kernel
theorem dL_law_409 : decode cL_law 409 = .ok (.pop, 1) := by decide +kernel
theorem dL_law_410 : decode cL_law 410 = .ok (.goto 124, 3) := by decide +kernel
theorem dL_law_413 : decode cL_law 413 = .ok (.iload 12, 2) := by decide +kernel
theorem dL_law_415 : decode cL_law 415 = .ok (.bipush 11, 2) := by decide +kernel
theorem dL_law_417 : decode cL_law 417 = .ok (.if_icmp .ne 13, 3) := by decide +kernel
theorem dL_law_420 : decode cL_law 420 = .ok (.aload_n 1, 1) := by decide +kernel
theorem dL_law_421 : decode cL_law 421 = .ok (.iload 13, 2) := by decide +kernel
theorem dL_law_423 : decode cL_law 423 = .ok (.invokevirtual 70, 3) := by decide +kernel
theorem dL_law_426 : decode cL_law 426 = .ok (.pop, 1) := by decide +kernel
theorem dL_law_427 : decode cL_law 427 = .ok (.goto 107, 3) := by decide +kernel
theorem dL_law_430 : decode cL_law 430 = .ok (.iload 12, 2) := by decide +kernel
theorem dL_law_432 : decode cL_law 432 = .ok (.bipush 12, 2) := by decide +kernel
theorem dL_law_434 : decode cL_law 434 = .ok (.if_icmp .ne 71, 3) := by decide +kernel
theorem dL_law_437 : decode cL_law 437 = .ok (.iload 11, 2) := by decide +kernel
theorem dL_law_439 : decode cL_law 439 = .ok (.iconst 3, 1) := by decide +kernel
theorem dL_law_440 : decode cL_law 440 = .ok (.ishr, 1) := by decide +kernel
theorem dL_law_441 : decode cL_law 441 = .ok (.bipush 6, 2) := by decide +kernel
theorem dL_law_443 : decode cL_law 443 = .ok (.invokestatic 37, 3) := by decide +kernel
theorem dL_law_446 : decode cL_law 446 = .ok (.istore 15, 2) := by decide +kernel
theorem dL_law_448 : decode cL_law 448 = .ok (.iload 15, 2) := by decide +kernel
theorem dL_law_450 : decode cL_law 450 = .ok (.iload 13, 2) := by decide +kernel
theorem dL_law_452 : decode cL_law 452 = .ok (.if_icmp .eq 50, 3) := by decide +kernel
theorem dL_law_455 : decode cL_law 455 = .ok (.aload_n 2, 1) := by decide +kernel
theorem dL_law_456 : decode cL_law 456 = .ok (.iload 15, 2) := by decide +kernel
theorem dL_law_458 : decode cL_law 458 = .ok (.iaload, 1) := by decide +kernel
theorem dL_law_459 : decode cL_law 459 = .ok (.iconst 1, 1) := by decide +kernel
theorem dL_law_460 : decode cL_law 460 = .ok (.if_icmp .ne 42, 3) := by decide +kernel
theorem dL_law_463 : decode cL_law 463 = .ok (.aload_n 1, 1) := by decide +kernel
theorem dL_law_464 : decode cL_law 464 = .ok (.iload 13, 2) := by decide +kernel
theorem dL_law_466 : decode cL_law 466 = .ok (.iload 15, 2) := by decide +kernel
theorem dL_law_468 : decode cL_law 468 = .ok (.invokevirtual 74, 3) := by decide +kernel
theorem dL_law_471 : decode cL_law 471 = .ok (.pop, 1) := by decide +kernel
theorem dL_law_472 : decode cL_law 472 = .ok (.aload 5, 2) := by decide +kernel
theorem dL_law_474 : decode cL_law 474 = .ok (.iload 15, 2) := by decide +kernel
theorem dL_law_476 : decode cL_law 476 = .ok (.iaload, 1) := by decide +kernel
theorem dL_law_477 : decode cL_law 477 = .ok (.iconst 1, 1) := by decide +kernel
theorem dL_law_478 : decode cL_law 478 = .ok (.if_icmp .ne 24, 3) := by decide +kernel
theorem dL_law_481 : decode cL_law 481 = .ok (.aload_n 3, 1) := by decide +kernel
theorem dL_law_482 : decode cL_law 482 = .ok (.iload 13, 2) := by decide +kernel
theorem dL_law_484 : decode cL_law 484 = .ok (.iaload, 1) := by decide +kernel
theorem dL_law_485 : decode cL_law 485 = .ok (.ifCond .le 17, 3) := by decide +kernel
theorem dL_law_488 : decode cL_law 488 = .ok (.aload_n 1, 1) := by decide +kernel
theorem dL_law_489 : decode cL_law 489 = .ok (.iload 13, 2) := by decide +kernel
theorem dL_law_491 : decode cL_law 491 = .ok (.iconst 0, 1) := by decide +kernel
theorem dL_law_492 : decode cL_law 492 = .ok (.invokevirtual 14, 3) := by decide +kernel
theorem dL_law_495 : decode cL_law 495 = .ok (.iload 15, 2) := by decide +kernel
theorem dL_law_497 : decode cL_law 497 = .ok (.if_icmp .eq 5, 3) := by decide +kernel
theorem dL_law_500 : decode cL_law 500 = .ok (.iconst 0, 1) := by decide +kernel
theorem dL_law_501 : decode cL_law 501 = .ok (.ireturn, 1) := by decide +kernel
theorem dL_law_502 : decode cL_law 502 = .ok (.goto 32, 3) := by decide +kernel
theorem dL_law_505 : decode cL_law 505 = .ok (.iconst 1, 1) := by decide +kernel
theorem dL_law_506 : decode cL_law 506 = .ok (.iload 11, 2) := by decide +kernel
theorem dL_law_508 : decode cL_law 508 = .ok (.iconst 3, 1) := by decide +kernel
theorem dL_law_509 : decode cL_law 509 = .ok (.ishr, 1) := by decide +kernel
theorem dL_law_510 : decode cL_law 510 = .ok (.iconst 4, 1) := by decide +kernel
theorem dL_law_511 : decode cL_law 511 = .ok (.invokestatic 37, 3) := by decide +kernel
theorem dL_law_514 : decode cL_law 514 = .ok (.iadd, 1) := by decide +kernel
theorem dL_law_515 : decode cL_law 515 = .ok (.istore 15, 2) := by decide +kernel
theorem dL_law_517 : decode cL_law 517 = .ok (.aload_n 1, 1) := by decide +kernel
theorem dL_law_518 : decode cL_law 518 = .ok (.iload 15, 2) := by decide +kernel
theorem dL_law_520 : decode cL_law 520 = .ok (.invokevirtual 77, 3) := by decide +kernel
theorem dL_law_523 : decode cL_law 523 = .ok (.pop, 1) := by decide +kernel
theorem dL_law_524 : decode cL_law 524 = .ok (.iload 8, 2) := by decide +kernel
theorem dL_law_526 : decode cL_law 526 = .ok (.iload 15, 2) := by decide +kernel
theorem dL_law_528 : decode cL_law 528 = .ok (.iadd, 1) := by decide +kernel
theorem dL_law_529 : decode cL_law 529 = .ok (.istore 8, 2) := by decide +kernel
theorem dL_law_531 : decode cL_law 531 = .ok (.iconst 1, 1) := by decide +kernel
theorem dL_law_532 : decode cL_law 532 = .ok (.istore 14, 2) := by decide +kernel
theorem dL_law_534 : decode cL_law 534 = .ok (.aload_n 1, 1) := by decide +kernel
theorem dL_law_535 : decode cL_law 535 = .ok (.invokevirtual 80, 3) := by decide +kernel
theorem dL_law_538 : decode cL_law 538 = .ok (.iload 8, 2) := by decide +kernel
theorem dL_law_540 : decode cL_law 540 = .ok (.if_icmp .ne 25, 3) := by decide +kernel
theorem dL_law_543 : decode cL_law 543 = .ok (.aload_n 1, 1) := by decide +kernel
theorem dL_law_544 : decode cL_law 544 = .ok (.invokevirtual 51, 3) := by decide +kernel
theorem dL_law_547 : decode cL_law 547 = .ok (.iconst (-1), 1) := by decide +kernel
theorem dL_law_548 : decode cL_law 548 = .ok (.if_icmp .eq 13, 3) := by decide +kernel
theorem dL_law_551 : decode cL_law 551 = .ok (.aload_n 2, 1) := by decide +kernel
theorem dL_law_552 : decode cL_law 552 = .ok (.aload_n 1, 1) := by decide +kernel
theorem dL_law_553 : decode cL_law 553 = .ok (.invokevirtual 51, 3) := by decide +kernel
theorem dL_law_556 : decode cL_law 556 = .ok (.iaload, 1) := by decide +kernel
theorem dL_law_557 : decode cL_law 557 = .ok (.iconst 1, 1) := by decide +kernel
theorem dL_law_558 : decode cL_law 558 = .ok (.if_icmp .ne 7, 3) := by decide +kernel
theorem dL_law_561 : decode cL_law 561 = .ok (.iconst 1, 1) := by decide +kernel
theorem dL_law_562 : decode cL_law 562 = .ok (.goto 4, 3) := by decide +kernel
theorem dL_law_565 : decode cL_law 565 = .ok (.iconst 0, 1) := by decide +kernel
theorem dL_law_566 : decode cL_law 566 = .ok (.istore 15, 2) := by decide +kernel
theorem dL_law_568 : decode cL_law 568 = .ok (.iconst 0, 1) := by decide +kernel
theorem dL_law_569 : decode cL_law 569 = .ok (.istore 16, 2) := by decide +kernel
theorem dL_law_571 : decode cL_law 571 = .ok (.iload 16, 2) := by decide +kernel
theorem dL_law_573 : decode cL_law 573 = .ok (.bipush 6, 2) := by decide +kernel
theorem dL_law_575 : decode cL_law 575 = .ok (.if_icmp .ge 64, 3) := by decide +kernel
theorem dL_law_578 : decode cL_law 578 = .ok (.iload 15, 2) := by decide +kernel
theorem dL_law_580 : decode cL_law 580 = .ok (.ifCond .eq 59, 3) := by decide +kernel
theorem dL_law_583 : decode cL_law 583 = .ok (.aload_n 2, 1) := by decide +kernel
theorem dL_law_584 : decode cL_law 584 = .ok (.iload 16, 2) := by decide +kernel
theorem dL_law_586 : decode cL_law 586 = .ok (.iaload, 1) := by decide +kernel
theorem dL_law_587 : decode cL_law 587 = .ok (.ifCond .eq 39, 3) := by decide +kernel
theorem dL_law_590 : decode cL_law 590 = .ok (.aload_n 1, 1) := by decide +kernel
theorem dL_law_591 : decode cL_law 591 = .ok (.aload_n 2, 1) := by decide +kernel
theorem dL_law_592 : decode cL_law 592 = .ok (.aload_n 3, 1) := by decide +kernel
theorem dL_law_593 : decode cL_law 593 = .ok (.aload 4, 2) := by decide +kernel
theorem dL_law_595 : decode cL_law 595 = .ok (.aload 5, 2) := by decide +kernel
theorem dL_law_597 : decode cL_law 597 = .ok (.aload 6, 2) := by decide +kernel
theorem dL_law_599 : decode cL_law 599 = .ok (.aload 7, 2) := by decide +kernel
theorem dL_law_601 : decode cL_law 601 = .ok (.iload 16, 2) := by decide +kernel
theorem dL_law_603 : decode cL_law 603 = .ok (.invokestatic 83, 3) := by decide +kernel
theorem dL_law_606 : decode cL_law 606 = .ok (.ifCond .eq 24, 3) := by decide +kernel
theorem dL_law_609 : decode cL_law 609 = .ok (.iload 14, 2) := by decide +kernel
theorem dL_law_611 : decode cL_law 611 = .ok (.ifCond .eq 15, 3) := by decide +kernel
theorem dL_law_614 : decode cL_law 614 = .ok (.aload_n 1, 1) := by decide +kernel
theorem dL_law_615 : decode cL_law 615 = .ok (.aload_n 2, 1) := by decide +kernel
theorem dL_law_616 : decode cL_law 616 = .ok (.aload 4, 2) := by decide +kernel
theorem dL_law_618 : decode cL_law 618 = .ok (.iload 16, 2) := by decide +kernel
theorem dL_law_620 : decode cL_law 620 = .ok (.invokestatic 87, 3) := by decide +kernel
theorem dL_law_623 : decode cL_law 623 = .ok (.ifCond .eq 7, 3) := by decide +kernel
theorem dL_law_626 : decode cL_law 626 = .ok (.iconst 1, 1) := by decide +kernel
theorem dL_law_627 : decode cL_law 627 = .ok (.goto 4, 3) := by decide +kernel
theorem dL_law_630 : decode cL_law 630 = .ok (.iconst 0, 1) := by decide +kernel
theorem dL_law_631 : decode cL_law 631 = .ok (.istore 15, 2) := by decide +kernel
theorem dL_law_633 : decode cL_law 633 = .ok (.iinc 16 1, 3) := by decide +kernel
theorem dL_law_636 : decode cL_law 636 = .ok (.goto (-65), 3) := by decide +kernel
theorem dL_law_639 : decode cL_law 639 = .ok (.iload 15, 2) := by decide +kernel
theorem dL_law_641 : decode cL_law 641 = .ok (.ifCond .ne 5, 3) := by decide +kernel
theorem dL_law_644 : decode cL_law 644 = .ok (.iconst 0, 1) := by decide +kernel
theorem dL_law_645 : decode cL_law 645 = .ok (.ireturn, 1) := by decide +kernel
theorem dL_law_646 : decode cL_law 646 = .ok (.iinc 9 1, 3) := by decide +kernel
theorem dL_law_649 : decode cL_law 649 = .ok (.goto (-601), 3) := by decide +kernel
theorem dL_law_652 : decode cL_law 652 = .ok (.iconst 1, 1) := by decide +kernel
theorem dL_law_653 : decode cL_law 653 = .ok (.ireturn, 1) := by decide +kernel
