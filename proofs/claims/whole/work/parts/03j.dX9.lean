theorem dX9_init_0 : decode cX9_init 0 = .ok (.aload_n 0, 1) := by decide +kernel
theorem dX9_init_1 : decode cX9_init 1 = .ok (.invokespecial 1, 3) := by decide +kernel
theorem dX9_init_4 : decode cX9_init 4 = .ok (.aload_n 0, 1) := by decide +kernel
theorem dX9_init_5 : decode cX9_init 5 = .ok (.bipush 80, 2) := by decide +kernel
theorem dX9_init_7 : decode cX9_init 7 = .ok (.newarray .int, 2) := by decide +kernel
theorem dX9_init_9 : decode cX9_init 9 = .ok (.putfield 7, 3) := by decide +kernel
theorem dX9_init_12 : decode cX9_init 12 = .ok (.aload_n 0, 1) := by decide +kernel
theorem dX9_init_13 : decode cX9_init 13 = .ok (.bipush 23, 2) := by decide +kernel
theorem dX9_init_15 : decode cX9_init 15 = .ok (.newarray .int, 2) := by decide +kernel
theorem dX9_init_17 : decode cX9_init 17 = .ok (.putfield 13, 3) := by decide +kernel
theorem dX9_init_20 : decode cX9_init 20 = .ok (.aload_n 0, 1) := by decide +kernel
theorem dX9_init_21 : decode cX9_init 21 = .ok (.bipush 23, 2) := by decide +kernel
theorem dX9_init_23 : decode cX9_init 23 = .ok (.newarray .int, 2) := by decide +kernel
theorem dX9_init_25 : decode cX9_init 25 = .ok (.putfield 16, 3) := by decide +kernel
theorem dX9_init_28 : decode cX9_init 28 = .ok (.aload_n 0, 1) := by decide +kernel
theorem dX9_init_29 : decode cX9_init 29 = .ok (.bipush 23, 2) := by decide +kernel
theorem dX9_init_31 : decode cX9_init 31 = .ok (.newarray .int, 2) := by decide +kernel
theorem dX9_init_33 : decode cX9_init 33 = .ok (.putfield 19, 3) := by decide +kernel
theorem dX9_init_36 : decode cX9_init 36 = .ok (.aload_n 0, 1) := by decide +kernel
theorem dX9_init_37 : decode cX9_init 37 = .ok (.bipush 6, 2) := by decide +kernel
theorem dX9_init_39 : decode cX9_init 39 = .ok (.newarray .int, 2) := by decide +kernel
theorem dX9_init_41 : decode cX9_init 41 = .ok (.putfield 22, 3) := by decide +kernel
theorem dX9_init_44 : decode cX9_init 44 = .ok (.aload_n 0, 1) := by decide +kernel
theorem dX9_init_45 : decode cX9_init 45 = .ok (.bipush 6, 2) := by decide +kernel
theorem dX9_init_47 : decode cX9_init 47 = .ok (.newarray .int, 2) := by decide +kernel
theorem dX9_init_49 : decode cX9_init 49 = .ok (.putfield 25, 3) := by decide +kernel
theorem dX9_init_52 : decode cX9_init 52 = .ok (.aload_n 0, 1) := by decide +kernel
theorem dX9_init_53 : decode cX9_init 53 = .ok (.bipush 6, 2) := by decide +kernel
theorem dX9_init_55 : decode cX9_init 55 = .ok (.newarray .int, 2) := by decide +kernel
theorem dX9_init_57 : decode cX9_init 57 = .ok (.putfield 28, 3) := by decide +kernel
theorem dX9_init_60 : decode cX9_init 60 = .ok (.aload_n 0, 1) := by decide +kernel
theorem dX9_init_61 : decode cX9_init 61 = .ok (.sipush 1600, 3) := by decide +kernel
theorem dX9_init_64 : decode cX9_init 64 = .ok (.newarray .int, 2) := by decide +kernel
theorem dX9_init_66 : decode cX9_init 66 = .ok (.putfield 31, 3) := by decide +kernel
theorem dX9_init_69 : decode cX9_init 69 = .ok (.aload_n 0, 1) := by decide +kernel
theorem dX9_init_70 : decode cX9_init 70 = .ok (.bipush 20, 2) := by decide +kernel
theorem dX9_init_72 : decode cX9_init 72 = .ok (.newarray .int, 2) := by decide +kernel
theorem dX9_init_74 : decode cX9_init 74 = .ok (.putfield 34, 3) := by decide +kernel
theorem dX9_init_77 : decode cX9_init 77 = .ok (.aload_n 0, 1) := by decide +kernel
theorem dX9_init_78 : decode cX9_init 78 = .ok (.bipush 20, 2) := by decide +kernel
theorem dX9_init_80 : decode cX9_init 80 = .ok (.newarray .int, 2) := by decide +kernel
theorem dX9_init_82 : decode cX9_init 82 = .ok (.putfield 37, 3) := by decide +kernel
theorem dX9_init_85 : decode cX9_init 85 = .ok (.aload_n 0, 1) := by decide +kernel
theorem dX9_init_86 : decode cX9_init 86 = .ok (.sipush 460, 3) := by decide +kernel
theorem dX9_init_89 : decode cX9_init 89 = .ok (.newarray .int, 2) := by decide +kernel
theorem dX9_init_91 : decode cX9_init 91 = .ok (.putfield 40, 3) := by decide +kernel
theorem dX9_init_94 : decode cX9_init 94 = .ok (.aload_n 0, 1) := by decide +kernel
theorem dX9_init_95 : decode cX9_init 95 = .ok (.sipush 460, 3) := by decide +kernel
theorem dX9_init_98 : decode cX9_init 98 = .ok (.newarray .int, 2) := by decide +kernel
theorem dX9_init_100 : decode cX9_init 100 = .ok (.putfield 43, 3) := by decide +kernel
theorem dX9_init_103 : decode cX9_init 103 = .ok (.aload_n 0, 1) := by decide +kernel
theorem dX9_init_104 : decode cX9_init 104 = .ok (.sipush 460, 3) := by decide +kernel
theorem dX9_init_107 : decode cX9_init 107 = .ok (.newarray .int, 2) := by decide +kernel
theorem dX9_init_109 : decode cX9_init 109 = .ok (.putfield 46, 3) := by decide +kernel
theorem dX9_init_112 : decode cX9_init 112 = .ok (.aload_n 0, 1) := by decide +kernel
theorem dX9_init_113 : decode cX9_init 113 = .ok (.sipush 240, 3) := by decide +kernel
theorem dX9_init_116 : decode cX9_init 116 = .ok (.newarray .int, 2) := by decide +kernel
theorem dX9_init_118 : decode cX9_init 118 = .ok (.putfield 49, 3) := by decide +kernel
theorem dX9_init_121 : decode cX9_init 121 = .ok (.aload_n 0, 1) := by decide +kernel
theorem dX9_init_122 : decode cX9_init 122 = .ok (.bipush 20, 2) := by decide +kernel
theorem dX9_init_124 : decode cX9_init 124 = .ok (.newarray .int, 2) := by decide +kernel
theorem dX9_init_126 : decode cX9_init 126 = .ok (.putfield 52, 3) := by decide +kernel
theorem dX9_init_129 : decode cX9_init 129 = .ok (.aload_n 0, 1) := by decide +kernel
theorem dX9_init_130 : decode cX9_init 130 = .ok (.bipush 60, 2) := by decide +kernel
theorem dX9_init_132 : decode cX9_init 132 = .ok (.newarray .int, 2) := by decide +kernel
theorem dX9_init_134 : decode cX9_init 134 = .ok (.putfield 55, 3) := by decide +kernel
theorem dX9_init_137 : decode cX9_init 137 = .ok (.aload_n 0, 1) := by decide +kernel
theorem dX9_init_138 : decode cX9_init 138 = .ok (.iconst 4, 1) := by decide +kernel
theorem dX9_init_139 : decode cX9_init 139 = .ok (.newarray .int, 2) := by decide +kernel
theorem dX9_init_141 : decode cX9_init 141 = .ok (.putfield 58, 3) := by decide +kernel
theorem dX9_init_144 : decode cX9_init 144 = .ok (.aload_n 0, 1) := by decide +kernel
theorem dX9_init_145 : decode cX9_init 145 = .ok (.bipush 6, 2) := by decide +kernel
theorem dX9_init_147 : decode cX9_init 147 = .ok (.newarray .int, 2) := by decide +kernel
theorem dX9_init_149 : decode cX9_init 149 = .ok (.putfield 61, 3) := by decide +kernel
theorem dX9_init_152 : decode cX9_init 152 = .ok (.aload_n 0, 1) := by decide +kernel
theorem dX9_init_153 : decode cX9_init 153 = .ok (.sipush 230, 3) := by decide +kernel
theorem dX9_init_156 : decode cX9_init 156 = .ok (.newarray .int, 2) := by decide +kernel
theorem dX9_init_158 : decode cX9_init 158 = .ok (.putfield 64, 3) := by decide +kernel
theorem dX9_init_161 : decode cX9_init 161 = .ok (.aload_n 0, 1) := by decide +kernel
theorem dX9_init_162 : decode cX9_init 162 = .ok (.sipush 230, 3) := by decide +kernel
theorem dX9_init_165 : decode cX9_init 165 = .ok (.newarray .int, 2) := by decide +kernel
theorem dX9_init_167 : decode cX9_init 167 = .ok (.putfield 67, 3) := by decide +kernel
theorem dX9_init_170 : decode cX9_init 170 = .ok (.aload_n 0, 1) := by decide +kernel
theorem dX9_init_171 : decode cX9_init 171 = .ok (.sipush 230, 3) := by decide +kernel
theorem dX9_init_174 : decode cX9_init 174 = .ok (.newarray .int, 2) := by decide +kernel
theorem dX9_init_176 : decode cX9_init 176 = .ok (.putfield 70, 3) := by decide +kernel
theorem dX9_init_179 : decode cX9_init 179 = .ok (.aload_n 0, 1) := by decide +kernel
theorem dX9_init_180 : decode cX9_init 180 = .ok (.sipush 230, 3) := by decide +kernel
theorem dX9_init_183 : decode cX9_init 183 = .ok (.newarray .int, 2) := by decide +kernel
theorem dX9_init_185 : decode cX9_init 185 = .ok (.putfield 73, 3) := by decide +kernel
theorem dX9_init_188 : decode cX9_init 188 = .ok (.aload_n 0, 1) := by decide +kernel
theorem dX9_init_189 : decode cX9_init 189 = .ok (.sipush 230, 3) := by decide +kernel
theorem dX9_init_192 : decode cX9_init 192 = .ok (.newarray .int, 2) := by decide +kernel
theorem dX9_init_194 : decode cX9_init 194 = .ok (.putfield 76, 3) := by decide +kernel
theorem dX9_init_197 : decode cX9_init 197 = .ok (.aload_n 0, 1) := by decide +kernel
theorem dX9_init_198 : decode cX9_init 198 = .ok (.sipush 230, 3) := by decide +kernel
theorem dX9_init_201 : decode cX9_init 201 = .ok (.newarray .int, 2) := by decide +kernel
theorem dX9_init_203 : decode cX9_init 203 = .ok (.putfield 79, 3) := by decide +kernel
theorem dX9_init_206 : decode cX9_init 206 = .ok (.aload_n 0, 1) := by decide +kernel
theorem dX9_init_207 : decode cX9_init 207 = .ok (.sipush 230, 3) := by decide +kernel
theorem dX9_init_210 : decode cX9_init 210 = .ok (.newarray .boolean, 2) := by decide +kernel
theorem dX9_init_212 : decode cX9_init 212 = .ok (.putfield 82, 3) := by decide +kernel
theorem dX9_init_215 : decode cX9_init 215 = .ok (.aload_n 0, 1) := by decide +kernel
theorem dX9_init_216 : decode cX9_init 216 = .ok (.sipush 230, 3) := by decide +kernel
theorem dX9_init_219 : decode cX9_init 219 = .ok (.newarray .int, 2) := by decide +kernel
theorem dX9_init_221 : decode cX9_init 221 = .ok (.putfield 86, 3) := by decide +kernel
theorem dX9_init_224 : decode cX9_init 224 = .ok (.aload_n 0, 1) := by decide +kernel
theorem dX9_init_225 : decode cX9_init 225 = .ok (.ldc 89, 2) := by decide +kernel
theorem dX9_init_227 : decode cX9_init 227 = .ok (.newarray .int, 2) := by decide +kernel
theorem dX9_init_229 : decode cX9_init 229 = .ok (.putfield 90, 3) := by decide +kernel
theorem dX9_init_232 : decode cX9_init 232 = .ok (.aload_n 0, 1) := by decide +kernel
theorem dX9_init_233 : decode cX9_init 233 = .ok (.sipush 20000, 3) := by decide +kernel
theorem dX9_init_236 : decode cX9_init 236 = .ok (.newarray .long, 2) := by decide +kernel
theorem dX9_init_238 : decode cX9_init 238 = .ok (.putfield 93, 3) := by decide +kernel
theorem dX9_init_241 : decode cX9_init 241 = .ok (.aload_n 0, 1) := by decide +kernel
theorem dX9_init_242 : decode cX9_init 242 = .ok (.sipush 20000, 3) := by decide +kernel
theorem dX9_init_245 : decode cX9_init 245 = .ok (.newarray .boolean, 2) := by decide +kernel
theorem dX9_init_247 : decode cX9_init 247 = .ok (.putfield 97, 3) := by decide +kernel
theorem dX9_init_250 : decode cX9_init 250 = .ok (.aload_n 0, 1) := by decide +kernel
theorem dX9_init_251 : decode cX9_init 251 = .ok (.sipush 20000, 3) := by decide +kernel
theorem dX9_init_254 : decode cX9_init 254 = .ok (.newarray .int, 2) := by decide +kernel
theorem dX9_init_256 : decode cX9_init 256 = .ok (.putfield 100, 3) := by decide +kernel
theorem dX9_init_259 : decode cX9_init 259 = .ok (.aload_n 0, 1) := by decide +kernel
theorem dX9_init_260 : decode cX9_init 260 = .ok (.sipush 20000, 3) := by decide +kernel
theorem dX9_init_263 : decode cX9_init 263 = .ok (.newarray .int, 2) := by decide +kernel
theorem dX9_init_265 : decode cX9_init 265 = .ok (.putfield 103, 3) := by decide +kernel
theorem dX9_init_268 : decode cX9_init 268 = .ok (.aload_n 0, 1) := by decide +kernel
theorem dX9_init_269 : decode cX9_init 269 = .ok (.ldc 106, 2) := by decide +kernel
theorem dX9_init_271 : decode cX9_init 271 = .ok (.newarray .int, 2) := by decide +kernel
theorem dX9_init_273 : decode cX9_init 273 = .ok (.putfield 107, 3) := by decide +kernel
theorem dX9_init_276 : decode cX9_init 276 = .ok (.aload_n 0, 1) := by decide +kernel
theorem dX9_init_277 : decode cX9_init 277 = .ok (.sipush 20000, 3) := by decide +kernel
theorem dX9_init_280 : decode cX9_init 280 = .ok (.newarray .int, 2) := by decide +kernel
theorem dX9_init_282 : decode cX9_init 282 = .ok (.putfield 110, 3) := by decide +kernel
theorem dX9_init_285 : decode cX9_init 285 = .ok (.aload_n 0, 1) := by decide +kernel
theorem dX9_init_286 : decode cX9_init 286 = .ok (.bipush 18, 2) := by decide +kernel
theorem dX9_init_288 : decode cX9_init 288 = .ok (.newarray .int, 2) := by decide +kernel
theorem dX9_init_290 : decode cX9_init 290 = .ok (.putfield 113, 3) := by decide +kernel
theorem dX9_init_293 : decode cX9_init 293 = .ok (.aload_n 0, 1) := by decide +kernel
theorem dX9_init_294 : decode cX9_init 294 = .ok (.sipush 400, 3) := by decide +kernel
theorem dX9_init_297 : decode cX9_init 297 = .ok (.newarray .long, 2) := by decide +kernel
theorem dX9_init_299 : decode cX9_init 299 = .ok (.putfield 116, 3) := by decide +kernel
theorem dX9_init_302 : decode cX9_init 302 = .ok (.aload_n 0, 1) := by decide +kernel
theorem dX9_init_303 : decode cX9_init 303 = .ok (.sipush 400, 3) := by decide +kernel
theorem dX9_init_306 : decode cX9_init 306 = .ok (.newarray .boolean, 2) := by decide +kernel
theorem dX9_init_308 : decode cX9_init 308 = .ok (.putfield 119, 3) := by decide +kernel
theorem dX9_init_311 : decode cX9_init 311 = .ok (.aload_n 0, 1) := by decide +kernel
theorem dX9_init_312 : decode cX9_init 312 = .ok (.sipush 400, 3) := by decide +kernel
theorem dX9_init_315 : decode cX9_init 315 = .ok (.newarray .long, 2) := by decide +kernel
theorem dX9_init_317 : decode cX9_init 317 = .ok (.putfield 122, 3) := by decide +kernel
theorem dX9_init_320 : decode cX9_init 320 = .ok (.aload_n 0, 1) := by decide +kernel
theorem dX9_init_321 : decode cX9_init 321 = .ok (.sipush 400, 3) := by decide +kernel
theorem dX9_init_324 : decode cX9_init 324 = .ok (.newarray .boolean, 2) := by decide +kernel
theorem dX9_init_326 : decode cX9_init 326 = .ok (.putfield 125, 3) := by decide +kernel
theorem dX9_init_329 : decode cX9_init 329 = .ok (.aload_n 0, 1) := by decide +kernel
theorem dX9_init_330 : decode cX9_init 330 = .ok (.bipush 6, 2) := by decide +kernel
theorem dX9_init_332 : decode cX9_init 332 = .ok (.newarray .int, 2) := by decide +kernel
theorem dX9_init_334 : decode cX9_init 334 = .ok (.putfield 128, 3) := by decide +kernel
theorem dX9_init_337 : decode cX9_init 337 = .ok (.aload_n 0, 1) := by decide +kernel
theorem dX9_init_338 : decode cX9_init 338 = .ok (.bipush 6, 2) := by decide +kernel
theorem dX9_init_340 : decode cX9_init 340 = .ok (.newarray .int, 2) := by decide +kernel
theorem dX9_init_342 : decode cX9_init 342 = .ok (.putfield 131, 3) := by decide +kernel
theorem dX9_init_345 : decode cX9_init 345 = .ok (.aload_n 0, 1) := by decide +kernel
theorem dX9_init_346 : decode cX9_init 346 = .ok (.bipush 6, 2) := by decide +kernel
theorem dX9_init_348 : decode cX9_init 348 = .ok (.newarray .int, 2) := by decide +kernel
theorem dX9_init_350 : decode cX9_init 350 = .ok (.putfield 134, 3) := by decide +kernel
theorem dX9_init_353 : decode cX9_init 353 = .ok (.iconst 0, 1) := by decide +kernel
theorem dX9_init_354 : decode cX9_init 354 = .ok (.istore_n 1, 1) := by decide +kernel
theorem dX9_init_355 : decode cX9_init 355 = .ok (.iload_n 1, 1) := by decide +kernel
theorem dX9_init_356 : decode cX9_init 356 = .ok (.bipush 12, 2) := by decide +kernel
theorem dX9_init_358 : decode cX9_init 358 = .ok (.if_icmp .ge 51, 3) := by decide +kernel
theorem dX9_init_361 : decode cX9_init 361 = .ok (.aload_n 0, 1) := by decide +kernel
theorem dX9_init_362 : decode cX9_init 362 = .ok (.getfield 31, 3) := by decide +kernel
theorem dX9_init_365 : decode cX9_init 365 = .ok (.bipush 80, 2) := by decide +kernel
theorem dX9_init_367 : decode cX9_init 367 = .ok (.iload_n 1, 1) := by decide +kernel
theorem dX9_init_368 : decode cX9_init 368 = .ok (.imul, 1) := by decide +kernel
theorem dX9_init_369 : decode cX9_init 369 = .ok (.bipush 97, 2) := by decide +kernel
theorem dX9_init_371 : decode cX9_init 371 = .ok (.iastore, 1) := by decide +kernel
theorem dX9_init_372 : decode cX9_init 372 = .ok (.aload_n 0, 1) := by decide +kernel
theorem dX9_init_373 : decode cX9_init 373 = .ok (.getfield 34, 3) := by decide +kernel
theorem dX9_init_376 : decode cX9_init 376 = .ok (.iload_n 1, 1) := by decide +kernel
theorem dX9_init_377 : decode cX9_init 377 = .ok (.iconst 1, 1) := by decide +kernel
theorem dX9_init_378 : decode cX9_init 378 = .ok (.iastore, 1) := by decide +kernel
theorem dX9_init_379 : decode cX9_init 379 = .ok (.aload_n 0, 1) := by decide +kernel
theorem dX9_init_380 : decode cX9_init 380 = .ok (.getfield 37, 3) := by decide +kernel
theorem dX9_init_383 : decode cX9_init 383 = .ok (.iload_n 1, 1) := by decide +kernel
theorem dX9_init_384 : decode cX9_init 384 = .ok (.iconst 1, 1) := by decide +kernel
theorem dX9_init_385 : decode cX9_init 385 = .ok (.iastore, 1) := by decide +kernel
theorem dX9_init_386 : decode cX9_init 386 = .ok (.aload_n 0, 1) := by decide +kernel
theorem dX9_init_387 : decode cX9_init 387 = .ok (.getfield 52, 3) := by decide +kernel
theorem dX9_init_390 : decode cX9_init 390 = .ok (.iload_n 1, 1) := by decide +kernel
theorem dX9_init_391 : decode cX9_init 391 = .ok (.iconst 1, 1) := by decide +kernel
theorem dX9_init_392 : decode cX9_init 392 = .ok (.iastore, 1) := by decide +kernel
theorem dX9_init_393 : decode cX9_init 393 = .ok (.aload_n 0, 1) := by decide +kernel
theorem dX9_init_394 : decode cX9_init 394 = .ok (.getfield 49, 3) := by decide +kernel
theorem dX9_init_397 : decode cX9_init 397 = .ok (.bipush 12, 2) := by decide +kernel
theorem dX9_init_399 : decode cX9_init 399 = .ok (.iload_n 1, 1) := by decide +kernel
theorem dX9_init_400 : decode cX9_init 400 = .ok (.imul, 1) := by decide +kernel
theorem dX9_init_401 : decode cX9_init 401 = .ok (.iconst 1, 1) := by decide +kernel
theorem dX9_init_402 : decode cX9_init 402 = .ok (.iastore, 1) := by decide +kernel
theorem dX9_init_403 : decode cX9_init 403 = .ok (.iinc 1 1, 3) := by decide +kernel
theorem dX9_init_406 : decode cX9_init 406 = .ok (.goto (-51), 3) := by decide +kernel
theorem dX9_init_409 : decode cX9_init 409 = .ok (.iconst 0, 1) := by decide +kernel
theorem dX9_init_410 : decode cX9_init 410 = .ok (.istore_n 1, 1) := by decide +kernel
theorem dX9_init_411 : decode cX9_init 411 = .ok (.iload_n 1, 1) := by decide +kernel
theorem dX9_init_412 : decode cX9_init 412 = .ok (.ldc 106, 2) := by decide +kernel
theorem dX9_init_414 : decode cX9_init 414 = .ok (.if_icmp .ge 17, 3) := by decide +kernel
theorem dX9_init_417 : decode cX9_init 417 = .ok (.aload_n 0, 1) := by decide +kernel
theorem dX9_init_418 : decode cX9_init 418 = .ok (.getfield 107, 3) := by decide +kernel
theorem dX9_init_421 : decode cX9_init 421 = .ok (.iload_n 1, 1) := by decide +kernel
theorem dX9_init_422 : decode cX9_init 422 = .ok (.bipush (-9), 2) := by decide +kernel
theorem dX9_init_424 : decode cX9_init 424 = .ok (.iastore, 1) := by decide +kernel
theorem dX9_init_425 : decode cX9_init 425 = .ok (.iinc 1 1, 3) := by decide +kernel
theorem dX9_init_428 : decode cX9_init 428 = .ok (.goto (-17), 3) := by decide +kernel
theorem dX9_init_431 : decode cX9_init 431 = .ok (.return_, 1) := by decide +kernel
theorem dX9_in_0 : decode cX9_in 0 = .ok (.iload_n 0, 1) := by decide +kernel
theorem dX9_in_1 : decode cX9_in 1 = .ok (.iload_n 1, 1) := by decide +kernel
theorem dX9_in_2 : decode cX9_in 2 = .ok (.if_icmp .lt 12, 3) := by decide +kernel
theorem dX9_in_5 : decode cX9_in 5 = .ok (.iload_n 0, 1) := by decide +kernel
theorem dX9_in_6 : decode cX9_in 6 = .ok (.iload_n 2, 1) := by decide +kernel
theorem dX9_in_7 : decode cX9_in 7 = .ok (.if_icmp .gt 7, 3) := by decide +kernel
theorem dX9_in_10 : decode cX9_in 10 = .ok (.iconst 1, 1) := by decide +kernel
theorem dX9_in_11 : decode cX9_in 11 = .ok (.goto 4, 3) := by decide +kernel
theorem dX9_in_14 : decode cX9_in 14 = .ok (.iconst 0, 1) := by decide +kernel
theorem dX9_in_15 : decode cX9_in 15 = .ok (.ireturn, 1) := by decide +kernel
theorem dX9_isKind_0 : decode cX9_isKind 0 = .ok (.iload_n 0, 1) := by decide +kernel
theorem dX9_isKind_1 : decode cX9_isKind 1 = .ok (.iconst 0, 1) := by decide +kernel
theorem dX9_isKind_2 : decode cX9_isKind 2 = .ok (.bipush 11, 2) := by decide +kernel
theorem dX9_isKind_4 : decode cX9_isKind 4 = .ok (.invokestatic 141, 3) := by decide +kernel
theorem dX9_isKind_7 : decode cX9_isKind 7 = .ok (.ireturn, 1) := by decide +kernel
theorem dX9_type_0 : decode cX9_type 0 = .ok (.aload_n 0, 1) := by decide +kernel
theorem dX9_type_1 : decode cX9_type 1 = .ok (.iconst 0, 1) := by decide +kernel
theorem dX9_type_2 : decode cX9_type 2 = .ok (.putfield 137, 3) := by decide +kernel
theorem dX9_type_5 : decode cX9_type 5 = .ok (.iload_n 3, 1) := by decide +kernel
theorem dX9_type_6 : decode cX9_type 6 = .ok (.iconst 1, 1) := by decide +kernel
theorem dX9_type_7 : decode cX9_type 7 = .ok (.bipush 8, 2) := by decide +kernel
theorem dX9_type_9 : decode cX9_type 9 = .ok (.invokestatic 141, 3) := by decide +kernel
theorem dX9_type_12 : decode cX9_type 12 = .ok (.ifCond .ne 5, 3) := by decide +kernel
theorem dX9_type_15 : decode cX9_type 15 = .ok (.iconst (-1), 1) := by decide +kernel
theorem dX9_type_16 : decode cX9_type 16 = .ok (.ireturn, 1) := by decide +kernel
theorem dX9_type_17 : decode cX9_type 17 = .ok (.aload_n 0, 1) := by decide +kernel
theorem dX9_type_18 : decode cX9_type 18 = .ok (.getfield 145, 3) := by decide +kernel
theorem dX9_type_21 : decode cX9_type 21 = .ok (.iload_n 3, 1) := by decide +kernel
theorem dX9_type_22 : decode cX9_type 22 = .ok (.iadd, 1) := by decide +kernel
theorem dX9_type_23 : decode cX9_type 23 = .ok (.bipush 80, 2) := by decide +kernel
theorem dX9_type_25 : decode cX9_type 25 = .ok (.if_icmp .le 6, 3) := by decide +kernel
theorem dX9_type_28 : decode cX9_type 28 = .ok (.bipush (-3), 2) := by decide +kernel
theorem dX9_type_30 : decode cX9_type 30 = .ok (.ireturn, 1) := by decide +kernel
theorem dX9_type_31 : decode cX9_type 31 = .ok (.iload_n 3, 1) := by decide +kernel
theorem dX9_type_32 : decode cX9_type 32 = .ok (.iconst 1, 1) := by decide +kernel
theorem dX9_type_33 : decode cX9_type 33 = .ok (.isub, 1) := by decide +kernel
theorem dX9_type_34 : decode cX9_type 34 = .ok (.istore 4, 2) := by decide +kernel
theorem dX9_type_36 : decode cX9_type 36 = .ok (.iload 4, 2) := by decide +kernel
theorem dX9_type_38 : decode cX9_type 38 = .ok (.ifCond .lt 40, 3) := by decide +kernel
theorem dX9_type_41 : decode cX9_type 41 = .ok (.aload_n 0, 1) := by decide +kernel
theorem dX9_type_42 : decode cX9_type 42 = .ok (.getfield 7, 3) := by decide +kernel
theorem dX9_type_45 : decode cX9_type 45 = .ok (.aload_n 0, 1) := by decide +kernel
theorem dX9_type_46 : decode cX9_type 46 = .ok (.getfield 145, 3) := by decide +kernel
theorem dX9_type_49 : decode cX9_type 49 = .ok (.lload_n 1, 1) := by decide +kernel
theorem dX9_type_50 : decode cX9_type 50 = .ok (.bipush 8, 2) := by decide +kernel
theorem dX9_type_52 : decode cX9_type 52 = .ok (.iload 4, 2) := by decide +kernel
theorem dX9_type_54 : decode cX9_type 54 = .ok (.imul, 1) := by decide +kernel
theorem dX9_type_55 : decode cX9_type 55 = .ok (.lshr, 1) := by decide +kernel
theorem dX9_type_56 : decode cX9_type 56 = .ok (.ldc2_w 148, 3) := by decide +kernel
theorem dX9_type_59 : decode cX9_type 59 = .ok (.land, 1) := by decide +kernel
theorem dX9_type_60 : decode cX9_type 60 = .ok (.l2i, 1) := by decide +kernel
theorem dX9_type_61 : decode cX9_type 61 = .ok (.iastore, 1) := by decide +kernel
theorem dX9_type_62 : decode cX9_type 62 = .ok (.aload_n 0, 1) := by decide +kernel
theorem dX9_type_63 : decode cX9_type 63 = .ok (.dup, 1) := by decide +kernel
theorem dX9_type_64 : decode cX9_type 64 = .ok (.getfield 145, 3) := by decide +kernel
theorem dX9_type_67 : decode cX9_type 67 = .ok (.iconst 1, 1) := by decide +kernel
theorem dX9_type_68 : decode cX9_type 68 = .ok (.iadd, 1) := by decide +kernel
theorem dX9_type_69 : decode cX9_type 69 = .ok (.putfield 145, 3) := by decide +kernel
theorem dX9_type_72 : decode cX9_type 72 = .ok (.iinc 4 (-1), 3) := by decide +kernel
theorem dX9_type_75 : decode cX9_type 75 = .ok (.goto (-39), 3) := by decide +kernel
theorem dX9_type_78 : decode cX9_type 78 = .ok (.aload_n 0, 1) := by decide +kernel
theorem dX9_type_79 : decode cX9_type 79 = .ok (.getfield 145, 3) := by decide +kernel
theorem dX9_type_82 : decode cX9_type 82 = .ok (.ireturn, 1) := by decide +kernel
theorem dX9_clear_0 : decode cX9_clear 0 = .ok (.aload_n 0, 1) := by decide +kernel
theorem dX9_clear_1 : decode cX9_clear 1 = .ok (.iconst 0, 1) := by decide +kernel
theorem dX9_clear_2 : decode cX9_clear 2 = .ok (.putfield 137, 3) := by decide +kernel
theorem dX9_clear_5 : decode cX9_clear 5 = .ok (.aload_n 0, 1) := by decide +kernel
theorem dX9_clear_6 : decode cX9_clear 6 = .ok (.getfield 145, 3) := by decide +kernel
theorem dX9_clear_9 : decode cX9_clear 9 = .ok (.istore_n 1, 1) := by decide +kernel
theorem dX9_clear_10 : decode cX9_clear 10 = .ok (.aload_n 0, 1) := by decide +kernel
theorem dX9_clear_11 : decode cX9_clear 11 = .ok (.iconst 0, 1) := by decide +kernel
theorem dX9_clear_12 : decode cX9_clear 12 = .ok (.putfield 145, 3) := by decide +kernel
theorem dX9_clear_15 : decode cX9_clear 15 = .ok (.iload_n 1, 1) := by decide +kernel
theorem dX9_clear_16 : decode cX9_clear 16 = .ok (.ireturn, 1) := by decide +kernel
theorem dX9_isSign_0 : decode cX9_isSign 0 = .ok (.iload_n 0, 1) := by decide +kernel
theorem dX9_isSign_1 : decode cX9_isSign 1 = .ok (.bipush 47, 2) := by decide +kernel
theorem dX9_isSign_3 : decode cX9_isSign 3 = .ok (.if_icmp .eq 15, 3) := by decide +kernel
theorem dX9_isSign_6 : decode cX9_isSign 6 = .ok (.iload_n 0, 1) := by decide +kernel
theorem dX9_isSign_7 : decode cX9_isSign 7 = .ok (.bipush 92, 2) := by decide +kernel
theorem dX9_isSign_9 : decode cX9_isSign 9 = .ok (.if_icmp .eq 9, 3) := by decide +kernel
theorem dX9_isSign_12 : decode cX9_isSign 12 = .ok (.iload_n 0, 1) := by decide +kernel
theorem dX9_isSign_13 : decode cX9_isSign 13 = .ok (.bipush 42, 2) := by decide +kernel
theorem dX9_isSign_15 : decode cX9_isSign 15 = .ok (.if_icmp .ne 7, 3) := by decide +kernel
theorem dX9_isSign_18 : decode cX9_isSign 18 = .ok (.iconst 1, 1) := by decide +kernel
theorem dX9_isSign_19 : decode cX9_isSign 19 = .ok (.goto 4, 3) := by decide +kernel
theorem dX9_isSign_22 : decode cX9_isSign 22 = .ok (.iconst 0, 1) := by decide +kernel
theorem dX9_isSign_23 : decode cX9_isSign 23 = .ok (.ireturn, 1) := by decide +kernel
theorem dX9_part_0 : decode cX9_part 0 = .ok (.aload_n 0, 1) := by decide +kernel
theorem dX9_part_1 : decode cX9_part 1 = .ok (.getfield 13, 3) := by decide +kernel
theorem dX9_part_4 : decode cX9_part 4 = .ok (.aload_n 0, 1) := by decide +kernel
theorem dX9_part_5 : decode cX9_part 5 = .ok (.getfield 150, 3) := by decide +kernel
theorem dX9_part_8 : decode cX9_part 8 = .ok (.iload_n 1, 1) := by decide +kernel
theorem dX9_part_9 : decode cX9_part 9 = .ok (.iastore, 1) := by decide +kernel
theorem dX9_part_10 : decode cX9_part 10 = .ok (.aload_n 0, 1) := by decide +kernel
theorem dX9_part_11 : decode cX9_part 11 = .ok (.getfield 16, 3) := by decide +kernel
theorem dX9_part_14 : decode cX9_part 14 = .ok (.aload_n 0, 1) := by decide +kernel
theorem dX9_part_15 : decode cX9_part 15 = .ok (.getfield 150, 3) := by decide +kernel
theorem dX9_part_18 : decode cX9_part 18 = .ok (.iload_n 2, 1) := by decide +kernel
theorem dX9_part_19 : decode cX9_part 19 = .ok (.iastore, 1) := by decide +kernel
theorem dX9_part_20 : decode cX9_part 20 = .ok (.aload_n 0, 1) := by decide +kernel
theorem dX9_part_21 : decode cX9_part 21 = .ok (.getfield 19, 3) := by decide +kernel
theorem dX9_part_24 : decode cX9_part 24 = .ok (.aload_n 0, 1) := by decide +kernel
theorem dX9_part_25 : decode cX9_part 25 = .ok (.getfield 150, 3) := by decide +kernel
theorem dX9_part_28 : decode cX9_part 28 = .ok (.iload_n 3, 1) := by decide +kernel
theorem dX9_part_29 : decode cX9_part 29 = .ok (.iastore, 1) := by decide +kernel
theorem dX9_part_30 : decode cX9_part 30 = .ok (.aload_n 0, 1) := by decide +kernel
theorem dX9_part_31 : decode cX9_part 31 = .ok (.dup, 1) := by decide +kernel
theorem dX9_part_32 : decode cX9_part 32 = .ok (.getfield 150, 3) := by decide +kernel
theorem dX9_part_35 : decode cX9_part 35 = .ok (.iconst 1, 1) := by decide +kernel
theorem dX9_part_36 : decode cX9_part 36 = .ok (.iadd, 1) := by decide +kernel
theorem dX9_part_37 : decode cX9_part 37 = .ok (.putfield 150, 3) := by decide +kernel
theorem dX9_part_40 : decode cX9_part 40 = .ok (.aload_n 0, 1) := by decide +kernel
theorem dX9_part_41 : decode cX9_part 41 = .ok (.getfield 150, 3) := by decide +kernel
theorem dX9_part_44 : decode cX9_part 44 = .ok (.iconst 1, 1) := by decide +kernel
theorem dX9_part_45 : decode cX9_part 45 = .ok (.isub, 1) := by decide +kernel
theorem dX9_part_46 : decode cX9_part 46 = .ok (.ireturn, 1) := by decide +kernel
theorem dX9_isRead_0 : decode cX9_isRead 0 = .ok (.aload_n 0, 1) := by decide +kernel
theorem dX9_isRead_1 : decode cX9_isRead 1 = .ok (.iconst 0, 1) := by decide +kernel
theorem dX9_isRead_2 : decode cX9_isRead 2 = .ok (.putfield 150, 3) := by decide +kernel
theorem dX9_isRead_5 : decode cX9_isRead 5 = .ok (.iconst 0, 1) := by decide +kernel
theorem dX9_isRead_6 : decode cX9_isRead 6 = .ok (.istore_n 1, 1) := by decide +kernel
theorem dX9_isRead_7 : decode cX9_isRead 7 = .ok (.iconst 0, 1) := by decide +kernel
theorem dX9_isRead_8 : decode cX9_isRead 8 = .ok (.istore_n 2, 1) := by decide +kernel
theorem dX9_isRead_9 : decode cX9_isRead 9 = .ok (.iconst 0, 1) := by decide +kernel
theorem dX9_isRead_10 : decode cX9_isRead 10 = .ok (.istore_n 3, 1) := by decide +kernel
theorem dX9_isRead_11 : decode cX9_isRead 11 = .ok (.iconst 0, 1) := by decide +kernel
theorem dX9_isRead_12 : decode cX9_isRead 12 = .ok (.istore 4, 2) := by decide +kernel
theorem dX9_isRead_14 : decode cX9_isRead 14 = .ok (.iload 4, 2) := by decide +kernel
theorem dX9_isRead_16 : decode cX9_isRead 16 = .ok (.aload_n 0, 1) := by decide +kernel
theorem dX9_isRead_17 : decode cX9_isRead 17 = .ok (.getfield 145, 3) := by decide +kernel
theorem dX9_isRead_20 : decode cX9_isRead 20 = .ok (.if_icmp .ge 285, 3) := by decide +kernel
theorem dX9_isRead_23 : decode cX9_isRead 23 = .ok (.aload_n 0, 1) := by decide +kernel
theorem dX9_isRead_24 : decode cX9_isRead 24 = .ok (.getfield 7, 3) := by decide +kernel
theorem dX9_isRead_27 : decode cX9_isRead 27 = .ok (.iload 4, 2) := by decide +kernel
theorem dX9_isRead_29 : decode cX9_isRead 29 = .ok (.iaload, 1) := by decide +kernel
theorem dX9_isRead_30 : decode cX9_isRead 30 = .ok (.istore 5, 2) := by decide +kernel
theorem dX9_isRead_32 : decode cX9_isRead 32 = .ok (.aload_n 0, 1) := by decide +kernel
theorem dX9_isRead_33 : decode cX9_isRead 33 = .ok (.iload 4, 2) := by decide +kernel
theorem dX9_isRead_35 : decode cX9_isRead 35 = .ok (.putfield 153, 3) := by decide +kernel
theorem dX9_isRead_38 : decode cX9_isRead 38 = .ok (.iload_n 3, 1) := by decide +kernel
theorem dX9_isRead_39 : decode cX9_isRead 39 = .ok (.ifCond .eq 5, 3) := by decide +kernel
theorem dX9_isRead_42 : decode cX9_isRead 42 = .ok (.iconst 0, 1) := by decide +kernel
theorem dX9_isRead_43 : decode cX9_isRead 43 = .ok (.ireturn, 1) := by decide +kernel
theorem dX9_isRead_44 : decode cX9_isRead 44 = .ok (.iload_n 2, 1) := by decide +kernel
theorem dX9_isRead_45 : decode cX9_isRead 45 = .ok (.ifCond .ne 7, 3) := by decide +kernel
theorem dX9_isRead_48 : decode cX9_isRead 48 = .ok (.iconst 0, 1) := by decide +kernel
theorem dX9_isRead_49 : decode cX9_isRead 49 = .ok (.goto 11, 3) := by decide +kernel
theorem dX9_isRead_52 : decode cX9_isRead 52 = .ok (.aload_n 0, 1) := by decide +kernel
theorem dX9_isRead_53 : decode cX9_isRead 53 = .ok (.getfield 28, 3) := by decide +kernel
theorem dX9_isRead_56 : decode cX9_isRead 56 = .ok (.iload_n 2, 1) := by decide +kernel
theorem dX9_isRead_57 : decode cX9_isRead 57 = .ok (.iconst 1, 1) := by decide +kernel
theorem dX9_isRead_58 : decode cX9_isRead 58 = .ok (.isub, 1) := by decide +kernel
theorem dX9_isRead_59 : decode cX9_isRead 59 = .ok (.iaload, 1) := by decide +kernel
theorem dX9_isRead_60 : decode cX9_isRead 60 = .ok (.istore 6, 2) := by decide +kernel
theorem dX9_isRead_62 : decode cX9_isRead 62 = .ok (.bipush (-9), 2) := by decide +kernel
theorem dX9_isRead_64 : decode cX9_isRead 64 = .ok (.istore 7, 2) := by decide +kernel
theorem dX9_isRead_66 : decode cX9_isRead 66 = .ok (.iload 6, 2) := by decide +kernel
theorem dX9_isRead_68 : decode cX9_isRead 68 = .ok (.ifCond .eq 9, 3) := by decide +kernel
theorem dX9_isRead_71 : decode cX9_isRead 71 = .ok (.iload 6, 2) := by decide +kernel
theorem dX9_isRead_73 : decode cX9_isRead 73 = .ok (.iconst 2, 1) := by decide +kernel
theorem dX9_isRead_74 : decode cX9_isRead 74 = .ok (.if_icmp .ne 68, 3) := by decide +kernel
theorem dX9_isRead_77 : decode cX9_isRead 77 = .ok (.iload 5, 2) := by decide +kernel
theorem dX9_isRead_79 : decode cX9_isRead 79 = .ok (.bipush 40, 2) := by decide +kernel
theorem dX9_isRead_81 : decode cX9_isRead 81 = .ok (.if_icmp .ne 22, 3) := by decide +kernel
theorem dX9_isRead_84 : decode cX9_isRead 84 = .ok (.iload_n 2, 1) := by decide +kernel
theorem dX9_isRead_85 : decode cX9_isRead 85 = .ok (.bipush 6, 2) := by decide +kernel
theorem dX9_isRead_87 : decode cX9_isRead 87 = .ok (.if_icmp .ge 16, 3) := by decide +kernel
theorem dX9_isRead_90 : decode cX9_isRead 90 = .ok (.aload_n 0, 1) := by decide +kernel
theorem dX9_isRead_91 : decode cX9_isRead 91 = .ok (.getfield 28, 3) := by decide +kernel
theorem dX9_isRead_94 : decode cX9_isRead 94 = .ok (.iload_n 2, 1) := by decide +kernel
theorem dX9_isRead_95 : decode cX9_isRead 95 = .ok (.iconst 0, 1) := by decide +kernel
theorem dX9_isRead_96 : decode cX9_isRead 96 = .ok (.iastore, 1) := by decide +kernel
theorem dX9_isRead_97 : decode cX9_isRead 97 = .ok (.iinc 2 1, 3) := by decide +kernel
theorem dX9_isRead_100 : decode cX9_isRead 100 = .ok (.goto 116, 3) := by decide +kernel
theorem dX9_isRead_103 : decode cX9_isRead 103 = .ok (.iload 5, 2) := by decide +kernel
theorem dX9_isRead_105 : decode cX9_isRead 105 = .ok (.bipush 97, 2) := by decide +kernel
theorem dX9_isRead_107 : decode cX9_isRead 107 = .ok (.bipush 104, 2) := by decide +kernel
theorem dX9_isRead_109 : decode cX9_isRead 109 = .ok (.invokestatic 141, 3) := by decide +kernel
theorem dX9_isRead_112 : decode cX9_isRead 112 = .ok (.ifCond .eq 28, 3) := by decide +kernel
theorem dX9_isRead_115 : decode cX9_isRead 115 = .ok (.iload_n 1, 1) := by decide +kernel
theorem dX9_isRead_116 : decode cX9_isRead 116 = .ok (.bipush 12, 2) := by decide +kernel
theorem dX9_isRead_118 : decode cX9_isRead 118 = .ok (.if_icmp .ge 22, 3) := by decide +kernel
theorem dX9_isRead_121 : decode cX9_isRead 121 = .ok (.iinc 1 1, 3) := by decide +kernel
theorem dX9_isRead_124 : decode cX9_isRead 124 = .ok (.aload_n 0, 1) := by decide +kernel
theorem dX9_isRead_125 : decode cX9_isRead 125 = .ok (.iload 5, 2) := by decide +kernel
theorem dX9_isRead_127 : decode cX9_isRead 127 = .ok (.bipush 97, 2) := by decide +kernel
theorem dX9_isRead_129 : decode cX9_isRead 129 = .ok (.isub, 1) := by decide +kernel
theorem dX9_isRead_130 : decode cX9_isRead 130 = .ok (.iconst 0, 1) := by decide +kernel
theorem dX9_isRead_131 : decode cX9_isRead 131 = .ok (.iconst 0, 1) := by decide +kernel
theorem dX9_isRead_132 : decode cX9_isRead 132 = .ok (.invokevirtual 156, 3) := by decide +kernel
theorem dX9_isRead_135 : decode cX9_isRead 135 = .ok (.istore 7, 2) := by decide +kernel
theorem dX9_isRead_137 : decode cX9_isRead 137 = .ok (.goto 79, 3) := by decide +kernel
theorem dX9_isRead_140 : decode cX9_isRead 140 = .ok (.iconst 0, 1) := by decide +kernel
theorem dX9_isRead_141 : decode cX9_isRead 141 = .ok (.ireturn, 1) := by decide +kernel
theorem dX9_isRead_142 : decode cX9_isRead 142 = .ok (.iload 6, 2) := by decide +kernel
theorem dX9_isRead_144 : decode cX9_isRead 144 = .ok (.iconst 1, 1) := by decide +kernel
theorem dX9_isRead_145 : decode cX9_isRead 145 = .ok (.if_icmp .ne 35, 3) := by decide +kernel
theorem dX9_isRead_148 : decode cX9_isRead 148 = .ok (.iload 5, 2) := by decide +kernel
theorem dX9_isRead_150 : decode cX9_isRead 150 = .ok (.invokestatic 160, 3) := by decide +kernel
theorem dX9_isRead_153 : decode cX9_isRead 153 = .ok (.ifCond .ne 5, 3) := by decide +kernel
theorem dX9_isRead_156 : decode cX9_isRead 156 = .ok (.iconst 0, 1) := by decide +kernel
theorem dX9_isRead_157 : decode cX9_isRead 157 = .ok (.ireturn, 1) := by decide +kernel
theorem dX9_isRead_158 : decode cX9_isRead 158 = .ok (.aload_n 0, 1) := by decide +kernel
theorem dX9_isRead_159 : decode cX9_isRead 159 = .ok (.getfield 22, 3) := by decide +kernel
theorem dX9_isRead_162 : decode cX9_isRead 162 = .ok (.iload_n 2, 1) := by decide +kernel
theorem dX9_isRead_163 : decode cX9_isRead 163 = .ok (.iconst 1, 1) := by decide +kernel
theorem dX9_isRead_164 : decode cX9_isRead 164 = .ok (.isub, 1) := by decide +kernel
theorem dX9_isRead_165 : decode cX9_isRead 165 = .ok (.iload 5, 2) := by decide +kernel
theorem dX9_isRead_167 : decode cX9_isRead 167 = .ok (.iastore, 1) := by decide +kernel
theorem dX9_isRead_168 : decode cX9_isRead 168 = .ok (.aload_n 0, 1) := by decide +kernel
theorem dX9_isRead_169 : decode cX9_isRead 169 = .ok (.getfield 28, 3) := by decide +kernel
theorem dX9_isRead_172 : decode cX9_isRead 172 = .ok (.iload_n 2, 1) := by decide +kernel
theorem dX9_isRead_173 : decode cX9_isRead 173 = .ok (.iconst 1, 1) := by decide +kernel
theorem dX9_isRead_174 : decode cX9_isRead 174 = .ok (.isub, 1) := by decide +kernel
theorem dX9_isRead_175 : decode cX9_isRead 175 = .ok (.iconst 2, 1) := by decide +kernel
theorem dX9_isRead_176 : decode cX9_isRead 176 = .ok (.iastore, 1) := by decide +kernel
theorem dX9_isRead_177 : decode cX9_isRead 177 = .ok (.goto 39, 3) := by decide +kernel
theorem dX9_isRead_180 : decode cX9_isRead 180 = .ok (.iload 5, 2) := by decide +kernel
theorem dX9_isRead_182 : decode cX9_isRead 182 = .ok (.bipush 41, 2) := by decide +kernel
theorem dX9_isRead_184 : decode cX9_isRead 184 = .ok (.if_icmp .eq 5, 3) := by decide +kernel
theorem dX9_isRead_187 : decode cX9_isRead 187 = .ok (.iconst 0, 1) := by decide +kernel
theorem dX9_isRead_188 : decode cX9_isRead 188 = .ok (.ireturn, 1) := by decide +kernel
theorem dX9_isRead_189 : decode cX9_isRead 189 = .ok (.iinc 2 (-1), 3) := by decide +kernel
theorem dX9_isRead_192 : decode cX9_isRead 192 = .ok (.aload_n 0, 1) := by decide +kernel
theorem dX9_isRead_193 : decode cX9_isRead 193 = .ok (.aload_n 0, 1) := by decide +kernel
theorem dX9_isRead_194 : decode cX9_isRead 194 = .ok (.getfield 22, 3) := by decide +kernel
theorem dX9_isRead_197 : decode cX9_isRead 197 = .ok (.iload_n 2, 1) := by decide +kernel
theorem dX9_isRead_198 : decode cX9_isRead 198 = .ok (.iaload, 1) := by decide +kernel
theorem dX9_isRead_199 : decode cX9_isRead 199 = .ok (.aload_n 0, 1) := by decide +kernel
theorem dX9_isRead_200 : decode cX9_isRead 200 = .ok (.getfield 25, 3) := by decide +kernel
theorem dX9_isRead_203 : decode cX9_isRead 203 = .ok (.iload_n 2, 1) := by decide +kernel
theorem dX9_isRead_204 : decode cX9_isRead 204 = .ok (.iaload, 1) := by decide +kernel
theorem dX9_isRead_205 : decode cX9_isRead 205 = .ok (.aload_n 0, 1) := by decide +kernel
theorem dX9_isRead_206 : decode cX9_isRead 206 = .ok (.getfield 150, 3) := by decide +kernel
theorem dX9_isRead_209 : decode cX9_isRead 209 = .ok (.iconst 1, 1) := by decide +kernel
theorem dX9_isRead_210 : decode cX9_isRead 210 = .ok (.isub, 1) := by decide +kernel
theorem dX9_isRead_211 : decode cX9_isRead 211 = .ok (.invokevirtual 156, 3) := by decide +kernel
theorem dX9_isRead_214 : decode cX9_isRead 214 = .ok (.istore 7, 2) := by decide +kernel
theorem dX9_isRead_216 : decode cX9_isRead 216 = .ok (.iload 7, 2) := by decide +kernel
theorem dX9_isRead_218 : decode cX9_isRead 218 = .ok (.bipush (-9), 2) := by decide +kernel
theorem dX9_isRead_220 : decode cX9_isRead 220 = .ok (.if_icmp .eq 79, 3) := by decide +kernel
theorem dX9_isRead_223 : decode cX9_isRead 223 = .ok (.iload_n 2, 1) := by decide +kernel
theorem dX9_isRead_224 : decode cX9_isRead 224 = .ok (.ifCond .ne 7, 3) := by decide +kernel
theorem dX9_isRead_227 : decode cX9_isRead 227 = .ok (.iconst 1, 1) := by decide +kernel
theorem dX9_isRead_228 : decode cX9_isRead 228 = .ok (.goto 4, 3) := by decide +kernel
theorem dX9_isRead_231 : decode cX9_isRead 231 = .ok (.iconst 0, 1) := by decide +kernel
theorem dX9_isRead_232 : decode cX9_isRead 232 = .ok (.istore_n 3, 1) := by decide +kernel
theorem dX9_isRead_233 : decode cX9_isRead 233 = .ok (.iload_n 3, 1) := by decide +kernel
theorem dX9_isRead_234 : decode cX9_isRead 234 = .ok (.ifCond .ne 65, 3) := by decide +kernel
theorem dX9_isRead_237 : decode cX9_isRead 237 = .ok (.aload_n 0, 1) := by decide +kernel
theorem dX9_isRead_238 : decode cX9_isRead 238 = .ok (.getfield 28, 3) := by decide +kernel
theorem dX9_isRead_241 : decode cX9_isRead 241 = .ok (.iload_n 2, 1) := by decide +kernel
theorem dX9_isRead_242 : decode cX9_isRead 242 = .ok (.iconst 1, 1) := by decide +kernel
theorem dX9_isRead_243 : decode cX9_isRead 243 = .ok (.isub, 1) := by decide +kernel
theorem dX9_isRead_244 : decode cX9_isRead 244 = .ok (.iaload, 1) := by decide +kernel
theorem dX9_isRead_245 : decode cX9_isRead 245 = .ok (.ifCond .ne 7, 3) := by decide +kernel
theorem dX9_isRead_248 : decode cX9_isRead 248 = .ok (.iconst 1, 1) := by decide +kernel
theorem dX9_isRead_249 : decode cX9_isRead 249 = .ok (.goto 4, 3) := by decide +kernel
theorem dX9_isRead_252 : decode cX9_isRead 252 = .ok (.iconst 0, 1) := by decide +kernel
theorem dX9_isRead_253 : decode cX9_isRead 253 = .ok (.istore 8, 2) := by decide +kernel
theorem dX9_isRead_255 : decode cX9_isRead 255 = .ok (.aload_n 0, 1) := by decide +kernel
theorem dX9_isRead_256 : decode cX9_isRead 256 = .ok (.getfield 25, 3) := by decide +kernel
theorem dX9_isRead_259 : decode cX9_isRead 259 = .ok (.iload_n 2, 1) := by decide +kernel
theorem dX9_isRead_260 : decode cX9_isRead 260 = .ok (.iconst 1, 1) := by decide +kernel
theorem dX9_isRead_261 : decode cX9_isRead 261 = .ok (.isub, 1) := by decide +kernel
theorem dX9_isRead_262 : decode cX9_isRead 262 = .ok (.iload 8, 2) := by decide +kernel
theorem dX9_isRead_264 : decode cX9_isRead 264 = .ok (.ifCond .eq 8, 3) := by decide +kernel
theorem dX9_isRead_267 : decode cX9_isRead 267 = .ok (.iload 7, 2) := by decide +kernel
theorem dX9_isRead_269 : decode cX9_isRead 269 = .ok (.goto 11, 3) := by decide +kernel
theorem dX9_isRead_272 : decode cX9_isRead 272 = .ok (.aload_n 0, 1) := by decide +kernel
theorem dX9_isRead_273 : decode cX9_isRead 273 = .ok (.getfield 25, 3) := by decide +kernel
theorem dX9_isRead_276 : decode cX9_isRead 276 = .ok (.iload_n 2, 1) := by decide +kernel
theorem dX9_isRead_277 : decode cX9_isRead 277 = .ok (.iconst 1, 1) := by decide +kernel
theorem dX9_isRead_278 : decode cX9_isRead 278 = .ok (.isub, 1) := by decide +kernel
theorem dX9_isRead_279 : decode cX9_isRead 279 = .ok (.iaload, 1) := by decide +kernel
theorem dX9_isRead_280 : decode cX9_isRead 280 = .ok (.iastore, 1) := by decide +kernel
theorem dX9_isRead_281 : decode cX9_isRead 281 = .ok (.aload_n 0, 1) := by decide +kernel
theorem dX9_isRead_282 : decode cX9_isRead 282 = .ok (.getfield 28, 3) := by decide +kernel
theorem dX9_isRead_285 : decode cX9_isRead 285 = .ok (.iload_n 2, 1) := by decide +kernel
theorem dX9_isRead_286 : decode cX9_isRead 286 = .ok (.iconst 1, 1) := by decide +kernel
theorem dX9_isRead_287 : decode cX9_isRead 287 = .ok (.isub, 1) := by decide +kernel
theorem dX9_isRead_288 : decode cX9_isRead 288 = .ok (.iload 8, 2) := by decide +kernel
theorem dX9_isRead_290 : decode cX9_isRead 290 = .ok (.ifCond .eq 7, 3) := by decide +kernel
theorem dX9_isRead_293 : decode cX9_isRead 293 = .ok (.iconst 1, 1) := by decide +kernel
theorem dX9_isRead_294 : decode cX9_isRead 294 = .ok (.goto 4, 3) := by decide +kernel
theorem dX9_isRead_297 : decode cX9_isRead 297 = .ok (.iconst 3, 1) := by decide +kernel
theorem dX9_isRead_298 : decode cX9_isRead 298 = .ok (.iastore, 1) := by decide +kernel
theorem dX9_isRead_299 : decode cX9_isRead 299 = .ok (.iinc 4 1, 3) := by decide +kernel
theorem dX9_isRead_302 : decode cX9_isRead 302 = .ok (.goto (-288), 3) := by decide +kernel
theorem dX9_isRead_305 : decode cX9_isRead 305 = .ok (.aload_n 0, 1) := by decide +kernel
theorem dX9_isRead_306 : decode cX9_isRead 306 = .ok (.aload_n 0, 1) := by decide +kernel
theorem dX9_isRead_307 : decode cX9_isRead 307 = .ok (.getfield 145, 3) := by decide +kernel
theorem dX9_isRead_310 : decode cX9_isRead 310 = .ok (.putfield 153, 3) := by decide +kernel
theorem dX9_isRead_313 : decode cX9_isRead 313 = .ok (.iload_n 3, 1) := by decide +kernel
theorem dX9_isRead_314 : decode cX9_isRead 314 = .ok (.ireturn, 1) := by decide +kernel
theorem dX9_read_0 : decode cX9_read 0 = .ok (.aload_n 0, 1) := by decide +kernel
theorem dX9_read_1 : decode cX9_read 1 = .ok (.iconst 0, 1) := by decide +kernel
theorem dX9_read_2 : decode cX9_read 2 = .ok (.putfield 137, 3) := by decide +kernel
theorem dX9_read_5 : decode cX9_read 5 = .ok (.iload_n 1, 1) := by decide +kernel
theorem dX9_read_6 : decode cX9_read 6 = .ok (.invokestatic 164, 3) := by decide +kernel
theorem dX9_read_9 : decode cX9_read 9 = .ok (.ifCond .ne 5, 3) := by decide +kernel
theorem dX9_read_12 : decode cX9_read 12 = .ok (.iconst (-1), 1) := by decide +kernel
theorem dX9_read_13 : decode cX9_read 13 = .ok (.ireturn, 1) := by decide +kernel
theorem dX9_read_14 : decode cX9_read 14 = .ok (.aload_n 0, 1) := by decide +kernel
theorem dX9_read_15 : decode cX9_read 15 = .ok (.invokevirtual 167, 3) := by decide +kernel
theorem dX9_read_18 : decode cX9_read 18 = .ok (.ifCond .ne 11, 3) := by decide +kernel
theorem dX9_read_21 : decode cX9_read 21 = .ok (.bipush (-10), 2) := by decide +kernel
theorem dX9_read_23 : decode cX9_read 23 = .ok (.aload_n 0, 1) := by decide +kernel
theorem dX9_read_24 : decode cX9_read 24 = .ok (.getfield 153, 3) := by decide +kernel
theorem dX9_read_27 : decode cX9_read 27 = .ok (.isub, 1) := by decide +kernel
theorem dX9_read_28 : decode cX9_read 28 = .ok (.ireturn, 1) := by decide +kernel
theorem dX9_read_29 : decode cX9_read 29 = .ok (.iconst 0, 1) := by decide +kernel
theorem dX9_read_30 : decode cX9_read 30 = .ok (.istore_n 2, 1) := by decide +kernel
theorem dX9_read_31 : decode cX9_read 31 = .ok (.iload_n 2, 1) := by decide +kernel
theorem dX9_read_32 : decode cX9_read 32 = .ok (.aload_n 0, 1) := by decide +kernel
theorem dX9_read_33 : decode cX9_read 33 = .ok (.getfield 145, 3) := by decide +kernel
theorem dX9_read_36 : decode cX9_read 36 = .ok (.if_icmp .ge 26, 3) := by decide +kernel
theorem dX9_read_39 : decode cX9_read 39 = .ok (.aload_n 0, 1) := by decide +kernel
theorem dX9_read_40 : decode cX9_read 40 = .ok (.getfield 31, 3) := by decide +kernel
theorem dX9_read_43 : decode cX9_read 43 = .ok (.bipush 80, 2) := by decide +kernel
theorem dX9_read_45 : decode cX9_read 45 = .ok (.iload_n 1, 1) := by decide +kernel
theorem dX9_read_46 : decode cX9_read 46 = .ok (.imul, 1) := by decide +kernel
theorem dX9_read_47 : decode cX9_read 47 = .ok (.iload_n 2, 1) := by decide +kernel
theorem dX9_read_48 : decode cX9_read 48 = .ok (.iadd, 1) := by decide +kernel
theorem dX9_read_49 : decode cX9_read 49 = .ok (.aload_n 0, 1) := by decide +kernel
theorem dX9_read_50 : decode cX9_read 50 = .ok (.getfield 7, 3) := by decide +kernel
theorem dX9_read_53 : decode cX9_read 53 = .ok (.iload_n 2, 1) := by decide +kernel
theorem dX9_read_54 : decode cX9_read 54 = .ok (.iaload, 1) := by decide +kernel
theorem dX9_read_55 : decode cX9_read 55 = .ok (.iastore, 1) := by decide +kernel
theorem dX9_read_56 : decode cX9_read 56 = .ok (.iinc 2 1, 3) := by decide +kernel
theorem dX9_read_59 : decode cX9_read 59 = .ok (.goto (-28), 3) := by decide +kernel
theorem dX9_read_62 : decode cX9_read 62 = .ok (.aload_n 0, 1) := by decide +kernel
theorem dX9_read_63 : decode cX9_read 63 = .ok (.getfield 34, 3) := by decide +kernel
theorem dX9_read_66 : decode cX9_read 66 = .ok (.iload_n 1, 1) := by decide +kernel
theorem dX9_read_67 : decode cX9_read 67 = .ok (.aload_n 0, 1) := by decide +kernel
theorem dX9_read_68 : decode cX9_read 68 = .ok (.getfield 145, 3) := by decide +kernel
theorem dX9_read_71 : decode cX9_read 71 = .ok (.iastore, 1) := by decide +kernel
theorem dX9_read_72 : decode cX9_read 72 = .ok (.aload_n 0, 1) := by decide +kernel
theorem dX9_read_73 : decode cX9_read 73 = .ok (.iconst 0, 1) := by decide +kernel
theorem dX9_read_74 : decode cX9_read 74 = .ok (.putfield 145, 3) := by decide +kernel
theorem dX9_read_77 : decode cX9_read 77 = .ok (.aload_n 0, 1) := by decide +kernel
theorem dX9_read_78 : decode cX9_read 78 = .ok (.getfield 37, 3) := by decide +kernel
theorem dX9_read_81 : decode cX9_read 81 = .ok (.iload_n 1, 1) := by decide +kernel
theorem dX9_read_82 : decode cX9_read 82 = .ok (.aload_n 0, 1) := by decide +kernel
theorem dX9_read_83 : decode cX9_read 83 = .ok (.getfield 150, 3) := by decide +kernel
theorem dX9_read_86 : decode cX9_read 86 = .ok (.iastore, 1) := by decide +kernel
theorem dX9_read_87 : decode cX9_read 87 = .ok (.iconst 0, 1) := by decide +kernel
theorem dX9_read_88 : decode cX9_read 88 = .ok (.istore_n 2, 1) := by decide +kernel
theorem dX9_read_89 : decode cX9_read 89 = .ok (.iload_n 2, 1) := by decide +kernel
theorem dX9_read_90 : decode cX9_read 90 = .ok (.aload_n 0, 1) := by decide +kernel
theorem dX9_read_91 : decode cX9_read 91 = .ok (.getfield 150, 3) := by decide +kernel
theorem dX9_read_94 : decode cX9_read 94 = .ok (.if_icmp .ge 60, 3) := by decide +kernel
theorem dX9_read_97 : decode cX9_read 97 = .ok (.aload_n 0, 1) := by decide +kernel
theorem dX9_read_98 : decode cX9_read 98 = .ok (.getfield 40, 3) := by decide +kernel
theorem dX9_read_101 : decode cX9_read 101 = .ok (.bipush 23, 2) := by decide +kernel
theorem dX9_read_103 : decode cX9_read 103 = .ok (.iload_n 1, 1) := by decide +kernel
theorem dX9_read_104 : decode cX9_read 104 = .ok (.imul, 1) := by decide +kernel
theorem dX9_read_105 : decode cX9_read 105 = .ok (.iload_n 2, 1) := by decide +kernel
theorem dX9_read_106 : decode cX9_read 106 = .ok (.iadd, 1) := by decide +kernel
theorem dX9_read_107 : decode cX9_read 107 = .ok (.aload_n 0, 1) := by decide +kernel
theorem dX9_read_108 : decode cX9_read 108 = .ok (.getfield 13, 3) := by decide +kernel
theorem dX9_read_111 : decode cX9_read 111 = .ok (.iload_n 2, 1) := by decide +kernel
theorem dX9_read_112 : decode cX9_read 112 = .ok (.iaload, 1) := by decide +kernel
theorem dX9_read_113 : decode cX9_read 113 = .ok (.iastore, 1) := by decide +kernel
theorem dX9_read_114 : decode cX9_read 114 = .ok (.aload_n 0, 1) := by decide +kernel
theorem dX9_read_115 : decode cX9_read 115 = .ok (.getfield 43, 3) := by decide +kernel
theorem dX9_read_118 : decode cX9_read 118 = .ok (.bipush 23, 2) := by decide +kernel
theorem dX9_read_120 : decode cX9_read 120 = .ok (.iload_n 1, 1) := by decide +kernel
theorem dX9_read_121 : decode cX9_read 121 = .ok (.imul, 1) := by decide +kernel
theorem dX9_read_122 : decode cX9_read 122 = .ok (.iload_n 2, 1) := by decide +kernel
theorem dX9_read_123 : decode cX9_read 123 = .ok (.iadd, 1) := by decide +kernel
theorem dX9_read_124 : decode cX9_read 124 = .ok (.aload_n 0, 1) := by decide +kernel
theorem dX9_read_125 : decode cX9_read 125 = .ok (.getfield 16, 3) := by decide +kernel
theorem dX9_read_128 : decode cX9_read 128 = .ok (.iload_n 2, 1) := by decide +kernel
theorem dX9_read_129 : decode cX9_read 129 = .ok (.iaload, 1) := by decide +kernel
theorem dX9_read_130 : decode cX9_read 130 = .ok (.iastore, 1) := by decide +kernel
theorem dX9_read_131 : decode cX9_read 131 = .ok (.aload_n 0, 1) := by decide +kernel
theorem dX9_read_132 : decode cX9_read 132 = .ok (.getfield 46, 3) := by decide +kernel
theorem dX9_read_135 : decode cX9_read 135 = .ok (.bipush 23, 2) := by decide +kernel
theorem dX9_read_137 : decode cX9_read 137 = .ok (.iload_n 1, 1) := by decide +kernel
theorem dX9_read_138 : decode cX9_read 138 = .ok (.imul, 1) := by decide +kernel
theorem dX9_read_139 : decode cX9_read 139 = .ok (.iload_n 2, 1) := by decide +kernel
theorem dX9_read_140 : decode cX9_read 140 = .ok (.iadd, 1) := by decide +kernel
theorem dX9_read_141 : decode cX9_read 141 = .ok (.aload_n 0, 1) := by decide +kernel
theorem dX9_read_142 : decode cX9_read 142 = .ok (.getfield 19, 3) := by decide +kernel
theorem dX9_read_145 : decode cX9_read 145 = .ok (.iload_n 2, 1) := by decide +kernel
theorem dX9_read_146 : decode cX9_read 146 = .ok (.iaload, 1) := by decide +kernel
theorem dX9_read_147 : decode cX9_read 147 = .ok (.iastore, 1) := by decide +kernel
theorem dX9_read_148 : decode cX9_read 148 = .ok (.iinc 2 1, 3) := by decide +kernel
theorem dX9_read_151 : decode cX9_read 151 = .ok (.goto (-62), 3) := by decide +kernel
theorem dX9_read_154 : decode cX9_read 154 = .ok (.aload_n 0, 1) := by decide +kernel
theorem dX9_read_155 : decode cX9_read 155 = .ok (.iload_n 1, 1) := by decide +kernel
theorem dX9_read_156 : decode cX9_read 156 = .ok (.invokevirtual 171, 3) := by decide +kernel
theorem dX9_read_159 : decode cX9_read 159 = .ok (.aload_n 0, 1) := by decide +kernel
theorem dX9_read_160 : decode cX9_read 160 = .ok (.iload_n 1, 1) := by decide +kernel
theorem dX9_read_161 : decode cX9_read 161 = .ok (.invokevirtual 175, 3) := by decide +kernel
theorem dX9_read_164 : decode cX9_read 164 = .ok (.ireturn, 1) := by decide +kernel
theorem dX9_atomsOf_0 : decode cX9_atomsOf 0 = .ok (.aload_n 0, 1) := by decide +kernel
theorem dX9_atomsOf_1 : decode cX9_atomsOf 1 = .ok (.getfield 37, 3) := by decide +kernel
theorem dX9_atomsOf_4 : decode cX9_atomsOf 4 = .ok (.iload_n 1, 1) := by decide +kernel
theorem dX9_atomsOf_5 : decode cX9_atomsOf 5 = .ok (.iaload, 1) := by decide +kernel
theorem dX9_atomsOf_6 : decode cX9_atomsOf 6 = .ok (.iconst 1, 1) := by decide +kernel
theorem dX9_atomsOf_7 : decode cX9_atomsOf 7 = .ok (.iadd, 1) := by decide +kernel
theorem dX9_atomsOf_8 : decode cX9_atomsOf 8 = .ok (.iconst 2, 1) := by decide +kernel
theorem dX9_atomsOf_9 : decode cX9_atomsOf 9 = .ok (.idiv, 1) := by decide +kernel
theorem dX9_atomsOf_10 : decode cX9_atomsOf 10 = .ok (.ireturn, 1) := by decide +kernel
theorem dX9_spells_0 : decode cX9_spells 0 = .ok (.iconst 1, 1) := by decide +kernel
theorem dX9_spells_1 : decode cX9_spells 1 = .ok (.istore_n 2, 1) := by decide +kernel
theorem dX9_spells_2 : decode cX9_spells 2 = .ok (.aload_n 0, 1) := by decide +kernel
theorem dX9_spells_3 : decode cX9_spells 3 = .ok (.getfield 55, 3) := by decide +kernel
theorem dX9_spells_6 : decode cX9_spells 6 = .ok (.iconst 0, 1) := by decide +kernel
theorem dX9_spells_7 : decode cX9_spells 7 = .ok (.aload_n 0, 1) := by decide +kernel
theorem dX9_spells_8 : decode cX9_spells 8 = .ok (.getfield 37, 3) := by decide +kernel
theorem dX9_spells_11 : decode cX9_spells 11 = .ok (.iload_n 1, 1) := by decide +kernel
theorem dX9_spells_12 : decode cX9_spells 12 = .ok (.iaload, 1) := by decide +kernel
theorem dX9_spells_13 : decode cX9_spells 13 = .ok (.iastore, 1) := by decide +kernel
theorem dX9_spells_14 : decode cX9_spells 14 = .ok (.iconst 0, 1) := by decide +kernel
theorem dX9_spells_15 : decode cX9_spells 15 = .ok (.istore_n 3, 1) := by decide +kernel
theorem dX9_spells_16 : decode cX9_spells 16 = .ok (.iload_n 2, 1) := by decide +kernel
theorem dX9_spells_17 : decode cX9_spells 17 = .ok (.ifCond .le 230, 3) := by decide +kernel
theorem dX9_spells_20 : decode cX9_spells 20 = .ok (.iinc 2 (-1), 3) := by decide +kernel
theorem dX9_spells_23 : decode cX9_spells 23 = .ok (.aload_n 0, 1) := by decide +kernel
theorem dX9_spells_24 : decode cX9_spells 24 = .ok (.getfield 55, 3) := by decide +kernel
theorem dX9_spells_27 : decode cX9_spells 27 = .ok (.iload_n 2, 1) := by decide +kernel
theorem dX9_spells_28 : decode cX9_spells 28 = .ok (.iaload, 1) := by decide +kernel
theorem dX9_spells_29 : decode cX9_spells 29 = .ok (.istore 4, 2) := by decide +kernel
theorem dX9_spells_31 : decode cX9_spells 31 = .ok (.bipush 23, 2) := by decide +kernel
theorem dX9_spells_33 : decode cX9_spells 33 = .ok (.iload_n 1, 1) := by decide +kernel
theorem dX9_spells_34 : decode cX9_spells 34 = .ok (.imul, 1) := by decide +kernel
theorem dX9_spells_35 : decode cX9_spells 35 = .ok (.iload 4, 2) := by decide +kernel
theorem dX9_spells_37 : decode cX9_spells 37 = .ok (.ifCond .ge 9, 3) := by decide +kernel
theorem dX9_spells_40 : decode cX9_spells 40 = .ok (.iload 4, 2) := by decide +kernel
theorem dX9_spells_42 : decode cX9_spells 42 = .ok (.ineg, 1) := by decide +kernel
theorem dX9_spells_43 : decode cX9_spells 43 = .ok (.goto 5, 3) := by decide +kernel
theorem dX9_spells_46 : decode cX9_spells 46 = .ok (.iload 4, 2) := by decide +kernel
theorem dX9_spells_48 : decode cX9_spells 48 = .ok (.iadd, 1) := by decide +kernel
theorem dX9_spells_49 : decode cX9_spells 49 = .ok (.iconst 1, 1) := by decide +kernel
theorem dX9_spells_50 : decode cX9_spells 50 = .ok (.isub, 1) := by decide +kernel
theorem dX9_spells_51 : decode cX9_spells 51 = .ok (.istore 5, 2) := by decide +kernel
theorem dX9_spells_53 : decode cX9_spells 53 = .ok (.iload 4, 2) := by decide +kernel
theorem dX9_spells_55 : decode cX9_spells 55 = .ok (.ifCond .ge 7, 3) := by decide +kernel
theorem dX9_spells_58 : decode cX9_spells 58 = .ok (.iconst (-1), 1) := by decide +kernel
theorem dX9_spells_59 : decode cX9_spells 59 = .ok (.goto 4, 3) := by decide +kernel
theorem dX9_spells_62 : decode cX9_spells 62 = .ok (.iconst 1, 1) := by decide +kernel
theorem dX9_spells_63 : decode cX9_spells 63 = .ok (.istore 6, 2) := by decide +kernel
theorem dX9_spells_65 : decode cX9_spells 65 = .ok (.aload_n 0, 1) := by decide +kernel
theorem dX9_spells_66 : decode cX9_spells 66 = .ok (.getfield 40, 3) := by decide +kernel
theorem dX9_spells_69 : decode cX9_spells 69 = .ok (.iload 5, 2) := by decide +kernel
theorem dX9_spells_71 : decode cX9_spells 71 = .ok (.iaload, 1) := by decide +kernel
theorem dX9_spells_72 : decode cX9_spells 72 = .ok (.bipush 8, 2) := by decide +kernel
theorem dX9_spells_74 : decode cX9_spells 74 = .ok (.if_icmp .ge 65, 3) := by decide +kernel
theorem dX9_spells_77 : decode cX9_spells 77 = .ok (.iload 6, 2) := by decide +kernel
theorem dX9_spells_79 : decode cX9_spells 79 = .ok (.aload_n 0, 1) := by decide +kernel
theorem dX9_spells_80 : decode cX9_spells 80 = .ok (.getfield 40, 3) := by decide +kernel
theorem dX9_spells_83 : decode cX9_spells 83 = .ok (.iload 5, 2) := by decide +kernel
theorem dX9_spells_85 : decode cX9_spells 85 = .ok (.iaload, 1) := by decide +kernel
theorem dX9_spells_86 : decode cX9_spells 86 = .ok (.iconst 1, 1) := by decide +kernel
theorem dX9_spells_87 : decode cX9_spells 87 = .ok (.iadd, 1) := by decide +kernel
theorem dX9_spells_88 : decode cX9_spells 88 = .ok (.imul, 1) := by decide +kernel
theorem dX9_spells_89 : decode cX9_spells 89 = .ok (.istore 7, 2) := by decide +kernel
theorem dX9_spells_91 : decode cX9_spells 91 = .ok (.iload_n 3, 1) := by decide +kernel
theorem dX9_spells_92 : decode cX9_spells 92 = .ok (.ifCond .le 28, 3) := by decide +kernel
theorem dX9_spells_95 : decode cX9_spells 95 = .ok (.aload_n 0, 1) := by decide +kernel
theorem dX9_spells_96 : decode cX9_spells 96 = .ok (.getfield 49, 3) := by decide +kernel
theorem dX9_spells_99 : decode cX9_spells 99 = .ok (.bipush 12, 2) := by decide +kernel
theorem dX9_spells_101 : decode cX9_spells 101 = .ok (.iload_n 1, 1) := by decide +kernel
theorem dX9_spells_102 : decode cX9_spells 102 = .ok (.imul, 1) := by decide +kernel
theorem dX9_spells_103 : decode cX9_spells 103 = .ok (.iload_n 3, 1) := by decide +kernel
theorem dX9_spells_104 : decode cX9_spells 104 = .ok (.iadd, 1) := by decide +kernel
theorem dX9_spells_105 : decode cX9_spells 105 = .ok (.iconst 1, 1) := by decide +kernel
theorem dX9_spells_106 : decode cX9_spells 106 = .ok (.isub, 1) := by decide +kernel
theorem dX9_spells_107 : decode cX9_spells 107 = .ok (.iaload, 1) := by decide +kernel
theorem dX9_spells_108 : decode cX9_spells 108 = .ok (.iload 7, 2) := by decide +kernel
theorem dX9_spells_110 : decode cX9_spells 110 = .ok (.ineg, 1) := by decide +kernel
theorem dX9_spells_111 : decode cX9_spells 111 = .ok (.if_icmp .ne 9, 3) := by decide +kernel
theorem dX9_spells_114 : decode cX9_spells 114 = .ok (.iinc 3 (-1), 3) := by decide +kernel
theorem dX9_spells_117 : decode cX9_spells 117 = .ok (.goto 19, 3) := by decide +kernel
theorem dX9_spells_120 : decode cX9_spells 120 = .ok (.aload_n 0, 1) := by decide +kernel
theorem dX9_spells_121 : decode cX9_spells 121 = .ok (.getfield 49, 3) := by decide +kernel
theorem dX9_spells_124 : decode cX9_spells 124 = .ok (.bipush 12, 2) := by decide +kernel
theorem dX9_spells_126 : decode cX9_spells 126 = .ok (.iload_n 1, 1) := by decide +kernel
theorem dX9_spells_127 : decode cX9_spells 127 = .ok (.imul, 1) := by decide +kernel
theorem dX9_spells_128 : decode cX9_spells 128 = .ok (.iload_n 3, 1) := by decide +kernel
theorem dX9_spells_129 : decode cX9_spells 129 = .ok (.iadd, 1) := by decide +kernel
theorem dX9_spells_130 : decode cX9_spells 130 = .ok (.iload 7, 2) := by decide +kernel
theorem dX9_spells_132 : decode cX9_spells 132 = .ok (.iastore, 1) := by decide +kernel
theorem dX9_spells_133 : decode cX9_spells 133 = .ok (.iinc 3 1, 3) := by decide +kernel
theorem dX9_spells_136 : decode cX9_spells 136 = .ok (.goto 108, 3) := by decide +kernel
theorem dX9_spells_139 : decode cX9_spells 139 = .ok (.aload_n 0, 1) := by decide +kernel
theorem dX9_spells_140 : decode cX9_spells 140 = .ok (.getfield 43, 3) := by decide +kernel
theorem dX9_spells_143 : decode cX9_spells 143 = .ok (.iload 5, 2) := by decide +kernel
theorem dX9_spells_145 : decode cX9_spells 145 = .ok (.iaload, 1) := by decide +kernel
theorem dX9_spells_146 : decode cX9_spells 146 = .ok (.iconst 1, 1) := by decide +kernel
theorem dX9_spells_147 : decode cX9_spells 147 = .ok (.iadd, 1) := by decide +kernel
theorem dX9_spells_148 : decode cX9_spells 148 = .ok (.aload_n 0, 1) := by decide +kernel
theorem dX9_spells_149 : decode cX9_spells 149 = .ok (.getfield 40, 3) := by decide +kernel
theorem dX9_spells_152 : decode cX9_spells 152 = .ok (.iload 5, 2) := by decide +kernel
theorem dX9_spells_154 : decode cX9_spells 154 = .ok (.iaload, 1) := by decide +kernel
theorem dX9_spells_155 : decode cX9_spells 155 = .ok (.bipush 92, 2) := by decide +kernel
theorem dX9_spells_157 : decode cX9_spells 157 = .ok (.if_icmp .ne 7, 3) := by decide +kernel
theorem dX9_spells_160 : decode cX9_spells 160 = .ok (.iconst (-1), 1) := by decide +kernel
theorem dX9_spells_161 : decode cX9_spells 161 = .ok (.goto 4, 3) := by decide +kernel
theorem dX9_spells_164 : decode cX9_spells 164 = .ok (.iconst 1, 1) := by decide +kernel
theorem dX9_spells_165 : decode cX9_spells 165 = .ok (.imul, 1) := by decide +kernel
theorem dX9_spells_166 : decode cX9_spells 166 = .ok (.iload 6, 2) := by decide +kernel
theorem dX9_spells_168 : decode cX9_spells 168 = .ok (.imul, 1) := by decide +kernel
theorem dX9_spells_169 : decode cX9_spells 169 = .ok (.istore 7, 2) := by decide +kernel
theorem dX9_spells_171 : decode cX9_spells 171 = .ok (.aload_n 0, 1) := by decide +kernel
theorem dX9_spells_172 : decode cX9_spells 172 = .ok (.getfield 46, 3) := by decide +kernel
theorem dX9_spells_175 : decode cX9_spells 175 = .ok (.iload 5, 2) := by decide +kernel
theorem dX9_spells_177 : decode cX9_spells 177 = .ok (.iaload, 1) := by decide +kernel
theorem dX9_spells_178 : decode cX9_spells 178 = .ok (.iconst 1, 1) := by decide +kernel
theorem dX9_spells_179 : decode cX9_spells 179 = .ok (.iadd, 1) := by decide +kernel
theorem dX9_spells_180 : decode cX9_spells 180 = .ok (.aload_n 0, 1) := by decide +kernel
theorem dX9_spells_181 : decode cX9_spells 181 = .ok (.getfield 40, 3) := by decide +kernel
theorem dX9_spells_184 : decode cX9_spells 184 = .ok (.iload 5, 2) := by decide +kernel
theorem dX9_spells_186 : decode cX9_spells 186 = .ok (.iaload, 1) := by decide +kernel
theorem dX9_spells_187 : decode cX9_spells 187 = .ok (.bipush 47, 2) := by decide +kernel
theorem dX9_spells_189 : decode cX9_spells 189 = .ok (.if_icmp .ne 7, 3) := by decide +kernel
theorem dX9_spells_192 : decode cX9_spells 192 = .ok (.iconst (-1), 1) := by decide +kernel
theorem dX9_spells_193 : decode cX9_spells 193 = .ok (.goto 4, 3) := by decide +kernel
theorem dX9_spells_196 : decode cX9_spells 196 = .ok (.iconst 1, 1) := by decide +kernel
theorem dX9_spells_197 : decode cX9_spells 197 = .ok (.imul, 1) := by decide +kernel
theorem dX9_spells_198 : decode cX9_spells 198 = .ok (.iload 6, 2) := by decide +kernel
theorem dX9_spells_200 : decode cX9_spells 200 = .ok (.imul, 1) := by decide +kernel
theorem dX9_spells_201 : decode cX9_spells 201 = .ok (.istore 8, 2) := by decide +kernel
theorem dX9_spells_203 : decode cX9_spells 203 = .ok (.aload_n 0, 1) := by decide +kernel
theorem dX9_spells_204 : decode cX9_spells 204 = .ok (.getfield 55, 3) := by decide +kernel
theorem dX9_spells_207 : decode cX9_spells 207 = .ok (.iload_n 2, 1) := by decide +kernel
theorem dX9_spells_208 : decode cX9_spells 208 = .ok (.iload 6, 2) := by decide +kernel
theorem dX9_spells_210 : decode cX9_spells 210 = .ok (.ifCond .le 8, 3) := by decide +kernel
theorem dX9_spells_213 : decode cX9_spells 213 = .ok (.iload 8, 2) := by decide +kernel
theorem dX9_spells_215 : decode cX9_spells 215 = .ok (.goto 5, 3) := by decide +kernel
theorem dX9_spells_218 : decode cX9_spells 218 = .ok (.iload 7, 2) := by decide +kernel
theorem dX9_spells_220 : decode cX9_spells 220 = .ok (.iastore, 1) := by decide +kernel
theorem dX9_spells_221 : decode cX9_spells 221 = .ok (.aload_n 0, 1) := by decide +kernel
theorem dX9_spells_222 : decode cX9_spells 222 = .ok (.getfield 55, 3) := by decide +kernel
theorem dX9_spells_225 : decode cX9_spells 225 = .ok (.iload_n 2, 1) := by decide +kernel
theorem dX9_spells_226 : decode cX9_spells 226 = .ok (.iconst 1, 1) := by decide +kernel
theorem dX9_spells_227 : decode cX9_spells 227 = .ok (.iadd, 1) := by decide +kernel
theorem dX9_spells_228 : decode cX9_spells 228 = .ok (.iload 6, 2) := by decide +kernel
theorem dX9_spells_230 : decode cX9_spells 230 = .ok (.ifCond .le 8, 3) := by decide +kernel
theorem dX9_spells_233 : decode cX9_spells 233 = .ok (.iload 7, 2) := by decide +kernel
theorem dX9_spells_235 : decode cX9_spells 235 = .ok (.goto 5, 3) := by decide +kernel
theorem dX9_spells_238 : decode cX9_spells 238 = .ok (.iload 8, 2) := by decide +kernel
theorem dX9_spells_240 : decode cX9_spells 240 = .ok (.iastore, 1) := by decide +kernel
theorem dX9_spells_241 : decode cX9_spells 241 = .ok (.iinc 2 2, 3) := by decide +kernel
theorem dX9_spells_244 : decode cX9_spells 244 = .ok (.goto (-228), 3) := by decide +kernel
theorem dX9_spells_247 : decode cX9_spells 247 = .ok (.aload_n 0, 1) := by decide +kernel
theorem dX9_spells_248 : decode cX9_spells 248 = .ok (.getfield 52, 3) := by decide +kernel
theorem dX9_spells_251 : decode cX9_spells 251 = .ok (.iload_n 1, 1) := by decide +kernel
theorem dX9_spells_252 : decode cX9_spells 252 = .ok (.iload_n 3, 1) := by decide +kernel
theorem dX9_spells_253 : decode cX9_spells 253 = .ok (.iastore, 1) := by decide +kernel
theorem dX9_spells_254 : decode cX9_spells 254 = .ok (.return_, 1) := by decide +kernel
theorem dX9_works_0 : decode cX9_works 0 = .ok (.iconst 0, 1) := by decide +kernel
theorem dX9_works_1 : decode cX9_works 1 = .ok (.istore_n 2, 1) := by decide +kernel
theorem dX9_works_2 : decode cX9_works 2 = .ok (.iload_n 2, 1) := by decide +kernel
theorem dX9_works_3 : decode cX9_works 3 = .ok (.aload_n 0, 1) := by decide +kernel
theorem dX9_works_4 : decode cX9_works 4 = .ok (.getfield 37, 3) := by decide +kernel
theorem dX9_works_7 : decode cX9_works 7 = .ok (.iload_n 1, 1) := by decide +kernel
theorem dX9_works_8 : decode cX9_works 8 = .ok (.iaload, 1) := by decide +kernel
theorem dX9_works_9 : decode cX9_works 9 = .ok (.if_icmp .ge 243, 3) := by decide +kernel
theorem dX9_works_12 : decode cX9_works 12 = .ok (.bipush 23, 2) := by decide +kernel
theorem dX9_works_14 : decode cX9_works 14 = .ok (.iload_n 1, 1) := by decide +kernel
theorem dX9_works_15 : decode cX9_works 15 = .ok (.imul, 1) := by decide +kernel
theorem dX9_works_16 : decode cX9_works 16 = .ok (.iload_n 2, 1) := by decide +kernel
theorem dX9_works_17 : decode cX9_works 17 = .ok (.iadd, 1) := by decide +kernel
theorem dX9_works_18 : decode cX9_works 18 = .ok (.istore_n 3, 1) := by decide +kernel
theorem dX9_works_19 : decode cX9_works 19 = .ok (.aload_n 0, 1) := by decide +kernel
theorem dX9_works_20 : decode cX9_works 20 = .ok (.getfield 179, 3) := by decide +kernel
theorem dX9_works_23 : decode cX9_works 23 = .ok (.iload_n 2, 1) := by decide +kernel
theorem dX9_works_24 : decode cX9_works 24 = .ok (.iadd, 1) := by decide +kernel
theorem dX9_works_25 : decode cX9_works 25 = .ok (.istore 4, 2) := by decide +kernel
theorem dX9_works_27 : decode cX9_works 27 = .ok (.aload_n 0, 1) := by decide +kernel
theorem dX9_works_28 : decode cX9_works 28 = .ok (.getfield 40, 3) := by decide +kernel
theorem dX9_works_31 : decode cX9_works 31 = .ok (.iload_n 3, 1) := by decide +kernel
theorem dX9_works_32 : decode cX9_works 32 = .ok (.iaload, 1) := by decide +kernel
theorem dX9_works_33 : decode cX9_works 33 = .ok (.istore 5, 2) := by decide +kernel
theorem dX9_works_35 : decode cX9_works 35 = .ok (.aload_n 0, 1) := by decide +kernel
theorem dX9_works_36 : decode cX9_works 36 = .ok (.getfield 179, 3) := by decide +kernel
theorem dX9_works_39 : decode cX9_works 39 = .ok (.aload_n 0, 1) := by decide +kernel
theorem dX9_works_40 : decode cX9_works 40 = .ok (.getfield 43, 3) := by decide +kernel
theorem dX9_works_43 : decode cX9_works 43 = .ok (.iload_n 3, 1) := by decide +kernel
theorem dX9_works_44 : decode cX9_works 44 = .ok (.iaload, 1) := by decide +kernel
theorem dX9_works_45 : decode cX9_works 45 = .ok (.iadd, 1) := by decide +kernel
theorem dX9_works_46 : decode cX9_works 46 = .ok (.istore 6, 2) := by decide +kernel
theorem dX9_works_48 : decode cX9_works 48 = .ok (.aload_n 0, 1) := by decide +kernel
theorem dX9_works_49 : decode cX9_works 49 = .ok (.getfield 179, 3) := by decide +kernel
theorem dX9_works_52 : decode cX9_works 52 = .ok (.aload_n 0, 1) := by decide +kernel
theorem dX9_works_53 : decode cX9_works 53 = .ok (.getfield 46, 3) := by decide +kernel
theorem dX9_works_56 : decode cX9_works 56 = .ok (.iload_n 3, 1) := by decide +kernel
theorem dX9_works_57 : decode cX9_works 57 = .ok (.iaload, 1) := by decide +kernel
theorem dX9_works_58 : decode cX9_works 58 = .ok (.iadd, 1) := by decide +kernel
theorem dX9_works_59 : decode cX9_works 59 = .ok (.istore 7, 2) := by decide +kernel
theorem dX9_works_61 : decode cX9_works 61 = .ok (.aload_n 0, 1) := by decide +kernel
theorem dX9_works_62 : decode cX9_works 62 = .ok (.getfield 64, 3) := by decide +kernel
theorem dX9_works_65 : decode cX9_works 65 = .ok (.iload 4, 2) := by decide +kernel
theorem dX9_works_67 : decode cX9_works 67 = .ok (.iload 5, 2) := by decide +kernel
theorem dX9_works_69 : decode cX9_works 69 = .ok (.iastore, 1) := by decide +kernel
theorem dX9_works_70 : decode cX9_works 70 = .ok (.aload_n 0, 1) := by decide +kernel
theorem dX9_works_71 : decode cX9_works 71 = .ok (.getfield 67, 3) := by decide +kernel
theorem dX9_works_74 : decode cX9_works 74 = .ok (.iload 4, 2) := by decide +kernel
theorem dX9_works_76 : decode cX9_works 76 = .ok (.iload 6, 2) := by decide +kernel
theorem dX9_works_78 : decode cX9_works 78 = .ok (.iastore, 1) := by decide +kernel
theorem dX9_works_79 : decode cX9_works 79 = .ok (.aload_n 0, 1) := by decide +kernel
theorem dX9_works_80 : decode cX9_works 80 = .ok (.getfield 70, 3) := by decide +kernel
theorem dX9_works_83 : decode cX9_works 83 = .ok (.iload 4, 2) := by decide +kernel
theorem dX9_works_85 : decode cX9_works 85 = .ok (.iload 7, 2) := by decide +kernel
theorem dX9_works_87 : decode cX9_works 87 = .ok (.iastore, 1) := by decide +kernel
theorem dX9_works_88 : decode cX9_works 88 = .ok (.iload 5, 2) := by decide +kernel
theorem dX9_works_90 : decode cX9_works 90 = .ok (.bipush 8, 2) := by decide +kernel
theorem dX9_works_92 : decode cX9_works 92 = .ok (.if_icmp .ge 7, 3) := by decide +kernel
theorem dX9_works_95 : decode cX9_works 95 = .ok (.iconst 1, 1) := by decide +kernel
theorem dX9_works_96 : decode cX9_works 96 = .ok (.goto 4, 3) := by decide +kernel
theorem dX9_works_99 : decode cX9_works 99 = .ok (.iconst 0, 1) := by decide +kernel
theorem dX9_works_100 : decode cX9_works 100 = .ok (.istore 8, 2) := by decide +kernel
theorem dX9_works_102 : decode cX9_works 102 = .ok (.aload_n 0, 1) := by decide +kernel
theorem dX9_works_103 : decode cX9_works 103 = .ok (.getfield 73, 3) := by decide +kernel
theorem dX9_works_106 : decode cX9_works 106 = .ok (.iload 4, 2) := by decide +kernel
theorem dX9_works_108 : decode cX9_works 108 = .ok (.iload 8, 2) := by decide +kernel
theorem dX9_works_110 : decode cX9_works 110 = .ok (.ifCond .eq 7, 3) := by decide +kernel
theorem dX9_works_113 : decode cX9_works 113 = .ok (.iconst 0, 1) := by decide +kernel
theorem dX9_works_114 : decode cX9_works 114 = .ok (.goto 20, 3) := by decide +kernel
theorem dX9_works_117 : decode cX9_works 117 = .ok (.aload_n 0, 1) := by decide +kernel
theorem dX9_works_118 : decode cX9_works 118 = .ok (.getfield 73, 3) := by decide +kernel
theorem dX9_works_121 : decode cX9_works 121 = .ok (.iload 6, 2) := by decide +kernel
theorem dX9_works_123 : decode cX9_works 123 = .ok (.iaload, 1) := by decide +kernel
theorem dX9_works_124 : decode cX9_works 124 = .ok (.aload_n 0, 1) := by decide +kernel
theorem dX9_works_125 : decode cX9_works 125 = .ok (.getfield 73, 3) := by decide +kernel
theorem dX9_works_128 : decode cX9_works 128 = .ok (.iload 7, 2) := by decide +kernel
theorem dX9_works_130 : decode cX9_works 130 = .ok (.iaload, 1) := by decide +kernel
theorem dX9_works_131 : decode cX9_works 131 = .ok (.iadd, 1) := by decide +kernel
theorem dX9_works_132 : decode cX9_works 132 = .ok (.iconst 1, 1) := by decide +kernel
theorem dX9_works_133 : decode cX9_works 133 = .ok (.iadd, 1) := by decide +kernel
theorem dX9_works_134 : decode cX9_works 134 = .ok (.iastore, 1) := by decide +kernel
theorem dX9_works_135 : decode cX9_works 135 = .ok (.aload_n 0, 1) := by decide +kernel
theorem dX9_works_136 : decode cX9_works 136 = .ok (.getfield 76, 3) := by decide +kernel
theorem dX9_works_139 : decode cX9_works 139 = .ok (.iload 4, 2) := by decide +kernel
theorem dX9_works_141 : decode cX9_works 141 = .ok (.iload 8, 2) := by decide +kernel
theorem dX9_works_143 : decode cX9_works 143 = .ok (.ifCond .eq 7, 3) := by decide +kernel
theorem dX9_works_146 : decode cX9_works 146 = .ok (.iconst 1, 1) := by decide +kernel
theorem dX9_works_147 : decode cX9_works 147 = .ok (.goto 18, 3) := by decide +kernel
theorem dX9_works_150 : decode cX9_works 150 = .ok (.aload_n 0, 1) := by decide +kernel
theorem dX9_works_151 : decode cX9_works 151 = .ok (.getfield 76, 3) := by decide +kernel
theorem dX9_works_154 : decode cX9_works 154 = .ok (.iload 6, 2) := by decide +kernel
theorem dX9_works_156 : decode cX9_works 156 = .ok (.iaload, 1) := by decide +kernel
theorem dX9_works_157 : decode cX9_works 157 = .ok (.aload_n 0, 1) := by decide +kernel
theorem dX9_works_158 : decode cX9_works 158 = .ok (.getfield 76, 3) := by decide +kernel
theorem dX9_works_161 : decode cX9_works 161 = .ok (.iload 7, 2) := by decide +kernel
theorem dX9_works_163 : decode cX9_works 163 = .ok (.iaload, 1) := by decide +kernel
theorem dX9_works_164 : decode cX9_works 164 = .ok (.iadd, 1) := by decide +kernel
theorem dX9_works_165 : decode cX9_works 165 = .ok (.iastore, 1) := by decide +kernel
theorem dX9_works_166 : decode cX9_works 166 = .ok (.aload_n 0, 1) := by decide +kernel
theorem dX9_works_167 : decode cX9_works 167 = .ok (.getfield 82, 3) := by decide +kernel
theorem dX9_works_170 : decode cX9_works 170 = .ok (.iload 4, 2) := by decide +kernel
theorem dX9_works_172 : decode cX9_works 172 = .ok (.iload 8, 2) := by decide +kernel
theorem dX9_works_174 : decode cX9_works 174 = .ok (.ifCond .ne 34, 3) := by decide +kernel
theorem dX9_works_177 : decode cX9_works 177 = .ok (.iload 5, 2) := by decide +kernel
theorem dX9_works_179 : decode cX9_works 179 = .ok (.bipush 42, 2) := by decide +kernel
theorem dX9_works_181 : decode cX9_works 181 = .ok (.if_icmp .eq 23, 3) := by decide +kernel
theorem dX9_works_184 : decode cX9_works 184 = .ok (.aload_n 0, 1) := by decide +kernel
theorem dX9_works_185 : decode cX9_works 185 = .ok (.getfield 82, 3) := by decide +kernel
theorem dX9_works_188 : decode cX9_works 188 = .ok (.iload 6, 2) := by decide +kernel
theorem dX9_works_190 : decode cX9_works 190 = .ok (.baload, 1) := by decide +kernel
theorem dX9_works_191 : decode cX9_works 191 = .ok (.ifCond .ne 13, 3) := by decide +kernel
theorem dX9_works_194 : decode cX9_works 194 = .ok (.aload_n 0, 1) := by decide +kernel
theorem dX9_works_195 : decode cX9_works 195 = .ok (.getfield 82, 3) := by decide +kernel
theorem dX9_works_198 : decode cX9_works 198 = .ok (.iload 7, 2) := by decide +kernel
theorem dX9_works_200 : decode cX9_works 200 = .ok (.baload, 1) := by decide +kernel
theorem dX9_works_201 : decode cX9_works 201 = .ok (.ifCond .eq 7, 3) := by decide +kernel
theorem dX9_works_204 : decode cX9_works 204 = .ok (.iconst 1, 1) := by decide +kernel
theorem dX9_works_205 : decode cX9_works 205 = .ok (.goto 4, 3) := by decide +kernel
theorem dX9_works_208 : decode cX9_works 208 = .ok (.iconst 0, 1) := by decide +kernel
theorem dX9_works_209 : decode cX9_works 209 = .ok (.bastore, 1) := by decide +kernel
theorem dX9_works_210 : decode cX9_works 210 = .ok (.aload_n 0, 1) := by decide +kernel
theorem dX9_works_211 : decode cX9_works 211 = .ok (.getfield 79, 3) := by decide +kernel
theorem dX9_works_214 : decode cX9_works 214 = .ok (.iload 4, 2) := by decide +kernel
theorem dX9_works_216 : decode cX9_works 216 = .ok (.iload 8, 2) := by decide +kernel
theorem dX9_works_218 : decode cX9_works 218 = .ok (.ifCond .eq 8, 3) := by decide +kernel
theorem dX9_works_221 : decode cX9_works 221 = .ok (.iload 5, 2) := by decide +kernel
theorem dX9_works_223 : decode cX9_works 223 = .ok (.goto 22, 3) := by decide +kernel
theorem dX9_works_226 : decode cX9_works 226 = .ok (.aload_n 0, 1) := by decide +kernel
theorem dX9_works_227 : decode cX9_works 227 = .ok (.getfield 79, 3) := by decide +kernel
theorem dX9_works_230 : decode cX9_works 230 = .ok (.iload 5, 2) := by decide +kernel
theorem dX9_works_232 : decode cX9_works 232 = .ok (.bipush 92, 2) := by decide +kernel
theorem dX9_works_234 : decode cX9_works 234 = .ok (.if_icmp .ne 8, 3) := by decide +kernel
theorem dX9_works_237 : decode cX9_works 237 = .ok (.iload 7, 2) := by decide +kernel
theorem dX9_works_239 : decode cX9_works 239 = .ok (.goto 5, 3) := by decide +kernel
theorem dX9_works_242 : decode cX9_works 242 = .ok (.iload 6, 2) := by decide +kernel
theorem dX9_works_244 : decode cX9_works 244 = .ok (.iaload, 1) := by decide +kernel
theorem dX9_works_245 : decode cX9_works 245 = .ok (.iastore, 1) := by decide +kernel
theorem dX9_works_246 : decode cX9_works 246 = .ok (.iinc 2 1, 3) := by decide +kernel
theorem dX9_works_249 : decode cX9_works 249 = .ok (.goto (-247), 3) := by decide +kernel
theorem dX9_works_252 : decode cX9_works 252 = .ok (.aload_n 0, 1) := by decide +kernel
theorem dX9_works_253 : decode cX9_works 253 = .ok (.dup, 1) := by decide +kernel
theorem dX9_works_254 : decode cX9_works 254 = .ok (.getfield 179, 3) := by decide +kernel
theorem dX9_works_257 : decode cX9_works 257 = .ok (.aload_n 0, 1) := by decide +kernel
theorem dX9_works_258 : decode cX9_works 258 = .ok (.getfield 37, 3) := by decide +kernel
theorem dX9_works_261 : decode cX9_works 261 = .ok (.iload_n 1, 1) := by decide +kernel
theorem dX9_works_262 : decode cX9_works 262 = .ok (.iaload, 1) := by decide +kernel
theorem dX9_works_263 : decode cX9_works 263 = .ok (.iadd, 1) := by decide +kernel
theorem dX9_works_264 : decode cX9_works 264 = .ok (.putfield 179, 3) := by decide +kernel
theorem dX9_works_267 : decode cX9_works 267 = .ok (.return_, 1) := by decide +kernel
theorem dX9_about_0 : decode cX9_about 0 = .ok (.aload_n 0, 1) := by decide +kernel
theorem dX9_about_1 : decode cX9_about 1 = .ok (.iconst 0, 1) := by decide +kernel
theorem dX9_about_2 : decode cX9_about 2 = .ok (.putfield 137, 3) := by decide +kernel
theorem dX9_about_5 : decode cX9_about 5 = .ok (.iload_n 1, 1) := by decide +kernel
theorem dX9_about_6 : decode cX9_about 6 = .ok (.invokestatic 164, 3) := by decide +kernel
theorem dX9_about_9 : decode cX9_about 9 = .ok (.ifCond .eq 12, 3) := by decide +kernel
theorem dX9_about_12 : decode cX9_about 12 = .ok (.iload_n 2, 1) := by decide +kernel
theorem dX9_about_13 : decode cX9_about 13 = .ok (.iconst 0, 1) := by decide +kernel
theorem dX9_about_14 : decode cX9_about 14 = .ok (.iconst 3, 1) := by decide +kernel
theorem dX9_about_15 : decode cX9_about 15 = .ok (.invokestatic 141, 3) := by decide +kernel
theorem dX9_about_18 : decode cX9_about 18 = .ok (.ifCond .ne 5, 3) := by decide +kernel
theorem dX9_about_21 : decode cX9_about 21 = .ok (.iconst (-1), 1) := by decide +kernel
theorem dX9_about_22 : decode cX9_about 22 = .ok (.ireturn, 1) := by decide +kernel
theorem dX9_about_23 : decode cX9_about 23 = .ok (.aload_n 0, 1) := by decide +kernel
theorem dX9_about_24 : decode cX9_about 24 = .ok (.iconst 0, 1) := by decide +kernel
theorem dX9_about_25 : decode cX9_about 25 = .ok (.putfield 179, 3) := by decide +kernel
theorem dX9_about_28 : decode cX9_about 28 = .ok (.aload_n 0, 1) := by decide +kernel
theorem dX9_about_29 : decode cX9_about 29 = .ok (.iload_n 1, 1) := by decide +kernel
theorem dX9_about_30 : decode cX9_about 30 = .ok (.invokevirtual 182, 3) := by decide +kernel
theorem dX9_about_33 : decode cX9_about 33 = .ok (.iload_n 2, 1) := by decide +kernel
theorem dX9_about_34 : decode cX9_about 34 = .ok (.ifCond .ne 9, 3) := by decide +kernel
theorem dX9_about_37 : decode cX9_about 37 = .ok (.aload_n 0, 1) := by decide +kernel
theorem dX9_about_38 : decode cX9_about 38 = .ok (.iload_n 1, 1) := by decide +kernel
theorem dX9_about_39 : decode cX9_about 39 = .ok (.invokevirtual 175, 3) := by decide +kernel
theorem dX9_about_42 : decode cX9_about 42 = .ok (.ireturn, 1) := by decide +kernel
theorem dX9_about_43 : decode cX9_about 43 = .ok (.iload_n 2, 1) := by decide +kernel
theorem dX9_about_44 : decode cX9_about 44 = .ok (.iconst 2, 1) := by decide +kernel
theorem dX9_about_45 : decode cX9_about 45 = .ok (.if_icmp .ne 34, 3) := by decide +kernel
theorem dX9_about_48 : decode cX9_about 48 = .ok (.aload_n 0, 1) := by decide +kernel
theorem dX9_about_49 : decode cX9_about 49 = .ok (.getfield 82, 3) := by decide +kernel
theorem dX9_about_52 : decode cX9_about 52 = .ok (.aload_n 0, 1) := by decide +kernel
theorem dX9_about_53 : decode cX9_about 53 = .ok (.getfield 179, 3) := by decide +kernel
theorem dX9_about_56 : decode cX9_about 56 = .ok (.iconst 1, 1) := by decide +kernel
theorem dX9_about_57 : decode cX9_about 57 = .ok (.isub, 1) := by decide +kernel
theorem dX9_about_58 : decode cX9_about 58 = .ok (.baload, 1) := by decide +kernel
theorem dX9_about_59 : decode cX9_about 59 = .ok (.ifCond .eq 8, 3) := by decide +kernel
theorem dX9_about_62 : decode cX9_about 62 = .ok (.bipush (-9), 2) := by decide +kernel
theorem dX9_about_64 : decode cX9_about 64 = .ok (.goto 14, 3) := by decide +kernel
theorem dX9_about_67 : decode cX9_about 67 = .ok (.aload_n 0, 1) := by decide +kernel
theorem dX9_about_68 : decode cX9_about 68 = .ok (.getfield 79, 3) := by decide +kernel
theorem dX9_about_71 : decode cX9_about 71 = .ok (.aload_n 0, 1) := by decide +kernel
theorem dX9_about_72 : decode cX9_about 72 = .ok (.getfield 179, 3) := by decide +kernel
theorem dX9_about_75 : decode cX9_about 75 = .ok (.iconst 1, 1) := by decide +kernel
theorem dX9_about_76 : decode cX9_about 76 = .ok (.isub, 1) := by decide +kernel
theorem dX9_about_77 : decode cX9_about 77 = .ok (.iaload, 1) := by decide +kernel
theorem dX9_about_78 : decode cX9_about 78 = .ok (.ireturn, 1) := by decide +kernel
theorem dX9_about_79 : decode cX9_about 79 = .ok (.iload_n 2, 1) := by decide +kernel
theorem dX9_about_80 : decode cX9_about 80 = .ok (.iconst 3, 1) := by decide +kernel
theorem dX9_about_81 : decode cX9_about 81 = .ok (.if_icmp .ne 10, 3) := by decide +kernel
theorem dX9_about_84 : decode cX9_about 84 = .ok (.aload_n 0, 1) := by decide +kernel
theorem dX9_about_85 : decode cX9_about 85 = .ok (.getfield 52, 3) := by decide +kernel
theorem dX9_about_88 : decode cX9_about 88 = .ok (.iload_n 1, 1) := by decide +kernel
theorem dX9_about_89 : decode cX9_about 89 = .ok (.iaload, 1) := by decide +kernel
theorem dX9_about_90 : decode cX9_about 90 = .ok (.ireturn, 1) := by decide +kernel
theorem dX9_about_91 : decode cX9_about 91 = .ok (.iconst 0, 1) := by decide +kernel
theorem dX9_about_92 : decode cX9_about 92 = .ok (.istore_n 3, 1) := by decide +kernel
theorem dX9_about_93 : decode cX9_about 93 = .ok (.iload_n 3, 1) := by decide +kernel
theorem dX9_about_94 : decode cX9_about 94 = .ok (.aload_n 0, 1) := by decide +kernel
theorem dX9_about_95 : decode cX9_about 95 = .ok (.getfield 179, 3) := by decide +kernel
theorem dX9_about_98 : decode cX9_about 98 = .ok (.if_icmp .ge 106, 3) := by decide +kernel
theorem dX9_about_101 : decode cX9_about 101 = .ok (.aload_n 0, 1) := by decide +kernel
theorem dX9_about_102 : decode cX9_about 102 = .ok (.getfield 64, 3) := by decide +kernel
theorem dX9_about_105 : decode cX9_about 105 = .ok (.iload_n 3, 1) := by decide +kernel
theorem dX9_about_106 : decode cX9_about 106 = .ok (.iaload, 1) := by decide +kernel
theorem dX9_about_107 : decode cX9_about 107 = .ok (.istore 4, 2) := by decide +kernel
theorem dX9_about_109 : decode cX9_about 109 = .ok (.iload 4, 2) := by decide +kernel
theorem dX9_about_111 : decode cX9_about 111 = .ok (.bipush 8, 2) := by decide +kernel
theorem dX9_about_113 : decode cX9_about 113 = .ok (.if_icmp .ge 13, 3) := by decide +kernel
theorem dX9_about_116 : decode cX9_about 116 = .ok (.aload_n 0, 1) := by decide +kernel
theorem dX9_about_117 : decode cX9_about 117 = .ok (.getfield 86, 3) := by decide +kernel
theorem dX9_about_120 : decode cX9_about 120 = .ok (.iload_n 3, 1) := by decide +kernel
theorem dX9_about_121 : decode cX9_about 121 = .ok (.iconst 0, 1) := by decide +kernel
theorem dX9_about_122 : decode cX9_about 122 = .ok (.iastore, 1) := by decide +kernel
theorem dX9_about_123 : decode cX9_about 123 = .ok (.goto 75, 3) := by decide +kernel
theorem dX9_about_126 : decode cX9_about 126 = .ok (.aload_n 0, 1) := by decide +kernel
theorem dX9_about_127 : decode cX9_about 127 = .ok (.getfield 86, 3) := by decide +kernel
theorem dX9_about_130 : decode cX9_about 130 = .ok (.aload_n 0, 1) := by decide +kernel
theorem dX9_about_131 : decode cX9_about 131 = .ok (.getfield 67, 3) := by decide +kernel
theorem dX9_about_134 : decode cX9_about 134 = .ok (.iload_n 3, 1) := by decide +kernel
theorem dX9_about_135 : decode cX9_about 135 = .ok (.iaload, 1) := by decide +kernel
theorem dX9_about_136 : decode cX9_about 136 = .ok (.iaload, 1) := by decide +kernel
theorem dX9_about_137 : decode cX9_about 137 = .ok (.iload 4, 2) := by decide +kernel
theorem dX9_about_139 : decode cX9_about 139 = .ok (.bipush 92, 2) := by decide +kernel
theorem dX9_about_141 : decode cX9_about 141 = .ok (.if_icmp .ne 7, 3) := by decide +kernel
theorem dX9_about_144 : decode cX9_about 144 = .ok (.iconst 1, 1) := by decide +kernel
theorem dX9_about_145 : decode cX9_about 145 = .ok (.goto 4, 3) := by decide +kernel
theorem dX9_about_148 : decode cX9_about 148 = .ok (.iconst 0, 1) := by decide +kernel
theorem dX9_about_149 : decode cX9_about 149 = .ok (.iadd, 1) := by decide +kernel
theorem dX9_about_150 : decode cX9_about 150 = .ok (.istore 5, 2) := by decide +kernel
theorem dX9_about_152 : decode cX9_about 152 = .ok (.aload_n 0, 1) := by decide +kernel
theorem dX9_about_153 : decode cX9_about 153 = .ok (.getfield 86, 3) := by decide +kernel
theorem dX9_about_156 : decode cX9_about 156 = .ok (.aload_n 0, 1) := by decide +kernel
theorem dX9_about_157 : decode cX9_about 157 = .ok (.getfield 70, 3) := by decide +kernel
theorem dX9_about_160 : decode cX9_about 160 = .ok (.iload_n 3, 1) := by decide +kernel
theorem dX9_about_161 : decode cX9_about 161 = .ok (.iaload, 1) := by decide +kernel
theorem dX9_about_162 : decode cX9_about 162 = .ok (.iaload, 1) := by decide +kernel
theorem dX9_about_163 : decode cX9_about 163 = .ok (.iload 4, 2) := by decide +kernel
theorem dX9_about_165 : decode cX9_about 165 = .ok (.bipush 47, 2) := by decide +kernel
theorem dX9_about_167 : decode cX9_about 167 = .ok (.if_icmp .ne 7, 3) := by decide +kernel
theorem dX9_about_170 : decode cX9_about 170 = .ok (.iconst 1, 1) := by decide +kernel
theorem dX9_about_171 : decode cX9_about 171 = .ok (.goto 4, 3) := by decide +kernel
theorem dX9_about_174 : decode cX9_about 174 = .ok (.iconst 0, 1) := by decide +kernel
theorem dX9_about_175 : decode cX9_about 175 = .ok (.iadd, 1) := by decide +kernel
theorem dX9_about_176 : decode cX9_about 176 = .ok (.istore 6, 2) := by decide +kernel
theorem dX9_about_178 : decode cX9_about 178 = .ok (.aload_n 0, 1) := by decide +kernel
theorem dX9_about_179 : decode cX9_about 179 = .ok (.getfield 86, 3) := by decide +kernel
theorem dX9_about_182 : decode cX9_about 182 = .ok (.iload_n 3, 1) := by decide +kernel
theorem dX9_about_183 : decode cX9_about 183 = .ok (.iload 5, 2) := by decide +kernel
theorem dX9_about_185 : decode cX9_about 185 = .ok (.iload 6, 2) := by decide +kernel
theorem dX9_about_187 : decode cX9_about 187 = .ok (.if_icmp .le 8, 3) := by decide +kernel
theorem dX9_about_190 : decode cX9_about 190 = .ok (.iload 5, 2) := by decide +kernel
theorem dX9_about_192 : decode cX9_about 192 = .ok (.goto 5, 3) := by decide +kernel
theorem dX9_about_195 : decode cX9_about 195 = .ok (.iload 6, 2) := by decide +kernel
theorem dX9_about_197 : decode cX9_about 197 = .ok (.iastore, 1) := by decide +kernel
theorem dX9_about_198 : decode cX9_about 198 = .ok (.iinc 3 1, 3) := by decide +kernel
theorem dX9_about_201 : decode cX9_about 201 = .ok (.goto (-108), 3) := by decide +kernel
theorem dX9_about_204 : decode cX9_about 204 = .ok (.aload_n 0, 1) := by decide +kernel
theorem dX9_about_205 : decode cX9_about 205 = .ok (.getfield 86, 3) := by decide +kernel
theorem dX9_about_208 : decode cX9_about 208 = .ok (.aload_n 0, 1) := by decide +kernel
theorem dX9_about_209 : decode cX9_about 209 = .ok (.getfield 179, 3) := by decide +kernel
theorem dX9_about_212 : decode cX9_about 212 = .ok (.iconst 1, 1) := by decide +kernel
theorem dX9_about_213 : decode cX9_about 213 = .ok (.isub, 1) := by decide +kernel
theorem dX9_about_214 : decode cX9_about 214 = .ok (.iaload, 1) := by decide +kernel
theorem dX9_about_215 : decode cX9_about 215 = .ok (.ireturn, 1) := by decide +kernel
theorem dX9_balanceOf_0 : decode cX9_balanceOf 0 = .ok (.aload_n 0, 1) := by decide +kernel
theorem dX9_balanceOf_1 : decode cX9_balanceOf 1 = .ok (.iconst 0, 1) := by decide +kernel
theorem dX9_balanceOf_2 : decode cX9_balanceOf 2 = .ok (.putfield 179, 3) := by decide +kernel
theorem dX9_balanceOf_5 : decode cX9_balanceOf 5 = .ok (.aload_n 0, 1) := by decide +kernel
theorem dX9_balanceOf_6 : decode cX9_balanceOf 6 = .ok (.iload_n 1, 1) := by decide +kernel
theorem dX9_balanceOf_7 : decode cX9_balanceOf 7 = .ok (.invokevirtual 182, 3) := by decide +kernel
theorem dX9_balanceOf_10 : decode cX9_balanceOf 10 = .ok (.iconst 0, 1) := by decide +kernel
theorem dX9_balanceOf_11 : decode cX9_balanceOf 11 = .ok (.istore_n 3, 1) := by decide +kernel
theorem dX9_balanceOf_12 : decode cX9_balanceOf 12 = .ok (.iload_n 3, 1) := by decide +kernel
theorem dX9_balanceOf_13 : decode cX9_balanceOf 13 = .ok (.aload_n 0, 1) := by decide +kernel
theorem dX9_balanceOf_14 : decode cX9_balanceOf 14 = .ok (.getfield 179, 3) := by decide +kernel
theorem dX9_balanceOf_17 : decode cX9_balanceOf 17 = .ok (.if_icmp .ge 111, 3) := by decide +kernel
theorem dX9_balanceOf_20 : decode cX9_balanceOf 20 = .ok (.aload_n 0, 1) := by decide +kernel
theorem dX9_balanceOf_21 : decode cX9_balanceOf 21 = .ok (.getfield 64, 3) := by decide +kernel
theorem dX9_balanceOf_24 : decode cX9_balanceOf 24 = .ok (.iload_n 3, 1) := by decide +kernel
theorem dX9_balanceOf_25 : decode cX9_balanceOf 25 = .ok (.iaload, 1) := by decide +kernel
theorem dX9_balanceOf_26 : decode cX9_balanceOf 26 = .ok (.istore 4, 2) := by decide +kernel
theorem dX9_balanceOf_28 : decode cX9_balanceOf 28 = .ok (.iload 4, 2) := by decide +kernel
theorem dX9_balanceOf_30 : decode cX9_balanceOf 30 = .ok (.bipush 8, 2) := by decide +kernel
theorem dX9_balanceOf_32 : decode cX9_balanceOf 32 = .ok (.if_icmp .ge 23, 3) := by decide +kernel
theorem dX9_balanceOf_35 : decode cX9_balanceOf 35 = .ok (.aload_n 0, 1) := by decide +kernel
theorem dX9_balanceOf_36 : decode cX9_balanceOf 36 = .ok (.getfield 86, 3) := by decide +kernel
theorem dX9_balanceOf_39 : decode cX9_balanceOf 39 = .ok (.iload_n 3, 1) := by decide +kernel
theorem dX9_balanceOf_40 : decode cX9_balanceOf 40 = .ok (.iload 4, 2) := by decide +kernel
theorem dX9_balanceOf_42 : decode cX9_balanceOf 42 = .ok (.iload_n 2, 1) := by decide +kernel
theorem dX9_balanceOf_43 : decode cX9_balanceOf 43 = .ok (.if_icmp .ne 7, 3) := by decide +kernel
theorem dX9_balanceOf_46 : decode cX9_balanceOf 46 = .ok (.iconst 1, 1) := by decide +kernel
theorem dX9_balanceOf_47 : decode cX9_balanceOf 47 = .ok (.goto 4, 3) := by decide +kernel
theorem dX9_balanceOf_50 : decode cX9_balanceOf 50 = .ok (.iconst 0, 1) := by decide +kernel
theorem dX9_balanceOf_51 : decode cX9_balanceOf 51 = .ok (.iastore, 1) := by decide +kernel
theorem dX9_balanceOf_52 : decode cX9_balanceOf 52 = .ok (.goto 70, 3) := by decide +kernel
theorem dX9_balanceOf_55 : decode cX9_balanceOf 55 = .ok (.aload_n 0, 1) := by decide +kernel
theorem dX9_balanceOf_56 : decode cX9_balanceOf 56 = .ok (.getfield 86, 3) := by decide +kernel
theorem dX9_balanceOf_59 : decode cX9_balanceOf 59 = .ok (.aload_n 0, 1) := by decide +kernel
theorem dX9_balanceOf_60 : decode cX9_balanceOf 60 = .ok (.getfield 67, 3) := by decide +kernel
theorem dX9_balanceOf_63 : decode cX9_balanceOf 63 = .ok (.iload_n 3, 1) := by decide +kernel
theorem dX9_balanceOf_64 : decode cX9_balanceOf 64 = .ok (.iaload, 1) := by decide +kernel
theorem dX9_balanceOf_65 : decode cX9_balanceOf 65 = .ok (.iaload, 1) := by decide +kernel
theorem dX9_balanceOf_66 : decode cX9_balanceOf 66 = .ok (.istore 5, 2) := by decide +kernel
theorem dX9_balanceOf_68 : decode cX9_balanceOf 68 = .ok (.aload_n 0, 1) := by decide +kernel
theorem dX9_balanceOf_69 : decode cX9_balanceOf 69 = .ok (.getfield 86, 3) := by decide +kernel
theorem dX9_balanceOf_72 : decode cX9_balanceOf 72 = .ok (.aload_n 0, 1) := by decide +kernel
theorem dX9_balanceOf_73 : decode cX9_balanceOf 73 = .ok (.getfield 70, 3) := by decide +kernel
theorem dX9_balanceOf_76 : decode cX9_balanceOf 76 = .ok (.iload_n 3, 1) := by decide +kernel
theorem dX9_balanceOf_77 : decode cX9_balanceOf 77 = .ok (.iaload, 1) := by decide +kernel
theorem dX9_balanceOf_78 : decode cX9_balanceOf 78 = .ok (.iaload, 1) := by decide +kernel
theorem dX9_balanceOf_79 : decode cX9_balanceOf 79 = .ok (.istore 6, 2) := by decide +kernel
theorem dX9_balanceOf_81 : decode cX9_balanceOf 81 = .ok (.aload_n 0, 1) := by decide +kernel
theorem dX9_balanceOf_82 : decode cX9_balanceOf 82 = .ok (.getfield 86, 3) := by decide +kernel
theorem dX9_balanceOf_85 : decode cX9_balanceOf 85 = .ok (.iload_n 3, 1) := by decide +kernel
theorem dX9_balanceOf_86 : decode cX9_balanceOf 86 = .ok (.iload 4, 2) := by decide +kernel
theorem dX9_balanceOf_88 : decode cX9_balanceOf 88 = .ok (.bipush 42, 2) := by decide +kernel
theorem dX9_balanceOf_90 : decode cX9_balanceOf 90 = .ok (.if_icmp .ne 11, 3) := by decide +kernel
theorem dX9_balanceOf_93 : decode cX9_balanceOf 93 = .ok (.iload 5, 2) := by decide +kernel
theorem dX9_balanceOf_95 : decode cX9_balanceOf 95 = .ok (.iload 6, 2) := by decide +kernel
theorem dX9_balanceOf_97 : decode cX9_balanceOf 97 = .ok (.iadd, 1) := by decide +kernel
theorem dX9_balanceOf_98 : decode cX9_balanceOf 98 = .ok (.goto 23, 3) := by decide +kernel
theorem dX9_balanceOf_101 : decode cX9_balanceOf 101 = .ok (.iload 4, 2) := by decide +kernel
theorem dX9_balanceOf_103 : decode cX9_balanceOf 103 = .ok (.bipush 47, 2) := by decide +kernel
theorem dX9_balanceOf_105 : decode cX9_balanceOf 105 = .ok (.if_icmp .ne 11, 3) := by decide +kernel
theorem dX9_balanceOf_108 : decode cX9_balanceOf 108 = .ok (.iload 5, 2) := by decide +kernel
theorem dX9_balanceOf_110 : decode cX9_balanceOf 110 = .ok (.iload 6, 2) := by decide +kernel
theorem dX9_balanceOf_112 : decode cX9_balanceOf 112 = .ok (.isub, 1) := by decide +kernel
theorem dX9_balanceOf_113 : decode cX9_balanceOf 113 = .ok (.goto 8, 3) := by decide +kernel
theorem dX9_balanceOf_116 : decode cX9_balanceOf 116 = .ok (.iload 6, 2) := by decide +kernel
theorem dX9_balanceOf_118 : decode cX9_balanceOf 118 = .ok (.iload 5, 2) := by decide +kernel
theorem dX9_balanceOf_120 : decode cX9_balanceOf 120 = .ok (.isub, 1) := by decide +kernel
theorem dX9_balanceOf_121 : decode cX9_balanceOf 121 = .ok (.iastore, 1) := by decide +kernel
theorem dX9_balanceOf_122 : decode cX9_balanceOf 122 = .ok (.iinc 3 1, 3) := by decide +kernel
theorem dX9_balanceOf_125 : decode cX9_balanceOf 125 = .ok (.goto (-113), 3) := by decide +kernel
theorem dX9_balanceOf_128 : decode cX9_balanceOf 128 = .ok (.aload_n 0, 1) := by decide +kernel
theorem dX9_balanceOf_129 : decode cX9_balanceOf 129 = .ok (.getfield 86, 3) := by decide +kernel
theorem dX9_balanceOf_132 : decode cX9_balanceOf 132 = .ok (.aload_n 0, 1) := by decide +kernel
theorem dX9_balanceOf_133 : decode cX9_balanceOf 133 = .ok (.getfield 179, 3) := by decide +kernel
theorem dX9_balanceOf_136 : decode cX9_balanceOf 136 = .ok (.iconst 1, 1) := by decide +kernel
theorem dX9_balanceOf_137 : decode cX9_balanceOf 137 = .ok (.isub, 1) := by decide +kernel
theorem dX9_balanceOf_138 : decode cX9_balanceOf 138 = .ok (.iaload, 1) := by decide +kernel
theorem dX9_balanceOf_139 : decode cX9_balanceOf 139 = .ok (.ireturn, 1) := by decide +kernel
theorem dX9_balance_0 : decode cX9_balance 0 = .ok (.aload_n 0, 1) := by decide +kernel
theorem dX9_balance_1 : decode cX9_balance 1 = .ok (.iconst 0, 1) := by decide +kernel
theorem dX9_balance_2 : decode cX9_balance 2 = .ok (.putfield 137, 3) := by decide +kernel
theorem dX9_balance_5 : decode cX9_balance 5 = .ok (.iload_n 1, 1) := by decide +kernel
theorem dX9_balance_6 : decode cX9_balance 6 = .ok (.invokestatic 164, 3) := by decide +kernel
theorem dX9_balance_9 : decode cX9_balance 9 = .ok (.ifCond .eq 22, 3) := by decide +kernel
theorem dX9_balance_12 : decode cX9_balance 12 = .ok (.iload_n 2, 1) := by decide +kernel
theorem dX9_balance_13 : decode cX9_balance 13 = .ok (.iconst 0, 1) := by decide +kernel
theorem dX9_balance_14 : decode cX9_balance 14 = .ok (.bipush 7, 2) := by decide +kernel
theorem dX9_balance_16 : decode cX9_balance 16 = .ok (.invokestatic 141, 3) := by decide +kernel
theorem dX9_balance_19 : decode cX9_balance 19 = .ok (.ifCond .eq 12, 3) := by decide +kernel
theorem dX9_balance_22 : decode cX9_balance 22 = .ok (.aload_n 0, 1) := by decide +kernel
theorem dX9_balance_23 : decode cX9_balance 23 = .ok (.iload_n 1, 1) := by decide +kernel
theorem dX9_balance_24 : decode cX9_balance 24 = .ok (.iload_n 2, 1) := by decide +kernel
theorem dX9_balance_25 : decode cX9_balance 25 = .ok (.invokevirtual 185, 3) := by decide +kernel
theorem dX9_balance_28 : decode cX9_balance 28 = .ok (.goto 5, 3) := by decide +kernel
theorem dX9_balance_31 : decode cX9_balance 31 = .ok (.ldc 189, 2) := by decide +kernel
theorem dX9_balance_33 : decode cX9_balance 33 = .ok (.ireturn, 1) := by decide +kernel
theorem dX9_letter_0 : decode cX9_letter 0 = .ok (.aload_n 0, 1) := by decide +kernel
theorem dX9_letter_1 : decode cX9_letter 1 = .ok (.iconst 0, 1) := by decide +kernel
theorem dX9_letter_2 : decode cX9_letter 2 = .ok (.putfield 137, 3) := by decide +kernel
theorem dX9_letter_5 : decode cX9_letter 5 = .ok (.iload_n 1, 1) := by decide +kernel
theorem dX9_letter_6 : decode cX9_letter 6 = .ok (.invokestatic 164, 3) := by decide +kernel
theorem dX9_letter_9 : decode cX9_letter 9 = .ok (.ifCond .eq 33, 3) := by decide +kernel
theorem dX9_letter_12 : decode cX9_letter 12 = .ok (.iload_n 2, 1) := by decide +kernel
theorem dX9_letter_13 : decode cX9_letter 13 = .ok (.iconst 0, 1) := by decide +kernel
theorem dX9_letter_14 : decode cX9_letter 14 = .ok (.aload_n 0, 1) := by decide +kernel
theorem dX9_letter_15 : decode cX9_letter 15 = .ok (.getfield 52, 3) := by decide +kernel
theorem dX9_letter_18 : decode cX9_letter 18 = .ok (.iload_n 1, 1) := by decide +kernel
theorem dX9_letter_19 : decode cX9_letter 19 = .ok (.iaload, 1) := by decide +kernel
theorem dX9_letter_20 : decode cX9_letter 20 = .ok (.iconst 1, 1) := by decide +kernel
theorem dX9_letter_21 : decode cX9_letter 21 = .ok (.isub, 1) := by decide +kernel
theorem dX9_letter_22 : decode cX9_letter 22 = .ok (.invokestatic 141, 3) := by decide +kernel
theorem dX9_letter_25 : decode cX9_letter 25 = .ok (.ifCond .eq 17, 3) := by decide +kernel
theorem dX9_letter_28 : decode cX9_letter 28 = .ok (.aload_n 0, 1) := by decide +kernel
theorem dX9_letter_29 : decode cX9_letter 29 = .ok (.getfield 49, 3) := by decide +kernel
theorem dX9_letter_32 : decode cX9_letter 32 = .ok (.bipush 12, 2) := by decide +kernel
theorem dX9_letter_34 : decode cX9_letter 34 = .ok (.iload_n 1, 1) := by decide +kernel
theorem dX9_letter_35 : decode cX9_letter 35 = .ok (.imul, 1) := by decide +kernel
theorem dX9_letter_36 : decode cX9_letter 36 = .ok (.iload_n 2, 1) := by decide +kernel
theorem dX9_letter_37 : decode cX9_letter 37 = .ok (.iadd, 1) := by decide +kernel
theorem dX9_letter_38 : decode cX9_letter 38 = .ok (.iaload, 1) := by decide +kernel
theorem dX9_letter_39 : decode cX9_letter 39 = .ok (.goto 5, 3) := by decide +kernel
theorem dX9_letter_42 : decode cX9_letter 42 = .ok (.ldc 189, 2) := by decide +kernel
theorem dX9_letter_44 : decode cX9_letter 44 = .ok (.ireturn, 1) := by decide +kernel
theorem dX9_alike_0 : decode cX9_alike 0 = .ok (.aload_n 0, 1) := by decide +kernel
theorem dX9_alike_1 : decode cX9_alike 1 = .ok (.iconst 0, 1) := by decide +kernel
theorem dX9_alike_2 : decode cX9_alike 2 = .ok (.putfield 137, 3) := by decide +kernel
theorem dX9_alike_5 : decode cX9_alike 5 = .ok (.iload_n 1, 1) := by decide +kernel
theorem dX9_alike_6 : decode cX9_alike 6 = .ok (.invokestatic 164, 3) := by decide +kernel
theorem dX9_alike_9 : decode cX9_alike 9 = .ok (.ifCond .eq 19, 3) := by decide +kernel
theorem dX9_alike_12 : decode cX9_alike 12 = .ok (.iload_n 2, 1) := by decide +kernel
theorem dX9_alike_13 : decode cX9_alike 13 = .ok (.invokestatic 164, 3) := by decide +kernel
theorem dX9_alike_16 : decode cX9_alike 16 = .ok (.ifCond .eq 12, 3) := by decide +kernel
theorem dX9_alike_19 : decode cX9_alike 19 = .ok (.iload_n 3, 1) := by decide +kernel
theorem dX9_alike_20 : decode cX9_alike 20 = .ok (.iconst 0, 1) := by decide +kernel
theorem dX9_alike_21 : decode cX9_alike 21 = .ok (.iconst 1, 1) := by decide +kernel
theorem dX9_alike_22 : decode cX9_alike 22 = .ok (.invokestatic 141, 3) := by decide +kernel
theorem dX9_alike_25 : decode cX9_alike 25 = .ok (.ifCond .ne 5, 3) := by decide +kernel
theorem dX9_alike_28 : decode cX9_alike 28 = .ok (.iconst (-1), 1) := by decide +kernel
theorem dX9_alike_29 : decode cX9_alike 29 = .ok (.ireturn, 1) := by decide +kernel
theorem dX9_alike_30 : decode cX9_alike 30 = .ok (.iload_n 3, 1) := by decide +kernel
theorem dX9_alike_31 : decode cX9_alike 31 = .ok (.ifCond .ne 26, 3) := by decide +kernel
theorem dX9_alike_34 : decode cX9_alike 34 = .ok (.aload_n 0, 1) := by decide +kernel
theorem dX9_alike_35 : decode cX9_alike 35 = .ok (.getfield 52, 3) := by decide +kernel
theorem dX9_alike_38 : decode cX9_alike 38 = .ok (.iload_n 1, 1) := by decide +kernel
theorem dX9_alike_39 : decode cX9_alike 39 = .ok (.iaload, 1) := by decide +kernel
theorem dX9_alike_40 : decode cX9_alike 40 = .ok (.aload_n 0, 1) := by decide +kernel
theorem dX9_alike_41 : decode cX9_alike 41 = .ok (.getfield 52, 3) := by decide +kernel
theorem dX9_alike_44 : decode cX9_alike 44 = .ok (.iload_n 2, 1) := by decide +kernel
theorem dX9_alike_45 : decode cX9_alike 45 = .ok (.iaload, 1) := by decide +kernel
theorem dX9_alike_46 : decode cX9_alike 46 = .ok (.if_icmp .ne 7, 3) := by decide +kernel
theorem dX9_alike_49 : decode cX9_alike 49 = .ok (.iconst 1, 1) := by decide +kernel
theorem dX9_alike_50 : decode cX9_alike 50 = .ok (.goto 27, 3) := by decide +kernel
theorem dX9_alike_53 : decode cX9_alike 53 = .ok (.iconst 0, 1) := by decide +kernel
theorem dX9_alike_54 : decode cX9_alike 54 = .ok (.goto 23, 3) := by decide +kernel
theorem dX9_alike_57 : decode cX9_alike 57 = .ok (.aload_n 0, 1) := by decide +kernel
theorem dX9_alike_58 : decode cX9_alike 58 = .ok (.getfield 34, 3) := by decide +kernel
theorem dX9_alike_61 : decode cX9_alike 61 = .ok (.iload_n 1, 1) := by decide +kernel
theorem dX9_alike_62 : decode cX9_alike 62 = .ok (.iaload, 1) := by decide +kernel
theorem dX9_alike_63 : decode cX9_alike 63 = .ok (.aload_n 0, 1) := by decide +kernel
theorem dX9_alike_64 : decode cX9_alike 64 = .ok (.getfield 34, 3) := by decide +kernel
theorem dX9_alike_67 : decode cX9_alike 67 = .ok (.iload_n 2, 1) := by decide +kernel
theorem dX9_alike_68 : decode cX9_alike 68 = .ok (.iaload, 1) := by decide +kernel
theorem dX9_alike_69 : decode cX9_alike 69 = .ok (.if_icmp .ne 7, 3) := by decide +kernel
theorem dX9_alike_72 : decode cX9_alike 72 = .ok (.iconst 1, 1) := by decide +kernel
theorem dX9_alike_73 : decode cX9_alike 73 = .ok (.goto 4, 3) := by decide +kernel
theorem dX9_alike_76 : decode cX9_alike 76 = .ok (.iconst 0, 1) := by decide +kernel
theorem dX9_alike_77 : decode cX9_alike 77 = .ok (.istore 4, 2) := by decide +kernel
theorem dX9_alike_79 : decode cX9_alike 79 = .ok (.iconst 0, 1) := by decide +kernel
theorem dX9_alike_80 : decode cX9_alike 80 = .ok (.istore 5, 2) := by decide +kernel
theorem dX9_alike_82 : decode cX9_alike 82 = .ok (.iload 5, 2) := by decide +kernel
theorem dX9_alike_84 : decode cX9_alike 84 = .ok (.aload_n 0, 1) := by decide +kernel
theorem dX9_alike_85 : decode cX9_alike 85 = .ok (.getfield 52, 3) := by decide +kernel
theorem dX9_alike_88 : decode cX9_alike 88 = .ok (.iload_n 1, 1) := by decide +kernel
theorem dX9_alike_89 : decode cX9_alike 89 = .ok (.iaload, 1) := by decide +kernel
theorem dX9_alike_90 : decode cX9_alike 90 = .ok (.if_icmp .ge 52, 3) := by decide +kernel
theorem dX9_alike_93 : decode cX9_alike 93 = .ok (.iload 4, 2) := by decide +kernel
theorem dX9_alike_95 : decode cX9_alike 95 = .ok (.ifCond .eq 47, 3) := by decide +kernel
theorem dX9_alike_98 : decode cX9_alike 98 = .ok (.iload_n 3, 1) := by decide +kernel
theorem dX9_alike_99 : decode cX9_alike 99 = .ok (.ifCond .ne 43, 3) := by decide +kernel
theorem dX9_alike_102 : decode cX9_alike 102 = .ok (.aload_n 0, 1) := by decide +kernel
theorem dX9_alike_103 : decode cX9_alike 103 = .ok (.getfield 49, 3) := by decide +kernel
theorem dX9_alike_106 : decode cX9_alike 106 = .ok (.bipush 12, 2) := by decide +kernel
theorem dX9_alike_108 : decode cX9_alike 108 = .ok (.iload_n 1, 1) := by decide +kernel
theorem dX9_alike_109 : decode cX9_alike 109 = .ok (.imul, 1) := by decide +kernel
theorem dX9_alike_110 : decode cX9_alike 110 = .ok (.iload 5, 2) := by decide +kernel
theorem dX9_alike_112 : decode cX9_alike 112 = .ok (.iadd, 1) := by decide +kernel
theorem dX9_alike_113 : decode cX9_alike 113 = .ok (.iaload, 1) := by decide +kernel
theorem dX9_alike_114 : decode cX9_alike 114 = .ok (.aload_n 0, 1) := by decide +kernel
theorem dX9_alike_115 : decode cX9_alike 115 = .ok (.getfield 49, 3) := by decide +kernel
theorem dX9_alike_118 : decode cX9_alike 118 = .ok (.bipush 12, 2) := by decide +kernel
theorem dX9_alike_120 : decode cX9_alike 120 = .ok (.iload_n 2, 1) := by decide +kernel
theorem dX9_alike_121 : decode cX9_alike 121 = .ok (.imul, 1) := by decide +kernel
theorem dX9_alike_122 : decode cX9_alike 122 = .ok (.iload 5, 2) := by decide +kernel
theorem dX9_alike_124 : decode cX9_alike 124 = .ok (.iadd, 1) := by decide +kernel
theorem dX9_alike_125 : decode cX9_alike 125 = .ok (.iaload, 1) := by decide +kernel
theorem dX9_alike_126 : decode cX9_alike 126 = .ok (.if_icmp .ne 7, 3) := by decide +kernel
theorem dX9_alike_129 : decode cX9_alike 129 = .ok (.iconst 1, 1) := by decide +kernel
theorem dX9_alike_130 : decode cX9_alike 130 = .ok (.goto 4, 3) := by decide +kernel
theorem dX9_alike_133 : decode cX9_alike 133 = .ok (.iconst 0, 1) := by decide +kernel
theorem dX9_alike_134 : decode cX9_alike 134 = .ok (.istore 4, 2) := by decide +kernel
theorem dX9_alike_136 : decode cX9_alike 136 = .ok (.iinc 5 1, 3) := by decide +kernel
theorem dX9_alike_139 : decode cX9_alike 139 = .ok (.goto (-57), 3) := by decide +kernel
theorem dX9_alike_142 : decode cX9_alike 142 = .ok (.iconst 0, 1) := by decide +kernel
theorem dX9_alike_143 : decode cX9_alike 143 = .ok (.istore 5, 2) := by decide +kernel
theorem dX9_alike_145 : decode cX9_alike 145 = .ok (.iload 5, 2) := by decide +kernel
theorem dX9_alike_147 : decode cX9_alike 147 = .ok (.aload_n 0, 1) := by decide +kernel
theorem dX9_alike_148 : decode cX9_alike 148 = .ok (.getfield 34, 3) := by decide +kernel
theorem dX9_alike_151 : decode cX9_alike 151 = .ok (.iload_n 1, 1) := by decide +kernel
theorem dX9_alike_152 : decode cX9_alike 152 = .ok (.iaload, 1) := by decide +kernel
theorem dX9_alike_153 : decode cX9_alike 153 = .ok (.if_icmp .ge 53, 3) := by decide +kernel
theorem dX9_alike_156 : decode cX9_alike 156 = .ok (.iload 4, 2) := by decide +kernel
theorem dX9_alike_158 : decode cX9_alike 158 = .ok (.ifCond .eq 48, 3) := by decide +kernel
theorem dX9_alike_161 : decode cX9_alike 161 = .ok (.iload_n 3, 1) := by decide +kernel
theorem dX9_alike_162 : decode cX9_alike 162 = .ok (.iconst 1, 1) := by decide +kernel
theorem dX9_alike_163 : decode cX9_alike 163 = .ok (.if_icmp .ne 43, 3) := by decide +kernel
theorem dX9_alike_166 : decode cX9_alike 166 = .ok (.aload_n 0, 1) := by decide +kernel
theorem dX9_alike_167 : decode cX9_alike 167 = .ok (.getfield 31, 3) := by decide +kernel
theorem dX9_alike_170 : decode cX9_alike 170 = .ok (.bipush 80, 2) := by decide +kernel
theorem dX9_alike_172 : decode cX9_alike 172 = .ok (.iload_n 1, 1) := by decide +kernel
theorem dX9_alike_173 : decode cX9_alike 173 = .ok (.imul, 1) := by decide +kernel
theorem dX9_alike_174 : decode cX9_alike 174 = .ok (.iload 5, 2) := by decide +kernel
theorem dX9_alike_176 : decode cX9_alike 176 = .ok (.iadd, 1) := by decide +kernel
theorem dX9_alike_177 : decode cX9_alike 177 = .ok (.iaload, 1) := by decide +kernel
theorem dX9_alike_178 : decode cX9_alike 178 = .ok (.aload_n 0, 1) := by decide +kernel
theorem dX9_alike_179 : decode cX9_alike 179 = .ok (.getfield 31, 3) := by decide +kernel
theorem dX9_alike_182 : decode cX9_alike 182 = .ok (.bipush 80, 2) := by decide +kernel
theorem dX9_alike_184 : decode cX9_alike 184 = .ok (.iload_n 2, 1) := by decide +kernel
theorem dX9_alike_185 : decode cX9_alike 185 = .ok (.imul, 1) := by decide +kernel
theorem dX9_alike_186 : decode cX9_alike 186 = .ok (.iload 5, 2) := by decide +kernel
theorem dX9_alike_188 : decode cX9_alike 188 = .ok (.iadd, 1) := by decide +kernel
theorem dX9_alike_189 : decode cX9_alike 189 = .ok (.iaload, 1) := by decide +kernel
theorem dX9_alike_190 : decode cX9_alike 190 = .ok (.if_icmp .ne 7, 3) := by decide +kernel
theorem dX9_alike_193 : decode cX9_alike 193 = .ok (.iconst 1, 1) := by decide +kernel
theorem dX9_alike_194 : decode cX9_alike 194 = .ok (.goto 4, 3) := by decide +kernel
theorem dX9_alike_197 : decode cX9_alike 197 = .ok (.iconst 0, 1) := by decide +kernel
theorem dX9_alike_198 : decode cX9_alike 198 = .ok (.istore 4, 2) := by decide +kernel
theorem dX9_alike_200 : decode cX9_alike 200 = .ok (.iinc 5 1, 3) := by decide +kernel
theorem dX9_alike_203 : decode cX9_alike 203 = .ok (.goto (-58), 3) := by decide +kernel
theorem dX9_alike_206 : decode cX9_alike 206 = .ok (.iload 4, 2) := by decide +kernel
theorem dX9_alike_208 : decode cX9_alike 208 = .ok (.ifCond .eq 7, 3) := by decide +kernel
theorem dX9_alike_211 : decode cX9_alike 211 = .ok (.iconst 1, 1) := by decide +kernel
theorem dX9_alike_212 : decode cX9_alike 212 = .ok (.goto 4, 3) := by decide +kernel
theorem dX9_alike_215 : decode cX9_alike 215 = .ok (.iconst 0, 1) := by decide +kernel
theorem dX9_alike_216 : decode cX9_alike 216 = .ok (.ireturn, 1) := by decide +kernel
theorem dX9_add_0 : decode cX9_add 0 = .ok (.aload_n 0, 1) := by decide +kernel
theorem dX9_add_1 : decode cX9_add 1 = .ok (.iconst 0, 1) := by decide +kernel
theorem dX9_add_2 : decode cX9_add 2 = .ok (.putfield 137, 3) := by decide +kernel
theorem dX9_add_5 : decode cX9_add 5 = .ok (.iload_n 1, 1) := by decide +kernel
theorem dX9_add_6 : decode cX9_add 6 = .ok (.invokestatic 164, 3) := by decide +kernel
theorem dX9_add_9 : decode cX9_add 9 = .ok (.ifCond .ne 5, 3) := by decide +kernel
theorem dX9_add_12 : decode cX9_add 12 = .ok (.iconst (-1), 1) := by decide +kernel
theorem dX9_add_13 : decode cX9_add 13 = .ok (.ireturn, 1) := by decide +kernel
theorem dX9_add_14 : decode cX9_add 14 = .ok (.aload_n 0, 1) := by decide +kernel
theorem dX9_add_15 : decode cX9_add 15 = .ok (.getfield 190, 3) := by decide +kernel
theorem dX9_add_18 : decode cX9_add 18 = .ok (.bipush 8, 2) := by decide +kernel
theorem dX9_add_20 : decode cX9_add 20 = .ok (.if_icmp .ne 6, 3) := by decide +kernel
theorem dX9_add_23 : decode cX9_add 23 = .ok (.bipush (-3), 2) := by decide +kernel
theorem dX9_add_25 : decode cX9_add 25 = .ok (.ireturn, 1) := by decide +kernel
theorem dX9_add_26 : decode cX9_add 26 = .ok (.bipush 12, 2) := by decide +kernel
theorem dX9_add_28 : decode cX9_add 28 = .ok (.aload_n 0, 1) := by decide +kernel
theorem dX9_add_29 : decode cX9_add 29 = .ok (.getfield 190, 3) := by decide +kernel
theorem dX9_add_32 : decode cX9_add 32 = .ok (.iadd, 1) := by decide +kernel
theorem dX9_add_33 : decode cX9_add 33 = .ok (.istore_n 2, 1) := by decide +kernel
theorem dX9_add_34 : decode cX9_add 34 = .ok (.aload_n 0, 1) := by decide +kernel
theorem dX9_add_35 : decode cX9_add 35 = .ok (.getfield 37, 3) := by decide +kernel
theorem dX9_add_38 : decode cX9_add 38 = .ok (.iload_n 2, 1) := by decide +kernel
theorem dX9_add_39 : decode cX9_add 39 = .ok (.aload_n 0, 1) := by decide +kernel
theorem dX9_add_40 : decode cX9_add 40 = .ok (.getfield 37, 3) := by decide +kernel
theorem dX9_add_43 : decode cX9_add 43 = .ok (.iload_n 1, 1) := by decide +kernel
theorem dX9_add_44 : decode cX9_add 44 = .ok (.iaload, 1) := by decide +kernel
theorem dX9_add_45 : decode cX9_add 45 = .ok (.iastore, 1) := by decide +kernel
theorem dX9_add_46 : decode cX9_add 46 = .ok (.iconst 0, 1) := by decide +kernel
theorem dX9_add_47 : decode cX9_add 47 = .ok (.istore_n 3, 1) := by decide +kernel
theorem dX9_add_48 : decode cX9_add 48 = .ok (.iload_n 3, 1) := by decide +kernel
theorem dX9_add_49 : decode cX9_add 49 = .ok (.aload_n 0, 1) := by decide +kernel
theorem dX9_add_50 : decode cX9_add 50 = .ok (.getfield 37, 3) := by decide +kernel
theorem dX9_add_53 : decode cX9_add 53 = .ok (.iload_n 1, 1) := by decide +kernel
theorem dX9_add_54 : decode cX9_add 54 = .ok (.iaload, 1) := by decide +kernel
theorem dX9_add_55 : decode cX9_add 55 = .ok (.if_icmp .ge 75, 3) := by decide +kernel
theorem dX9_add_58 : decode cX9_add 58 = .ok (.aload_n 0, 1) := by decide +kernel
theorem dX9_add_59 : decode cX9_add 59 = .ok (.getfield 40, 3) := by decide +kernel
theorem dX9_add_62 : decode cX9_add 62 = .ok (.bipush 23, 2) := by decide +kernel
theorem dX9_add_64 : decode cX9_add 64 = .ok (.iload_n 2, 1) := by decide +kernel
theorem dX9_add_65 : decode cX9_add 65 = .ok (.imul, 1) := by decide +kernel
theorem dX9_add_66 : decode cX9_add 66 = .ok (.iload_n 3, 1) := by decide +kernel
theorem dX9_add_67 : decode cX9_add 67 = .ok (.iadd, 1) := by decide +kernel
theorem dX9_add_68 : decode cX9_add 68 = .ok (.aload_n 0, 1) := by decide +kernel
theorem dX9_add_69 : decode cX9_add 69 = .ok (.getfield 40, 3) := by decide +kernel
theorem dX9_add_72 : decode cX9_add 72 = .ok (.bipush 23, 2) := by decide +kernel
theorem dX9_add_74 : decode cX9_add 74 = .ok (.iload_n 1, 1) := by decide +kernel
theorem dX9_add_75 : decode cX9_add 75 = .ok (.imul, 1) := by decide +kernel
theorem dX9_add_76 : decode cX9_add 76 = .ok (.iload_n 3, 1) := by decide +kernel
theorem dX9_add_77 : decode cX9_add 77 = .ok (.iadd, 1) := by decide +kernel
theorem dX9_add_78 : decode cX9_add 78 = .ok (.iaload, 1) := by decide +kernel
theorem dX9_add_79 : decode cX9_add 79 = .ok (.iastore, 1) := by decide +kernel
theorem dX9_add_80 : decode cX9_add 80 = .ok (.aload_n 0, 1) := by decide +kernel
theorem dX9_add_81 : decode cX9_add 81 = .ok (.getfield 43, 3) := by decide +kernel
theorem dX9_add_84 : decode cX9_add 84 = .ok (.bipush 23, 2) := by decide +kernel
theorem dX9_add_86 : decode cX9_add 86 = .ok (.iload_n 2, 1) := by decide +kernel
theorem dX9_add_87 : decode cX9_add 87 = .ok (.imul, 1) := by decide +kernel
theorem dX9_add_88 : decode cX9_add 88 = .ok (.iload_n 3, 1) := by decide +kernel
theorem dX9_add_89 : decode cX9_add 89 = .ok (.iadd, 1) := by decide +kernel
theorem dX9_add_90 : decode cX9_add 90 = .ok (.aload_n 0, 1) := by decide +kernel
theorem dX9_add_91 : decode cX9_add 91 = .ok (.getfield 43, 3) := by decide +kernel
theorem dX9_add_94 : decode cX9_add 94 = .ok (.bipush 23, 2) := by decide +kernel
theorem dX9_add_96 : decode cX9_add 96 = .ok (.iload_n 1, 1) := by decide +kernel
theorem dX9_add_97 : decode cX9_add 97 = .ok (.imul, 1) := by decide +kernel
theorem dX9_add_98 : decode cX9_add 98 = .ok (.iload_n 3, 1) := by decide +kernel
theorem dX9_add_99 : decode cX9_add 99 = .ok (.iadd, 1) := by decide +kernel
theorem dX9_add_100 : decode cX9_add 100 = .ok (.iaload, 1) := by decide +kernel
theorem dX9_add_101 : decode cX9_add 101 = .ok (.iastore, 1) := by decide +kernel
theorem dX9_add_102 : decode cX9_add 102 = .ok (.aload_n 0, 1) := by decide +kernel
theorem dX9_add_103 : decode cX9_add 103 = .ok (.getfield 46, 3) := by decide +kernel
theorem dX9_add_106 : decode cX9_add 106 = .ok (.bipush 23, 2) := by decide +kernel
theorem dX9_add_108 : decode cX9_add 108 = .ok (.iload_n 2, 1) := by decide +kernel
theorem dX9_add_109 : decode cX9_add 109 = .ok (.imul, 1) := by decide +kernel
theorem dX9_add_110 : decode cX9_add 110 = .ok (.iload_n 3, 1) := by decide +kernel
theorem dX9_add_111 : decode cX9_add 111 = .ok (.iadd, 1) := by decide +kernel
theorem dX9_add_112 : decode cX9_add 112 = .ok (.aload_n 0, 1) := by decide +kernel
theorem dX9_add_113 : decode cX9_add 113 = .ok (.getfield 46, 3) := by decide +kernel
theorem dX9_add_116 : decode cX9_add 116 = .ok (.bipush 23, 2) := by decide +kernel
theorem dX9_add_118 : decode cX9_add 118 = .ok (.iload_n 1, 1) := by decide +kernel
theorem dX9_add_119 : decode cX9_add 119 = .ok (.imul, 1) := by decide +kernel
theorem dX9_add_120 : decode cX9_add 120 = .ok (.iload_n 3, 1) := by decide +kernel
theorem dX9_add_121 : decode cX9_add 121 = .ok (.iadd, 1) := by decide +kernel
theorem dX9_add_122 : decode cX9_add 122 = .ok (.iaload, 1) := by decide +kernel
theorem dX9_add_123 : decode cX9_add 123 = .ok (.iastore, 1) := by decide +kernel
theorem dX9_add_124 : decode cX9_add 124 = .ok (.iinc 3 1, 3) := by decide +kernel
theorem dX9_add_127 : decode cX9_add 127 = .ok (.goto (-79), 3) := by decide +kernel
theorem dX9_add_130 : decode cX9_add 130 = .ok (.aload_n 0, 1) := by decide +kernel
theorem dX9_add_131 : decode cX9_add 131 = .ok (.dup, 1) := by decide +kernel
theorem dX9_add_132 : decode cX9_add 132 = .ok (.getfield 190, 3) := by decide +kernel
theorem dX9_add_135 : decode cX9_add 135 = .ok (.iconst 1, 1) := by decide +kernel
theorem dX9_add_136 : decode cX9_add 136 = .ok (.iadd, 1) := by decide +kernel
theorem dX9_add_137 : decode cX9_add 137 = .ok (.putfield 190, 3) := by decide +kernel
theorem dX9_add_140 : decode cX9_add 140 = .ok (.aload_n 0, 1) := by decide +kernel
theorem dX9_add_141 : decode cX9_add 141 = .ok (.getfield 190, 3) := by decide +kernel
theorem dX9_add_144 : decode cX9_add 144 = .ok (.ireturn, 1) := by decide +kernel
theorem dX9_wipe_0 : decode cX9_wipe 0 = .ok (.aload_n 0, 1) := by decide +kernel
theorem dX9_wipe_1 : decode cX9_wipe 1 = .ok (.iconst 0, 1) := by decide +kernel
theorem dX9_wipe_2 : decode cX9_wipe 2 = .ok (.putfield 137, 3) := by decide +kernel
theorem dX9_wipe_5 : decode cX9_wipe 5 = .ok (.aload_n 0, 1) := by decide +kernel
theorem dX9_wipe_6 : decode cX9_wipe 6 = .ok (.getfield 190, 3) := by decide +kernel
theorem dX9_wipe_9 : decode cX9_wipe 9 = .ok (.istore_n 1, 1) := by decide +kernel
theorem dX9_wipe_10 : decode cX9_wipe 10 = .ok (.aload_n 0, 1) := by decide +kernel
theorem dX9_wipe_11 : decode cX9_wipe 11 = .ok (.iconst 0, 1) := by decide +kernel
theorem dX9_wipe_12 : decode cX9_wipe 12 = .ok (.putfield 190, 3) := by decide +kernel
theorem dX9_wipe_15 : decode cX9_wipe 15 = .ok (.iload_n 1, 1) := by decide +kernel
theorem dX9_wipe_16 : decode cX9_wipe 16 = .ok (.ireturn, 1) := by decide +kernel
theorem dX9_begins_0 : decode cX9_begins 0 = .ok (.iconst 0, 1) := by decide +kernel
theorem dX9_begins_1 : decode cX9_begins 1 = .ok (.istore 4, 2) := by decide +kernel
theorem dX9_begins_3 : decode cX9_begins 3 = .ok (.iload 4, 2) := by decide +kernel
theorem dX9_begins_5 : decode cX9_begins 5 = .ok (.aload_n 0, 1) := by decide +kernel
theorem dX9_begins_6 : decode cX9_begins 6 = .ok (.getfield 193, 3) := by decide +kernel
theorem dX9_begins_9 : decode cX9_begins 9 = .ok (.if_icmp .ge 23, 3) := by decide +kernel
theorem dX9_begins_12 : decode cX9_begins 12 = .ok (.aload_n 0, 1) := by decide +kernel
theorem dX9_begins_13 : decode cX9_begins 13 = .ok (.getfield 107, 3) := by decide +kernel
theorem dX9_begins_16 : decode cX9_begins 16 = .ok (.aload_n 0, 1) := by decide +kernel
theorem dX9_begins_17 : decode cX9_begins 17 = .ok (.getfield 110, 3) := by decide +kernel
theorem dX9_begins_20 : decode cX9_begins 20 = .ok (.iload 4, 2) := by decide +kernel
theorem dX9_begins_22 : decode cX9_begins 22 = .ok (.iaload, 1) := by decide +kernel
theorem dX9_begins_23 : decode cX9_begins 23 = .ok (.bipush (-9), 2) := by decide +kernel
theorem dX9_begins_25 : decode cX9_begins 25 = .ok (.iastore, 1) := by decide +kernel
theorem dX9_begins_26 : decode cX9_begins 26 = .ok (.iinc 4 1, 3) := by decide +kernel
theorem dX9_begins_29 : decode cX9_begins 29 = .ok (.goto (-26), 3) := by decide +kernel
theorem dX9_begins_32 : decode cX9_begins 32 = .ok (.aload_n 0, 1) := by decide +kernel
theorem dX9_begins_33 : decode cX9_begins 33 = .ok (.iconst 0, 1) := by decide +kernel
theorem dX9_begins_34 : decode cX9_begins 34 = .ok (.putfield 193, 3) := by decide +kernel
theorem dX9_begins_37 : decode cX9_begins 37 = .ok (.aload_n 0, 1) := by decide +kernel
theorem dX9_begins_38 : decode cX9_begins 38 = .ok (.iconst 0, 1) := by decide +kernel
theorem dX9_begins_39 : decode cX9_begins 39 = .ok (.putfield 179, 3) := by decide +kernel
theorem dX9_begins_42 : decode cX9_begins 42 = .ok (.aload_n 0, 1) := by decide +kernel
theorem dX9_begins_43 : decode cX9_begins 43 = .ok (.getfield 113, 3) := by decide +kernel
theorem dX9_begins_46 : decode cX9_begins 46 = .ok (.iconst 0, 1) := by decide +kernel
theorem dX9_begins_47 : decode cX9_begins 47 = .ok (.iload_n 3, 1) := by decide +kernel
theorem dX9_begins_48 : decode cX9_begins 48 = .ok (.iastore, 1) := by decide +kernel
theorem dX9_begins_49 : decode cX9_begins 49 = .ok (.iconst 0, 1) := by decide +kernel
theorem dX9_begins_50 : decode cX9_begins 50 = .ok (.istore 4, 2) := by decide +kernel
theorem dX9_begins_52 : decode cX9_begins 52 = .ok (.iload 4, 2) := by decide +kernel
theorem dX9_begins_54 : decode cX9_begins 54 = .ok (.iload_n 3, 1) := by decide +kernel
theorem dX9_begins_55 : decode cX9_begins 55 = .ok (.if_icmp .ge 47, 3) := by decide +kernel
theorem dX9_begins_58 : decode cX9_begins 58 = .ok (.aload_n 0, 1) := by decide +kernel
theorem dX9_begins_59 : decode cX9_begins 59 = .ok (.iload_n 2, 1) := by decide +kernel
theorem dX9_begins_60 : decode cX9_begins 60 = .ok (.ifCond .eq 11, 3) := by decide +kernel
theorem dX9_begins_63 : decode cX9_begins 63 = .ok (.bipush 12, 2) := by decide +kernel
theorem dX9_begins_65 : decode cX9_begins 65 = .ok (.iload 4, 2) := by decide +kernel
theorem dX9_begins_67 : decode cX9_begins 67 = .ok (.iadd, 1) := by decide +kernel
theorem dX9_begins_68 : decode cX9_begins 68 = .ok (.goto 10, 3) := by decide +kernel
theorem dX9_begins_71 : decode cX9_begins 71 = .ok (.aload_n 0, 1) := by decide +kernel
theorem dX9_begins_72 : decode cX9_begins 72 = .ok (.getfield 128, 3) := by decide +kernel
theorem dX9_begins_75 : decode cX9_begins 75 = .ok (.iload 4, 2) := by decide +kernel
theorem dX9_begins_77 : decode cX9_begins 77 = .ok (.iaload, 1) := by decide +kernel
theorem dX9_begins_78 : decode cX9_begins 78 = .ok (.invokevirtual 182, 3) := by decide +kernel
theorem dX9_begins_81 : decode cX9_begins 81 = .ok (.aload_n 0, 1) := by decide +kernel
theorem dX9_begins_82 : decode cX9_begins 82 = .ok (.getfield 113, 3) := by decide +kernel
theorem dX9_begins_85 : decode cX9_begins 85 = .ok (.iconst 1, 1) := by decide +kernel
theorem dX9_begins_86 : decode cX9_begins 86 = .ok (.iload 4, 2) := by decide +kernel
theorem dX9_begins_88 : decode cX9_begins 88 = .ok (.iadd, 1) := by decide +kernel
theorem dX9_begins_89 : decode cX9_begins 89 = .ok (.aload_n 0, 1) := by decide +kernel
theorem dX9_begins_90 : decode cX9_begins 90 = .ok (.getfield 179, 3) := by decide +kernel
theorem dX9_begins_93 : decode cX9_begins 93 = .ok (.iconst 1, 1) := by decide +kernel
theorem dX9_begins_94 : decode cX9_begins 94 = .ok (.isub, 1) := by decide +kernel
theorem dX9_begins_95 : decode cX9_begins 95 = .ok (.iastore, 1) := by decide +kernel
theorem dX9_begins_96 : decode cX9_begins 96 = .ok (.iinc 4 1, 3) := by decide +kernel
theorem dX9_begins_99 : decode cX9_begins 99 = .ok (.goto (-47), 3) := by decide +kernel
theorem dX9_begins_102 : decode cX9_begins 102 = .ok (.aload_n 0, 1) := by decide +kernel
theorem dX9_begins_103 : decode cX9_begins 103 = .ok (.iload_n 1, 1) := by decide +kernel
theorem dX9_begins_104 : decode cX9_begins 104 = .ok (.invokevirtual 182, 3) := by decide +kernel
theorem dX9_begins_107 : decode cX9_begins 107 = .ok (.aload_n 0, 1) := by decide +kernel
theorem dX9_begins_108 : decode cX9_begins 108 = .ok (.getfield 113, 3) := by decide +kernel
theorem dX9_begins_111 : decode cX9_begins 111 = .ok (.bipush 17, 2) := by decide +kernel
theorem dX9_begins_113 : decode cX9_begins 113 = .ok (.aload_n 0, 1) := by decide +kernel
theorem dX9_begins_114 : decode cX9_begins 114 = .ok (.getfield 179, 3) := by decide +kernel
theorem dX9_begins_117 : decode cX9_begins 117 = .ok (.iconst 1, 1) := by decide +kernel
theorem dX9_begins_118 : decode cX9_begins 118 = .ok (.isub, 1) := by decide +kernel
theorem dX9_begins_119 : decode cX9_begins 119 = .ok (.iastore, 1) := by decide +kernel
theorem dX9_begins_120 : decode cX9_begins 120 = .ok (.return_, 1) := by decide +kernel
theorem dX9_atoms_0 : decode cX9_atoms 0 = .ok (.aload_n 0, 1) := by decide +kernel
theorem dX9_atoms_1 : decode cX9_atoms 1 = .ok (.getfield 76, 3) := by decide +kernel
theorem dX9_atoms_4 : decode cX9_atoms 4 = .ok (.aload_n 0, 1) := by decide +kernel
theorem dX9_atoms_5 : decode cX9_atoms 5 = .ok (.getfield 113, 3) := by decide +kernel
theorem dX9_atoms_8 : decode cX9_atoms 8 = .ok (.bipush 17, 2) := by decide +kernel
theorem dX9_atoms_10 : decode cX9_atoms 10 = .ok (.iaload, 1) := by decide +kernel
theorem dX9_atoms_11 : decode cX9_atoms 11 = .ok (.iaload, 1) := by decide +kernel
theorem dX9_atoms_12 : decode cX9_atoms 12 = .ok (.istore_n 1, 1) := by decide +kernel
theorem dX9_atoms_13 : decode cX9_atoms 13 = .ok (.iconst 0, 1) := by decide +kernel
theorem dX9_atoms_14 : decode cX9_atoms 14 = .ok (.istore_n 2, 1) := by decide +kernel
theorem dX9_atoms_15 : decode cX9_atoms 15 = .ok (.iload_n 2, 1) := by decide +kernel
theorem dX9_atoms_16 : decode cX9_atoms 16 = .ok (.aload_n 0, 1) := by decide +kernel
theorem dX9_atoms_17 : decode cX9_atoms 17 = .ok (.getfield 113, 3) := by decide +kernel
theorem dX9_atoms_20 : decode cX9_atoms 20 = .ok (.iconst 0, 1) := by decide +kernel
theorem dX9_atoms_21 : decode cX9_atoms 21 = .ok (.iaload, 1) := by decide +kernel
theorem dX9_atoms_22 : decode cX9_atoms 22 = .ok (.if_icmp .ge 25, 3) := by decide +kernel
theorem dX9_atoms_25 : decode cX9_atoms 25 = .ok (.iload_n 1, 1) := by decide +kernel
theorem dX9_atoms_26 : decode cX9_atoms 26 = .ok (.aload_n 0, 1) := by decide +kernel
theorem dX9_atoms_27 : decode cX9_atoms 27 = .ok (.getfield 76, 3) := by decide +kernel
theorem dX9_atoms_30 : decode cX9_atoms 30 = .ok (.aload_n 0, 1) := by decide +kernel
theorem dX9_atoms_31 : decode cX9_atoms 31 = .ok (.getfield 113, 3) := by decide +kernel
theorem dX9_atoms_34 : decode cX9_atoms 34 = .ok (.iconst 1, 1) := by decide +kernel
theorem dX9_atoms_35 : decode cX9_atoms 35 = .ok (.iload_n 2, 1) := by decide +kernel
theorem dX9_atoms_36 : decode cX9_atoms 36 = .ok (.iadd, 1) := by decide +kernel
theorem dX9_atoms_37 : decode cX9_atoms 37 = .ok (.iaload, 1) := by decide +kernel
theorem dX9_atoms_38 : decode cX9_atoms 38 = .ok (.iaload, 1) := by decide +kernel
theorem dX9_atoms_39 : decode cX9_atoms 39 = .ok (.iadd, 1) := by decide +kernel
theorem dX9_atoms_40 : decode cX9_atoms 40 = .ok (.istore_n 1, 1) := by decide +kernel
theorem dX9_atoms_41 : decode cX9_atoms 41 = .ok (.iinc 2 1, 3) := by decide +kernel
theorem dX9_atoms_44 : decode cX9_atoms 44 = .ok (.goto (-29), 3) := by decide +kernel
theorem dX9_atoms_47 : decode cX9_atoms 47 = .ok (.iload_n 1, 1) := by decide +kernel
theorem dX9_atoms_48 : decode cX9_atoms 48 = .ok (.ireturn, 1) := by decide +kernel
theorem dX9_hasTimes_0 : decode cX9_hasTimes 0 = .ok (.aload_n 0, 1) := by decide +kernel
theorem dX9_hasTimes_1 : decode cX9_hasTimes 1 = .ok (.getfield 82, 3) := by decide +kernel
theorem dX9_hasTimes_4 : decode cX9_hasTimes 4 = .ok (.aload_n 0, 1) := by decide +kernel
theorem dX9_hasTimes_5 : decode cX9_hasTimes 5 = .ok (.getfield 113, 3) := by decide +kernel
theorem dX9_hasTimes_8 : decode cX9_hasTimes 8 = .ok (.bipush 17, 2) := by decide +kernel
theorem dX9_hasTimes_10 : decode cX9_hasTimes 10 = .ok (.iaload, 1) := by decide +kernel
theorem dX9_hasTimes_11 : decode cX9_hasTimes 11 = .ok (.baload, 1) := by decide +kernel
theorem dX9_hasTimes_12 : decode cX9_hasTimes 12 = .ok (.istore_n 1, 1) := by decide +kernel
theorem dX9_hasTimes_13 : decode cX9_hasTimes 13 = .ok (.iconst 0, 1) := by decide +kernel
theorem dX9_hasTimes_14 : decode cX9_hasTimes 14 = .ok (.istore_n 2, 1) := by decide +kernel
theorem dX9_hasTimes_15 : decode cX9_hasTimes 15 = .ok (.iload_n 2, 1) := by decide +kernel
theorem dX9_hasTimes_16 : decode cX9_hasTimes 16 = .ok (.aload_n 0, 1) := by decide +kernel
theorem dX9_hasTimes_17 : decode cX9_hasTimes 17 = .ok (.getfield 113, 3) := by decide +kernel
theorem dX9_hasTimes_20 : decode cX9_hasTimes 20 = .ok (.iconst 0, 1) := by decide +kernel
theorem dX9_hasTimes_21 : decode cX9_hasTimes 21 = .ok (.iaload, 1) := by decide +kernel
theorem dX9_hasTimes_22 : decode cX9_hasTimes 22 = .ok (.if_icmp .ge 25, 3) := by decide +kernel
theorem dX9_hasTimes_25 : decode cX9_hasTimes 25 = .ok (.iload_n 1, 1) := by decide +kernel
theorem dX9_hasTimes_26 : decode cX9_hasTimes 26 = .ok (.aload_n 0, 1) := by decide +kernel
theorem dX9_hasTimes_27 : decode cX9_hasTimes 27 = .ok (.getfield 82, 3) := by decide +kernel
theorem dX9_hasTimes_30 : decode cX9_hasTimes 30 = .ok (.aload_n 0, 1) := by decide +kernel
theorem dX9_hasTimes_31 : decode cX9_hasTimes 31 = .ok (.getfield 113, 3) := by decide +kernel
theorem dX9_hasTimes_34 : decode cX9_hasTimes 34 = .ok (.iconst 1, 1) := by decide +kernel
theorem dX9_hasTimes_35 : decode cX9_hasTimes 35 = .ok (.iload_n 2, 1) := by decide +kernel
theorem dX9_hasTimes_36 : decode cX9_hasTimes 36 = .ok (.iadd, 1) := by decide +kernel
theorem dX9_hasTimes_37 : decode cX9_hasTimes 37 = .ok (.iaload, 1) := by decide +kernel
theorem dX9_hasTimes_38 : decode cX9_hasTimes 38 = .ok (.baload, 1) := by decide +kernel
theorem dX9_hasTimes_39 : decode cX9_hasTimes 39 = .ok (.ior, 1) := by decide +kernel
theorem dX9_hasTimes_40 : decode cX9_hasTimes 40 = .ok (.istore_n 1, 1) := by decide +kernel
theorem dX9_hasTimes_41 : decode cX9_hasTimes 41 = .ok (.iinc 2 1, 3) := by decide +kernel
theorem dX9_hasTimes_44 : decode cX9_hasTimes 44 = .ok (.goto (-29), 3) := by decide +kernel
theorem dX9_hasTimes_47 : decode cX9_hasTimes 47 = .ok (.iload_n 1, 1) := by decide +kernel
theorem dX9_hasTimes_48 : decode cX9_hasTimes 48 = .ok (.ireturn, 1) := by decide +kernel
theorem dX9_find_0 : decode cX9_find 0 = .ok (.aload_n 0, 1) := by decide +kernel
theorem dX9_find_1 : decode cX9_find 1 = .ok (.getfield 113, 3) := by decide +kernel
theorem dX9_find_4 : decode cX9_find 4 = .ok (.bipush 17, 2) := by decide +kernel
theorem dX9_find_6 : decode cX9_find 6 = .ok (.iaload, 1) := by decide +kernel
theorem dX9_find_7 : decode cX9_find 7 = .ok (.istore_n 1, 1) := by decide +kernel
theorem dX9_find_8 : decode cX9_find 8 = .ok (.iconst 0, 1) := by decide +kernel
theorem dX9_find_9 : decode cX9_find 9 = .ok (.istore_n 2, 1) := by decide +kernel
theorem dX9_find_10 : decode cX9_find 10 = .ok (.iload_n 2, 1) := by decide +kernel
theorem dX9_find_11 : decode cX9_find 11 = .ok (.aload_n 0, 1) := by decide +kernel
theorem dX9_find_12 : decode cX9_find 12 = .ok (.getfield 113, 3) := by decide +kernel
theorem dX9_find_15 : decode cX9_find 15 = .ok (.iconst 0, 1) := by decide +kernel
theorem dX9_find_16 : decode cX9_find 16 = .ok (.iaload, 1) := by decide +kernel
theorem dX9_find_17 : decode cX9_find 17 = .ok (.if_icmp .ge 26, 3) := by decide +kernel
theorem dX9_find_20 : decode cX9_find 20 = .ok (.bipush 31, 2) := by decide +kernel
theorem dX9_find_22 : decode cX9_find 22 = .ok (.iload_n 1, 1) := by decide +kernel
theorem dX9_find_23 : decode cX9_find 23 = .ok (.imul, 1) := by decide +kernel
theorem dX9_find_24 : decode cX9_find 24 = .ok (.aload_n 0, 1) := by decide +kernel
theorem dX9_find_25 : decode cX9_find 25 = .ok (.getfield 113, 3) := by decide +kernel
theorem dX9_find_28 : decode cX9_find 28 = .ok (.iconst 1, 1) := by decide +kernel
theorem dX9_find_29 : decode cX9_find 29 = .ok (.iload_n 2, 1) := by decide +kernel
theorem dX9_find_30 : decode cX9_find 30 = .ok (.iadd, 1) := by decide +kernel
theorem dX9_find_31 : decode cX9_find 31 = .ok (.iaload, 1) := by decide +kernel
theorem dX9_find_32 : decode cX9_find 32 = .ok (.iadd, 1) := by decide +kernel
theorem dX9_find_33 : decode cX9_find 33 = .ok (.bipush 7, 2) := by decide +kernel
theorem dX9_find_35 : decode cX9_find 35 = .ok (.iadd, 1) := by decide +kernel
theorem dX9_find_36 : decode cX9_find 36 = .ok (.istore_n 1, 1) := by decide +kernel
theorem dX9_find_37 : decode cX9_find 37 = .ok (.iinc 2 1, 3) := by decide +kernel
theorem dX9_find_40 : decode cX9_find 40 = .ok (.goto (-30), 3) := by decide +kernel
theorem dX9_find_43 : decode cX9_find 43 = .ok (.iload_n 1, 1) := by decide +kernel
theorem dX9_find_44 : decode cX9_find 44 = .ok (.ldc 196, 2) := by decide +kernel
theorem dX9_find_46 : decode cX9_find 46 = .ok (.iand, 1) := by decide +kernel
theorem dX9_find_47 : decode cX9_find 47 = .ok (.istore_n 1, 1) := by decide +kernel
theorem dX9_find_48 : decode cX9_find 48 = .ok (.aload_n 0, 1) := by decide +kernel
theorem dX9_find_49 : decode cX9_find 49 = .ok (.getfield 107, 3) := by decide +kernel
theorem dX9_find_52 : decode cX9_find 52 = .ok (.iload_n 1, 1) := by decide +kernel
theorem dX9_find_53 : decode cX9_find 53 = .ok (.iaload, 1) := by decide +kernel
theorem dX9_find_54 : decode cX9_find 54 = .ok (.istore_n 2, 1) := by decide +kernel
theorem dX9_find_55 : decode cX9_find 55 = .ok (.iload_n 2, 1) := by decide +kernel
theorem dX9_find_56 : decode cX9_find 56 = .ok (.bipush (-9), 2) := by decide +kernel
theorem dX9_find_58 : decode cX9_find 58 = .ok (.if_icmp .eq 121, 3) := by decide +kernel
theorem dX9_find_61 : decode cX9_find 61 = .ok (.aload_n 0, 1) := by decide +kernel
theorem dX9_find_62 : decode cX9_find 62 = .ok (.getfield 90, 3) := by decide +kernel
theorem dX9_find_65 : decode cX9_find 65 = .ok (.bipush 18, 2) := by decide +kernel
theorem dX9_find_67 : decode cX9_find 67 = .ok (.iload_n 2, 1) := by decide +kernel
theorem dX9_find_68 : decode cX9_find 68 = .ok (.imul, 1) := by decide +kernel
theorem dX9_find_69 : decode cX9_find 69 = .ok (.iaload, 1) := by decide +kernel
theorem dX9_find_70 : decode cX9_find 70 = .ok (.aload_n 0, 1) := by decide +kernel
theorem dX9_find_71 : decode cX9_find 71 = .ok (.getfield 113, 3) := by decide +kernel
theorem dX9_find_74 : decode cX9_find 74 = .ok (.iconst 0, 1) := by decide +kernel
theorem dX9_find_75 : decode cX9_find 75 = .ok (.iaload, 1) := by decide +kernel
theorem dX9_find_76 : decode cX9_find 76 = .ok (.if_icmp .ne 29, 3) := by decide +kernel
theorem dX9_find_79 : decode cX9_find 79 = .ok (.aload_n 0, 1) := by decide +kernel
theorem dX9_find_80 : decode cX9_find 80 = .ok (.getfield 90, 3) := by decide +kernel
theorem dX9_find_83 : decode cX9_find 83 = .ok (.bipush 18, 2) := by decide +kernel
theorem dX9_find_85 : decode cX9_find 85 = .ok (.iload_n 2, 1) := by decide +kernel
theorem dX9_find_86 : decode cX9_find 86 = .ok (.imul, 1) := by decide +kernel
theorem dX9_find_87 : decode cX9_find 87 = .ok (.bipush 17, 2) := by decide +kernel
theorem dX9_find_89 : decode cX9_find 89 = .ok (.iadd, 1) := by decide +kernel
theorem dX9_find_90 : decode cX9_find 90 = .ok (.iaload, 1) := by decide +kernel
theorem dX9_find_91 : decode cX9_find 91 = .ok (.aload_n 0, 1) := by decide +kernel
theorem dX9_find_92 : decode cX9_find 92 = .ok (.getfield 113, 3) := by decide +kernel
theorem dX9_find_95 : decode cX9_find 95 = .ok (.bipush 17, 2) := by decide +kernel
theorem dX9_find_97 : decode cX9_find 97 = .ok (.iaload, 1) := by decide +kernel
theorem dX9_find_98 : decode cX9_find 98 = .ok (.if_icmp .ne 7, 3) := by decide +kernel
theorem dX9_find_101 : decode cX9_find 101 = .ok (.iconst 1, 1) := by decide +kernel
theorem dX9_find_102 : decode cX9_find 102 = .ok (.goto 4, 3) := by decide +kernel
theorem dX9_find_105 : decode cX9_find 105 = .ok (.iconst 0, 1) := by decide +kernel
theorem dX9_find_106 : decode cX9_find 106 = .ok (.istore_n 3, 1) := by decide +kernel
theorem dX9_find_107 : decode cX9_find 107 = .ok (.iconst 0, 1) := by decide +kernel
theorem dX9_find_108 : decode cX9_find 108 = .ok (.istore 4, 2) := by decide +kernel
theorem dX9_find_110 : decode cX9_find 110 = .ok (.iload 4, 2) := by decide +kernel
theorem dX9_find_112 : decode cX9_find 112 = .ok (.aload_n 0, 1) := by decide +kernel
theorem dX9_find_113 : decode cX9_find 113 = .ok (.getfield 113, 3) := by decide +kernel
theorem dX9_find_116 : decode cX9_find 116 = .ok (.iconst 0, 1) := by decide +kernel
theorem dX9_find_117 : decode cX9_find 117 = .ok (.iaload, 1) := by decide +kernel
theorem dX9_find_118 : decode cX9_find 118 = .ok (.if_icmp .ge 45, 3) := by decide +kernel
theorem dX9_find_121 : decode cX9_find 121 = .ok (.iload_n 3, 1) := by decide +kernel
theorem dX9_find_122 : decode cX9_find 122 = .ok (.ifCond .eq 41, 3) := by decide +kernel
theorem dX9_find_125 : decode cX9_find 125 = .ok (.aload_n 0, 1) := by decide +kernel
theorem dX9_find_126 : decode cX9_find 126 = .ok (.getfield 90, 3) := by decide +kernel
theorem dX9_find_129 : decode cX9_find 129 = .ok (.bipush 18, 2) := by decide +kernel
theorem dX9_find_131 : decode cX9_find 131 = .ok (.iload_n 2, 1) := by decide +kernel
theorem dX9_find_132 : decode cX9_find 132 = .ok (.imul, 1) := by decide +kernel
theorem dX9_find_133 : decode cX9_find 133 = .ok (.iconst 1, 1) := by decide +kernel
theorem dX9_find_134 : decode cX9_find 134 = .ok (.iadd, 1) := by decide +kernel
theorem dX9_find_135 : decode cX9_find 135 = .ok (.iload 4, 2) := by decide +kernel
theorem dX9_find_137 : decode cX9_find 137 = .ok (.iadd, 1) := by decide +kernel
theorem dX9_find_138 : decode cX9_find 138 = .ok (.iaload, 1) := by decide +kernel
theorem dX9_find_139 : decode cX9_find 139 = .ok (.aload_n 0, 1) := by decide +kernel
theorem dX9_find_140 : decode cX9_find 140 = .ok (.getfield 113, 3) := by decide +kernel
theorem dX9_find_143 : decode cX9_find 143 = .ok (.iconst 1, 1) := by decide +kernel
theorem dX9_find_144 : decode cX9_find 144 = .ok (.iload 4, 2) := by decide +kernel
theorem dX9_find_146 : decode cX9_find 146 = .ok (.iadd, 1) := by decide +kernel
theorem dX9_find_147 : decode cX9_find 147 = .ok (.iaload, 1) := by decide +kernel
theorem dX9_find_148 : decode cX9_find 148 = .ok (.if_icmp .ne 7, 3) := by decide +kernel
theorem dX9_find_151 : decode cX9_find 151 = .ok (.iconst 1, 1) := by decide +kernel
theorem dX9_find_152 : decode cX9_find 152 = .ok (.goto 4, 3) := by decide +kernel
theorem dX9_find_155 : decode cX9_find 155 = .ok (.iconst 0, 1) := by decide +kernel
theorem dX9_find_156 : decode cX9_find 156 = .ok (.istore_n 3, 1) := by decide +kernel
theorem dX9_find_157 : decode cX9_find 157 = .ok (.iinc 4 1, 3) := by decide +kernel
theorem dX9_find_160 : decode cX9_find 160 = .ok (.goto (-50), 3) := by decide +kernel
theorem dX9_find_163 : decode cX9_find 163 = .ok (.iload_n 3, 1) := by decide +kernel
theorem dX9_find_164 : decode cX9_find 164 = .ok (.ifCond .eq 5, 3) := by decide +kernel
theorem dX9_find_167 : decode cX9_find 167 = .ok (.iload_n 2, 1) := by decide +kernel
theorem dX9_find_168 : decode cX9_find 168 = .ok (.ireturn, 1) := by decide +kernel
theorem dX9_find_169 : decode cX9_find 169 = .ok (.aload_n 0, 1) := by decide +kernel
theorem dX9_find_170 : decode cX9_find 170 = .ok (.getfield 103, 3) := by decide +kernel
theorem dX9_find_173 : decode cX9_find 173 = .ok (.iload_n 2, 1) := by decide +kernel
theorem dX9_find_174 : decode cX9_find 174 = .ok (.iaload, 1) := by decide +kernel
theorem dX9_find_175 : decode cX9_find 175 = .ok (.istore_n 2, 1) := by decide +kernel
theorem dX9_find_176 : decode cX9_find 176 = .ok (.goto (-121), 3) := by decide +kernel
theorem dX9_find_179 : decode cX9_find 179 = .ok (.aload_n 0, 1) := by decide +kernel
theorem dX9_find_180 : decode cX9_find 180 = .ok (.getfield 73, 3) := by decide +kernel
theorem dX9_find_183 : decode cX9_find 183 = .ok (.aload_n 0, 1) := by decide +kernel
theorem dX9_find_184 : decode cX9_find 184 = .ok (.getfield 113, 3) := by decide +kernel
theorem dX9_find_187 : decode cX9_find 187 = .ok (.bipush 17, 2) := by decide +kernel
theorem dX9_find_189 : decode cX9_find 189 = .ok (.iaload, 1) := by decide +kernel
theorem dX9_find_190 : decode cX9_find 190 = .ok (.iaload, 1) := by decide +kernel
theorem dX9_find_191 : decode cX9_find 191 = .ok (.istore_n 2, 1) := by decide +kernel
theorem dX9_find_192 : decode cX9_find 192 = .ok (.iconst 0, 1) := by decide +kernel
theorem dX9_find_193 : decode cX9_find 193 = .ok (.istore_n 3, 1) := by decide +kernel
theorem dX9_find_194 : decode cX9_find 194 = .ok (.iload_n 3, 1) := by decide +kernel
theorem dX9_find_195 : decode cX9_find 195 = .ok (.aload_n 0, 1) := by decide +kernel
theorem dX9_find_196 : decode cX9_find 196 = .ok (.getfield 113, 3) := by decide +kernel
theorem dX9_find_199 : decode cX9_find 199 = .ok (.iconst 0, 1) := by decide +kernel
theorem dX9_find_200 : decode cX9_find 200 = .ok (.iaload, 1) := by decide +kernel
theorem dX9_find_201 : decode cX9_find 201 = .ok (.if_icmp .ge 49, 3) := by decide +kernel
theorem dX9_find_204 : decode cX9_find 204 = .ok (.aload_n 0, 1) := by decide +kernel
theorem dX9_find_205 : decode cX9_find 205 = .ok (.getfield 90, 3) := by decide +kernel
theorem dX9_find_208 : decode cX9_find 208 = .ok (.bipush 18, 2) := by decide +kernel
theorem dX9_find_210 : decode cX9_find 210 = .ok (.aload_n 0, 1) := by decide +kernel
theorem dX9_find_211 : decode cX9_find 211 = .ok (.getfield 193, 3) := by decide +kernel
theorem dX9_find_214 : decode cX9_find 214 = .ok (.imul, 1) := by decide +kernel
theorem dX9_find_215 : decode cX9_find 215 = .ok (.iconst 1, 1) := by decide +kernel
theorem dX9_find_216 : decode cX9_find 216 = .ok (.iadd, 1) := by decide +kernel
theorem dX9_find_217 : decode cX9_find 217 = .ok (.iload_n 3, 1) := by decide +kernel
theorem dX9_find_218 : decode cX9_find 218 = .ok (.iadd, 1) := by decide +kernel
theorem dX9_find_219 : decode cX9_find 219 = .ok (.aload_n 0, 1) := by decide +kernel
theorem dX9_find_220 : decode cX9_find 220 = .ok (.getfield 113, 3) := by decide +kernel
theorem dX9_find_223 : decode cX9_find 223 = .ok (.iconst 1, 1) := by decide +kernel
theorem dX9_find_224 : decode cX9_find 224 = .ok (.iload_n 3, 1) := by decide +kernel
theorem dX9_find_225 : decode cX9_find 225 = .ok (.iadd, 1) := by decide +kernel
theorem dX9_find_226 : decode cX9_find 226 = .ok (.iaload, 1) := by decide +kernel
theorem dX9_find_227 : decode cX9_find 227 = .ok (.iastore, 1) := by decide +kernel
theorem dX9_find_228 : decode cX9_find 228 = .ok (.iload_n 2, 1) := by decide +kernel
theorem dX9_find_229 : decode cX9_find 229 = .ok (.aload_n 0, 1) := by decide +kernel
theorem dX9_find_230 : decode cX9_find 230 = .ok (.getfield 73, 3) := by decide +kernel
theorem dX9_find_233 : decode cX9_find 233 = .ok (.aload_n 0, 1) := by decide +kernel
theorem dX9_find_234 : decode cX9_find 234 = .ok (.getfield 113, 3) := by decide +kernel
theorem dX9_find_237 : decode cX9_find 237 = .ok (.iconst 1, 1) := by decide +kernel
theorem dX9_find_238 : decode cX9_find 238 = .ok (.iload_n 3, 1) := by decide +kernel
theorem dX9_find_239 : decode cX9_find 239 = .ok (.iadd, 1) := by decide +kernel
theorem dX9_find_240 : decode cX9_find 240 = .ok (.iaload, 1) := by decide +kernel
theorem dX9_find_241 : decode cX9_find 241 = .ok (.iaload, 1) := by decide +kernel
theorem dX9_find_242 : decode cX9_find 242 = .ok (.iadd, 1) := by decide +kernel
theorem dX9_find_243 : decode cX9_find 243 = .ok (.istore_n 2, 1) := by decide +kernel
theorem dX9_find_244 : decode cX9_find 244 = .ok (.iinc 3 1, 3) := by decide +kernel
theorem dX9_find_247 : decode cX9_find 247 = .ok (.goto (-53), 3) := by decide +kernel
theorem dX9_find_250 : decode cX9_find 250 = .ok (.aload_n 0, 1) := by decide +kernel
theorem dX9_find_251 : decode cX9_find 251 = .ok (.getfield 90, 3) := by decide +kernel
theorem dX9_find_254 : decode cX9_find 254 = .ok (.bipush 18, 2) := by decide +kernel
theorem dX9_find_256 : decode cX9_find 256 = .ok (.aload_n 0, 1) := by decide +kernel
theorem dX9_find_257 : decode cX9_find 257 = .ok (.getfield 193, 3) := by decide +kernel
theorem dX9_find_260 : decode cX9_find 260 = .ok (.imul, 1) := by decide +kernel
theorem dX9_find_261 : decode cX9_find 261 = .ok (.aload_n 0, 1) := by decide +kernel
theorem dX9_find_262 : decode cX9_find 262 = .ok (.getfield 113, 3) := by decide +kernel
theorem dX9_find_265 : decode cX9_find 265 = .ok (.iconst 0, 1) := by decide +kernel
theorem dX9_find_266 : decode cX9_find 266 = .ok (.iaload, 1) := by decide +kernel
theorem dX9_find_267 : decode cX9_find 267 = .ok (.iastore, 1) := by decide +kernel
theorem dX9_find_268 : decode cX9_find 268 = .ok (.aload_n 0, 1) := by decide +kernel
theorem dX9_find_269 : decode cX9_find 269 = .ok (.getfield 90, 3) := by decide +kernel
theorem dX9_find_272 : decode cX9_find 272 = .ok (.bipush 18, 2) := by decide +kernel
theorem dX9_find_274 : decode cX9_find 274 = .ok (.aload_n 0, 1) := by decide +kernel
theorem dX9_find_275 : decode cX9_find 275 = .ok (.getfield 193, 3) := by decide +kernel
theorem dX9_find_278 : decode cX9_find 278 = .ok (.imul, 1) := by decide +kernel
theorem dX9_find_279 : decode cX9_find 279 = .ok (.bipush 17, 2) := by decide +kernel
theorem dX9_find_281 : decode cX9_find 281 = .ok (.iadd, 1) := by decide +kernel
theorem dX9_find_282 : decode cX9_find 282 = .ok (.aload_n 0, 1) := by decide +kernel
theorem dX9_find_283 : decode cX9_find 283 = .ok (.getfield 113, 3) := by decide +kernel
theorem dX9_find_286 : decode cX9_find 286 = .ok (.bipush 17, 2) := by decide +kernel
theorem dX9_find_288 : decode cX9_find 288 = .ok (.iaload, 1) := by decide +kernel
theorem dX9_find_289 : decode cX9_find 289 = .ok (.iastore, 1) := by decide +kernel
theorem dX9_find_290 : decode cX9_find 290 = .ok (.aload_n 0, 1) := by decide +kernel
theorem dX9_find_291 : decode cX9_find 291 = .ok (.getfield 100, 3) := by decide +kernel
theorem dX9_find_294 : decode cX9_find 294 = .ok (.aload_n 0, 1) := by decide +kernel
theorem dX9_find_295 : decode cX9_find 295 = .ok (.getfield 193, 3) := by decide +kernel
theorem dX9_find_298 : decode cX9_find 298 = .ok (.iload_n 2, 1) := by decide +kernel
theorem dX9_find_299 : decode cX9_find 299 = .ok (.iastore, 1) := by decide +kernel
theorem dX9_find_300 : decode cX9_find 300 = .ok (.aload_n 0, 1) := by decide +kernel
theorem dX9_find_301 : decode cX9_find 301 = .ok (.getfield 110, 3) := by decide +kernel
theorem dX9_find_304 : decode cX9_find 304 = .ok (.aload_n 0, 1) := by decide +kernel
theorem dX9_find_305 : decode cX9_find 305 = .ok (.getfield 193, 3) := by decide +kernel
theorem dX9_find_308 : decode cX9_find 308 = .ok (.iload_n 1, 1) := by decide +kernel
theorem dX9_find_309 : decode cX9_find 309 = .ok (.iastore, 1) := by decide +kernel
theorem dX9_find_310 : decode cX9_find 310 = .ok (.aload_n 0, 1) := by decide +kernel
theorem dX9_find_311 : decode cX9_find 311 = .ok (.getfield 103, 3) := by decide +kernel
theorem dX9_find_314 : decode cX9_find 314 = .ok (.aload_n 0, 1) := by decide +kernel
theorem dX9_find_315 : decode cX9_find 315 = .ok (.getfield 193, 3) := by decide +kernel
theorem dX9_find_318 : decode cX9_find 318 = .ok (.aload_n 0, 1) := by decide +kernel
theorem dX9_find_319 : decode cX9_find 319 = .ok (.getfield 107, 3) := by decide +kernel
theorem dX9_find_322 : decode cX9_find 322 = .ok (.iload_n 1, 1) := by decide +kernel
theorem dX9_find_323 : decode cX9_find 323 = .ok (.iaload, 1) := by decide +kernel
theorem dX9_find_324 : decode cX9_find 324 = .ok (.iastore, 1) := by decide +kernel
theorem dX9_find_325 : decode cX9_find 325 = .ok (.aload_n 0, 1) := by decide +kernel
theorem dX9_find_326 : decode cX9_find 326 = .ok (.getfield 107, 3) := by decide +kernel
theorem dX9_find_329 : decode cX9_find 329 = .ok (.iload_n 1, 1) := by decide +kernel
theorem dX9_find_330 : decode cX9_find 330 = .ok (.aload_n 0, 1) := by decide +kernel
theorem dX9_find_331 : decode cX9_find 331 = .ok (.getfield 193, 3) := by decide +kernel
theorem dX9_find_334 : decode cX9_find 334 = .ok (.iastore, 1) := by decide +kernel
theorem dX9_find_335 : decode cX9_find 335 = .ok (.aload_n 0, 1) := by decide +kernel
theorem dX9_find_336 : decode cX9_find 336 = .ok (.dup, 1) := by decide +kernel
theorem dX9_find_337 : decode cX9_find 337 = .ok (.getfield 193, 3) := by decide +kernel
theorem dX9_find_340 : decode cX9_find 340 = .ok (.iconst 1, 1) := by decide +kernel
theorem dX9_find_341 : decode cX9_find 341 = .ok (.iadd, 1) := by decide +kernel
theorem dX9_find_342 : decode cX9_find 342 = .ok (.putfield 193, 3) := by decide +kernel
theorem dX9_find_345 : decode cX9_find 345 = .ok (.aload_n 0, 1) := by decide +kernel
theorem dX9_find_346 : decode cX9_find 346 = .ok (.getfield 193, 3) := by decide +kernel
theorem dX9_find_349 : decode cX9_find 349 = .ok (.iconst 1, 1) := by decide +kernel
theorem dX9_find_350 : decode cX9_find 350 = .ok (.isub, 1) := by decide +kernel
theorem dX9_find_351 : decode cX9_find 351 = .ok (.ireturn, 1) := by decide +kernel
theorem dX9_some_0 : decode cX9_some 0 = .ok (.aload_n 0, 1) := by decide +kernel
theorem dX9_some_1 : decode cX9_some 1 = .ok (.getfield 113, 3) := by decide +kernel
theorem dX9_some_4 : decode cX9_some 4 = .ok (.iconst 0, 1) := by decide +kernel
theorem dX9_some_5 : decode cX9_some 5 = .ok (.iload_n 3, 1) := by decide +kernel
theorem dX9_some_6 : decode cX9_some 6 = .ok (.iload_n 2, 1) := by decide +kernel
theorem dX9_some_7 : decode cX9_some 7 = .ok (.isub, 1) := by decide +kernel
theorem dX9_some_8 : decode cX9_some 8 = .ok (.iastore, 1) := by decide +kernel
theorem dX9_some_9 : decode cX9_some 9 = .ok (.iload_n 2, 1) := by decide +kernel
theorem dX9_some_10 : decode cX9_some 10 = .ok (.istore 5, 2) := by decide +kernel
theorem dX9_some_12 : decode cX9_some 12 = .ok (.iload 5, 2) := by decide +kernel
theorem dX9_some_14 : decode cX9_some 14 = .ok (.iload_n 3, 1) := by decide +kernel
theorem dX9_some_15 : decode cX9_some 15 = .ok (.if_icmp .ge 34, 3) := by decide +kernel
theorem dX9_some_18 : decode cX9_some 18 = .ok (.aload_n 0, 1) := by decide +kernel
theorem dX9_some_19 : decode cX9_some 19 = .ok (.getfield 113, 3) := by decide +kernel
theorem dX9_some_22 : decode cX9_some 22 = .ok (.iconst 1, 1) := by decide +kernel
theorem dX9_some_23 : decode cX9_some 23 = .ok (.iload 5, 2) := by decide +kernel
theorem dX9_some_25 : decode cX9_some 25 = .ok (.iadd, 1) := by decide +kernel
theorem dX9_some_26 : decode cX9_some 26 = .ok (.iload_n 2, 1) := by decide +kernel
theorem dX9_some_27 : decode cX9_some 27 = .ok (.isub, 1) := by decide +kernel
theorem dX9_some_28 : decode cX9_some 28 = .ok (.aload_n 0, 1) := by decide +kernel
theorem dX9_some_29 : decode cX9_some 29 = .ok (.getfield 90, 3) := by decide +kernel
theorem dX9_some_32 : decode cX9_some 32 = .ok (.bipush 18, 2) := by decide +kernel
theorem dX9_some_34 : decode cX9_some 34 = .ok (.iload_n 1, 1) := by decide +kernel
theorem dX9_some_35 : decode cX9_some 35 = .ok (.imul, 1) := by decide +kernel
theorem dX9_some_36 : decode cX9_some 36 = .ok (.iconst 1, 1) := by decide +kernel
theorem dX9_some_37 : decode cX9_some 37 = .ok (.iadd, 1) := by decide +kernel
theorem dX9_some_38 : decode cX9_some 38 = .ok (.iload 5, 2) := by decide +kernel
theorem dX9_some_40 : decode cX9_some 40 = .ok (.iadd, 1) := by decide +kernel
theorem dX9_some_41 : decode cX9_some 41 = .ok (.iaload, 1) := by decide +kernel
theorem dX9_some_42 : decode cX9_some 42 = .ok (.iastore, 1) := by decide +kernel
theorem dX9_some_43 : decode cX9_some 43 = .ok (.iinc 5 1, 3) := by decide +kernel
theorem dX9_some_46 : decode cX9_some 46 = .ok (.goto (-34), 3) := by decide +kernel
theorem dX9_some_49 : decode cX9_some 49 = .ok (.aload_n 0, 1) := by decide +kernel
theorem dX9_some_50 : decode cX9_some 50 = .ok (.getfield 113, 3) := by decide +kernel
theorem dX9_some_53 : decode cX9_some 53 = .ok (.bipush 17, 2) := by decide +kernel
theorem dX9_some_55 : decode cX9_some 55 = .ok (.iload 4, 2) := by decide +kernel
theorem dX9_some_57 : decode cX9_some 57 = .ok (.iastore, 1) := by decide +kernel
theorem dX9_some_58 : decode cX9_some 58 = .ok (.aload_n 0, 1) := by decide +kernel
theorem dX9_some_59 : decode cX9_some 59 = .ok (.invokevirtual 197, 3) := by decide +kernel
theorem dX9_some_62 : decode cX9_some 62 = .ok (.ireturn, 1) := by decide +kernel
theorem dX9_put_0 : decode cX9_put 0 = .ok (.iconst 0, 1) := by decide +kernel
theorem dX9_put_1 : decode cX9_put 1 = .ok (.istore 7, 2) := by decide +kernel
theorem dX9_put_3 : decode cX9_put 3 = .ok (.aload_n 0, 1) := by decide +kernel
theorem dX9_put_4 : decode cX9_put 4 = .ok (.getfield 90, 3) := by decide +kernel
theorem dX9_put_7 : decode cX9_put 7 = .ok (.bipush 18, 2) := by decide +kernel
theorem dX9_put_9 : decode cX9_put 9 = .ok (.iload_n 1, 1) := by decide +kernel
theorem dX9_put_10 : decode cX9_put 10 = .ok (.imul, 1) := by decide +kernel
theorem dX9_put_11 : decode cX9_put 11 = .ok (.iaload, 1) := by decide +kernel
theorem dX9_put_12 : decode cX9_put 12 = .ok (.istore 8, 2) := by decide +kernel
theorem dX9_put_14 : decode cX9_put 14 = .ok (.iconst 0, 1) := by decide +kernel
theorem dX9_put_15 : decode cX9_put 15 = .ok (.istore 9, 2) := by decide +kernel
theorem dX9_put_17 : decode cX9_put 17 = .ok (.iload 9, 2) := by decide +kernel
theorem dX9_put_19 : decode cX9_put 19 = .ok (.iload 8, 2) := by decide +kernel
theorem dX9_put_21 : decode cX9_put 21 = .ok (.if_icmp .gt 112, 3) := by decide +kernel
theorem dX9_put_24 : decode cX9_put 24 = .ok (.iload 9, 2) := by decide +kernel
theorem dX9_put_26 : decode cX9_put 26 = .ok (.iload_n 2, 1) := by decide +kernel
theorem dX9_put_27 : decode cX9_put 27 = .ok (.if_icmp .ne 55, 3) := by decide +kernel
theorem dX9_put_30 : decode cX9_put 30 = .ok (.aload_n 0, 1) := by decide +kernel
theorem dX9_put_31 : decode cX9_put 31 = .ok (.getfield 113, 3) := by decide +kernel
theorem dX9_put_34 : decode cX9_put 34 = .ok (.iconst 1, 1) := by decide +kernel
theorem dX9_put_35 : decode cX9_put 35 = .ok (.iload 7, 2) := by decide +kernel
theorem dX9_put_37 : decode cX9_put 37 = .ok (.iadd, 1) := by decide +kernel
theorem dX9_put_38 : decode cX9_put 38 = .ok (.iload 4, 2) := by decide +kernel
theorem dX9_put_40 : decode cX9_put 40 = .ok (.iastore, 1) := by decide +kernel
theorem dX9_put_41 : decode cX9_put 41 = .ok (.iload 7, 2) := by decide +kernel
theorem dX9_put_43 : decode cX9_put 43 = .ok (.iload 4, 2) := by decide +kernel
theorem dX9_put_45 : decode cX9_put 45 = .ok (.ifCond .ge 7, 3) := by decide +kernel
theorem dX9_put_48 : decode cX9_put 48 = .ok (.iconst 0, 1) := by decide +kernel
theorem dX9_put_49 : decode cX9_put 49 = .ok (.goto 4, 3) := by decide +kernel
theorem dX9_put_52 : decode cX9_put 52 = .ok (.iconst 1, 1) := by decide +kernel
theorem dX9_put_53 : decode cX9_put 53 = .ok (.iadd, 1) := by decide +kernel
theorem dX9_put_54 : decode cX9_put 54 = .ok (.istore 7, 2) := by decide +kernel
theorem dX9_put_56 : decode cX9_put 56 = .ok (.aload_n 0, 1) := by decide +kernel
theorem dX9_put_57 : decode cX9_put 57 = .ok (.getfield 113, 3) := by decide +kernel
theorem dX9_put_60 : decode cX9_put 60 = .ok (.iconst 1, 1) := by decide +kernel
theorem dX9_put_61 : decode cX9_put 61 = .ok (.iload 7, 2) := by decide +kernel
theorem dX9_put_63 : decode cX9_put 63 = .ok (.iadd, 1) := by decide +kernel
theorem dX9_put_64 : decode cX9_put 64 = .ok (.iload 5, 2) := by decide +kernel
theorem dX9_put_66 : decode cX9_put 66 = .ok (.iastore, 1) := by decide +kernel
theorem dX9_put_67 : decode cX9_put 67 = .ok (.iload 7, 2) := by decide +kernel
theorem dX9_put_69 : decode cX9_put 69 = .ok (.iload 5, 2) := by decide +kernel
theorem dX9_put_71 : decode cX9_put 71 = .ok (.ifCond .ge 7, 3) := by decide +kernel
theorem dX9_put_74 : decode cX9_put 74 = .ok (.iconst 0, 1) := by decide +kernel
theorem dX9_put_75 : decode cX9_put 75 = .ok (.goto 4, 3) := by decide +kernel
theorem dX9_put_78 : decode cX9_put 78 = .ok (.iconst 1, 1) := by decide +kernel
theorem dX9_put_79 : decode cX9_put 79 = .ok (.iadd, 1) := by decide +kernel
theorem dX9_put_80 : decode cX9_put 80 = .ok (.istore 7, 2) := by decide +kernel
theorem dX9_put_82 : decode cX9_put 82 = .ok (.iload 9, 2) := by decide +kernel
theorem dX9_put_84 : decode cX9_put 84 = .ok (.iload 8, 2) := by decide +kernel
theorem dX9_put_86 : decode cX9_put 86 = .ok (.if_icmp .ge 41, 3) := by decide +kernel
theorem dX9_put_89 : decode cX9_put 89 = .ok (.iload 9, 2) := by decide +kernel
theorem dX9_put_91 : decode cX9_put 91 = .ok (.iload_n 2, 1) := by decide +kernel
theorem dX9_put_92 : decode cX9_put 92 = .ok (.if_icmp .lt 9, 3) := by decide +kernel
theorem dX9_put_95 : decode cX9_put 95 = .ok (.iload 9, 2) := by decide +kernel
theorem dX9_put_97 : decode cX9_put 97 = .ok (.iload_n 3, 1) := by decide +kernel
theorem dX9_put_98 : decode cX9_put 98 = .ok (.if_icmp .lt 29, 3) := by decide +kernel
theorem dX9_put_101 : decode cX9_put 101 = .ok (.aload_n 0, 1) := by decide +kernel
theorem dX9_put_102 : decode cX9_put 102 = .ok (.getfield 113, 3) := by decide +kernel
theorem dX9_put_105 : decode cX9_put 105 = .ok (.iconst 1, 1) := by decide +kernel
theorem dX9_put_106 : decode cX9_put 106 = .ok (.iload 7, 2) := by decide +kernel
theorem dX9_put_108 : decode cX9_put 108 = .ok (.iadd, 1) := by decide +kernel
theorem dX9_put_109 : decode cX9_put 109 = .ok (.aload_n 0, 1) := by decide +kernel
theorem dX9_put_110 : decode cX9_put 110 = .ok (.getfield 90, 3) := by decide +kernel
theorem dX9_put_113 : decode cX9_put 113 = .ok (.bipush 18, 2) := by decide +kernel
theorem dX9_put_115 : decode cX9_put 115 = .ok (.iload_n 1, 1) := by decide +kernel
theorem dX9_put_116 : decode cX9_put 116 = .ok (.imul, 1) := by decide +kernel
theorem dX9_put_117 : decode cX9_put 117 = .ok (.iconst 1, 1) := by decide +kernel
theorem dX9_put_118 : decode cX9_put 118 = .ok (.iadd, 1) := by decide +kernel
theorem dX9_put_119 : decode cX9_put 119 = .ok (.iload 9, 2) := by decide +kernel
theorem dX9_put_121 : decode cX9_put 121 = .ok (.iadd, 1) := by decide +kernel
theorem dX9_put_122 : decode cX9_put 122 = .ok (.iaload, 1) := by decide +kernel
theorem dX9_put_123 : decode cX9_put 123 = .ok (.iastore, 1) := by decide +kernel
theorem dX9_put_124 : decode cX9_put 124 = .ok (.iinc 7 1, 3) := by decide +kernel
theorem dX9_put_127 : decode cX9_put 127 = .ok (.iinc 9 1, 3) := by decide +kernel
theorem dX9_put_130 : decode cX9_put 130 = .ok (.goto (-113), 3) := by decide +kernel
theorem dX9_put_133 : decode cX9_put 133 = .ok (.aload_n 0, 1) := by decide +kernel
theorem dX9_put_134 : decode cX9_put 134 = .ok (.getfield 113, 3) := by decide +kernel
theorem dX9_put_137 : decode cX9_put 137 = .ok (.iconst 0, 1) := by decide +kernel
theorem dX9_put_138 : decode cX9_put 138 = .ok (.iload 7, 2) := by decide +kernel
theorem dX9_put_140 : decode cX9_put 140 = .ok (.iastore, 1) := by decide +kernel
theorem dX9_put_141 : decode cX9_put 141 = .ok (.aload_n 0, 1) := by decide +kernel
theorem dX9_put_142 : decode cX9_put 142 = .ok (.getfield 113, 3) := by decide +kernel
theorem dX9_put_145 : decode cX9_put 145 = .ok (.bipush 17, 2) := by decide +kernel
theorem dX9_put_147 : decode cX9_put 147 = .ok (.iload 6, 2) := by decide +kernel
theorem dX9_put_149 : decode cX9_put 149 = .ok (.iastore, 1) := by decide +kernel
theorem dX9_put_150 : decode cX9_put 150 = .ok (.aload_n 0, 1) := by decide +kernel
theorem dX9_put_151 : decode cX9_put 151 = .ok (.invokevirtual 197, 3) := by decide +kernel
theorem dX9_put_154 : decode cX9_put 154 = .ok (.ireturn, 1) := by decide +kernel
theorem dX9_adds_0 : decode cX9_adds 0 = .ok (.aload_n 0, 1) := by decide +kernel
theorem dX9_adds_1 : decode cX9_adds 1 = .ok (.getfield 201, 3) := by decide +kernel
theorem dX9_adds_4 : decode cX9_adds 4 = .ok (.ifCond .ne 77, 3) := by decide +kernel
theorem dX9_adds_7 : decode cX9_adds 7 = .ok (.aload_n 0, 1) := by decide +kernel
theorem dX9_adds_8 : decode cX9_adds 8 = .ok (.getfield 97, 3) := by decide +kernel
theorem dX9_adds_11 : decode cX9_adds 11 = .ok (.iload_n 1, 1) := by decide +kernel
theorem dX9_adds_12 : decode cX9_adds 12 = .ok (.dup2, 1) := by decide +kernel
theorem dX9_adds_13 : decode cX9_adds 13 = .ok (.baload, 1) := by decide +kernel
theorem dX9_adds_14 : decode cX9_adds 14 = .ok (.aload_n 0, 1) := by decide +kernel
theorem dX9_adds_15 : decode cX9_adds 15 = .ok (.getfield 97, 3) := by decide +kernel
theorem dX9_adds_18 : decode cX9_adds 18 = .ok (.iload_n 2, 1) := by decide +kernel
theorem dX9_adds_19 : decode cX9_adds 19 = .ok (.baload, 1) := by decide +kernel
theorem dX9_adds_20 : decode cX9_adds 20 = .ok (.ifCond .eq 20, 3) := by decide +kernel
theorem dX9_adds_23 : decode cX9_adds 23 = .ok (.iload_n 3, 1) := by decide +kernel
theorem dX9_adds_24 : decode cX9_adds 24 = .ok (.ifCond .lt 12, 3) := by decide +kernel
theorem dX9_adds_27 : decode cX9_adds 27 = .ok (.aload_n 0, 1) := by decide +kernel
theorem dX9_adds_28 : decode cX9_adds 28 = .ok (.getfield 97, 3) := by decide +kernel
theorem dX9_adds_31 : decode cX9_adds 31 = .ok (.iload_n 3, 1) := by decide +kernel
theorem dX9_adds_32 : decode cX9_adds 32 = .ok (.baload, 1) := by decide +kernel
theorem dX9_adds_33 : decode cX9_adds 33 = .ok (.ifCond .eq 7, 3) := by decide +kernel
theorem dX9_adds_36 : decode cX9_adds 36 = .ok (.iconst 1, 1) := by decide +kernel
theorem dX9_adds_37 : decode cX9_adds 37 = .ok (.goto 4, 3) := by decide +kernel
theorem dX9_adds_40 : decode cX9_adds 40 = .ok (.iconst 0, 1) := by decide +kernel
theorem dX9_adds_41 : decode cX9_adds 41 = .ok (.ior, 1) := by decide +kernel
theorem dX9_adds_42 : decode cX9_adds 42 = .ok (.bastore, 1) := by decide +kernel
theorem dX9_adds_43 : decode cX9_adds 43 = .ok (.aload_n 0, 1) := by decide +kernel
theorem dX9_adds_44 : decode cX9_adds 44 = .ok (.getfield 93, 3) := by decide +kernel
theorem dX9_adds_47 : decode cX9_adds 47 = .ok (.iload_n 1, 1) := by decide +kernel
theorem dX9_adds_48 : decode cX9_adds 48 = .ok (.aload_n 0, 1) := by decide +kernel
theorem dX9_adds_49 : decode cX9_adds 49 = .ok (.getfield 93, 3) := by decide +kernel
theorem dX9_adds_52 : decode cX9_adds 52 = .ok (.iload_n 1, 1) := by decide +kernel
theorem dX9_adds_53 : decode cX9_adds 53 = .ok (.laload, 1) := by decide +kernel
theorem dX9_adds_54 : decode cX9_adds 54 = .ok (.aload_n 0, 1) := by decide +kernel
theorem dX9_adds_55 : decode cX9_adds 55 = .ok (.getfield 93, 3) := by decide +kernel
theorem dX9_adds_58 : decode cX9_adds 58 = .ok (.iload_n 2, 1) := by decide +kernel
theorem dX9_adds_59 : decode cX9_adds 59 = .ok (.laload, 1) := by decide +kernel
theorem dX9_adds_60 : decode cX9_adds 60 = .ok (.iload_n 3, 1) := by decide +kernel
theorem dX9_adds_61 : decode cX9_adds 61 = .ok (.ifCond .ge 7, 3) := by decide +kernel
theorem dX9_adds_64 : decode cX9_adds 64 = .ok (.lconst 1, 1) := by decide +kernel
theorem dX9_adds_65 : decode cX9_adds 65 = .ok (.goto 9, 3) := by decide +kernel
theorem dX9_adds_68 : decode cX9_adds 68 = .ok (.aload_n 0, 1) := by decide +kernel
theorem dX9_adds_69 : decode cX9_adds 69 = .ok (.getfield 93, 3) := by decide +kernel
theorem dX9_adds_72 : decode cX9_adds 72 = .ok (.iload_n 3, 1) := by decide +kernel
theorem dX9_adds_73 : decode cX9_adds 73 = .ok (.laload, 1) := by decide +kernel
theorem dX9_adds_74 : decode cX9_adds 74 = .ok (.lmul, 1) := by decide +kernel
theorem dX9_adds_75 : decode cX9_adds 75 = .ok (.ladd, 1) := by decide +kernel
theorem dX9_adds_76 : decode cX9_adds 76 = .ok (.ldc2_w 205, 3) := by decide +kernel
theorem dX9_adds_79 : decode cX9_adds 79 = .ok (.lrem, 1) := by decide +kernel
theorem dX9_adds_80 : decode cX9_adds 80 = .ok (.lastore, 1) := by decide +kernel
theorem dX9_adds_81 : decode cX9_adds 81 = .ok (.return_, 1) := by decide +kernel
theorem dX9_proves_0 : decode cX9_proves 0 = .ok (.aload_n 0, 1) := by decide +kernel
theorem dX9_proves_1 : decode cX9_proves 1 = .ok (.getfield 90, 3) := by decide +kernel
theorem dX9_proves_4 : decode cX9_proves 4 = .ok (.bipush 18, 2) := by decide +kernel
theorem dX9_proves_6 : decode cX9_proves 6 = .ok (.iload_n 1, 1) := by decide +kernel
theorem dX9_proves_7 : decode cX9_proves 7 = .ok (.imul, 1) := by decide +kernel
theorem dX9_proves_8 : decode cX9_proves 8 = .ok (.iaload, 1) := by decide +kernel
theorem dX9_proves_9 : decode cX9_proves 9 = .ok (.istore_n 2, 1) := by decide +kernel
theorem dX9_proves_10 : decode cX9_proves 10 = .ok (.aload_n 0, 1) := by decide +kernel
theorem dX9_proves_11 : decode cX9_proves 11 = .ok (.getfield 90, 3) := by decide +kernel
theorem dX9_proves_14 : decode cX9_proves 14 = .ok (.bipush 18, 2) := by decide +kernel
theorem dX9_proves_16 : decode cX9_proves 16 = .ok (.iload_n 1, 1) := by decide +kernel
theorem dX9_proves_17 : decode cX9_proves 17 = .ok (.imul, 1) := by decide +kernel
theorem dX9_proves_18 : decode cX9_proves 18 = .ok (.bipush 17, 2) := by decide +kernel
theorem dX9_proves_20 : decode cX9_proves 20 = .ok (.iadd, 1) := by decide +kernel
theorem dX9_proves_21 : decode cX9_proves 21 = .ok (.iaload, 1) := by decide +kernel
theorem dX9_proves_22 : decode cX9_proves 22 = .ok (.istore_n 3, 1) := by decide +kernel
theorem dX9_proves_23 : decode cX9_proves 23 = .ok (.aload_n 0, 1) := by decide +kernel
theorem dX9_proves_24 : decode cX9_proves 24 = .ok (.getfield 64, 3) := by decide +kernel
theorem dX9_proves_27 : decode cX9_proves 27 = .ok (.iload_n 3, 1) := by decide +kernel
theorem dX9_proves_28 : decode cX9_proves 28 = .ok (.iaload, 1) := by decide +kernel
theorem dX9_proves_29 : decode cX9_proves 29 = .ok (.istore 4, 2) := by decide +kernel
theorem dX9_proves_31 : decode cX9_proves 31 = .ok (.aload_n 0, 1) := by decide +kernel
theorem dX9_proves_32 : decode cX9_proves 32 = .ok (.getfield 67, 3) := by decide +kernel
theorem dX9_proves_35 : decode cX9_proves 35 = .ok (.iload_n 3, 1) := by decide +kernel
theorem dX9_proves_36 : decode cX9_proves 36 = .ok (.iaload, 1) := by decide +kernel
theorem dX9_proves_37 : decode cX9_proves 37 = .ok (.istore 5, 2) := by decide +kernel
theorem dX9_proves_39 : decode cX9_proves 39 = .ok (.aload_n 0, 1) := by decide +kernel
theorem dX9_proves_40 : decode cX9_proves 40 = .ok (.getfield 70, 3) := by decide +kernel
theorem dX9_proves_43 : decode cX9_proves 43 = .ok (.iload_n 3, 1) := by decide +kernel
theorem dX9_proves_44 : decode cX9_proves 44 = .ok (.iaload, 1) := by decide +kernel
theorem dX9_proves_45 : decode cX9_proves 45 = .ok (.istore 6, 2) := by decide +kernel
theorem dX9_proves_47 : decode cX9_proves 47 = .ok (.aload_n 0, 1) := by decide +kernel
theorem dX9_proves_48 : decode cX9_proves 48 = .ok (.getfield 207, 3) := by decide +kernel
theorem dX9_proves_51 : decode cX9_proves 51 = .ok (.ifCond .eq 7, 3) := by decide +kernel
theorem dX9_proves_54 : decode cX9_proves 54 = .ok (.iconst 0, 1) := by decide +kernel
theorem dX9_proves_55 : decode cX9_proves 55 = .ok (.goto 4, 3) := by decide +kernel
theorem dX9_proves_58 : decode cX9_proves 58 = .ok (.iconst 1, 1) := by decide +kernel
theorem dX9_proves_59 : decode cX9_proves 59 = .ok (.istore 7, 2) := by decide +kernel
theorem dX9_proves_61 : decode cX9_proves 61 = .ok (.aload_n 0, 1) := by decide +kernel
theorem dX9_proves_62 : decode cX9_proves 62 = .ok (.getfield 97, 3) := by decide +kernel
theorem dX9_proves_65 : decode cX9_proves 65 = .ok (.iload_n 1, 1) := by decide +kernel
theorem dX9_proves_66 : decode cX9_proves 66 = .ok (.iload 4, 2) := by decide +kernel
theorem dX9_proves_68 : decode cX9_proves 68 = .ok (.bipush 8, 2) := by decide +kernel
theorem dX9_proves_70 : decode cX9_proves 70 = .ok (.if_icmp .ge 33, 3) := by decide +kernel
theorem dX9_proves_73 : decode cX9_proves 73 = .ok (.iload_n 2, 1) := by decide +kernel
theorem dX9_proves_74 : decode cX9_proves 74 = .ok (.iconst 1, 1) := by decide +kernel
theorem dX9_proves_75 : decode cX9_proves 75 = .ok (.if_icmp .ne 28, 3) := by decide +kernel
theorem dX9_proves_78 : decode cX9_proves 78 = .ok (.aload_n 0, 1) := by decide +kernel
theorem dX9_proves_79 : decode cX9_proves 79 = .ok (.getfield 64, 3) := by decide +kernel
theorem dX9_proves_82 : decode cX9_proves 82 = .ok (.aload_n 0, 1) := by decide +kernel
theorem dX9_proves_83 : decode cX9_proves 83 = .ok (.getfield 90, 3) := by decide +kernel
theorem dX9_proves_86 : decode cX9_proves 86 = .ok (.bipush 18, 2) := by decide +kernel
theorem dX9_proves_88 : decode cX9_proves 88 = .ok (.iload_n 1, 1) := by decide +kernel
theorem dX9_proves_89 : decode cX9_proves 89 = .ok (.imul, 1) := by decide +kernel
theorem dX9_proves_90 : decode cX9_proves 90 = .ok (.iconst 1, 1) := by decide +kernel
theorem dX9_proves_91 : decode cX9_proves 91 = .ok (.iadd, 1) := by decide +kernel
theorem dX9_proves_92 : decode cX9_proves 92 = .ok (.iaload, 1) := by decide +kernel
theorem dX9_proves_93 : decode cX9_proves 93 = .ok (.iaload, 1) := by decide +kernel
theorem dX9_proves_94 : decode cX9_proves 94 = .ok (.iload 4, 2) := by decide +kernel
theorem dX9_proves_96 : decode cX9_proves 96 = .ok (.if_icmp .ne 7, 3) := by decide +kernel
theorem dX9_proves_99 : decode cX9_proves 99 = .ok (.iconst 1, 1) := by decide +kernel
theorem dX9_proves_100 : decode cX9_proves 100 = .ok (.goto 4, 3) := by decide +kernel
theorem dX9_proves_103 : decode cX9_proves 103 = .ok (.iconst 0, 1) := by decide +kernel
theorem dX9_proves_104 : decode cX9_proves 104 = .ok (.bastore, 1) := by decide +kernel
theorem dX9_proves_105 : decode cX9_proves 105 = .ok (.aload_n 0, 1) := by decide +kernel
theorem dX9_proves_106 : decode cX9_proves 106 = .ok (.getfield 93, 3) := by decide +kernel
theorem dX9_proves_109 : decode cX9_proves 109 = .ok (.iload_n 1, 1) := by decide +kernel
theorem dX9_proves_110 : decode cX9_proves 110 = .ok (.aload_n 0, 1) := by decide +kernel
theorem dX9_proves_111 : decode cX9_proves 111 = .ok (.getfield 97, 3) := by decide +kernel
theorem dX9_proves_114 : decode cX9_proves 114 = .ok (.iload_n 1, 1) := by decide +kernel
theorem dX9_proves_115 : decode cX9_proves 115 = .ok (.baload, 1) := by decide +kernel
theorem dX9_proves_116 : decode cX9_proves 116 = .ok (.ifCond .eq 7, 3) := by decide +kernel
theorem dX9_proves_119 : decode cX9_proves 119 = .ok (.lconst 1, 1) := by decide +kernel
theorem dX9_proves_120 : decode cX9_proves 120 = .ok (.goto 4, 3) := by decide +kernel
theorem dX9_proves_123 : decode cX9_proves 123 = .ok (.lconst 0, 1) := by decide +kernel
theorem dX9_proves_124 : decode cX9_proves 124 = .ok (.lastore, 1) := by decide +kernel
theorem dX9_proves_125 : decode cX9_proves 125 = .ok (.iload 4, 2) := by decide +kernel
theorem dX9_proves_127 : decode cX9_proves 127 = .ok (.bipush 47, 2) := by decide +kernel
theorem dX9_proves_129 : decode cX9_proves 129 = .ok (.if_icmp .ne 30, 3) := by decide +kernel
theorem dX9_proves_132 : decode cX9_proves 132 = .ok (.iload_n 2, 1) := by decide +kernel
theorem dX9_proves_133 : decode cX9_proves 133 = .ok (.iload 7, 2) := by decide +kernel
theorem dX9_proves_135 : decode cX9_proves 135 = .ok (.if_icmp .lt 24, 3) := by decide +kernel
theorem dX9_proves_138 : decode cX9_proves 138 = .ok (.aload_n 0, 1) := by decide +kernel
theorem dX9_proves_139 : decode cX9_proves 139 = .ok (.iload_n 1, 1) := by decide +kernel
theorem dX9_proves_140 : decode cX9_proves 140 = .ok (.aload_n 0, 1) := by decide +kernel
theorem dX9_proves_141 : decode cX9_proves 141 = .ok (.iload_n 1, 1) := by decide +kernel
theorem dX9_proves_142 : decode cX9_proves 142 = .ok (.iload_n 2, 1) := by decide +kernel
theorem dX9_proves_143 : decode cX9_proves 143 = .ok (.iload_n 2, 1) := by decide +kernel
theorem dX9_proves_144 : decode cX9_proves 144 = .ok (.iload 6, 2) := by decide +kernel
theorem dX9_proves_146 : decode cX9_proves 146 = .ok (.iconst (-1), 1) := by decide +kernel
theorem dX9_proves_147 : decode cX9_proves 147 = .ok (.iload 5, 2) := by decide +kernel
theorem dX9_proves_149 : decode cX9_proves 149 = .ok (.invokevirtual 210, 3) := by decide +kernel
theorem dX9_proves_152 : decode cX9_proves 152 = .ok (.iconst (-1), 1) := by decide +kernel
theorem dX9_proves_153 : decode cX9_proves 153 = .ok (.invokevirtual 214, 3) := by decide +kernel
theorem dX9_proves_156 : decode cX9_proves 156 = .ok (.goto 92, 3) := by decide +kernel
theorem dX9_proves_159 : decode cX9_proves 159 = .ok (.iload 4, 2) := by decide +kernel
theorem dX9_proves_161 : decode cX9_proves 161 = .ok (.bipush 92, 2) := by decide +kernel
theorem dX9_proves_163 : decode cX9_proves 163 = .ok (.if_icmp .ne 30, 3) := by decide +kernel
theorem dX9_proves_166 : decode cX9_proves 166 = .ok (.iload_n 2, 1) := by decide +kernel
theorem dX9_proves_167 : decode cX9_proves 167 = .ok (.iload 7, 2) := by decide +kernel
theorem dX9_proves_169 : decode cX9_proves 169 = .ok (.if_icmp .lt 24, 3) := by decide +kernel
theorem dX9_proves_172 : decode cX9_proves 172 = .ok (.aload_n 0, 1) := by decide +kernel
theorem dX9_proves_173 : decode cX9_proves 173 = .ok (.iload_n 1, 1) := by decide +kernel
theorem dX9_proves_174 : decode cX9_proves 174 = .ok (.aload_n 0, 1) := by decide +kernel
theorem dX9_proves_175 : decode cX9_proves 175 = .ok (.iload_n 1, 1) := by decide +kernel
theorem dX9_proves_176 : decode cX9_proves 176 = .ok (.iconst 0, 1) := by decide +kernel
theorem dX9_proves_177 : decode cX9_proves 177 = .ok (.iconst 0, 1) := by decide +kernel
theorem dX9_proves_178 : decode cX9_proves 178 = .ok (.iload 5, 2) := by decide +kernel
theorem dX9_proves_180 : decode cX9_proves 180 = .ok (.iconst (-1), 1) := by decide +kernel
theorem dX9_proves_181 : decode cX9_proves 181 = .ok (.iload 6, 2) := by decide +kernel
theorem dX9_proves_183 : decode cX9_proves 183 = .ok (.invokevirtual 210, 3) := by decide +kernel
theorem dX9_proves_186 : decode cX9_proves 186 = .ok (.iconst (-1), 1) := by decide +kernel
theorem dX9_proves_187 : decode cX9_proves 187 = .ok (.invokevirtual 214, 3) := by decide +kernel
theorem dX9_proves_190 : decode cX9_proves 190 = .ok (.goto 58, 3) := by decide +kernel
theorem dX9_proves_193 : decode cX9_proves 193 = .ok (.iload 4, 2) := by decide +kernel
theorem dX9_proves_195 : decode cX9_proves 195 = .ok (.bipush 42, 2) := by decide +kernel
theorem dX9_proves_197 : decode cX9_proves 197 = .ok (.if_icmp .ne 51, 3) := by decide +kernel
theorem dX9_proves_200 : decode cX9_proves 200 = .ok (.iload 7, 2) := by decide +kernel
theorem dX9_proves_202 : decode cX9_proves 202 = .ok (.istore 8, 2) := by decide +kernel
theorem dX9_proves_204 : decode cX9_proves 204 = .ok (.iload 8, 2) := by decide +kernel
theorem dX9_proves_206 : decode cX9_proves 206 = .ok (.iload_n 2, 1) := by decide +kernel
theorem dX9_proves_207 : decode cX9_proves 207 = .ok (.iload 7, 2) := by decide +kernel
theorem dX9_proves_209 : decode cX9_proves 209 = .ok (.isub, 1) := by decide +kernel
theorem dX9_proves_210 : decode cX9_proves 210 = .ok (.if_icmp .gt 38, 3) := by decide +kernel
theorem dX9_proves_213 : decode cX9_proves 213 = .ok (.aload_n 0, 1) := by decide +kernel
theorem dX9_proves_214 : decode cX9_proves 214 = .ok (.iload_n 1, 1) := by decide +kernel
theorem dX9_proves_215 : decode cX9_proves 215 = .ok (.iconst 0, 1) := by decide +kernel
theorem dX9_proves_216 : decode cX9_proves 216 = .ok (.iload 8, 2) := by decide +kernel
theorem dX9_proves_218 : decode cX9_proves 218 = .ok (.iload 5, 2) := by decide +kernel
theorem dX9_proves_220 : decode cX9_proves 220 = .ok (.invokevirtual 218, 3) := by decide +kernel
theorem dX9_proves_223 : decode cX9_proves 223 = .ok (.istore 9, 2) := by decide +kernel
theorem dX9_proves_225 : decode cX9_proves 225 = .ok (.aload_n 0, 1) := by decide +kernel
theorem dX9_proves_226 : decode cX9_proves 226 = .ok (.iload_n 1, 1) := by decide +kernel
theorem dX9_proves_227 : decode cX9_proves 227 = .ok (.iload 9, 2) := by decide +kernel
theorem dX9_proves_229 : decode cX9_proves 229 = .ok (.aload_n 0, 1) := by decide +kernel
theorem dX9_proves_230 : decode cX9_proves 230 = .ok (.iload_n 1, 1) := by decide +kernel
theorem dX9_proves_231 : decode cX9_proves 231 = .ok (.iload 8, 2) := by decide +kernel
theorem dX9_proves_233 : decode cX9_proves 233 = .ok (.iload_n 2, 1) := by decide +kernel
theorem dX9_proves_234 : decode cX9_proves 234 = .ok (.iload 6, 2) := by decide +kernel
theorem dX9_proves_236 : decode cX9_proves 236 = .ok (.invokevirtual 218, 3) := by decide +kernel
theorem dX9_proves_239 : decode cX9_proves 239 = .ok (.invokevirtual 214, 3) := by decide +kernel
theorem dX9_proves_242 : decode cX9_proves 242 = .ok (.iinc 8 1, 3) := by decide +kernel
theorem dX9_proves_245 : decode cX9_proves 245 = .ok (.goto (-41), 3) := by decide +kernel
theorem dX9_proves_248 : decode cX9_proves 248 = .ok (.iconst 0, 1) := by decide +kernel
theorem dX9_proves_249 : decode cX9_proves 249 = .ok (.istore 8, 2) := by decide +kernel
theorem dX9_proves_251 : decode cX9_proves 251 = .ok (.iload 8, 2) := by decide +kernel
theorem dX9_proves_253 : decode cX9_proves 253 = .ok (.iload_n 2, 1) := by decide +kernel
theorem dX9_proves_254 : decode cX9_proves 254 = .ok (.if_icmp .ge 223, 3) := by decide +kernel
theorem dX9_proves_257 : decode cX9_proves 257 = .ok (.aload_n 0, 1) := by decide +kernel
theorem dX9_proves_258 : decode cX9_proves 258 = .ok (.getfield 90, 3) := by decide +kernel
theorem dX9_proves_261 : decode cX9_proves 261 = .ok (.bipush 18, 2) := by decide +kernel
theorem dX9_proves_263 : decode cX9_proves 263 = .ok (.iload_n 1, 1) := by decide +kernel
theorem dX9_proves_264 : decode cX9_proves 264 = .ok (.imul, 1) := by decide +kernel
theorem dX9_proves_265 : decode cX9_proves 265 = .ok (.iconst 1, 1) := by decide +kernel
theorem dX9_proves_266 : decode cX9_proves 266 = .ok (.iadd, 1) := by decide +kernel
theorem dX9_proves_267 : decode cX9_proves 267 = .ok (.iload 8, 2) := by decide +kernel
theorem dX9_proves_269 : decode cX9_proves 269 = .ok (.iadd, 1) := by decide +kernel
theorem dX9_proves_270 : decode cX9_proves 270 = .ok (.iaload, 1) := by decide +kernel
theorem dX9_proves_271 : decode cX9_proves 271 = .ok (.istore 9, 2) := by decide +kernel
theorem dX9_proves_273 : decode cX9_proves 273 = .ok (.aload_n 0, 1) := by decide +kernel
theorem dX9_proves_274 : decode cX9_proves 274 = .ok (.getfield 64, 3) := by decide +kernel
theorem dX9_proves_277 : decode cX9_proves 277 = .ok (.iload 9, 2) := by decide +kernel
theorem dX9_proves_279 : decode cX9_proves 279 = .ok (.iaload, 1) := by decide +kernel
theorem dX9_proves_280 : decode cX9_proves 280 = .ok (.istore 10, 2) := by decide +kernel
theorem dX9_proves_282 : decode cX9_proves 282 = .ok (.aload_n 0, 1) := by decide +kernel
theorem dX9_proves_283 : decode cX9_proves 283 = .ok (.getfield 67, 3) := by decide +kernel
theorem dX9_proves_286 : decode cX9_proves 286 = .ok (.iload 9, 2) := by decide +kernel
theorem dX9_proves_288 : decode cX9_proves 288 = .ok (.iaload, 1) := by decide +kernel
theorem dX9_proves_289 : decode cX9_proves 289 = .ok (.istore 11, 2) := by decide +kernel
theorem dX9_proves_291 : decode cX9_proves 291 = .ok (.aload_n 0, 1) := by decide +kernel
theorem dX9_proves_292 : decode cX9_proves 292 = .ok (.getfield 70, 3) := by decide +kernel
theorem dX9_proves_295 : decode cX9_proves 295 = .ok (.iload 9, 2) := by decide +kernel
theorem dX9_proves_297 : decode cX9_proves 297 = .ok (.iaload, 1) := by decide +kernel
theorem dX9_proves_298 : decode cX9_proves 298 = .ok (.istore 12, 2) := by decide +kernel
theorem dX9_proves_300 : decode cX9_proves 300 = .ok (.iload 10, 2) := by decide +kernel
theorem dX9_proves_302 : decode cX9_proves 302 = .ok (.bipush 47, 2) := by decide +kernel
theorem dX9_proves_304 : decode cX9_proves 304 = .ok (.if_icmp .ne 70, 3) := by decide +kernel
theorem dX9_proves_307 : decode cX9_proves 307 = .ok (.iload 7, 2) := by decide +kernel
theorem dX9_proves_309 : decode cX9_proves 309 = .ok (.istore 13, 2) := by decide +kernel
theorem dX9_proves_311 : decode cX9_proves 311 = .ok (.iload 8, 2) := by decide +kernel
theorem dX9_proves_313 : decode cX9_proves 313 = .ok (.iload 13, 2) := by decide +kernel
theorem dX9_proves_315 : decode cX9_proves 315 = .ok (.iadd, 1) := by decide +kernel
theorem dX9_proves_316 : decode cX9_proves 316 = .ok (.iload_n 2, 1) := by decide +kernel
theorem dX9_proves_317 : decode cX9_proves 317 = .ok (.if_icmp .ge 54, 3) := by decide +kernel
theorem dX9_proves_320 : decode cX9_proves 320 = .ok (.aload_n 0, 1) := by decide +kernel
theorem dX9_proves_321 : decode cX9_proves 321 = .ok (.iload_n 1, 1) := by decide +kernel
theorem dX9_proves_322 : decode cX9_proves 322 = .ok (.iload 8, 2) := by decide +kernel
theorem dX9_proves_324 : decode cX9_proves 324 = .ok (.iconst 1, 1) := by decide +kernel
theorem dX9_proves_325 : decode cX9_proves 325 = .ok (.iadd, 1) := by decide +kernel
theorem dX9_proves_326 : decode cX9_proves 326 = .ok (.iload 8, 2) := by decide +kernel
theorem dX9_proves_328 : decode cX9_proves 328 = .ok (.iconst 1, 1) := by decide +kernel
theorem dX9_proves_329 : decode cX9_proves 329 = .ok (.iadd, 1) := by decide +kernel
theorem dX9_proves_330 : decode cX9_proves 330 = .ok (.iload 13, 2) := by decide +kernel
theorem dX9_proves_332 : decode cX9_proves 332 = .ok (.iadd, 1) := by decide +kernel
theorem dX9_proves_333 : decode cX9_proves 333 = .ok (.iload 12, 2) := by decide +kernel
theorem dX9_proves_335 : decode cX9_proves 335 = .ok (.invokevirtual 218, 3) := by decide +kernel
theorem dX9_proves_338 : decode cX9_proves 338 = .ok (.istore 14, 2) := by decide +kernel
theorem dX9_proves_340 : decode cX9_proves 340 = .ok (.aload_n 0, 1) := by decide +kernel
theorem dX9_proves_341 : decode cX9_proves 341 = .ok (.iload_n 1, 1) := by decide +kernel
theorem dX9_proves_342 : decode cX9_proves 342 = .ok (.iload 14, 2) := by decide +kernel
theorem dX9_proves_344 : decode cX9_proves 344 = .ok (.aload_n 0, 1) := by decide +kernel
theorem dX9_proves_345 : decode cX9_proves 345 = .ok (.iload_n 1, 1) := by decide +kernel
theorem dX9_proves_346 : decode cX9_proves 346 = .ok (.iload 8, 2) := by decide +kernel
theorem dX9_proves_348 : decode cX9_proves 348 = .ok (.iload 8, 2) := by decide +kernel
theorem dX9_proves_350 : decode cX9_proves 350 = .ok (.iconst 1, 1) := by decide +kernel
theorem dX9_proves_351 : decode cX9_proves 351 = .ok (.iadd, 1) := by decide +kernel
theorem dX9_proves_352 : decode cX9_proves 352 = .ok (.iload 13, 2) := by decide +kernel
theorem dX9_proves_354 : decode cX9_proves 354 = .ok (.iadd, 1) := by decide +kernel
theorem dX9_proves_355 : decode cX9_proves 355 = .ok (.iload 11, 2) := by decide +kernel
theorem dX9_proves_357 : decode cX9_proves 357 = .ok (.iconst (-1), 1) := by decide +kernel
theorem dX9_proves_358 : decode cX9_proves 358 = .ok (.iload_n 3, 1) := by decide +kernel
theorem dX9_proves_359 : decode cX9_proves 359 = .ok (.invokevirtual 210, 3) := by decide +kernel
theorem dX9_proves_362 : decode cX9_proves 362 = .ok (.invokevirtual 214, 3) := by decide +kernel
theorem dX9_proves_365 : decode cX9_proves 365 = .ok (.iinc 13 1, 3) := by decide +kernel
theorem dX9_proves_368 : decode cX9_proves 368 = .ok (.goto (-57), 3) := by decide +kernel
theorem dX9_proves_371 : decode cX9_proves 371 = .ok (.goto 100, 3) := by decide +kernel
theorem dX9_proves_374 : decode cX9_proves 374 = .ok (.iload 10, 2) := by decide +kernel
theorem dX9_proves_376 : decode cX9_proves 376 = .ok (.bipush 92, 2) := by decide +kernel
theorem dX9_proves_378 : decode cX9_proves 378 = .ok (.if_icmp .ne 64, 3) := by decide +kernel
theorem dX9_proves_381 : decode cX9_proves 381 = .ok (.iload 7, 2) := by decide +kernel
theorem dX9_proves_383 : decode cX9_proves 383 = .ok (.istore 13, 2) := by decide +kernel
theorem dX9_proves_385 : decode cX9_proves 385 = .ok (.iload 13, 2) := by decide +kernel
theorem dX9_proves_387 : decode cX9_proves 387 = .ok (.iload 8, 2) := by decide +kernel
theorem dX9_proves_389 : decode cX9_proves 389 = .ok (.if_icmp .gt 50, 3) := by decide +kernel
theorem dX9_proves_392 : decode cX9_proves 392 = .ok (.aload_n 0, 1) := by decide +kernel
theorem dX9_proves_393 : decode cX9_proves 393 = .ok (.iload_n 1, 1) := by decide +kernel
theorem dX9_proves_394 : decode cX9_proves 394 = .ok (.iload 8, 2) := by decide +kernel
theorem dX9_proves_396 : decode cX9_proves 396 = .ok (.iload 13, 2) := by decide +kernel
theorem dX9_proves_398 : decode cX9_proves 398 = .ok (.isub, 1) := by decide +kernel
theorem dX9_proves_399 : decode cX9_proves 399 = .ok (.iload 8, 2) := by decide +kernel
theorem dX9_proves_401 : decode cX9_proves 401 = .ok (.iload 11, 2) := by decide +kernel
theorem dX9_proves_403 : decode cX9_proves 403 = .ok (.invokevirtual 218, 3) := by decide +kernel
theorem dX9_proves_406 : decode cX9_proves 406 = .ok (.istore 14, 2) := by decide +kernel
theorem dX9_proves_408 : decode cX9_proves 408 = .ok (.aload_n 0, 1) := by decide +kernel
theorem dX9_proves_409 : decode cX9_proves 409 = .ok (.iload_n 1, 1) := by decide +kernel
theorem dX9_proves_410 : decode cX9_proves 410 = .ok (.iload 14, 2) := by decide +kernel
theorem dX9_proves_412 : decode cX9_proves 412 = .ok (.aload_n 0, 1) := by decide +kernel
theorem dX9_proves_413 : decode cX9_proves 413 = .ok (.iload_n 1, 1) := by decide +kernel
theorem dX9_proves_414 : decode cX9_proves 414 = .ok (.iload 8, 2) := by decide +kernel
theorem dX9_proves_416 : decode cX9_proves 416 = .ok (.iload 13, 2) := by decide +kernel
theorem dX9_proves_418 : decode cX9_proves 418 = .ok (.isub, 1) := by decide +kernel
theorem dX9_proves_419 : decode cX9_proves 419 = .ok (.iload 8, 2) := by decide +kernel
theorem dX9_proves_421 : decode cX9_proves 421 = .ok (.iconst 1, 1) := by decide +kernel
theorem dX9_proves_422 : decode cX9_proves 422 = .ok (.iadd, 1) := by decide +kernel
theorem dX9_proves_423 : decode cX9_proves 423 = .ok (.iload 12, 2) := by decide +kernel
theorem dX9_proves_425 : decode cX9_proves 425 = .ok (.iconst (-1), 1) := by decide +kernel
theorem dX9_proves_426 : decode cX9_proves 426 = .ok (.iload_n 3, 1) := by decide +kernel
theorem dX9_proves_427 : decode cX9_proves 427 = .ok (.invokevirtual 210, 3) := by decide +kernel
theorem dX9_proves_430 : decode cX9_proves 430 = .ok (.invokevirtual 214, 3) := by decide +kernel
theorem dX9_proves_433 : decode cX9_proves 433 = .ok (.iinc 13 1, 3) := by decide +kernel
theorem dX9_proves_436 : decode cX9_proves 436 = .ok (.goto (-51), 3) := by decide +kernel
theorem dX9_proves_439 : decode cX9_proves 439 = .ok (.goto 32, 3) := by decide +kernel
theorem dX9_proves_442 : decode cX9_proves 442 = .ok (.iload 10, 2) := by decide +kernel
theorem dX9_proves_444 : decode cX9_proves 444 = .ok (.bipush 42, 2) := by decide +kernel
theorem dX9_proves_446 : decode cX9_proves 446 = .ok (.if_icmp .ne 25, 3) := by decide +kernel
theorem dX9_proves_449 : decode cX9_proves 449 = .ok (.aload_n 0, 1) := by decide +kernel
theorem dX9_proves_450 : decode cX9_proves 450 = .ok (.iload_n 1, 1) := by decide +kernel
theorem dX9_proves_451 : decode cX9_proves 451 = .ok (.aload_n 0, 1) := by decide +kernel
theorem dX9_proves_452 : decode cX9_proves 452 = .ok (.iload_n 1, 1) := by decide +kernel
theorem dX9_proves_453 : decode cX9_proves 453 = .ok (.iload 8, 2) := by decide +kernel
theorem dX9_proves_455 : decode cX9_proves 455 = .ok (.iload 8, 2) := by decide +kernel
theorem dX9_proves_457 : decode cX9_proves 457 = .ok (.iconst 1, 1) := by decide +kernel
theorem dX9_proves_458 : decode cX9_proves 458 = .ok (.iadd, 1) := by decide +kernel
theorem dX9_proves_459 : decode cX9_proves 459 = .ok (.iload 11, 2) := by decide +kernel
theorem dX9_proves_461 : decode cX9_proves 461 = .ok (.iload 12, 2) := by decide +kernel
theorem dX9_proves_463 : decode cX9_proves 463 = .ok (.iload_n 3, 1) := by decide +kernel
theorem dX9_proves_464 : decode cX9_proves 464 = .ok (.invokevirtual 210, 3) := by decide +kernel
theorem dX9_proves_467 : decode cX9_proves 467 = .ok (.iconst (-1), 1) := by decide +kernel
theorem dX9_proves_468 : decode cX9_proves 468 = .ok (.invokevirtual 214, 3) := by decide +kernel
theorem dX9_proves_471 : decode cX9_proves 471 = .ok (.iinc 8 1, 3) := by decide +kernel
theorem dX9_proves_474 : decode cX9_proves 474 = .ok (.goto (-223), 3) := by decide +kernel
theorem dX9_proves_477 : decode cX9_proves 477 = .ok (.return_, 1) := by decide +kernel
theorem dX9_means_0 : decode cX9_means 0 = .ok (.aload_n 0, 1) := by decide +kernel
theorem dX9_means_1 : decode cX9_means 1 = .ok (.getfield 90, 3) := by decide +kernel
theorem dX9_means_4 : decode cX9_means 4 = .ok (.bipush 18, 2) := by decide +kernel
theorem dX9_means_6 : decode cX9_means 6 = .ok (.iload_n 1, 1) := by decide +kernel
theorem dX9_means_7 : decode cX9_means 7 = .ok (.imul, 1) := by decide +kernel
theorem dX9_means_8 : decode cX9_means 8 = .ok (.iaload, 1) := by decide +kernel
theorem dX9_means_9 : decode cX9_means 9 = .ok (.istore_n 2, 1) := by decide +kernel
theorem dX9_means_10 : decode cX9_means 10 = .ok (.aload_n 0, 1) := by decide +kernel
theorem dX9_means_11 : decode cX9_means 11 = .ok (.getfield 90, 3) := by decide +kernel
theorem dX9_means_14 : decode cX9_means 14 = .ok (.bipush 18, 2) := by decide +kernel
theorem dX9_means_16 : decode cX9_means 16 = .ok (.iload_n 1, 1) := by decide +kernel
theorem dX9_means_17 : decode cX9_means 17 = .ok (.imul, 1) := by decide +kernel
theorem dX9_means_18 : decode cX9_means 18 = .ok (.bipush 17, 2) := by decide +kernel
theorem dX9_means_20 : decode cX9_means 20 = .ok (.iadd, 1) := by decide +kernel
theorem dX9_means_21 : decode cX9_means 21 = .ok (.iaload, 1) := by decide +kernel
theorem dX9_means_22 : decode cX9_means 22 = .ok (.istore_n 3, 1) := by decide +kernel
theorem dX9_means_23 : decode cX9_means 23 = .ok (.aload_n 0, 1) := by decide +kernel
theorem dX9_means_24 : decode cX9_means 24 = .ok (.getfield 64, 3) := by decide +kernel
theorem dX9_means_27 : decode cX9_means 27 = .ok (.iload_n 3, 1) := by decide +kernel
theorem dX9_means_28 : decode cX9_means 28 = .ok (.iaload, 1) := by decide +kernel
theorem dX9_means_29 : decode cX9_means 29 = .ok (.istore 4, 2) := by decide +kernel
theorem dX9_means_31 : decode cX9_means 31 = .ok (.aload_n 0, 1) := by decide +kernel
theorem dX9_means_32 : decode cX9_means 32 = .ok (.getfield 207, 3) := by decide +kernel
theorem dX9_means_35 : decode cX9_means 35 = .ok (.ifCond .eq 7, 3) := by decide +kernel
theorem dX9_means_38 : decode cX9_means 38 = .ok (.iconst 0, 1) := by decide +kernel
theorem dX9_means_39 : decode cX9_means 39 = .ok (.goto 4, 3) := by decide +kernel
theorem dX9_means_42 : decode cX9_means 42 = .ok (.iconst 1, 1) := by decide +kernel
theorem dX9_means_43 : decode cX9_means 43 = .ok (.istore 5, 2) := by decide +kernel
theorem dX9_means_45 : decode cX9_means 45 = .ok (.aload_n 0, 1) := by decide +kernel
theorem dX9_means_46 : decode cX9_means 46 = .ok (.getfield 97, 3) := by decide +kernel
theorem dX9_means_49 : decode cX9_means 49 = .ok (.iload_n 1, 1) := by decide +kernel
theorem dX9_means_50 : decode cX9_means 50 = .ok (.iconst 0, 1) := by decide +kernel
theorem dX9_means_51 : decode cX9_means 51 = .ok (.bastore, 1) := by decide +kernel
theorem dX9_means_52 : decode cX9_means 52 = .ok (.aload_n 0, 1) := by decide +kernel
theorem dX9_means_53 : decode cX9_means 53 = .ok (.getfield 93, 3) := by decide +kernel
theorem dX9_means_56 : decode cX9_means 56 = .ok (.iload_n 1, 1) := by decide +kernel
theorem dX9_means_57 : decode cX9_means 57 = .ok (.lconst 0, 1) := by decide +kernel
theorem dX9_means_58 : decode cX9_means 58 = .ok (.lastore, 1) := by decide +kernel
theorem dX9_means_59 : decode cX9_means 59 = .ok (.iload 4, 2) := by decide +kernel
theorem dX9_means_61 : decode cX9_means 61 = .ok (.bipush 8, 2) := by decide +kernel
theorem dX9_means_63 : decode cX9_means 63 = .ok (.if_icmp .lt 70, 3) := by decide +kernel
theorem dX9_means_66 : decode cX9_means 66 = .ok (.iload_n 2, 1) := by decide +kernel
theorem dX9_means_67 : decode cX9_means 67 = .ok (.iload 5, 2) := by decide +kernel
theorem dX9_means_69 : decode cX9_means 69 = .ok (.if_icmp .lt 63, 3) := by decide +kernel
theorem dX9_means_72 : decode cX9_means 72 = .ok (.iload 4, 2) := by decide +kernel
theorem dX9_means_74 : decode cX9_means 74 = .ok (.bipush 47, 2) := by decide +kernel
theorem dX9_means_76 : decode cX9_means 76 = .ok (.if_icmp .ne 26, 3) := by decide +kernel
theorem dX9_means_79 : decode cX9_means 79 = .ok (.aload_n 0, 1) := by decide +kernel
theorem dX9_means_80 : decode cX9_means 80 = .ok (.iload_n 1, 1) := by decide +kernel
theorem dX9_means_81 : decode cX9_means 81 = .ok (.iload_n 2, 1) := by decide +kernel
theorem dX9_means_82 : decode cX9_means 82 = .ok (.iload_n 2, 1) := by decide +kernel
theorem dX9_means_83 : decode cX9_means 83 = .ok (.aload_n 0, 1) := by decide +kernel
theorem dX9_means_84 : decode cX9_means 84 = .ok (.getfield 70, 3) := by decide +kernel
theorem dX9_means_87 : decode cX9_means 87 = .ok (.iload_n 3, 1) := by decide +kernel
theorem dX9_means_88 : decode cX9_means 88 = .ok (.iaload, 1) := by decide +kernel
theorem dX9_means_89 : decode cX9_means 89 = .ok (.iconst (-1), 1) := by decide +kernel
theorem dX9_means_90 : decode cX9_means 90 = .ok (.aload_n 0, 1) := by decide +kernel
theorem dX9_means_91 : decode cX9_means 91 = .ok (.getfield 67, 3) := by decide +kernel
theorem dX9_means_94 : decode cX9_means 94 = .ok (.iload_n 3, 1) := by decide +kernel
theorem dX9_means_95 : decode cX9_means 95 = .ok (.iaload, 1) := by decide +kernel
theorem dX9_means_96 : decode cX9_means 96 = .ok (.invokevirtual 210, 3) := by decide +kernel
theorem dX9_means_99 : decode cX9_means 99 = .ok (.goto 23, 3) := by decide +kernel
theorem dX9_means_102 : decode cX9_means 102 = .ok (.aload_n 0, 1) := by decide +kernel
theorem dX9_means_103 : decode cX9_means 103 = .ok (.iload_n 1, 1) := by decide +kernel
theorem dX9_means_104 : decode cX9_means 104 = .ok (.iconst 0, 1) := by decide +kernel
theorem dX9_means_105 : decode cX9_means 105 = .ok (.iconst 0, 1) := by decide +kernel
theorem dX9_means_106 : decode cX9_means 106 = .ok (.aload_n 0, 1) := by decide +kernel
theorem dX9_means_107 : decode cX9_means 107 = .ok (.getfield 67, 3) := by decide +kernel
theorem dX9_means_110 : decode cX9_means 110 = .ok (.iload_n 3, 1) := by decide +kernel
theorem dX9_means_111 : decode cX9_means 111 = .ok (.iaload, 1) := by decide +kernel
theorem dX9_means_112 : decode cX9_means 112 = .ok (.iconst (-1), 1) := by decide +kernel
theorem dX9_means_113 : decode cX9_means 113 = .ok (.aload_n 0, 1) := by decide +kernel
theorem dX9_means_114 : decode cX9_means 114 = .ok (.getfield 70, 3) := by decide +kernel
theorem dX9_means_117 : decode cX9_means 117 = .ok (.iload_n 3, 1) := by decide +kernel
theorem dX9_means_118 : decode cX9_means 118 = .ok (.iaload, 1) := by decide +kernel
theorem dX9_means_119 : decode cX9_means 119 = .ok (.invokevirtual 210, 3) := by decide +kernel
theorem dX9_means_122 : decode cX9_means 122 = .ok (.istore 6, 2) := by decide +kernel
theorem dX9_means_124 : decode cX9_means 124 = .ok (.aload_n 0, 1) := by decide +kernel
theorem dX9_means_125 : decode cX9_means 125 = .ok (.iload_n 1, 1) := by decide +kernel
theorem dX9_means_126 : decode cX9_means 126 = .ok (.iload 6, 2) := by decide +kernel
theorem dX9_means_128 : decode cX9_means 128 = .ok (.iconst (-1), 1) := by decide +kernel
theorem dX9_means_129 : decode cX9_means 129 = .ok (.invokevirtual 214, 3) := by decide +kernel
theorem dX9_means_132 : decode cX9_means 132 = .ok (.return_, 1) := by decide +kernel
theorem dX9_means_133 : decode cX9_means 133 = .ok (.iconst 0, 1) := by decide +kernel
theorem dX9_means_134 : decode cX9_means 134 = .ok (.istore 6, 2) := by decide +kernel
theorem dX9_means_136 : decode cX9_means 136 = .ok (.iload 6, 2) := by decide +kernel
theorem dX9_means_138 : decode cX9_means 138 = .ok (.iload_n 2, 1) := by decide +kernel
theorem dX9_means_139 : decode cX9_means 139 = .ok (.if_icmp .ge 118, 3) := by decide +kernel
theorem dX9_means_142 : decode cX9_means 142 = .ok (.aload_n 0, 1) := by decide +kernel
theorem dX9_means_143 : decode cX9_means 143 = .ok (.getfield 90, 3) := by decide +kernel
theorem dX9_means_146 : decode cX9_means 146 = .ok (.bipush 18, 2) := by decide +kernel
theorem dX9_means_148 : decode cX9_means 148 = .ok (.iload_n 1, 1) := by decide +kernel
theorem dX9_means_149 : decode cX9_means 149 = .ok (.imul, 1) := by decide +kernel
theorem dX9_means_150 : decode cX9_means 150 = .ok (.iconst 1, 1) := by decide +kernel
theorem dX9_means_151 : decode cX9_means 151 = .ok (.iadd, 1) := by decide +kernel
theorem dX9_means_152 : decode cX9_means 152 = .ok (.iload 6, 2) := by decide +kernel
theorem dX9_means_154 : decode cX9_means 154 = .ok (.iadd, 1) := by decide +kernel
theorem dX9_means_155 : decode cX9_means 155 = .ok (.iaload, 1) := by decide +kernel
theorem dX9_means_156 : decode cX9_means 156 = .ok (.istore 7, 2) := by decide +kernel
theorem dX9_means_158 : decode cX9_means 158 = .ok (.aload_n 0, 1) := by decide +kernel
theorem dX9_means_159 : decode cX9_means 159 = .ok (.getfield 79, 3) := by decide +kernel
theorem dX9_means_162 : decode cX9_means 162 = .ok (.iload 7, 2) := by decide +kernel
theorem dX9_means_164 : decode cX9_means 164 = .ok (.iaload, 1) := by decide +kernel
theorem dX9_means_165 : decode cX9_means 165 = .ok (.iload 4, 2) := by decide +kernel
theorem dX9_means_167 : decode cX9_means 167 = .ok (.if_icmp .ne 84, 3) := by decide +kernel
theorem dX9_means_170 : decode cX9_means 170 = .ok (.aload_n 0, 1) := by decide +kernel
theorem dX9_means_171 : decode cX9_means 171 = .ok (.iload_n 1, 1) := by decide +kernel
theorem dX9_means_172 : decode cX9_means 172 = .ok (.iload 6, 2) := by decide +kernel
theorem dX9_means_174 : decode cX9_means 174 = .ok (.iload 7, 2) := by decide +kernel
theorem dX9_means_176 : decode cX9_means 176 = .ok (.invokevirtual 222, 3) := by decide +kernel
theorem dX9_means_179 : decode cX9_means 179 = .ok (.iload_n 2, 1) := by decide +kernel
theorem dX9_means_180 : decode cX9_means 180 = .ok (.istore 8, 2) := by decide +kernel
theorem dX9_means_182 : decode cX9_means 182 = .ok (.aload_n 0, 1) := by decide +kernel
theorem dX9_means_183 : decode cX9_means 183 = .ok (.getfield 201, 3) := by decide +kernel
theorem dX9_means_186 : decode cX9_means 186 = .ok (.ifCond .ne 65, 3) := by decide +kernel
theorem dX9_means_189 : decode cX9_means 189 = .ok (.aload_n 0, 1) := by decide +kernel
theorem dX9_means_190 : decode cX9_means 190 = .ok (.getfield 119, 3) := by decide +kernel
theorem dX9_means_193 : decode cX9_means 193 = .ok (.iload 8, 2) := by decide +kernel
theorem dX9_means_195 : decode cX9_means 195 = .ok (.baload, 1) := by decide +kernel
theorem dX9_means_196 : decode cX9_means 196 = .ok (.ifCond .eq 55, 3) := by decide +kernel
theorem dX9_means_199 : decode cX9_means 199 = .ok (.aload_n 0, 1) := by decide +kernel
theorem dX9_means_200 : decode cX9_means 200 = .ok (.getfield 97, 3) := by decide +kernel
theorem dX9_means_203 : decode cX9_means 203 = .ok (.iload_n 1, 1) := by decide +kernel
theorem dX9_means_204 : decode cX9_means 204 = .ok (.iconst 1, 1) := by decide +kernel
theorem dX9_means_205 : decode cX9_means 205 = .ok (.bastore, 1) := by decide +kernel
theorem dX9_means_206 : decode cX9_means 206 = .ok (.aload_n 0, 1) := by decide +kernel
theorem dX9_means_207 : decode cX9_means 207 = .ok (.getfield 93, 3) := by decide +kernel
theorem dX9_means_210 : decode cX9_means 210 = .ok (.iload_n 1, 1) := by decide +kernel
theorem dX9_means_211 : decode cX9_means 211 = .ok (.aload_n 0, 1) := by decide +kernel
theorem dX9_means_212 : decode cX9_means 212 = .ok (.getfield 93, 3) := by decide +kernel
theorem dX9_means_215 : decode cX9_means 215 = .ok (.iload_n 1, 1) := by decide +kernel
theorem dX9_means_216 : decode cX9_means 216 = .ok (.laload, 1) := by decide +kernel
theorem dX9_means_217 : decode cX9_means 217 = .ok (.aload_n 0, 1) := by decide +kernel
theorem dX9_means_218 : decode cX9_means 218 = .ok (.getfield 116, 3) := by decide +kernel
theorem dX9_means_221 : decode cX9_means 221 = .ok (.iload 8, 2) := by decide +kernel
theorem dX9_means_223 : decode cX9_means 223 = .ok (.laload, 1) := by decide +kernel
theorem dX9_means_224 : decode cX9_means 224 = .ok (.ladd, 1) := by decide +kernel
theorem dX9_means_225 : decode cX9_means 225 = .ok (.ldc2_w 205, 3) := by decide +kernel
theorem dX9_means_228 : decode cX9_means 228 = .ok (.lrem, 1) := by decide +kernel
theorem dX9_means_229 : decode cX9_means 229 = .ok (.lastore, 1) := by decide +kernel
theorem dX9_means_230 : decode cX9_means 230 = .ok (.aload_n 0, 1) := by decide +kernel
theorem dX9_means_231 : decode cX9_means 231 = .ok (.dup, 1) := by decide +kernel
theorem dX9_means_232 : decode cX9_means 232 = .ok (.getfield 225, 3) := by decide +kernel
theorem dX9_means_235 : decode cX9_means 235 = .ok (.iload_n 1, 1) := by decide +kernel
theorem dX9_means_236 : decode cX9_means 236 = .ok (.ifCond .ne 10, 3) := by decide +kernel
theorem dX9_means_239 : decode cX9_means 239 = .ok (.iconst 1, 1) := by decide +kernel
theorem dX9_means_240 : decode cX9_means 240 = .ok (.iload 6, 2) := by decide +kernel
theorem dX9_means_242 : decode cX9_means 242 = .ok (.ishl, 1) := by decide +kernel
theorem dX9_means_243 : decode cX9_means 243 = .ok (.goto 4, 3) := by decide +kernel
theorem dX9_means_246 : decode cX9_means 246 = .ok (.iconst 0, 1) := by decide +kernel
theorem dX9_means_247 : decode cX9_means 247 = .ok (.ior, 1) := by decide +kernel
theorem dX9_means_248 : decode cX9_means 248 = .ok (.putfield 225, 3) := by decide +kernel
theorem dX9_means_251 : decode cX9_means 251 = .ok (.iinc 6 1, 3) := by decide +kernel
theorem dX9_means_254 : decode cX9_means 254 = .ok (.goto (-118), 3) := by decide +kernel
theorem dX9_means_257 : decode cX9_means 257 = .ok (.return_, 1) := by decide +kernel
theorem dX9_spines_0 : decode cX9_spines 0 = .ok (.aload_n 0, 1) := by decide +kernel
theorem dX9_spines_1 : decode cX9_spines 1 = .ok (.getfield 90, 3) := by decide +kernel
theorem dX9_spines_4 : decode cX9_spines 4 = .ok (.bipush 18, 2) := by decide +kernel
theorem dX9_spines_6 : decode cX9_spines 6 = .ok (.iload_n 1, 1) := by decide +kernel
theorem dX9_spines_7 : decode cX9_spines 7 = .ok (.imul, 1) := by decide +kernel
theorem dX9_spines_8 : decode cX9_spines 8 = .ok (.iaload, 1) := by decide +kernel
theorem dX9_spines_9 : decode cX9_spines 9 = .ok (.istore 4, 2) := by decide +kernel
theorem dX9_spines_11 : decode cX9_spines 11 = .ok (.aload_n 0, 1) := by decide +kernel
theorem dX9_spines_12 : decode cX9_spines 12 = .ok (.getfield 207, 3) := by decide +kernel
theorem dX9_spines_15 : decode cX9_spines 15 = .ok (.ifCond .eq 7, 3) := by decide +kernel
theorem dX9_spines_18 : decode cX9_spines 18 = .ok (.iconst 0, 1) := by decide +kernel
theorem dX9_spines_19 : decode cX9_spines 19 = .ok (.goto 4, 3) := by decide +kernel
theorem dX9_spines_22 : decode cX9_spines 22 = .ok (.iconst 1, 1) := by decide +kernel
theorem dX9_spines_23 : decode cX9_spines 23 = .ok (.istore 5, 2) := by decide +kernel
theorem dX9_spines_25 : decode cX9_spines 25 = .ok (.iconst 0, 1) := by decide +kernel
theorem dX9_spines_26 : decode cX9_spines 26 = .ok (.istore 6, 2) := by decide +kernel
theorem dX9_spines_28 : decode cX9_spines 28 = .ok (.iload 6, 2) := by decide +kernel
theorem dX9_spines_30 : decode cX9_spines 30 = .ok (.sipush 400, 3) := by decide +kernel
theorem dX9_spines_33 : decode cX9_spines 33 = .ok (.if_icmp .ge 56, 3) := by decide +kernel
theorem dX9_spines_36 : decode cX9_spines 36 = .ok (.aload_n 0, 1) := by decide +kernel
theorem dX9_spines_37 : decode cX9_spines 37 = .ok (.getfield 119, 3) := by decide +kernel
theorem dX9_spines_40 : decode cX9_spines 40 = .ok (.iload 6, 2) := by decide +kernel
theorem dX9_spines_42 : decode cX9_spines 42 = .ok (.iload 6, 2) := by decide +kernel
theorem dX9_spines_44 : decode cX9_spines 44 = .ok (.bipush 20, 2) := by decide +kernel
theorem dX9_spines_46 : decode cX9_spines 46 = .ok (.iload_n 2, 1) := by decide +kernel
theorem dX9_spines_47 : decode cX9_spines 47 = .ok (.imul, 1) := by decide +kernel
theorem dX9_spines_48 : decode cX9_spines 48 = .ok (.iload_n 2, 1) := by decide +kernel
theorem dX9_spines_49 : decode cX9_spines 49 = .ok (.iadd, 1) := by decide +kernel
theorem dX9_spines_50 : decode cX9_spines 50 = .ok (.iconst 1, 1) := by decide +kernel
theorem dX9_spines_51 : decode cX9_spines 51 = .ok (.iadd, 1) := by decide +kernel
theorem dX9_spines_52 : decode cX9_spines 52 = .ok (.if_icmp .ne 7, 3) := by decide +kernel
theorem dX9_spines_55 : decode cX9_spines 55 = .ok (.iconst 1, 1) := by decide +kernel
theorem dX9_spines_56 : decode cX9_spines 56 = .ok (.goto 4, 3) := by decide +kernel
theorem dX9_spines_59 : decode cX9_spines 59 = .ok (.iconst 0, 1) := by decide +kernel
theorem dX9_spines_60 : decode cX9_spines 60 = .ok (.bastore, 1) := by decide +kernel
theorem dX9_spines_61 : decode cX9_spines 61 = .ok (.aload_n 0, 1) := by decide +kernel
theorem dX9_spines_62 : decode cX9_spines 62 = .ok (.getfield 116, 3) := by decide +kernel
theorem dX9_spines_65 : decode cX9_spines 65 = .ok (.iload 6, 2) := by decide +kernel
theorem dX9_spines_67 : decode cX9_spines 67 = .ok (.aload_n 0, 1) := by decide +kernel
theorem dX9_spines_68 : decode cX9_spines 68 = .ok (.getfield 119, 3) := by decide +kernel
theorem dX9_spines_71 : decode cX9_spines 71 = .ok (.iload 6, 2) := by decide +kernel
theorem dX9_spines_73 : decode cX9_spines 73 = .ok (.baload, 1) := by decide +kernel
theorem dX9_spines_74 : decode cX9_spines 74 = .ok (.ifCond .eq 7, 3) := by decide +kernel
theorem dX9_spines_77 : decode cX9_spines 77 = .ok (.lconst 1, 1) := by decide +kernel
theorem dX9_spines_78 : decode cX9_spines 78 = .ok (.goto 4, 3) := by decide +kernel
theorem dX9_spines_81 : decode cX9_spines 81 = .ok (.lconst 0, 1) := by decide +kernel
theorem dX9_spines_82 : decode cX9_spines 82 = .ok (.lastore, 1) := by decide +kernel
theorem dX9_spines_83 : decode cX9_spines 83 = .ok (.iinc 6 1, 3) := by decide +kernel
theorem dX9_spines_86 : decode cX9_spines 86 = .ok (.goto (-58), 3) := by decide +kernel
theorem dX9_spines_89 : decode cX9_spines 89 = .ok (.iload_n 3, 1) := by decide +kernel
theorem dX9_spines_90 : decode cX9_spines 90 = .ok (.istore 6, 2) := by decide +kernel
theorem dX9_spines_92 : decode cX9_spines 92 = .ok (.aload_n 0, 1) := by decide +kernel
theorem dX9_spines_93 : decode cX9_spines 93 = .ok (.getfield 64, 3) := by decide +kernel
theorem dX9_spines_96 : decode cX9_spines 96 = .ok (.iload 6, 2) := by decide +kernel
theorem dX9_spines_98 : decode cX9_spines 98 = .ok (.iaload, 1) := by decide +kernel
theorem dX9_spines_99 : decode cX9_spines 99 = .ok (.bipush 8, 2) := by decide +kernel
theorem dX9_spines_101 : decode cX9_spines 101 = .ok (.if_icmp .lt 364, 3) := by decide +kernel
theorem dX9_spines_104 : decode cX9_spines 104 = .ok (.aload_n 0, 1) := by decide +kernel
theorem dX9_spines_105 : decode cX9_spines 105 = .ok (.getfield 64, 3) := by decide +kernel
theorem dX9_spines_108 : decode cX9_spines 108 = .ok (.iload 6, 2) := by decide +kernel
theorem dX9_spines_110 : decode cX9_spines 110 = .ok (.iaload, 1) := by decide +kernel
theorem dX9_spines_111 : decode cX9_spines 111 = .ok (.bipush 47, 2) := by decide +kernel
theorem dX9_spines_113 : decode cX9_spines 113 = .ok (.if_icmp .ne 7, 3) := by decide +kernel
theorem dX9_spines_116 : decode cX9_spines 116 = .ok (.iconst 1, 1) := by decide +kernel
theorem dX9_spines_117 : decode cX9_spines 117 = .ok (.goto 4, 3) := by decide +kernel
theorem dX9_spines_120 : decode cX9_spines 120 = .ok (.iconst 0, 1) := by decide +kernel
theorem dX9_spines_121 : decode cX9_spines 121 = .ok (.istore 7, 2) := by decide +kernel
theorem dX9_spines_123 : decode cX9_spines 123 = .ok (.iload 7, 2) := by decide +kernel
theorem dX9_spines_125 : decode cX9_spines 125 = .ok (.ifCond .eq 13, 3) := by decide +kernel
theorem dX9_spines_128 : decode cX9_spines 128 = .ok (.aload_n 0, 1) := by decide +kernel
theorem dX9_spines_129 : decode cX9_spines 129 = .ok (.getfield 70, 3) := by decide +kernel
theorem dX9_spines_132 : decode cX9_spines 132 = .ok (.iload 6, 2) := by decide +kernel
theorem dX9_spines_134 : decode cX9_spines 134 = .ok (.iaload, 1) := by decide +kernel
theorem dX9_spines_135 : decode cX9_spines 135 = .ok (.goto 10, 3) := by decide +kernel
theorem dX9_spines_138 : decode cX9_spines 138 = .ok (.aload_n 0, 1) := by decide +kernel
theorem dX9_spines_139 : decode cX9_spines 139 = .ok (.getfield 67, 3) := by decide +kernel
theorem dX9_spines_142 : decode cX9_spines 142 = .ok (.iload 6, 2) := by decide +kernel
theorem dX9_spines_144 : decode cX9_spines 144 = .ok (.iaload, 1) := by decide +kernel
theorem dX9_spines_145 : decode cX9_spines 145 = .ok (.istore 8, 2) := by decide +kernel
theorem dX9_spines_147 : decode cX9_spines 147 = .ok (.iconst 0, 1) := by decide +kernel
theorem dX9_spines_148 : decode cX9_spines 148 = .ok (.istore 9, 2) := by decide +kernel
theorem dX9_spines_150 : decode cX9_spines 150 = .ok (.iload 9, 2) := by decide +kernel
theorem dX9_spines_152 : decode cX9_spines 152 = .ok (.sipush 400, 3) := by decide +kernel
theorem dX9_spines_155 : decode cX9_spines 155 = .ok (.if_icmp .ge 25, 3) := by decide +kernel
theorem dX9_spines_158 : decode cX9_spines 158 = .ok (.aload_n 0, 1) := by decide +kernel
theorem dX9_spines_159 : decode cX9_spines 159 = .ok (.getfield 125, 3) := by decide +kernel
theorem dX9_spines_162 : decode cX9_spines 162 = .ok (.iload 9, 2) := by decide +kernel
theorem dX9_spines_164 : decode cX9_spines 164 = .ok (.iconst 0, 1) := by decide +kernel
theorem dX9_spines_165 : decode cX9_spines 165 = .ok (.bastore, 1) := by decide +kernel
theorem dX9_spines_166 : decode cX9_spines 166 = .ok (.aload_n 0, 1) := by decide +kernel
theorem dX9_spines_167 : decode cX9_spines 167 = .ok (.getfield 122, 3) := by decide +kernel
theorem dX9_spines_170 : decode cX9_spines 170 = .ok (.iload 9, 2) := by decide +kernel
theorem dX9_spines_172 : decode cX9_spines 172 = .ok (.lconst 0, 1) := by decide +kernel
theorem dX9_spines_173 : decode cX9_spines 173 = .ok (.lastore, 1) := by decide +kernel
theorem dX9_spines_174 : decode cX9_spines 174 = .ok (.iinc 9 1, 3) := by decide +kernel
theorem dX9_spines_177 : decode cX9_spines 177 = .ok (.goto (-27), 3) := by decide +kernel
theorem dX9_spines_180 : decode cX9_spines 180 = .ok (.iconst 0, 1) := by decide +kernel
theorem dX9_spines_181 : decode cX9_spines 181 = .ok (.istore 9, 2) := by decide +kernel
theorem dX9_spines_183 : decode cX9_spines 183 = .ok (.iload 9, 2) := by decide +kernel
theorem dX9_spines_185 : decode cX9_spines 185 = .ok (.sipush 400, 3) := by decide +kernel
theorem dX9_spines_188 : decode cX9_spines 188 = .ok (.if_icmp .ge 205, 3) := by decide +kernel
theorem dX9_spines_191 : decode cX9_spines 191 = .ok (.aload_n 0, 1) := by decide +kernel
theorem dX9_spines_192 : decode cX9_spines 192 = .ok (.getfield 119, 3) := by decide +kernel
theorem dX9_spines_195 : decode cX9_spines 195 = .ok (.iload 9, 2) := by decide +kernel
theorem dX9_spines_197 : decode cX9_spines 197 = .ok (.baload, 1) := by decide +kernel
theorem dX9_spines_198 : decode cX9_spines 198 = .ok (.ifCond .eq 189, 3) := by decide +kernel
theorem dX9_spines_201 : decode cX9_spines 201 = .ok (.iload 9, 2) := by decide +kernel
theorem dX9_spines_203 : decode cX9_spines 203 = .ok (.bipush 20, 2) := by decide +kernel
theorem dX9_spines_205 : decode cX9_spines 205 = .ok (.idiv, 1) := by decide +kernel
theorem dX9_spines_206 : decode cX9_spines 206 = .ok (.istore 10, 2) := by decide +kernel
theorem dX9_spines_208 : decode cX9_spines 208 = .ok (.iload 9, 2) := by decide +kernel
theorem dX9_spines_210 : decode cX9_spines 210 = .ok (.bipush 20, 2) := by decide +kernel
theorem dX9_spines_212 : decode cX9_spines 212 = .ok (.irem, 1) := by decide +kernel
theorem dX9_spines_213 : decode cX9_spines 213 = .ok (.istore 11, 2) := by decide +kernel
theorem dX9_spines_215 : decode cX9_spines 215 = .ok (.iload 7, 2) := by decide +kernel
theorem dX9_spines_217 : decode cX9_spines 217 = .ok (.ifCond .eq 11, 3) := by decide +kernel
theorem dX9_spines_220 : decode cX9_spines 220 = .ok (.iload 4, 2) := by decide +kernel
theorem dX9_spines_222 : decode cX9_spines 222 = .ok (.iload 11, 2) := by decide +kernel
theorem dX9_spines_224 : decode cX9_spines 224 = .ok (.isub, 1) := by decide +kernel
theorem dX9_spines_225 : decode cX9_spines 225 = .ok (.goto 5, 3) := by decide +kernel
theorem dX9_spines_228 : decode cX9_spines 228 = .ok (.iload 10, 2) := by decide +kernel
theorem dX9_spines_230 : decode cX9_spines 230 = .ok (.istore 12, 2) := by decide +kernel
theorem dX9_spines_232 : decode cX9_spines 232 = .ok (.iload 5, 2) := by decide +kernel
theorem dX9_spines_234 : decode cX9_spines 234 = .ok (.istore 13, 2) := by decide +kernel
theorem dX9_spines_236 : decode cX9_spines 236 = .ok (.iload 13, 2) := by decide +kernel
theorem dX9_spines_238 : decode cX9_spines 238 = .ok (.iload 12, 2) := by decide +kernel
theorem dX9_spines_240 : decode cX9_spines 240 = .ok (.if_icmp .gt 147, 3) := by decide +kernel
theorem dX9_spines_243 : decode cX9_spines 243 = .ok (.iload 7, 2) := by decide +kernel
theorem dX9_spines_245 : decode cX9_spines 245 = .ok (.ifCond .eq 20, 3) := by decide +kernel
theorem dX9_spines_248 : decode cX9_spines 248 = .ok (.aload_n 0, 1) := by decide +kernel
theorem dX9_spines_249 : decode cX9_spines 249 = .ok (.iload_n 1, 1) := by decide +kernel
theorem dX9_spines_250 : decode cX9_spines 250 = .ok (.iload 11, 2) := by decide +kernel
theorem dX9_spines_252 : decode cX9_spines 252 = .ok (.iload 11, 2) := by decide +kernel
theorem dX9_spines_254 : decode cX9_spines 254 = .ok (.iload 13, 2) := by decide +kernel
theorem dX9_spines_256 : decode cX9_spines 256 = .ok (.iadd, 1) := by decide +kernel
theorem dX9_spines_257 : decode cX9_spines 257 = .ok (.iload 8, 2) := by decide +kernel
theorem dX9_spines_259 : decode cX9_spines 259 = .ok (.invokevirtual 218, 3) := by decide +kernel
theorem dX9_spines_262 : decode cX9_spines 262 = .ok (.goto 17, 3) := by decide +kernel
theorem dX9_spines_265 : decode cX9_spines 265 = .ok (.aload_n 0, 1) := by decide +kernel
theorem dX9_spines_266 : decode cX9_spines 266 = .ok (.iload_n 1, 1) := by decide +kernel
theorem dX9_spines_267 : decode cX9_spines 267 = .ok (.iload 10, 2) := by decide +kernel
theorem dX9_spines_269 : decode cX9_spines 269 = .ok (.iload 13, 2) := by decide +kernel
theorem dX9_spines_271 : decode cX9_spines 271 = .ok (.isub, 1) := by decide +kernel
theorem dX9_spines_272 : decode cX9_spines 272 = .ok (.iload 10, 2) := by decide +kernel
theorem dX9_spines_274 : decode cX9_spines 274 = .ok (.iload 8, 2) := by decide +kernel
theorem dX9_spines_276 : decode cX9_spines 276 = .ok (.invokevirtual 218, 3) := by decide +kernel
theorem dX9_spines_279 : decode cX9_spines 279 = .ok (.istore 14, 2) := by decide +kernel
theorem dX9_spines_281 : decode cX9_spines 281 = .ok (.iload 7, 2) := by decide +kernel
theorem dX9_spines_283 : decode cX9_spines 283 = .ok (.ifCond .eq 11, 3) := by decide +kernel
theorem dX9_spines_286 : decode cX9_spines 286 = .ok (.iload 9, 2) := by decide +kernel
theorem dX9_spines_288 : decode cX9_spines 288 = .ok (.iload 13, 2) := by decide +kernel
theorem dX9_spines_290 : decode cX9_spines 290 = .ok (.iadd, 1) := by decide +kernel
theorem dX9_spines_291 : decode cX9_spines 291 = .ok (.goto 11, 3) := by decide +kernel
theorem dX9_spines_294 : decode cX9_spines 294 = .ok (.iload 9, 2) := by decide +kernel
theorem dX9_spines_296 : decode cX9_spines 296 = .ok (.bipush 20, 2) := by decide +kernel
theorem dX9_spines_298 : decode cX9_spines 298 = .ok (.iload 13, 2) := by decide +kernel
theorem dX9_spines_300 : decode cX9_spines 300 = .ok (.imul, 1) := by decide +kernel
theorem dX9_spines_301 : decode cX9_spines 301 = .ok (.isub, 1) := by decide +kernel
theorem dX9_spines_302 : decode cX9_spines 302 = .ok (.istore 15, 2) := by decide +kernel
theorem dX9_spines_304 : decode cX9_spines 304 = .ok (.aload_n 0, 1) := by decide +kernel
theorem dX9_spines_305 : decode cX9_spines 305 = .ok (.getfield 125, 3) := by decide +kernel
theorem dX9_spines_308 : decode cX9_spines 308 = .ok (.iload 15, 2) := by decide +kernel
theorem dX9_spines_310 : decode cX9_spines 310 = .ok (.dup2, 1) := by decide +kernel
theorem dX9_spines_311 : decode cX9_spines 311 = .ok (.baload, 1) := by decide +kernel
theorem dX9_spines_312 : decode cX9_spines 312 = .ok (.aload_n 0, 1) := by decide +kernel
theorem dX9_spines_313 : decode cX9_spines 313 = .ok (.getfield 201, 3) := by decide +kernel
theorem dX9_spines_316 : decode cX9_spines 316 = .ok (.ifCond .ne 13, 3) := by decide +kernel
theorem dX9_spines_319 : decode cX9_spines 319 = .ok (.aload_n 0, 1) := by decide +kernel
theorem dX9_spines_320 : decode cX9_spines 320 = .ok (.getfield 97, 3) := by decide +kernel
theorem dX9_spines_323 : decode cX9_spines 323 = .ok (.iload 14, 2) := by decide +kernel
theorem dX9_spines_325 : decode cX9_spines 325 = .ok (.baload, 1) := by decide +kernel
theorem dX9_spines_326 : decode cX9_spines 326 = .ok (.ifCond .eq 7, 3) := by decide +kernel
theorem dX9_spines_329 : decode cX9_spines 329 = .ok (.iconst 1, 1) := by decide +kernel
theorem dX9_spines_330 : decode cX9_spines 330 = .ok (.goto 4, 3) := by decide +kernel
theorem dX9_spines_333 : decode cX9_spines 333 = .ok (.iconst 0, 1) := by decide +kernel
theorem dX9_spines_334 : decode cX9_spines 334 = .ok (.ior, 1) := by decide +kernel
theorem dX9_spines_335 : decode cX9_spines 335 = .ok (.bastore, 1) := by decide +kernel
theorem dX9_spines_336 : decode cX9_spines 336 = .ok (.aload_n 0, 1) := by decide +kernel
theorem dX9_spines_337 : decode cX9_spines 337 = .ok (.getfield 122, 3) := by decide +kernel
theorem dX9_spines_340 : decode cX9_spines 340 = .ok (.iload 15, 2) := by decide +kernel
theorem dX9_spines_342 : decode cX9_spines 342 = .ok (.aload_n 0, 1) := by decide +kernel
theorem dX9_spines_343 : decode cX9_spines 343 = .ok (.getfield 201, 3) := by decide +kernel
theorem dX9_spines_346 : decode cX9_spines 346 = .ok (.ifCond .eq 7, 3) := by decide +kernel
theorem dX9_spines_349 : decode cX9_spines 349 = .ok (.lconst 0, 1) := by decide +kernel
theorem dX9_spines_350 : decode cX9_spines 350 = .ok (.goto 30, 3) := by decide +kernel
theorem dX9_spines_353 : decode cX9_spines 353 = .ok (.aload_n 0, 1) := by decide +kernel
theorem dX9_spines_354 : decode cX9_spines 354 = .ok (.getfield 122, 3) := by decide +kernel
theorem dX9_spines_357 : decode cX9_spines 357 = .ok (.iload 15, 2) := by decide +kernel
theorem dX9_spines_359 : decode cX9_spines 359 = .ok (.laload, 1) := by decide +kernel
theorem dX9_spines_360 : decode cX9_spines 360 = .ok (.aload_n 0, 1) := by decide +kernel
theorem dX9_spines_361 : decode cX9_spines 361 = .ok (.getfield 116, 3) := by decide +kernel
theorem dX9_spines_364 : decode cX9_spines 364 = .ok (.iload 9, 2) := by decide +kernel
theorem dX9_spines_366 : decode cX9_spines 366 = .ok (.laload, 1) := by decide +kernel
theorem dX9_spines_367 : decode cX9_spines 367 = .ok (.aload_n 0, 1) := by decide +kernel
theorem dX9_spines_368 : decode cX9_spines 368 = .ok (.getfield 93, 3) := by decide +kernel
theorem dX9_spines_371 : decode cX9_spines 371 = .ok (.iload 14, 2) := by decide +kernel
theorem dX9_spines_373 : decode cX9_spines 373 = .ok (.laload, 1) := by decide +kernel
theorem dX9_spines_374 : decode cX9_spines 374 = .ok (.lmul, 1) := by decide +kernel
theorem dX9_spines_375 : decode cX9_spines 375 = .ok (.ladd, 1) := by decide +kernel
theorem dX9_spines_376 : decode cX9_spines 376 = .ok (.ldc2_w 205, 3) := by decide +kernel
theorem dX9_spines_379 : decode cX9_spines 379 = .ok (.lrem, 1) := by decide +kernel
theorem dX9_spines_380 : decode cX9_spines 380 = .ok (.lastore, 1) := by decide +kernel
theorem dX9_spines_381 : decode cX9_spines 381 = .ok (.iinc 13 1, 3) := by decide +kernel
theorem dX9_spines_384 : decode cX9_spines 384 = .ok (.goto (-148), 3) := by decide +kernel
theorem dX9_spines_387 : decode cX9_spines 387 = .ok (.iinc 9 1, 3) := by decide +kernel
theorem dX9_spines_390 : decode cX9_spines 390 = .ok (.goto (-207), 3) := by decide +kernel
theorem dX9_spines_393 : decode cX9_spines 393 = .ok (.iconst 0, 1) := by decide +kernel
theorem dX9_spines_394 : decode cX9_spines 394 = .ok (.istore 9, 2) := by decide +kernel
theorem dX9_spines_396 : decode cX9_spines 396 = .ok (.iload 9, 2) := by decide +kernel
theorem dX9_spines_398 : decode cX9_spines 398 = .ok (.sipush 400, 3) := by decide +kernel
theorem dX9_spines_401 : decode cX9_spines 401 = .ok (.if_icmp .ge 37, 3) := by decide +kernel
theorem dX9_spines_404 : decode cX9_spines 404 = .ok (.aload_n 0, 1) := by decide +kernel
theorem dX9_spines_405 : decode cX9_spines 405 = .ok (.getfield 119, 3) := by decide +kernel
theorem dX9_spines_408 : decode cX9_spines 408 = .ok (.iload 9, 2) := by decide +kernel
theorem dX9_spines_410 : decode cX9_spines 410 = .ok (.aload_n 0, 1) := by decide +kernel
theorem dX9_spines_411 : decode cX9_spines 411 = .ok (.getfield 125, 3) := by decide +kernel
theorem dX9_spines_414 : decode cX9_spines 414 = .ok (.iload 9, 2) := by decide +kernel
theorem dX9_spines_416 : decode cX9_spines 416 = .ok (.baload, 1) := by decide +kernel
theorem dX9_spines_417 : decode cX9_spines 417 = .ok (.bastore, 1) := by decide +kernel
theorem dX9_spines_418 : decode cX9_spines 418 = .ok (.aload_n 0, 1) := by decide +kernel
theorem dX9_spines_419 : decode cX9_spines 419 = .ok (.getfield 116, 3) := by decide +kernel
theorem dX9_spines_422 : decode cX9_spines 422 = .ok (.iload 9, 2) := by decide +kernel
theorem dX9_spines_424 : decode cX9_spines 424 = .ok (.aload_n 0, 1) := by decide +kernel
theorem dX9_spines_425 : decode cX9_spines 425 = .ok (.getfield 122, 3) := by decide +kernel
theorem dX9_spines_428 : decode cX9_spines 428 = .ok (.iload 9, 2) := by decide +kernel
theorem dX9_spines_430 : decode cX9_spines 430 = .ok (.laload, 1) := by decide +kernel
theorem dX9_spines_431 : decode cX9_spines 431 = .ok (.lastore, 1) := by decide +kernel
theorem dX9_spines_432 : decode cX9_spines 432 = .ok (.iinc 9 1, 3) := by decide +kernel
theorem dX9_spines_435 : decode cX9_spines 435 = .ok (.goto (-39), 3) := by decide +kernel
theorem dX9_spines_438 : decode cX9_spines 438 = .ok (.iload 7, 2) := by decide +kernel
theorem dX9_spines_440 : decode cX9_spines 440 = .ok (.ifCond .eq 13, 3) := by decide +kernel
theorem dX9_spines_443 : decode cX9_spines 443 = .ok (.aload_n 0, 1) := by decide +kernel
theorem dX9_spines_444 : decode cX9_spines 444 = .ok (.getfield 67, 3) := by decide +kernel
theorem dX9_spines_447 : decode cX9_spines 447 = .ok (.iload 6, 2) := by decide +kernel
theorem dX9_spines_449 : decode cX9_spines 449 = .ok (.iaload, 1) := by decide +kernel
theorem dX9_spines_450 : decode cX9_spines 450 = .ok (.goto 10, 3) := by decide +kernel
theorem dX9_spines_453 : decode cX9_spines 453 = .ok (.aload_n 0, 1) := by decide +kernel
theorem dX9_spines_454 : decode cX9_spines 454 = .ok (.getfield 70, 3) := by decide +kernel
theorem dX9_spines_457 : decode cX9_spines 457 = .ok (.iload 6, 2) := by decide +kernel
theorem dX9_spines_459 : decode cX9_spines 459 = .ok (.iaload, 1) := by decide +kernel
theorem dX9_spines_460 : decode cX9_spines 460 = .ok (.istore 6, 2) := by decide +kernel
theorem dX9_spines_462 : decode cX9_spines 462 = .ok (.goto (-370), 3) := by decide +kernel
theorem dX9_spines_465 : decode cX9_spines 465 = .ok (.return_, 1) := by decide +kernel
theorem dX9_tells_0 : decode cX9_tells 0 = .ok (.aload_n 0, 1) := by decide +kernel
theorem dX9_tells_1 : decode cX9_tells 1 = .ok (.iload_n 2, 1) := by decide +kernel
theorem dX9_tells_2 : decode cX9_tells 2 = .ok (.iconst 1, 1) := by decide +kernel
theorem dX9_tells_3 : decode cX9_tells 3 = .ok (.if_icmp .ne 7, 3) := by decide +kernel
theorem dX9_tells_6 : decode cX9_tells 6 = .ok (.iconst 1, 1) := by decide +kernel
theorem dX9_tells_7 : decode cX9_tells 7 = .ok (.goto 4, 3) := by decide +kernel
theorem dX9_tells_10 : decode cX9_tells 10 = .ok (.iconst 0, 1) := by decide +kernel
theorem dX9_tells_11 : decode cX9_tells 11 = .ok (.putfield 207, 3) := by decide +kernel
theorem dX9_tells_14 : decode cX9_tells 14 = .ok (.aload_n 0, 1) := by decide +kernel
theorem dX9_tells_15 : decode cX9_tells 15 = .ok (.iconst 0, 1) := by decide +kernel
theorem dX9_tells_16 : decode cX9_tells 16 = .ok (.putfield 225, 3) := by decide +kernel
theorem dX9_tells_19 : decode cX9_tells 19 = .ok (.aload_n 0, 1) := by decide +kernel
theorem dX9_tells_20 : decode cX9_tells 20 = .ok (.iconst 1, 1) := by decide +kernel
theorem dX9_tells_21 : decode cX9_tells 21 = .ok (.putfield 201, 3) := by decide +kernel
theorem dX9_tells_24 : decode cX9_tells 24 = .ok (.aload_n 0, 1) := by decide +kernel
theorem dX9_tells_25 : decode cX9_tells 25 = .ok (.invokevirtual 197, 3) := by decide +kernel
theorem dX9_tells_28 : decode cX9_tells 28 = .ok (.pop, 1) := by decide +kernel
theorem dX9_tells_29 : decode cX9_tells 29 = .ok (.iconst 0, 1) := by decide +kernel
theorem dX9_tells_30 : decode cX9_tells 30 = .ok (.istore_n 3, 1) := by decide +kernel
theorem dX9_tells_31 : decode cX9_tells 31 = .ok (.iload_n 3, 1) := by decide +kernel
theorem dX9_tells_32 : decode cX9_tells 32 = .ok (.aload_n 0, 1) := by decide +kernel
theorem dX9_tells_33 : decode cX9_tells 33 = .ok (.getfield 193, 3) := by decide +kernel
theorem dX9_tells_36 : decode cX9_tells 36 = .ok (.if_icmp .ge 26, 3) := by decide +kernel
theorem dX9_tells_39 : decode cX9_tells 39 = .ok (.iload_n 1, 1) := by decide +kernel
theorem dX9_tells_40 : decode cX9_tells 40 = .ok (.ifCond .eq 11, 3) := by decide +kernel
theorem dX9_tells_43 : decode cX9_tells 43 = .ok (.aload_n 0, 1) := by decide +kernel
theorem dX9_tells_44 : decode cX9_tells 44 = .ok (.iload_n 3, 1) := by decide +kernel
theorem dX9_tells_45 : decode cX9_tells 45 = .ok (.invokevirtual 228, 3) := by decide +kernel
theorem dX9_tells_48 : decode cX9_tells 48 = .ok (.goto 8, 3) := by decide +kernel
theorem dX9_tells_51 : decode cX9_tells 51 = .ok (.aload_n 0, 1) := by decide +kernel
theorem dX9_tells_52 : decode cX9_tells 52 = .ok (.iload_n 3, 1) := by decide +kernel
theorem dX9_tells_53 : decode cX9_tells 53 = .ok (.invokevirtual 231, 3) := by decide +kernel
theorem dX9_tells_56 : decode cX9_tells 56 = .ok (.iinc 3 1, 3) := by decide +kernel
theorem dX9_tells_59 : decode cX9_tells 59 = .ok (.goto (-28), 3) := by decide +kernel
theorem dX9_tells_62 : decode cX9_tells 62 = .ok (.aload_n 0, 1) := by decide +kernel
theorem dX9_tells_63 : decode cX9_tells 63 = .ok (.iconst 0, 1) := by decide +kernel
theorem dX9_tells_64 : decode cX9_tells 64 = .ok (.putfield 201, 3) := by decide +kernel
theorem dX9_tells_67 : decode cX9_tells 67 = .ok (.iconst 0, 1) := by decide +kernel
theorem dX9_tells_68 : decode cX9_tells 68 = .ok (.istore_n 3, 1) := by decide +kernel
theorem dX9_tells_69 : decode cX9_tells 69 = .ok (.iload_n 3, 1) := by decide +kernel
theorem dX9_tells_70 : decode cX9_tells 70 = .ok (.aload_n 0, 1) := by decide +kernel
theorem dX9_tells_71 : decode cX9_tells 71 = .ok (.getfield 100, 3) := by decide +kernel
theorem dX9_tells_74 : decode cX9_tells 74 = .ok (.iconst 0, 1) := by decide +kernel
theorem dX9_tells_75 : decode cX9_tells 75 = .ok (.iaload, 1) := by decide +kernel
theorem dX9_tells_76 : decode cX9_tells 76 = .ok (.if_icmp .gt 58, 3) := by decide +kernel
theorem dX9_tells_79 : decode cX9_tells 79 = .ok (.aload_n 0, 1) := by decide +kernel
theorem dX9_tells_80 : decode cX9_tells 80 = .ok (.getfield 193, 3) := by decide +kernel
theorem dX9_tells_83 : decode cX9_tells 83 = .ok (.iconst 1, 1) := by decide +kernel
theorem dX9_tells_84 : decode cX9_tells 84 = .ok (.isub, 1) := by decide +kernel
theorem dX9_tells_85 : decode cX9_tells 85 = .ok (.istore 4, 2) := by decide +kernel
theorem dX9_tells_87 : decode cX9_tells 87 = .ok (.iload 4, 2) := by decide +kernel
theorem dX9_tells_89 : decode cX9_tells 89 = .ok (.ifCond .lt 39, 3) := by decide +kernel
theorem dX9_tells_92 : decode cX9_tells 92 = .ok (.aload_n 0, 1) := by decide +kernel
theorem dX9_tells_93 : decode cX9_tells 93 = .ok (.getfield 100, 3) := by decide +kernel
theorem dX9_tells_96 : decode cX9_tells 96 = .ok (.iload 4, 2) := by decide +kernel
theorem dX9_tells_98 : decode cX9_tells 98 = .ok (.iaload, 1) := by decide +kernel
theorem dX9_tells_99 : decode cX9_tells 99 = .ok (.iload_n 3, 1) := by decide +kernel
theorem dX9_tells_100 : decode cX9_tells 100 = .ok (.if_icmp .ne 22, 3) := by decide +kernel
theorem dX9_tells_103 : decode cX9_tells 103 = .ok (.iload_n 1, 1) := by decide +kernel
theorem dX9_tells_104 : decode cX9_tells 104 = .ok (.ifCond .eq 12, 3) := by decide +kernel
theorem dX9_tells_107 : decode cX9_tells 107 = .ok (.aload_n 0, 1) := by decide +kernel
theorem dX9_tells_108 : decode cX9_tells 108 = .ok (.iload 4, 2) := by decide +kernel
theorem dX9_tells_110 : decode cX9_tells 110 = .ok (.invokevirtual 228, 3) := by decide +kernel
theorem dX9_tells_113 : decode cX9_tells 113 = .ok (.goto 9, 3) := by decide +kernel
theorem dX9_tells_116 : decode cX9_tells 116 = .ok (.aload_n 0, 1) := by decide +kernel
theorem dX9_tells_117 : decode cX9_tells 117 = .ok (.iload 4, 2) := by decide +kernel
theorem dX9_tells_119 : decode cX9_tells 119 = .ok (.invokevirtual 231, 3) := by decide +kernel
theorem dX9_tells_122 : decode cX9_tells 122 = .ok (.iinc 4 (-1), 3) := by decide +kernel
theorem dX9_tells_125 : decode cX9_tells 125 = .ok (.goto (-38), 3) := by decide +kernel
theorem dX9_tells_128 : decode cX9_tells 128 = .ok (.iinc 3 1, 3) := by decide +kernel
theorem dX9_tells_131 : decode cX9_tells 131 = .ok (.goto (-62), 3) := by decide +kernel
theorem dX9_tells_134 : decode cX9_tells 134 = .ok (.return_, 1) := by decide +kernel
theorem dX9_isLogic_0 : decode cX9_isLogic 0 = .ok (.iload_n 0, 1) := by decide +kernel
theorem dX9_isLogic_1 : decode cX9_isLogic 1 = .ok (.iconst 0, 1) := by decide +kernel
theorem dX9_isLogic_2 : decode cX9_isLogic 2 = .ok (.iconst 1, 1) := by decide +kernel
theorem dX9_isLogic_3 : decode cX9_isLogic 3 = .ok (.invokestatic 141, 3) := by decide +kernel
theorem dX9_isLogic_6 : decode cX9_isLogic 6 = .ok (.ireturn, 1) := by decide +kernel
theorem dX9_proved_0 : decode cX9_proved 0 = .ok (.iload_n 1, 1) := by decide +kernel
theorem dX9_proved_1 : decode cX9_proved 1 = .ok (.invokestatic 164, 3) := by decide +kernel
theorem dX9_proved_4 : decode cX9_proved 4 = .ok (.ifCond .eq 10, 3) := by decide +kernel
theorem dX9_proved_7 : decode cX9_proved 7 = .ok (.iload_n 2, 1) := by decide +kernel
theorem dX9_proved_8 : decode cX9_proved 8 = .ok (.invokestatic 234, 3) := by decide +kernel
theorem dX9_proved_11 : decode cX9_proved 11 = .ok (.ifCond .ne 5, 3) := by decide +kernel
theorem dX9_proved_14 : decode cX9_proved 14 = .ok (.iconst (-1), 1) := by decide +kernel
theorem dX9_proved_15 : decode cX9_proved 15 = .ok (.ireturn, 1) := by decide +kernel
theorem dX9_proved_16 : decode cX9_proved 16 = .ok (.aload_n 0, 1) := by decide +kernel
theorem dX9_proved_17 : decode cX9_proved 17 = .ok (.iload_n 1, 1) := by decide +kernel
theorem dX9_proved_18 : decode cX9_proved 18 = .ok (.iconst 1, 1) := by decide +kernel
theorem dX9_proved_19 : decode cX9_proved 19 = .ok (.aload_n 0, 1) := by decide +kernel
theorem dX9_proved_20 : decode cX9_proved 20 = .ok (.getfield 190, 3) := by decide +kernel
theorem dX9_proved_23 : decode cX9_proved 23 = .ok (.invokevirtual 237, 3) := by decide +kernel
theorem dX9_proved_26 : decode cX9_proved 26 = .ok (.aload_n 0, 1) := by decide +kernel
theorem dX9_proved_27 : decode cX9_proved 27 = .ok (.invokevirtual 241, 3) := by decide +kernel
theorem dX9_proved_30 : decode cX9_proved 30 = .ok (.bipush 12, 2) := by decide +kernel
theorem dX9_proved_32 : decode cX9_proved 32 = .ok (.if_icmp .le 6, 3) := by decide +kernel
theorem dX9_proved_35 : decode cX9_proved 35 = .ok (.bipush (-2), 2) := by decide +kernel
theorem dX9_proved_37 : decode cX9_proved 37 = .ok (.ireturn, 1) := by decide +kernel
theorem dX9_proved_38 : decode cX9_proved 38 = .ok (.aload_n 0, 1) := by decide +kernel
theorem dX9_proved_39 : decode cX9_proved 39 = .ok (.iconst 0, 1) := by decide +kernel
theorem dX9_proved_40 : decode cX9_proved 40 = .ok (.iload_n 2, 1) := by decide +kernel
theorem dX9_proved_41 : decode cX9_proved 41 = .ok (.invokevirtual 244, 3) := by decide +kernel
theorem dX9_proved_44 : decode cX9_proved 44 = .ok (.iload_n 3, 1) := by decide +kernel
theorem dX9_proved_45 : decode cX9_proved 45 = .ok (.ifCond .eq 13, 3) := by decide +kernel
theorem dX9_proved_48 : decode cX9_proved 48 = .ok (.aload_n 0, 1) := by decide +kernel
theorem dX9_proved_49 : decode cX9_proved 49 = .ok (.getfield 93, 3) := by decide +kernel
theorem dX9_proved_52 : decode cX9_proved 52 = .ok (.iconst 0, 1) := by decide +kernel
theorem dX9_proved_53 : decode cX9_proved 53 = .ok (.laload, 1) := by decide +kernel
theorem dX9_proved_54 : decode cX9_proved 54 = .ok (.l2i, 1) := by decide +kernel
theorem dX9_proved_55 : decode cX9_proved 55 = .ok (.goto 17, 3) := by decide +kernel
theorem dX9_proved_58 : decode cX9_proved 58 = .ok (.aload_n 0, 1) := by decide +kernel
theorem dX9_proved_59 : decode cX9_proved 59 = .ok (.getfield 97, 3) := by decide +kernel
theorem dX9_proved_62 : decode cX9_proved 62 = .ok (.iconst 0, 1) := by decide +kernel
theorem dX9_proved_63 : decode cX9_proved 63 = .ok (.baload, 1) := by decide +kernel
theorem dX9_proved_64 : decode cX9_proved 64 = .ok (.ifCond .eq 7, 3) := by decide +kernel
theorem dX9_proved_67 : decode cX9_proved 67 = .ok (.iconst 1, 1) := by decide +kernel
theorem dX9_proved_68 : decode cX9_proved 68 = .ok (.goto 4, 3) := by decide +kernel
theorem dX9_proved_71 : decode cX9_proved 71 = .ok (.iconst 0, 1) := by decide +kernel
theorem dX9_proved_72 : decode cX9_proved 72 = .ok (.ireturn, 1) := by decide +kernel
theorem dX9_is_0 : decode cX9_is 0 = .ok (.aload_n 0, 1) := by decide +kernel
theorem dX9_is_1 : decode cX9_is 1 = .ok (.iconst 0, 1) := by decide +kernel
theorem dX9_is_2 : decode cX9_is 2 = .ok (.putfield 137, 3) := by decide +kernel
theorem dX9_is_5 : decode cX9_is 5 = .ok (.aload_n 0, 1) := by decide +kernel
theorem dX9_is_6 : decode cX9_is 6 = .ok (.iload_n 1, 1) := by decide +kernel
theorem dX9_is_7 : decode cX9_is 7 = .ok (.iload_n 2, 1) := by decide +kernel
theorem dX9_is_8 : decode cX9_is 8 = .ok (.iconst 0, 1) := by decide +kernel
theorem dX9_is_9 : decode cX9_is 9 = .ok (.invokevirtual 248, 3) := by decide +kernel
theorem dX9_is_12 : decode cX9_is 12 = .ok (.ireturn, 1) := by decide +kernel
theorem dX9_proofs_0 : decode cX9_proofs 0 = .ok (.aload_n 0, 1) := by decide +kernel
theorem dX9_proofs_1 : decode cX9_proofs 1 = .ok (.iconst 0, 1) := by decide +kernel
theorem dX9_proofs_2 : decode cX9_proofs 2 = .ok (.putfield 137, 3) := by decide +kernel
theorem dX9_proofs_5 : decode cX9_proofs 5 = .ok (.aload_n 0, 1) := by decide +kernel
theorem dX9_proofs_6 : decode cX9_proofs 6 = .ok (.iload_n 1, 1) := by decide +kernel
theorem dX9_proofs_7 : decode cX9_proofs 7 = .ok (.iload_n 2, 1) := by decide +kernel
theorem dX9_proofs_8 : decode cX9_proofs 8 = .ok (.iconst 1, 1) := by decide +kernel
theorem dX9_proofs_9 : decode cX9_proofs 9 = .ok (.invokevirtual 248, 3) := by decide +kernel
theorem dX9_proofs_12 : decode cX9_proofs 12 = .ok (.ireturn, 1) := by decide +kernel
theorem dX9_meanings_0 : decode cX9_meanings 0 = .ok (.aload_n 0, 1) := by decide +kernel
theorem dX9_meanings_1 : decode cX9_meanings 1 = .ok (.iconst 0, 1) := by decide +kernel
theorem dX9_meanings_2 : decode cX9_meanings 2 = .ok (.putfield 137, 3) := by decide +kernel
theorem dX9_meanings_5 : decode cX9_meanings 5 = .ok (.iload_n 1, 1) := by decide +kernel
theorem dX9_meanings_6 : decode cX9_meanings 6 = .ok (.invokestatic 164, 3) := by decide +kernel
theorem dX9_meanings_9 : decode cX9_meanings 9 = .ok (.ifCond .eq 10, 3) := by decide +kernel
theorem dX9_meanings_12 : decode cX9_meanings 12 = .ok (.iload_n 2, 1) := by decide +kernel
theorem dX9_meanings_13 : decode cX9_meanings 13 = .ok (.invokestatic 234, 3) := by decide +kernel
theorem dX9_meanings_16 : decode cX9_meanings 16 = .ok (.ifCond .ne 5, 3) := by decide +kernel
theorem dX9_meanings_19 : decode cX9_meanings 19 = .ok (.iconst (-1), 1) := by decide +kernel
theorem dX9_meanings_20 : decode cX9_meanings 20 = .ok (.ireturn, 1) := by decide +kernel
theorem dX9_meanings_21 : decode cX9_meanings 21 = .ok (.aload_n 0, 1) := by decide +kernel
theorem dX9_meanings_22 : decode cX9_meanings 22 = .ok (.iload_n 1, 1) := by decide +kernel
theorem dX9_meanings_23 : decode cX9_meanings 23 = .ok (.iconst 1, 1) := by decide +kernel
theorem dX9_meanings_24 : decode cX9_meanings 24 = .ok (.aload_n 0, 1) := by decide +kernel
theorem dX9_meanings_25 : decode cX9_meanings 25 = .ok (.getfield 190, 3) := by decide +kernel
theorem dX9_meanings_28 : decode cX9_meanings 28 = .ok (.invokevirtual 237, 3) := by decide +kernel
theorem dX9_meanings_31 : decode cX9_meanings 31 = .ok (.aload_n 0, 1) := by decide +kernel
theorem dX9_meanings_32 : decode cX9_meanings 32 = .ok (.invokevirtual 252, 3) := by decide +kernel
theorem dX9_meanings_35 : decode cX9_meanings 35 = .ok (.ifCond .ne 12, 3) := by decide +kernel
theorem dX9_meanings_38 : decode cX9_meanings 38 = .ok (.aload_n 0, 1) := by decide +kernel
theorem dX9_meanings_39 : decode cX9_meanings 39 = .ok (.invokevirtual 241, 3) := by decide +kernel
theorem dX9_meanings_42 : decode cX9_meanings 42 = .ok (.bipush 16, 2) := by decide +kernel
theorem dX9_meanings_44 : decode cX9_meanings 44 = .ok (.if_icmp .le 6, 3) := by decide +kernel
theorem dX9_meanings_47 : decode cX9_meanings 47 = .ok (.bipush (-2), 2) := by decide +kernel
theorem dX9_meanings_49 : decode cX9_meanings 49 = .ok (.ireturn, 1) := by decide +kernel
theorem dX9_meanings_50 : decode cX9_meanings 50 = .ok (.aload_n 0, 1) := by decide +kernel
theorem dX9_meanings_51 : decode cX9_meanings 51 = .ok (.iconst 1, 1) := by decide +kernel
theorem dX9_meanings_52 : decode cX9_meanings 52 = .ok (.iload_n 2, 1) := by decide +kernel
theorem dX9_meanings_53 : decode cX9_meanings 53 = .ok (.invokevirtual 244, 3) := by decide +kernel
theorem dX9_meanings_56 : decode cX9_meanings 56 = .ok (.aload_n 0, 1) := by decide +kernel
theorem dX9_meanings_57 : decode cX9_meanings 57 = .ok (.getfield 93, 3) := by decide +kernel
theorem dX9_meanings_60 : decode cX9_meanings 60 = .ok (.iconst 0, 1) := by decide +kernel
theorem dX9_meanings_61 : decode cX9_meanings 61 = .ok (.laload, 1) := by decide +kernel
theorem dX9_meanings_62 : decode cX9_meanings 62 = .ok (.l2i, 1) := by decide +kernel
theorem dX9_meanings_63 : decode cX9_meanings 63 = .ok (.ireturn, 1) := by decide +kernel
theorem dX9_heads_0 : decode cX9_heads 0 = .ok (.aload_n 0, 1) := by decide +kernel
theorem dX9_heads_1 : decode cX9_heads 1 = .ok (.iconst 0, 1) := by decide +kernel
theorem dX9_heads_2 : decode cX9_heads 2 = .ok (.putfield 137, 3) := by decide +kernel
theorem dX9_heads_5 : decode cX9_heads 5 = .ok (.iload_n 1, 1) := by decide +kernel
theorem dX9_heads_6 : decode cX9_heads 6 = .ok (.invokestatic 164, 3) := by decide +kernel
theorem dX9_heads_9 : decode cX9_heads 9 = .ok (.ifCond .eq 10, 3) := by decide +kernel
theorem dX9_heads_12 : decode cX9_heads 12 = .ok (.iload_n 2, 1) := by decide +kernel
theorem dX9_heads_13 : decode cX9_heads 13 = .ok (.invokestatic 234, 3) := by decide +kernel
theorem dX9_heads_16 : decode cX9_heads 16 = .ok (.ifCond .ne 5, 3) := by decide +kernel
theorem dX9_heads_19 : decode cX9_heads 19 = .ok (.iconst (-1), 1) := by decide +kernel
theorem dX9_heads_20 : decode cX9_heads 20 = .ok (.ireturn, 1) := by decide +kernel
theorem dX9_heads_21 : decode cX9_heads 21 = .ok (.aload_n 0, 1) := by decide +kernel
theorem dX9_heads_22 : decode cX9_heads 22 = .ok (.iload_n 1, 1) := by decide +kernel
theorem dX9_heads_23 : decode cX9_heads 23 = .ok (.iconst 1, 1) := by decide +kernel
theorem dX9_heads_24 : decode cX9_heads 24 = .ok (.aload_n 0, 1) := by decide +kernel
theorem dX9_heads_25 : decode cX9_heads 25 = .ok (.getfield 190, 3) := by decide +kernel
theorem dX9_heads_28 : decode cX9_heads 28 = .ok (.invokevirtual 237, 3) := by decide +kernel
theorem dX9_heads_31 : decode cX9_heads 31 = .ok (.aload_n 0, 1) := by decide +kernel
theorem dX9_heads_32 : decode cX9_heads 32 = .ok (.invokevirtual 252, 3) := by decide +kernel
theorem dX9_heads_35 : decode cX9_heads 35 = .ok (.ifCond .ne 29, 3) := by decide +kernel
theorem dX9_heads_38 : decode cX9_heads 38 = .ok (.aload_n 0, 1) := by decide +kernel
theorem dX9_heads_39 : decode cX9_heads 39 = .ok (.invokevirtual 241, 3) := by decide +kernel
theorem dX9_heads_42 : decode cX9_heads 42 = .ok (.bipush 16, 2) := by decide +kernel
theorem dX9_heads_44 : decode cX9_heads 44 = .ok (.if_icmp .gt 20, 3) := by decide +kernel
theorem dX9_heads_47 : decode cX9_heads 47 = .ok (.aload_n 0, 1) := by decide +kernel
theorem dX9_heads_48 : decode cX9_heads 48 = .ok (.getfield 64, 3) := by decide +kernel
theorem dX9_heads_51 : decode cX9_heads 51 = .ok (.aload_n 0, 1) := by decide +kernel
theorem dX9_heads_52 : decode cX9_heads 52 = .ok (.getfield 113, 3) := by decide +kernel
theorem dX9_heads_55 : decode cX9_heads 55 = .ok (.bipush 17, 2) := by decide +kernel
theorem dX9_heads_57 : decode cX9_heads 57 = .ok (.iaload, 1) := by decide +kernel
theorem dX9_heads_58 : decode cX9_heads 58 = .ok (.iaload, 1) := by decide +kernel
theorem dX9_heads_59 : decode cX9_heads 59 = .ok (.bipush 8, 2) := by decide +kernel
theorem dX9_heads_61 : decode cX9_heads 61 = .ok (.if_icmp .lt 6, 3) := by decide +kernel
theorem dX9_heads_64 : decode cX9_heads 64 = .ok (.bipush (-2), 2) := by decide +kernel
theorem dX9_heads_66 : decode cX9_heads 66 = .ok (.ireturn, 1) := by decide +kernel
theorem dX9_heads_67 : decode cX9_heads 67 = .ok (.aload_n 0, 1) := by decide +kernel
theorem dX9_heads_68 : decode cX9_heads 68 = .ok (.iconst 1, 1) := by decide +kernel
theorem dX9_heads_69 : decode cX9_heads 69 = .ok (.iload_n 2, 1) := by decide +kernel
theorem dX9_heads_70 : decode cX9_heads 70 = .ok (.invokevirtual 244, 3) := by decide +kernel
theorem dX9_heads_73 : decode cX9_heads 73 = .ok (.aload_n 0, 1) := by decide +kernel
theorem dX9_heads_74 : decode cX9_heads 74 = .ok (.getfield 225, 3) := by decide +kernel
theorem dX9_heads_77 : decode cX9_heads 77 = .ok (.ireturn, 1) := by decide +kernel
theorem dX9_ones_0 : decode cX9_ones 0 = .ok (.iconst 0, 1) := by decide +kernel
theorem dX9_ones_1 : decode cX9_ones 1 = .ok (.istore_n 1, 1) := by decide +kernel
theorem dX9_ones_2 : decode cX9_ones 2 = .ok (.iconst 0, 1) := by decide +kernel
theorem dX9_ones_3 : decode cX9_ones 3 = .ok (.istore_n 2, 1) := by decide +kernel
theorem dX9_ones_4 : decode cX9_ones 4 = .ok (.iload_n 2, 1) := by decide +kernel
theorem dX9_ones_5 : decode cX9_ones 5 = .ok (.bipush 12, 2) := by decide +kernel
theorem dX9_ones_7 : decode cX9_ones 7 = .ok (.if_icmp .ge 17, 3) := by decide +kernel
theorem dX9_ones_10 : decode cX9_ones 10 = .ok (.iload_n 1, 1) := by decide +kernel
theorem dX9_ones_11 : decode cX9_ones 11 = .ok (.iload_n 0, 1) := by decide +kernel
theorem dX9_ones_12 : decode cX9_ones 12 = .ok (.iload_n 2, 1) := by decide +kernel
theorem dX9_ones_13 : decode cX9_ones 13 = .ok (.ishr, 1) := by decide +kernel
theorem dX9_ones_14 : decode cX9_ones 14 = .ok (.iconst 1, 1) := by decide +kernel
theorem dX9_ones_15 : decode cX9_ones 15 = .ok (.iand, 1) := by decide +kernel
theorem dX9_ones_16 : decode cX9_ones 16 = .ok (.iadd, 1) := by decide +kernel
theorem dX9_ones_17 : decode cX9_ones 17 = .ok (.istore_n 1, 1) := by decide +kernel
theorem dX9_ones_18 : decode cX9_ones 18 = .ok (.iinc 2 1, 3) := by decide +kernel
theorem dX9_ones_21 : decode cX9_ones 21 = .ok (.goto (-17), 3) := by decide +kernel
theorem dX9_ones_24 : decode cX9_ones 24 = .ok (.iload_n 1, 1) := by decide +kernel
theorem dX9_ones_25 : decode cX9_ones 25 = .ok (.ireturn, 1) := by decide +kernel
theorem dX9_word_0 : decode cX9_word 0 = .ok (.aload_n 0, 1) := by decide +kernel
theorem dX9_word_1 : decode cX9_word 1 = .ok (.iconst 0, 1) := by decide +kernel
theorem dX9_word_2 : decode cX9_word 2 = .ok (.putfield 137, 3) := by decide +kernel
theorem dX9_word_5 : decode cX9_word 5 = .ok (.iload_n 1, 1) := by decide +kernel
theorem dX9_word_6 : decode cX9_word 6 = .ok (.iconst 0, 1) := by decide +kernel
theorem dX9_word_7 : decode cX9_word 7 = .ok (.iconst 3, 1) := by decide +kernel
theorem dX9_word_8 : decode cX9_word 8 = .ok (.invokestatic 141, 3) := by decide +kernel
theorem dX9_word_11 : decode cX9_word 11 = .ok (.ifCond .eq 22, 3) := by decide +kernel
theorem dX9_word_14 : decode cX9_word 14 = .ok (.iload_n 2, 1) := by decide +kernel
theorem dX9_word_15 : decode cX9_word 15 = .ok (.iconst 0, 1) := by decide +kernel
theorem dX9_word_16 : decode cX9_word 16 = .ok (.sipush 4095, 3) := by decide +kernel
theorem dX9_word_19 : decode cX9_word 19 = .ok (.invokestatic 141, 3) := by decide +kernel
theorem dX9_word_22 : decode cX9_word 22 = .ok (.ifCond .eq 11, 3) := by decide +kernel
theorem dX9_word_25 : decode cX9_word 25 = .ok (.iload_n 2, 1) := by decide +kernel
theorem dX9_word_26 : decode cX9_word 26 = .ok (.invokestatic 255, 3) := by decide +kernel
theorem dX9_word_29 : decode cX9_word 29 = .ok (.iconst 3, 1) := by decide +kernel
theorem dX9_word_30 : decode cX9_word 30 = .ok (.if_icmp .le 5, 3) := by decide +kernel
theorem dX9_word_33 : decode cX9_word 33 = .ok (.iconst (-1), 1) := by decide +kernel
theorem dX9_word_34 : decode cX9_word 34 = .ok (.ireturn, 1) := by decide +kernel
theorem dX9_word_35 : decode cX9_word 35 = .ok (.aload_n 0, 1) := by decide +kernel
theorem dX9_word_36 : decode cX9_word 36 = .ok (.getfield 58, 3) := by decide +kernel
theorem dX9_word_39 : decode cX9_word 39 = .ok (.iload_n 1, 1) := by decide +kernel
theorem dX9_word_40 : decode cX9_word 40 = .ok (.iaload, 1) := by decide +kernel
theorem dX9_word_41 : decode cX9_word 41 = .ok (.istore_n 3, 1) := by decide +kernel
theorem dX9_word_42 : decode cX9_word 42 = .ok (.aload_n 0, 1) := by decide +kernel
theorem dX9_word_43 : decode cX9_word 43 = .ok (.getfield 58, 3) := by decide +kernel
theorem dX9_word_46 : decode cX9_word 46 = .ok (.iload_n 1, 1) := by decide +kernel
theorem dX9_word_47 : decode cX9_word 47 = .ok (.iload_n 2, 1) := by decide +kernel
theorem dX9_word_48 : decode cX9_word 48 = .ok (.iastore, 1) := by decide +kernel
theorem dX9_word_49 : decode cX9_word 49 = .ok (.iload_n 3, 1) := by decide +kernel
theorem dX9_word_50 : decode cX9_word 50 = .ok (.ireturn, 1) := by decide +kernel
theorem dX9_say_0 : decode cX9_say 0 = .ok (.aload_n 0, 1) := by decide +kernel
theorem dX9_say_1 : decode cX9_say 1 = .ok (.iconst 0, 1) := by decide +kernel
theorem dX9_say_2 : decode cX9_say 2 = .ok (.putfield 137, 3) := by decide +kernel
theorem dX9_say_5 : decode cX9_say 5 = .ok (.iload_n 1, 1) := by decide +kernel
theorem dX9_say_6 : decode cX9_say 6 = .ok (.iconst 0, 1) := by decide +kernel
theorem dX9_say_7 : decode cX9_say 7 = .ok (.iconst 3, 1) := by decide +kernel
theorem dX9_say_8 : decode cX9_say 8 = .ok (.invokestatic 141, 3) := by decide +kernel
theorem dX9_say_11 : decode cX9_say 11 = .ok (.ifCond .ne 5, 3) := by decide +kernel
theorem dX9_say_14 : decode cX9_say 14 = .ok (.iconst (-1), 1) := by decide +kernel
theorem dX9_say_15 : decode cX9_say 15 = .ok (.ireturn, 1) := by decide +kernel
theorem dX9_say_16 : decode cX9_say 16 = .ok (.aload_n 0, 1) := by decide +kernel
theorem dX9_say_17 : decode cX9_say 17 = .ok (.getfield 258, 3) := by decide +kernel
theorem dX9_say_20 : decode cX9_say 20 = .ok (.bipush 6, 2) := by decide +kernel
theorem dX9_say_22 : decode cX9_say 22 = .ok (.if_icmp .ne 6, 3) := by decide +kernel
theorem dX9_say_25 : decode cX9_say 25 = .ok (.bipush (-3), 2) := by decide +kernel
theorem dX9_say_27 : decode cX9_say 27 = .ok (.ireturn, 1) := by decide +kernel
theorem dX9_say_28 : decode cX9_say 28 = .ok (.aload_n 0, 1) := by decide +kernel
theorem dX9_say_29 : decode cX9_say 29 = .ok (.getfield 61, 3) := by decide +kernel
theorem dX9_say_32 : decode cX9_say 32 = .ok (.aload_n 0, 1) := by decide +kernel
theorem dX9_say_33 : decode cX9_say 33 = .ok (.getfield 258, 3) := by decide +kernel
theorem dX9_say_36 : decode cX9_say 36 = .ok (.iload_n 1, 1) := by decide +kernel
theorem dX9_say_37 : decode cX9_say 37 = .ok (.iastore, 1) := by decide +kernel
theorem dX9_say_38 : decode cX9_say 38 = .ok (.aload_n 0, 1) := by decide +kernel
theorem dX9_say_39 : decode cX9_say 39 = .ok (.dup, 1) := by decide +kernel
theorem dX9_say_40 : decode cX9_say 40 = .ok (.getfield 258, 3) := by decide +kernel
theorem dX9_say_43 : decode cX9_say 43 = .ok (.iconst 1, 1) := by decide +kernel
theorem dX9_say_44 : decode cX9_say 44 = .ok (.iadd, 1) := by decide +kernel
theorem dX9_say_45 : decode cX9_say 45 = .ok (.putfield 258, 3) := by decide +kernel
theorem dX9_say_48 : decode cX9_say 48 = .ok (.aload_n 0, 1) := by decide +kernel
theorem dX9_say_49 : decode cX9_say 49 = .ok (.getfield 258, 3) := by decide +kernel
theorem dX9_say_52 : decode cX9_say 52 = .ok (.ireturn, 1) := by decide +kernel
theorem dX9_hush_0 : decode cX9_hush 0 = .ok (.aload_n 0, 1) := by decide +kernel
theorem dX9_hush_1 : decode cX9_hush 1 = .ok (.iconst 0, 1) := by decide +kernel
theorem dX9_hush_2 : decode cX9_hush 2 = .ok (.putfield 137, 3) := by decide +kernel
theorem dX9_hush_5 : decode cX9_hush 5 = .ok (.aload_n 0, 1) := by decide +kernel
theorem dX9_hush_6 : decode cX9_hush 6 = .ok (.getfield 258, 3) := by decide +kernel
theorem dX9_hush_9 : decode cX9_hush 9 = .ok (.istore_n 1, 1) := by decide +kernel
theorem dX9_hush_10 : decode cX9_hush 10 = .ok (.aload_n 0, 1) := by decide +kernel
theorem dX9_hush_11 : decode cX9_hush 11 = .ok (.iconst 0, 1) := by decide +kernel
theorem dX9_hush_12 : decode cX9_hush 12 = .ok (.putfield 258, 3) := by decide +kernel
theorem dX9_hush_15 : decode cX9_hush 15 = .ok (.iload_n 1, 1) := by decide +kernel
theorem dX9_hush_16 : decode cX9_hush 16 = .ok (.ireturn, 1) := by decide +kernel
theorem dX9_kindBehind_0 : decode cX9_kindBehind 0 = .ok (.iload_n 2, 1) := by decide +kernel
theorem dX9_kindBehind_1 : decode cX9_kindBehind 1 = .ok (.iconst 1, 1) := by decide +kernel
theorem dX9_kindBehind_2 : decode cX9_kindBehind 2 = .ok (.iadd, 1) := by decide +kernel
theorem dX9_kindBehind_3 : decode cX9_kindBehind 3 = .ok (.istore_n 3, 1) := by decide +kernel
theorem dX9_kindBehind_4 : decode cX9_kindBehind 4 = .ok (.iload_n 3, 1) := by decide +kernel
theorem dX9_kindBehind_5 : decode cX9_kindBehind 5 = .ok (.bipush 12, 2) := by decide +kernel
theorem dX9_kindBehind_7 : decode cX9_kindBehind 7 = .ok (.if_icmp .ge 22, 3) := by decide +kernel
theorem dX9_kindBehind_10 : decode cX9_kindBehind 10 = .ok (.aload_n 0, 1) := by decide +kernel
theorem dX9_kindBehind_11 : decode cX9_kindBehind 11 = .ok (.getfield 58, 3) := by decide +kernel
theorem dX9_kindBehind_14 : decode cX9_kindBehind 14 = .ok (.iload_n 1, 1) := by decide +kernel
theorem dX9_kindBehind_15 : decode cX9_kindBehind 15 = .ok (.iaload, 1) := by decide +kernel
theorem dX9_kindBehind_16 : decode cX9_kindBehind 16 = .ok (.iload_n 3, 1) := by decide +kernel
theorem dX9_kindBehind_17 : decode cX9_kindBehind 17 = .ok (.ishr, 1) := by decide +kernel
theorem dX9_kindBehind_18 : decode cX9_kindBehind 18 = .ok (.iconst 1, 1) := by decide +kernel
theorem dX9_kindBehind_19 : decode cX9_kindBehind 19 = .ok (.iand, 1) := by decide +kernel
theorem dX9_kindBehind_20 : decode cX9_kindBehind 20 = .ok (.ifCond .ne 9, 3) := by decide +kernel
theorem dX9_kindBehind_23 : decode cX9_kindBehind 23 = .ok (.iinc 3 1, 3) := by decide +kernel
theorem dX9_kindBehind_26 : decode cX9_kindBehind 26 = .ok (.goto (-22), 3) := by decide +kernel
theorem dX9_kindBehind_29 : decode cX9_kindBehind 29 = .ok (.iload_n 3, 1) := by decide +kernel
theorem dX9_kindBehind_30 : decode cX9_kindBehind 30 = .ok (.bipush 12, 2) := by decide +kernel
theorem dX9_kindBehind_32 : decode cX9_kindBehind 32 = .ok (.if_icmp .ge 7, 3) := by decide +kernel
theorem dX9_kindBehind_35 : decode cX9_kindBehind 35 = .ok (.iload_n 3, 1) := by decide +kernel
theorem dX9_kindBehind_36 : decode cX9_kindBehind 36 = .ok (.goto 5, 3) := by decide +kernel
theorem dX9_kindBehind_39 : decode cX9_kindBehind 39 = .ok (.bipush (-9), 2) := by decide +kernel
theorem dX9_kindBehind_41 : decode cX9_kindBehind 41 = .ok (.ireturn, 1) := by decide +kernel
theorem dX9_choices_0 : decode cX9_choices 0 = .ok (.iconst 0, 1) := by decide +kernel
theorem dX9_choices_1 : decode cX9_choices 1 = .ok (.istore 5, 2) := by decide +kernel
theorem dX9_choices_3 : decode cX9_choices 3 = .ok (.lconst 0, 1) := by decide +kernel
theorem dX9_choices_4 : decode cX9_choices 4 = .ok (.lstore 6, 2) := by decide +kernel
theorem dX9_choices_6 : decode cX9_choices 6 = .ok (.iconst 0, 1) := by decide +kernel
theorem dX9_choices_7 : decode cX9_choices 7 = .ok (.istore 8, 2) := by decide +kernel
theorem dX9_choices_9 : decode cX9_choices 9 = .ok (.iload_n 3, 1) := by decide +kernel
theorem dX9_choices_10 : decode cX9_choices 10 = .ok (.ifCond .le 10, 3) := by decide +kernel
theorem dX9_choices_13 : decode cX9_choices 13 = .ok (.aload_n 0, 1) := by decide +kernel
theorem dX9_choices_14 : decode cX9_choices 14 = .ok (.getfield 128, 3) := by decide +kernel
theorem dX9_choices_17 : decode cX9_choices 17 = .ok (.iconst 0, 1) := by decide +kernel
theorem dX9_choices_18 : decode cX9_choices 18 = .ok (.iconst (-1), 1) := by decide +kernel
theorem dX9_choices_19 : decode cX9_choices 19 = .ok (.iastore, 1) := by decide +kernel
theorem dX9_choices_20 : decode cX9_choices 20 = .ok (.iload 8, 2) := by decide +kernel
theorem dX9_choices_22 : decode cX9_choices 22 = .ok (.ifCond .lt 194, 3) := by decide +kernel
theorem dX9_choices_25 : decode cX9_choices 25 = .ok (.iload 4, 2) := by decide +kernel
theorem dX9_choices_27 : decode cX9_choices 27 = .ok (.iconst 2, 1) := by decide +kernel
theorem dX9_choices_28 : decode cX9_choices 28 = .ok (.if_icmp .lt 8, 3) := by decide +kernel
theorem dX9_choices_31 : decode cX9_choices 31 = .ok (.iload 5, 2) := by decide +kernel
theorem dX9_choices_33 : decode cX9_choices 33 = .ok (.ifCond .ne 183, 3) := by decide +kernel
theorem dX9_choices_36 : decode cX9_choices 36 = .ok (.iload 8, 2) := by decide +kernel
theorem dX9_choices_38 : decode cX9_choices 38 = .ok (.iload_n 3, 1) := by decide +kernel
theorem dX9_choices_39 : decode cX9_choices 39 = .ok (.if_icmp .ne 115, 3) := by decide +kernel
theorem dX9_choices_42 : decode cX9_choices 42 = .ok (.aload_n 0, 1) := by decide +kernel
theorem dX9_choices_43 : decode cX9_choices 43 = .ok (.iload_n 1, 1) := by decide +kernel
theorem dX9_choices_44 : decode cX9_choices 44 = .ok (.iconst 0, 1) := by decide +kernel
theorem dX9_choices_45 : decode cX9_choices 45 = .ok (.iload_n 3, 1) := by decide +kernel
theorem dX9_choices_46 : decode cX9_choices 46 = .ok (.invokevirtual 237, 3) := by decide +kernel
theorem dX9_choices_49 : decode cX9_choices 49 = .ok (.aload_n 0, 1) := by decide +kernel
theorem dX9_choices_50 : decode cX9_choices 50 = .ok (.invokevirtual 252, 3) := by decide +kernel
theorem dX9_choices_53 : decode cX9_choices 53 = .ok (.ifCond .ne 95, 3) := by decide +kernel
theorem dX9_choices_56 : decode cX9_choices 56 = .ok (.aload_n 0, 1) := by decide +kernel
theorem dX9_choices_57 : decode cX9_choices 57 = .ok (.invokevirtual 241, 3) := by decide +kernel
theorem dX9_choices_60 : decode cX9_choices 60 = .ok (.bipush 16, 2) := by decide +kernel
theorem dX9_choices_62 : decode cX9_choices 62 = .ok (.if_icmp .gt 86, 3) := by decide +kernel
theorem dX9_choices_65 : decode cX9_choices 65 = .ok (.aload_n 0, 1) := by decide +kernel
theorem dX9_choices_66 : decode cX9_choices 66 = .ok (.iconst 1, 1) := by decide +kernel
theorem dX9_choices_67 : decode cX9_choices 67 = .ok (.iload_n 2, 1) := by decide +kernel
theorem dX9_choices_68 : decode cX9_choices 68 = .ok (.invokevirtual 244, 3) := by decide +kernel
theorem dX9_choices_71 : decode cX9_choices 71 = .ok (.iconst 0, 1) := by decide +kernel
theorem dX9_choices_72 : decode cX9_choices 72 = .ok (.istore 9, 2) := by decide +kernel
theorem dX9_choices_74 : decode cX9_choices 74 = .ok (.iload 9, 2) := by decide +kernel
theorem dX9_choices_76 : decode cX9_choices 76 = .ok (.iload_n 3, 1) := by decide +kernel
theorem dX9_choices_77 : decode cX9_choices 77 = .ok (.if_icmp .ge 37, 3) := by decide +kernel
theorem dX9_choices_80 : decode cX9_choices 80 = .ok (.aload_n 0, 1) := by decide +kernel
theorem dX9_choices_81 : decode cX9_choices 81 = .ok (.getfield 97, 3) := by decide +kernel
theorem dX9_choices_84 : decode cX9_choices 84 = .ok (.iconst 0, 1) := by decide +kernel
theorem dX9_choices_85 : decode cX9_choices 85 = .ok (.baload, 1) := by decide +kernel
theorem dX9_choices_86 : decode cX9_choices 86 = .ok (.ifCond .eq 28, 3) := by decide +kernel
theorem dX9_choices_89 : decode cX9_choices 89 = .ok (.iload 5, 2) := by decide +kernel
theorem dX9_choices_91 : decode cX9_choices 91 = .ok (.ifCond .ne 23, 3) := by decide +kernel
theorem dX9_choices_94 : decode cX9_choices 94 = .ok (.aload_n 0, 1) := by decide +kernel
theorem dX9_choices_95 : decode cX9_choices 95 = .ok (.getfield 134, 3) := by decide +kernel
theorem dX9_choices_98 : decode cX9_choices 98 = .ok (.iload 9, 2) := by decide +kernel
theorem dX9_choices_100 : decode cX9_choices 100 = .ok (.aload_n 0, 1) := by decide +kernel
theorem dX9_choices_101 : decode cX9_choices 101 = .ok (.getfield 128, 3) := by decide +kernel
theorem dX9_choices_104 : decode cX9_choices 104 = .ok (.iload 9, 2) := by decide +kernel
theorem dX9_choices_106 : decode cX9_choices 106 = .ok (.iaload, 1) := by decide +kernel
theorem dX9_choices_107 : decode cX9_choices 107 = .ok (.iastore, 1) := by decide +kernel
theorem dX9_choices_108 : decode cX9_choices 108 = .ok (.iinc 9 1, 3) := by decide +kernel
theorem dX9_choices_111 : decode cX9_choices 111 = .ok (.goto (-37), 3) := by decide +kernel
theorem dX9_choices_114 : decode cX9_choices 114 = .ok (.iload 5, 2) := by decide +kernel
theorem dX9_choices_116 : decode cX9_choices 116 = .ok (.aload_n 0, 1) := by decide +kernel
theorem dX9_choices_117 : decode cX9_choices 117 = .ok (.getfield 97, 3) := by decide +kernel
theorem dX9_choices_120 : decode cX9_choices 120 = .ok (.iconst 0, 1) := by decide +kernel
theorem dX9_choices_121 : decode cX9_choices 121 = .ok (.baload, 1) := by decide +kernel
theorem dX9_choices_122 : decode cX9_choices 122 = .ok (.ifCond .eq 7, 3) := by decide +kernel
theorem dX9_choices_125 : decode cX9_choices 125 = .ok (.iconst 1, 1) := by decide +kernel
theorem dX9_choices_126 : decode cX9_choices 126 = .ok (.goto 4, 3) := by decide +kernel
theorem dX9_choices_129 : decode cX9_choices 129 = .ok (.iconst 0, 1) := by decide +kernel
theorem dX9_choices_130 : decode cX9_choices 130 = .ok (.iadd, 1) := by decide +kernel
theorem dX9_choices_131 : decode cX9_choices 131 = .ok (.istore 5, 2) := by decide +kernel
theorem dX9_choices_133 : decode cX9_choices 133 = .ok (.lload 6, 2) := by decide +kernel
theorem dX9_choices_135 : decode cX9_choices 135 = .ok (.aload_n 0, 1) := by decide +kernel
theorem dX9_choices_136 : decode cX9_choices 136 = .ok (.getfield 93, 3) := by decide +kernel
theorem dX9_choices_139 : decode cX9_choices 139 = .ok (.iconst 0, 1) := by decide +kernel
theorem dX9_choices_140 : decode cX9_choices 140 = .ok (.laload, 1) := by decide +kernel
theorem dX9_choices_141 : decode cX9_choices 141 = .ok (.ladd, 1) := by decide +kernel
theorem dX9_choices_142 : decode cX9_choices 142 = .ok (.ldc2_w 205, 3) := by decide +kernel
theorem dX9_choices_145 : decode cX9_choices 145 = .ok (.lrem, 1) := by decide +kernel
theorem dX9_choices_146 : decode cX9_choices 146 = .ok (.lstore 6, 2) := by decide +kernel
theorem dX9_choices_148 : decode cX9_choices 148 = .ok (.iinc 8 (-1), 3) := by decide +kernel
theorem dX9_choices_151 : decode cX9_choices 151 = .ok (.goto (-131), 3) := by decide +kernel
theorem dX9_choices_154 : decode cX9_choices 154 = .ok (.aload_n 0, 1) := by decide +kernel
theorem dX9_choices_155 : decode cX9_choices 155 = .ok (.aload_n 0, 1) := by decide +kernel
theorem dX9_choices_156 : decode cX9_choices 156 = .ok (.getfield 131, 3) := by decide +kernel
theorem dX9_choices_159 : decode cX9_choices 159 = .ok (.iload 8, 2) := by decide +kernel
theorem dX9_choices_161 : decode cX9_choices 161 = .ok (.iaload, 1) := by decide +kernel
theorem dX9_choices_162 : decode cX9_choices 162 = .ok (.aload_n 0, 1) := by decide +kernel
theorem dX9_choices_163 : decode cX9_choices 163 = .ok (.getfield 128, 3) := by decide +kernel
theorem dX9_choices_166 : decode cX9_choices 166 = .ok (.iload 8, 2) := by decide +kernel
theorem dX9_choices_168 : decode cX9_choices 168 = .ok (.iaload, 1) := by decide +kernel
theorem dX9_choices_169 : decode cX9_choices 169 = .ok (.invokevirtual 261, 3) := by decide +kernel
theorem dX9_choices_172 : decode cX9_choices 172 = .ok (.istore 9, 2) := by decide +kernel
theorem dX9_choices_174 : decode cX9_choices 174 = .ok (.aload_n 0, 1) := by decide +kernel
theorem dX9_choices_175 : decode cX9_choices 175 = .ok (.getfield 128, 3) := by decide +kernel
theorem dX9_choices_178 : decode cX9_choices 178 = .ok (.iload 8, 2) := by decide +kernel
theorem dX9_choices_180 : decode cX9_choices 180 = .ok (.iload 9, 2) := by decide +kernel
theorem dX9_choices_182 : decode cX9_choices 182 = .ok (.iastore, 1) := by decide +kernel
theorem dX9_choices_183 : decode cX9_choices 183 = .ok (.iload 9, 2) := by decide +kernel
theorem dX9_choices_185 : decode cX9_choices 185 = .ok (.bipush (-9), 2) := by decide +kernel
theorem dX9_choices_187 : decode cX9_choices 187 = .ok (.if_icmp .ne 9, 3) := by decide +kernel
theorem dX9_choices_190 : decode cX9_choices 190 = .ok (.iinc 8 (-1), 3) := by decide +kernel
theorem dX9_choices_193 : decode cX9_choices 193 = .ok (.goto 20, 3) := by decide +kernel
theorem dX9_choices_196 : decode cX9_choices 196 = .ok (.iinc 8 1, 3) := by decide +kernel
theorem dX9_choices_199 : decode cX9_choices 199 = .ok (.iload 8, 2) := by decide +kernel
theorem dX9_choices_201 : decode cX9_choices 201 = .ok (.iload_n 3, 1) := by decide +kernel
theorem dX9_choices_202 : decode cX9_choices 202 = .ok (.if_icmp .ge 11, 3) := by decide +kernel
theorem dX9_choices_205 : decode cX9_choices 205 = .ok (.aload_n 0, 1) := by decide +kernel
theorem dX9_choices_206 : decode cX9_choices 206 = .ok (.getfield 128, 3) := by decide +kernel
theorem dX9_choices_209 : decode cX9_choices 209 = .ok (.iload 8, 2) := by decide +kernel
theorem dX9_choices_211 : decode cX9_choices 211 = .ok (.iconst (-1), 1) := by decide +kernel
theorem dX9_choices_212 : decode cX9_choices 212 = .ok (.iastore, 1) := by decide +kernel
theorem dX9_choices_213 : decode cX9_choices 213 = .ok (.goto (-193), 3) := by decide +kernel
theorem dX9_choices_216 : decode cX9_choices 216 = .ok (.iload 4, 2) := by decide +kernel
theorem dX9_choices_218 : decode cX9_choices 218 = .ok (.iconst 1, 1) := by decide +kernel
theorem dX9_choices_219 : decode cX9_choices 219 = .ok (.if_icmp .ne 9, 3) := by decide +kernel
theorem dX9_choices_222 : decode cX9_choices 222 = .ok (.lload 6, 2) := by decide +kernel
theorem dX9_choices_224 : decode cX9_choices 224 = .ok (.l2i, 1) := by decide +kernel
theorem dX9_choices_225 : decode cX9_choices 225 = .ok (.goto 5, 3) := by decide +kernel
theorem dX9_choices_228 : decode cX9_choices 228 = .ok (.iload 5, 2) := by decide +kernel
theorem dX9_choices_230 : decode cX9_choices 230 = .ok (.ireturn, 1) := by decide +kernel
theorem dX9_takes_0 : decode cX9_takes 0 = .ok (.iconst 0, 1) := by decide +kernel
theorem dX9_takes_1 : decode cX9_takes 1 = .ok (.istore_n 1, 1) := by decide +kernel
theorem dX9_takes_2 : decode cX9_takes 2 = .ok (.iload_n 1, 1) := by decide +kernel
theorem dX9_takes_3 : decode cX9_takes 3 = .ok (.aload_n 0, 1) := by decide +kernel
theorem dX9_takes_4 : decode cX9_takes 4 = .ok (.getfield 258, 3) := by decide +kernel
theorem dX9_takes_7 : decode cX9_takes 7 = .ok (.if_icmp .ge 21, 3) := by decide +kernel
theorem dX9_takes_10 : decode cX9_takes 10 = .ok (.aload_n 0, 1) := by decide +kernel
theorem dX9_takes_11 : decode cX9_takes 11 = .ok (.getfield 131, 3) := by decide +kernel
theorem dX9_takes_14 : decode cX9_takes 14 = .ok (.iload_n 1, 1) := by decide +kernel
theorem dX9_takes_15 : decode cX9_takes 15 = .ok (.aload_n 0, 1) := by decide +kernel
theorem dX9_takes_16 : decode cX9_takes 16 = .ok (.getfield 61, 3) := by decide +kernel
theorem dX9_takes_19 : decode cX9_takes 19 = .ok (.iload_n 1, 1) := by decide +kernel
theorem dX9_takes_20 : decode cX9_takes 20 = .ok (.iaload, 1) := by decide +kernel
theorem dX9_takes_21 : decode cX9_takes 21 = .ok (.iastore, 1) := by decide +kernel
theorem dX9_takes_22 : decode cX9_takes 22 = .ok (.iinc 1 1, 3) := by decide +kernel
theorem dX9_takes_25 : decode cX9_takes 25 = .ok (.goto (-23), 3) := by decide +kernel
theorem dX9_takes_28 : decode cX9_takes 28 = .ok (.return_, 1) := by decide +kernel
theorem dX9_reads_0 : decode cX9_reads 0 = .ok (.aload_n 0, 1) := by decide +kernel
theorem dX9_reads_1 : decode cX9_reads 1 = .ok (.iconst 0, 1) := by decide +kernel
theorem dX9_reads_2 : decode cX9_reads 2 = .ok (.putfield 137, 3) := by decide +kernel
theorem dX9_reads_5 : decode cX9_reads 5 = .ok (.iload_n 1, 1) := by decide +kernel
theorem dX9_reads_6 : decode cX9_reads 6 = .ok (.invokestatic 164, 3) := by decide +kernel
theorem dX9_reads_9 : decode cX9_reads 9 = .ok (.ifCond .eq 19, 3) := by decide +kernel
theorem dX9_reads_12 : decode cX9_reads 12 = .ok (.iload_n 2, 1) := by decide +kernel
theorem dX9_reads_13 : decode cX9_reads 13 = .ok (.invokestatic 234, 3) := by decide +kernel
theorem dX9_reads_16 : decode cX9_reads 16 = .ok (.ifCond .eq 12, 3) := by decide +kernel
theorem dX9_reads_19 : decode cX9_reads 19 = .ok (.iload_n 3, 1) := by decide +kernel
theorem dX9_reads_20 : decode cX9_reads 20 = .ok (.iconst 0, 1) := by decide +kernel
theorem dX9_reads_21 : decode cX9_reads 21 = .ok (.iconst 1, 1) := by decide +kernel
theorem dX9_reads_22 : decode cX9_reads 22 = .ok (.invokestatic 141, 3) := by decide +kernel
theorem dX9_reads_25 : decode cX9_reads 25 = .ok (.ifCond .ne 5, 3) := by decide +kernel
theorem dX9_reads_28 : decode cX9_reads 28 = .ok (.iconst (-1), 1) := by decide +kernel
theorem dX9_reads_29 : decode cX9_reads 29 = .ok (.ireturn, 1) := by decide +kernel
theorem dX9_reads_30 : decode cX9_reads 30 = .ok (.aload_n 0, 1) := by decide +kernel
theorem dX9_reads_31 : decode cX9_reads 31 = .ok (.invokevirtual 264, 3) := by decide +kernel
theorem dX9_reads_34 : decode cX9_reads 34 = .ok (.aload_n 0, 1) := by decide +kernel
theorem dX9_reads_35 : decode cX9_reads 35 = .ok (.iload_n 1, 1) := by decide +kernel
theorem dX9_reads_36 : decode cX9_reads 36 = .ok (.iload_n 2, 1) := by decide +kernel
theorem dX9_reads_37 : decode cX9_reads 37 = .ok (.aload_n 0, 1) := by decide +kernel
theorem dX9_reads_38 : decode cX9_reads 38 = .ok (.getfield 258, 3) := by decide +kernel
theorem dX9_reads_41 : decode cX9_reads 41 = .ok (.iload_n 3, 1) := by decide +kernel
theorem dX9_reads_42 : decode cX9_reads 42 = .ok (.invokevirtual 267, 3) := by decide +kernel
theorem dX9_reads_45 : decode cX9_reads 45 = .ok (.ireturn, 1) := by decide +kernel
theorem dX9_first_0 : decode cX9_first 0 = .ok (.aload_n 0, 1) := by decide +kernel
theorem dX9_first_1 : decode cX9_first 1 = .ok (.iconst 0, 1) := by decide +kernel
theorem dX9_first_2 : decode cX9_first 2 = .ok (.putfield 137, 3) := by decide +kernel
theorem dX9_first_5 : decode cX9_first 5 = .ok (.iload_n 1, 1) := by decide +kernel
theorem dX9_first_6 : decode cX9_first 6 = .ok (.invokestatic 164, 3) := by decide +kernel
theorem dX9_first_9 : decode cX9_first 9 = .ok (.ifCond .eq 24, 3) := by decide +kernel
theorem dX9_first_12 : decode cX9_first 12 = .ok (.iload_n 2, 1) := by decide +kernel
theorem dX9_first_13 : decode cX9_first 13 = .ok (.invokestatic 234, 3) := by decide +kernel
theorem dX9_first_16 : decode cX9_first 16 = .ok (.ifCond .eq 17, 3) := by decide +kernel
theorem dX9_first_19 : decode cX9_first 19 = .ok (.iload_n 3, 1) := by decide +kernel
theorem dX9_first_20 : decode cX9_first 20 = .ok (.iconst 0, 1) := by decide +kernel
theorem dX9_first_21 : decode cX9_first 21 = .ok (.aload_n 0, 1) := by decide +kernel
theorem dX9_first_22 : decode cX9_first 22 = .ok (.getfield 258, 3) := by decide +kernel
theorem dX9_first_25 : decode cX9_first 25 = .ok (.iconst 1, 1) := by decide +kernel
theorem dX9_first_26 : decode cX9_first 26 = .ok (.isub, 1) := by decide +kernel
theorem dX9_first_27 : decode cX9_first 27 = .ok (.invokestatic 141, 3) := by decide +kernel
theorem dX9_first_30 : decode cX9_first 30 = .ok (.ifCond .ne 5, 3) := by decide +kernel
theorem dX9_first_33 : decode cX9_first 33 = .ok (.iconst (-1), 1) := by decide +kernel
theorem dX9_first_34 : decode cX9_first 34 = .ok (.ireturn, 1) := by decide +kernel
theorem dX9_first_35 : decode cX9_first 35 = .ok (.aload_n 0, 1) := by decide +kernel
theorem dX9_first_36 : decode cX9_first 36 = .ok (.invokevirtual 264, 3) := by decide +kernel
theorem dX9_first_39 : decode cX9_first 39 = .ok (.aload_n 0, 1) := by decide +kernel
theorem dX9_first_40 : decode cX9_first 40 = .ok (.iload_n 1, 1) := by decide +kernel
theorem dX9_first_41 : decode cX9_first 41 = .ok (.iload_n 2, 1) := by decide +kernel
theorem dX9_first_42 : decode cX9_first 42 = .ok (.aload_n 0, 1) := by decide +kernel
theorem dX9_first_43 : decode cX9_first 43 = .ok (.getfield 258, 3) := by decide +kernel
theorem dX9_first_46 : decode cX9_first 46 = .ok (.iconst 2, 1) := by decide +kernel
theorem dX9_first_47 : decode cX9_first 47 = .ok (.invokevirtual 267, 3) := by decide +kernel
theorem dX9_first_50 : decode cX9_first 50 = .ok (.ifCond .le 12, 3) := by decide +kernel
theorem dX9_first_53 : decode cX9_first 53 = .ok (.aload_n 0, 1) := by decide +kernel
theorem dX9_first_54 : decode cX9_first 54 = .ok (.getfield 134, 3) := by decide +kernel
theorem dX9_first_57 : decode cX9_first 57 = .ok (.iload_n 3, 1) := by decide +kernel
theorem dX9_first_58 : decode cX9_first 58 = .ok (.iaload, 1) := by decide +kernel
theorem dX9_first_59 : decode cX9_first 59 = .ok (.goto 5, 3) := by decide +kernel
theorem dX9_first_62 : decode cX9_first 62 = .ok (.bipush (-9), 2) := by decide +kernel
theorem dX9_first_64 : decode cX9_first 64 = .ok (.ireturn, 1) := by decide +kernel
theorem dX9_rows_0 : decode cX9_rows 0 = .ok (.aload_n 0, 1) := by decide +kernel
theorem dX9_rows_1 : decode cX9_rows 1 = .ok (.iconst 0, 1) := by decide +kernel
theorem dX9_rows_2 : decode cX9_rows 2 = .ok (.putfield 137, 3) := by decide +kernel
theorem dX9_rows_5 : decode cX9_rows 5 = .ok (.iload_n 1, 1) := by decide +kernel
theorem dX9_rows_6 : decode cX9_rows 6 = .ok (.invokestatic 164, 3) := by decide +kernel
theorem dX9_rows_9 : decode cX9_rows 9 = .ok (.ifCond .eq 19, 3) := by decide +kernel
theorem dX9_rows_12 : decode cX9_rows 12 = .ok (.iload_n 2, 1) := by decide +kernel
theorem dX9_rows_13 : decode cX9_rows 13 = .ok (.invokestatic 234, 3) := by decide +kernel
theorem dX9_rows_16 : decode cX9_rows 16 = .ok (.ifCond .eq 12, 3) := by decide +kernel
theorem dX9_rows_19 : decode cX9_rows 19 = .ok (.iload_n 3, 1) := by decide +kernel
theorem dX9_rows_20 : decode cX9_rows 20 = .ok (.iconst 1, 1) := by decide +kernel
theorem dX9_rows_21 : decode cX9_rows 21 = .ok (.iconst 4, 1) := by decide +kernel
theorem dX9_rows_22 : decode cX9_rows 22 = .ok (.invokestatic 141, 3) := by decide +kernel
theorem dX9_rows_25 : decode cX9_rows 25 = .ok (.ifCond .ne 5, 3) := by decide +kernel
theorem dX9_rows_28 : decode cX9_rows 28 = .ok (.iconst (-1), 1) := by decide +kernel
theorem dX9_rows_29 : decode cX9_rows 29 = .ok (.ireturn, 1) := by decide +kernel
theorem dX9_rows_30 : decode cX9_rows 30 = .ok (.iconst 0, 1) := by decide +kernel
theorem dX9_rows_31 : decode cX9_rows 31 = .ok (.istore 4, 2) := by decide +kernel
theorem dX9_rows_33 : decode cX9_rows 33 = .ok (.iconst 0, 1) := by decide +kernel
theorem dX9_rows_34 : decode cX9_rows 34 = .ok (.istore 5, 2) := by decide +kernel
theorem dX9_rows_36 : decode cX9_rows 36 = .ok (.iload 5, 2) := by decide +kernel
theorem dX9_rows_38 : decode cX9_rows 38 = .ok (.iconst 1, 1) := by decide +kernel
theorem dX9_rows_39 : decode cX9_rows 39 = .ok (.iconst 2, 1) := by decide +kernel
theorem dX9_rows_40 : decode cX9_rows 40 = .ok (.iload_n 3, 1) := by decide +kernel
theorem dX9_rows_41 : decode cX9_rows 41 = .ok (.imul, 1) := by decide +kernel
theorem dX9_rows_42 : decode cX9_rows 42 = .ok (.ishl, 1) := by decide +kernel
theorem dX9_rows_43 : decode cX9_rows 43 = .ok (.if_icmp .ge 65, 3) := by decide +kernel
theorem dX9_rows_46 : decode cX9_rows 46 = .ok (.iconst 0, 1) := by decide +kernel
theorem dX9_rows_47 : decode cX9_rows 47 = .ok (.istore 6, 2) := by decide +kernel
theorem dX9_rows_49 : decode cX9_rows 49 = .ok (.iload 6, 2) := by decide +kernel
theorem dX9_rows_51 : decode cX9_rows 51 = .ok (.iload_n 3, 1) := by decide +kernel
theorem dX9_rows_52 : decode cX9_rows 52 = .ok (.if_icmp .ge 29, 3) := by decide +kernel
theorem dX9_rows_55 : decode cX9_rows 55 = .ok (.aload_n 0, 1) := by decide +kernel
theorem dX9_rows_56 : decode cX9_rows 56 = .ok (.getfield 131, 3) := by decide +kernel
theorem dX9_rows_59 : decode cX9_rows 59 = .ok (.iload 6, 2) := by decide +kernel
theorem dX9_rows_61 : decode cX9_rows 61 = .ok (.iload 5, 2) := by decide +kernel
theorem dX9_rows_63 : decode cX9_rows 63 = .ok (.iconst 2, 1) := by decide +kernel
theorem dX9_rows_64 : decode cX9_rows 64 = .ok (.iload_n 3, 1) := by decide +kernel
theorem dX9_rows_65 : decode cX9_rows 65 = .ok (.iconst 1, 1) := by decide +kernel
theorem dX9_rows_66 : decode cX9_rows 66 = .ok (.isub, 1) := by decide +kernel
theorem dX9_rows_67 : decode cX9_rows 67 = .ok (.iload 6, 2) := by decide +kernel
theorem dX9_rows_69 : decode cX9_rows 69 = .ok (.isub, 1) := by decide +kernel
theorem dX9_rows_70 : decode cX9_rows 70 = .ok (.imul, 1) := by decide +kernel
theorem dX9_rows_71 : decode cX9_rows 71 = .ok (.ishr, 1) := by decide +kernel
theorem dX9_rows_72 : decode cX9_rows 72 = .ok (.iconst 3, 1) := by decide +kernel
theorem dX9_rows_73 : decode cX9_rows 73 = .ok (.iand, 1) := by decide +kernel
theorem dX9_rows_74 : decode cX9_rows 74 = .ok (.iastore, 1) := by decide +kernel
theorem dX9_rows_75 : decode cX9_rows 75 = .ok (.iinc 6 1, 3) := by decide +kernel
theorem dX9_rows_78 : decode cX9_rows 78 = .ok (.goto (-29), 3) := by decide +kernel
theorem dX9_rows_81 : decode cX9_rows 81 = .ok (.iload 4, 2) := by decide +kernel
theorem dX9_rows_83 : decode cX9_rows 83 = .ok (.aload_n 0, 1) := by decide +kernel
theorem dX9_rows_84 : decode cX9_rows 84 = .ok (.iload_n 1, 1) := by decide +kernel
theorem dX9_rows_85 : decode cX9_rows 85 = .ok (.iload_n 2, 1) := by decide +kernel
theorem dX9_rows_86 : decode cX9_rows 86 = .ok (.iload_n 3, 1) := by decide +kernel
theorem dX9_rows_87 : decode cX9_rows 87 = .ok (.iconst 2, 1) := by decide +kernel
theorem dX9_rows_88 : decode cX9_rows 88 = .ok (.invokevirtual 267, 3) := by decide +kernel
theorem dX9_rows_91 : decode cX9_rows 91 = .ok (.ifCond .le 7, 3) := by decide +kernel
theorem dX9_rows_94 : decode cX9_rows 94 = .ok (.iconst 1, 1) := by decide +kernel
theorem dX9_rows_95 : decode cX9_rows 95 = .ok (.goto 4, 3) := by decide +kernel
theorem dX9_rows_98 : decode cX9_rows 98 = .ok (.iconst 0, 1) := by decide +kernel
theorem dX9_rows_99 : decode cX9_rows 99 = .ok (.iadd, 1) := by decide +kernel
theorem dX9_rows_100 : decode cX9_rows 100 = .ok (.istore 4, 2) := by decide +kernel
theorem dX9_rows_102 : decode cX9_rows 102 = .ok (.iinc 5 1, 3) := by decide +kernel
theorem dX9_rows_105 : decode cX9_rows 105 = .ok (.goto (-69), 3) := by decide +kernel
theorem dX9_rows_108 : decode cX9_rows 108 = .ok (.iload 4, 2) := by decide +kernel
theorem dX9_rows_110 : decode cX9_rows 110 = .ok (.ireturn, 1) := by decide +kernel
theorem dX9_near_0 : decode cX9_near 0 = .ok (.aload_n 0, 1) := by decide +kernel
theorem dX9_near_1 : decode cX9_near 1 = .ok (.iconst 0, 1) := by decide +kernel
theorem dX9_near_2 : decode cX9_near 2 = .ok (.putfield 137, 3) := by decide +kernel
theorem dX9_near_5 : decode cX9_near 5 = .ok (.iload_n 1, 1) := by decide +kernel
theorem dX9_near_6 : decode cX9_near 6 = .ok (.invokestatic 164, 3) := by decide +kernel
theorem dX9_near_9 : decode cX9_near 9 = .ok (.ifCond .eq 24, 3) := by decide +kernel
theorem dX9_near_12 : decode cX9_near 12 = .ok (.iload_n 2, 1) := by decide +kernel
theorem dX9_near_13 : decode cX9_near 13 = .ok (.invokestatic 234, 3) := by decide +kernel
theorem dX9_near_16 : decode cX9_near 16 = .ok (.ifCond .eq 17, 3) := by decide +kernel
theorem dX9_near_19 : decode cX9_near 19 = .ok (.iload_n 3, 1) := by decide +kernel
theorem dX9_near_20 : decode cX9_near 20 = .ok (.iconst (-1), 1) := by decide +kernel
theorem dX9_near_21 : decode cX9_near 21 = .ok (.aload_n 0, 1) := by decide +kernel
theorem dX9_near_22 : decode cX9_near 22 = .ok (.getfield 258, 3) := by decide +kernel
theorem dX9_near_25 : decode cX9_near 25 = .ok (.iconst 1, 1) := by decide +kernel
theorem dX9_near_26 : decode cX9_near 26 = .ok (.isub, 1) := by decide +kernel
theorem dX9_near_27 : decode cX9_near 27 = .ok (.invokestatic 141, 3) := by decide +kernel
theorem dX9_near_30 : decode cX9_near 30 = .ok (.ifCond .ne 5, 3) := by decide +kernel
theorem dX9_near_33 : decode cX9_near 33 = .ok (.iconst (-1), 1) := by decide +kernel
theorem dX9_near_34 : decode cX9_near 34 = .ok (.ireturn, 1) := by decide +kernel
theorem dX9_near_35 : decode cX9_near 35 = .ok (.aload_n 0, 1) := by decide +kernel
theorem dX9_near_36 : decode cX9_near 36 = .ok (.getfield 258, 3) := by decide +kernel
theorem dX9_near_39 : decode cX9_near 39 = .ok (.iconst 4, 1) := by decide +kernel
theorem dX9_near_40 : decode cX9_near 40 = .ok (.if_icmp .le 6, 3) := by decide +kernel
theorem dX9_near_43 : decode cX9_near 43 = .ok (.bipush (-2), 2) := by decide +kernel
theorem dX9_near_45 : decode cX9_near 45 = .ok (.ireturn, 1) := by decide +kernel
theorem dX9_near_46 : decode cX9_near 46 = .ok (.bipush (-9), 2) := by decide +kernel
theorem dX9_near_48 : decode cX9_near 48 = .ok (.istore 4, 2) := by decide +kernel
theorem dX9_near_50 : decode cX9_near 50 = .ok (.aload_n 0, 1) := by decide +kernel
theorem dX9_near_51 : decode cX9_near 51 = .ok (.getfield 258, 3) := by decide +kernel
theorem dX9_near_54 : decode cX9_near 54 = .ok (.iconst 1, 1) := by decide +kernel
theorem dX9_near_55 : decode cX9_near 55 = .ok (.iadd, 1) := by decide +kernel
theorem dX9_near_56 : decode cX9_near 56 = .ok (.istore 5, 2) := by decide +kernel
theorem dX9_near_58 : decode cX9_near 58 = .ok (.iconst 0, 1) := by decide +kernel
theorem dX9_near_59 : decode cX9_near 59 = .ok (.istore 6, 2) := by decide +kernel
theorem dX9_near_61 : decode cX9_near 61 = .ok (.iload 6, 2) := by decide +kernel
theorem dX9_near_63 : decode cX9_near 63 = .ok (.iconst 1, 1) := by decide +kernel
theorem dX9_near_64 : decode cX9_near 64 = .ok (.iconst 2, 1) := by decide +kernel
theorem dX9_near_65 : decode cX9_near 65 = .ok (.aload_n 0, 1) := by decide +kernel
theorem dX9_near_66 : decode cX9_near 66 = .ok (.getfield 258, 3) := by decide +kernel
theorem dX9_near_69 : decode cX9_near 69 = .ok (.imul, 1) := by decide +kernel
theorem dX9_near_70 : decode cX9_near 70 = .ok (.ishl, 1) := by decide +kernel
theorem dX9_near_71 : decode cX9_near 71 = .ok (.if_icmp .ge 109, 3) := by decide +kernel
theorem dX9_near_74 : decode cX9_near 74 = .ok (.iconst 0, 1) := by decide +kernel
theorem dX9_near_75 : decode cX9_near 75 = .ok (.istore 7, 2) := by decide +kernel
theorem dX9_near_77 : decode cX9_near 77 = .ok (.iconst 0, 1) := by decide +kernel
theorem dX9_near_78 : decode cX9_near 78 = .ok (.istore 8, 2) := by decide +kernel
theorem dX9_near_80 : decode cX9_near 80 = .ok (.iload 8, 2) := by decide +kernel
theorem dX9_near_82 : decode cX9_near 82 = .ok (.aload_n 0, 1) := by decide +kernel
theorem dX9_near_83 : decode cX9_near 83 = .ok (.getfield 258, 3) := by decide +kernel
theorem dX9_near_86 : decode cX9_near 86 = .ok (.if_icmp .ge 59, 3) := by decide +kernel
theorem dX9_near_89 : decode cX9_near 89 = .ok (.aload_n 0, 1) := by decide +kernel
theorem dX9_near_90 : decode cX9_near 90 = .ok (.getfield 131, 3) := by decide +kernel
theorem dX9_near_93 : decode cX9_near 93 = .ok (.iload 8, 2) := by decide +kernel
theorem dX9_near_95 : decode cX9_near 95 = .ok (.iload 6, 2) := by decide +kernel
theorem dX9_near_97 : decode cX9_near 97 = .ok (.iconst 2, 1) := by decide +kernel
theorem dX9_near_98 : decode cX9_near 98 = .ok (.aload_n 0, 1) := by decide +kernel
theorem dX9_near_99 : decode cX9_near 99 = .ok (.getfield 258, 3) := by decide +kernel
theorem dX9_near_102 : decode cX9_near 102 = .ok (.iconst 1, 1) := by decide +kernel
theorem dX9_near_103 : decode cX9_near 103 = .ok (.isub, 1) := by decide +kernel
theorem dX9_near_104 : decode cX9_near 104 = .ok (.iload 8, 2) := by decide +kernel
theorem dX9_near_106 : decode cX9_near 106 = .ok (.isub, 1) := by decide +kernel
theorem dX9_near_107 : decode cX9_near 107 = .ok (.imul, 1) := by decide +kernel
theorem dX9_near_108 : decode cX9_near 108 = .ok (.ishr, 1) := by decide +kernel
theorem dX9_near_109 : decode cX9_near 109 = .ok (.iconst 3, 1) := by decide +kernel
theorem dX9_near_110 : decode cX9_near 110 = .ok (.iand, 1) := by decide +kernel
theorem dX9_near_111 : decode cX9_near 111 = .ok (.iastore, 1) := by decide +kernel
theorem dX9_near_112 : decode cX9_near 112 = .ok (.iload 7, 2) := by decide +kernel
theorem dX9_near_114 : decode cX9_near 114 = .ok (.aload_n 0, 1) := by decide +kernel
theorem dX9_near_115 : decode cX9_near 115 = .ok (.getfield 131, 3) := by decide +kernel
theorem dX9_near_118 : decode cX9_near 118 = .ok (.iload 8, 2) := by decide +kernel
theorem dX9_near_120 : decode cX9_near 120 = .ok (.iaload, 1) := by decide +kernel
theorem dX9_near_121 : decode cX9_near 121 = .ok (.aload_n 0, 1) := by decide +kernel
theorem dX9_near_122 : decode cX9_near 122 = .ok (.getfield 61, 3) := by decide +kernel
theorem dX9_near_125 : decode cX9_near 125 = .ok (.iload 8, 2) := by decide +kernel
theorem dX9_near_127 : decode cX9_near 127 = .ok (.iaload, 1) := by decide +kernel
theorem dX9_near_128 : decode cX9_near 128 = .ok (.if_icmp .ne 7, 3) := by decide +kernel
theorem dX9_near_131 : decode cX9_near 131 = .ok (.iconst 0, 1) := by decide +kernel
theorem dX9_near_132 : decode cX9_near 132 = .ok (.goto 4, 3) := by decide +kernel
theorem dX9_near_135 : decode cX9_near 135 = .ok (.iconst 1, 1) := by decide +kernel
theorem dX9_near_136 : decode cX9_near 136 = .ok (.iadd, 1) := by decide +kernel
theorem dX9_near_137 : decode cX9_near 137 = .ok (.istore 7, 2) := by decide +kernel
theorem dX9_near_139 : decode cX9_near 139 = .ok (.iinc 8 1, 3) := by decide +kernel
theorem dX9_near_142 : decode cX9_near 142 = .ok (.goto (-62), 3) := by decide +kernel
theorem dX9_near_145 : decode cX9_near 145 = .ok (.iload 7, 2) := by decide +kernel
theorem dX9_near_147 : decode cX9_near 147 = .ok (.iload 5, 2) := by decide +kernel
theorem dX9_near_149 : decode cX9_near 149 = .ok (.if_icmp .ge 25, 3) := by decide +kernel
theorem dX9_near_152 : decode cX9_near 152 = .ok (.aload_n 0, 1) := by decide +kernel
theorem dX9_near_153 : decode cX9_near 153 = .ok (.iload_n 1, 1) := by decide +kernel
theorem dX9_near_154 : decode cX9_near 154 = .ok (.iload_n 2, 1) := by decide +kernel
theorem dX9_near_155 : decode cX9_near 155 = .ok (.aload_n 0, 1) := by decide +kernel
theorem dX9_near_156 : decode cX9_near 156 = .ok (.getfield 258, 3) := by decide +kernel
theorem dX9_near_159 : decode cX9_near 159 = .ok (.iconst 2, 1) := by decide +kernel
theorem dX9_near_160 : decode cX9_near 160 = .ok (.invokevirtual 267, 3) := by decide +kernel
theorem dX9_near_163 : decode cX9_near 163 = .ok (.ifCond .le 11, 3) := by decide +kernel
theorem dX9_near_166 : decode cX9_near 166 = .ok (.iload 6, 2) := by decide +kernel
theorem dX9_near_168 : decode cX9_near 168 = .ok (.istore 4, 2) := by decide +kernel
theorem dX9_near_170 : decode cX9_near 170 = .ok (.iload 7, 2) := by decide +kernel
theorem dX9_near_172 : decode cX9_near 172 = .ok (.istore 5, 2) := by decide +kernel
theorem dX9_near_174 : decode cX9_near 174 = .ok (.iinc 6 1, 3) := by decide +kernel
theorem dX9_near_177 : decode cX9_near 177 = .ok (.goto (-116), 3) := by decide +kernel
theorem dX9_near_180 : decode cX9_near 180 = .ok (.iload 4, 2) := by decide +kernel
theorem dX9_near_182 : decode cX9_near 182 = .ok (.bipush (-9), 2) := by decide +kernel
theorem dX9_near_184 : decode cX9_near 184 = .ok (.if_icmp .ne 8, 3) := by decide +kernel
theorem dX9_near_187 : decode cX9_near 187 = .ok (.bipush (-9), 2) := by decide +kernel
theorem dX9_near_189 : decode cX9_near 189 = .ok (.goto 27, 3) := by decide +kernel
theorem dX9_near_192 : decode cX9_near 192 = .ok (.iload_n 3, 1) := by decide +kernel
theorem dX9_near_193 : decode cX9_near 193 = .ok (.ifCond .ge 8, 3) := by decide +kernel
theorem dX9_near_196 : decode cX9_near 196 = .ok (.iload 5, 2) := by decide +kernel
theorem dX9_near_198 : decode cX9_near 198 = .ok (.goto 18, 3) := by decide +kernel
theorem dX9_near_201 : decode cX9_near 201 = .ok (.iload 4, 2) := by decide +kernel
theorem dX9_near_203 : decode cX9_near 203 = .ok (.iconst 2, 1) := by decide +kernel
theorem dX9_near_204 : decode cX9_near 204 = .ok (.aload_n 0, 1) := by decide +kernel
theorem dX9_near_205 : decode cX9_near 205 = .ok (.getfield 258, 3) := by decide +kernel
theorem dX9_near_208 : decode cX9_near 208 = .ok (.iconst 1, 1) := by decide +kernel
theorem dX9_near_209 : decode cX9_near 209 = .ok (.isub, 1) := by decide +kernel
theorem dX9_near_210 : decode cX9_near 210 = .ok (.iload_n 3, 1) := by decide +kernel
theorem dX9_near_211 : decode cX9_near 211 = .ok (.isub, 1) := by decide +kernel
theorem dX9_near_212 : decode cX9_near 212 = .ok (.imul, 1) := by decide +kernel
theorem dX9_near_213 : decode cX9_near 213 = .ok (.ishr, 1) := by decide +kernel
theorem dX9_near_214 : decode cX9_near 214 = .ok (.iconst 3, 1) := by decide +kernel
theorem dX9_near_215 : decode cX9_near 215 = .ok (.iand, 1) := by decide +kernel
theorem dX9_near_216 : decode cX9_near 216 = .ok (.ireturn, 1) := by decide +kernel
theorem dX9_count_0 : decode cX9_count 0 = .ok (.aload_n 0, 1) := by decide +kernel
theorem dX9_count_1 : decode cX9_count 1 = .ok (.iconst 0, 1) := by decide +kernel
theorem dX9_count_2 : decode cX9_count 2 = .ok (.putfield 137, 3) := by decide +kernel
theorem dX9_count_5 : decode cX9_count 5 = .ok (.iconst 0, 1) := by decide +kernel
theorem dX9_count_6 : decode cX9_count 6 = .ok (.istore_n 2, 1) := by decide +kernel
theorem dX9_count_7 : decode cX9_count 7 = .ok (.iconst 0, 1) := by decide +kernel
theorem dX9_count_8 : decode cX9_count 8 = .ok (.istore_n 3, 1) := by decide +kernel
theorem dX9_count_9 : decode cX9_count 9 = .ok (.iload_n 3, 1) := by decide +kernel
theorem dX9_count_10 : decode cX9_count 10 = .ok (.aload_n 0, 1) := by decide +kernel
theorem dX9_count_11 : decode cX9_count 11 = .ok (.getfield 190, 3) := by decide +kernel
theorem dX9_count_14 : decode cX9_count 14 = .ok (.if_icmp .ge 20, 3) := by decide +kernel
theorem dX9_count_17 : decode cX9_count 17 = .ok (.iload_n 2, 1) := by decide +kernel
theorem dX9_count_18 : decode cX9_count 18 = .ok (.aload_n 0, 1) := by decide +kernel
theorem dX9_count_19 : decode cX9_count 19 = .ok (.bipush 12, 2) := by decide +kernel
theorem dX9_count_21 : decode cX9_count 21 = .ok (.iload_n 3, 1) := by decide +kernel
theorem dX9_count_22 : decode cX9_count 22 = .ok (.iadd, 1) := by decide +kernel
theorem dX9_count_23 : decode cX9_count 23 = .ok (.invokevirtual 175, 3) := by decide +kernel
theorem dX9_count_26 : decode cX9_count 26 = .ok (.iadd, 1) := by decide +kernel
theorem dX9_count_27 : decode cX9_count 27 = .ok (.istore_n 2, 1) := by decide +kernel
theorem dX9_count_28 : decode cX9_count 28 = .ok (.iinc 3 1, 3) := by decide +kernel
theorem dX9_count_31 : decode cX9_count 31 = .ok (.goto (-22), 3) := by decide +kernel
theorem dX9_count_34 : decode cX9_count 34 = .ok (.iload_n 1, 1) := by decide +kernel
theorem dX9_count_35 : decode cX9_count 35 = .ok (.ifCond .ne 10, 3) := by decide +kernel
theorem dX9_count_38 : decode cX9_count 38 = .ok (.aload_n 0, 1) := by decide +kernel
theorem dX9_count_39 : decode cX9_count 39 = .ok (.getfield 190, 3) := by decide +kernel
theorem dX9_count_42 : decode cX9_count 42 = .ok (.goto 37, 3) := by decide +kernel
theorem dX9_count_45 : decode cX9_count 45 = .ok (.iload_n 1, 1) := by decide +kernel
theorem dX9_count_46 : decode cX9_count 46 = .ok (.iconst 1, 1) := by decide +kernel
theorem dX9_count_47 : decode cX9_count 47 = .ok (.if_icmp .ne 10, 3) := by decide +kernel
theorem dX9_count_50 : decode cX9_count 50 = .ok (.aload_n 0, 1) := by decide +kernel
theorem dX9_count_51 : decode cX9_count 51 = .ok (.getfield 258, 3) := by decide +kernel
theorem dX9_count_54 : decode cX9_count 54 = .ok (.goto 25, 3) := by decide +kernel
theorem dX9_count_57 : decode cX9_count 57 = .ok (.iload_n 1, 1) := by decide +kernel
theorem dX9_count_58 : decode cX9_count 58 = .ok (.iconst 2, 1) := by decide +kernel
theorem dX9_count_59 : decode cX9_count 59 = .ok (.if_icmp .ne 10, 3) := by decide +kernel
theorem dX9_count_62 : decode cX9_count 62 = .ok (.aload_n 0, 1) := by decide +kernel
theorem dX9_count_63 : decode cX9_count 63 = .ok (.getfield 145, 3) := by decide +kernel
theorem dX9_count_66 : decode cX9_count 66 = .ok (.goto 13, 3) := by decide +kernel
theorem dX9_count_69 : decode cX9_count 69 = .ok (.iload_n 1, 1) := by decide +kernel
theorem dX9_count_70 : decode cX9_count 70 = .ok (.iconst 3, 1) := by decide +kernel
theorem dX9_count_71 : decode cX9_count 71 = .ok (.if_icmp .ne 7, 3) := by decide +kernel
theorem dX9_count_74 : decode cX9_count 74 = .ok (.iload_n 2, 1) := by decide +kernel
theorem dX9_count_75 : decode cX9_count 75 = .ok (.goto 4, 3) := by decide +kernel
theorem dX9_count_78 : decode cX9_count 78 = .ok (.iconst (-1), 1) := by decide +kernel
theorem dX9_count_79 : decode cX9_count 79 = .ok (.ireturn, 1) := by decide +kernel
