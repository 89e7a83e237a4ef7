theorem dX16_init_0 : decode cX16_init 0 = .ok (.aload_n 0, 1) := by decide +kernel
theorem dX16_init_1 : decode cX16_init 1 = .ok (.invokespecial 1, 3) := by decide +kernel
theorem dX16_init_4 : decode cX16_init 4 = .ok (.aload_n 0, 1) := by decide +kernel
theorem dX16_init_5 : decode cX16_init 5 = .ok (.ldc 9, 2) := by decide +kernel
theorem dX16_init_7 : decode cX16_init 7 = .ok (.newarray .byte, 2) := by decide +kernel
theorem dX16_init_9 : decode cX16_init 9 = .ok (.putfield 10, 3) := by decide +kernel
theorem dX16_init_12 : decode cX16_init 12 = .ok (.aload_n 0, 1) := by decide +kernel
theorem dX16_init_13 : decode cX16_init 13 = .ok (.bipush 16, 2) := by decide +kernel
theorem dX16_init_15 : decode cX16_init 15 = .ok (.anewarray 14, 3) := by decide +kernel
theorem dX16_init_18 : decode cX16_init 18 = .ok (.putfield 16, 3) := by decide +kernel
theorem dX16_init_21 : decode cX16_init 21 = .ok (.aload_n 0, 1) := by decide +kernel
theorem dX16_init_22 : decode cX16_init 22 = .ok (.new 20, 3) := by decide +kernel
theorem dX16_init_25 : decode cX16_init 25 = .ok (.dup, 1) := by decide +kernel
theorem dX16_init_26 : decode cX16_init 26 = .ok (.invokespecial 22, 3) := by decide +kernel
theorem dX16_init_29 : decode cX16_init 29 = .ok (.putfield 23, 3) := by decide +kernel
theorem dX16_init_32 : decode cX16_init 32 = .ok (.aload_n 0, 1) := by decide +kernel
theorem dX16_init_33 : decode cX16_init 33 = .ok (.ldc 27, 2) := by decide +kernel
theorem dX16_init_35 : decode cX16_init 35 = .ok (.newarray .int, 2) := by decide +kernel
theorem dX16_init_37 : decode cX16_init 37 = .ok (.putfield 28, 3) := by decide +kernel
theorem dX16_init_40 : decode cX16_init 40 = .ok (.aload_n 0, 1) := by decide +kernel
theorem dX16_init_41 : decode cX16_init 41 = .ok (.ldc 27, 2) := by decide +kernel
theorem dX16_init_43 : decode cX16_init 43 = .ok (.newarray .int, 2) := by decide +kernel
theorem dX16_init_45 : decode cX16_init 45 = .ok (.putfield 32, 3) := by decide +kernel
theorem dX16_init_48 : decode cX16_init 48 = .ok (.aload_n 0, 1) := by decide +kernel
theorem dX16_init_49 : decode cX16_init 49 = .ok (.sipush 128, 3) := by decide +kernel
theorem dX16_init_52 : decode cX16_init 52 = .ok (.newarray .boolean, 2) := by decide +kernel
theorem dX16_init_54 : decode cX16_init 54 = .ok (.putfield 35, 3) := by decide +kernel
theorem dX16_init_57 : decode cX16_init 57 = .ok (.aload_n 0, 1) := by decide +kernel
theorem dX16_init_58 : decode cX16_init 58 = .ok (.sipush 1001, 3) := by decide +kernel
theorem dX16_init_61 : decode cX16_init 61 = .ok (.newarray .int, 2) := by decide +kernel
theorem dX16_init_63 : decode cX16_init 63 = .ok (.putfield 39, 3) := by decide +kernel
theorem dX16_init_66 : decode cX16_init 66 = .ok (.aload_n 0, 1) := by decide +kernel
theorem dX16_init_67 : decode cX16_init 67 = .ok (.sipush 200, 3) := by decide +kernel
theorem dX16_init_70 : decode cX16_init 70 = .ok (.newarray .int, 2) := by decide +kernel
theorem dX16_init_72 : decode cX16_init 72 = .ok (.putfield 42, 3) := by decide +kernel
theorem dX16_init_75 : decode cX16_init 75 = .ok (.aload_n 0, 1) := by decide +kernel
theorem dX16_init_76 : decode cX16_init 76 = .ok (.sipush 200, 3) := by decide +kernel
theorem dX16_init_79 : decode cX16_init 79 = .ok (.newarray .long, 2) := by decide +kernel
theorem dX16_init_81 : decode cX16_init 81 = .ok (.putfield 45, 3) := by decide +kernel
theorem dX16_init_84 : decode cX16_init 84 = .ok (.aload_n 0, 1) := by decide +kernel
theorem dX16_init_85 : decode cX16_init 85 = .ok (.sipush 200, 3) := by decide +kernel
theorem dX16_init_88 : decode cX16_init 88 = .ok (.newarray .int, 2) := by decide +kernel
theorem dX16_init_90 : decode cX16_init 90 = .ok (.putfield 49, 3) := by decide +kernel
theorem dX16_init_93 : decode cX16_init 93 = .ok (.aload_n 0, 1) := by decide +kernel
theorem dX16_init_94 : decode cX16_init 94 = .ok (.sipush 200, 3) := by decide +kernel
theorem dX16_init_97 : decode cX16_init 97 = .ok (.newarray .boolean, 2) := by decide +kernel
theorem dX16_init_99 : decode cX16_init 99 = .ok (.putfield 52, 3) := by decide +kernel
theorem dX16_init_102 : decode cX16_init 102 = .ok (.aload_n 0, 1) := by decide +kernel
theorem dX16_init_103 : decode cX16_init 103 = .ok (.bipush 16, 2) := by decide +kernel
theorem dX16_init_105 : decode cX16_init 105 = .ok (.newarray .int, 2) := by decide +kernel
theorem dX16_init_107 : decode cX16_init 107 = .ok (.putfield 55, 3) := by decide +kernel
theorem dX16_init_110 : decode cX16_init 110 = .ok (.aload_n 0, 1) := by decide +kernel
theorem dX16_init_111 : decode cX16_init 111 = .ok (.new 58, 3) := by decide +kernel
theorem dX16_init_114 : decode cX16_init 114 = .ok (.dup, 1) := by decide +kernel
theorem dX16_init_115 : decode cX16_init 115 = .ok (.invokespecial 60, 3) := by decide +kernel
theorem dX16_init_118 : decode cX16_init 118 = .ok (.putfield 61, 3) := by decide +kernel
theorem dX16_init_121 : decode cX16_init 121 = .ok (.aload_n 0, 1) := by decide +kernel
theorem dX16_init_122 : decode cX16_init 122 = .ok (.new 58, 3) := by decide +kernel
theorem dX16_init_125 : decode cX16_init 125 = .ok (.dup, 1) := by decide +kernel
theorem dX16_init_126 : decode cX16_init 126 = .ok (.invokespecial 60, 3) := by decide +kernel
theorem dX16_init_129 : decode cX16_init 129 = .ok (.putfield 65, 3) := by decide +kernel
theorem dX16_init_132 : decode cX16_init 132 = .ok (.aload_n 0, 1) := by decide +kernel
theorem dX16_init_133 : decode cX16_init 133 = .ok (.sipush 512, 3) := by decide +kernel
theorem dX16_init_136 : decode cX16_init 136 = .ok (.newarray .int, 2) := by decide +kernel
theorem dX16_init_138 : decode cX16_init 138 = .ok (.putfield 68, 3) := by decide +kernel
theorem dX16_init_141 : decode cX16_init 141 = .ok (.aload_n 0, 1) := by decide +kernel
theorem dX16_init_142 : decode cX16_init 142 = .ok (.sipush 512, 3) := by decide +kernel
theorem dX16_init_145 : decode cX16_init 145 = .ok (.newarray .int, 2) := by decide +kernel
theorem dX16_init_147 : decode cX16_init 147 = .ok (.putfield 71, 3) := by decide +kernel
theorem dX16_init_150 : decode cX16_init 150 = .ok (.aload_n 0, 1) := by decide +kernel
theorem dX16_init_151 : decode cX16_init 151 = .ok (.sipush 512, 3) := by decide +kernel
theorem dX16_init_154 : decode cX16_init 154 = .ok (.newarray .int, 2) := by decide +kernel
theorem dX16_init_156 : decode cX16_init 156 = .ok (.putfield 74, 3) := by decide +kernel
theorem dX16_init_159 : decode cX16_init 159 = .ok (.aload_n 0, 1) := by decide +kernel
theorem dX16_init_160 : decode cX16_init 160 = .ok (.sipush 512, 3) := by decide +kernel
theorem dX16_init_163 : decode cX16_init 163 = .ok (.newarray .int, 2) := by decide +kernel
theorem dX16_init_165 : decode cX16_init 165 = .ok (.putfield 77, 3) := by decide +kernel
theorem dX16_init_168 : decode cX16_init 168 = .ok (.aload_n 0, 1) := by decide +kernel
theorem dX16_init_169 : decode cX16_init 169 = .ok (.sipush 512, 3) := by decide +kernel
theorem dX16_init_172 : decode cX16_init 172 = .ok (.newarray .int, 2) := by decide +kernel
theorem dX16_init_174 : decode cX16_init 174 = .ok (.putfield 80, 3) := by decide +kernel
theorem dX16_init_177 : decode cX16_init 177 = .ok (.aload_n 0, 1) := by decide +kernel
theorem dX16_init_178 : decode cX16_init 178 = .ok (.sipush 512, 3) := by decide +kernel
theorem dX16_init_181 : decode cX16_init 181 = .ok (.newarray .int, 2) := by decide +kernel
theorem dX16_init_183 : decode cX16_init 183 = .ok (.putfield 83, 3) := by decide +kernel
theorem dX16_init_186 : decode cX16_init 186 = .ok (.aload_n 0, 1) := by decide +kernel
theorem dX16_init_187 : decode cX16_init 187 = .ok (.sipush 512, 3) := by decide +kernel
theorem dX16_init_190 : decode cX16_init 190 = .ok (.newarray .boolean, 2) := by decide +kernel
theorem dX16_init_192 : decode cX16_init 192 = .ok (.putfield 86, 3) := by decide +kernel
theorem dX16_init_195 : decode cX16_init 195 = .ok (.aload_n 0, 1) := by decide +kernel
theorem dX16_init_196 : decode cX16_init 196 = .ok (.sipush 1024, 3) := by decide +kernel
theorem dX16_init_199 : decode cX16_init 199 = .ok (.putfield 89, 3) := by decide +kernel
theorem dX16_init_202 : decode cX16_init 202 = .ok (.aload_n 0, 1) := by decide +kernel
theorem dX16_init_203 : decode cX16_init 203 = .ok (.bipush 32, 2) := by decide +kernel
theorem dX16_init_205 : decode cX16_init 205 = .ok (.newarray .int, 2) := by decide +kernel
theorem dX16_init_207 : decode cX16_init 207 = .ok (.putfield 93, 3) := by decide +kernel
theorem dX16_init_210 : decode cX16_init 210 = .ok (.aload_n 0, 1) := by decide +kernel
theorem dX16_init_211 : decode cX16_init 211 = .ok (.bipush 32, 2) := by decide +kernel
theorem dX16_init_213 : decode cX16_init 213 = .ok (.newarray .int, 2) := by decide +kernel
theorem dX16_init_215 : decode cX16_init 215 = .ok (.putfield 96, 3) := by decide +kernel
theorem dX16_init_218 : decode cX16_init 218 = .ok (.aload_n 0, 1) := by decide +kernel
theorem dX16_init_219 : decode cX16_init 219 = .ok (.bipush 32, 2) := by decide +kernel
theorem dX16_init_221 : decode cX16_init 221 = .ok (.newarray .long, 2) := by decide +kernel
theorem dX16_init_223 : decode cX16_init 223 = .ok (.putfield 99, 3) := by decide +kernel
theorem dX16_init_226 : decode cX16_init 226 = .ok (.aload_n 0, 1) := by decide +kernel
theorem dX16_init_227 : decode cX16_init 227 = .ok (.ldc 102, 2) := by decide +kernel
theorem dX16_init_229 : decode cX16_init 229 = .ok (.newarray .int, 2) := by decide +kernel
theorem dX16_init_231 : decode cX16_init 231 = .ok (.putfield 103, 3) := by decide +kernel
theorem dX16_init_234 : decode cX16_init 234 = .ok (.aload_n 0, 1) := by decide +kernel
theorem dX16_init_235 : decode cX16_init 235 = .ok (.bipush 8, 2) := by decide +kernel
theorem dX16_init_237 : decode cX16_init 237 = .ok (.putfield 106, 3) := by decide +kernel
theorem dX16_init_240 : decode cX16_init 240 = .ok (.aload_n 0, 1) := by decide +kernel
theorem dX16_init_241 : decode cX16_init 241 = .ok (.bipush 16, 2) := by decide +kernel
theorem dX16_init_243 : decode cX16_init 243 = .ok (.newarray .int, 2) := by decide +kernel
theorem dX16_init_245 : decode cX16_init 245 = .ok (.putfield 109, 3) := by decide +kernel
theorem dX16_init_248 : decode cX16_init 248 = .ok (.aload_n 0, 1) := by decide +kernel
theorem dX16_init_249 : decode cX16_init 249 = .ok (.bipush 16, 2) := by decide +kernel
theorem dX16_init_251 : decode cX16_init 251 = .ok (.newarray .long, 2) := by decide +kernel
theorem dX16_init_253 : decode cX16_init 253 = .ok (.putfield 112, 3) := by decide +kernel
theorem dX16_init_256 : decode cX16_init 256 = .ok (.aload_n 0, 1) := by decide +kernel
theorem dX16_init_257 : decode cX16_init 257 = .ok (.sipush 128, 3) := by decide +kernel
theorem dX16_init_260 : decode cX16_init 260 = .ok (.newarray .int, 2) := by decide +kernel
theorem dX16_init_262 : decode cX16_init 262 = .ok (.putfield 115, 3) := by decide +kernel
theorem dX16_init_265 : decode cX16_init 265 = .ok (.aload_n 0, 1) := by decide +kernel
theorem dX16_init_266 : decode cX16_init 266 = .ok (.ldc 118, 2) := by decide +kernel
theorem dX16_init_268 : decode cX16_init 268 = .ok (.newarray .byte, 2) := by decide +kernel
theorem dX16_init_270 : decode cX16_init 270 = .ok (.putfield 119, 3) := by decide +kernel
theorem dX16_init_273 : decode cX16_init 273 = .ok (.aload_n 0, 1) := by decide +kernel
theorem dX16_init_274 : decode cX16_init 274 = .ok (.sipush 256, 3) := by decide +kernel
theorem dX16_init_277 : decode cX16_init 277 = .ok (.newarray .int, 2) := by decide +kernel
theorem dX16_init_279 : decode cX16_init 279 = .ok (.putfield 122, 3) := by decide +kernel
theorem dX16_init_282 : decode cX16_init 282 = .ok (.aload_n 0, 1) := by decide +kernel
theorem dX16_init_283 : decode cX16_init 283 = .ok (.sipush 256, 3) := by decide +kernel
theorem dX16_init_286 : decode cX16_init 286 = .ok (.newarray .boolean, 2) := by decide +kernel
theorem dX16_init_288 : decode cX16_init 288 = .ok (.putfield 125, 3) := by decide +kernel
theorem dX16_init_291 : decode cX16_init 291 = .ok (.aload_n 0, 1) := by decide +kernel
theorem dX16_init_292 : decode cX16_init 292 = .ok (.sipush 256, 3) := by decide +kernel
theorem dX16_init_295 : decode cX16_init 295 = .ok (.newarray .long, 2) := by decide +kernel
theorem dX16_init_297 : decode cX16_init 297 = .ok (.putfield 128, 3) := by decide +kernel
theorem dX16_init_300 : decode cX16_init 300 = .ok (.aload_n 0, 1) := by decide +kernel
theorem dX16_init_301 : decode cX16_init 301 = .ok (.bipush 16, 2) := by decide +kernel
theorem dX16_init_303 : decode cX16_init 303 = .ok (.newarray .int, 2) := by decide +kernel
theorem dX16_init_305 : decode cX16_init 305 = .ok (.putfield 131, 3) := by decide +kernel
theorem dX16_init_308 : decode cX16_init 308 = .ok (.aload_n 0, 1) := by decide +kernel
theorem dX16_init_309 : decode cX16_init 309 = .ok (.sipush 2048, 3) := by decide +kernel
theorem dX16_init_312 : decode cX16_init 312 = .ok (.newarray .int, 2) := by decide +kernel
theorem dX16_init_314 : decode cX16_init 314 = .ok (.putfield 134, 3) := by decide +kernel
theorem dX16_init_317 : decode cX16_init 317 = .ok (.aload_n 0, 1) := by decide +kernel
theorem dX16_init_318 : decode cX16_init 318 = .ok (.sipush 2048, 3) := by decide +kernel
theorem dX16_init_321 : decode cX16_init 321 = .ok (.newarray .int, 2) := by decide +kernel
theorem dX16_init_323 : decode cX16_init 323 = .ok (.putfield 137, 3) := by decide +kernel
theorem dX16_init_326 : decode cX16_init 326 = .ok (.aload_n 0, 1) := by decide +kernel
theorem dX16_init_327 : decode cX16_init 327 = .ok (.sipush 2048, 3) := by decide +kernel
theorem dX16_init_330 : decode cX16_init 330 = .ok (.newarray .int, 2) := by decide +kernel
theorem dX16_init_332 : decode cX16_init 332 = .ok (.putfield 140, 3) := by decide +kernel
theorem dX16_init_335 : decode cX16_init 335 = .ok (.aload_n 0, 1) := by decide +kernel
theorem dX16_init_336 : decode cX16_init 336 = .ok (.sipush 2048, 3) := by decide +kernel
theorem dX16_init_339 : decode cX16_init 339 = .ok (.newarray .int, 2) := by decide +kernel
theorem dX16_init_341 : decode cX16_init 341 = .ok (.putfield 143, 3) := by decide +kernel
theorem dX16_init_344 : decode cX16_init 344 = .ok (.aload_n 0, 1) := by decide +kernel
theorem dX16_init_345 : decode cX16_init 345 = .ok (.sipush 1024, 3) := by decide +kernel
theorem dX16_init_348 : decode cX16_init 348 = .ok (.newarray .int, 2) := by decide +kernel
theorem dX16_init_350 : decode cX16_init 350 = .ok (.putfield 146, 3) := by decide +kernel
theorem dX16_init_353 : decode cX16_init 353 = .ok (.aload_n 0, 1) := by decide +kernel
theorem dX16_init_354 : decode cX16_init 354 = .ok (.sipush 1024, 3) := by decide +kernel
theorem dX16_init_357 : decode cX16_init 357 = .ok (.newarray .int, 2) := by decide +kernel
theorem dX16_init_359 : decode cX16_init 359 = .ok (.putfield 149, 3) := by decide +kernel
theorem dX16_init_362 : decode cX16_init 362 = .ok (.aload_n 0, 1) := by decide +kernel
theorem dX16_init_363 : decode cX16_init 363 = .ok (.sipush 1024, 3) := by decide +kernel
theorem dX16_init_366 : decode cX16_init 366 = .ok (.newarray .boolean, 2) := by decide +kernel
theorem dX16_init_368 : decode cX16_init 368 = .ok (.putfield 152, 3) := by decide +kernel
theorem dX16_init_371 : decode cX16_init 371 = .ok (.aload_n 0, 1) := by decide +kernel
theorem dX16_init_372 : decode cX16_init 372 = .ok (.sipush 2048, 3) := by decide +kernel
theorem dX16_init_375 : decode cX16_init 375 = .ok (.newarray .int, 2) := by decide +kernel
theorem dX16_init_377 : decode cX16_init 377 = .ok (.putfield 155, 3) := by decide +kernel
theorem dX16_init_380 : decode cX16_init 380 = .ok (.aload_n 0, 1) := by decide +kernel
theorem dX16_init_381 : decode cX16_init 381 = .ok (.bipush 64, 2) := by decide +kernel
theorem dX16_init_383 : decode cX16_init 383 = .ok (.newarray .int, 2) := by decide +kernel
theorem dX16_init_385 : decode cX16_init 385 = .ok (.putfield 158, 3) := by decide +kernel
theorem dX16_init_388 : decode cX16_init 388 = .ok (.aload_n 0, 1) := by decide +kernel
theorem dX16_init_389 : decode cX16_init 389 = .ok (.bipush 64, 2) := by decide +kernel
theorem dX16_init_391 : decode cX16_init 391 = .ok (.newarray .int, 2) := by decide +kernel
theorem dX16_init_393 : decode cX16_init 393 = .ok (.putfield 161, 3) := by decide +kernel
theorem dX16_init_396 : decode cX16_init 396 = .ok (.aload_n 0, 1) := by decide +kernel
theorem dX16_init_397 : decode cX16_init 397 = .ok (.iconst (-1), 1) := by decide +kernel
theorem dX16_init_398 : decode cX16_init 398 = .ok (.putfield 164, 3) := by decide +kernel
theorem dX16_init_401 : decode cX16_init 401 = .ok (.aload_n 0, 1) := by decide +kernel
theorem dX16_init_402 : decode cX16_init 402 = .ok (.bipush 16, 2) := by decide +kernel
theorem dX16_init_404 : decode cX16_init 404 = .ok (.newarray .long, 2) := by decide +kernel
theorem dX16_init_406 : decode cX16_init 406 = .ok (.putfield 167, 3) := by decide +kernel
theorem dX16_init_409 : decode cX16_init 409 = .ok (.aload_n 0, 1) := by decide +kernel
theorem dX16_init_410 : decode cX16_init 410 = .ok (.bipush 16, 2) := by decide +kernel
theorem dX16_init_412 : decode cX16_init 412 = .ok (.newarray .long, 2) := by decide +kernel
theorem dX16_init_414 : decode cX16_init 414 = .ok (.putfield 170, 3) := by decide +kernel
theorem dX16_init_417 : decode cX16_init 417 = .ok (.aload_n 0, 1) := by decide +kernel
theorem dX16_init_418 : decode cX16_init 418 = .ok (.sipush 200, 3) := by decide +kernel
theorem dX16_init_421 : decode cX16_init 421 = .ok (.newarray .int, 2) := by decide +kernel
theorem dX16_init_423 : decode cX16_init 423 = .ok (.putfield 173, 3) := by decide +kernel
theorem dX16_init_426 : decode cX16_init 426 = .ok (.aload_n 0, 1) := by decide +kernel
theorem dX16_init_427 : decode cX16_init 427 = .ok (.sipush 200, 3) := by decide +kernel
theorem dX16_init_430 : decode cX16_init 430 = .ok (.newarray .int, 2) := by decide +kernel
theorem dX16_init_432 : decode cX16_init 432 = .ok (.putfield 176, 3) := by decide +kernel
theorem dX16_init_435 : decode cX16_init 435 = .ok (.aload_n 0, 1) := by decide +kernel
theorem dX16_init_436 : decode cX16_init 436 = .ok (.sipush 200, 3) := by decide +kernel
theorem dX16_init_439 : decode cX16_init 439 = .ok (.newarray .int, 2) := by decide +kernel
theorem dX16_init_441 : decode cX16_init 441 = .ok (.putfield 179, 3) := by decide +kernel
theorem dX16_init_444 : decode cX16_init 444 = .ok (.aload_n 0, 1) := by decide +kernel
theorem dX16_init_445 : decode cX16_init 445 = .ok (.sipush 200, 3) := by decide +kernel
theorem dX16_init_448 : decode cX16_init 448 = .ok (.newarray .int, 2) := by decide +kernel
theorem dX16_init_450 : decode cX16_init 450 = .ok (.putfield 182, 3) := by decide +kernel
theorem dX16_init_453 : decode cX16_init 453 = .ok (.aload_n 0, 1) := by decide +kernel
theorem dX16_init_454 : decode cX16_init 454 = .ok (.sipush 200, 3) := by decide +kernel
theorem dX16_init_457 : decode cX16_init 457 = .ok (.newarray .int, 2) := by decide +kernel
theorem dX16_init_459 : decode cX16_init 459 = .ok (.putfield 185, 3) := by decide +kernel
theorem dX16_init_462 : decode cX16_init 462 = .ok (.aload_n 0, 1) := by decide +kernel
theorem dX16_init_463 : decode cX16_init 463 = .ok (.sipush 200, 3) := by decide +kernel
theorem dX16_init_466 : decode cX16_init 466 = .ok (.newarray .int, 2) := by decide +kernel
theorem dX16_init_468 : decode cX16_init 468 = .ok (.putfield 188, 3) := by decide +kernel
theorem dX16_init_471 : decode cX16_init 471 = .ok (.aload_n 0, 1) := by decide +kernel
theorem dX16_init_472 : decode cX16_init 472 = .ok (.sipush 4096, 3) := by decide +kernel
theorem dX16_init_475 : decode cX16_init 475 = .ok (.newarray .long, 2) := by decide +kernel
theorem dX16_init_477 : decode cX16_init 477 = .ok (.putfield 191, 3) := by decide +kernel
theorem dX16_init_480 : decode cX16_init 480 = .ok (.aload_n 0, 1) := by decide +kernel
theorem dX16_init_481 : decode cX16_init 481 = .ok (.ldc 194, 2) := by decide +kernel
theorem dX16_init_483 : decode cX16_init 483 = .ok (.newarray .int, 2) := by decide +kernel
theorem dX16_init_485 : decode cX16_init 485 = .ok (.putfield 195, 3) := by decide +kernel
theorem dX16_init_488 : decode cX16_init 488 = .ok (.aload_n 0, 1) := by decide +kernel
theorem dX16_init_489 : decode cX16_init 489 = .ok (.ldc 194, 2) := by decide +kernel
theorem dX16_init_491 : decode cX16_init 491 = .ok (.newarray .int, 2) := by decide +kernel
theorem dX16_init_493 : decode cX16_init 493 = .ok (.putfield 198, 3) := by decide +kernel
theorem dX16_init_496 : decode cX16_init 496 = .ok (.aload_n 0, 1) := by decide +kernel
theorem dX16_init_497 : decode cX16_init 497 = .ok (.ldc 194, 2) := by decide +kernel
theorem dX16_init_499 : decode cX16_init 499 = .ok (.newarray .int, 2) := by decide +kernel
theorem dX16_init_501 : decode cX16_init 501 = .ok (.putfield 201, 3) := by decide +kernel
theorem dX16_init_504 : decode cX16_init 504 = .ok (.aload_n 0, 1) := by decide +kernel
theorem dX16_init_505 : decode cX16_init 505 = .ok (.ldc 194, 2) := by decide +kernel
theorem dX16_init_507 : decode cX16_init 507 = .ok (.newarray .boolean, 2) := by decide +kernel
theorem dX16_init_509 : decode cX16_init 509 = .ok (.putfield 204, 3) := by decide +kernel
theorem dX16_init_512 : decode cX16_init 512 = .ok (.iconst 0, 1) := by decide +kernel
theorem dX16_init_513 : decode cX16_init 513 = .ok (.istore_n 1, 1) := by decide +kernel
theorem dX16_init_514 : decode cX16_init 514 = .ok (.iload_n 1, 1) := by decide +kernel
theorem dX16_init_515 : decode cX16_init 515 = .ok (.sipush 512, 3) := by decide +kernel
theorem dX16_init_518 : decode cX16_init 518 = .ok (.if_icmp .ge 16, 3) := by decide +kernel
theorem dX16_init_521 : decode cX16_init 521 = .ok (.aload_n 0, 1) := by decide +kernel
theorem dX16_init_522 : decode cX16_init 522 = .ok (.getfield 80, 3) := by decide +kernel
theorem dX16_init_525 : decode cX16_init 525 = .ok (.iload_n 1, 1) := by decide +kernel
theorem dX16_init_526 : decode cX16_init 526 = .ok (.iconst (-1), 1) := by decide +kernel
theorem dX16_init_527 : decode cX16_init 527 = .ok (.iastore, 1) := by decide +kernel
theorem dX16_init_528 : decode cX16_init 528 = .ok (.iinc 1 1, 3) := by decide +kernel
theorem dX16_init_531 : decode cX16_init 531 = .ok (.goto (-17), 3) := by decide +kernel
theorem dX16_init_534 : decode cX16_init 534 = .ok (.return_, 1) := by decide +kernel
def tX16_init_0 (x0 : Nat) (h : pm_H) : Option (((Nat × pm_H) ⊕ (Nat × Nat × Nat × pm_H) ⊕ (Nat × Nat × Nat × pm_H) ⊕ (Nat × Nat × Nat × pm_H) ⊕ (Nat × Nat × Nat × pm_H) ⊕ (Nat × Nat × Nat × pm_H) ⊕ (Nat × Nat × Nat × pm_H) ⊕ (Nat × Nat × Nat × pm_H) ⊕ (Nat × Nat × Nat × pm_H) ⊕ (Nat × Nat × Nat × pm_H) ⊕ (Nat × Nat × Nat × pm_H) ⊕ (Nat × Nat × Nat × pm_H) ⊕ (Nat × Nat × Nat × pm_H) ⊕ (Nat × Nat × Nat × pm_H) ⊕ (Nat × Nat × Nat × pm_H) ⊕ (Nat × Nat × Nat × pm_H) ⊕ (Nat × Nat × Nat × pm_H) ⊕ (Nat × Nat × Nat × pm_H) ⊕ (Nat × Nat × Nat × pm_H) ⊕ (Nat × Nat × Nat × pm_H) ⊕ (Nat × Nat × Nat × pm_H) ⊕ (Nat × Nat × Nat × pm_H) ⊕ (Nat × Nat × Nat × pm_H) ⊕ (Nat × Nat × Nat × pm_H) ⊕ (Nat × Nat × Nat × pm_H) ⊕ (Nat × Nat × Nat × pm_H) ⊕ (Nat × Nat × Nat × pm_H) ⊕ (Nat × Nat × Nat × pm_H) ⊕ (Nat × Nat × Nat × pm_H) ⊕ (Nat × Nat × Nat × pm_H) ⊕ (Nat × Nat × Nat × pm_H) ⊕ (Nat × Nat × Nat × pm_H) ⊕ (Nat × Nat × Nat × pm_H) ⊕ (Nat × Nat × Nat × pm_H) ⊕ (Nat × Nat × Nat × pm_H) ⊕ (Nat × Nat × Nat × pm_H) ⊕ (Nat × Nat × Nat × pm_H) ⊕ (Nat × Nat × Nat × pm_H) ⊕ (Nat × Nat × Nat × pm_H) ⊕ (Nat × Nat × Nat × pm_H) ⊕ (Nat × Nat × Nat × pm_H) ⊕ (Nat × Nat × Nat × pm_H) ⊕ (Nat × Nat × Nat × pm_H) ⊕ (Nat × Nat × Nat × pm_H) ⊕ (Nat × Nat × Nat × pm_H) ⊕ (Nat × Nat × Nat × pm_H) ⊕ (Nat × Nat × Nat × pm_H) ⊕ (Nat × Nat × Nat × pm_H) ⊕ (Nat × Nat × Nat × pm_H) ⊕ (Nat × Nat × Nat × pm_H) ⊕ (Nat × Nat × Nat × pm_H) ⊕ (Nat × Nat × Nat × pm_H) ⊕ (Nat × Nat × Nat × pm_H) ⊕ (Nat × Nat × Nat × pm_H) ⊕ (Nat × Nat × Nat × pm_H) ⊕ (Nat × Nat × Nat × pm_H) ⊕ (Nat × Nat × Nat × pm_H) ⊕ (Nat × Int32 × pm_H)) ⊕ pm_H) := some (.inl (.inr (.inl ((x0, pm_sz h, x0, pm_new h 33 40980)))))
def tX16_init_9 (x0 : Nat) (s0 : Nat) (s1 : Nat) (h : pm_H) : Option (((Nat × pm_H) ⊕ (Nat × Nat × Nat × pm_H) ⊕ (Nat × Nat × Nat × pm_H) ⊕ (Nat × Nat × Nat × pm_H) ⊕ (Nat × Nat × Nat × pm_H) ⊕ (Nat × Nat × Nat × pm_H) ⊕ (Nat × Nat × Nat × pm_H) ⊕ (Nat × Nat × Nat × pm_H) ⊕ (Nat × Nat × Nat × pm_H) ⊕ (Nat × Nat × Nat × pm_H) ⊕ (Nat × Nat × Nat × pm_H) ⊕ (Nat × Nat × Nat × pm_H) ⊕ (Nat × Nat × Nat × pm_H) ⊕ (Nat × Nat × Nat × pm_H) ⊕ (Nat × Nat × Nat × pm_H) ⊕ (Nat × Nat × Nat × pm_H) ⊕ (Nat × Nat × Nat × pm_H) ⊕ (Nat × Nat × Nat × pm_H) ⊕ (Nat × Nat × Nat × pm_H) ⊕ (Nat × Nat × Nat × pm_H) ⊕ (Nat × Nat × Nat × pm_H) ⊕ (Nat × Nat × Nat × pm_H) ⊕ (Nat × Nat × Nat × pm_H) ⊕ (Nat × Nat × Nat × pm_H) ⊕ (Nat × Nat × Nat × pm_H) ⊕ (Nat × Nat × Nat × pm_H) ⊕ (Nat × Nat × Nat × pm_H) ⊕ (Nat × Nat × Nat × pm_H) ⊕ (Nat × Nat × Nat × pm_H) ⊕ (Nat × Nat × Nat × pm_H) ⊕ (Nat × Nat × Nat × pm_H) ⊕ (Nat × Nat × Nat × pm_H) ⊕ (Nat × Nat × Nat × pm_H) ⊕ (Nat × Nat × Nat × pm_H) ⊕ (Nat × Nat × Nat × pm_H) ⊕ (Nat × Nat × Nat × pm_H) ⊕ (Nat × Nat × Nat × pm_H) ⊕ (Nat × Nat × Nat × pm_H) ⊕ (Nat × Nat × Nat × pm_H) ⊕ (Nat × Nat × Nat × pm_H) ⊕ (Nat × Nat × Nat × pm_H) ⊕ (Nat × Nat × Nat × pm_H) ⊕ (Nat × Nat × Nat × pm_H) ⊕ (Nat × Nat × Nat × pm_H) ⊕ (Nat × Nat × Nat × pm_H) ⊕ (Nat × Nat × Nat × pm_H) ⊕ (Nat × Nat × Nat × pm_H) ⊕ (Nat × Nat × Nat × pm_H) ⊕ (Nat × Nat × Nat × pm_H) ⊕ (Nat × Nat × Nat × pm_H) ⊕ (Nat × Nat × Nat × pm_H) ⊕ (Nat × Nat × Nat × pm_H) ⊕ (Nat × Nat × Nat × pm_H) ⊕ (Nat × Nat × Nat × pm_H) ⊕ (Nat × Nat × Nat × pm_H) ⊕ (Nat × Nat × Nat × pm_H) ⊕ (Nat × Nat × Nat × pm_H) ⊕ (Nat × Int32 × pm_H)) ⊕ pm_H) := if pm_kd h s1 = 16 then some (.inl (.inr (.inr (.inl ((x0, pm_sz (pm_setR h s1 0 (some s0)), x0, pm_new (pm_setR h s1 0 (some s0)) 42 16)))))) else none
def tX16_init_18 (x0 : Nat) (s0 : Nat) (s1 : Nat) (h : pm_H) : Option (((Nat × pm_H) ⊕ (Nat × Nat × Nat × pm_H) ⊕ (Nat × Nat × Nat × pm_H) ⊕ (Nat × Nat × Nat × pm_H) ⊕ (Nat × Nat × Nat × pm_H) ⊕ (Nat × Nat × Nat × pm_H) ⊕ (Nat × Nat × Nat × pm_H) ⊕ (Nat × Nat × Nat × pm_H) ⊕ (Nat × Nat × Nat × pm_H) ⊕ (Nat × Nat × Nat × pm_H) ⊕ (Nat × Nat × Nat × pm_H) ⊕ (Nat × Nat × Nat × pm_H) ⊕ (Nat × Nat × Nat × pm_H) ⊕ (Nat × Nat × Nat × pm_H) ⊕ (Nat × Nat × Nat × pm_H) ⊕ (Nat × Nat × Nat × pm_H) ⊕ (Nat × Nat × Nat × pm_H) ⊕ (Nat × Nat × Nat × pm_H) ⊕ (Nat × Nat × Nat × pm_H) ⊕ (Nat × Nat × Nat × pm_H) ⊕ (Nat × Nat × Nat × pm_H) ⊕ (Nat × Nat × Nat × pm_H) ⊕ (Nat × Nat × Nat × pm_H) ⊕ (Nat × Nat × Nat × pm_H) ⊕ (Nat × Nat × Nat × pm_H) ⊕ (Nat × Nat × Nat × pm_H) ⊕ (Nat × Nat × Nat × pm_H) ⊕ (Nat × Nat × Nat × pm_H) ⊕ (Nat × Nat × Nat × pm_H) ⊕ (Nat × Nat × Nat × pm_H) ⊕ (Nat × Nat × Nat × pm_H) ⊕ (Nat × Nat × Nat × pm_H) ⊕ (Nat × Nat × Nat × pm_H) ⊕ (Nat × Nat × Nat × pm_H) ⊕ (Nat × Nat × Nat × pm_H) ⊕ (Nat × Nat × Nat × pm_H) ⊕ (Nat × Nat × Nat × pm_H) ⊕ (Nat × Nat × Nat × pm_H) ⊕ (Nat × Nat × Nat × pm_H) ⊕ (Nat × Nat × Nat × pm_H) ⊕ (Nat × Nat × Nat × pm_H) ⊕ (Nat × Nat × Nat × pm_H) ⊕ (Nat × Nat × Nat × pm_H) ⊕ (Nat × Nat × Nat × pm_H) ⊕ (Nat × Nat × Nat × pm_H) ⊕ (Nat × Nat × Nat × pm_H) ⊕ (Nat × Nat × Nat × pm_H) ⊕ (Nat × Nat × Nat × pm_H) ⊕ (Nat × Nat × Nat × pm_H) ⊕ (Nat × Nat × Nat × pm_H) ⊕ (Nat × Nat × Nat × pm_H) ⊕ (Nat × Nat × Nat × pm_H) ⊕ (Nat × Nat × Nat × pm_H) ⊕ (Nat × Nat × Nat × pm_H) ⊕ (Nat × Nat × Nat × pm_H) ⊕ (Nat × Nat × Nat × pm_H) ⊕ (Nat × Nat × Nat × pm_H) ⊕ (Nat × Int32 × pm_H)) ⊕ pm_H) := if pm_kd h s1 = 16 then some (.inl (.inr (.inr (.inr (.inl ((x0, pm_sz (pm_setR h s1 4 (some s0)), x0, pm_flt (pm_setR h s1 4 (some s0))))))))) else none
def tX16_init_29 (x0 : Nat) (s0 : Nat) (s1 : Nat) (h : pm_H) : Option (((Nat × pm_H) ⊕ (Nat × Nat × Nat × pm_H) ⊕ (Nat × Nat × Nat × pm_H) ⊕ (Nat × Nat × Nat × pm_H) ⊕ (Nat × Nat × Nat × pm_H) ⊕ (Nat × Nat × Nat × pm_H) ⊕ (Nat × Nat × Nat × pm_H) ⊕ (Nat × Nat × Nat × pm_H) ⊕ (Nat × Nat × Nat × pm_H) ⊕ (Nat × Nat × Nat × pm_H) ⊕ (Nat × Nat × Nat × pm_H) ⊕ (Nat × Nat × Nat × pm_H) ⊕ (Nat × Nat × Nat × pm_H) ⊕ (Nat × Nat × Nat × pm_H) ⊕ (Nat × Nat × Nat × pm_H) ⊕ (Nat × Nat × Nat × pm_H) ⊕ (Nat × Nat × Nat × pm_H) ⊕ (Nat × Nat × Nat × pm_H) ⊕ (Nat × Nat × Nat × pm_H) ⊕ (Nat × Nat × Nat × pm_H) ⊕ (Nat × Nat × Nat × pm_H) ⊕ (Nat × Nat × Nat × pm_H) ⊕ (Nat × Nat × Nat × pm_H) ⊕ (Nat × Nat × Nat × pm_H) ⊕ (Nat × Nat × Nat × pm_H) ⊕ (Nat × Nat × Nat × pm_H) ⊕ (Nat × Nat × Nat × pm_H) ⊕ (Nat × Nat × Nat × pm_H) ⊕ (Nat × Nat × Nat × pm_H) ⊕ (Nat × Nat × Nat × pm_H) ⊕ (Nat × Nat × Nat × pm_H) ⊕ (Nat × Nat × Nat × pm_H) ⊕ (Nat × Nat × Nat × pm_H) ⊕ (Nat × Nat × Nat × pm_H) ⊕ (Nat × Nat × Nat × pm_H) ⊕ (Nat × Nat × Nat × pm_H) ⊕ (Nat × Nat × Nat × pm_H) ⊕ (Nat × Nat × Nat × pm_H) ⊕ (Nat × Nat × Nat × pm_H) ⊕ (Nat × Nat × Nat × pm_H) ⊕ (Nat × Nat × Nat × pm_H) ⊕ (Nat × Nat × Nat × pm_H) ⊕ (Nat × Nat × Nat × pm_H) ⊕ (Nat × Nat × Nat × pm_H) ⊕ (Nat × Nat × Nat × pm_H) ⊕ (Nat × Nat × Nat × pm_H) ⊕ (Nat × Nat × Nat × pm_H) ⊕ (Nat × Nat × Nat × pm_H) ⊕ (Nat × Nat × Nat × pm_H) ⊕ (Nat × Nat × Nat × pm_H) ⊕ (Nat × Nat × Nat × pm_H) ⊕ (Nat × Nat × Nat × pm_H) ⊕ (Nat × Nat × Nat × pm_H) ⊕ (Nat × Nat × Nat × pm_H) ⊕ (Nat × Nat × Nat × pm_H) ⊕ (Nat × Nat × Nat × pm_H) ⊕ (Nat × Nat × Nat × pm_H) ⊕ (Nat × Int32 × pm_H)) ⊕ pm_H) := if pm_kd h s1 = 16 then some (.inl (.inr (.inr (.inr (.inr (.inl ((x0, pm_sz (pm_setR h s1 9 (some s0)), x0, pm_new (pm_setR h s1 9 (some s0)) 34 40962)))))))) else none
def tX16_init_37 (x0 : Nat) (s0 : Nat) (s1 : Nat) (h : pm_H) : Option (((Nat × pm_H) ⊕ (Nat × Nat × Nat × pm_H) ⊕ (Nat × Nat × Nat × pm_H) ⊕ (Nat × Nat × Nat × pm_H) ⊕ (Nat × Nat × Nat × pm_H) ⊕ (Nat × Nat × Nat × pm_H) ⊕ (Nat × Nat × Nat × pm_H) ⊕ (Nat × Nat × Nat × pm_H) ⊕ (Nat × Nat × Nat × pm_H) ⊕ (Nat × Nat × Nat × pm_H) ⊕ (Nat × Nat × Nat × pm_H) ⊕ (Nat × Nat × Nat × pm_H) ⊕ (Nat × Nat × Nat × pm_H) ⊕ (Nat × Nat × Nat × pm_H) ⊕ (Nat × Nat × Nat × pm_H) ⊕ (Nat × Nat × Nat × pm_H) ⊕ (Nat × Nat × Nat × pm_H) ⊕ (Nat × Nat × Nat × pm_H) ⊕ (Nat × Nat × Nat × pm_H) ⊕ (Nat × Nat × Nat × pm_H) ⊕ (Nat × Nat × Nat × pm_H) ⊕ (Nat × Nat × Nat × pm_H) ⊕ (Nat × Nat × Nat × pm_H) ⊕ (Nat × Nat × Nat × pm_H) ⊕ (Nat × Nat × Nat × pm_H) ⊕ (Nat × Nat × Nat × pm_H) ⊕ (Nat × Nat × Nat × pm_H) ⊕ (Nat × Nat × Nat × pm_H) ⊕ (Nat × Nat × Nat × pm_H) ⊕ (Nat × Nat × Nat × pm_H) ⊕ (Nat × Nat × Nat × pm_H) ⊕ (Nat × Nat × Nat × pm_H) ⊕ (Nat × Nat × Nat × pm_H) ⊕ (Nat × Nat × Nat × pm_H) ⊕ (Nat × Nat × Nat × pm_H) ⊕ (Nat × Nat × Nat × pm_H) ⊕ (Nat × Nat × Nat × pm_H) ⊕ (Nat × Nat × Nat × pm_H) ⊕ (Nat × Nat × Nat × pm_H) ⊕ (Nat × Nat × Nat × pm_H) ⊕ (Nat × Nat × Nat × pm_H) ⊕ (Nat × Nat × Nat × pm_H) ⊕ (Nat × Nat × Nat × pm_H) ⊕ (Nat × Nat × Nat × pm_H) ⊕ (Nat × Nat × Nat × pm_H) ⊕ (Nat × Nat × Nat × pm_H) ⊕ (Nat × Nat × Nat × pm_H) ⊕ (Nat × Nat × Nat × pm_H) ⊕ (Nat × Nat × Nat × pm_H) ⊕ (Nat × Nat × Nat × pm_H) ⊕ (Nat × Nat × Nat × pm_H) ⊕ (Nat × Nat × Nat × pm_H) ⊕ (Nat × Nat × Nat × pm_H) ⊕ (Nat × Nat × Nat × pm_H) ⊕ (Nat × Nat × Nat × pm_H) ⊕ (Nat × Nat × Nat × pm_H) ⊕ (Nat × Nat × Nat × pm_H) ⊕ (Nat × Int32 × pm_H)) ⊕ pm_H) := if pm_kd h s1 = 16 then some (.inl (.inr (.inr (.inr (.inr (.inr (.inl ((x0, pm_sz (pm_setR h s1 14 (some s0)), x0, pm_new (pm_setR h s1 14 (some s0)) 34 40962))))))))) else none
def tX16_init_45 (x0 : Nat) (s0 : Nat) (s1 : Nat) (h : pm_H) : Option (((Nat × pm_H) ⊕ (Nat × Nat × Nat × pm_H) ⊕ (Nat × Nat × Nat × pm_H) ⊕ (Nat × Nat × Nat × pm_H) ⊕ (Nat × Nat × Nat × pm_H) ⊕ (Nat × Nat × Nat × pm_H) ⊕ (Nat × Nat × Nat × pm_H) ⊕ (Nat × Nat × Nat × pm_H) ⊕ (Nat × Nat × Nat × pm_H) ⊕ (Nat × Nat × Nat × pm_H) ⊕ (Nat × Nat × Nat × pm_H) ⊕ (Nat × Nat × Nat × pm_H) ⊕ (Nat × Nat × Nat × pm_H) ⊕ (Nat × Nat × Nat × pm_H) ⊕ (Nat × Nat × Nat × pm_H) ⊕ (Nat × Nat × Nat × pm_H) ⊕ (Nat × Nat × Nat × pm_H) ⊕ (Nat × Nat × Nat × pm_H) ⊕ (Nat × Nat × Nat × pm_H) ⊕ (Nat × Nat × Nat × pm_H) ⊕ (Nat × Nat × Nat × pm_H) ⊕ (Nat × Nat × Nat × pm_H) ⊕ (Nat × Nat × Nat × pm_H) ⊕ (Nat × Nat × Nat × pm_H) ⊕ (Nat × Nat × Nat × pm_H) ⊕ (Nat × Nat × Nat × pm_H) ⊕ (Nat × Nat × Nat × pm_H) ⊕ (Nat × Nat × Nat × pm_H) ⊕ (Nat × Nat × Nat × pm_H) ⊕ (Nat × Nat × Nat × pm_H) ⊕ (Nat × Nat × Nat × pm_H) ⊕ (Nat × Nat × Nat × pm_H) ⊕ (Nat × Nat × Nat × pm_H) ⊕ (Nat × Nat × Nat × pm_H) ⊕ (Nat × Nat × Nat × pm_H) ⊕ (Nat × Nat × Nat × pm_H) ⊕ (Nat × Nat × Nat × pm_H) ⊕ (Nat × Nat × Nat × pm_H) ⊕ (Nat × Nat × Nat × pm_H) ⊕ (Nat × Nat × Nat × pm_H) ⊕ (Nat × Nat × Nat × pm_H) ⊕ (Nat × Nat × Nat × pm_H) ⊕ (Nat × Nat × Nat × pm_H) ⊕ (Nat × Nat × Nat × pm_H) ⊕ (Nat × Nat × Nat × pm_H) ⊕ (Nat × Nat × Nat × pm_H) ⊕ (Nat × Nat × Nat × pm_H) ⊕ (Nat × Nat × Nat × pm_H) ⊕ (Nat × Nat × Nat × pm_H) ⊕ (Nat × Nat × Nat × pm_H) ⊕ (Nat × Nat × Nat × pm_H) ⊕ (Nat × Nat × Nat × pm_H) ⊕ (Nat × Nat × Nat × pm_H) ⊕ (Nat × Nat × Nat × pm_H) ⊕ (Nat × Nat × Nat × pm_H) ⊕ (Nat × Nat × Nat × pm_H) ⊕ (Nat × Nat × Nat × pm_H) ⊕ (Nat × Int32 × pm_H)) ⊕ pm_H) := if pm_kd h s1 = 16 then some (.inl (.inr (.inr (.inr (.inr (.inr (.inr (.inl ((x0, pm_sz (pm_setR h s1 15 (some s0)), x0, pm_new (pm_setR h s1 15 (some s0)) 32 128)))))))))) else none
def tX16_init_54 (x0 : Nat) (s0 : Nat) (s1 : Nat) (h : pm_H) : Option (((Nat × pm_H) ⊕ (Nat × Nat × Nat × pm_H) ⊕ (Nat × Nat × Nat × pm_H) ⊕ (Nat × Nat × Nat × pm_H) ⊕ (Nat × Nat × Nat × pm_H) ⊕ (Nat × Nat × Nat × pm_H) ⊕ (Nat × Nat × Nat × pm_H) ⊕ (Nat × Nat × Nat × pm_H) ⊕ (Nat × Nat × Nat × pm_H) ⊕ (Nat × Nat × Nat × pm_H) ⊕ (Nat × Nat × Nat × pm_H) ⊕ (Nat × Nat × Nat × pm_H) ⊕ (Nat × Nat × Nat × pm_H) ⊕ (Nat × Nat × Nat × pm_H) ⊕ (Nat × Nat × Nat × pm_H) ⊕ (Nat × Nat × Nat × pm_H) ⊕ (Nat × Nat × Nat × pm_H) ⊕ (Nat × Nat × Nat × pm_H) ⊕ (Nat × Nat × Nat × pm_H) ⊕ (Nat × Nat × Nat × pm_H) ⊕ (Nat × Nat × Nat × pm_H) ⊕ (Nat × Nat × Nat × pm_H) ⊕ (Nat × Nat × Nat × pm_H) ⊕ (Nat × Nat × Nat × pm_H) ⊕ (Nat × Nat × Nat × pm_H) ⊕ (Nat × Nat × Nat × pm_H) ⊕ (Nat × Nat × Nat × pm_H) ⊕ (Nat × Nat × Nat × pm_H) ⊕ (Nat × Nat × Nat × pm_H) ⊕ (Nat × Nat × Nat × pm_H) ⊕ (Nat × Nat × Nat × pm_H) ⊕ (Nat × Nat × Nat × pm_H) ⊕ (Nat × Nat × Nat × pm_H) ⊕ (Nat × Nat × Nat × pm_H) ⊕ (Nat × Nat × Nat × pm_H) ⊕ (Nat × Nat × Nat × pm_H) ⊕ (Nat × Nat × Nat × pm_H) ⊕ (Nat × Nat × Nat × pm_H) ⊕ (Nat × Nat × Nat × pm_H) ⊕ (Nat × Nat × Nat × pm_H) ⊕ (Nat × Nat × Nat × pm_H) ⊕ (Nat × Nat × Nat × pm_H) ⊕ (Nat × Nat × Nat × pm_H) ⊕ (Nat × Nat × Nat × pm_H) ⊕ (Nat × Nat × Nat × pm_H) ⊕ (Nat × Nat × Nat × pm_H) ⊕ (Nat × Nat × Nat × pm_H) ⊕ (Nat × Nat × Nat × pm_H) ⊕ (Nat × Nat × Nat × pm_H) ⊕ (Nat × Nat × Nat × pm_H) ⊕ (Nat × Nat × Nat × pm_H) ⊕ (Nat × Nat × Nat × pm_H) ⊕ (Nat × Nat × Nat × pm_H) ⊕ (Nat × Nat × Nat × pm_H) ⊕ (Nat × Nat × Nat × pm_H) ⊕ (Nat × Nat × Nat × pm_H) ⊕ (Nat × Nat × Nat × pm_H) ⊕ (Nat × Int32 × pm_H)) ⊕ pm_H) := if pm_kd h s1 = 16 then some (.inl (.inr (.inr (.inr (.inr (.inr (.inr (.inr (.inl ((x0, pm_sz (pm_setR h s1 20 (some s0)), x0, pm_new (pm_setR h s1 20 (some s0)) 34 1001))))))))))) else none
def tX16_init_63 (x0 : Nat) (s0 : Nat) (s1 : Nat) (h : pm_H) : Option (((Nat × pm_H) ⊕ (Nat × Nat × Nat × pm_H) ⊕ (Nat × Nat × Nat × pm_H) ⊕ (Nat × Nat × Nat × pm_H) ⊕ (Nat × Nat × Nat × pm_H) ⊕ (Nat × Nat × Nat × pm_H) ⊕ (Nat × Nat × Nat × pm_H) ⊕ (Nat × Nat × Nat × pm_H) ⊕ (Nat × Nat × Nat × pm_H) ⊕ (Nat × Nat × Nat × pm_H) ⊕ (Nat × Nat × Nat × pm_H) ⊕ (Nat × Nat × Nat × pm_H) ⊕ (Nat × Nat × Nat × pm_H) ⊕ (Nat × Nat × Nat × pm_H) ⊕ (Nat × Nat × Nat × pm_H) ⊕ (Nat × Nat × Nat × pm_H) ⊕ (Nat × Nat × Nat × pm_H) ⊕ (Nat × Nat × Nat × pm_H) ⊕ (Nat × Nat × Nat × pm_H) ⊕ (Nat × Nat × Nat × pm_H) ⊕ (Nat × Nat × Nat × pm_H) ⊕ (Nat × Nat × Nat × pm_H) ⊕ (Nat × Nat × Nat × pm_H) ⊕ (Nat × Nat × Nat × pm_H) ⊕ (Nat × Nat × Nat × pm_H) ⊕ (Nat × Nat × Nat × pm_H) ⊕ (Nat × Nat × Nat × pm_H) ⊕ (Nat × Nat × Nat × pm_H) ⊕ (Nat × Nat × Nat × pm_H) ⊕ (Nat × Nat × Nat × pm_H) ⊕ (Nat × Nat × Nat × pm_H) ⊕ (Nat × Nat × Nat × pm_H) ⊕ (Nat × Nat × Nat × pm_H) ⊕ (Nat × Nat × Nat × pm_H) ⊕ (Nat × Nat × Nat × pm_H) ⊕ (Nat × Nat × Nat × pm_H) ⊕ (Nat × Nat × Nat × pm_H) ⊕ (Nat × Nat × Nat × pm_H) ⊕ (Nat × Nat × Nat × pm_H) ⊕ (Nat × Nat × Nat × pm_H) ⊕ (Nat × Nat × Nat × pm_H) ⊕ (Nat × Nat × Nat × pm_H) ⊕ (Nat × Nat × Nat × pm_H) ⊕ (Nat × Nat × Nat × pm_H) ⊕ (Nat × Nat × Nat × pm_H) ⊕ (Nat × Nat × Nat × pm_H) ⊕ (Nat × Nat × Nat × pm_H) ⊕ (Nat × Nat × Nat × pm_H) ⊕ (Nat × Nat × Nat × pm_H) ⊕ (Nat × Nat × Nat × pm_H) ⊕ (Nat × Nat × Nat × pm_H) ⊕ (Nat × Nat × Nat × pm_H) ⊕ (Nat × Nat × Nat × pm_H) ⊕ (Nat × Nat × Nat × pm_H) ⊕ (Nat × Nat × Nat × pm_H) ⊕ (Nat × Nat × Nat × pm_H) ⊕ (Nat × Nat × Nat × pm_H) ⊕ (Nat × Int32 × pm_H)) ⊕ pm_H) := if pm_kd h s1 = 16 then some (.inl (.inr (.inr (.inr (.inr (.inr (.inr (.inr (.inr (.inl ((x0, pm_sz (pm_setR h s1 22 (some s0)), x0, pm_new (pm_setR h s1 22 (some s0)) 34 200)))))))))))) else none
def tX16_init_72 (x0 : Nat) (s0 : Nat) (s1 : Nat) (h : pm_H) : Option (((Nat × pm_H) ⊕ (Nat × Nat × Nat × pm_H) ⊕ (Nat × Nat × Nat × pm_H) ⊕ (Nat × Nat × Nat × pm_H) ⊕ (Nat × Nat × Nat × pm_H) ⊕ (Nat × Nat × Nat × pm_H) ⊕ (Nat × Nat × Nat × pm_H) ⊕ (Nat × Nat × Nat × pm_H) ⊕ (Nat × Nat × Nat × pm_H) ⊕ (Nat × Nat × Nat × pm_H) ⊕ (Nat × Nat × Nat × pm_H) ⊕ (Nat × Nat × Nat × pm_H) ⊕ (Nat × Nat × Nat × pm_H) ⊕ (Nat × Nat × Nat × pm_H) ⊕ (Nat × Nat × Nat × pm_H) ⊕ (Nat × Nat × Nat × pm_H) ⊕ (Nat × Nat × Nat × pm_H) ⊕ (Nat × Nat × Nat × pm_H) ⊕ (Nat × Nat × Nat × pm_H) ⊕ (Nat × Nat × Nat × pm_H) ⊕ (Nat × Nat × Nat × pm_H) ⊕ (Nat × Nat × Nat × pm_H) ⊕ (Nat × Nat × Nat × pm_H) ⊕ (Nat × Nat × Nat × pm_H) ⊕ (Nat × Nat × Nat × pm_H) ⊕ (Nat × Nat × Nat × pm_H) ⊕ (Nat × Nat × Nat × pm_H) ⊕ (Nat × Nat × Nat × pm_H) ⊕ (Nat × Nat × Nat × pm_H) ⊕ (Nat × Nat × Nat × pm_H) ⊕ (Nat × Nat × Nat × pm_H) ⊕ (Nat × Nat × Nat × pm_H) ⊕ (Nat × Nat × Nat × pm_H) ⊕ (Nat × Nat × Nat × pm_H) ⊕ (Nat × Nat × Nat × pm_H) ⊕ (Nat × Nat × Nat × pm_H) ⊕ (Nat × Nat × Nat × pm_H) ⊕ (Nat × Nat × Nat × pm_H) ⊕ (Nat × Nat × Nat × pm_H) ⊕ (Nat × Nat × Nat × pm_H) ⊕ (Nat × Nat × Nat × pm_H) ⊕ (Nat × Nat × Nat × pm_H) ⊕ (Nat × Nat × Nat × pm_H) ⊕ (Nat × Nat × Nat × pm_H) ⊕ (Nat × Nat × Nat × pm_H) ⊕ (Nat × Nat × Nat × pm_H) ⊕ (Nat × Nat × Nat × pm_H) ⊕ (Nat × Nat × Nat × pm_H) ⊕ (Nat × Nat × Nat × pm_H) ⊕ (Nat × Nat × Nat × pm_H) ⊕ (Nat × Nat × Nat × pm_H) ⊕ (Nat × Nat × Nat × pm_H) ⊕ (Nat × Nat × Nat × pm_H) ⊕ (Nat × Nat × Nat × pm_H) ⊕ (Nat × Nat × Nat × pm_H) ⊕ (Nat × Nat × Nat × pm_H) ⊕ (Nat × Nat × Nat × pm_H) ⊕ (Nat × Int32 × pm_H)) ⊕ pm_H) := if pm_kd h s1 = 16 then some (.inl (.inr (.inr (.inr (.inr (.inr (.inr (.inr (.inr (.inr (.inl ((x0, pm_sz (pm_setR h s1 25 (some s0)), x0, pm_new (pm_setR h s1 25 (some s0)) 35 200))))))))))))) else none
def tX16_init_81 (x0 : Nat) (s0 : Nat) (s1 : Nat) (h : pm_H) : Option (((Nat × pm_H) ⊕ (Nat × Nat × Nat × pm_H) ⊕ (Nat × Nat × Nat × pm_H) ⊕ (Nat × Nat × Nat × pm_H) ⊕ (Nat × Nat × Nat × pm_H) ⊕ (Nat × Nat × Nat × pm_H) ⊕ (Nat × Nat × Nat × pm_H) ⊕ (Nat × Nat × Nat × pm_H) ⊕ (Nat × Nat × Nat × pm_H) ⊕ (Nat × Nat × Nat × pm_H) ⊕ (Nat × Nat × Nat × pm_H) ⊕ (Nat × Nat × Nat × pm_H) ⊕ (Nat × Nat × Nat × pm_H) ⊕ (Nat × Nat × Nat × pm_H) ⊕ (Nat × Nat × Nat × pm_H) ⊕ (Nat × Nat × Nat × pm_H) ⊕ (Nat × Nat × Nat × pm_H) ⊕ (Nat × Nat × Nat × pm_H) ⊕ (Nat × Nat × Nat × pm_H) ⊕ (Nat × Nat × Nat × pm_H) ⊕ (Nat × Nat × Nat × pm_H) ⊕ (Nat × Nat × Nat × pm_H) ⊕ (Nat × Nat × Nat × pm_H) ⊕ (Nat × Nat × Nat × pm_H) ⊕ (Nat × Nat × Nat × pm_H) ⊕ (Nat × Nat × Nat × pm_H) ⊕ (Nat × Nat × Nat × pm_H) ⊕ (Nat × Nat × Nat × pm_H) ⊕ (Nat × Nat × Nat × pm_H) ⊕ (Nat × Nat × Nat × pm_H) ⊕ (Nat × Nat × Nat × pm_H) ⊕ (Nat × Nat × Nat × pm_H) ⊕ (Nat × Nat × Nat × pm_H) ⊕ (Nat × Nat × Nat × pm_H) ⊕ (Nat × Nat × Nat × pm_H) ⊕ (Nat × Nat × Nat × pm_H) ⊕ (Nat × Nat × Nat × pm_H) ⊕ (Nat × Nat × Nat × pm_H) ⊕ (Nat × Nat × Nat × pm_H) ⊕ (Nat × Nat × Nat × pm_H) ⊕ (Nat × Nat × Nat × pm_H) ⊕ (Nat × Nat × Nat × pm_H) ⊕ (Nat × Nat × Nat × pm_H) ⊕ (Nat × Nat × Nat × pm_H) ⊕ (Nat × Nat × Nat × pm_H) ⊕ (Nat × Nat × Nat × pm_H) ⊕ (Nat × Nat × Nat × pm_H) ⊕ (Nat × Nat × Nat × pm_H) ⊕ (Nat × Nat × Nat × pm_H) ⊕ (Nat × Nat × Nat × pm_H) ⊕ (Nat × Nat × Nat × pm_H) ⊕ (Nat × Nat × Nat × pm_H) ⊕ (Nat × Nat × Nat × pm_H) ⊕ (Nat × Nat × Nat × pm_H) ⊕ (Nat × Nat × Nat × pm_H) ⊕ (Nat × Nat × Nat × pm_H) ⊕ (Nat × Nat × Nat × pm_H) ⊕ (Nat × Int32 × pm_H)) ⊕ pm_H) := if pm_kd h s1 = 16 then some (.inl (.inr (.inr (.inr (.inr (.inr (.inr (.inr (.inr (.inr (.inr (.inl ((x0, pm_sz (pm_setR h s1 26 (some s0)), x0, pm_new (pm_setR h s1 26 (some s0)) 34 200)))))))))))))) else none
def tX16_init_90 (x0 : Nat) (s0 : Nat) (s1 : Nat) (h : pm_H) : Option (((Nat × pm_H) ⊕ (Nat × Nat × Nat × pm_H) ⊕ (Nat × Nat × Nat × pm_H) ⊕ (Nat × Nat × Nat × pm_H) ⊕ (Nat × Nat × Nat × pm_H) ⊕ (Nat × Nat × Nat × pm_H) ⊕ (Nat × Nat × Nat × pm_H) ⊕ (Nat × Nat × Nat × pm_H) ⊕ (Nat × Nat × Nat × pm_H) ⊕ (Nat × Nat × Nat × pm_H) ⊕ (Nat × Nat × Nat × pm_H) ⊕ (Nat × Nat × Nat × pm_H) ⊕ (Nat × Nat × Nat × pm_H) ⊕ (Nat × Nat × Nat × pm_H) ⊕ (Nat × Nat × Nat × pm_H) ⊕ (Nat × Nat × Nat × pm_H) ⊕ (Nat × Nat × Nat × pm_H) ⊕ (Nat × Nat × Nat × pm_H) ⊕ (Nat × Nat × Nat × pm_H) ⊕ (Nat × Nat × Nat × pm_H) ⊕ (Nat × Nat × Nat × pm_H) ⊕ (Nat × Nat × Nat × pm_H) ⊕ (Nat × Nat × Nat × pm_H) ⊕ (Nat × Nat × Nat × pm_H) ⊕ (Nat × Nat × Nat × pm_H) ⊕ (Nat × Nat × Nat × pm_H) ⊕ (Nat × Nat × Nat × pm_H) ⊕ (Nat × Nat × Nat × pm_H) ⊕ (Nat × Nat × Nat × pm_H) ⊕ (Nat × Nat × Nat × pm_H) ⊕ (Nat × Nat × Nat × pm_H) ⊕ (Nat × Nat × Nat × pm_H) ⊕ (Nat × Nat × Nat × pm_H) ⊕ (Nat × Nat × Nat × pm_H) ⊕ (Nat × Nat × Nat × pm_H) ⊕ (Nat × Nat × Nat × pm_H) ⊕ (Nat × Nat × Nat × pm_H) ⊕ (Nat × Nat × Nat × pm_H) ⊕ (Nat × Nat × Nat × pm_H) ⊕ (Nat × Nat × Nat × pm_H) ⊕ (Nat × Nat × Nat × pm_H) ⊕ (Nat × Nat × Nat × pm_H) ⊕ (Nat × Nat × Nat × pm_H) ⊕ (Nat × Nat × Nat × pm_H) ⊕ (Nat × Nat × Nat × pm_H) ⊕ (Nat × Nat × Nat × pm_H) ⊕ (Nat × Nat × Nat × pm_H) ⊕ (Nat × Nat × Nat × pm_H) ⊕ (Nat × Nat × Nat × pm_H) ⊕ (Nat × Nat × Nat × pm_H) ⊕ (Nat × Nat × Nat × pm_H) ⊕ (Nat × Nat × Nat × pm_H) ⊕ (Nat × Nat × Nat × pm_H) ⊕ (Nat × Nat × Nat × pm_H) ⊕ (Nat × Nat × Nat × pm_H) ⊕ (Nat × Nat × Nat × pm_H) ⊕ (Nat × Nat × Nat × pm_H) ⊕ (Nat × Int32 × pm_H)) ⊕ pm_H) := if pm_kd h s1 = 16 then some (.inl (.inr (.inr (.inr (.inr (.inr (.inr (.inr (.inr (.inr (.inr (.inr (.inl ((x0, pm_sz (pm_setR h s1 27 (some s0)), x0, pm_new (pm_setR h s1 27 (some s0)) 32 200))))))))))))))) else none
def tX16_init_99 (x0 : Nat) (s0 : Nat) (s1 : Nat) (h : pm_H) : Option (((Nat × pm_H) ⊕ (Nat × Nat × Nat × pm_H) ⊕ (Nat × Nat × Nat × pm_H) ⊕ (Nat × Nat × Nat × pm_H) ⊕ (Nat × Nat × Nat × pm_H) ⊕ (Nat × Nat × Nat × pm_H) ⊕ (Nat × Nat × Nat × pm_H) ⊕ (Nat × Nat × Nat × pm_H) ⊕ (Nat × Nat × Nat × pm_H) ⊕ (Nat × Nat × Nat × pm_H) ⊕ (Nat × Nat × Nat × pm_H) ⊕ (Nat × Nat × Nat × pm_H) ⊕ (Nat × Nat × Nat × pm_H) ⊕ (Nat × Nat × Nat × pm_H) ⊕ (Nat × Nat × Nat × pm_H) ⊕ (Nat × Nat × Nat × pm_H) ⊕ (Nat × Nat × Nat × pm_H) ⊕ (Nat × Nat × Nat × pm_H) ⊕ (Nat × Nat × Nat × pm_H) ⊕ (Nat × Nat × Nat × pm_H) ⊕ (Nat × Nat × Nat × pm_H) ⊕ (Nat × Nat × Nat × pm_H) ⊕ (Nat × Nat × Nat × pm_H) ⊕ (Nat × Nat × Nat × pm_H) ⊕ (Nat × Nat × Nat × pm_H) ⊕ (Nat × Nat × Nat × pm_H) ⊕ (Nat × Nat × Nat × pm_H) ⊕ (Nat × Nat × Nat × pm_H) ⊕ (Nat × Nat × Nat × pm_H) ⊕ (Nat × Nat × Nat × pm_H) ⊕ (Nat × Nat × Nat × pm_H) ⊕ (Nat × Nat × Nat × pm_H) ⊕ (Nat × Nat × Nat × pm_H) ⊕ (Nat × Nat × Nat × pm_H) ⊕ (Nat × Nat × Nat × pm_H) ⊕ (Nat × Nat × Nat × pm_H) ⊕ (Nat × Nat × Nat × pm_H) ⊕ (Nat × Nat × Nat × pm_H) ⊕ (Nat × Nat × Nat × pm_H) ⊕ (Nat × Nat × Nat × pm_H) ⊕ (Nat × Nat × Nat × pm_H) ⊕ (Nat × Nat × Nat × pm_H) ⊕ (Nat × Nat × Nat × pm_H) ⊕ (Nat × Nat × Nat × pm_H) ⊕ (Nat × Nat × Nat × pm_H) ⊕ (Nat × Nat × Nat × pm_H) ⊕ (Nat × Nat × Nat × pm_H) ⊕ (Nat × Nat × Nat × pm_H) ⊕ (Nat × Nat × Nat × pm_H) ⊕ (Nat × Nat × Nat × pm_H) ⊕ (Nat × Nat × Nat × pm_H) ⊕ (Nat × Nat × Nat × pm_H) ⊕ (Nat × Nat × Nat × pm_H) ⊕ (Nat × Nat × Nat × pm_H) ⊕ (Nat × Nat × Nat × pm_H) ⊕ (Nat × Nat × Nat × pm_H) ⊕ (Nat × Nat × Nat × pm_H) ⊕ (Nat × Int32 × pm_H)) ⊕ pm_H) := if pm_kd h s1 = 16 then some (.inl (.inr (.inr (.inr (.inr (.inr (.inr (.inr (.inr (.inr (.inr (.inr (.inr (.inl ((x0, pm_sz (pm_setR h s1 28 (some s0)), x0, pm_new (pm_setR h s1 28 (some s0)) 34 16)))))))))))))))) else none
def tX16_init_107 (x0 : Nat) (s0 : Nat) (s1 : Nat) (h : pm_H) : Option (((Nat × pm_H) ⊕ (Nat × Nat × Nat × pm_H) ⊕ (Nat × Nat × Nat × pm_H) ⊕ (Nat × Nat × Nat × pm_H) ⊕ (Nat × Nat × Nat × pm_H) ⊕ (Nat × Nat × Nat × pm_H) ⊕ (Nat × Nat × Nat × pm_H) ⊕ (Nat × Nat × Nat × pm_H) ⊕ (Nat × Nat × Nat × pm_H) ⊕ (Nat × Nat × Nat × pm_H) ⊕ (Nat × Nat × Nat × pm_H) ⊕ (Nat × Nat × Nat × pm_H) ⊕ (Nat × Nat × Nat × pm_H) ⊕ (Nat × Nat × Nat × pm_H) ⊕ (Nat × Nat × Nat × pm_H) ⊕ (Nat × Nat × Nat × pm_H) ⊕ (Nat × Nat × Nat × pm_H) ⊕ (Nat × Nat × Nat × pm_H) ⊕ (Nat × Nat × Nat × pm_H) ⊕ (Nat × Nat × Nat × pm_H) ⊕ (Nat × Nat × Nat × pm_H) ⊕ (Nat × Nat × Nat × pm_H) ⊕ (Nat × Nat × Nat × pm_H) ⊕ (Nat × Nat × Nat × pm_H) ⊕ (Nat × Nat × Nat × pm_H) ⊕ (Nat × Nat × Nat × pm_H) ⊕ (Nat × Nat × Nat × pm_H) ⊕ (Nat × Nat × Nat × pm_H) ⊕ (Nat × Nat × Nat × pm_H) ⊕ (Nat × Nat × Nat × pm_H) ⊕ (Nat × Nat × Nat × pm_H) ⊕ (Nat × Nat × Nat × pm_H) ⊕ (Nat × Nat × Nat × pm_H) ⊕ (Nat × Nat × Nat × pm_H) ⊕ (Nat × Nat × Nat × pm_H) ⊕ (Nat × Nat × Nat × pm_H) ⊕ (Nat × Nat × Nat × pm_H) ⊕ (Nat × Nat × Nat × pm_H) ⊕ (Nat × Nat × Nat × pm_H) ⊕ (Nat × Nat × Nat × pm_H) ⊕ (Nat × Nat × Nat × pm_H) ⊕ (Nat × Nat × Nat × pm_H) ⊕ (Nat × Nat × Nat × pm_H) ⊕ (Nat × Nat × Nat × pm_H) ⊕ (Nat × Nat × Nat × pm_H) ⊕ (Nat × Nat × Nat × pm_H) ⊕ (Nat × Nat × Nat × pm_H) ⊕ (Nat × Nat × Nat × pm_H) ⊕ (Nat × Nat × Nat × pm_H) ⊕ (Nat × Nat × Nat × pm_H) ⊕ (Nat × Nat × Nat × pm_H) ⊕ (Nat × Nat × Nat × pm_H) ⊕ (Nat × Nat × Nat × pm_H) ⊕ (Nat × Nat × Nat × pm_H) ⊕ (Nat × Nat × Nat × pm_H) ⊕ (Nat × Nat × Nat × pm_H) ⊕ (Nat × Nat × Nat × pm_H) ⊕ (Nat × Int32 × pm_H)) ⊕ pm_H) := if pm_kd h s1 = 16 then some (.inl (.inr (.inr (.inr (.inr (.inr (.inr (.inr (.inr (.inr (.inr (.inr (.inr (.inr (.inl ((x0, pm_sz (pm_setR h s1 32 (some s0)), x0, pm_new (pm_setR h s1 32 (some s0)) 15 0))))))))))))))))) else none
def tX16_init_114 (x0 : Nat) (s0 : Nat) (s1 : Nat) (h : pm_H) : Option (((Nat × pm_H) ⊕ (Nat × Nat × Nat × pm_H) ⊕ (Nat × Nat × Nat × pm_H) ⊕ (Nat × Nat × Nat × pm_H) ⊕ (Nat × Nat × Nat × pm_H) ⊕ (Nat × Nat × Nat × pm_H) ⊕ (Nat × Nat × Nat × pm_H) ⊕ (Nat × Nat × Nat × pm_H) ⊕ (Nat × Nat × Nat × pm_H) ⊕ (Nat × Nat × Nat × pm_H) ⊕ (Nat × Nat × Nat × pm_H) ⊕ (Nat × Nat × Nat × pm_H) ⊕ (Nat × Nat × Nat × pm_H) ⊕ (Nat × Nat × Nat × pm_H) ⊕ (Nat × Nat × Nat × pm_H) ⊕ (Nat × Nat × Nat × pm_H) ⊕ (Nat × Nat × Nat × pm_H) ⊕ (Nat × Nat × Nat × pm_H) ⊕ (Nat × Nat × Nat × pm_H) ⊕ (Nat × Nat × Nat × pm_H) ⊕ (Nat × Nat × Nat × pm_H) ⊕ (Nat × Nat × Nat × pm_H) ⊕ (Nat × Nat × Nat × pm_H) ⊕ (Nat × Nat × Nat × pm_H) ⊕ (Nat × Nat × Nat × pm_H) ⊕ (Nat × Nat × Nat × pm_H) ⊕ (Nat × Nat × Nat × pm_H) ⊕ (Nat × Nat × Nat × pm_H) ⊕ (Nat × Nat × Nat × pm_H) ⊕ (Nat × Nat × Nat × pm_H) ⊕ (Nat × Nat × Nat × pm_H) ⊕ (Nat × Nat × Nat × pm_H) ⊕ (Nat × Nat × Nat × pm_H) ⊕ (Nat × Nat × Nat × pm_H) ⊕ (Nat × Nat × Nat × pm_H) ⊕ (Nat × Nat × Nat × pm_H) ⊕ (Nat × Nat × Nat × pm_H) ⊕ (Nat × Nat × Nat × pm_H) ⊕ (Nat × Nat × Nat × pm_H) ⊕ (Nat × Nat × Nat × pm_H) ⊕ (Nat × Nat × Nat × pm_H) ⊕ (Nat × Nat × Nat × pm_H) ⊕ (Nat × Nat × Nat × pm_H) ⊕ (Nat × Nat × Nat × pm_H) ⊕ (Nat × Nat × Nat × pm_H) ⊕ (Nat × Nat × Nat × pm_H) ⊕ (Nat × Nat × Nat × pm_H) ⊕ (Nat × Nat × Nat × pm_H) ⊕ (Nat × Nat × Nat × pm_H) ⊕ (Nat × Nat × Nat × pm_H) ⊕ (Nat × Nat × Nat × pm_H) ⊕ (Nat × Nat × Nat × pm_H) ⊕ (Nat × Nat × Nat × pm_H) ⊕ (Nat × Nat × Nat × pm_H) ⊕ (Nat × Nat × Nat × pm_H) ⊕ (Nat × Nat × Nat × pm_H) ⊕ (Nat × Nat × Nat × pm_H) ⊕ (Nat × Int32 × pm_H)) ⊕ pm_H) := pm_let (fX15_init s0) fun v13 => if pm_kd h s1 = 16 then some (.inl (.inr (.inr (.inr (.inr (.inr (.inr (.inr (.inr (.inr (.inr (.inr (.inr (.inr (.inr (.inl ((x0, pm_sz (pm_setR h s1 34 (some s0)), x0, pm_new (pm_setR h s1 34 (some s0)) 15 0)))))))))))))))))) else none
def tX16_init_125 (x0 : Nat) (s0 : Nat) (s1 : Nat) (h : pm_H) : Option (((Nat × pm_H) ⊕ (Nat × Nat × Nat × pm_H) ⊕ (Nat × Nat × Nat × pm_H) ⊕ (Nat × Nat × Nat × pm_H) ⊕ (Nat × Nat × Nat × pm_H) ⊕ (Nat × Nat × Nat × pm_H) ⊕ (Nat × Nat × Nat × pm_H) ⊕ (Nat × Nat × Nat × pm_H) ⊕ (Nat × Nat × Nat × pm_H) ⊕ (Nat × Nat × Nat × pm_H) ⊕ (Nat × Nat × Nat × pm_H) ⊕ (Nat × Nat × Nat × pm_H) ⊕ (Nat × Nat × Nat × pm_H) ⊕ (Nat × Nat × Nat × pm_H) ⊕ (Nat × Nat × Nat × pm_H) ⊕ (Nat × Nat × Nat × pm_H) ⊕ (Nat × Nat × Nat × pm_H) ⊕ (Nat × Nat × Nat × pm_H) ⊕ (Nat × Nat × Nat × pm_H) ⊕ (Nat × Nat × Nat × pm_H) ⊕ (Nat × Nat × Nat × pm_H) ⊕ (Nat × Nat × Nat × pm_H) ⊕ (Nat × Nat × Nat × pm_H) ⊕ (Nat × Nat × Nat × pm_H) ⊕ (Nat × Nat × Nat × pm_H) ⊕ (Nat × Nat × Nat × pm_H) ⊕ (Nat × Nat × Nat × pm_H) ⊕ (Nat × Nat × Nat × pm_H) ⊕ (Nat × Nat × Nat × pm_H) ⊕ (Nat × Nat × Nat × pm_H) ⊕ (Nat × Nat × Nat × pm_H) ⊕ (Nat × Nat × Nat × pm_H) ⊕ (Nat × Nat × Nat × pm_H) ⊕ (Nat × Nat × Nat × pm_H) ⊕ (Nat × Nat × Nat × pm_H) ⊕ (Nat × Nat × Nat × pm_H) ⊕ (Nat × Nat × Nat × pm_H) ⊕ (Nat × Nat × Nat × pm_H) ⊕ (Nat × Nat × Nat × pm_H) ⊕ (Nat × Nat × Nat × pm_H) ⊕ (Nat × Nat × Nat × pm_H) ⊕ (Nat × Nat × Nat × pm_H) ⊕ (Nat × Nat × Nat × pm_H) ⊕ (Nat × Nat × Nat × pm_H) ⊕ (Nat × Nat × Nat × pm_H) ⊕ (Nat × Nat × Nat × pm_H) ⊕ (Nat × Nat × Nat × pm_H) ⊕ (Nat × Nat × Nat × pm_H) ⊕ (Nat × Nat × Nat × pm_H) ⊕ (Nat × Nat × Nat × pm_H) ⊕ (Nat × Nat × Nat × pm_H) ⊕ (Nat × Nat × Nat × pm_H) ⊕ (Nat × Nat × Nat × pm_H) ⊕ (Nat × Nat × Nat × pm_H) ⊕ (Nat × Nat × Nat × pm_H) ⊕ (Nat × Nat × Nat × pm_H) ⊕ (Nat × Nat × Nat × pm_H) ⊕ (Nat × Int32 × pm_H)) ⊕ pm_H) := pm_let (fX15_init s0) fun v16 => if pm_kd h s1 = 16 then some (.inl (.inr (.inr (.inr (.inr (.inr (.inr (.inr (.inr (.inr (.inr (.inr (.inr (.inr (.inr (.inr (.inl ((x0, pm_sz (pm_setR h s1 35 (some s0)), x0, pm_new (pm_setR h s1 35 (some s0)) 34 512))))))))))))))))))) else none
def tX16_init_138 (x0 : Nat) (s0 : Nat) (s1 : Nat) (h : pm_H) : Option (((Nat × pm_H) ⊕ (Nat × Nat × Nat × pm_H) ⊕ (Nat × Nat × Nat × pm_H) ⊕ (Nat × Nat × Nat × pm_H) ⊕ (Nat × Nat × Nat × pm_H) ⊕ (Nat × Nat × Nat × pm_H) ⊕ (Nat × Nat × Nat × pm_H) ⊕ (Nat × Nat × Nat × pm_H) ⊕ (Nat × Nat × Nat × pm_H) ⊕ (Nat × Nat × Nat × pm_H) ⊕ (Nat × Nat × Nat × pm_H) ⊕ (Nat × Nat × Nat × pm_H) ⊕ (Nat × Nat × Nat × pm_H) ⊕ (Nat × Nat × Nat × pm_H) ⊕ (Nat × Nat × Nat × pm_H) ⊕ (Nat × Nat × Nat × pm_H) ⊕ (Nat × Nat × Nat × pm_H) ⊕ (Nat × Nat × Nat × pm_H) ⊕ (Nat × Nat × Nat × pm_H) ⊕ (Nat × Nat × Nat × pm_H) ⊕ (Nat × Nat × Nat × pm_H) ⊕ (Nat × Nat × Nat × pm_H) ⊕ (Nat × Nat × Nat × pm_H) ⊕ (Nat × Nat × Nat × pm_H) ⊕ (Nat × Nat × Nat × pm_H) ⊕ (Nat × Nat × Nat × pm_H) ⊕ (Nat × Nat × Nat × pm_H) ⊕ (Nat × Nat × Nat × pm_H) ⊕ (Nat × Nat × Nat × pm_H) ⊕ (Nat × Nat × Nat × pm_H) ⊕ (Nat × Nat × Nat × pm_H) ⊕ (Nat × Nat × Nat × pm_H) ⊕ (Nat × Nat × Nat × pm_H) ⊕ (Nat × Nat × Nat × pm_H) ⊕ (Nat × Nat × Nat × pm_H) ⊕ (Nat × Nat × Nat × pm_H) ⊕ (Nat × Nat × Nat × pm_H) ⊕ (Nat × Nat × Nat × pm_H) ⊕ (Nat × Nat × Nat × pm_H) ⊕ (Nat × Nat × Nat × pm_H) ⊕ (Nat × Nat × Nat × pm_H) ⊕ (Nat × Nat × Nat × pm_H) ⊕ (Nat × Nat × Nat × pm_H) ⊕ (Nat × Nat × Nat × pm_H) ⊕ (Nat × Nat × Nat × pm_H) ⊕ (Nat × Nat × Nat × pm_H) ⊕ (Nat × Nat × Nat × pm_H) ⊕ (Nat × Nat × Nat × pm_H) ⊕ (Nat × Nat × Nat × pm_H) ⊕ (Nat × Nat × Nat × pm_H) ⊕ (Nat × Nat × Nat × pm_H) ⊕ (Nat × Nat × Nat × pm_H) ⊕ (Nat × Nat × Nat × pm_H) ⊕ (Nat × Nat × Nat × pm_H) ⊕ (Nat × Nat × Nat × pm_H) ⊕ (Nat × Nat × Nat × pm_H) ⊕ (Nat × Nat × Nat × pm_H) ⊕ (Nat × Int32 × pm_H)) ⊕ pm_H) := if pm_kd h s1 = 16 then some (.inl (.inr (.inr (.inr (.inr (.inr (.inr (.inr (.inr (.inr (.inr (.inr (.inr (.inr (.inr (.inr (.inr (.inl ((x0, pm_sz (pm_setR h s1 37 (some s0)), x0, pm_new (pm_setR h s1 37 (some s0)) 34 512)))))))))))))))))))) else none
def tX16_init_147 (x0 : Nat) (s0 : Nat) (s1 : Nat) (h : pm_H) : Option (((Nat × pm_H) ⊕ (Nat × Nat × Nat × pm_H) ⊕ (Nat × Nat × Nat × pm_H) ⊕ (Nat × Nat × Nat × pm_H) ⊕ (Nat × Nat × Nat × pm_H) ⊕ (Nat × Nat × Nat × pm_H) ⊕ (Nat × Nat × Nat × pm_H) ⊕ (Nat × Nat × Nat × pm_H) ⊕ (Nat × Nat × Nat × pm_H) ⊕ (Nat × Nat × Nat × pm_H) ⊕ (Nat × Nat × Nat × pm_H) ⊕ (Nat × Nat × Nat × pm_H) ⊕ (Nat × Nat × Nat × pm_H) ⊕ (Nat × Nat × Nat × pm_H) ⊕ (Nat × Nat × Nat × pm_H) ⊕ (Nat × Nat × Nat × pm_H) ⊕ (Nat × Nat × Nat × pm_H) ⊕ (Nat × Nat × Nat × pm_H) ⊕ (Nat × Nat × Nat × pm_H) ⊕ (Nat × Nat × Nat × pm_H) ⊕ (Nat × Nat × Nat × pm_H) ⊕ (Nat × Nat × Nat × pm_H) ⊕ (Nat × Nat × Nat × pm_H) ⊕ (Nat × Nat × Nat × pm_H) ⊕ (Nat × Nat × Nat × pm_H) ⊕ (Nat × Nat × Nat × pm_H) ⊕ (Nat × Nat × Nat × pm_H) ⊕ (Nat × Nat × Nat × pm_H) ⊕ (Nat × Nat × Nat × pm_H) ⊕ (Nat × Nat × Nat × pm_H) ⊕ (Nat × Nat × Nat × pm_H) ⊕ (Nat × Nat × Nat × pm_H) ⊕ (Nat × Nat × Nat × pm_H) ⊕ (Nat × Nat × Nat × pm_H) ⊕ (Nat × Nat × Nat × pm_H) ⊕ (Nat × Nat × Nat × pm_H) ⊕ (Nat × Nat × Nat × pm_H) ⊕ (Nat × Nat × Nat × pm_H) ⊕ (Nat × Nat × Nat × pm_H) ⊕ (Nat × Nat × Nat × pm_H) ⊕ (Nat × Nat × Nat × pm_H) ⊕ (Nat × Nat × Nat × pm_H) ⊕ (Nat × Nat × Nat × pm_H) ⊕ (Nat × Nat × Nat × pm_H) ⊕ (Nat × Nat × Nat × pm_H) ⊕ (Nat × Nat × Nat × pm_H) ⊕ (Nat × Nat × Nat × pm_H) ⊕ (Nat × Nat × Nat × pm_H) ⊕ (Nat × Nat × Nat × pm_H) ⊕ (Nat × Nat × Nat × pm_H) ⊕ (Nat × Nat × Nat × pm_H) ⊕ (Nat × Nat × Nat × pm_H) ⊕ (Nat × Nat × Nat × pm_H) ⊕ (Nat × Nat × Nat × pm_H) ⊕ (Nat × Nat × Nat × pm_H) ⊕ (Nat × Nat × Nat × pm_H) ⊕ (Nat × Nat × Nat × pm_H) ⊕ (Nat × Int32 × pm_H)) ⊕ pm_H) := if pm_kd h s1 = 16 then some (.inl (.inr (.inr (.inr (.inr (.inr (.inr (.inr (.inr (.inr (.inr (.inr (.inr (.inr (.inr (.inr (.inr (.inr (.inl ((x0, pm_sz (pm_setR h s1 38 (some s0)), x0, pm_new (pm_setR h s1 38 (some s0)) 34 512))))))))))))))))))))) else none
def tX16_init_156 (x0 : Nat) (s0 : Nat) (s1 : Nat) (h : pm_H) : Option (((Nat × pm_H) ⊕ (Nat × Nat × Nat × pm_H) ⊕ (Nat × Nat × Nat × pm_H) ⊕ (Nat × Nat × Nat × pm_H) ⊕ (Nat × Nat × Nat × pm_H) ⊕ (Nat × Nat × Nat × pm_H) ⊕ (Nat × Nat × Nat × pm_H) ⊕ (Nat × Nat × Nat × pm_H) ⊕ (Nat × Nat × Nat × pm_H) ⊕ (Nat × Nat × Nat × pm_H) ⊕ (Nat × Nat × Nat × pm_H) ⊕ (Nat × Nat × Nat × pm_H) ⊕ (Nat × Nat × Nat × pm_H) ⊕ (Nat × Nat × Nat × pm_H) ⊕ (Nat × Nat × Nat × pm_H) ⊕ (Nat × Nat × Nat × pm_H) ⊕ (Nat × Nat × Nat × pm_H) ⊕ (Nat × Nat × Nat × pm_H) ⊕ (Nat × Nat × Nat × pm_H) ⊕ (Nat × Nat × Nat × pm_H) ⊕ (Nat × Nat × Nat × pm_H) ⊕ (Nat × Nat × Nat × pm_H) ⊕ (Nat × Nat × Nat × pm_H) ⊕ (Nat × Nat × Nat × pm_H) ⊕ (Nat × Nat × Nat × pm_H) ⊕ (Nat × Nat × Nat × pm_H) ⊕ (Nat × Nat × Nat × pm_H) ⊕ (Nat × Nat × Nat × pm_H) ⊕ (Nat × Nat × Nat × pm_H) ⊕ (Nat × Nat × Nat × pm_H) ⊕ (Nat × Nat × Nat × pm_H) ⊕ (Nat × Nat × Nat × pm_H) ⊕ (Nat × Nat × Nat × pm_H) ⊕ (Nat × Nat × Nat × pm_H) ⊕ (Nat × Nat × Nat × pm_H) ⊕ (Nat × Nat × Nat × pm_H) ⊕ (Nat × Nat × Nat × pm_H) ⊕ (Nat × Nat × Nat × pm_H) ⊕ (Nat × Nat × Nat × pm_H) ⊕ (Nat × Nat × Nat × pm_H) ⊕ (Nat × Nat × Nat × pm_H) ⊕ (Nat × Nat × Nat × pm_H) ⊕ (Nat × Nat × Nat × pm_H) ⊕ (Nat × Nat × Nat × pm_H) ⊕ (Nat × Nat × Nat × pm_H) ⊕ (Nat × Nat × Nat × pm_H) ⊕ (Nat × Nat × Nat × pm_H) ⊕ (Nat × Nat × Nat × pm_H) ⊕ (Nat × Nat × Nat × pm_H) ⊕ (Nat × Nat × Nat × pm_H) ⊕ (Nat × Nat × Nat × pm_H) ⊕ (Nat × Nat × Nat × pm_H) ⊕ (Nat × Nat × Nat × pm_H) ⊕ (Nat × Nat × Nat × pm_H) ⊕ (Nat × Nat × Nat × pm_H) ⊕ (Nat × Nat × Nat × pm_H) ⊕ (Nat × Nat × Nat × pm_H) ⊕ (Nat × Int32 × pm_H)) ⊕ pm_H) := if pm_kd h s1 = 16 then some (.inl (.inr (.inr (.inr (.inr (.inr (.inr (.inr (.inr (.inr (.inr (.inr (.inr (.inr (.inr (.inr (.inr (.inr (.inr (.inl ((x0, pm_sz (pm_setR h s1 39 (some s0)), x0, pm_new (pm_setR h s1 39 (some s0)) 34 512)))))))))))))))))))))) else none
def tX16_init_165 (x0 : Nat) (s0 : Nat) (s1 : Nat) (h : pm_H) : Option (((Nat × pm_H) ⊕ (Nat × Nat × Nat × pm_H) ⊕ (Nat × Nat × Nat × pm_H) ⊕ (Nat × Nat × Nat × pm_H) ⊕ (Nat × Nat × Nat × pm_H) ⊕ (Nat × Nat × Nat × pm_H) ⊕ (Nat × Nat × Nat × pm_H) ⊕ (Nat × Nat × Nat × pm_H) ⊕ (Nat × Nat × Nat × pm_H) ⊕ (Nat × Nat × Nat × pm_H) ⊕ (Nat × Nat × Nat × pm_H) ⊕ (Nat × Nat × Nat × pm_H) ⊕ (Nat × Nat × Nat × pm_H) ⊕ (Nat × Nat × Nat × pm_H) ⊕ (Nat × Nat × Nat × pm_H) ⊕ (Nat × Nat × Nat × pm_H) ⊕ (Nat × Nat × Nat × pm_H) ⊕ (Nat × Nat × Nat × pm_H) ⊕ (Nat × Nat × Nat × pm_H) ⊕ (Nat × Nat × Nat × pm_H) ⊕ (Nat × Nat × Nat × pm_H) ⊕ (Nat × Nat × Nat × pm_H) ⊕ (Nat × Nat × Nat × pm_H) ⊕ (Nat × Nat × Nat × pm_H) ⊕ (Nat × Nat × Nat × pm_H) ⊕ (Nat × Nat × Nat × pm_H) ⊕ (Nat × Nat × Nat × pm_H) ⊕ (Nat × Nat × Nat × pm_H) ⊕ (Nat × Nat × Nat × pm_H) ⊕ (Nat × Nat × Nat × pm_H) ⊕ (Nat × Nat × Nat × pm_H) ⊕ (Nat × Nat × Nat × pm_H) ⊕ (Nat × Nat × Nat × pm_H) ⊕ (Nat × Nat × Nat × pm_H) ⊕ (Nat × Nat × Nat × pm_H) ⊕ (Nat × Nat × Nat × pm_H) ⊕ (Nat × Nat × Nat × pm_H) ⊕ (Nat × Nat × Nat × pm_H) ⊕ (Nat × Nat × Nat × pm_H) ⊕ (Nat × Nat × Nat × pm_H) ⊕ (Nat × Nat × Nat × pm_H) ⊕ (Nat × Nat × Nat × pm_H) ⊕ (Nat × Nat × Nat × pm_H) ⊕ (Nat × Nat × Nat × pm_H) ⊕ (Nat × Nat × Nat × pm_H) ⊕ (Nat × Nat × Nat × pm_H) ⊕ (Nat × Nat × Nat × pm_H) ⊕ (Nat × Nat × Nat × pm_H) ⊕ (Nat × Nat × Nat × pm_H) ⊕ (Nat × Nat × Nat × pm_H) ⊕ (Nat × Nat × Nat × pm_H) ⊕ (Nat × Nat × Nat × pm_H) ⊕ (Nat × Nat × Nat × pm_H) ⊕ (Nat × Nat × Nat × pm_H) ⊕ (Nat × Nat × Nat × pm_H) ⊕ (Nat × Nat × Nat × pm_H) ⊕ (Nat × Nat × Nat × pm_H) ⊕ (Nat × Int32 × pm_H)) ⊕ pm_H) := if pm_kd h s1 = 16 then some (.inl (.inr (.inr (.inr (.inr (.inr (.inr (.inr (.inr (.inr (.inr (.inr (.inr (.inr (.inr (.inr (.inr (.inr (.inr (.inr (.inl ((x0, pm_sz (pm_setR h s1 40 (some s0)), x0, pm_new (pm_setR h s1 40 (some s0)) 34 512))))))))))))))))))))))) else none
def tX16_init_174 (x0 : Nat) (s0 : Nat) (s1 : Nat) (h : pm_H) : Option (((Nat × pm_H) ⊕ (Nat × Nat × Nat × pm_H) ⊕ (Nat × Nat × Nat × pm_H) ⊕ (Nat × Nat × Nat × pm_H) ⊕ (Nat × Nat × Nat × pm_H) ⊕ (Nat × Nat × Nat × pm_H) ⊕ (Nat × Nat × Nat × pm_H) ⊕ (Nat × Nat × Nat × pm_H) ⊕ (Nat × Nat × Nat × pm_H) ⊕ (Nat × Nat × Nat × pm_H) ⊕ (Nat × Nat × Nat × pm_H) ⊕ (Nat × Nat × Nat × pm_H) ⊕ (Nat × Nat × Nat × pm_H) ⊕ (Nat × Nat × Nat × pm_H) ⊕ (Nat × Nat × Nat × pm_H) ⊕ (Nat × Nat × Nat × pm_H) ⊕ (Nat × Nat × Nat × pm_H) ⊕ (Nat × Nat × Nat × pm_H) ⊕ (Nat × Nat × Nat × pm_H) ⊕ (Nat × Nat × Nat × pm_H) ⊕ (Nat × Nat × Nat × pm_H) ⊕ (Nat × Nat × Nat × pm_H) ⊕ (Nat × Nat × Nat × pm_H) ⊕ (Nat × Nat × Nat × pm_H) ⊕ (Nat × Nat × Nat × pm_H) ⊕ (Nat × Nat × Nat × pm_H) ⊕ (Nat × Nat × Nat × pm_H) ⊕ (Nat × Nat × Nat × pm_H) ⊕ (Nat × Nat × Nat × pm_H) ⊕ (Nat × Nat × Nat × pm_H) ⊕ (Nat × Nat × Nat × pm_H) ⊕ (Nat × Nat × Nat × pm_H) ⊕ (Nat × Nat × Nat × pm_H) ⊕ (Nat × Nat × Nat × pm_H) ⊕ (Nat × Nat × Nat × pm_H) ⊕ (Nat × Nat × Nat × pm_H) ⊕ (Nat × Nat × Nat × pm_H) ⊕ (Nat × Nat × Nat × pm_H) ⊕ (Nat × Nat × Nat × pm_H) ⊕ (Nat × Nat × Nat × pm_H) ⊕ (Nat × Nat × Nat × pm_H) ⊕ (Nat × Nat × Nat × pm_H) ⊕ (Nat × Nat × Nat × pm_H) ⊕ (Nat × Nat × Nat × pm_H) ⊕ (Nat × Nat × Nat × pm_H) ⊕ (Nat × Nat × Nat × pm_H) ⊕ (Nat × Nat × Nat × pm_H) ⊕ (Nat × Nat × Nat × pm_H) ⊕ (Nat × Nat × Nat × pm_H) ⊕ (Nat × Nat × Nat × pm_H) ⊕ (Nat × Nat × Nat × pm_H) ⊕ (Nat × Nat × Nat × pm_H) ⊕ (Nat × Nat × Nat × pm_H) ⊕ (Nat × Nat × Nat × pm_H) ⊕ (Nat × Nat × Nat × pm_H) ⊕ (Nat × Nat × Nat × pm_H) ⊕ (Nat × Nat × Nat × pm_H) ⊕ (Nat × Int32 × pm_H)) ⊕ pm_H) := if pm_kd h s1 = 16 then some (.inl (.inr (.inr (.inr (.inr (.inr (.inr (.inr (.inr (.inr (.inr (.inr (.inr (.inr (.inr (.inr (.inr (.inr (.inr (.inr (.inr (.inl ((x0, pm_sz (pm_setR h s1 41 (some s0)), x0, pm_new (pm_setR h s1 41 (some s0)) 34 512)))))))))))))))))))))))) else none
def tX16_init_183 (x0 : Nat) (s0 : Nat) (s1 : Nat) (h : pm_H) : Option (((Nat × pm_H) ⊕ (Nat × Nat × Nat × pm_H) ⊕ (Nat × Nat × Nat × pm_H) ⊕ (Nat × Nat × Nat × pm_H) ⊕ (Nat × Nat × Nat × pm_H) ⊕ (Nat × Nat × Nat × pm_H) ⊕ (Nat × Nat × Nat × pm_H) ⊕ (Nat × Nat × Nat × pm_H) ⊕ (Nat × Nat × Nat × pm_H) ⊕ (Nat × Nat × Nat × pm_H) ⊕ (Nat × Nat × Nat × pm_H) ⊕ (Nat × Nat × Nat × pm_H) ⊕ (Nat × Nat × Nat × pm_H) ⊕ (Nat × Nat × Nat × pm_H) ⊕ (Nat × Nat × Nat × pm_H) ⊕ (Nat × Nat × Nat × pm_H) ⊕ (Nat × Nat × Nat × pm_H) ⊕ (Nat × Nat × Nat × pm_H) ⊕ (Nat × Nat × Nat × pm_H) ⊕ (Nat × Nat × Nat × pm_H) ⊕ (Nat × Nat × Nat × pm_H) ⊕ (Nat × Nat × Nat × pm_H) ⊕ (Nat × Nat × Nat × pm_H) ⊕ (Nat × Nat × Nat × pm_H) ⊕ (Nat × Nat × Nat × pm_H) ⊕ (Nat × Nat × Nat × pm_H) ⊕ (Nat × Nat × Nat × pm_H) ⊕ (Nat × Nat × Nat × pm_H) ⊕ (Nat × Nat × Nat × pm_H) ⊕ (Nat × Nat × Nat × pm_H) ⊕ (Nat × Nat × Nat × pm_H) ⊕ (Nat × Nat × Nat × pm_H) ⊕ (Nat × Nat × Nat × pm_H) ⊕ (Nat × Nat × Nat × pm_H) ⊕ (Nat × Nat × Nat × pm_H) ⊕ (Nat × Nat × Nat × pm_H) ⊕ (Nat × Nat × Nat × pm_H) ⊕ (Nat × Nat × Nat × pm_H) ⊕ (Nat × Nat × Nat × pm_H) ⊕ (Nat × Nat × Nat × pm_H) ⊕ (Nat × Nat × Nat × pm_H) ⊕ (Nat × Nat × Nat × pm_H) ⊕ (Nat × Nat × Nat × pm_H) ⊕ (Nat × Nat × Nat × pm_H) ⊕ (Nat × Nat × Nat × pm_H) ⊕ (Nat × Nat × Nat × pm_H) ⊕ (Nat × Nat × Nat × pm_H) ⊕ (Nat × Nat × Nat × pm_H) ⊕ (Nat × Nat × Nat × pm_H) ⊕ (Nat × Nat × Nat × pm_H) ⊕ (Nat × Nat × Nat × pm_H) ⊕ (Nat × Nat × Nat × pm_H) ⊕ (Nat × Nat × Nat × pm_H) ⊕ (Nat × Nat × Nat × pm_H) ⊕ (Nat × Nat × Nat × pm_H) ⊕ (Nat × Nat × Nat × pm_H) ⊕ (Nat × Nat × Nat × pm_H) ⊕ (Nat × Int32 × pm_H)) ⊕ pm_H) := if pm_kd h s1 = 16 then some (.inl (.inr (.inr (.inr (.inr (.inr (.inr (.inr (.inr (.inr (.inr (.inr (.inr (.inr (.inr (.inr (.inr (.inr (.inr (.inr (.inr (.inr (.inl ((x0, pm_sz (pm_setR h s1 42 (some s0)), x0, pm_new (pm_setR h s1 42 (some s0)) 32 512))))))))))))))))))))))))) else none
def tX16_init_192 (x0 : Nat) (s0 : Nat) (s1 : Nat) (h : pm_H) : Option (((Nat × pm_H) ⊕ (Nat × Nat × Nat × pm_H) ⊕ (Nat × Nat × Nat × pm_H) ⊕ (Nat × Nat × Nat × pm_H) ⊕ (Nat × Nat × Nat × pm_H) ⊕ (Nat × Nat × Nat × pm_H) ⊕ (Nat × Nat × Nat × pm_H) ⊕ (Nat × Nat × Nat × pm_H) ⊕ (Nat × Nat × Nat × pm_H) ⊕ (Nat × Nat × Nat × pm_H) ⊕ (Nat × Nat × Nat × pm_H) ⊕ (Nat × Nat × Nat × pm_H) ⊕ (Nat × Nat × Nat × pm_H) ⊕ (Nat × Nat × Nat × pm_H) ⊕ (Nat × Nat × Nat × pm_H) ⊕ (Nat × Nat × Nat × pm_H) ⊕ (Nat × Nat × Nat × pm_H) ⊕ (Nat × Nat × Nat × pm_H) ⊕ (Nat × Nat × Nat × pm_H) ⊕ (Nat × Nat × Nat × pm_H) ⊕ (Nat × Nat × Nat × pm_H) ⊕ (Nat × Nat × Nat × pm_H) ⊕ (Nat × Nat × Nat × pm_H) ⊕ (Nat × Nat × Nat × pm_H) ⊕ (Nat × Nat × Nat × pm_H) ⊕ (Nat × Nat × Nat × pm_H) ⊕ (Nat × Nat × Nat × pm_H) ⊕ (Nat × Nat × Nat × pm_H) ⊕ (Nat × Nat × Nat × pm_H) ⊕ (Nat × Nat × Nat × pm_H) ⊕ (Nat × Nat × Nat × pm_H) ⊕ (Nat × Nat × Nat × pm_H) ⊕ (Nat × Nat × Nat × pm_H) ⊕ (Nat × Nat × Nat × pm_H) ⊕ (Nat × Nat × Nat × pm_H) ⊕ (Nat × Nat × Nat × pm_H) ⊕ (Nat × Nat × Nat × pm_H) ⊕ (Nat × Nat × Nat × pm_H) ⊕ (Nat × Nat × Nat × pm_H) ⊕ (Nat × Nat × Nat × pm_H) ⊕ (Nat × Nat × Nat × pm_H) ⊕ (Nat × Nat × Nat × pm_H) ⊕ (Nat × Nat × Nat × pm_H) ⊕ (Nat × Nat × Nat × pm_H) ⊕ (Nat × Nat × Nat × pm_H) ⊕ (Nat × Nat × Nat × pm_H) ⊕ (Nat × Nat × Nat × pm_H) ⊕ (Nat × Nat × Nat × pm_H) ⊕ (Nat × Nat × Nat × pm_H) ⊕ (Nat × Nat × Nat × pm_H) ⊕ (Nat × Nat × Nat × pm_H) ⊕ (Nat × Nat × Nat × pm_H) ⊕ (Nat × Nat × Nat × pm_H) ⊕ (Nat × Nat × Nat × pm_H) ⊕ (Nat × Nat × Nat × pm_H) ⊕ (Nat × Nat × Nat × pm_H) ⊕ (Nat × Nat × Nat × pm_H) ⊕ (Nat × Int32 × pm_H)) ⊕ pm_H) := if pm_kd h s1 = 16 then if pm_kd (pm_setR h s1 43 (some s0)) x0 = 16 then some (.inl (.inr (.inr (.inr (.inr (.inr (.inr (.inr (.inr (.inr (.inr (.inr (.inr (.inr (.inr (.inr (.inr (.inr (.inr (.inr (.inr (.inr (.inr (.inl ((x0, pm_sz (pm_setI (pm_setR h s1 43 (some s0)) x0 47 1024), x0, pm_new (pm_setI (pm_setR h s1 43 (some s0)) x0 47 1024) 34 32)))))))))))))))))))))))))) else none else none
def tX16_init_207 (x0 : Nat) (s0 : Nat) (s1 : Nat) (h : pm_H) : Option (((Nat × pm_H) ⊕ (Nat × Nat × Nat × pm_H) ⊕ (Nat × Nat × Nat × pm_H) ⊕ (Nat × Nat × Nat × pm_H) ⊕ (Nat × Nat × Nat × pm_H) ⊕ (Nat × Nat × Nat × pm_H) ⊕ (Nat × Nat × Nat × pm_H) ⊕ (Nat × Nat × Nat × pm_H) ⊕ (Nat × Nat × Nat × pm_H) ⊕ (Nat × Nat × Nat × pm_H) ⊕ (Nat × Nat × Nat × pm_H) ⊕ (Nat × Nat × Nat × pm_H) ⊕ (Nat × Nat × Nat × pm_H) ⊕ (Nat × Nat × Nat × pm_H) ⊕ (Nat × Nat × Nat × pm_H) ⊕ (Nat × Nat × Nat × pm_H) ⊕ (Nat × Nat × Nat × pm_H) ⊕ (Nat × Nat × Nat × pm_H) ⊕ (Nat × Nat × Nat × pm_H) ⊕ (Nat × Nat × Nat × pm_H) ⊕ (Nat × Nat × Nat × pm_H) ⊕ (Nat × Nat × Nat × pm_H) ⊕ (Nat × Nat × Nat × pm_H) ⊕ (Nat × Nat × Nat × pm_H) ⊕ (Nat × Nat × Nat × pm_H) ⊕ (Nat × Nat × Nat × pm_H) ⊕ (Nat × Nat × Nat × pm_H) ⊕ (Nat × Nat × Nat × pm_H) ⊕ (Nat × Nat × Nat × pm_H) ⊕ (Nat × Nat × Nat × pm_H) ⊕ (Nat × Nat × Nat × pm_H) ⊕ (Nat × Nat × Nat × pm_H) ⊕ (Nat × Nat × Nat × pm_H) ⊕ (Nat × Nat × Nat × pm_H) ⊕ (Nat × Nat × Nat × pm_H) ⊕ (Nat × Nat × Nat × pm_H) ⊕ (Nat × Nat × Nat × pm_H) ⊕ (Nat × Nat × Nat × pm_H) ⊕ (Nat × Nat × Nat × pm_H) ⊕ (Nat × Nat × Nat × pm_H) ⊕ (Nat × Nat × Nat × pm_H) ⊕ (Nat × Nat × Nat × pm_H) ⊕ (Nat × Nat × Nat × pm_H) ⊕ (Nat × Nat × Nat × pm_H) ⊕ (Nat × Nat × Nat × pm_H) ⊕ (Nat × Nat × Nat × pm_H) ⊕ (Nat × Nat × Nat × pm_H) ⊕ (Nat × Nat × Nat × pm_H) ⊕ (Nat × Nat × Nat × pm_H) ⊕ (Nat × Nat × Nat × pm_H) ⊕ (Nat × Nat × Nat × pm_H) ⊕ (Nat × Nat × Nat × pm_H) ⊕ (Nat × Nat × Nat × pm_H) ⊕ (Nat × Nat × Nat × pm_H) ⊕ (Nat × Nat × Nat × pm_H) ⊕ (Nat × Nat × Nat × pm_H) ⊕ (Nat × Nat × Nat × pm_H) ⊕ (Nat × Int32 × pm_H)) ⊕ pm_H) := if pm_kd h s1 = 16 then some (.inl (.inr (.inr (.inr (.inr (.inr (.inr (.inr (.inr (.inr (.inr (.inr (.inr (.inr (.inr (.inr (.inr (.inr (.inr (.inr (.inr (.inr (.inr (.inr (.inl ((x0, pm_sz (pm_setR h s1 48 (some s0)), x0, pm_new (pm_setR h s1 48 (some s0)) 34 32))))))))))))))))))))))))))) else none
def tX16_init_215 (x0 : Nat) (s0 : Nat) (s1 : Nat) (h : pm_H) : Option (((Nat × pm_H) ⊕ (Nat × Nat × Nat × pm_H) ⊕ (Nat × Nat × Nat × pm_H) ⊕ (Nat × Nat × Nat × pm_H) ⊕ (Nat × Nat × Nat × pm_H) ⊕ (Nat × Nat × Nat × pm_H) ⊕ (Nat × Nat × Nat × pm_H) ⊕ (Nat × Nat × Nat × pm_H) ⊕ (Nat × Nat × Nat × pm_H) ⊕ (Nat × Nat × Nat × pm_H) ⊕ (Nat × Nat × Nat × pm_H) ⊕ (Nat × Nat × Nat × pm_H) ⊕ (Nat × Nat × Nat × pm_H) ⊕ (Nat × Nat × Nat × pm_H) ⊕ (Nat × Nat × Nat × pm_H) ⊕ (Nat × Nat × Nat × pm_H) ⊕ (Nat × Nat × Nat × pm_H) ⊕ (Nat × Nat × Nat × pm_H) ⊕ (Nat × Nat × Nat × pm_H) ⊕ (Nat × Nat × Nat × pm_H) ⊕ (Nat × Nat × Nat × pm_H) ⊕ (Nat × Nat × Nat × pm_H) ⊕ (Nat × Nat × Nat × pm_H) ⊕ (Nat × Nat × Nat × pm_H) ⊕ (Nat × Nat × Nat × pm_H) ⊕ (Nat × Nat × Nat × pm_H) ⊕ (Nat × Nat × Nat × pm_H) ⊕ (Nat × Nat × Nat × pm_H) ⊕ (Nat × Nat × Nat × pm_H) ⊕ (Nat × Nat × Nat × pm_H) ⊕ (Nat × Nat × Nat × pm_H) ⊕ (Nat × Nat × Nat × pm_H) ⊕ (Nat × Nat × Nat × pm_H) ⊕ (Nat × Nat × Nat × pm_H) ⊕ (Nat × Nat × Nat × pm_H) ⊕ (Nat × Nat × Nat × pm_H) ⊕ (Nat × Nat × Nat × pm_H) ⊕ (Nat × Nat × Nat × pm_H) ⊕ (Nat × Nat × Nat × pm_H) ⊕ (Nat × Nat × Nat × pm_H) ⊕ (Nat × Nat × Nat × pm_H) ⊕ (Nat × Nat × Nat × pm_H) ⊕ (Nat × Nat × Nat × pm_H) ⊕ (Nat × Nat × Nat × pm_H) ⊕ (Nat × Nat × Nat × pm_H) ⊕ (Nat × Nat × Nat × pm_H) ⊕ (Nat × Nat × Nat × pm_H) ⊕ (Nat × Nat × Nat × pm_H) ⊕ (Nat × Nat × Nat × pm_H) ⊕ (Nat × Nat × Nat × pm_H) ⊕ (Nat × Nat × Nat × pm_H) ⊕ (Nat × Nat × Nat × pm_H) ⊕ (Nat × Nat × Nat × pm_H) ⊕ (Nat × Nat × Nat × pm_H) ⊕ (Nat × Nat × Nat × pm_H) ⊕ (Nat × Nat × Nat × pm_H) ⊕ (Nat × Nat × Nat × pm_H) ⊕ (Nat × Int32 × pm_H)) ⊕ pm_H) := if pm_kd h s1 = 16 then some (.inl (.inr (.inr (.inr (.inr (.inr (.inr (.inr (.inr (.inr (.inr (.inr (.inr (.inr (.inr (.inr (.inr (.inr (.inr (.inr (.inr (.inr (.inr (.inr (.inr (.inl ((x0, pm_sz (pm_setR h s1 49 (some s0)), x0, pm_new (pm_setR h s1 49 (some s0)) 35 32)))))))))))))))))))))))))))) else none
def tX16_init_223 (x0 : Nat) (s0 : Nat) (s1 : Nat) (h : pm_H) : Option (((Nat × pm_H) ⊕ (Nat × Nat × Nat × pm_H) ⊕ (Nat × Nat × Nat × pm_H) ⊕ (Nat × Nat × Nat × pm_H) ⊕ (Nat × Nat × Nat × pm_H) ⊕ (Nat × Nat × Nat × pm_H) ⊕ (Nat × Nat × Nat × pm_H) ⊕ (Nat × Nat × Nat × pm_H) ⊕ (Nat × Nat × Nat × pm_H) ⊕ (Nat × Nat × Nat × pm_H) ⊕ (Nat × Nat × Nat × pm_H) ⊕ (Nat × Nat × Nat × pm_H) ⊕ (Nat × Nat × Nat × pm_H) ⊕ (Nat × Nat × Nat × pm_H) ⊕ (Nat × Nat × Nat × pm_H) ⊕ (Nat × Nat × Nat × pm_H) ⊕ (Nat × Nat × Nat × pm_H) ⊕ (Nat × Nat × Nat × pm_H) ⊕ (Nat × Nat × Nat × pm_H) ⊕ (Nat × Nat × Nat × pm_H) ⊕ (Nat × Nat × Nat × pm_H) ⊕ (Nat × Nat × Nat × pm_H) ⊕ (Nat × Nat × Nat × pm_H) ⊕ (Nat × Nat × Nat × pm_H) ⊕ (Nat × Nat × Nat × pm_H) ⊕ (Nat × Nat × Nat × pm_H) ⊕ (Nat × Nat × Nat × pm_H) ⊕ (Nat × Nat × Nat × pm_H) ⊕ (Nat × Nat × Nat × pm_H) ⊕ (Nat × Nat × Nat × pm_H) ⊕ (Nat × Nat × Nat × pm_H) ⊕ (Nat × Nat × Nat × pm_H) ⊕ (Nat × Nat × Nat × pm_H) ⊕ (Nat × Nat × Nat × pm_H) ⊕ (Nat × Nat × Nat × pm_H) ⊕ (Nat × Nat × Nat × pm_H) ⊕ (Nat × Nat × Nat × pm_H) ⊕ (Nat × Nat × Nat × pm_H) ⊕ (Nat × Nat × Nat × pm_H) ⊕ (Nat × Nat × Nat × pm_H) ⊕ (Nat × Nat × Nat × pm_H) ⊕ (Nat × Nat × Nat × pm_H) ⊕ (Nat × Nat × Nat × pm_H) ⊕ (Nat × Nat × Nat × pm_H) ⊕ (Nat × Nat × Nat × pm_H) ⊕ (Nat × Nat × Nat × pm_H) ⊕ (Nat × Nat × Nat × pm_H) ⊕ (Nat × Nat × Nat × pm_H) ⊕ (Nat × Nat × Nat × pm_H) ⊕ (Nat × Nat × Nat × pm_H) ⊕ (Nat × Nat × Nat × pm_H) ⊕ (Nat × Nat × Nat × pm_H) ⊕ (Nat × Nat × Nat × pm_H) ⊕ (Nat × Nat × Nat × pm_H) ⊕ (Nat × Nat × Nat × pm_H) ⊕ (Nat × Nat × Nat × pm_H) ⊕ (Nat × Nat × Nat × pm_H) ⊕ (Nat × Int32 × pm_H)) ⊕ pm_H) := if pm_kd h s1 = 16 then some (.inl (.inr (.inr (.inr (.inr (.inr (.inr (.inr (.inr (.inr (.inr (.inr (.inr (.inr (.inr (.inr (.inr (.inr (.inr (.inr (.inr (.inr (.inr (.inr (.inr (.inr (.inl ((x0, pm_sz (pm_setR h s1 50 (some s0)), x0, pm_new (pm_setR h s1 50 (some s0)) 34 32768))))))))))))))))))))))))))))) else none
def tX16_init_231 (x0 : Nat) (s0 : Nat) (s1 : Nat) (h : pm_H) : Option (((Nat × pm_H) ⊕ (Nat × Nat × Nat × pm_H) ⊕ (Nat × Nat × Nat × pm_H) ⊕ (Nat × Nat × Nat × pm_H) ⊕ (Nat × Nat × Nat × pm_H) ⊕ (Nat × Nat × Nat × pm_H) ⊕ (Nat × Nat × Nat × pm_H) ⊕ (Nat × Nat × Nat × pm_H) ⊕ (Nat × Nat × Nat × pm_H) ⊕ (Nat × Nat × Nat × pm_H) ⊕ (Nat × Nat × Nat × pm_H) ⊕ (Nat × Nat × Nat × pm_H) ⊕ (Nat × Nat × Nat × pm_H) ⊕ (Nat × Nat × Nat × pm_H) ⊕ (Nat × Nat × Nat × pm_H) ⊕ (Nat × Nat × Nat × pm_H) ⊕ (Nat × Nat × Nat × pm_H) ⊕ (Nat × Nat × Nat × pm_H) ⊕ (Nat × Nat × Nat × pm_H) ⊕ (Nat × Nat × Nat × pm_H) ⊕ (Nat × Nat × Nat × pm_H) ⊕ (Nat × Nat × Nat × pm_H) ⊕ (Nat × Nat × Nat × pm_H) ⊕ (Nat × Nat × Nat × pm_H) ⊕ (Nat × Nat × Nat × pm_H) ⊕ (Nat × Nat × Nat × pm_H) ⊕ (Nat × Nat × Nat × pm_H) ⊕ (Nat × Nat × Nat × pm_H) ⊕ (Nat × Nat × Nat × pm_H) ⊕ (Nat × Nat × Nat × pm_H) ⊕ (Nat × Nat × Nat × pm_H) ⊕ (Nat × Nat × Nat × pm_H) ⊕ (Nat × Nat × Nat × pm_H) ⊕ (Nat × Nat × Nat × pm_H) ⊕ (Nat × Nat × Nat × pm_H) ⊕ (Nat × Nat × Nat × pm_H) ⊕ (Nat × Nat × Nat × pm_H) ⊕ (Nat × Nat × Nat × pm_H) ⊕ (Nat × Nat × Nat × pm_H) ⊕ (Nat × Nat × Nat × pm_H) ⊕ (Nat × Nat × Nat × pm_H) ⊕ (Nat × Nat × Nat × pm_H) ⊕ (Nat × Nat × Nat × pm_H) ⊕ (Nat × Nat × Nat × pm_H) ⊕ (Nat × Nat × Nat × pm_H) ⊕ (Nat × Nat × Nat × pm_H) ⊕ (Nat × Nat × Nat × pm_H) ⊕ (Nat × Nat × Nat × pm_H) ⊕ (Nat × Nat × Nat × pm_H) ⊕ (Nat × Nat × Nat × pm_H) ⊕ (Nat × Nat × Nat × pm_H) ⊕ (Nat × Nat × Nat × pm_H) ⊕ (Nat × Nat × Nat × pm_H) ⊕ (Nat × Nat × Nat × pm_H) ⊕ (Nat × Nat × Nat × pm_H) ⊕ (Nat × Nat × Nat × pm_H) ⊕ (Nat × Nat × Nat × pm_H) ⊕ (Nat × Int32 × pm_H)) ⊕ pm_H) := if pm_kd h s1 = 16 then if pm_kd (pm_setR h s1 51 (some s0)) x0 = 16 then some (.inl (.inr (.inr (.inr (.inr (.inr (.inr (.inr (.inr (.inr (.inr (.inr (.inr (.inr (.inr (.inr (.inr (.inr (.inr (.inr (.inr (.inr (.inr (.inr (.inr (.inr (.inr (.inl ((x0, pm_sz (pm_setI (pm_setR h s1 51 (some s0)) x0 53 8), x0, pm_new (pm_setI (pm_setR h s1 51 (some s0)) x0 53 8) 34 16)))))))))))))))))))))))))))))) else none else none
def tX16_init_245 (x0 : Nat) (s0 : Nat) (s1 : Nat) (h : pm_H) : Option (((Nat × pm_H) ⊕ (Nat × Nat × Nat × pm_H) ⊕ (Nat × Nat × Nat × pm_H) ⊕ (Nat × Nat × Nat × pm_H) ⊕ (Nat × Nat × Nat × pm_H) ⊕ (Nat × Nat × Nat × pm_H) ⊕ (Nat × Nat × Nat × pm_H) ⊕ (Nat × Nat × Nat × pm_H) ⊕ (Nat × Nat × Nat × pm_H) ⊕ (Nat × Nat × Nat × pm_H) ⊕ (Nat × Nat × Nat × pm_H) ⊕ (Nat × Nat × Nat × pm_H) ⊕ (Nat × Nat × Nat × pm_H) ⊕ (Nat × Nat × Nat × pm_H) ⊕ (Nat × Nat × Nat × pm_H) ⊕ (Nat × Nat × Nat × pm_H) ⊕ (Nat × Nat × Nat × pm_H) ⊕ (Nat × Nat × Nat × pm_H) ⊕ (Nat × Nat × Nat × pm_H) ⊕ (Nat × Nat × Nat × pm_H) ⊕ (Nat × Nat × Nat × pm_H) ⊕ (Nat × Nat × Nat × pm_H) ⊕ (Nat × Nat × Nat × pm_H) ⊕ (Nat × Nat × Nat × pm_H) ⊕ (Nat × Nat × Nat × pm_H) ⊕ (Nat × Nat × Nat × pm_H) ⊕ (Nat × Nat × Nat × pm_H) ⊕ (Nat × Nat × Nat × pm_H) ⊕ (Nat × Nat × Nat × pm_H) ⊕ (Nat × Nat × Nat × pm_H) ⊕ (Nat × Nat × Nat × pm_H) ⊕ (Nat × Nat × Nat × pm_H) ⊕ (Nat × Nat × Nat × pm_H) ⊕ (Nat × Nat × Nat × pm_H) ⊕ (Nat × Nat × Nat × pm_H) ⊕ (Nat × Nat × Nat × pm_H) ⊕ (Nat × Nat × Nat × pm_H) ⊕ (Nat × Nat × Nat × pm_H) ⊕ (Nat × Nat × Nat × pm_H) ⊕ (Nat × Nat × Nat × pm_H) ⊕ (Nat × Nat × Nat × pm_H) ⊕ (Nat × Nat × Nat × pm_H) ⊕ (Nat × Nat × Nat × pm_H) ⊕ (Nat × Nat × Nat × pm_H) ⊕ (Nat × Nat × Nat × pm_H) ⊕ (Nat × Nat × Nat × pm_H) ⊕ (Nat × Nat × Nat × pm_H) ⊕ (Nat × Nat × Nat × pm_H) ⊕ (Nat × Nat × Nat × pm_H) ⊕ (Nat × Nat × Nat × pm_H) ⊕ (Nat × Nat × Nat × pm_H) ⊕ (Nat × Nat × Nat × pm_H) ⊕ (Nat × Nat × Nat × pm_H) ⊕ (Nat × Nat × Nat × pm_H) ⊕ (Nat × Nat × Nat × pm_H) ⊕ (Nat × Nat × Nat × pm_H) ⊕ (Nat × Nat × Nat × pm_H) ⊕ (Nat × Int32 × pm_H)) ⊕ pm_H) := if pm_kd h s1 = 16 then some (.inl (.inr (.inr (.inr (.inr (.inr (.inr (.inr (.inr (.inr (.inr (.inr (.inr (.inr (.inr (.inr (.inr (.inr (.inr (.inr (.inr (.inr (.inr (.inr (.inr (.inr (.inr (.inr (.inl ((x0, pm_sz (pm_setR h s1 54 (some s0)), x0, pm_new (pm_setR h s1 54 (some s0)) 35 16))))))))))))))))))))))))))))))) else none
def tX16_init_253 (x0 : Nat) (s0 : Nat) (s1 : Nat) (h : pm_H) : Option (((Nat × pm_H) ⊕ (Nat × Nat × Nat × pm_H) ⊕ (Nat × Nat × Nat × pm_H) ⊕ (Nat × Nat × Nat × pm_H) ⊕ (Nat × Nat × Nat × pm_H) ⊕ (Nat × Nat × Nat × pm_H) ⊕ (Nat × Nat × Nat × pm_H) ⊕ (Nat × Nat × Nat × pm_H) ⊕ (Nat × Nat × Nat × pm_H) ⊕ (Nat × Nat × Nat × pm_H) ⊕ (Nat × Nat × Nat × pm_H) ⊕ (Nat × Nat × Nat × pm_H) ⊕ (Nat × Nat × Nat × pm_H) ⊕ (Nat × Nat × Nat × pm_H) ⊕ (Nat × Nat × Nat × pm_H) ⊕ (Nat × Nat × Nat × pm_H) ⊕ (Nat × Nat × Nat × pm_H) ⊕ (Nat × Nat × Nat × pm_H) ⊕ (Nat × Nat × Nat × pm_H) ⊕ (Nat × Nat × Nat × pm_H) ⊕ (Nat × Nat × Nat × pm_H) ⊕ (Nat × Nat × Nat × pm_H) ⊕ (Nat × Nat × Nat × pm_H) ⊕ (Nat × Nat × Nat × pm_H) ⊕ (Nat × Nat × Nat × pm_H) ⊕ (Nat × Nat × Nat × pm_H) ⊕ (Nat × Nat × Nat × pm_H) ⊕ (Nat × Nat × Nat × pm_H) ⊕ (Nat × Nat × Nat × pm_H) ⊕ (Nat × Nat × Nat × pm_H) ⊕ (Nat × Nat × Nat × pm_H) ⊕ (Nat × Nat × Nat × pm_H) ⊕ (Nat × Nat × Nat × pm_H) ⊕ (Nat × Nat × Nat × pm_H) ⊕ (Nat × Nat × Nat × pm_H) ⊕ (Nat × Nat × Nat × pm_H) ⊕ (Nat × Nat × Nat × pm_H) ⊕ (Nat × Nat × Nat × pm_H) ⊕ (Nat × Nat × Nat × pm_H) ⊕ (Nat × Nat × Nat × pm_H) ⊕ (Nat × Nat × Nat × pm_H) ⊕ (Nat × Nat × Nat × pm_H) ⊕ (Nat × Nat × Nat × pm_H) ⊕ (Nat × Nat × Nat × pm_H) ⊕ (Nat × Nat × Nat × pm_H) ⊕ (Nat × Nat × Nat × pm_H) ⊕ (Nat × Nat × Nat × pm_H) ⊕ (Nat × Nat × Nat × pm_H) ⊕ (Nat × Nat × Nat × pm_H) ⊕ (Nat × Nat × Nat × pm_H) ⊕ (Nat × Nat × Nat × pm_H) ⊕ (Nat × Nat × Nat × pm_H) ⊕ (Nat × Nat × Nat × pm_H) ⊕ (Nat × Nat × Nat × pm_H) ⊕ (Nat × Nat × Nat × pm_H) ⊕ (Nat × Nat × Nat × pm_H) ⊕ (Nat × Nat × Nat × pm_H) ⊕ (Nat × Int32 × pm_H)) ⊕ pm_H) := if pm_kd h s1 = 16 then some (.inl (.inr (.inr (.inr (.inr (.inr (.inr (.inr (.inr (.inr (.inr (.inr (.inr (.inr (.inr (.inr (.inr (.inr (.inr (.inr (.inr (.inr (.inr (.inr (.inr (.inr (.inr (.inr (.inr (.inl ((x0, pm_sz (pm_setR h s1 55 (some s0)), x0, pm_new (pm_setR h s1 55 (some s0)) 34 128)))))))))))))))))))))))))))))))) else none
def tX16_init_262 (x0 : Nat) (s0 : Nat) (s1 : Nat) (h : pm_H) : Option (((Nat × pm_H) ⊕ (Nat × Nat × Nat × pm_H) ⊕ (Nat × Nat × Nat × pm_H) ⊕ (Nat × Nat × Nat × pm_H) ⊕ (Nat × Nat × Nat × pm_H) ⊕ (Nat × Nat × Nat × pm_H) ⊕ (Nat × Nat × Nat × pm_H) ⊕ (Nat × Nat × Nat × pm_H) ⊕ (Nat × Nat × Nat × pm_H) ⊕ (Nat × Nat × Nat × pm_H) ⊕ (Nat × Nat × Nat × pm_H) ⊕ (Nat × Nat × Nat × pm_H) ⊕ (Nat × Nat × Nat × pm_H) ⊕ (Nat × Nat × Nat × pm_H) ⊕ (Nat × Nat × Nat × pm_H) ⊕ (Nat × Nat × Nat × pm_H) ⊕ (Nat × Nat × Nat × pm_H) ⊕ (Nat × Nat × Nat × pm_H) ⊕ (Nat × Nat × Nat × pm_H) ⊕ (Nat × Nat × Nat × pm_H) ⊕ (Nat × Nat × Nat × pm_H) ⊕ (Nat × Nat × Nat × pm_H) ⊕ (Nat × Nat × Nat × pm_H) ⊕ (Nat × Nat × Nat × pm_H) ⊕ (Nat × Nat × Nat × pm_H) ⊕ (Nat × Nat × Nat × pm_H) ⊕ (Nat × Nat × Nat × pm_H) ⊕ (Nat × Nat × Nat × pm_H) ⊕ (Nat × Nat × Nat × pm_H) ⊕ (Nat × Nat × Nat × pm_H) ⊕ (Nat × Nat × Nat × pm_H) ⊕ (Nat × Nat × Nat × pm_H) ⊕ (Nat × Nat × Nat × pm_H) ⊕ (Nat × Nat × Nat × pm_H) ⊕ (Nat × Nat × Nat × pm_H) ⊕ (Nat × Nat × Nat × pm_H) ⊕ (Nat × Nat × Nat × pm_H) ⊕ (Nat × Nat × Nat × pm_H) ⊕ (Nat × Nat × Nat × pm_H) ⊕ (Nat × Nat × Nat × pm_H) ⊕ (Nat × Nat × Nat × pm_H) ⊕ (Nat × Nat × Nat × pm_H) ⊕ (Nat × Nat × Nat × pm_H) ⊕ (Nat × Nat × Nat × pm_H) ⊕ (Nat × Nat × Nat × pm_H) ⊕ (Nat × Nat × Nat × pm_H) ⊕ (Nat × Nat × Nat × pm_H) ⊕ (Nat × Nat × Nat × pm_H) ⊕ (Nat × Nat × Nat × pm_H) ⊕ (Nat × Nat × Nat × pm_H) ⊕ (Nat × Nat × Nat × pm_H) ⊕ (Nat × Nat × Nat × pm_H) ⊕ (Nat × Nat × Nat × pm_H) ⊕ (Nat × Nat × Nat × pm_H) ⊕ (Nat × Nat × Nat × pm_H) ⊕ (Nat × Nat × Nat × pm_H) ⊕ (Nat × Nat × Nat × pm_H) ⊕ (Nat × Int32 × pm_H)) ⊕ pm_H) := if pm_kd h s1 = 16 then some (.inl (.inr (.inr (.inr (.inr (.inr (.inr (.inr (.inr (.inr (.inr (.inr (.inr (.inr (.inr (.inr (.inr (.inr (.inr (.inr (.inr (.inr (.inr (.inr (.inr (.inr (.inr (.inr (.inr (.inr (.inl ((x0, pm_sz (pm_setR h s1 56 (some s0)), x0, pm_new (pm_setR h s1 56 (some s0)) 33 524288))))))))))))))))))))))))))))))))) else none
def tX16_init_270 (x0 : Nat) (s0 : Nat) (s1 : Nat) (h : pm_H) : Option (((Nat × pm_H) ⊕ (Nat × Nat × Nat × pm_H) ⊕ (Nat × Nat × Nat × pm_H) ⊕ (Nat × Nat × Nat × pm_H) ⊕ (Nat × Nat × Nat × pm_H) ⊕ (Nat × Nat × Nat × pm_H) ⊕ (Nat × Nat × Nat × pm_H) ⊕ (Nat × Nat × Nat × pm_H) ⊕ (Nat × Nat × Nat × pm_H) ⊕ (Nat × Nat × Nat × pm_H) ⊕ (Nat × Nat × Nat × pm_H) ⊕ (Nat × Nat × Nat × pm_H) ⊕ (Nat × Nat × Nat × pm_H) ⊕ (Nat × Nat × Nat × pm_H) ⊕ (Nat × Nat × Nat × pm_H) ⊕ (Nat × Nat × Nat × pm_H) ⊕ (Nat × Nat × Nat × pm_H) ⊕ (Nat × Nat × Nat × pm_H) ⊕ (Nat × Nat × Nat × pm_H) ⊕ (Nat × Nat × Nat × pm_H) ⊕ (Nat × Nat × Nat × pm_H) ⊕ (Nat × Nat × Nat × pm_H) ⊕ (Nat × Nat × Nat × pm_H) ⊕ (Nat × Nat × Nat × pm_H) ⊕ (Nat × Nat × Nat × pm_H) ⊕ (Nat × Nat × Nat × pm_H) ⊕ (Nat × Nat × Nat × pm_H) ⊕ (Nat × Nat × Nat × pm_H) ⊕ (Nat × Nat × Nat × pm_H) ⊕ (Nat × Nat × Nat × pm_H) ⊕ (Nat × Nat × Nat × pm_H) ⊕ (Nat × Nat × Nat × pm_H) ⊕ (Nat × Nat × Nat × pm_H) ⊕ (Nat × Nat × Nat × pm_H) ⊕ (Nat × Nat × Nat × pm_H) ⊕ (Nat × Nat × Nat × pm_H) ⊕ (Nat × Nat × Nat × pm_H) ⊕ (Nat × Nat × Nat × pm_H) ⊕ (Nat × Nat × Nat × pm_H) ⊕ (Nat × Nat × Nat × pm_H) ⊕ (Nat × Nat × Nat × pm_H) ⊕ (Nat × Nat × Nat × pm_H) ⊕ (Nat × Nat × Nat × pm_H) ⊕ (Nat × Nat × Nat × pm_H) ⊕ (Nat × Nat × Nat × pm_H) ⊕ (Nat × Nat × Nat × pm_H) ⊕ (Nat × Nat × Nat × pm_H) ⊕ (Nat × Nat × Nat × pm_H) ⊕ (Nat × Nat × Nat × pm_H) ⊕ (Nat × Nat × Nat × pm_H) ⊕ (Nat × Nat × Nat × pm_H) ⊕ (Nat × Nat × Nat × pm_H) ⊕ (Nat × Nat × Nat × pm_H) ⊕ (Nat × Nat × Nat × pm_H) ⊕ (Nat × Nat × Nat × pm_H) ⊕ (Nat × Nat × Nat × pm_H) ⊕ (Nat × Nat × Nat × pm_H) ⊕ (Nat × Int32 × pm_H)) ⊕ pm_H) := if pm_kd h s1 = 16 then some (.inl (.inr (.inr (.inr (.inr (.inr (.inr (.inr (.inr (.inr (.inr (.inr (.inr (.inr (.inr (.inr (.inr (.inr (.inr (.inr (.inr (.inr (.inr (.inr (.inr (.inr (.inr (.inr (.inr (.inr (.inr (.inl ((x0, pm_sz (pm_setR h s1 57 (some s0)), x0, pm_new (pm_setR h s1 57 (some s0)) 34 256)))))))))))))))))))))))))))))))))) else none
def tX16_init_279 (x0 : Nat) (s0 : Nat) (s1 : Nat) (h : pm_H) : Option (((Nat × pm_H) ⊕ (Nat × Nat × Nat × pm_H) ⊕ (Nat × Nat × Nat × pm_H) ⊕ (Nat × Nat × Nat × pm_H) ⊕ (Nat × Nat × Nat × pm_H) ⊕ (Nat × Nat × Nat × pm_H) ⊕ (Nat × Nat × Nat × pm_H) ⊕ (Nat × Nat × Nat × pm_H) ⊕ (Nat × Nat × Nat × pm_H) ⊕ (Nat × Nat × Nat × pm_H) ⊕ (Nat × Nat × Nat × pm_H) ⊕ (Nat × Nat × Nat × pm_H) ⊕ (Nat × Nat × Nat × pm_H) ⊕ (Nat × Nat × Nat × pm_H) ⊕ (Nat × Nat × Nat × pm_H) ⊕ (Nat × Nat × Nat × pm_H) ⊕ (Nat × Nat × Nat × pm_H) ⊕ (Nat × Nat × Nat × pm_H) ⊕ (Nat × Nat × Nat × pm_H) ⊕ (Nat × Nat × Nat × pm_H) ⊕ (Nat × Nat × Nat × pm_H) ⊕ (Nat × Nat × Nat × pm_H) ⊕ (Nat × Nat × Nat × pm_H) ⊕ (Nat × Nat × Nat × pm_H) ⊕ (Nat × Nat × Nat × pm_H) ⊕ (Nat × Nat × Nat × pm_H) ⊕ (Nat × Nat × Nat × pm_H) ⊕ (Nat × Nat × Nat × pm_H) ⊕ (Nat × Nat × Nat × pm_H) ⊕ (Nat × Nat × Nat × pm_H) ⊕ (Nat × Nat × Nat × pm_H) ⊕ (Nat × Nat × Nat × pm_H) ⊕ (Nat × Nat × Nat × pm_H) ⊕ (Nat × Nat × Nat × pm_H) ⊕ (Nat × Nat × Nat × pm_H) ⊕ (Nat × Nat × Nat × pm_H) ⊕ (Nat × Nat × Nat × pm_H) ⊕ (Nat × Nat × Nat × pm_H) ⊕ (Nat × Nat × Nat × pm_H) ⊕ (Nat × Nat × Nat × pm_H) ⊕ (Nat × Nat × Nat × pm_H) ⊕ (Nat × Nat × Nat × pm_H) ⊕ (Nat × Nat × Nat × pm_H) ⊕ (Nat × Nat × Nat × pm_H) ⊕ (Nat × Nat × Nat × pm_H) ⊕ (Nat × Nat × Nat × pm_H) ⊕ (Nat × Nat × Nat × pm_H) ⊕ (Nat × Nat × Nat × pm_H) ⊕ (Nat × Nat × Nat × pm_H) ⊕ (Nat × Nat × Nat × pm_H) ⊕ (Nat × Nat × Nat × pm_H) ⊕ (Nat × Nat × Nat × pm_H) ⊕ (Nat × Nat × Nat × pm_H) ⊕ (Nat × Nat × Nat × pm_H) ⊕ (Nat × Nat × Nat × pm_H) ⊕ (Nat × Nat × Nat × pm_H) ⊕ (Nat × Nat × Nat × pm_H) ⊕ (Nat × Int32 × pm_H)) ⊕ pm_H) := if pm_kd h s1 = 16 then some (.inl (.inr (.inr (.inr (.inr (.inr (.inr (.inr (.inr (.inr (.inr (.inr (.inr (.inr (.inr (.inr (.inr (.inr (.inr (.inr (.inr (.inr (.inr (.inr (.inr (.inr (.inr (.inr (.inr (.inr (.inr (.inr (.inl ((x0, pm_sz (pm_setR h s1 59 (some s0)), x0, pm_new (pm_setR h s1 59 (some s0)) 32 256))))))))))))))))))))))))))))))))))) else none
def tX16_init_288 (x0 : Nat) (s0 : Nat) (s1 : Nat) (h : pm_H) : Option (((Nat × pm_H) ⊕ (Nat × Nat × Nat × pm_H) ⊕ (Nat × Nat × Nat × pm_H) ⊕ (Nat × Nat × Nat × pm_H) ⊕ (Nat × Nat × Nat × pm_H) ⊕ (Nat × Nat × Nat × pm_H) ⊕ (Nat × Nat × Nat × pm_H) ⊕ (Nat × Nat × Nat × pm_H) ⊕ (Nat × Nat × Nat × pm_H) ⊕ (Nat × Nat × Nat × pm_H) ⊕ (Nat × Nat × Nat × pm_H) ⊕ (Nat × Nat × Nat × pm_H) ⊕ (Nat × Nat × Nat × pm_H) ⊕ (Nat × Nat × Nat × pm_H) ⊕ (Nat × Nat × Nat × pm_H) ⊕ (Nat × Nat × Nat × pm_H) ⊕ (Nat × Nat × Nat × pm_H) ⊕ (Nat × Nat × Nat × pm_H) ⊕ (Nat × Nat × Nat × pm_H) ⊕ (Nat × Nat × Nat × pm_H) ⊕ (Nat × Nat × Nat × pm_H) ⊕ (Nat × Nat × Nat × pm_H) ⊕ (Nat × Nat × Nat × pm_H) ⊕ (Nat × Nat × Nat × pm_H) ⊕ (Nat × Nat × Nat × pm_H) ⊕ (Nat × Nat × Nat × pm_H) ⊕ (Nat × Nat × Nat × pm_H) ⊕ (Nat × Nat × Nat × pm_H) ⊕ (Nat × Nat × Nat × pm_H) ⊕ (Nat × Nat × Nat × pm_H) ⊕ (Nat × Nat × Nat × pm_H) ⊕ (Nat × Nat × Nat × pm_H) ⊕ (Nat × Nat × Nat × pm_H) ⊕ (Nat × Nat × Nat × pm_H) ⊕ (Nat × Nat × Nat × pm_H) ⊕ (Nat × Nat × Nat × pm_H) ⊕ (Nat × Nat × Nat × pm_H) ⊕ (Nat × Nat × Nat × pm_H) ⊕ (Nat × Nat × Nat × pm_H) ⊕ (Nat × Nat × Nat × pm_H) ⊕ (Nat × Nat × Nat × pm_H) ⊕ (Nat × Nat × Nat × pm_H) ⊕ (Nat × Nat × Nat × pm_H) ⊕ (Nat × Nat × Nat × pm_H) ⊕ (Nat × Nat × Nat × pm_H) ⊕ (Nat × Nat × Nat × pm_H) ⊕ (Nat × Nat × Nat × pm_H) ⊕ (Nat × Nat × Nat × pm_H) ⊕ (Nat × Nat × Nat × pm_H) ⊕ (Nat × Nat × Nat × pm_H) ⊕ (Nat × Nat × Nat × pm_H) ⊕ (Nat × Nat × Nat × pm_H) ⊕ (Nat × Nat × Nat × pm_H) ⊕ (Nat × Nat × Nat × pm_H) ⊕ (Nat × Nat × Nat × pm_H) ⊕ (Nat × Nat × Nat × pm_H) ⊕ (Nat × Nat × Nat × pm_H) ⊕ (Nat × Int32 × pm_H)) ⊕ pm_H) := if pm_kd h s1 = 16 then some (.inl (.inr (.inr (.inr (.inr (.inr (.inr (.inr (.inr (.inr (.inr (.inr (.inr (.inr (.inr (.inr (.inr (.inr (.inr (.inr (.inr (.inr (.inr (.inr (.inr (.inr (.inr (.inr (.inr (.inr (.inr (.inr (.inr (.inl ((x0, pm_sz (pm_setR h s1 60 (some s0)), x0, pm_new (pm_setR h s1 60 (some s0)) 35 256)))))))))))))))))))))))))))))))))))) else none
def tX16_init_297 (x0 : Nat) (s0 : Nat) (s1 : Nat) (h : pm_H) : Option (((Nat × pm_H) ⊕ (Nat × Nat × Nat × pm_H) ⊕ (Nat × Nat × Nat × pm_H) ⊕ (Nat × Nat × Nat × pm_H) ⊕ (Nat × Nat × Nat × pm_H) ⊕ (Nat × Nat × Nat × pm_H) ⊕ (Nat × Nat × Nat × pm_H) ⊕ (Nat × Nat × Nat × pm_H) ⊕ (Nat × Nat × Nat × pm_H) ⊕ (Nat × Nat × Nat × pm_H) ⊕ (Nat × Nat × Nat × pm_H) ⊕ (Nat × Nat × Nat × pm_H) ⊕ (Nat × Nat × Nat × pm_H) ⊕ (Nat × Nat × Nat × pm_H) ⊕ (Nat × Nat × Nat × pm_H) ⊕ (Nat × Nat × Nat × pm_H) ⊕ (Nat × Nat × Nat × pm_H) ⊕ (Nat × Nat × Nat × pm_H) ⊕ (Nat × Nat × Nat × pm_H) ⊕ (Nat × Nat × Nat × pm_H) ⊕ (Nat × Nat × Nat × pm_H) ⊕ (Nat × Nat × Nat × pm_H) ⊕ (Nat × Nat × Nat × pm_H) ⊕ (Nat × Nat × Nat × pm_H) ⊕ (Nat × Nat × Nat × pm_H) ⊕ (Nat × Nat × Nat × pm_H) ⊕ (Nat × Nat × Nat × pm_H) ⊕ (Nat × Nat × Nat × pm_H) ⊕ (Nat × Nat × Nat × pm_H) ⊕ (Nat × Nat × Nat × pm_H) ⊕ (Nat × Nat × Nat × pm_H) ⊕ (Nat × Nat × Nat × pm_H) ⊕ (Nat × Nat × Nat × pm_H) ⊕ (Nat × Nat × Nat × pm_H) ⊕ (Nat × Nat × Nat × pm_H) ⊕ (Nat × Nat × Nat × pm_H) ⊕ (Nat × Nat × Nat × pm_H) ⊕ (Nat × Nat × Nat × pm_H) ⊕ (Nat × Nat × Nat × pm_H) ⊕ (Nat × Nat × Nat × pm_H) ⊕ (Nat × Nat × Nat × pm_H) ⊕ (Nat × Nat × Nat × pm_H) ⊕ (Nat × Nat × Nat × pm_H) ⊕ (Nat × Nat × Nat × pm_H) ⊕ (Nat × Nat × Nat × pm_H) ⊕ (Nat × Nat × Nat × pm_H) ⊕ (Nat × Nat × Nat × pm_H) ⊕ (Nat × Nat × Nat × pm_H) ⊕ (Nat × Nat × Nat × pm_H) ⊕ (Nat × Nat × Nat × pm_H) ⊕ (Nat × Nat × Nat × pm_H) ⊕ (Nat × Nat × Nat × pm_H) ⊕ (Nat × Nat × Nat × pm_H) ⊕ (Nat × Nat × Nat × pm_H) ⊕ (Nat × Nat × Nat × pm_H) ⊕ (Nat × Nat × Nat × pm_H) ⊕ (Nat × Nat × Nat × pm_H) ⊕ (Nat × Int32 × pm_H)) ⊕ pm_H) := if pm_kd h s1 = 16 then some (.inl (.inr (.inr (.inr (.inr (.inr (.inr (.inr (.inr (.inr (.inr (.inr (.inr (.inr (.inr (.inr (.inr (.inr (.inr (.inr (.inr (.inr (.inr (.inr (.inr (.inr (.inr (.inr (.inr (.inr (.inr (.inr (.inr (.inr (.inl ((x0, pm_sz (pm_setR h s1 61 (some s0)), x0, pm_new (pm_setR h s1 61 (some s0)) 34 16))))))))))))))))))))))))))))))))))))) else none
def tX16_init_305 (x0 : Nat) (s0 : Nat) (s1 : Nat) (h : pm_H) : Option (((Nat × pm_H) ⊕ (Nat × Nat × Nat × pm_H) ⊕ (Nat × Nat × Nat × pm_H) ⊕ (Nat × Nat × Nat × pm_H) ⊕ (Nat × Nat × Nat × pm_H) ⊕ (Nat × Nat × Nat × pm_H) ⊕ (Nat × Nat × Nat × pm_H) ⊕ (Nat × Nat × Nat × pm_H) ⊕ (Nat × Nat × Nat × pm_H) ⊕ (Nat × Nat × Nat × pm_H) ⊕ (Nat × Nat × Nat × pm_H) ⊕ (Nat × Nat × Nat × pm_H) ⊕ (Nat × Nat × Nat × pm_H) ⊕ (Nat × Nat × Nat × pm_H) ⊕ (Nat × Nat × Nat × pm_H) ⊕ (Nat × Nat × Nat × pm_H) ⊕ (Nat × Nat × Nat × pm_H) ⊕ (Nat × Nat × Nat × pm_H) ⊕ (Nat × Nat × Nat × pm_H) ⊕ (Nat × Nat × Nat × pm_H) ⊕ (Nat × Nat × Nat × pm_H) ⊕ (Nat × Nat × Nat × pm_H) ⊕ (Nat × Nat × Nat × pm_H) ⊕ (Nat × Nat × Nat × pm_H) ⊕ (Nat × Nat × Nat × pm_H) ⊕ (Nat × Nat × Nat × pm_H) ⊕ (Nat × Nat × Nat × pm_H) ⊕ (Nat × Nat × Nat × pm_H) ⊕ (Nat × Nat × Nat × pm_H) ⊕ (Nat × Nat × Nat × pm_H) ⊕ (Nat × Nat × Nat × pm_H) ⊕ (Nat × Nat × Nat × pm_H) ⊕ (Nat × Nat × Nat × pm_H) ⊕ (Nat × Nat × Nat × pm_H) ⊕ (Nat × Nat × Nat × pm_H) ⊕ (Nat × Nat × Nat × pm_H) ⊕ (Nat × Nat × Nat × pm_H) ⊕ (Nat × Nat × Nat × pm_H) ⊕ (Nat × Nat × Nat × pm_H) ⊕ (Nat × Nat × Nat × pm_H) ⊕ (Nat × Nat × Nat × pm_H) ⊕ (Nat × Nat × Nat × pm_H) ⊕ (Nat × Nat × Nat × pm_H) ⊕ (Nat × Nat × Nat × pm_H) ⊕ (Nat × Nat × Nat × pm_H) ⊕ (Nat × Nat × Nat × pm_H) ⊕ (Nat × Nat × Nat × pm_H) ⊕ (Nat × Nat × Nat × pm_H) ⊕ (Nat × Nat × Nat × pm_H) ⊕ (Nat × Nat × Nat × pm_H) ⊕ (Nat × Nat × Nat × pm_H) ⊕ (Nat × Nat × Nat × pm_H) ⊕ (Nat × Nat × Nat × pm_H) ⊕ (Nat × Nat × Nat × pm_H) ⊕ (Nat × Nat × Nat × pm_H) ⊕ (Nat × Nat × Nat × pm_H) ⊕ (Nat × Nat × Nat × pm_H) ⊕ (Nat × Int32 × pm_H)) ⊕ pm_H) := if pm_kd h s1 = 16 then some (.inl (.inr (.inr (.inr (.inr (.inr (.inr (.inr (.inr (.inr (.inr (.inr (.inr (.inr (.inr (.inr (.inr (.inr (.inr (.inr (.inr (.inr (.inr (.inr (.inr (.inr (.inr (.inr (.inr (.inr (.inr (.inr (.inr (.inr (.inr (.inl ((x0, pm_sz (pm_setR h s1 63 (some s0)), x0, pm_new (pm_setR h s1 63 (some s0)) 34 2048)))))))))))))))))))))))))))))))))))))) else none
def tX16_init_314 (x0 : Nat) (s0 : Nat) (s1 : Nat) (h : pm_H) : Option (((Nat × pm_H) ⊕ (Nat × Nat × Nat × pm_H) ⊕ (Nat × Nat × Nat × pm_H) ⊕ (Nat × Nat × Nat × pm_H) ⊕ (Nat × Nat × Nat × pm_H) ⊕ (Nat × Nat × Nat × pm_H) ⊕ (Nat × Nat × Nat × pm_H) ⊕ (Nat × Nat × Nat × pm_H) ⊕ (Nat × Nat × Nat × pm_H) ⊕ (Nat × Nat × Nat × pm_H) ⊕ (Nat × Nat × Nat × pm_H) ⊕ (Nat × Nat × Nat × pm_H) ⊕ (Nat × Nat × Nat × pm_H) ⊕ (Nat × Nat × Nat × pm_H) ⊕ (Nat × Nat × Nat × pm_H) ⊕ (Nat × Nat × Nat × pm_H) ⊕ (Nat × Nat × Nat × pm_H) ⊕ (Nat × Nat × Nat × pm_H) ⊕ (Nat × Nat × Nat × pm_H) ⊕ (Nat × Nat × Nat × pm_H) ⊕ (Nat × Nat × Nat × pm_H) ⊕ (Nat × Nat × Nat × pm_H) ⊕ (Nat × Nat × Nat × pm_H) ⊕ (Nat × Nat × Nat × pm_H) ⊕ (Nat × Nat × Nat × pm_H) ⊕ (Nat × Nat × Nat × pm_H) ⊕ (Nat × Nat × Nat × pm_H) ⊕ (Nat × Nat × Nat × pm_H) ⊕ (Nat × Nat × Nat × pm_H) ⊕ (Nat × Nat × Nat × pm_H) ⊕ (Nat × Nat × Nat × pm_H) ⊕ (Nat × Nat × Nat × pm_H) ⊕ (Nat × Nat × Nat × pm_H) ⊕ (Nat × Nat × Nat × pm_H) ⊕ (Nat × Nat × Nat × pm_H) ⊕ (Nat × Nat × Nat × pm_H) ⊕ (Nat × Nat × Nat × pm_H) ⊕ (Nat × Nat × Nat × pm_H) ⊕ (Nat × Nat × Nat × pm_H) ⊕ (Nat × Nat × Nat × pm_H) ⊕ (Nat × Nat × Nat × pm_H) ⊕ (Nat × Nat × Nat × pm_H) ⊕ (Nat × Nat × Nat × pm_H) ⊕ (Nat × Nat × Nat × pm_H) ⊕ (Nat × Nat × Nat × pm_H) ⊕ (Nat × Nat × Nat × pm_H) ⊕ (Nat × Nat × Nat × pm_H) ⊕ (Nat × Nat × Nat × pm_H) ⊕ (Nat × Nat × Nat × pm_H) ⊕ (Nat × Nat × Nat × pm_H) ⊕ (Nat × Nat × Nat × pm_H) ⊕ (Nat × Nat × Nat × pm_H) ⊕ (Nat × Nat × Nat × pm_H) ⊕ (Nat × Nat × Nat × pm_H) ⊕ (Nat × Nat × Nat × pm_H) ⊕ (Nat × Nat × Nat × pm_H) ⊕ (Nat × Nat × Nat × pm_H) ⊕ (Nat × Int32 × pm_H)) ⊕ pm_H) := if pm_kd h s1 = 16 then some (.inl (.inr (.inr (.inr (.inr (.inr (.inr (.inr (.inr (.inr (.inr (.inr (.inr (.inr (.inr (.inr (.inr (.inr (.inr (.inr (.inr (.inr (.inr (.inr (.inr (.inr (.inr (.inr (.inr (.inr (.inr (.inr (.inr (.inr (.inr (.inr (.inl ((x0, pm_sz (pm_setR h s1 64 (some s0)), x0, pm_new (pm_setR h s1 64 (some s0)) 34 2048))))))))))))))))))))))))))))))))))))))) else none
def tX16_init_323 (x0 : Nat) (s0 : Nat) (s1 : Nat) (h : pm_H) : Option (((Nat × pm_H) ⊕ (Nat × Nat × Nat × pm_H) ⊕ (Nat × Nat × Nat × pm_H) ⊕ (Nat × Nat × Nat × pm_H) ⊕ (Nat × Nat × Nat × pm_H) ⊕ (Nat × Nat × Nat × pm_H) ⊕ (Nat × Nat × Nat × pm_H) ⊕ (Nat × Nat × Nat × pm_H) ⊕ (Nat × Nat × Nat × pm_H) ⊕ (Nat × Nat × Nat × pm_H) ⊕ (Nat × Nat × Nat × pm_H) ⊕ (Nat × Nat × Nat × pm_H) ⊕ (Nat × Nat × Nat × pm_H) ⊕ (Nat × Nat × Nat × pm_H) ⊕ (Nat × Nat × Nat × pm_H) ⊕ (Nat × Nat × Nat × pm_H) ⊕ (Nat × Nat × Nat × pm_H) ⊕ (Nat × Nat × Nat × pm_H) ⊕ (Nat × Nat × Nat × pm_H) ⊕ (Nat × Nat × Nat × pm_H) ⊕ (Nat × Nat × Nat × pm_H) ⊕ (Nat × Nat × Nat × pm_H) ⊕ (Nat × Nat × Nat × pm_H) ⊕ (Nat × Nat × Nat × pm_H) ⊕ (Nat × Nat × Nat × pm_H) ⊕ (Nat × Nat × Nat × pm_H) ⊕ (Nat × Nat × Nat × pm_H) ⊕ (Nat × Nat × Nat × pm_H) ⊕ (Nat × Nat × Nat × pm_H) ⊕ (Nat × Nat × Nat × pm_H) ⊕ (Nat × Nat × Nat × pm_H) ⊕ (Nat × Nat × Nat × pm_H) ⊕ (Nat × Nat × Nat × pm_H) ⊕ (Nat × Nat × Nat × pm_H) ⊕ (Nat × Nat × Nat × pm_H) ⊕ (Nat × Nat × Nat × pm_H) ⊕ (Nat × Nat × Nat × pm_H) ⊕ (Nat × Nat × Nat × pm_H) ⊕ (Nat × Nat × Nat × pm_H) ⊕ (Nat × Nat × Nat × pm_H) ⊕ (Nat × Nat × Nat × pm_H) ⊕ (Nat × Nat × Nat × pm_H) ⊕ (Nat × Nat × Nat × pm_H) ⊕ (Nat × Nat × Nat × pm_H) ⊕ (Nat × Nat × Nat × pm_H) ⊕ (Nat × Nat × Nat × pm_H) ⊕ (Nat × Nat × Nat × pm_H) ⊕ (Nat × Nat × Nat × pm_H) ⊕ (Nat × Nat × Nat × pm_H) ⊕ (Nat × Nat × Nat × pm_H) ⊕ (Nat × Nat × Nat × pm_H) ⊕ (Nat × Nat × Nat × pm_H) ⊕ (Nat × Nat × Nat × pm_H) ⊕ (Nat × Nat × Nat × pm_H) ⊕ (Nat × Nat × Nat × pm_H) ⊕ (Nat × Nat × Nat × pm_H) ⊕ (Nat × Nat × Nat × pm_H) ⊕ (Nat × Int32 × pm_H)) ⊕ pm_H) := if pm_kd h s1 = 16 then some (.inl (.inr (.inr (.inr (.inr (.inr (.inr (.inr (.inr (.inr (.inr (.inr (.inr (.inr (.inr (.inr (.inr (.inr (.inr (.inr (.inr (.inr (.inr (.inr (.inr (.inr (.inr (.inr (.inr (.inr (.inr (.inr (.inr (.inr (.inr (.inr (.inr (.inl ((x0, pm_sz (pm_setR h s1 65 (some s0)), x0, pm_new (pm_setR h s1 65 (some s0)) 34 2048)))))))))))))))))))))))))))))))))))))))) else none
def tX16_init_332 (x0 : Nat) (s0 : Nat) (s1 : Nat) (h : pm_H) : Option (((Nat × pm_H) ⊕ (Nat × Nat × Nat × pm_H) ⊕ (Nat × Nat × Nat × pm_H) ⊕ (Nat × Nat × Nat × pm_H) ⊕ (Nat × Nat × Nat × pm_H) ⊕ (Nat × Nat × Nat × pm_H) ⊕ (Nat × Nat × Nat × pm_H) ⊕ (Nat × Nat × Nat × pm_H) ⊕ (Nat × Nat × Nat × pm_H) ⊕ (Nat × Nat × Nat × pm_H) ⊕ (Nat × Nat × Nat × pm_H) ⊕ (Nat × Nat × Nat × pm_H) ⊕ (Nat × Nat × Nat × pm_H) ⊕ (Nat × Nat × Nat × pm_H) ⊕ (Nat × Nat × Nat × pm_H) ⊕ (Nat × Nat × Nat × pm_H) ⊕ (Nat × Nat × Nat × pm_H) ⊕ (Nat × Nat × Nat × pm_H) ⊕ (Nat × Nat × Nat × pm_H) ⊕ (Nat × Nat × Nat × pm_H) ⊕ (Nat × Nat × Nat × pm_H) ⊕ (Nat × Nat × Nat × pm_H) ⊕ (Nat × Nat × Nat × pm_H) ⊕ (Nat × Nat × Nat × pm_H) ⊕ (Nat × Nat × Nat × pm_H) ⊕ (Nat × Nat × Nat × pm_H) ⊕ (Nat × Nat × Nat × pm_H) ⊕ (Nat × Nat × Nat × pm_H) ⊕ (Nat × Nat × Nat × pm_H) ⊕ (Nat × Nat × Nat × pm_H) ⊕ (Nat × Nat × Nat × pm_H) ⊕ (Nat × Nat × Nat × pm_H) ⊕ (Nat × Nat × Nat × pm_H) ⊕ (Nat × Nat × Nat × pm_H) ⊕ (Nat × Nat × Nat × pm_H) ⊕ (Nat × Nat × Nat × pm_H) ⊕ (Nat × Nat × Nat × pm_H) ⊕ (Nat × Nat × Nat × pm_H) ⊕ (Nat × Nat × Nat × pm_H) ⊕ (Nat × Nat × Nat × pm_H) ⊕ (Nat × Nat × Nat × pm_H) ⊕ (Nat × Nat × Nat × pm_H) ⊕ (Nat × Nat × Nat × pm_H) ⊕ (Nat × Nat × Nat × pm_H) ⊕ (Nat × Nat × Nat × pm_H) ⊕ (Nat × Nat × Nat × pm_H) ⊕ (Nat × Nat × Nat × pm_H) ⊕ (Nat × Nat × Nat × pm_H) ⊕ (Nat × Nat × Nat × pm_H) ⊕ (Nat × Nat × Nat × pm_H) ⊕ (Nat × Nat × Nat × pm_H) ⊕ (Nat × Nat × Nat × pm_H) ⊕ (Nat × Nat × Nat × pm_H) ⊕ (Nat × Nat × Nat × pm_H) ⊕ (Nat × Nat × Nat × pm_H) ⊕ (Nat × Nat × Nat × pm_H) ⊕ (Nat × Nat × Nat × pm_H) ⊕ (Nat × Int32 × pm_H)) ⊕ pm_H) := if pm_kd h s1 = 16 then some (.inl (.inr (.inr (.inr (.inr (.inr (.inr (.inr (.inr (.inr (.inr (.inr (.inr (.inr (.inr (.inr (.inr (.inr (.inr (.inr (.inr (.inr (.inr (.inr (.inr (.inr (.inr (.inr (.inr (.inr (.inr (.inr (.inr (.inr (.inr (.inr (.inr (.inr (.inl ((x0, pm_sz (pm_setR h s1 66 (some s0)), x0, pm_new (pm_setR h s1 66 (some s0)) 34 2048))))))))))))))))))))))))))))))))))))))))) else none
def tX16_init_341 (x0 : Nat) (s0 : Nat) (s1 : Nat) (h : pm_H) : Option (((Nat × pm_H) ⊕ (Nat × Nat × Nat × pm_H) ⊕ (Nat × Nat × Nat × pm_H) ⊕ (Nat × Nat × Nat × pm_H) ⊕ (Nat × Nat × Nat × pm_H) ⊕ (Nat × Nat × Nat × pm_H) ⊕ (Nat × Nat × Nat × pm_H) ⊕ (Nat × Nat × Nat × pm_H) ⊕ (Nat × Nat × Nat × pm_H) ⊕ (Nat × Nat × Nat × pm_H) ⊕ (Nat × Nat × Nat × pm_H) ⊕ (Nat × Nat × Nat × pm_H) ⊕ (Nat × Nat × Nat × pm_H) ⊕ (Nat × Nat × Nat × pm_H) ⊕ (Nat × Nat × Nat × pm_H) ⊕ (Nat × Nat × Nat × pm_H) ⊕ (Nat × Nat × Nat × pm_H) ⊕ (Nat × Nat × Nat × pm_H) ⊕ (Nat × Nat × Nat × pm_H) ⊕ (Nat × Nat × Nat × pm_H) ⊕ (Nat × Nat × Nat × pm_H) ⊕ (Nat × Nat × Nat × pm_H) ⊕ (Nat × Nat × Nat × pm_H) ⊕ (Nat × Nat × Nat × pm_H) ⊕ (Nat × Nat × Nat × pm_H) ⊕ (Nat × Nat × Nat × pm_H) ⊕ (Nat × Nat × Nat × pm_H) ⊕ (Nat × Nat × Nat × pm_H) ⊕ (Nat × Nat × Nat × pm_H) ⊕ (Nat × Nat × Nat × pm_H) ⊕ (Nat × Nat × Nat × pm_H) ⊕ (Nat × Nat × Nat × pm_H) ⊕ (Nat × Nat × Nat × pm_H) ⊕ (Nat × Nat × Nat × pm_H) ⊕ (Nat × Nat × Nat × pm_H) ⊕ (Nat × Nat × Nat × pm_H) ⊕ (Nat × Nat × Nat × pm_H) ⊕ (Nat × Nat × Nat × pm_H) ⊕ (Nat × Nat × Nat × pm_H) ⊕ (Nat × Nat × Nat × pm_H) ⊕ (Nat × Nat × Nat × pm_H) ⊕ (Nat × Nat × Nat × pm_H) ⊕ (Nat × Nat × Nat × pm_H) ⊕ (Nat × Nat × Nat × pm_H) ⊕ (Nat × Nat × Nat × pm_H) ⊕ (Nat × Nat × Nat × pm_H) ⊕ (Nat × Nat × Nat × pm_H) ⊕ (Nat × Nat × Nat × pm_H) ⊕ (Nat × Nat × Nat × pm_H) ⊕ (Nat × Nat × Nat × pm_H) ⊕ (Nat × Nat × Nat × pm_H) ⊕ (Nat × Nat × Nat × pm_H) ⊕ (Nat × Nat × Nat × pm_H) ⊕ (Nat × Nat × Nat × pm_H) ⊕ (Nat × Nat × Nat × pm_H) ⊕ (Nat × Nat × Nat × pm_H) ⊕ (Nat × Nat × Nat × pm_H) ⊕ (Nat × Int32 × pm_H)) ⊕ pm_H) := if pm_kd h s1 = 16 then some (.inl (.inr (.inr (.inr (.inr (.inr (.inr (.inr (.inr (.inr (.inr (.inr (.inr (.inr (.inr (.inr (.inr (.inr (.inr (.inr (.inr (.inr (.inr (.inr (.inr (.inr (.inr (.inr (.inr (.inr (.inr (.inr (.inr (.inr (.inr (.inr (.inr (.inr (.inr (.inl ((x0, pm_sz (pm_setR h s1 67 (some s0)), x0, pm_new (pm_setR h s1 67 (some s0)) 34 1024)))))))))))))))))))))))))))))))))))))))))) else none
def tX16_init_350 (x0 : Nat) (s0 : Nat) (s1 : Nat) (h : pm_H) : Option (((Nat × pm_H) ⊕ (Nat × Nat × Nat × pm_H) ⊕ (Nat × Nat × Nat × pm_H) ⊕ (Nat × Nat × Nat × pm_H) ⊕ (Nat × Nat × Nat × pm_H) ⊕ (Nat × Nat × Nat × pm_H) ⊕ (Nat × Nat × Nat × pm_H) ⊕ (Nat × Nat × Nat × pm_H) ⊕ (Nat × Nat × Nat × pm_H) ⊕ (Nat × Nat × Nat × pm_H) ⊕ (Nat × Nat × Nat × pm_H) ⊕ (Nat × Nat × Nat × pm_H) ⊕ (Nat × Nat × Nat × pm_H) ⊕ (Nat × Nat × Nat × pm_H) ⊕ (Nat × Nat × Nat × pm_H) ⊕ (Nat × Nat × Nat × pm_H) ⊕ (Nat × Nat × Nat × pm_H) ⊕ (Nat × Nat × Nat × pm_H) ⊕ (Nat × Nat × Nat × pm_H) ⊕ (Nat × Nat × Nat × pm_H) ⊕ (Nat × Nat × Nat × pm_H) ⊕ (Nat × Nat × Nat × pm_H) ⊕ (Nat × Nat × Nat × pm_H) ⊕ (Nat × Nat × Nat × pm_H) ⊕ (Nat × Nat × Nat × pm_H) ⊕ (Nat × Nat × Nat × pm_H) ⊕ (Nat × Nat × Nat × pm_H) ⊕ (Nat × Nat × Nat × pm_H) ⊕ (Nat × Nat × Nat × pm_H) ⊕ (Nat × Nat × Nat × pm_H) ⊕ (Nat × Nat × Nat × pm_H) ⊕ (Nat × Nat × Nat × pm_H) ⊕ (Nat × Nat × Nat × pm_H) ⊕ (Nat × Nat × Nat × pm_H) ⊕ (Nat × Nat × Nat × pm_H) ⊕ (Nat × Nat × Nat × pm_H) ⊕ (Nat × Nat × Nat × pm_H) ⊕ (Nat × Nat × Nat × pm_H) ⊕ (Nat × Nat × Nat × pm_H) ⊕ (Nat × Nat × Nat × pm_H) ⊕ (Nat × Nat × Nat × pm_H) ⊕ (Nat × Nat × Nat × pm_H) ⊕ (Nat × Nat × Nat × pm_H) ⊕ (Nat × Nat × Nat × pm_H) ⊕ (Nat × Nat × Nat × pm_H) ⊕ (Nat × Nat × Nat × pm_H) ⊕ (Nat × Nat × Nat × pm_H) ⊕ (Nat × Nat × Nat × pm_H) ⊕ (Nat × Nat × Nat × pm_H) ⊕ (Nat × Nat × Nat × pm_H) ⊕ (Nat × Nat × Nat × pm_H) ⊕ (Nat × Nat × Nat × pm_H) ⊕ (Nat × Nat × Nat × pm_H) ⊕ (Nat × Nat × Nat × pm_H) ⊕ (Nat × Nat × Nat × pm_H) ⊕ (Nat × Nat × Nat × pm_H) ⊕ (Nat × Nat × Nat × pm_H) ⊕ (Nat × Int32 × pm_H)) ⊕ pm_H) := if pm_kd h s1 = 16 then some (.inl (.inr (.inr (.inr (.inr (.inr (.inr (.inr (.inr (.inr (.inr (.inr (.inr (.inr (.inr (.inr (.inr (.inr (.inr (.inr (.inr (.inr (.inr (.inr (.inr (.inr (.inr (.inr (.inr (.inr (.inr (.inr (.inr (.inr (.inr (.inr (.inr (.inr (.inr (.inr (.inl ((x0, pm_sz (pm_setR h s1 68 (some s0)), x0, pm_new (pm_setR h s1 68 (some s0)) 34 1024))))))))))))))))))))))))))))))))))))))))))) else none
def tX16_init_359 (x0 : Nat) (s0 : Nat) (s1 : Nat) (h : pm_H) : Option (((Nat × pm_H) ⊕ (Nat × Nat × Nat × pm_H) ⊕ (Nat × Nat × Nat × pm_H) ⊕ (Nat × Nat × Nat × pm_H) ⊕ (Nat × Nat × Nat × pm_H) ⊕ (Nat × Nat × Nat × pm_H) ⊕ (Nat × Nat × Nat × pm_H) ⊕ (Nat × Nat × Nat × pm_H) ⊕ (Nat × Nat × Nat × pm_H) ⊕ (Nat × Nat × Nat × pm_H) ⊕ (Nat × Nat × Nat × pm_H) ⊕ (Nat × Nat × Nat × pm_H) ⊕ (Nat × Nat × Nat × pm_H) ⊕ (Nat × Nat × Nat × pm_H) ⊕ (Nat × Nat × Nat × pm_H) ⊕ (Nat × Nat × Nat × pm_H) ⊕ (Nat × Nat × Nat × pm_H) ⊕ (Nat × Nat × Nat × pm_H) ⊕ (Nat × Nat × Nat × pm_H) ⊕ (Nat × Nat × Nat × pm_H) ⊕ (Nat × Nat × Nat × pm_H) ⊕ (Nat × Nat × Nat × pm_H) ⊕ (Nat × Nat × Nat × pm_H) ⊕ (Nat × Nat × Nat × pm_H) ⊕ (Nat × Nat × Nat × pm_H) ⊕ (Nat × Nat × Nat × pm_H) ⊕ (Nat × Nat × Nat × pm_H) ⊕ (Nat × Nat × Nat × pm_H) ⊕ (Nat × Nat × Nat × pm_H) ⊕ (Nat × Nat × Nat × pm_H) ⊕ (Nat × Nat × Nat × pm_H) ⊕ (Nat × Nat × Nat × pm_H) ⊕ (Nat × Nat × Nat × pm_H) ⊕ (Nat × Nat × Nat × pm_H) ⊕ (Nat × Nat × Nat × pm_H) ⊕ (Nat × Nat × Nat × pm_H) ⊕ (Nat × Nat × Nat × pm_H) ⊕ (Nat × Nat × Nat × pm_H) ⊕ (Nat × Nat × Nat × pm_H) ⊕ (Nat × Nat × Nat × pm_H) ⊕ (Nat × Nat × Nat × pm_H) ⊕ (Nat × Nat × Nat × pm_H) ⊕ (Nat × Nat × Nat × pm_H) ⊕ (Nat × Nat × Nat × pm_H) ⊕ (Nat × Nat × Nat × pm_H) ⊕ (Nat × Nat × Nat × pm_H) ⊕ (Nat × Nat × Nat × pm_H) ⊕ (Nat × Nat × Nat × pm_H) ⊕ (Nat × Nat × Nat × pm_H) ⊕ (Nat × Nat × Nat × pm_H) ⊕ (Nat × Nat × Nat × pm_H) ⊕ (Nat × Nat × Nat × pm_H) ⊕ (Nat × Nat × Nat × pm_H) ⊕ (Nat × Nat × Nat × pm_H) ⊕ (Nat × Nat × Nat × pm_H) ⊕ (Nat × Nat × Nat × pm_H) ⊕ (Nat × Nat × Nat × pm_H) ⊕ (Nat × Int32 × pm_H)) ⊕ pm_H) := if pm_kd h s1 = 16 then some (.inl (.inr (.inr (.inr (.inr (.inr (.inr (.inr (.inr (.inr (.inr (.inr (.inr (.inr (.inr (.inr (.inr (.inr (.inr (.inr (.inr (.inr (.inr (.inr (.inr (.inr (.inr (.inr (.inr (.inr (.inr (.inr (.inr (.inr (.inr (.inr (.inr (.inr (.inr (.inr (.inr (.inl ((x0, pm_sz (pm_setR h s1 69 (some s0)), x0, pm_new (pm_setR h s1 69 (some s0)) 32 1024)))))))))))))))))))))))))))))))))))))))))))) else none
def tX16_init_368 (x0 : Nat) (s0 : Nat) (s1 : Nat) (h : pm_H) : Option (((Nat × pm_H) ⊕ (Nat × Nat × Nat × pm_H) ⊕ (Nat × Nat × Nat × pm_H) ⊕ (Nat × Nat × Nat × pm_H) ⊕ (Nat × Nat × Nat × pm_H) ⊕ (Nat × Nat × Nat × pm_H) ⊕ (Nat × Nat × Nat × pm_H) ⊕ (Nat × Nat × Nat × pm_H) ⊕ (Nat × Nat × Nat × pm_H) ⊕ (Nat × Nat × Nat × pm_H) ⊕ (Nat × Nat × Nat × pm_H) ⊕ (Nat × Nat × Nat × pm_H) ⊕ (Nat × Nat × Nat × pm_H) ⊕ (Nat × Nat × Nat × pm_H) ⊕ (Nat × Nat × Nat × pm_H) ⊕ (Nat × Nat × Nat × pm_H) ⊕ (Nat × Nat × Nat × pm_H) ⊕ (Nat × Nat × Nat × pm_H) ⊕ (Nat × Nat × Nat × pm_H) ⊕ (Nat × Nat × Nat × pm_H) ⊕ (Nat × Nat × Nat × pm_H) ⊕ (Nat × Nat × Nat × pm_H) ⊕ (Nat × Nat × Nat × pm_H) ⊕ (Nat × Nat × Nat × pm_H) ⊕ (Nat × Nat × Nat × pm_H) ⊕ (Nat × Nat × Nat × pm_H) ⊕ (Nat × Nat × Nat × pm_H) ⊕ (Nat × Nat × Nat × pm_H) ⊕ (Nat × Nat × Nat × pm_H) ⊕ (Nat × Nat × Nat × pm_H) ⊕ (Nat × Nat × Nat × pm_H) ⊕ (Nat × Nat × Nat × pm_H) ⊕ (Nat × Nat × Nat × pm_H) ⊕ (Nat × Nat × Nat × pm_H) ⊕ (Nat × Nat × Nat × pm_H) ⊕ (Nat × Nat × Nat × pm_H) ⊕ (Nat × Nat × Nat × pm_H) ⊕ (Nat × Nat × Nat × pm_H) ⊕ (Nat × Nat × Nat × pm_H) ⊕ (Nat × Nat × Nat × pm_H) ⊕ (Nat × Nat × Nat × pm_H) ⊕ (Nat × Nat × Nat × pm_H) ⊕ (Nat × Nat × Nat × pm_H) ⊕ (Nat × Nat × Nat × pm_H) ⊕ (Nat × Nat × Nat × pm_H) ⊕ (Nat × Nat × Nat × pm_H) ⊕ (Nat × Nat × Nat × pm_H) ⊕ (Nat × Nat × Nat × pm_H) ⊕ (Nat × Nat × Nat × pm_H) ⊕ (Nat × Nat × Nat × pm_H) ⊕ (Nat × Nat × Nat × pm_H) ⊕ (Nat × Nat × Nat × pm_H) ⊕ (Nat × Nat × Nat × pm_H) ⊕ (Nat × Nat × Nat × pm_H) ⊕ (Nat × Nat × Nat × pm_H) ⊕ (Nat × Nat × Nat × pm_H) ⊕ (Nat × Nat × Nat × pm_H) ⊕ (Nat × Int32 × pm_H)) ⊕ pm_H) := if pm_kd h s1 = 16 then some (.inl (.inr (.inr (.inr (.inr (.inr (.inr (.inr (.inr (.inr (.inr (.inr (.inr (.inr (.inr (.inr (.inr (.inr (.inr (.inr (.inr (.inr (.inr (.inr (.inr (.inr (.inr (.inr (.inr (.inr (.inr (.inr (.inr (.inr (.inr (.inr (.inr (.inr (.inr (.inr (.inr (.inr (.inl ((x0, pm_sz (pm_setR h s1 70 (some s0)), x0, pm_new (pm_setR h s1 70 (some s0)) 34 2048))))))))))))))))))))))))))))))))))))))))))))) else none
def tX16_init_377 (x0 : Nat) (s0 : Nat) (s1 : Nat) (h : pm_H) : Option (((Nat × pm_H) ⊕ (Nat × Nat × Nat × pm_H) ⊕ (Nat × Nat × Nat × pm_H) ⊕ (Nat × Nat × Nat × pm_H) ⊕ (Nat × Nat × Nat × pm_H) ⊕ (Nat × Nat × Nat × pm_H) ⊕ (Nat × Nat × Nat × pm_H) ⊕ (Nat × Nat × Nat × pm_H) ⊕ (Nat × Nat × Nat × pm_H) ⊕ (Nat × Nat × Nat × pm_H) ⊕ (Nat × Nat × Nat × pm_H) ⊕ (Nat × Nat × Nat × pm_H) ⊕ (Nat × Nat × Nat × pm_H) ⊕ (Nat × Nat × Nat × pm_H) ⊕ (Nat × Nat × Nat × pm_H) ⊕ (Nat × Nat × Nat × pm_H) ⊕ (Nat × Nat × Nat × pm_H) ⊕ (Nat × Nat × Nat × pm_H) ⊕ (Nat × Nat × Nat × pm_H) ⊕ (Nat × Nat × Nat × pm_H) ⊕ (Nat × Nat × Nat × pm_H) ⊕ (Nat × Nat × Nat × pm_H) ⊕ (Nat × Nat × Nat × pm_H) ⊕ (Nat × Nat × Nat × pm_H) ⊕ (Nat × Nat × Nat × pm_H) ⊕ (Nat × Nat × Nat × pm_H) ⊕ (Nat × Nat × Nat × pm_H) ⊕ (Nat × Nat × Nat × pm_H) ⊕ (Nat × Nat × Nat × pm_H) ⊕ (Nat × Nat × Nat × pm_H) ⊕ (Nat × Nat × Nat × pm_H) ⊕ (Nat × Nat × Nat × pm_H) ⊕ (Nat × Nat × Nat × pm_H) ⊕ (Nat × Nat × Nat × pm_H) ⊕ (Nat × Nat × Nat × pm_H) ⊕ (Nat × Nat × Nat × pm_H) ⊕ (Nat × Nat × Nat × pm_H) ⊕ (Nat × Nat × Nat × pm_H) ⊕ (Nat × Nat × Nat × pm_H) ⊕ (Nat × Nat × Nat × pm_H) ⊕ (Nat × Nat × Nat × pm_H) ⊕ (Nat × Nat × Nat × pm_H) ⊕ (Nat × Nat × Nat × pm_H) ⊕ (Nat × Nat × Nat × pm_H) ⊕ (Nat × Nat × Nat × pm_H) ⊕ (Nat × Nat × Nat × pm_H) ⊕ (Nat × Nat × Nat × pm_H) ⊕ (Nat × Nat × Nat × pm_H) ⊕ (Nat × Nat × Nat × pm_H) ⊕ (Nat × Nat × Nat × pm_H) ⊕ (Nat × Nat × Nat × pm_H) ⊕ (Nat × Nat × Nat × pm_H) ⊕ (Nat × Nat × Nat × pm_H) ⊕ (Nat × Nat × Nat × pm_H) ⊕ (Nat × Nat × Nat × pm_H) ⊕ (Nat × Nat × Nat × pm_H) ⊕ (Nat × Nat × Nat × pm_H) ⊕ (Nat × Int32 × pm_H)) ⊕ pm_H) := if pm_kd h s1 = 16 then some (.inl (.inr (.inr (.inr (.inr (.inr (.inr (.inr (.inr (.inr (.inr (.inr (.inr (.inr (.inr (.inr (.inr (.inr (.inr (.inr (.inr (.inr (.inr (.inr (.inr (.inr (.inr (.inr (.inr (.inr (.inr (.inr (.inr (.inr (.inr (.inr (.inr (.inr (.inr (.inr (.inr (.inr (.inr (.inl ((x0, pm_sz (pm_setR h s1 72 (some s0)), x0, pm_new (pm_setR h s1 72 (some s0)) 34 64)))))))))))))))))))))))))))))))))))))))))))))) else none
def tX16_init_385 (x0 : Nat) (s0 : Nat) (s1 : Nat) (h : pm_H) : Option (((Nat × pm_H) ⊕ (Nat × Nat × Nat × pm_H) ⊕ (Nat × Nat × Nat × pm_H) ⊕ (Nat × Nat × Nat × pm_H) ⊕ (Nat × Nat × Nat × pm_H) ⊕ (Nat × Nat × Nat × pm_H) ⊕ (Nat × Nat × Nat × pm_H) ⊕ (Nat × Nat × Nat × pm_H) ⊕ (Nat × Nat × Nat × pm_H) ⊕ (Nat × Nat × Nat × pm_H) ⊕ (Nat × Nat × Nat × pm_H) ⊕ (Nat × Nat × Nat × pm_H) ⊕ (Nat × Nat × Nat × pm_H) ⊕ (Nat × Nat × Nat × pm_H) ⊕ (Nat × Nat × Nat × pm_H) ⊕ (Nat × Nat × Nat × pm_H) ⊕ (Nat × Nat × Nat × pm_H) ⊕ (Nat × Nat × Nat × pm_H) ⊕ (Nat × Nat × Nat × pm_H) ⊕ (Nat × Nat × Nat × pm_H) ⊕ (Nat × Nat × Nat × pm_H) ⊕ (Nat × Nat × Nat × pm_H) ⊕ (Nat × Nat × Nat × pm_H) ⊕ (Nat × Nat × Nat × pm_H) ⊕ (Nat × Nat × Nat × pm_H) ⊕ (Nat × Nat × Nat × pm_H) ⊕ (Nat × Nat × Nat × pm_H) ⊕ (Nat × Nat × Nat × pm_H) ⊕ (Nat × Nat × Nat × pm_H) ⊕ (Nat × Nat × Nat × pm_H) ⊕ (Nat × Nat × Nat × pm_H) ⊕ (Nat × Nat × Nat × pm_H) ⊕ (Nat × Nat × Nat × pm_H) ⊕ (Nat × Nat × Nat × pm_H) ⊕ (Nat × Nat × Nat × pm_H) ⊕ (Nat × Nat × Nat × pm_H) ⊕ (Nat × Nat × Nat × pm_H) ⊕ (Nat × Nat × Nat × pm_H) ⊕ (Nat × Nat × Nat × pm_H) ⊕ (Nat × Nat × Nat × pm_H) ⊕ (Nat × Nat × Nat × pm_H) ⊕ (Nat × Nat × Nat × pm_H) ⊕ (Nat × Nat × Nat × pm_H) ⊕ (Nat × Nat × Nat × pm_H) ⊕ (Nat × Nat × Nat × pm_H) ⊕ (Nat × Nat × Nat × pm_H) ⊕ (Nat × Nat × Nat × pm_H) ⊕ (Nat × Nat × Nat × pm_H) ⊕ (Nat × Nat × Nat × pm_H) ⊕ (Nat × Nat × Nat × pm_H) ⊕ (Nat × Nat × Nat × pm_H) ⊕ (Nat × Nat × Nat × pm_H) ⊕ (Nat × Nat × Nat × pm_H) ⊕ (Nat × Nat × Nat × pm_H) ⊕ (Nat × Nat × Nat × pm_H) ⊕ (Nat × Nat × Nat × pm_H) ⊕ (Nat × Nat × Nat × pm_H) ⊕ (Nat × Int32 × pm_H)) ⊕ pm_H) := if pm_kd h s1 = 16 then some (.inl (.inr (.inr (.inr (.inr (.inr (.inr (.inr (.inr (.inr (.inr (.inr (.inr (.inr (.inr (.inr (.inr (.inr (.inr (.inr (.inr (.inr (.inr (.inr (.inr (.inr (.inr (.inr (.inr (.inr (.inr (.inr (.inr (.inr (.inr (.inr (.inr (.inr (.inr (.inr (.inr (.inr (.inr (.inr (.inl ((x0, pm_sz (pm_setR h s1 74 (some s0)), x0, pm_new (pm_setR h s1 74 (some s0)) 34 64))))))))))))))))))))))))))))))))))))))))))))))) else none
def tX16_init_393 (x0 : Nat) (s0 : Nat) (s1 : Nat) (h : pm_H) : Option (((Nat × pm_H) ⊕ (Nat × Nat × Nat × pm_H) ⊕ (Nat × Nat × Nat × pm_H) ⊕ (Nat × Nat × Nat × pm_H) ⊕ (Nat × Nat × Nat × pm_H) ⊕ (Nat × Nat × Nat × pm_H) ⊕ (Nat × Nat × Nat × pm_H) ⊕ (Nat × Nat × Nat × pm_H) ⊕ (Nat × Nat × Nat × pm_H) ⊕ (Nat × Nat × Nat × pm_H) ⊕ (Nat × Nat × Nat × pm_H) ⊕ (Nat × Nat × Nat × pm_H) ⊕ (Nat × Nat × Nat × pm_H) ⊕ (Nat × Nat × Nat × pm_H) ⊕ (Nat × Nat × Nat × pm_H) ⊕ (Nat × Nat × Nat × pm_H) ⊕ (Nat × Nat × Nat × pm_H) ⊕ (Nat × Nat × Nat × pm_H) ⊕ (Nat × Nat × Nat × pm_H) ⊕ (Nat × Nat × Nat × pm_H) ⊕ (Nat × Nat × Nat × pm_H) ⊕ (Nat × Nat × Nat × pm_H) ⊕ (Nat × Nat × Nat × pm_H) ⊕ (Nat × Nat × Nat × pm_H) ⊕ (Nat × Nat × Nat × pm_H) ⊕ (Nat × Nat × Nat × pm_H) ⊕ (Nat × Nat × Nat × pm_H) ⊕ (Nat × Nat × Nat × pm_H) ⊕ (Nat × Nat × Nat × pm_H) ⊕ (Nat × Nat × Nat × pm_H) ⊕ (Nat × Nat × Nat × pm_H) ⊕ (Nat × Nat × Nat × pm_H) ⊕ (Nat × Nat × Nat × pm_H) ⊕ (Nat × Nat × Nat × pm_H) ⊕ (Nat × Nat × Nat × pm_H) ⊕ (Nat × Nat × Nat × pm_H) ⊕ (Nat × Nat × Nat × pm_H) ⊕ (Nat × Nat × Nat × pm_H) ⊕ (Nat × Nat × Nat × pm_H) ⊕ (Nat × Nat × Nat × pm_H) ⊕ (Nat × Nat × Nat × pm_H) ⊕ (Nat × Nat × Nat × pm_H) ⊕ (Nat × Nat × Nat × pm_H) ⊕ (Nat × Nat × Nat × pm_H) ⊕ (Nat × Nat × Nat × pm_H) ⊕ (Nat × Nat × Nat × pm_H) ⊕ (Nat × Nat × Nat × pm_H) ⊕ (Nat × Nat × Nat × pm_H) ⊕ (Nat × Nat × Nat × pm_H) ⊕ (Nat × Nat × Nat × pm_H) ⊕ (Nat × Nat × Nat × pm_H) ⊕ (Nat × Nat × Nat × pm_H) ⊕ (Nat × Nat × Nat × pm_H) ⊕ (Nat × Nat × Nat × pm_H) ⊕ (Nat × Nat × Nat × pm_H) ⊕ (Nat × Nat × Nat × pm_H) ⊕ (Nat × Nat × Nat × pm_H) ⊕ (Nat × Int32 × pm_H)) ⊕ pm_H) := if pm_kd h s1 = 16 then if pm_kd (pm_setR h s1 75 (some s0)) x0 = 16 then some (.inl (.inr (.inr (.inr (.inr (.inr (.inr (.inr (.inr (.inr (.inr (.inr (.inr (.inr (.inr (.inr (.inr (.inr (.inr (.inr (.inr (.inr (.inr (.inr (.inr (.inr (.inr (.inr (.inr (.inr (.inr (.inr (.inr (.inr (.inr (.inr (.inr (.inr (.inr (.inr (.inr (.inr (.inr (.inr (.inr (.inl ((x0, pm_sz (pm_setI (pm_setR h s1 75 (some s0)) x0 79 (-1)), x0, pm_new (pm_setI (pm_setR h s1 75 (some s0)) x0 79 (-1)) 35 16)))))))))))))))))))))))))))))))))))))))))))))))) else none else none
def tX16_init_406 (x0 : Nat) (s0 : Nat) (s1 : Nat) (h : pm_H) : Option (((Nat × pm_H) ⊕ (Nat × Nat × Nat × pm_H) ⊕ (Nat × Nat × Nat × pm_H) ⊕ (Nat × Nat × Nat × pm_H) ⊕ (Nat × Nat × Nat × pm_H) ⊕ (Nat × Nat × Nat × pm_H) ⊕ (Nat × Nat × Nat × pm_H) ⊕ (Nat × Nat × Nat × pm_H) ⊕ (Nat × Nat × Nat × pm_H) ⊕ (Nat × Nat × Nat × pm_H) ⊕ (Nat × Nat × Nat × pm_H) ⊕ (Nat × Nat × Nat × pm_H) ⊕ (Nat × Nat × Nat × pm_H) ⊕ (Nat × Nat × Nat × pm_H) ⊕ (Nat × Nat × Nat × pm_H) ⊕ (Nat × Nat × Nat × pm_H) ⊕ (Nat × Nat × Nat × pm_H) ⊕ (Nat × Nat × Nat × pm_H) ⊕ (Nat × Nat × Nat × pm_H) ⊕ (Nat × Nat × Nat × pm_H) ⊕ (Nat × Nat × Nat × pm_H) ⊕ (Nat × Nat × Nat × pm_H) ⊕ (Nat × Nat × Nat × pm_H) ⊕ (Nat × Nat × Nat × pm_H) ⊕ (Nat × Nat × Nat × pm_H) ⊕ (Nat × Nat × Nat × pm_H) ⊕ (Nat × Nat × Nat × pm_H) ⊕ (Nat × Nat × Nat × pm_H) ⊕ (Nat × Nat × Nat × pm_H) ⊕ (Nat × Nat × Nat × pm_H) ⊕ (Nat × Nat × Nat × pm_H) ⊕ (Nat × Nat × Nat × pm_H) ⊕ (Nat × Nat × Nat × pm_H) ⊕ (Nat × Nat × Nat × pm_H) ⊕ (Nat × Nat × Nat × pm_H) ⊕ (Nat × Nat × Nat × pm_H) ⊕ (Nat × Nat × Nat × pm_H) ⊕ (Nat × Nat × Nat × pm_H) ⊕ (Nat × Nat × Nat × pm_H) ⊕ (Nat × Nat × Nat × pm_H) ⊕ (Nat × Nat × Nat × pm_H) ⊕ (Nat × Nat × Nat × pm_H) ⊕ (Nat × Nat × Nat × pm_H) ⊕ (Nat × Nat × Nat × pm_H) ⊕ (Nat × Nat × Nat × pm_H) ⊕ (Nat × Nat × Nat × pm_H) ⊕ (Nat × Nat × Nat × pm_H) ⊕ (Nat × Nat × Nat × pm_H) ⊕ (Nat × Nat × Nat × pm_H) ⊕ (Nat × Nat × Nat × pm_H) ⊕ (Nat × Nat × Nat × pm_H) ⊕ (Nat × Nat × Nat × pm_H) ⊕ (Nat × Nat × Nat × pm_H) ⊕ (Nat × Nat × Nat × pm_H) ⊕ (Nat × Nat × Nat × pm_H) ⊕ (Nat × Nat × Nat × pm_H) ⊕ (Nat × Nat × Nat × pm_H) ⊕ (Nat × Int32 × pm_H)) ⊕ pm_H) := if pm_kd h s1 = 16 then some (.inl (.inr (.inr (.inr (.inr (.inr (.inr (.inr (.inr (.inr (.inr (.inr (.inr (.inr (.inr (.inr (.inr (.inr (.inr (.inr (.inr (.inr (.inr (.inr (.inr (.inr (.inr (.inr (.inr (.inr (.inr (.inr (.inr (.inr (.inr (.inr (.inr (.inr (.inr (.inr (.inr (.inr (.inr (.inr (.inr (.inr (.inl ((x0, pm_sz (pm_setR h s1 82 (some s0)), x0, pm_new (pm_setR h s1 82 (some s0)) 35 16))))))))))))))))))))))))))))))))))))))))))))))))) else none
def tX16_init_414 (x0 : Nat) (s0 : Nat) (s1 : Nat) (h : pm_H) : Option (((Nat × pm_H) ⊕ (Nat × Nat × Nat × pm_H) ⊕ (Nat × Nat × Nat × pm_H) ⊕ (Nat × Nat × Nat × pm_H) ⊕ (Nat × Nat × Nat × pm_H) ⊕ (Nat × Nat × Nat × pm_H) ⊕ (Nat × Nat × Nat × pm_H) ⊕ (Nat × Nat × Nat × pm_H) ⊕ (Nat × Nat × Nat × pm_H) ⊕ (Nat × Nat × Nat × pm_H) ⊕ (Nat × Nat × Nat × pm_H) ⊕ (Nat × Nat × Nat × pm_H) ⊕ (Nat × Nat × Nat × pm_H) ⊕ (Nat × Nat × Nat × pm_H) ⊕ (Nat × Nat × Nat × pm_H) ⊕ (Nat × Nat × Nat × pm_H) ⊕ (Nat × Nat × Nat × pm_H) ⊕ (Nat × Nat × Nat × pm_H) ⊕ (Nat × Nat × Nat × pm_H) ⊕ (Nat × Nat × Nat × pm_H) ⊕ (Nat × Nat × Nat × pm_H) ⊕ (Nat × Nat × Nat × pm_H) ⊕ (Nat × Nat × Nat × pm_H) ⊕ (Nat × Nat × Nat × pm_H) ⊕ (Nat × Nat × Nat × pm_H) ⊕ (Nat × Nat × Nat × pm_H) ⊕ (Nat × Nat × Nat × pm_H) ⊕ (Nat × Nat × Nat × pm_H) ⊕ (Nat × Nat × Nat × pm_H) ⊕ (Nat × Nat × Nat × pm_H) ⊕ (Nat × Nat × Nat × pm_H) ⊕ (Nat × Nat × Nat × pm_H) ⊕ (Nat × Nat × Nat × pm_H) ⊕ (Nat × Nat × Nat × pm_H) ⊕ (Nat × Nat × Nat × pm_H) ⊕ (Nat × Nat × Nat × pm_H) ⊕ (Nat × Nat × Nat × pm_H) ⊕ (Nat × Nat × Nat × pm_H) ⊕ (Nat × Nat × Nat × pm_H) ⊕ (Nat × Nat × Nat × pm_H) ⊕ (Nat × Nat × Nat × pm_H) ⊕ (Nat × Nat × Nat × pm_H) ⊕ (Nat × Nat × Nat × pm_H) ⊕ (Nat × Nat × Nat × pm_H) ⊕ (Nat × Nat × Nat × pm_H) ⊕ (Nat × Nat × Nat × pm_H) ⊕ (Nat × Nat × Nat × pm_H) ⊕ (Nat × Nat × Nat × pm_H) ⊕ (Nat × Nat × Nat × pm_H) ⊕ (Nat × Nat × Nat × pm_H) ⊕ (Nat × Nat × Nat × pm_H) ⊕ (Nat × Nat × Nat × pm_H) ⊕ (Nat × Nat × Nat × pm_H) ⊕ (Nat × Nat × Nat × pm_H) ⊕ (Nat × Nat × Nat × pm_H) ⊕ (Nat × Nat × Nat × pm_H) ⊕ (Nat × Nat × Nat × pm_H) ⊕ (Nat × Int32 × pm_H)) ⊕ pm_H) := if pm_kd h s1 = 16 then some (.inl (.inr (.inr (.inr (.inr (.inr (.inr (.inr (.inr (.inr (.inr (.inr (.inr (.inr (.inr (.inr (.inr (.inr (.inr (.inr (.inr (.inr (.inr (.inr (.inr (.inr (.inr (.inr (.inr (.inr (.inr (.inr (.inr (.inr (.inr (.inr (.inr (.inr (.inr (.inr (.inr (.inr (.inr (.inr (.inr (.inr (.inr (.inl ((x0, pm_sz (pm_setR h s1 84 (some s0)), x0, pm_new (pm_setR h s1 84 (some s0)) 34 200)))))))))))))))))))))))))))))))))))))))))))))))))) else none
def tX16_init_423 (x0 : Nat) (s0 : Nat) (s1 : Nat) (h : pm_H) : Option (((Nat × pm_H) ⊕ (Nat × Nat × Nat × pm_H) ⊕ (Nat × Nat × Nat × pm_H) ⊕ (Nat × Nat × Nat × pm_H) ⊕ (Nat × Nat × Nat × pm_H) ⊕ (Nat × Nat × Nat × pm_H) ⊕ (Nat × Nat × Nat × pm_H) ⊕ (Nat × Nat × Nat × pm_H) ⊕ (Nat × Nat × Nat × pm_H) ⊕ (Nat × Nat × Nat × pm_H) ⊕ (Nat × Nat × Nat × pm_H) ⊕ (Nat × Nat × Nat × pm_H) ⊕ (Nat × Nat × Nat × pm_H) ⊕ (Nat × Nat × Nat × pm_H) ⊕ (Nat × Nat × Nat × pm_H) ⊕ (Nat × Nat × Nat × pm_H) ⊕ (Nat × Nat × Nat × pm_H) ⊕ (Nat × Nat × Nat × pm_H) ⊕ (Nat × Nat × Nat × pm_H) ⊕ (Nat × Nat × Nat × pm_H) ⊕ (Nat × Nat × Nat × pm_H) ⊕ (Nat × Nat × Nat × pm_H) ⊕ (Nat × Nat × Nat × pm_H) ⊕ (Nat × Nat × Nat × pm_H) ⊕ (Nat × Nat × Nat × pm_H) ⊕ (Nat × Nat × Nat × pm_H) ⊕ (Nat × Nat × Nat × pm_H) ⊕ (Nat × Nat × Nat × pm_H) ⊕ (Nat × Nat × Nat × pm_H) ⊕ (Nat × Nat × Nat × pm_H) ⊕ (Nat × Nat × Nat × pm_H) ⊕ (Nat × Nat × Nat × pm_H) ⊕ (Nat × Nat × Nat × pm_H) ⊕ (Nat × Nat × Nat × pm_H) ⊕ (Nat × Nat × Nat × pm_H) ⊕ (Nat × Nat × Nat × pm_H) ⊕ (Nat × Nat × Nat × pm_H) ⊕ (Nat × Nat × Nat × pm_H) ⊕ (Nat × Nat × Nat × pm_H) ⊕ (Nat × Nat × Nat × pm_H) ⊕ (Nat × Nat × Nat × pm_H) ⊕ (Nat × Nat × Nat × pm_H) ⊕ (Nat × Nat × Nat × pm_H) ⊕ (Nat × Nat × Nat × pm_H) ⊕ (Nat × Nat × Nat × pm_H) ⊕ (Nat × Nat × Nat × pm_H) ⊕ (Nat × Nat × Nat × pm_H) ⊕ (Nat × Nat × Nat × pm_H) ⊕ (Nat × Nat × Nat × pm_H) ⊕ (Nat × Nat × Nat × pm_H) ⊕ (Nat × Nat × Nat × pm_H) ⊕ (Nat × Nat × Nat × pm_H) ⊕ (Nat × Nat × Nat × pm_H) ⊕ (Nat × Nat × Nat × pm_H) ⊕ (Nat × Nat × Nat × pm_H) ⊕ (Nat × Nat × Nat × pm_H) ⊕ (Nat × Nat × Nat × pm_H) ⊕ (Nat × Int32 × pm_H)) ⊕ pm_H) := if pm_kd h s1 = 16 then some (.inl (.inr (.inr (.inr (.inr (.inr (.inr (.inr (.inr (.inr (.inr (.inr (.inr (.inr (.inr (.inr (.inr (.inr (.inr (.inr (.inr (.inr (.inr (.inr (.inr (.inr (.inr (.inr (.inr (.inr (.inr (.inr (.inr (.inr (.inr (.inr (.inr (.inr (.inr (.inr (.inr (.inr (.inr (.inr (.inr (.inr (.inr (.inr (.inl ((x0, pm_sz (pm_setR h s1 86 (some s0)), x0, pm_new (pm_setR h s1 86 (some s0)) 34 200))))))))))))))))))))))))))))))))))))))))))))))))))) else none
def tX16_init_432 (x0 : Nat) (s0 : Nat) (s1 : Nat) (h : pm_H) : Option (((Nat × pm_H) ⊕ (Nat × Nat × Nat × pm_H) ⊕ (Nat × Nat × Nat × pm_H) ⊕ (Nat × Nat × Nat × pm_H) ⊕ (Nat × Nat × Nat × pm_H) ⊕ (Nat × Nat × Nat × pm_H) ⊕ (Nat × Nat × Nat × pm_H) ⊕ (Nat × Nat × Nat × pm_H) ⊕ (Nat × Nat × Nat × pm_H) ⊕ (Nat × Nat × Nat × pm_H) ⊕ (Nat × Nat × Nat × pm_H) ⊕ (Nat × Nat × Nat × pm_H) ⊕ (Nat × Nat × Nat × pm_H) ⊕ (Nat × Nat × Nat × pm_H) ⊕ (Nat × Nat × Nat × pm_H) ⊕ (Nat × Nat × Nat × pm_H) ⊕ (Nat × Nat × Nat × pm_H) ⊕ (Nat × Nat × Nat × pm_H) ⊕ (Nat × Nat × Nat × pm_H) ⊕ (Nat × Nat × Nat × pm_H) ⊕ (Nat × Nat × Nat × pm_H) ⊕ (Nat × Nat × Nat × pm_H) ⊕ (Nat × Nat × Nat × pm_H) ⊕ (Nat × Nat × Nat × pm_H) ⊕ (Nat × Nat × Nat × pm_H) ⊕ (Nat × Nat × Nat × pm_H) ⊕ (Nat × Nat × Nat × pm_H) ⊕ (Nat × Nat × Nat × pm_H) ⊕ (Nat × Nat × Nat × pm_H) ⊕ (Nat × Nat × Nat × pm_H) ⊕ (Nat × Nat × Nat × pm_H) ⊕ (Nat × Nat × Nat × pm_H) ⊕ (Nat × Nat × Nat × pm_H) ⊕ (Nat × Nat × Nat × pm_H) ⊕ (Nat × Nat × Nat × pm_H) ⊕ (Nat × Nat × Nat × pm_H) ⊕ (Nat × Nat × Nat × pm_H) ⊕ (Nat × Nat × Nat × pm_H) ⊕ (Nat × Nat × Nat × pm_H) ⊕ (Nat × Nat × Nat × pm_H) ⊕ (Nat × Nat × Nat × pm_H) ⊕ (Nat × Nat × Nat × pm_H) ⊕ (Nat × Nat × Nat × pm_H) ⊕ (Nat × Nat × Nat × pm_H) ⊕ (Nat × Nat × Nat × pm_H) ⊕ (Nat × Nat × Nat × pm_H) ⊕ (Nat × Nat × Nat × pm_H) ⊕ (Nat × Nat × Nat × pm_H) ⊕ (Nat × Nat × Nat × pm_H) ⊕ (Nat × Nat × Nat × pm_H) ⊕ (Nat × Nat × Nat × pm_H) ⊕ (Nat × Nat × Nat × pm_H) ⊕ (Nat × Nat × Nat × pm_H) ⊕ (Nat × Nat × Nat × pm_H) ⊕ (Nat × Nat × Nat × pm_H) ⊕ (Nat × Nat × Nat × pm_H) ⊕ (Nat × Nat × Nat × pm_H) ⊕ (Nat × Int32 × pm_H)) ⊕ pm_H) := if pm_kd h s1 = 16 then some (.inl (.inr (.inr (.inr (.inr (.inr (.inr (.inr (.inr (.inr (.inr (.inr (.inr (.inr (.inr (.inr (.inr (.inr (.inr (.inr (.inr (.inr (.inr (.inr (.inr (.inr (.inr (.inr (.inr (.inr (.inr (.inr (.inr (.inr (.inr (.inr (.inr (.inr (.inr (.inr (.inr (.inr (.inr (.inr (.inr (.inr (.inr (.inr (.inr (.inl ((x0, pm_sz (pm_setR h s1 87 (some s0)), x0, pm_new (pm_setR h s1 87 (some s0)) 34 200)))))))))))))))))))))))))))))))))))))))))))))))))))) else none
def tX16_init_441 (x0 : Nat) (s0 : Nat) (s1 : Nat) (h : pm_H) : Option (((Nat × pm_H) ⊕ (Nat × Nat × Nat × pm_H) ⊕ (Nat × Nat × Nat × pm_H) ⊕ (Nat × Nat × Nat × pm_H) ⊕ (Nat × Nat × Nat × pm_H) ⊕ (Nat × Nat × Nat × pm_H) ⊕ (Nat × Nat × Nat × pm_H) ⊕ (Nat × Nat × Nat × pm_H) ⊕ (Nat × Nat × Nat × pm_H) ⊕ (Nat × Nat × Nat × pm_H) ⊕ (Nat × Nat × Nat × pm_H) ⊕ (Nat × Nat × Nat × pm_H) ⊕ (Nat × Nat × Nat × pm_H) ⊕ (Nat × Nat × Nat × pm_H) ⊕ (Nat × Nat × Nat × pm_H) ⊕ (Nat × Nat × Nat × pm_H) ⊕ (Nat × Nat × Nat × pm_H) ⊕ (Nat × Nat × Nat × pm_H) ⊕ (Nat × Nat × Nat × pm_H) ⊕ (Nat × Nat × Nat × pm_H) ⊕ (Nat × Nat × Nat × pm_H) ⊕ (Nat × Nat × Nat × pm_H) ⊕ (Nat × Nat × Nat × pm_H) ⊕ (Nat × Nat × Nat × pm_H) ⊕ (Nat × Nat × Nat × pm_H) ⊕ (Nat × Nat × Nat × pm_H) ⊕ (Nat × Nat × Nat × pm_H) ⊕ (Nat × Nat × Nat × pm_H) ⊕ (Nat × Nat × Nat × pm_H) ⊕ (Nat × Nat × Nat × pm_H) ⊕ (Nat × Nat × Nat × pm_H) ⊕ (Nat × Nat × Nat × pm_H) ⊕ (Nat × Nat × Nat × pm_H) ⊕ (Nat × Nat × Nat × pm_H) ⊕ (Nat × Nat × Nat × pm_H) ⊕ (Nat × Nat × Nat × pm_H) ⊕ (Nat × Nat × Nat × pm_H) ⊕ (Nat × Nat × Nat × pm_H) ⊕ (Nat × Nat × Nat × pm_H) ⊕ (Nat × Nat × Nat × pm_H) ⊕ (Nat × Nat × Nat × pm_H) ⊕ (Nat × Nat × Nat × pm_H) ⊕ (Nat × Nat × Nat × pm_H) ⊕ (Nat × Nat × Nat × pm_H) ⊕ (Nat × Nat × Nat × pm_H) ⊕ (Nat × Nat × Nat × pm_H) ⊕ (Nat × Nat × Nat × pm_H) ⊕ (Nat × Nat × Nat × pm_H) ⊕ (Nat × Nat × Nat × pm_H) ⊕ (Nat × Nat × Nat × pm_H) ⊕ (Nat × Nat × Nat × pm_H) ⊕ (Nat × Nat × Nat × pm_H) ⊕ (Nat × Nat × Nat × pm_H) ⊕ (Nat × Nat × Nat × pm_H) ⊕ (Nat × Nat × Nat × pm_H) ⊕ (Nat × Nat × Nat × pm_H) ⊕ (Nat × Nat × Nat × pm_H) ⊕ (Nat × Int32 × pm_H)) ⊕ pm_H) := if pm_kd h s1 = 16 then some (.inl (.inr (.inr (.inr (.inr (.inr (.inr (.inr (.inr (.inr (.inr (.inr (.inr (.inr (.inr (.inr (.inr (.inr (.inr (.inr (.inr (.inr (.inr (.inr (.inr (.inr (.inr (.inr (.inr (.inr (.inr (.inr (.inr (.inr (.inr (.inr (.inr (.inr (.inr (.inr (.inr (.inr (.inr (.inr (.inr (.inr (.inr (.inr (.inr (.inr (.inl ((x0, pm_sz (pm_setR h s1 88 (some s0)), x0, pm_new (pm_setR h s1 88 (some s0)) 34 200))))))))))))))))))))))))))))))))))))))))))))))))))))) else none
def tX16_init_450 (x0 : Nat) (s0 : Nat) (s1 : Nat) (h : pm_H) : Option (((Nat × pm_H) ⊕ (Nat × Nat × Nat × pm_H) ⊕ (Nat × Nat × Nat × pm_H) ⊕ (Nat × Nat × Nat × pm_H) ⊕ (Nat × Nat × Nat × pm_H) ⊕ (Nat × Nat × Nat × pm_H) ⊕ (Nat × Nat × Nat × pm_H) ⊕ (Nat × Nat × Nat × pm_H) ⊕ (Nat × Nat × Nat × pm_H) ⊕ (Nat × Nat × Nat × pm_H) ⊕ (Nat × Nat × Nat × pm_H) ⊕ (Nat × Nat × Nat × pm_H) ⊕ (Nat × Nat × Nat × pm_H) ⊕ (Nat × Nat × Nat × pm_H) ⊕ (Nat × Nat × Nat × pm_H) ⊕ (Nat × Nat × Nat × pm_H) ⊕ (Nat × Nat × Nat × pm_H) ⊕ (Nat × Nat × Nat × pm_H) ⊕ (Nat × Nat × Nat × pm_H) ⊕ (Nat × Nat × Nat × pm_H) ⊕ (Nat × Nat × Nat × pm_H) ⊕ (Nat × Nat × Nat × pm_H) ⊕ (Nat × Nat × Nat × pm_H) ⊕ (Nat × Nat × Nat × pm_H) ⊕ (Nat × Nat × Nat × pm_H) ⊕ (Nat × Nat × Nat × pm_H) ⊕ (Nat × Nat × Nat × pm_H) ⊕ (Nat × Nat × Nat × pm_H) ⊕ (Nat × Nat × Nat × pm_H) ⊕ (Nat × Nat × Nat × pm_H) ⊕ (Nat × Nat × Nat × pm_H) ⊕ (Nat × Nat × Nat × pm_H) ⊕ (Nat × Nat × Nat × pm_H) ⊕ (Nat × Nat × Nat × pm_H) ⊕ (Nat × Nat × Nat × pm_H) ⊕ (Nat × Nat × Nat × pm_H) ⊕ (Nat × Nat × Nat × pm_H) ⊕ (Nat × Nat × Nat × pm_H) ⊕ (Nat × Nat × Nat × pm_H) ⊕ (Nat × Nat × Nat × pm_H) ⊕ (Nat × Nat × Nat × pm_H) ⊕ (Nat × Nat × Nat × pm_H) ⊕ (Nat × Nat × Nat × pm_H) ⊕ (Nat × Nat × Nat × pm_H) ⊕ (Nat × Nat × Nat × pm_H) ⊕ (Nat × Nat × Nat × pm_H) ⊕ (Nat × Nat × Nat × pm_H) ⊕ (Nat × Nat × Nat × pm_H) ⊕ (Nat × Nat × Nat × pm_H) ⊕ (Nat × Nat × Nat × pm_H) ⊕ (Nat × Nat × Nat × pm_H) ⊕ (Nat × Nat × Nat × pm_H) ⊕ (Nat × Nat × Nat × pm_H) ⊕ (Nat × Nat × Nat × pm_H) ⊕ (Nat × Nat × Nat × pm_H) ⊕ (Nat × Nat × Nat × pm_H) ⊕ (Nat × Nat × Nat × pm_H) ⊕ (Nat × Int32 × pm_H)) ⊕ pm_H) := if pm_kd h s1 = 16 then some (.inl (.inr (.inr (.inr (.inr (.inr (.inr (.inr (.inr (.inr (.inr (.inr (.inr (.inr (.inr (.inr (.inr (.inr (.inr (.inr (.inr (.inr (.inr (.inr (.inr (.inr (.inr (.inr (.inr (.inr (.inr (.inr (.inr (.inr (.inr (.inr (.inr (.inr (.inr (.inr (.inr (.inr (.inr (.inr (.inr (.inr (.inr (.inr (.inr (.inr (.inr (.inl ((x0, pm_sz (pm_setR h s1 89 (some s0)), x0, pm_new (pm_setR h s1 89 (some s0)) 34 200)))))))))))))))))))))))))))))))))))))))))))))))))))))) else none
def tX16_init_459 (x0 : Nat) (s0 : Nat) (s1 : Nat) (h : pm_H) : Option (((Nat × pm_H) ⊕ (Nat × Nat × Nat × pm_H) ⊕ (Nat × Nat × Nat × pm_H) ⊕ (Nat × Nat × Nat × pm_H) ⊕ (Nat × Nat × Nat × pm_H) ⊕ (Nat × Nat × Nat × pm_H) ⊕ (Nat × Nat × Nat × pm_H) ⊕ (Nat × Nat × Nat × pm_H) ⊕ (Nat × Nat × Nat × pm_H) ⊕ (Nat × Nat × Nat × pm_H) ⊕ (Nat × Nat × Nat × pm_H) ⊕ (Nat × Nat × Nat × pm_H) ⊕ (Nat × Nat × Nat × pm_H) ⊕ (Nat × Nat × Nat × pm_H) ⊕ (Nat × Nat × Nat × pm_H) ⊕ (Nat × Nat × Nat × pm_H) ⊕ (Nat × Nat × Nat × pm_H) ⊕ (Nat × Nat × Nat × pm_H) ⊕ (Nat × Nat × Nat × pm_H) ⊕ (Nat × Nat × Nat × pm_H) ⊕ (Nat × Nat × Nat × pm_H) ⊕ (Nat × Nat × Nat × pm_H) ⊕ (Nat × Nat × Nat × pm_H) ⊕ (Nat × Nat × Nat × pm_H) ⊕ (Nat × Nat × Nat × pm_H) ⊕ (Nat × Nat × Nat × pm_H) ⊕ (Nat × Nat × Nat × pm_H) ⊕ (Nat × Nat × Nat × pm_H) ⊕ (Nat × Nat × Nat × pm_H) ⊕ (Nat × Nat × Nat × pm_H) ⊕ (Nat × Nat × Nat × pm_H) ⊕ (Nat × Nat × Nat × pm_H) ⊕ (Nat × Nat × Nat × pm_H) ⊕ (Nat × Nat × Nat × pm_H) ⊕ (Nat × Nat × Nat × pm_H) ⊕ (Nat × Nat × Nat × pm_H) ⊕ (Nat × Nat × Nat × pm_H) ⊕ (Nat × Nat × Nat × pm_H) ⊕ (Nat × Nat × Nat × pm_H) ⊕ (Nat × Nat × Nat × pm_H) ⊕ (Nat × Nat × Nat × pm_H) ⊕ (Nat × Nat × Nat × pm_H) ⊕ (Nat × Nat × Nat × pm_H) ⊕ (Nat × Nat × Nat × pm_H) ⊕ (Nat × Nat × Nat × pm_H) ⊕ (Nat × Nat × Nat × pm_H) ⊕ (Nat × Nat × Nat × pm_H) ⊕ (Nat × Nat × Nat × pm_H) ⊕ (Nat × Nat × Nat × pm_H) ⊕ (Nat × Nat × Nat × pm_H) ⊕ (Nat × Nat × Nat × pm_H) ⊕ (Nat × Nat × Nat × pm_H) ⊕ (Nat × Nat × Nat × pm_H) ⊕ (Nat × Nat × Nat × pm_H) ⊕ (Nat × Nat × Nat × pm_H) ⊕ (Nat × Nat × Nat × pm_H) ⊕ (Nat × Nat × Nat × pm_H) ⊕ (Nat × Int32 × pm_H)) ⊕ pm_H) := if pm_kd h s1 = 16 then some (.inl (.inr (.inr (.inr (.inr (.inr (.inr (.inr (.inr (.inr (.inr (.inr (.inr (.inr (.inr (.inr (.inr (.inr (.inr (.inr (.inr (.inr (.inr (.inr (.inr (.inr (.inr (.inr (.inr (.inr (.inr (.inr (.inr (.inr (.inr (.inr (.inr (.inr (.inr (.inr (.inr (.inr (.inr (.inr (.inr (.inr (.inr (.inr (.inr (.inr (.inr (.inr (.inl ((x0, pm_sz (pm_setR h s1 90 (some s0)), x0, pm_new (pm_setR h s1 90 (some s0)) 34 200))))))))))))))))))))))))))))))))))))))))))))))))))))))) else none
def tX16_init_468 (x0 : Nat) (s0 : Nat) (s1 : Nat) (h : pm_H) : Option (((Nat × pm_H) ⊕ (Nat × Nat × Nat × pm_H) ⊕ (Nat × Nat × Nat × pm_H) ⊕ (Nat × Nat × Nat × pm_H) ⊕ (Nat × Nat × Nat × pm_H) ⊕ (Nat × Nat × Nat × pm_H) ⊕ (Nat × Nat × Nat × pm_H) ⊕ (Nat × Nat × Nat × pm_H) ⊕ (Nat × Nat × Nat × pm_H) ⊕ (Nat × Nat × Nat × pm_H) ⊕ (Nat × Nat × Nat × pm_H) ⊕ (Nat × Nat × Nat × pm_H) ⊕ (Nat × Nat × Nat × pm_H) ⊕ (Nat × Nat × Nat × pm_H) ⊕ (Nat × Nat × Nat × pm_H) ⊕ (Nat × Nat × Nat × pm_H) ⊕ (Nat × Nat × Nat × pm_H) ⊕ (Nat × Nat × Nat × pm_H) ⊕ (Nat × Nat × Nat × pm_H) ⊕ (Nat × Nat × Nat × pm_H) ⊕ (Nat × Nat × Nat × pm_H) ⊕ (Nat × Nat × Nat × pm_H) ⊕ (Nat × Nat × Nat × pm_H) ⊕ (Nat × Nat × Nat × pm_H) ⊕ (Nat × Nat × Nat × pm_H) ⊕ (Nat × Nat × Nat × pm_H) ⊕ (Nat × Nat × Nat × pm_H) ⊕ (Nat × Nat × Nat × pm_H) ⊕ (Nat × Nat × Nat × pm_H) ⊕ (Nat × Nat × Nat × pm_H) ⊕ (Nat × Nat × Nat × pm_H) ⊕ (Nat × Nat × Nat × pm_H) ⊕ (Nat × Nat × Nat × pm_H) ⊕ (Nat × Nat × Nat × pm_H) ⊕ (Nat × Nat × Nat × pm_H) ⊕ (Nat × Nat × Nat × pm_H) ⊕ (Nat × Nat × Nat × pm_H) ⊕ (Nat × Nat × Nat × pm_H) ⊕ (Nat × Nat × Nat × pm_H) ⊕ (Nat × Nat × Nat × pm_H) ⊕ (Nat × Nat × Nat × pm_H) ⊕ (Nat × Nat × Nat × pm_H) ⊕ (Nat × Nat × Nat × pm_H) ⊕ (Nat × Nat × Nat × pm_H) ⊕ (Nat × Nat × Nat × pm_H) ⊕ (Nat × Nat × Nat × pm_H) ⊕ (Nat × Nat × Nat × pm_H) ⊕ (Nat × Nat × Nat × pm_H) ⊕ (Nat × Nat × Nat × pm_H) ⊕ (Nat × Nat × Nat × pm_H) ⊕ (Nat × Nat × Nat × pm_H) ⊕ (Nat × Nat × Nat × pm_H) ⊕ (Nat × Nat × Nat × pm_H) ⊕ (Nat × Nat × Nat × pm_H) ⊕ (Nat × Nat × Nat × pm_H) ⊕ (Nat × Nat × Nat × pm_H) ⊕ (Nat × Nat × Nat × pm_H) ⊕ (Nat × Int32 × pm_H)) ⊕ pm_H) := if pm_kd h s1 = 16 then some (.inl (.inr (.inr (.inr (.inr (.inr (.inr (.inr (.inr (.inr (.inr (.inr (.inr (.inr (.inr (.inr (.inr (.inr (.inr (.inr (.inr (.inr (.inr (.inr (.inr (.inr (.inr (.inr (.inr (.inr (.inr (.inr (.inr (.inr (.inr (.inr (.inr (.inr (.inr (.inr (.inr (.inr (.inr (.inr (.inr (.inr (.inr (.inr (.inr (.inr (.inr (.inr (.inr (.inl ((x0, pm_sz (pm_setR h s1 91 (some s0)), x0, pm_new (pm_setR h s1 91 (some s0)) 35 4096)))))))))))))))))))))))))))))))))))))))))))))))))))))))) else none
def tX16_init_477 (x0 : Nat) (s0 : Nat) (s1 : Nat) (h : pm_H) : Option (((Nat × pm_H) ⊕ (Nat × Nat × Nat × pm_H) ⊕ (Nat × Nat × Nat × pm_H) ⊕ (Nat × Nat × Nat × pm_H) ⊕ (Nat × Nat × Nat × pm_H) ⊕ (Nat × Nat × Nat × pm_H) ⊕ (Nat × Nat × Nat × pm_H) ⊕ (Nat × Nat × Nat × pm_H) ⊕ (Nat × Nat × Nat × pm_H) ⊕ (Nat × Nat × Nat × pm_H) ⊕ (Nat × Nat × Nat × pm_H) ⊕ (Nat × Nat × Nat × pm_H) ⊕ (Nat × Nat × Nat × pm_H) ⊕ (Nat × Nat × Nat × pm_H) ⊕ (Nat × Nat × Nat × pm_H) ⊕ (Nat × Nat × Nat × pm_H) ⊕ (Nat × Nat × Nat × pm_H) ⊕ (Nat × Nat × Nat × pm_H) ⊕ (Nat × Nat × Nat × pm_H) ⊕ (Nat × Nat × Nat × pm_H) ⊕ (Nat × Nat × Nat × pm_H) ⊕ (Nat × Nat × Nat × pm_H) ⊕ (Nat × Nat × Nat × pm_H) ⊕ (Nat × Nat × Nat × pm_H) ⊕ (Nat × Nat × Nat × pm_H) ⊕ (Nat × Nat × Nat × pm_H) ⊕ (Nat × Nat × Nat × pm_H) ⊕ (Nat × Nat × Nat × pm_H) ⊕ (Nat × Nat × Nat × pm_H) ⊕ (Nat × Nat × Nat × pm_H) ⊕ (Nat × Nat × Nat × pm_H) ⊕ (Nat × Nat × Nat × pm_H) ⊕ (Nat × Nat × Nat × pm_H) ⊕ (Nat × Nat × Nat × pm_H) ⊕ (Nat × Nat × Nat × pm_H) ⊕ (Nat × Nat × Nat × pm_H) ⊕ (Nat × Nat × Nat × pm_H) ⊕ (Nat × Nat × Nat × pm_H) ⊕ (Nat × Nat × Nat × pm_H) ⊕ (Nat × Nat × Nat × pm_H) ⊕ (Nat × Nat × Nat × pm_H) ⊕ (Nat × Nat × Nat × pm_H) ⊕ (Nat × Nat × Nat × pm_H) ⊕ (Nat × Nat × Nat × pm_H) ⊕ (Nat × Nat × Nat × pm_H) ⊕ (Nat × Nat × Nat × pm_H) ⊕ (Nat × Nat × Nat × pm_H) ⊕ (Nat × Nat × Nat × pm_H) ⊕ (Nat × Nat × Nat × pm_H) ⊕ (Nat × Nat × Nat × pm_H) ⊕ (Nat × Nat × Nat × pm_H) ⊕ (Nat × Nat × Nat × pm_H) ⊕ (Nat × Nat × Nat × pm_H) ⊕ (Nat × Nat × Nat × pm_H) ⊕ (Nat × Nat × Nat × pm_H) ⊕ (Nat × Nat × Nat × pm_H) ⊕ (Nat × Nat × Nat × pm_H) ⊕ (Nat × Int32 × pm_H)) ⊕ pm_H) := if pm_kd h s1 = 16 then some (.inl (.inr (.inr (.inr (.inr (.inr (.inr (.inr (.inr (.inr (.inr (.inr (.inr (.inr (.inr (.inr (.inr (.inr (.inr (.inr (.inr (.inr (.inr (.inr (.inr (.inr (.inr (.inr (.inr (.inr (.inr (.inr (.inr (.inr (.inr (.inr (.inr (.inr (.inr (.inr (.inr (.inr (.inr (.inr (.inr (.inr (.inr (.inr (.inr (.inr (.inr (.inr (.inr (.inr (.inl ((x0, pm_sz (pm_setR h s1 92 (some s0)), x0, pm_new (pm_setR h s1 92 (some s0)) 34 40000))))))))))))))))))))))))))))))))))))))))))))))))))))))))) else none
def tX16_init_485 (x0 : Nat) (s0 : Nat) (s1 : Nat) (h : pm_H) : Option (((Nat × pm_H) ⊕ (Nat × Nat × Nat × pm_H) ⊕ (Nat × Nat × Nat × pm_H) ⊕ (Nat × Nat × Nat × pm_H) ⊕ (Nat × Nat × Nat × pm_H) ⊕ (Nat × Nat × Nat × pm_H) ⊕ (Nat × Nat × Nat × pm_H) ⊕ (Nat × Nat × Nat × pm_H) ⊕ (Nat × Nat × Nat × pm_H) ⊕ (Nat × Nat × Nat × pm_H) ⊕ (Nat × Nat × Nat × pm_H) ⊕ (Nat × Nat × Nat × pm_H) ⊕ (Nat × Nat × Nat × pm_H) ⊕ (Nat × Nat × Nat × pm_H) ⊕ (Nat × Nat × Nat × pm_H) ⊕ (Nat × Nat × Nat × pm_H) ⊕ (Nat × Nat × Nat × pm_H) ⊕ (Nat × Nat × Nat × pm_H) ⊕ (Nat × Nat × Nat × pm_H) ⊕ (Nat × Nat × Nat × pm_H) ⊕ (Nat × Nat × Nat × pm_H) ⊕ (Nat × Nat × Nat × pm_H) ⊕ (Nat × Nat × Nat × pm_H) ⊕ (Nat × Nat × Nat × pm_H) ⊕ (Nat × Nat × Nat × pm_H) ⊕ (Nat × Nat × Nat × pm_H) ⊕ (Nat × Nat × Nat × pm_H) ⊕ (Nat × Nat × Nat × pm_H) ⊕ (Nat × Nat × Nat × pm_H) ⊕ (Nat × Nat × Nat × pm_H) ⊕ (Nat × Nat × Nat × pm_H) ⊕ (Nat × Nat × Nat × pm_H) ⊕ (Nat × Nat × Nat × pm_H) ⊕ (Nat × Nat × Nat × pm_H) ⊕ (Nat × Nat × Nat × pm_H) ⊕ (Nat × Nat × Nat × pm_H) ⊕ (Nat × Nat × Nat × pm_H) ⊕ (Nat × Nat × Nat × pm_H) ⊕ (Nat × Nat × Nat × pm_H) ⊕ (Nat × Nat × Nat × pm_H) ⊕ (Nat × Nat × Nat × pm_H) ⊕ (Nat × Nat × Nat × pm_H) ⊕ (Nat × Nat × Nat × pm_H) ⊕ (Nat × Nat × Nat × pm_H) ⊕ (Nat × Nat × Nat × pm_H) ⊕ (Nat × Nat × Nat × pm_H) ⊕ (Nat × Nat × Nat × pm_H) ⊕ (Nat × Nat × Nat × pm_H) ⊕ (Nat × Nat × Nat × pm_H) ⊕ (Nat × Nat × Nat × pm_H) ⊕ (Nat × Nat × Nat × pm_H) ⊕ (Nat × Nat × Nat × pm_H) ⊕ (Nat × Nat × Nat × pm_H) ⊕ (Nat × Nat × Nat × pm_H) ⊕ (Nat × Nat × Nat × pm_H) ⊕ (Nat × Nat × Nat × pm_H) ⊕ (Nat × Nat × Nat × pm_H) ⊕ (Nat × Int32 × pm_H)) ⊕ pm_H) := if pm_kd h s1 = 16 then some (.inl (.inr (.inr (.inr (.inr (.inr (.inr (.inr (.inr (.inr (.inr (.inr (.inr (.inr (.inr (.inr (.inr (.inr (.inr (.inr (.inr (.inr (.inr (.inr (.inr (.inr (.inr (.inr (.inr (.inr (.inr (.inr (.inr (.inr (.inr (.inr (.inr (.inr (.inr (.inr (.inr (.inr (.inr (.inr (.inr (.inr (.inr (.inr (.inr (.inr (.inr (.inr (.inr (.inr (.inr (.inl ((x0, pm_sz (pm_setR h s1 97 (some s0)), x0, pm_new (pm_setR h s1 97 (some s0)) 34 40000)))))))))))))))))))))))))))))))))))))))))))))))))))))))))) else none
def tX16_init_493 (x0 : Nat) (s0 : Nat) (s1 : Nat) (h : pm_H) : Option (((Nat × pm_H) ⊕ (Nat × Nat × Nat × pm_H) ⊕ (Nat × Nat × Nat × pm_H) ⊕ (Nat × Nat × Nat × pm_H) ⊕ (Nat × Nat × Nat × pm_H) ⊕ (Nat × Nat × Nat × pm_H) ⊕ (Nat × Nat × Nat × pm_H) ⊕ (Nat × Nat × Nat × pm_H) ⊕ (Nat × Nat × Nat × pm_H) ⊕ (Nat × Nat × Nat × pm_H) ⊕ (Nat × Nat × Nat × pm_H) ⊕ (Nat × Nat × Nat × pm_H) ⊕ (Nat × Nat × Nat × pm_H) ⊕ (Nat × Nat × Nat × pm_H) ⊕ (Nat × Nat × Nat × pm_H) ⊕ (Nat × Nat × Nat × pm_H) ⊕ (Nat × Nat × Nat × pm_H) ⊕ (Nat × Nat × Nat × pm_H) ⊕ (Nat × Nat × Nat × pm_H) ⊕ (Nat × Nat × Nat × pm_H) ⊕ (Nat × Nat × Nat × pm_H) ⊕ (Nat × Nat × Nat × pm_H) ⊕ (Nat × Nat × Nat × pm_H) ⊕ (Nat × Nat × Nat × pm_H) ⊕ (Nat × Nat × Nat × pm_H) ⊕ (Nat × Nat × Nat × pm_H) ⊕ (Nat × Nat × Nat × pm_H) ⊕ (Nat × Nat × Nat × pm_H) ⊕ (Nat × Nat × Nat × pm_H) ⊕ (Nat × Nat × Nat × pm_H) ⊕ (Nat × Nat × Nat × pm_H) ⊕ (Nat × Nat × Nat × pm_H) ⊕ (Nat × Nat × Nat × pm_H) ⊕ (Nat × Nat × Nat × pm_H) ⊕ (Nat × Nat × Nat × pm_H) ⊕ (Nat × Nat × Nat × pm_H) ⊕ (Nat × Nat × Nat × pm_H) ⊕ (Nat × Nat × Nat × pm_H) ⊕ (Nat × Nat × Nat × pm_H) ⊕ (Nat × Nat × Nat × pm_H) ⊕ (Nat × Nat × Nat × pm_H) ⊕ (Nat × Nat × Nat × pm_H) ⊕ (Nat × Nat × Nat × pm_H) ⊕ (Nat × Nat × Nat × pm_H) ⊕ (Nat × Nat × Nat × pm_H) ⊕ (Nat × Nat × Nat × pm_H) ⊕ (Nat × Nat × Nat × pm_H) ⊕ (Nat × Nat × Nat × pm_H) ⊕ (Nat × Nat × Nat × pm_H) ⊕ (Nat × Nat × Nat × pm_H) ⊕ (Nat × Nat × Nat × pm_H) ⊕ (Nat × Nat × Nat × pm_H) ⊕ (Nat × Nat × Nat × pm_H) ⊕ (Nat × Nat × Nat × pm_H) ⊕ (Nat × Nat × Nat × pm_H) ⊕ (Nat × Nat × Nat × pm_H) ⊕ (Nat × Nat × Nat × pm_H) ⊕ (Nat × Int32 × pm_H)) ⊕ pm_H) := if pm_kd h s1 = 16 then some (.inl (.inr (.inr (.inr (.inr (.inr (.inr (.inr (.inr (.inr (.inr (.inr (.inr (.inr (.inr (.inr (.inr (.inr (.inr (.inr (.inr (.inr (.inr (.inr (.inr (.inr (.inr (.inr (.inr (.inr (.inr (.inr (.inr (.inr (.inr (.inr (.inr (.inr (.inr (.inr (.inr (.inr (.inr (.inr (.inr (.inr (.inr (.inr (.inr (.inr (.inr (.inr (.inr (.inr (.inr (.inr (.inl ((x0, pm_sz (pm_setR h s1 98 (some s0)), x0, pm_new (pm_setR h s1 98 (some s0)) 34 40000))))))))))))))))))))))))))))))))))))))))))))))))))))))))))) else none
def tX16_init_501 (x0 : Nat) (s0 : Nat) (s1 : Nat) (h : pm_H) : Option (((Nat × pm_H) ⊕ (Nat × Nat × Nat × pm_H) ⊕ (Nat × Nat × Nat × pm_H) ⊕ (Nat × Nat × Nat × pm_H) ⊕ (Nat × Nat × Nat × pm_H) ⊕ (Nat × Nat × Nat × pm_H) ⊕ (Nat × Nat × Nat × pm_H) ⊕ (Nat × Nat × Nat × pm_H) ⊕ (Nat × Nat × Nat × pm_H) ⊕ (Nat × Nat × Nat × pm_H) ⊕ (Nat × Nat × Nat × pm_H) ⊕ (Nat × Nat × Nat × pm_H) ⊕ (Nat × Nat × Nat × pm_H) ⊕ (Nat × Nat × Nat × pm_H) ⊕ (Nat × Nat × Nat × pm_H) ⊕ (Nat × Nat × Nat × pm_H) ⊕ (Nat × Nat × Nat × pm_H) ⊕ (Nat × Nat × Nat × pm_H) ⊕ (Nat × Nat × Nat × pm_H) ⊕ (Nat × Nat × Nat × pm_H) ⊕ (Nat × Nat × Nat × pm_H) ⊕ (Nat × Nat × Nat × pm_H) ⊕ (Nat × Nat × Nat × pm_H) ⊕ (Nat × Nat × Nat × pm_H) ⊕ (Nat × Nat × Nat × pm_H) ⊕ (Nat × Nat × Nat × pm_H) ⊕ (Nat × Nat × Nat × pm_H) ⊕ (Nat × Nat × Nat × pm_H) ⊕ (Nat × Nat × Nat × pm_H) ⊕ (Nat × Nat × Nat × pm_H) ⊕ (Nat × Nat × Nat × pm_H) ⊕ (Nat × Nat × Nat × pm_H) ⊕ (Nat × Nat × Nat × pm_H) ⊕ (Nat × Nat × Nat × pm_H) ⊕ (Nat × Nat × Nat × pm_H) ⊕ (Nat × Nat × Nat × pm_H) ⊕ (Nat × Nat × Nat × pm_H) ⊕ (Nat × Nat × Nat × pm_H) ⊕ (Nat × Nat × Nat × pm_H) ⊕ (Nat × Nat × Nat × pm_H) ⊕ (Nat × Nat × Nat × pm_H) ⊕ (Nat × Nat × Nat × pm_H) ⊕ (Nat × Nat × Nat × pm_H) ⊕ (Nat × Nat × Nat × pm_H) ⊕ (Nat × Nat × Nat × pm_H) ⊕ (Nat × Nat × Nat × pm_H) ⊕ (Nat × Nat × Nat × pm_H) ⊕ (Nat × Nat × Nat × pm_H) ⊕ (Nat × Nat × Nat × pm_H) ⊕ (Nat × Nat × Nat × pm_H) ⊕ (Nat × Nat × Nat × pm_H) ⊕ (Nat × Nat × Nat × pm_H) ⊕ (Nat × Nat × Nat × pm_H) ⊕ (Nat × Nat × Nat × pm_H) ⊕ (Nat × Nat × Nat × pm_H) ⊕ (Nat × Nat × Nat × pm_H) ⊕ (Nat × Nat × Nat × pm_H) ⊕ (Nat × Int32 × pm_H)) ⊕ pm_H) := if pm_kd h s1 = 16 then some (.inl (.inr (.inr (.inr (.inr (.inr (.inr (.inr (.inr (.inr (.inr (.inr (.inr (.inr (.inr (.inr (.inr (.inr (.inr (.inr (.inr (.inr (.inr (.inr (.inr (.inr (.inr (.inr (.inr (.inr (.inr (.inr (.inr (.inr (.inr (.inr (.inr (.inr (.inr (.inr (.inr (.inr (.inr (.inr (.inr (.inr (.inr (.inr (.inr (.inr (.inr (.inr (.inr (.inr (.inr (.inr (.inr (.inl ((x0, pm_sz (pm_setR h s1 99 (some s0)), x0, pm_new (pm_setR h s1 99 (some s0)) 32 40000)))))))))))))))))))))))))))))))))))))))))))))))))))))))))))) else none
def tX16_init_509 (x0 : Nat) (s0 : Nat) (s1 : Nat) (h : pm_H) : Option (((Nat × pm_H) ⊕ (Nat × Nat × Nat × pm_H) ⊕ (Nat × Nat × Nat × pm_H) ⊕ (Nat × Nat × Nat × pm_H) ⊕ (Nat × Nat × Nat × pm_H) ⊕ (Nat × Nat × Nat × pm_H) ⊕ (Nat × Nat × Nat × pm_H) ⊕ (Nat × Nat × Nat × pm_H) ⊕ (Nat × Nat × Nat × pm_H) ⊕ (Nat × Nat × Nat × pm_H) ⊕ (Nat × Nat × Nat × pm_H) ⊕ (Nat × Nat × Nat × pm_H) ⊕ (Nat × Nat × Nat × pm_H) ⊕ (Nat × Nat × Nat × pm_H) ⊕ (Nat × Nat × Nat × pm_H) ⊕ (Nat × Nat × Nat × pm_H) ⊕ (Nat × Nat × Nat × pm_H) ⊕ (Nat × Nat × Nat × pm_H) ⊕ (Nat × Nat × Nat × pm_H) ⊕ (Nat × Nat × Nat × pm_H) ⊕ (Nat × Nat × Nat × pm_H) ⊕ (Nat × Nat × Nat × pm_H) ⊕ (Nat × Nat × Nat × pm_H) ⊕ (Nat × Nat × Nat × pm_H) ⊕ (Nat × Nat × Nat × pm_H) ⊕ (Nat × Nat × Nat × pm_H) ⊕ (Nat × Nat × Nat × pm_H) ⊕ (Nat × Nat × Nat × pm_H) ⊕ (Nat × Nat × Nat × pm_H) ⊕ (Nat × Nat × Nat × pm_H) ⊕ (Nat × Nat × Nat × pm_H) ⊕ (Nat × Nat × Nat × pm_H) ⊕ (Nat × Nat × Nat × pm_H) ⊕ (Nat × Nat × Nat × pm_H) ⊕ (Nat × Nat × Nat × pm_H) ⊕ (Nat × Nat × Nat × pm_H) ⊕ (Nat × Nat × Nat × pm_H) ⊕ (Nat × Nat × Nat × pm_H) ⊕ (Nat × Nat × Nat × pm_H) ⊕ (Nat × Nat × Nat × pm_H) ⊕ (Nat × Nat × Nat × pm_H) ⊕ (Nat × Nat × Nat × pm_H) ⊕ (Nat × Nat × Nat × pm_H) ⊕ (Nat × Nat × Nat × pm_H) ⊕ (Nat × Nat × Nat × pm_H) ⊕ (Nat × Nat × Nat × pm_H) ⊕ (Nat × Nat × Nat × pm_H) ⊕ (Nat × Nat × Nat × pm_H) ⊕ (Nat × Nat × Nat × pm_H) ⊕ (Nat × Nat × Nat × pm_H) ⊕ (Nat × Nat × Nat × pm_H) ⊕ (Nat × Nat × Nat × pm_H) ⊕ (Nat × Nat × Nat × pm_H) ⊕ (Nat × Nat × Nat × pm_H) ⊕ (Nat × Nat × Nat × pm_H) ⊕ (Nat × Nat × Nat × pm_H) ⊕ (Nat × Nat × Nat × pm_H) ⊕ (Nat × Int32 × pm_H)) ⊕ pm_H) := if pm_kd h s1 = 16 then some (.inl (.inr (.inr (.inr (.inr (.inr (.inr (.inr (.inr (.inr (.inr (.inr (.inr (.inr (.inr (.inr (.inr (.inr (.inr (.inr (.inr (.inr (.inr (.inr (.inr (.inr (.inr (.inr (.inr (.inr (.inr (.inr (.inr (.inr (.inr (.inr (.inr (.inr (.inr (.inr (.inr (.inr (.inr (.inr (.inr (.inr (.inr (.inr (.inr (.inr (.inr (.inr (.inr (.inr (.inr (.inr (.inr (.inr ((x0, 0, pm_setR h s1 100 (some s0))))))))))))))))))))))))))))))))))))))))))))))))))))))))))))) else none
def tX16_init_514 (x0 : Nat) (x1 : Int32) (h : pm_H) : Option (((Nat × pm_H) ⊕ (Nat × Nat × Nat × pm_H) ⊕ (Nat × Nat × Nat × pm_H) ⊕ (Nat × Nat × Nat × pm_H) ⊕ (Nat × Nat × Nat × pm_H) ⊕ (Nat × Nat × Nat × pm_H) ⊕ (Nat × Nat × Nat × pm_H) ⊕ (Nat × Nat × Nat × pm_H) ⊕ (Nat × Nat × Nat × pm_H) ⊕ (Nat × Nat × Nat × pm_H) ⊕ (Nat × Nat × Nat × pm_H) ⊕ (Nat × Nat × Nat × pm_H) ⊕ (Nat × Nat × Nat × pm_H) ⊕ (Nat × Nat × Nat × pm_H) ⊕ (Nat × Nat × Nat × pm_H) ⊕ (Nat × Nat × Nat × pm_H) ⊕ (Nat × Nat × Nat × pm_H) ⊕ (Nat × Nat × Nat × pm_H) ⊕ (Nat × Nat × Nat × pm_H) ⊕ (Nat × Nat × Nat × pm_H) ⊕ (Nat × Nat × Nat × pm_H) ⊕ (Nat × Nat × Nat × pm_H) ⊕ (Nat × Nat × Nat × pm_H) ⊕ (Nat × Nat × Nat × pm_H) ⊕ (Nat × Nat × Nat × pm_H) ⊕ (Nat × Nat × Nat × pm_H) ⊕ (Nat × Nat × Nat × pm_H) ⊕ (Nat × Nat × Nat × pm_H) ⊕ (Nat × Nat × Nat × pm_H) ⊕ (Nat × Nat × Nat × pm_H) ⊕ (Nat × Nat × Nat × pm_H) ⊕ (Nat × Nat × Nat × pm_H) ⊕ (Nat × Nat × Nat × pm_H) ⊕ (Nat × Nat × Nat × pm_H) ⊕ (Nat × Nat × Nat × pm_H) ⊕ (Nat × Nat × Nat × pm_H) ⊕ (Nat × Nat × Nat × pm_H) ⊕ (Nat × Nat × Nat × pm_H) ⊕ (Nat × Nat × Nat × pm_H) ⊕ (Nat × Nat × Nat × pm_H) ⊕ (Nat × Nat × Nat × pm_H) ⊕ (Nat × Nat × Nat × pm_H) ⊕ (Nat × Nat × Nat × pm_H) ⊕ (Nat × Nat × Nat × pm_H) ⊕ (Nat × Nat × Nat × pm_H) ⊕ (Nat × Nat × Nat × pm_H) ⊕ (Nat × Nat × Nat × pm_H) ⊕ (Nat × Nat × Nat × pm_H) ⊕ (Nat × Nat × Nat × pm_H) ⊕ (Nat × Nat × Nat × pm_H) ⊕ (Nat × Nat × Nat × pm_H) ⊕ (Nat × Nat × Nat × pm_H) ⊕ (Nat × Nat × Nat × pm_H) ⊕ (Nat × Nat × Nat × pm_H) ⊕ (Nat × Nat × Nat × pm_H) ⊕ (Nat × Nat × Nat × pm_H) ⊕ (Nat × Nat × Nat × pm_H) ⊕ (Nat × Int32 × pm_H)) ⊕ pm_H) := if 512 ≤ x1 then (some (.inr (h))) else (if pm_kd h x0 = 16 then (pm_R h x0 41).bind fun v66 => if pm_kd h v66 = 34 then if pm_in x1 (pm_ln h v66) then pm_let (x1 + 1) fun y70 => some (.inl (.inr (.inr (.inr (.inr (.inr (.inr (.inr (.inr (.inr (.inr (.inr (.inr (.inr (.inr (.inr (.inr (.inr (.inr (.inr (.inr (.inr (.inr (.inr (.inr (.inr (.inr (.inr (.inr (.inr (.inr (.inr (.inr (.inr (.inr (.inr (.inr (.inr (.inr (.inr (.inr (.inr (.inr (.inr (.inr (.inr (.inr (.inr (.inr (.inr (.inr (.inr (.inr (.inr (.inr (.inr (.inr (.inr ((x0, y70, pm_setI h v66 x1.toNatClampNeg (-1))))))))))))))))))))))))))))))))))))))))))))))))))))))))))))) else none else none else none)
def sX16_init : ((Nat × pm_H) ⊕ (Nat × Nat × Nat × pm_H) ⊕ (Nat × Nat × Nat × pm_H) ⊕ (Nat × Nat × Nat × pm_H) ⊕ (Nat × Nat × Nat × pm_H) ⊕ (Nat × Nat × Nat × pm_H) ⊕ (Nat × Nat × Nat × pm_H) ⊕ (Nat × Nat × Nat × pm_H) ⊕ (Nat × Nat × Nat × pm_H) ⊕ (Nat × Nat × Nat × pm_H) ⊕ (Nat × Nat × Nat × pm_H) ⊕ (Nat × Nat × Nat × pm_H) ⊕ (Nat × Nat × Nat × pm_H) ⊕ (Nat × Nat × Nat × pm_H) ⊕ (Nat × Nat × Nat × pm_H) ⊕ (Nat × Nat × Nat × pm_H) ⊕ (Nat × Nat × Nat × pm_H) ⊕ (Nat × Nat × Nat × pm_H) ⊕ (Nat × Nat × Nat × pm_H) ⊕ (Nat × Nat × Nat × pm_H) ⊕ (Nat × Nat × Nat × pm_H) ⊕ (Nat × Nat × Nat × pm_H) ⊕ (Nat × Nat × Nat × pm_H) ⊕ (Nat × Nat × Nat × pm_H) ⊕ (Nat × Nat × Nat × pm_H) ⊕ (Nat × Nat × Nat × pm_H) ⊕ (Nat × Nat × Nat × pm_H) ⊕ (Nat × Nat × Nat × pm_H) ⊕ (Nat × Nat × Nat × pm_H) ⊕ (Nat × Nat × Nat × pm_H) ⊕ (Nat × Nat × Nat × pm_H) ⊕ (Nat × Nat × Nat × pm_H) ⊕ (Nat × Nat × Nat × pm_H) ⊕ (Nat × Nat × Nat × pm_H) ⊕ (Nat × Nat × Nat × pm_H) ⊕ (Nat × Nat × Nat × pm_H) ⊕ (Nat × Nat × Nat × pm_H) ⊕ (Nat × Nat × Nat × pm_H) ⊕ (Nat × Nat × Nat × pm_H) ⊕ (Nat × Nat × Nat × pm_H) ⊕ (Nat × Nat × Nat × pm_H) ⊕ (Nat × Nat × Nat × pm_H) ⊕ (Nat × Nat × Nat × pm_H) ⊕ (Nat × Nat × Nat × pm_H) ⊕ (Nat × Nat × Nat × pm_H) ⊕ (Nat × Nat × Nat × pm_H) ⊕ (Nat × Nat × Nat × pm_H) ⊕ (Nat × Nat × Nat × pm_H) ⊕ (Nat × Nat × Nat × pm_H) ⊕ (Nat × Nat × Nat × pm_H) ⊕ (Nat × Nat × Nat × pm_H) ⊕ (Nat × Nat × Nat × pm_H) ⊕ (Nat × Nat × Nat × pm_H) ⊕ (Nat × Nat × Nat × pm_H) ⊕ (Nat × Nat × Nat × pm_H) ⊕ (Nat × Nat × Nat × pm_H) ⊕ (Nat × Nat × Nat × pm_H) ⊕ (Nat × Int32 × pm_H)) → Option (((Nat × pm_H) ⊕ (Nat × Nat × Nat × pm_H) ⊕ (Nat × Nat × Nat × pm_H) ⊕ (Nat × Nat × Nat × pm_H) ⊕ (Nat × Nat × Nat × pm_H) ⊕ (Nat × Nat × Nat × pm_H) ⊕ (Nat × Nat × Nat × pm_H) ⊕ (Nat × Nat × Nat × pm_H) ⊕ (Nat × Nat × Nat × pm_H) ⊕ (Nat × Nat × Nat × pm_H) ⊕ (Nat × Nat × Nat × pm_H) ⊕ (Nat × Nat × Nat × pm_H) ⊕ (Nat × Nat × Nat × pm_H) ⊕ (Nat × Nat × Nat × pm_H) ⊕ (Nat × Nat × Nat × pm_H) ⊕ (Nat × Nat × Nat × pm_H) ⊕ (Nat × Nat × Nat × pm_H) ⊕ (Nat × Nat × Nat × pm_H) ⊕ (Nat × Nat × Nat × pm_H) ⊕ (Nat × Nat × Nat × pm_H) ⊕ (Nat × Nat × Nat × pm_H) ⊕ (Nat × Nat × Nat × pm_H) ⊕ (Nat × Nat × Nat × pm_H) ⊕ (Nat × Nat × Nat × pm_H) ⊕ (Nat × Nat × Nat × pm_H) ⊕ (Nat × Nat × Nat × pm_H) ⊕ (Nat × Nat × Nat × pm_H) ⊕ (Nat × Nat × Nat × pm_H) ⊕ (Nat × Nat × Nat × pm_H) ⊕ (Nat × Nat × Nat × pm_H) ⊕ (Nat × Nat × Nat × pm_H) ⊕ (Nat × Nat × Nat × pm_H) ⊕ (Nat × Nat × Nat × pm_H) ⊕ (Nat × Nat × Nat × pm_H) ⊕ (Nat × Nat × Nat × pm_H) ⊕ (Nat × Nat × Nat × pm_H) ⊕ (Nat × Nat × Nat × pm_H) ⊕ (Nat × Nat × Nat × pm_H) ⊕ (Nat × Nat × Nat × pm_H) ⊕ (Nat × Nat × Nat × pm_H) ⊕ (Nat × Nat × Nat × pm_H) ⊕ (Nat × Nat × Nat × pm_H) ⊕ (Nat × Nat × Nat × pm_H) ⊕ (Nat × Nat × Nat × pm_H) ⊕ (Nat × Nat × Nat × pm_H) ⊕ (Nat × Nat × Nat × pm_H) ⊕ (Nat × Nat × Nat × pm_H) ⊕ (Nat × Nat × Nat × pm_H) ⊕ (Nat × Nat × Nat × pm_H) ⊕ (Nat × Nat × Nat × pm_H) ⊕ (Nat × Nat × Nat × pm_H) ⊕ (Nat × Nat × Nat × pm_H) ⊕ (Nat × Nat × Nat × pm_H) ⊕ (Nat × Nat × Nat × pm_H) ⊕ (Nat × Nat × Nat × pm_H) ⊕ (Nat × Nat × Nat × pm_H) ⊕ (Nat × Nat × Nat × pm_H) ⊕ (Nat × Int32 × pm_H)) ⊕ pm_H) := fun z => match z with
  | .inl (x0, h) => tX16_init_0 x0 h
  | .inr (.inl (x0, s0, s1, h)) => tX16_init_9 x0 s0 s1 h
  | .inr (.inr (.inl (x0, s0, s1, h))) => tX16_init_18 x0 s0 s1 h
  | .inr (.inr (.inr (.inl (x0, s0, s1, h)))) => tX16_init_29 x0 s0 s1 h
  | .inr (.inr (.inr (.inr (.inl (x0, s0, s1, h))))) => tX16_init_37 x0 s0 s1 h
  | .inr (.inr (.inr (.inr (.inr (.inl (x0, s0, s1, h)))))) => tX16_init_45 x0 s0 s1 h
  | .inr (.inr (.inr (.inr (.inr (.inr (.inl (x0, s0, s1, h))))))) => tX16_init_54 x0 s0 s1 h
  | .inr (.inr (.inr (.inr (.inr (.inr (.inr (.inl (x0, s0, s1, h)))))))) => tX16_init_63 x0 s0 s1 h
  | .inr (.inr (.inr (.inr (.inr (.inr (.inr (.inr (.inl (x0, s0, s1, h))))))))) => tX16_init_72 x0 s0 s1 h
  | .inr (.inr (.inr (.inr (.inr (.inr (.inr (.inr (.inr (.inl (x0, s0, s1, h)))))))))) => tX16_init_81 x0 s0 s1 h
  | .inr (.inr (.inr (.inr (.inr (.inr (.inr (.inr (.inr (.inr (.inl (x0, s0, s1, h))))))))))) => tX16_init_90 x0 s0 s1 h
  | .inr (.inr (.inr (.inr (.inr (.inr (.inr (.inr (.inr (.inr (.inr (.inl (x0, s0, s1, h)))))))))))) => tX16_init_99 x0 s0 s1 h
  | .inr (.inr (.inr (.inr (.inr (.inr (.inr (.inr (.inr (.inr (.inr (.inr (.inl (x0, s0, s1, h))))))))))))) => tX16_init_107 x0 s0 s1 h
  | .inr (.inr (.inr (.inr (.inr (.inr (.inr (.inr (.inr (.inr (.inr (.inr (.inr (.inl (x0, s0, s1, h)))))))))))))) => tX16_init_114 x0 s0 s1 h
  | .inr (.inr (.inr (.inr (.inr (.inr (.inr (.inr (.inr (.inr (.inr (.inr (.inr (.inr (.inl (x0, s0, s1, h))))))))))))))) => tX16_init_125 x0 s0 s1 h
  | .inr (.inr (.inr (.inr (.inr (.inr (.inr (.inr (.inr (.inr (.inr (.inr (.inr (.inr (.inr (.inl (x0, s0, s1, h)))))))))))))))) => tX16_init_138 x0 s0 s1 h
  | .inr (.inr (.inr (.inr (.inr (.inr (.inr (.inr (.inr (.inr (.inr (.inr (.inr (.inr (.inr (.inr (.inl (x0, s0, s1, h))))))))))))))))) => tX16_init_147 x0 s0 s1 h
  | .inr (.inr (.inr (.inr (.inr (.inr (.inr (.inr (.inr (.inr (.inr (.inr (.inr (.inr (.inr (.inr (.inr (.inl (x0, s0, s1, h)))))))))))))))))) => tX16_init_156 x0 s0 s1 h
  | .inr (.inr (.inr (.inr (.inr (.inr (.inr (.inr (.inr (.inr (.inr (.inr (.inr (.inr (.inr (.inr (.inr (.inr (.inl (x0, s0, s1, h))))))))))))))))))) => tX16_init_165 x0 s0 s1 h
  | .inr (.inr (.inr (.inr (.inr (.inr (.inr (.inr (.inr (.inr (.inr (.inr (.inr (.inr (.inr (.inr (.inr (.inr (.inr (.inl (x0, s0, s1, h)))))))))))))))))))) => tX16_init_174 x0 s0 s1 h
  | .inr (.inr (.inr (.inr (.inr (.inr (.inr (.inr (.inr (.inr (.inr (.inr (.inr (.inr (.inr (.inr (.inr (.inr (.inr (.inr (.inl (x0, s0, s1, h))))))))))))))))))))) => tX16_init_183 x0 s0 s1 h
  | .inr (.inr (.inr (.inr (.inr (.inr (.inr (.inr (.inr (.inr (.inr (.inr (.inr (.inr (.inr (.inr (.inr (.inr (.inr (.inr (.inr (.inl (x0, s0, s1, h)))))))))))))))))))))) => tX16_init_192 x0 s0 s1 h
  | .inr (.inr (.inr (.inr (.inr (.inr (.inr (.inr (.inr (.inr (.inr (.inr (.inr (.inr (.inr (.inr (.inr (.inr (.inr (.inr (.inr (.inr (.inl (x0, s0, s1, h))))))))))))))))))))))) => tX16_init_207 x0 s0 s1 h
  | .inr (.inr (.inr (.inr (.inr (.inr (.inr (.inr (.inr (.inr (.inr (.inr (.inr (.inr (.inr (.inr (.inr (.inr (.inr (.inr (.inr (.inr (.inr (.inl (x0, s0, s1, h)))))))))))))))))))))))) => tX16_init_215 x0 s0 s1 h
  | .inr (.inr (.inr (.inr (.inr (.inr (.inr (.inr (.inr (.inr (.inr (.inr (.inr (.inr (.inr (.inr (.inr (.inr (.inr (.inr (.inr (.inr (.inr (.inr (.inl (x0, s0, s1, h))))))))))))))))))))))))) => tX16_init_223 x0 s0 s1 h
  | .inr (.inr (.inr (.inr (.inr (.inr (.inr (.inr (.inr (.inr (.inr (.inr (.inr (.inr (.inr (.inr (.inr (.inr (.inr (.inr (.inr (.inr (.inr (.inr (.inr (.inl (x0, s0, s1, h)))))))))))))))))))))))))) => tX16_init_231 x0 s0 s1 h
  | .inr (.inr (.inr (.inr (.inr (.inr (.inr (.inr (.inr (.inr (.inr (.inr (.inr (.inr (.inr (.inr (.inr (.inr (.inr (.inr (.inr (.inr (.inr (.inr (.inr (.inr (.inl (x0, s0, s1, h))))))))))))))))))))))))))) => tX16_init_245 x0 s0 s1 h
  | .inr (.inr (.inr (.inr (.inr (.inr (.inr (.inr (.inr (.inr (.inr (.inr (.inr (.inr (.inr (.inr (.inr (.inr (.inr (.inr (.inr (.inr (.inr (.inr (.inr (.inr (.inr (.inl (x0, s0, s1, h)))))))))))))))))))))))))))) => tX16_init_253 x0 s0 s1 h
  | .inr (.inr (.inr (.inr (.inr (.inr (.inr (.inr (.inr (.inr (.inr (.inr (.inr (.inr (.inr (.inr (.inr (.inr (.inr (.inr (.inr (.inr (.inr (.inr (.inr (.inr (.inr (.inr (.inl (x0, s0, s1, h))))))))))))))))))))))))))))) => tX16_init_262 x0 s0 s1 h
  | .inr (.inr (.inr (.inr (.inr (.inr (.inr (.inr (.inr (.inr (.inr (.inr (.inr (.inr (.inr (.inr (.inr (.inr (.inr (.inr (.inr (.inr (.inr (.inr (.inr (.inr (.inr (.inr (.inr (.inl (x0, s0, s1, h)))))))))))))))))))))))))))))) => tX16_init_270 x0 s0 s1 h
  | .inr (.inr (.inr (.inr (.inr (.inr (.inr (.inr (.inr (.inr (.inr (.inr (.inr (.inr (.inr (.inr (.inr (.inr (.inr (.inr (.inr (.inr (.inr (.inr (.inr (.inr (.inr (.inr (.inr (.inr (.inl (x0, s0, s1, h))))))))))))))))))))))))))))))) => tX16_init_279 x0 s0 s1 h
  | .inr (.inr (.inr (.inr (.inr (.inr (.inr (.inr (.inr (.inr (.inr (.inr (.inr (.inr (.inr (.inr (.inr (.inr (.inr (.inr (.inr (.inr (.inr (.inr (.inr (.inr (.inr (.inr (.inr (.inr (.inr (.inl (x0, s0, s1, h)))))))))))))))))))))))))))))))) => tX16_init_288 x0 s0 s1 h
  | .inr (.inr (.inr (.inr (.inr (.inr (.inr (.inr (.inr (.inr (.inr (.inr (.inr (.inr (.inr (.inr (.inr (.inr (.inr (.inr (.inr (.inr (.inr (.inr (.inr (.inr (.inr (.inr (.inr (.inr (.inr (.inr (.inl (x0, s0, s1, h))))))))))))))))))))))))))))))))) => tX16_init_297 x0 s0 s1 h
  | .inr (.inr (.inr (.inr (.inr (.inr (.inr (.inr (.inr (.inr (.inr (.inr (.inr (.inr (.inr (.inr (.inr (.inr (.inr (.inr (.inr (.inr (.inr (.inr (.inr (.inr (.inr (.inr (.inr (.inr (.inr (.inr (.inr (.inl (x0, s0, s1, h)))))))))))))))))))))))))))))))))) => tX16_init_305 x0 s0 s1 h
  | .inr (.inr (.inr (.inr (.inr (.inr (.inr (.inr (.inr (.inr (.inr (.inr (.inr (.inr (.inr (.inr (.inr (.inr (.inr (.inr (.inr (.inr (.inr (.inr (.inr (.inr (.inr (.inr (.inr (.inr (.inr (.inr (.inr (.inr (.inl (x0, s0, s1, h))))))))))))))))))))))))))))))))))) => tX16_init_314 x0 s0 s1 h
  | .inr (.inr (.inr (.inr (.inr (.inr (.inr (.inr (.inr (.inr (.inr (.inr (.inr (.inr (.inr (.inr (.inr (.inr (.inr (.inr (.inr (.inr (.inr (.inr (.inr (.inr (.inr (.inr (.inr (.inr (.inr (.inr (.inr (.inr (.inr (.inl (x0, s0, s1, h)))))))))))))))))))))))))))))))))))) => tX16_init_323 x0 s0 s1 h
  | .inr (.inr (.inr (.inr (.inr (.inr (.inr (.inr (.inr (.inr (.inr (.inr (.inr (.inr (.inr (.inr (.inr (.inr (.inr (.inr (.inr (.inr (.inr (.inr (.inr (.inr (.inr (.inr (.inr (.inr (.inr (.inr (.inr (.inr (.inr (.inr (.inl (x0, s0, s1, h))))))))))))))))))))))))))))))))))))) => tX16_init_332 x0 s0 s1 h
  | .inr (.inr (.inr (.inr (.inr (.inr (.inr (.inr (.inr (.inr (.inr (.inr (.inr (.inr (.inr (.inr (.inr (.inr (.inr (.inr (.inr (.inr (.inr (.inr (.inr (.inr (.inr (.inr (.inr (.inr (.inr (.inr (.inr (.inr (.inr (.inr (.inr (.inl (x0, s0, s1, h)))))))))))))))))))))))))))))))))))))) => tX16_init_341 x0 s0 s1 h
  | .inr (.inr (.inr (.inr (.inr (.inr (.inr (.inr (.inr (.inr (.inr (.inr (.inr (.inr (.inr (.inr (.inr (.inr (.inr (.inr (.inr (.inr (.inr (.inr (.inr (.inr (.inr (.inr (.inr (.inr (.inr (.inr (.inr (.inr (.inr (.inr (.inr (.inr (.inl (x0, s0, s1, h))))))))))))))))))))))))))))))))))))))) => tX16_init_350 x0 s0 s1 h
  | .inr (.inr (.inr (.inr (.inr (.inr (.inr (.inr (.inr (.inr (.inr (.inr (.inr (.inr (.inr (.inr (.inr (.inr (.inr (.inr (.inr (.inr (.inr (.inr (.inr (.inr (.inr (.inr (.inr (.inr (.inr (.inr (.inr (.inr (.inr (.inr (.inr (.inr (.inr (.inl (x0, s0, s1, h)))))))))))))))))))))))))))))))))))))))) => tX16_init_359 x0 s0 s1 h
  | .inr (.inr (.inr (.inr (.inr (.inr (.inr (.inr (.inr (.inr (.inr (.inr (.inr (.inr (.inr (.inr (.inr (.inr (.inr (.inr (.inr (.inr (.inr (.inr (.inr (.inr (.inr (.inr (.inr (.inr (.inr (.inr (.inr (.inr (.inr (.inr (.inr (.inr (.inr (.inr (.inl (x0, s0, s1, h))))))))))))))))))))))))))))))))))))))))) => tX16_init_368 x0 s0 s1 h
  | .inr (.inr (.inr (.inr (.inr (.inr (.inr (.inr (.inr (.inr (.inr (.inr (.inr (.inr (.inr (.inr (.inr (.inr (.inr (.inr (.inr (.inr (.inr (.inr (.inr (.inr (.inr (.inr (.inr (.inr (.inr (.inr (.inr (.inr (.inr (.inr (.inr (.inr (.inr (.inr (.inr (.inl (x0, s0, s1, h)))))))))))))))))))))))))))))))))))))))))) => tX16_init_377 x0 s0 s1 h
  | .inr (.inr (.inr (.inr (.inr (.inr (.inr (.inr (.inr (.inr (.inr (.inr (.inr (.inr (.inr (.inr (.inr (.inr (.inr (.inr (.inr (.inr (.inr (.inr (.inr (.inr (.inr (.inr (.inr (.inr (.inr (.inr (.inr (.inr (.inr (.inr (.inr (.inr (.inr (.inr (.inr (.inr (.inl (x0, s0, s1, h))))))))))))))))))))))))))))))))))))))))))) => tX16_init_385 x0 s0 s1 h
  | .inr (.inr (.inr (.inr (.inr (.inr (.inr (.inr (.inr (.inr (.inr (.inr (.inr (.inr (.inr (.inr (.inr (.inr (.inr (.inr (.inr (.inr (.inr (.inr (.inr (.inr (.inr (.inr (.inr (.inr (.inr (.inr (.inr (.inr (.inr (.inr (.inr (.inr (.inr (.inr (.inr (.inr (.inr (.inl (x0, s0, s1, h)))))))))))))))))))))))))))))))))))))))))))) => tX16_init_393 x0 s0 s1 h
  | .inr (.inr (.inr (.inr (.inr (.inr (.inr (.inr (.inr (.inr (.inr (.inr (.inr (.inr (.inr (.inr (.inr (.inr (.inr (.inr (.inr (.inr (.inr (.inr (.inr (.inr (.inr (.inr (.inr (.inr (.inr (.inr (.inr (.inr (.inr (.inr (.inr (.inr (.inr (.inr (.inr (.inr (.inr (.inr (.inl (x0, s0, s1, h))))))))))))))))))))))))))))))))))))))))))))) => tX16_init_406 x0 s0 s1 h
  | .inr (.inr (.inr (.inr (.inr (.inr (.inr (.inr (.inr (.inr (.inr (.inr (.inr (.inr (.inr (.inr (.inr (.inr (.inr (.inr (.inr (.inr (.inr (.inr (.inr (.inr (.inr (.inr (.inr (.inr (.inr (.inr (.inr (.inr (.inr (.inr (.inr (.inr (.inr (.inr (.inr (.inr (.inr (.inr (.inr (.inl (x0, s0, s1, h)))))))))))))))))))))))))))))))))))))))))))))) => tX16_init_414 x0 s0 s1 h
  | .inr (.inr (.inr (.inr (.inr (.inr (.inr (.inr (.inr (.inr (.inr (.inr (.inr (.inr (.inr (.inr (.inr (.inr (.inr (.inr (.inr (.inr (.inr (.inr (.inr (.inr (.inr (.inr (.inr (.inr (.inr (.inr (.inr (.inr (.inr (.inr (.inr (.inr (.inr (.inr (.inr (.inr (.inr (.inr (.inr (.inr (.inl (x0, s0, s1, h))))))))))))))))))))))))))))))))))))))))))))))) => tX16_init_423 x0 s0 s1 h
  | .inr (.inr (.inr (.inr (.inr (.inr (.inr (.inr (.inr (.inr (.inr (.inr (.inr (.inr (.inr (.inr (.inr (.inr (.inr (.inr (.inr (.inr (.inr (.inr (.inr (.inr (.inr (.inr (.inr (.inr (.inr (.inr (.inr (.inr (.inr (.inr (.inr (.inr (.inr (.inr (.inr (.inr (.inr (.inr (.inr (.inr (.inr (.inl (x0, s0, s1, h)))))))))))))))))))))))))))))))))))))))))))))))) => tX16_init_432 x0 s0 s1 h
  | .inr (.inr (.inr (.inr (.inr (.inr (.inr (.inr (.inr (.inr (.inr (.inr (.inr (.inr (.inr (.inr (.inr (.inr (.inr (.inr (.inr (.inr (.inr (.inr (.inr (.inr (.inr (.inr (.inr (.inr (.inr (.inr (.inr (.inr (.inr (.inr (.inr (.inr (.inr (.inr (.inr (.inr (.inr (.inr (.inr (.inr (.inr (.inr (.inl (x0, s0, s1, h))))))))))))))))))))))))))))))))))))))))))))))))) => tX16_init_441 x0 s0 s1 h
  | .inr (.inr (.inr (.inr (.inr (.inr (.inr (.inr (.inr (.inr (.inr (.inr (.inr (.inr (.inr (.inr (.inr (.inr (.inr (.inr (.inr (.inr (.inr (.inr (.inr (.inr (.inr (.inr (.inr (.inr (.inr (.inr (.inr (.inr (.inr (.inr (.inr (.inr (.inr (.inr (.inr (.inr (.inr (.inr (.inr (.inr (.inr (.inr (.inr (.inl (x0, s0, s1, h)))))))))))))))))))))))))))))))))))))))))))))))))) => tX16_init_450 x0 s0 s1 h
  | .inr (.inr (.inr (.inr (.inr (.inr (.inr (.inr (.inr (.inr (.inr (.inr (.inr (.inr (.inr (.inr (.inr (.inr (.inr (.inr (.inr (.inr (.inr (.inr (.inr (.inr (.inr (.inr (.inr (.inr (.inr (.inr (.inr (.inr (.inr (.inr (.inr (.inr (.inr (.inr (.inr (.inr (.inr (.inr (.inr (.inr (.inr (.inr (.inr (.inr (.inl (x0, s0, s1, h))))))))))))))))))))))))))))))))))))))))))))))))))) => tX16_init_459 x0 s0 s1 h
  | .inr (.inr (.inr (.inr (.inr (.inr (.inr (.inr (.inr (.inr (.inr (.inr (.inr (.inr (.inr (.inr (.inr (.inr (.inr (.inr (.inr (.inr (.inr (.inr (.inr (.inr (.inr (.inr (.inr (.inr (.inr (.inr (.inr (.inr (.inr (.inr (.inr (.inr (.inr (.inr (.inr (.inr (.inr (.inr (.inr (.inr (.inr (.inr (.inr (.inr (.inr (.inl (x0, s0, s1, h)))))))))))))))))))))))))))))))))))))))))))))))))))) => tX16_init_468 x0 s0 s1 h
  | .inr (.inr (.inr (.inr (.inr (.inr (.inr (.inr (.inr (.inr (.inr (.inr (.inr (.inr (.inr (.inr (.inr (.inr (.inr (.inr (.inr (.inr (.inr (.inr (.inr (.inr (.inr (.inr (.inr (.inr (.inr (.inr (.inr (.inr (.inr (.inr (.inr (.inr (.inr (.inr (.inr (.inr (.inr (.inr (.inr (.inr (.inr (.inr (.inr (.inr (.inr (.inr (.inl (x0, s0, s1, h))))))))))))))))))))))))))))))))))))))))))))))))))))) => tX16_init_477 x0 s0 s1 h
  | .inr (.inr (.inr (.inr (.inr (.inr (.inr (.inr (.inr (.inr (.inr (.inr (.inr (.inr (.inr (.inr (.inr (.inr (.inr (.inr (.inr (.inr (.inr (.inr (.inr (.inr (.inr (.inr (.inr (.inr (.inr (.inr (.inr (.inr (.inr (.inr (.inr (.inr (.inr (.inr (.inr (.inr (.inr (.inr (.inr (.inr (.inr (.inr (.inr (.inr (.inr (.inr (.inr (.inl (x0, s0, s1, h)))))))))))))))))))))))))))))))))))))))))))))))))))))) => tX16_init_485 x0 s0 s1 h
  | .inr (.inr (.inr (.inr (.inr (.inr (.inr (.inr (.inr (.inr (.inr (.inr (.inr (.inr (.inr (.inr (.inr (.inr (.inr (.inr (.inr (.inr (.inr (.inr (.inr (.inr (.inr (.inr (.inr (.inr (.inr (.inr (.inr (.inr (.inr (.inr (.inr (.inr (.inr (.inr (.inr (.inr (.inr (.inr (.inr (.inr (.inr (.inr (.inr (.inr (.inr (.inr (.inr (.inr (.inl (x0, s0, s1, h))))))))))))))))))))))))))))))))))))))))))))))))))))))) => tX16_init_493 x0 s0 s1 h
  | .inr (.inr (.inr (.inr (.inr (.inr (.inr (.inr (.inr (.inr (.inr (.inr (.inr (.inr (.inr (.inr (.inr (.inr (.inr (.inr (.inr (.inr (.inr (.inr (.inr (.inr (.inr (.inr (.inr (.inr (.inr (.inr (.inr (.inr (.inr (.inr (.inr (.inr (.inr (.inr (.inr (.inr (.inr (.inr (.inr (.inr (.inr (.inr (.inr (.inr (.inr (.inr (.inr (.inr (.inr (.inl (x0, s0, s1, h)))))))))))))))))))))))))))))))))))))))))))))))))))))))) => tX16_init_501 x0 s0 s1 h
  | .inr (.inr (.inr (.inr (.inr (.inr (.inr (.inr (.inr (.inr (.inr (.inr (.inr (.inr (.inr (.inr (.inr (.inr (.inr (.inr (.inr (.inr (.inr (.inr (.inr (.inr (.inr (.inr (.inr (.inr (.inr (.inr (.inr (.inr (.inr (.inr (.inr (.inr (.inr (.inr (.inr (.inr (.inr (.inr (.inr (.inr (.inr (.inr (.inr (.inr (.inr (.inr (.inr (.inr (.inr (.inr (.inl (x0, s0, s1, h))))))))))))))))))))))))))))))))))))))))))))))))))))))))) => tX16_init_509 x0 s0 s1 h
  | .inr (.inr (.inr (.inr (.inr (.inr (.inr (.inr (.inr (.inr (.inr (.inr (.inr (.inr (.inr (.inr (.inr (.inr (.inr (.inr (.inr (.inr (.inr (.inr (.inr (.inr (.inr (.inr (.inr (.inr (.inr (.inr (.inr (.inr (.inr (.inr (.inr (.inr (.inr (.inr (.inr (.inr (.inr (.inr (.inr (.inr (.inr (.inr (.inr (.inr (.inr (.inr (.inr (.inr (.inr (.inr (.inr (x0, x1, h))))))))))))))))))))))))))))))))))))))))))))))))))))))))) => tX16_init_514 x0 x1 h
noncomputable def fX16_init (h : pm_H) (a0 : Nat) : Option pm_H := pm_lim sX16_init (.inl ((a0, h)))
set_option maxHeartbeats 4000000 in
set_option maxRecDepth 100000 in
theorem mlX16_init {r : pm_H} : ∀ n : Nat, (∀ (x0 : Nat) (h : pm_H), pm_iter sX16_init n (.inl (x0, h)) = some r → pm_Le h r) ∧ (∀ (x0 : Nat) (s0 : Nat) (s1 : Nat) (h : pm_H), pm_iter sX16_init n (.inr (.inl (x0, s0, s1, h))) = some r → pm_Le h r) ∧ (∀ (x0 : Nat) (s0 : Nat) (s1 : Nat) (h : pm_H), pm_iter sX16_init n (.inr (.inr (.inl (x0, s0, s1, h)))) = some r → pm_Le h r) ∧ (∀ (x0 : Nat) (s0 : Nat) (s1 : Nat) (h : pm_H), pm_iter sX16_init n (.inr (.inr (.inr (.inl (x0, s0, s1, h))))) = some r → pm_Le h r) ∧ (∀ (x0 : Nat) (s0 : Nat) (s1 : Nat) (h : pm_H), pm_iter sX16_init n (.inr (.inr (.inr (.inr (.inl (x0, s0, s1, h)))))) = some r → pm_Le h r) ∧ (∀ (x0 : Nat) (s0 : Nat) (s1 : Nat) (h : pm_H), pm_iter sX16_init n (.inr (.inr (.inr (.inr (.inr (.inl (x0, s0, s1, h))))))) = some r → pm_Le h r) ∧ (∀ (x0 : Nat) (s0 : Nat) (s1 : Nat) (h : pm_H), pm_iter sX16_init n (.inr (.inr (.inr (.inr (.inr (.inr (.inl (x0, s0, s1, h)))))))) = some r → pm_Le h r) ∧ (∀ (x0 : Nat) (s0 : Nat) (s1 : Nat) (h : pm_H), pm_iter sX16_init n (.inr (.inr (.inr (.inr (.inr (.inr (.inr (.inl (x0, s0, s1, h))))))))) = some r → pm_Le h r) ∧ (∀ (x0 : Nat) (s0 : Nat) (s1 : Nat) (h : pm_H), pm_iter sX16_init n (.inr (.inr (.inr (.inr (.inr (.inr (.inr (.inr (.inl (x0, s0, s1, h)))))))))) = some r → pm_Le h r) ∧ (∀ (x0 : Nat) (s0 : Nat) (s1 : Nat) (h : pm_H), pm_iter sX16_init n (.inr (.inr (.inr (.inr (.inr (.inr (.inr (.inr (.inr (.inl (x0, s0, s1, h))))))))))) = some r → pm_Le h r) ∧ (∀ (x0 : Nat) (s0 : Nat) (s1 : Nat) (h : pm_H), pm_iter sX16_init n (.inr (.inr (.inr (.inr (.inr (.inr (.inr (.inr (.inr (.inr (.inl (x0, s0, s1, h)))))))))))) = some r → pm_Le h r) ∧ (∀ (x0 : Nat) (s0 : Nat) (s1 : Nat) (h : pm_H), pm_iter sX16_init n (.inr (.inr (.inr (.inr (.inr (.inr (.inr (.inr (.inr (.inr (.inr (.inl (x0, s0, s1, h))))))))))))) = some r → pm_Le h r) ∧ (∀ (x0 : Nat) (s0 : Nat) (s1 : Nat) (h : pm_H), pm_iter sX16_init n (.inr (.inr (.inr (.inr (.inr (.inr (.inr (.inr (.inr (.inr (.inr (.inr (.inl (x0, s0, s1, h)))))))))))))) = some r → pm_Le h r) ∧ (∀ (x0 : Nat) (s0 : Nat) (s1 : Nat) (h : pm_H), pm_iter sX16_init n (.inr (.inr (.inr (.inr (.inr (.inr (.inr (.inr (.inr (.inr (.inr (.inr (.inr (.inl (x0, s0, s1, h))))))))))))))) = some r → pm_Le h r) ∧ (∀ (x0 : Nat) (s0 : Nat) (s1 : Nat) (h : pm_H), pm_iter sX16_init n (.inr (.inr (.inr (.inr (.inr (.inr (.inr (.inr (.inr (.inr (.inr (.inr (.inr (.inr (.inl (x0, s0, s1, h)))))))))))))))) = some r → pm_Le h r) ∧ (∀ (x0 : Nat) (s0 : Nat) (s1 : Nat) (h : pm_H), pm_iter sX16_init n (.inr (.inr (.inr (.inr (.inr (.inr (.inr (.inr (.inr (.inr (.inr (.inr (.inr (.inr (.inr (.inl (x0, s0, s1, h))))))))))))))))) = some r → pm_Le h r) ∧ (∀ (x0 : Nat) (s0 : Nat) (s1 : Nat) (h : pm_H), pm_iter sX16_init n (.inr (.inr (.inr (.inr (.inr (.inr (.inr (.inr (.inr (.inr (.inr (.inr (.inr (.inr (.inr (.inr (.inl (x0, s0, s1, h)))))))))))))))))) = some r → pm_Le h r) ∧ (∀ (x0 : Nat) (s0 : Nat) (s1 : Nat) (h : pm_H), pm_iter sX16_init n (.inr (.inr (.inr (.inr (.inr (.inr (.inr (.inr (.inr (.inr (.inr (.inr (.inr (.inr (.inr (.inr (.inr (.inl (x0, s0, s1, h))))))))))))))))))) = some r → pm_Le h r) ∧ (∀ (x0 : Nat) (s0 : Nat) (s1 : Nat) (h : pm_H), pm_iter sX16_init n (.inr (.inr (.inr (.inr (.inr (.inr (.inr (.inr (.inr (.inr (.inr (.inr (.inr (.inr (.inr (.inr (.inr (.inr (.inl (x0, s0, s1, h)))))))))))))))))))) = some r → pm_Le h r) ∧ (∀ (x0 : Nat) (s0 : Nat) (s1 : Nat) (h : pm_H), pm_iter sX16_init n (.inr (.inr (.inr (.inr (.inr (.inr (.inr (.inr (.inr (.inr (.inr (.inr (.inr (.inr (.inr (.inr (.inr (.inr (.inr (.inl (x0, s0, s1, h))))))))))))))))))))) = some r → pm_Le h r) ∧ (∀ (x0 : Nat) (s0 : Nat) (s1 : Nat) (h : pm_H), pm_iter sX16_init n (.inr (.inr (.inr (.inr (.inr (.inr (.inr (.inr (.inr (.inr (.inr (.inr (.inr (.inr (.inr (.inr (.inr (.inr (.inr (.inr (.inl (x0, s0, s1, h)))))))))))))))))))))) = some r → pm_Le h r) ∧ (∀ (x0 : Nat) (s0 : Nat) (s1 : Nat) (h : pm_H), pm_iter sX16_init n (.inr (.inr (.inr (.inr (.inr (.inr (.inr (.inr (.inr (.inr (.inr (.inr (.inr (.inr (.inr (.inr (.inr (.inr (.inr (.inr (.inr (.inl (x0, s0, s1, h))))))))))))))))))))))) = some r → pm_Le h r) ∧ (∀ (x0 : Nat) (s0 : Nat) (s1 : Nat) (h : pm_H), pm_iter sX16_init n (.inr (.inr (.inr (.inr (.inr (.inr (.inr (.inr (.inr (.inr (.inr (.inr (.inr (.inr (.inr (.inr (.inr (.inr (.inr (.inr (.inr (.inr (.inl (x0, s0, s1, h)))))))))))))))))))))))) = some r → pm_Le h r) ∧ (∀ (x0 : Nat) (s0 : Nat) (s1 : Nat) (h : pm_H), pm_iter sX16_init n (.inr (.inr (.inr (.inr (.inr (.inr (.inr (.inr (.inr (.inr (.inr (.inr (.inr (.inr (.inr (.inr (.inr (.inr (.inr (.inr (.inr (.inr (.inr (.inl (x0, s0, s1, h))))))))))))))))))))))))) = some r → pm_Le h r) ∧ (∀ (x0 : Nat) (s0 : Nat) (s1 : Nat) (h : pm_H), pm_iter sX16_init n (.inr (.inr (.inr (.inr (.inr (.inr (.inr (.inr (.inr (.inr (.inr (.inr (.inr (.inr (.inr (.inr (.inr (.inr (.inr (.inr (.inr (.inr (.inr (.inr (.inl (x0, s0, s1, h)))))))))))))))))))))))))) = some r → pm_Le h r) ∧ (∀ (x0 : Nat) (s0 : Nat) (s1 : Nat) (h : pm_H), pm_iter sX16_init n (.inr (.inr (.inr (.inr (.inr (.inr (.inr (.inr (.inr (.inr (.inr (.inr (.inr (.inr (.inr (.inr (.inr (.inr (.inr (.inr (.inr (.inr (.inr (.inr (.inr (.inl (x0, s0, s1, h))))))))))))))))))))))))))) = some r → pm_Le h r) ∧ (∀ (x0 : Nat) (s0 : Nat) (s1 : Nat) (h : pm_H), pm_iter sX16_init n (.inr (.inr (.inr (.inr (.inr (.inr (.inr (.inr (.inr (.inr (.inr (.inr (.inr (.inr (.inr (.inr (.inr (.inr (.inr (.inr (.inr (.inr (.inr (.inr (.inr (.inr (.inl (x0, s0, s1, h)))))))))))))))))))))))))))) = some r → pm_Le h r) ∧ (∀ (x0 : Nat) (s0 : Nat) (s1 : Nat) (h : pm_H), pm_iter sX16_init n (.inr (.inr (.inr (.inr (.inr (.inr (.inr (.inr (.inr (.inr (.inr (.inr (.inr (.inr (.inr (.inr (.inr (.inr (.inr (.inr (.inr (.inr (.inr (.inr (.inr (.inr (.inr (.inl (x0, s0, s1, h))))))))))))))))))))))))))))) = some r → pm_Le h r) ∧ (∀ (x0 : Nat) (s0 : Nat) (s1 : Nat) (h : pm_H), pm_iter sX16_init n (.inr (.inr (.inr (.inr (.inr (.inr (.inr (.inr (.inr (.inr (.inr (.inr (.inr (.inr (.inr (.inr (.inr (.inr (.inr (.inr (.inr (.inr (.inr (.inr (.inr (.inr (.inr (.inr (.inl (x0, s0, s1, h)))))))))))))))))))))))))))))) = some r → pm_Le h r) ∧ (∀ (x0 : Nat) (s0 : Nat) (s1 : Nat) (h : pm_H), pm_iter sX16_init n (.inr (.inr (.inr (.inr (.inr (.inr (.inr (.inr (.inr (.inr (.inr (.inr (.inr (.inr (.inr (.inr (.inr (.inr (.inr (.inr (.inr (.inr (.inr (.inr (.inr (.inr (.inr (.inr (.inr (.inl (x0, s0, s1, h))))))))))))))))))))))))))))))) = some r → pm_Le h r) ∧ (∀ (x0 : Nat) (s0 : Nat) (s1 : Nat) (h : pm_H), pm_iter sX16_init n (.inr (.inr (.inr (.inr (.inr (.inr (.inr (.inr (.inr (.inr (.inr (.inr (.inr (.inr (.inr (.inr (.inr (.inr (.inr (.inr (.inr (.inr (.inr (.inr (.inr (.inr (.inr (.inr (.inr (.inr (.inl (x0, s0, s1, h)))))))))))))))))))))))))))))))) = some r → pm_Le h r) ∧ (∀ (x0 : Nat) (s0 : Nat) (s1 : Nat) (h : pm_H), pm_iter sX16_init n (.inr (.inr (.inr (.inr (.inr (.inr (.inr (.inr (.inr (.inr (.inr (.inr (.inr (.inr (.inr (.inr (.inr (.inr (.inr (.inr (.inr (.inr (.inr (.inr (.inr (.inr (.inr (.inr (.inr (.inr (.inr (.inl (x0, s0, s1, h))))))))))))))))))))))))))))))))) = some r → pm_Le h r) ∧ (∀ (x0 : Nat) (s0 : Nat) (s1 : Nat) (h : pm_H), pm_iter sX16_init n (.inr (.inr (.inr (.inr (.inr (.inr (.inr (.inr (.inr (.inr (.inr (.inr (.inr (.inr (.inr (.inr (.inr (.inr (.inr (.inr (.inr (.inr (.inr (.inr (.inr (.inr (.inr (.inr (.inr (.inr (.inr (.inr (.inl (x0, s0, s1, h)))))))))))))))))))))))))))))))))) = some r → pm_Le h r) ∧ (∀ (x0 : Nat) (s0 : Nat) (s1 : Nat) (h : pm_H), pm_iter sX16_init n (.inr (.inr (.inr (.inr (.inr (.inr (.inr (.inr (.inr (.inr (.inr (.inr (.inr (.inr (.inr (.inr (.inr (.inr (.inr (.inr (.inr (.inr (.inr (.inr (.inr (.inr (.inr (.inr (.inr (.inr (.inr (.inr (.inr (.inl (x0, s0, s1, h))))))))))))))))))))))))))))))))))) = some r → pm_Le h r) ∧ (∀ (x0 : Nat) (s0 : Nat) (s1 : Nat) (h : pm_H), pm_iter sX16_init n (.inr (.inr (.inr (.inr (.inr (.inr (.inr (.inr (.inr (.inr (.inr (.inr (.inr (.inr (.inr (.inr (.inr (.inr (.inr (.inr (.inr (.inr (.inr (.inr (.inr (.inr (.inr (.inr (.inr (.inr (.inr (.inr (.inr (.inr (.inl (x0, s0, s1, h)))))))))))))))))))))))))))))))))))) = some r → pm_Le h r) ∧ (∀ (x0 : Nat) (s0 : Nat) (s1 : Nat) (h : pm_H), pm_iter sX16_init n (.inr (.inr (.inr (.inr (.inr (.inr (.inr (.inr (.inr (.inr (.inr (.inr (.inr (.inr (.inr (.inr (.inr (.inr (.inr (.inr (.inr (.inr (.inr (.inr (.inr (.inr (.inr (.inr (.inr (.inr (.inr (.inr (.inr (.inr (.inr (.inl (x0, s0, s1, h))))))))))))))))))))))))))))))))))))) = some r → pm_Le h r) ∧ (∀ (x0 : Nat) (s0 : Nat) (s1 : Nat) (h : pm_H), pm_iter sX16_init n (.inr (.inr (.inr (.inr (.inr (.inr (.inr (.inr (.inr (.inr (.inr (.inr (.inr (.inr (.inr (.inr (.inr (.inr (.inr (.inr (.inr (.inr (.inr (.inr (.inr (.inr (.inr (.inr (.inr (.inr (.inr (.inr (.inr (.inr (.inr (.inr (.inl (x0, s0, s1, h)))))))))))))))))))))))))))))))))))))) = some r → pm_Le h r) ∧ (∀ (x0 : Nat) (s0 : Nat) (s1 : Nat) (h : pm_H), pm_iter sX16_init n (.inr (.inr (.inr (.inr (.inr (.inr (.inr (.inr (.inr (.inr (.inr (.inr (.inr (.inr (.inr (.inr (.inr (.inr (.inr (.inr (.inr (.inr (.inr (.inr (.inr (.inr (.inr (.inr (.inr (.inr (.inr (.inr (.inr (.inr (.inr (.inr (.inr (.inl (x0, s0, s1, h))))))))))))))))))))))))))))))))))))))) = some r → pm_Le h r) ∧ (∀ (x0 : Nat) (s0 : Nat) (s1 : Nat) (h : pm_H), pm_iter sX16_init n (.inr (.inr (.inr (.inr (.inr (.inr (.inr (.inr (.inr (.inr (.inr (.inr (.inr (.inr (.inr (.inr (.inr (.inr (.inr (.inr (.inr (.inr (.inr (.inr (.inr (.inr (.inr (.inr (.inr (.inr (.inr (.inr (.inr (.inr (.inr (.inr (.inr (.inr (.inl (x0, s0, s1, h)))))))))))))))))))))))))))))))))))))))) = some r → pm_Le h r) ∧ (∀ (x0 : Nat) (s0 : Nat) (s1 : Nat) (h : pm_H), pm_iter sX16_init n (.inr (.inr (.inr (.inr (.inr (.inr (.inr (.inr (.inr (.inr (.inr (.inr (.inr (.inr (.inr (.inr (.inr (.inr (.inr (.inr (.inr (.inr (.inr (.inr (.inr (.inr (.inr (.inr (.inr (.inr (.inr (.inr (.inr (.inr (.inr (.inr (.inr (.inr (.inr (.inl (x0, s0, s1, h))))))))))))))))))))))))))))))))))))))))) = some r → pm_Le h r) ∧ (∀ (x0 : Nat) (s0 : Nat) (s1 : Nat) (h : pm_H), pm_iter sX16_init n (.inr (.inr (.inr (.inr (.inr (.inr (.inr (.inr (.inr (.inr (.inr (.inr (.inr (.inr (.inr (.inr (.inr (.inr (.inr (.inr (.inr (.inr (.inr (.inr (.inr (.inr (.inr (.inr (.inr (.inr (.inr (.inr (.inr (.inr (.inr (.inr (.inr (.inr (.inr (.inr (.inl (x0, s0, s1, h)))))))))))))))))))))))))))))))))))))))))) = some r → pm_Le h r) ∧ (∀ (x0 : Nat) (s0 : Nat) (s1 : Nat) (h : pm_H), pm_iter sX16_init n (.inr (.inr (.inr (.inr (.inr (.inr (.inr (.inr (.inr (.inr (.inr (.inr (.inr (.inr (.inr (.inr (.inr (.inr (.inr (.inr (.inr (.inr (.inr (.inr (.inr (.inr (.inr (.inr (.inr (.inr (.inr (.inr (.inr (.inr (.inr (.inr (.inr (.inr (.inr (.inr (.inr (.inl (x0, s0, s1, h))))))))))))))))))))))))))))))))))))))))))) = some r → pm_Le h r) ∧ (∀ (x0 : Nat) (s0 : Nat) (s1 : Nat) (h : pm_H), pm_iter sX16_init n (.inr (.inr (.inr (.inr (.inr (.inr (.inr (.inr (.inr (.inr (.inr (.inr (.inr (.inr (.inr (.inr (.inr (.inr (.inr (.inr (.inr (.inr (.inr (.inr (.inr (.inr (.inr (.inr (.inr (.inr (.inr (.inr (.inr (.inr (.inr (.inr (.inr (.inr (.inr (.inr (.inr (.inr (.inl (x0, s0, s1, h)))))))))))))))))))))))))))))))))))))))))))) = some r → pm_Le h r) ∧ (∀ (x0 : Nat) (s0 : Nat) (s1 : Nat) (h : pm_H), pm_iter sX16_init n (.inr (.inr (.inr (.inr (.inr (.inr (.inr (.inr (.inr (.inr (.inr (.inr (.inr (.inr (.inr (.inr (.inr (.inr (.inr (.inr (.inr (.inr (.inr (.inr (.inr (.inr (.inr (.inr (.inr (.inr (.inr (.inr (.inr (.inr (.inr (.inr (.inr (.inr (.inr (.inr (.inr (.inr (.inr (.inl (x0, s0, s1, h))))))))))))))))))))))))))))))))))))))))))))) = some r → pm_Le h r) ∧ (∀ (x0 : Nat) (s0 : Nat) (s1 : Nat) (h : pm_H), pm_iter sX16_init n (.inr (.inr (.inr (.inr (.inr (.inr (.inr (.inr (.inr (.inr (.inr (.inr (.inr (.inr (.inr (.inr (.inr (.inr (.inr (.inr (.inr (.inr (.inr (.inr (.inr (.inr (.inr (.inr (.inr (.inr (.inr (.inr (.inr (.inr (.inr (.inr (.inr (.inr (.inr (.inr (.inr (.inr (.inr (.inr (.inl (x0, s0, s1, h)))))))))))))))))))))))))))))))))))))))))))))) = some r → pm_Le h r) ∧ (∀ (x0 : Nat) (s0 : Nat) (s1 : Nat) (h : pm_H), pm_iter sX16_init n (.inr (.inr (.inr (.inr (.inr (.inr (.inr (.inr (.inr (.inr (.inr (.inr (.inr (.inr (.inr (.inr (.inr (.inr (.inr (.inr (.inr (.inr (.inr (.inr (.inr (.inr (.inr (.inr (.inr (.inr (.inr (.inr (.inr (.inr (.inr (.inr (.inr (.inr (.inr (.inr (.inr (.inr (.inr (.inr (.inr (.inl (x0, s0, s1, h))))))))))))))))))))))))))))))))))))))))))))))) = some r → pm_Le h r) ∧ (∀ (x0 : Nat) (s0 : Nat) (s1 : Nat) (h : pm_H), pm_iter sX16_init n (.inr (.inr (.inr (.inr (.inr (.inr (.inr (.inr (.inr (.inr (.inr (.inr (.inr (.inr (.inr (.inr (.inr (.inr (.inr (.inr (.inr (.inr (.inr (.inr (.inr (.inr (.inr (.inr (.inr (.inr (.inr (.inr (.inr (.inr (.inr (.inr (.inr (.inr (.inr (.inr (.inr (.inr (.inr (.inr (.inr (.inr (.inl (x0, s0, s1, h)))))))))))))))))))))))))))))))))))))))))))))))) = some r → pm_Le h r) ∧ (∀ (x0 : Nat) (s0 : Nat) (s1 : Nat) (h : pm_H), pm_iter sX16_init n (.inr (.inr (.inr (.inr (.inr (.inr (.inr (.inr (.inr (.inr (.inr (.inr (.inr (.inr (.inr (.inr (.inr (.inr (.inr (.inr (.inr (.inr (.inr (.inr (.inr (.inr (.inr (.inr (.inr (.inr (.inr (.inr (.inr (.inr (.inr (.inr (.inr (.inr (.inr (.inr (.inr (.inr (.inr (.inr (.inr (.inr (.inr (.inl (x0, s0, s1, h))))))))))))))))))))))))))))))))))))))))))))))))) = some r → pm_Le h r) ∧ (∀ (x0 : Nat) (s0 : Nat) (s1 : Nat) (h : pm_H), pm_iter sX16_init n (.inr (.inr (.inr (.inr (.inr (.inr (.inr (.inr (.inr (.inr (.inr (.inr (.inr (.inr (.inr (.inr (.inr (.inr (.inr (.inr (.inr (.inr (.inr (.inr (.inr (.inr (.inr (.inr (.inr (.inr (.inr (.inr (.inr (.inr (.inr (.inr (.inr (.inr (.inr (.inr (.inr (.inr (.inr (.inr (.inr (.inr (.inr (.inr (.inl (x0, s0, s1, h)))))))))))))))))))))))))))))))))))))))))))))))))) = some r → pm_Le h r) ∧ (∀ (x0 : Nat) (s0 : Nat) (s1 : Nat) (h : pm_H), pm_iter sX16_init n (.inr (.inr (.inr (.inr (.inr (.inr (.inr (.inr (.inr (.inr (.inr (.inr (.inr (.inr (.inr (.inr (.inr (.inr (.inr (.inr (.inr (.inr (.inr (.inr (.inr (.inr (.inr (.inr (.inr (.inr (.inr (.inr (.inr (.inr (.inr (.inr (.inr (.inr (.inr (.inr (.inr (.inr (.inr (.inr (.inr (.inr (.inr (.inr (.inr (.inl (x0, s0, s1, h))))))))))))))))))))))))))))))))))))))))))))))))))) = some r → pm_Le h r) ∧ (∀ (x0 : Nat) (s0 : Nat) (s1 : Nat) (h : pm_H), pm_iter sX16_init n (.inr (.inr (.inr (.inr (.inr (.inr (.inr (.inr (.inr (.inr (.inr (.inr (.inr (.inr (.inr (.inr (.inr (.inr (.inr (.inr (.inr (.inr (.inr (.inr (.inr (.inr (.inr (.inr (.inr (.inr (.inr (.inr (.inr (.inr (.inr (.inr (.inr (.inr (.inr (.inr (.inr (.inr (.inr (.inr (.inr (.inr (.inr (.inr (.inr (.inr (.inl (x0, s0, s1, h)))))))))))))))))))))))))))))))))))))))))))))))))))) = some r → pm_Le h r) ∧ (∀ (x0 : Nat) (s0 : Nat) (s1 : Nat) (h : pm_H), pm_iter sX16_init n (.inr (.inr (.inr (.inr (.inr (.inr (.inr (.inr (.inr (.inr (.inr (.inr (.inr (.inr (.inr (.inr (.inr (.inr (.inr (.inr (.inr (.inr (.inr (.inr (.inr (.inr (.inr (.inr (.inr (.inr (.inr (.inr (.inr (.inr (.inr (.inr (.inr (.inr (.inr (.inr (.inr (.inr (.inr (.inr (.inr (.inr (.inr (.inr (.inr (.inr (.inr (.inl (x0, s0, s1, h))))))))))))))))))))))))))))))))))))))))))))))))))))) = some r → pm_Le h r) ∧ (∀ (x0 : Nat) (s0 : Nat) (s1 : Nat) (h : pm_H), pm_iter sX16_init n (.inr (.inr (.inr (.inr (.inr (.inr (.inr (.inr (.inr (.inr (.inr (.inr (.inr (.inr (.inr (.inr (.inr (.inr (.inr (.inr (.inr (.inr (.inr (.inr (.inr (.inr (.inr (.inr (.inr (.inr (.inr (.inr (.inr (.inr (.inr (.inr (.inr (.inr (.inr (.inr (.inr (.inr (.inr (.inr (.inr (.inr (.inr (.inr (.inr (.inr (.inr (.inr (.inl (x0, s0, s1, h)))))))))))))))))))))))))))))))))))))))))))))))))))))) = some r → pm_Le h r) ∧ (∀ (x0 : Nat) (s0 : Nat) (s1 : Nat) (h : pm_H), pm_iter sX16_init n (.inr (.inr (.inr (.inr (.inr (.inr (.inr (.inr (.inr (.inr (.inr (.inr (.inr (.inr (.inr (.inr (.inr (.inr (.inr (.inr (.inr (.inr (.inr (.inr (.inr (.inr (.inr (.inr (.inr (.inr (.inr (.inr (.inr (.inr (.inr (.inr (.inr (.inr (.inr (.inr (.inr (.inr (.inr (.inr (.inr (.inr (.inr (.inr (.inr (.inr (.inr (.inr (.inr (.inl (x0, s0, s1, h))))))))))))))))))))))))))))))))))))))))))))))))))))))) = some r → pm_Le h r) ∧ (∀ (x0 : Nat) (s0 : Nat) (s1 : Nat) (h : pm_H), pm_iter sX16_init n (.inr (.inr (.inr (.inr (.inr (.inr (.inr (.inr (.inr (.inr (.inr (.inr (.inr (.inr (.inr (.inr (.inr (.inr (.inr (.inr (.inr (.inr (.inr (.inr (.inr (.inr (.inr (.inr (.inr (.inr (.inr (.inr (.inr (.inr (.inr (.inr (.inr (.inr (.inr (.inr (.inr (.inr (.inr (.inr (.inr (.inr (.inr (.inr (.inr (.inr (.inr (.inr (.inr (.inr (.inl (x0, s0, s1, h)))))))))))))))))))))))))))))))))))))))))))))))))))))))) = some r → pm_Le h r) ∧ (∀ (x0 : Nat) (s0 : Nat) (s1 : Nat) (h : pm_H), pm_iter sX16_init n (.inr (.inr (.inr (.inr (.inr (.inr (.inr (.inr (.inr (.inr (.inr (.inr (.inr (.inr (.inr (.inr (.inr (.inr (.inr (.inr (.inr (.inr (.inr (.inr (.inr (.inr (.inr (.inr (.inr (.inr (.inr (.inr (.inr (.inr (.inr (.inr (.inr (.inr (.inr (.inr (.inr (.inr (.inr (.inr (.inr (.inr (.inr (.inr (.inr (.inr (.inr (.inr (.inr (.inr (.inr (.inl (x0, s0, s1, h))))))))))))))))))))))))))))))))))))))))))))))))))))))))) = some r → pm_Le h r) ∧ (∀ (x0 : Nat) (s0 : Nat) (s1 : Nat) (h : pm_H), pm_iter sX16_init n (.inr (.inr (.inr (.inr (.inr (.inr (.inr (.inr (.inr (.inr (.inr (.inr (.inr (.inr (.inr (.inr (.inr (.inr (.inr (.inr (.inr (.inr (.inr (.inr (.inr (.inr (.inr (.inr (.inr (.inr (.inr (.inr (.inr (.inr (.inr (.inr (.inr (.inr (.inr (.inr (.inr (.inr (.inr (.inr (.inr (.inr (.inr (.inr (.inr (.inr (.inr (.inr (.inr (.inr (.inr (.inr (.inl (x0, s0, s1, h)))))))))))))))))))))))))))))))))))))))))))))))))))))))))) = some r → pm_Le h r) ∧ (∀ (x0 : Nat) (x1 : Int32) (h : pm_H), pm_iter sX16_init n (.inr (.inr (.inr (.inr (.inr (.inr (.inr (.inr (.inr (.inr (.inr (.inr (.inr (.inr (.inr (.inr (.inr (.inr (.inr (.inr (.inr (.inr (.inr (.inr (.inr (.inr (.inr (.inr (.inr (.inr (.inr (.inr (.inr (.inr (.inr (.inr (.inr (.inr (.inr (.inr (.inr (.inr (.inr (.inr (.inr (.inr (.inr (.inr (.inr (.inr (.inr (.inr (.inr (.inr (.inr (.inr (.inr (x0, x1, h)))))))))))))))))))))))))))))))))))))))))))))))))))))))))) = some r → pm_Le h r) := by
  intro n
  induction n with
  | zero => exact ⟨fun _ _ hf => (by cases hf), fun _ _ _ _ hf => (by cases hf), fun _ _ _ _ hf => (by cases hf), fun _ _ _ _ hf => (by cases hf), fun _ _ _ _ hf => (by cases hf), fun _ _ _ _ hf => (by cases hf), fun _ _ _ _ hf => (by cases hf), fun _ _ _ _ hf => (by cases hf), fun _ _ _ _ hf => (by cases hf), fun _ _ _ _ hf => (by cases hf), fun _ _ _ _ hf => (by cases hf), fun _ _ _ _ hf => (by cases hf), fun _ _ _ _ hf => (by cases hf), fun _ _ _ _ hf => (by cases hf), fun _ _ _ _ hf => (by cases hf), fun _ _ _ _ hf => (by cases hf), fun _ _ _ _ hf => (by cases hf), fun _ _ _ _ hf => (by cases hf), fun _ _ _ _ hf => (by cases hf), fun _ _ _ _ hf => (by cases hf), fun _ _ _ _ hf => (by cases hf), fun _ _ _ _ hf => (by cases hf), fun _ _ _ _ hf => (by cases hf), fun _ _ _ _ hf => (by cases hf), fun _ _ _ _ hf => (by cases hf), fun _ _ _ _ hf => (by cases hf), fun _ _ _ _ hf => (by cases hf), fun _ _ _ _ hf => (by cases hf), fun _ _ _ _ hf => (by cases hf), fun _ _ _ _ hf => (by cases hf), fun _ _ _ _ hf => (by cases hf), fun _ _ _ _ hf => (by cases hf), fun _ _ _ _ hf => (by cases hf), fun _ _ _ _ hf => (by cases hf), fun _ _ _ _ hf => (by cases hf), fun _ _ _ _ hf => (by cases hf), fun _ _ _ _ hf => (by cases hf), fun _ _ _ _ hf => (by cases hf), fun _ _ _ _ hf => (by cases hf), fun _ _ _ _ hf => (by cases hf), fun _ _ _ _ hf => (by cases hf), fun _ _ _ _ hf => (by cases hf), fun _ _ _ _ hf => (by cases hf), fun _ _ _ _ hf => (by cases hf), fun _ _ _ _ hf => (by cases hf), fun _ _ _ _ hf => (by cases hf), fun _ _ _ _ hf => (by cases hf), fun _ _ _ _ hf => (by cases hf), fun _ _ _ _ hf => (by cases hf), fun _ _ _ _ hf => (by cases hf), fun _ _ _ _ hf => (by cases hf), fun _ _ _ _ hf => (by cases hf), fun _ _ _ _ hf => (by cases hf), fun _ _ _ _ hf => (by cases hf), fun _ _ _ _ hf => (by cases hf), fun _ _ _ _ hf => (by cases hf), fun _ _ _ _ hf => (by cases hf), fun _ _ _ hf => (by cases hf)⟩
  | succ n ih =>
    refine ⟨fun x0 h hf => ?_, ?_⟩
    · obtain ⟨y, hf, hi⟩ := pm_iter_s hf
      have hf : tX16_init_0 x0 h = some y := hf
      unfold tX16_init_0 at hf
      have K0 := pm_S3.rf h
      cases hf
      exact ((pm_S3.le K0).trans (pm_Le_new _ _ _)).trans (ih.2.1 x0 (pm_sz h) x0 (pm_new h 33 40980) hi)
    refine ⟨fun x0 s0 s1 h hf => ?_, ?_⟩
    · obtain ⟨y, hf, hi⟩ := pm_iter_s hf
      have hf : tX16_init_9 x0 s0 s1 h = some y := hf
      unfold tX16_init_9 at hf
      have K0 := pm_S3.rf h
      obtain ⟨k1, hf⟩ := pm_if hf
      cases hf
      exact ((pm_S3.le (pm_S3R K0)).trans (pm_Le_new _ _ _)).trans (ih.2.2.1 x0 (pm_sz (pm_setR h s1 0 (some s0))) x0 (pm_new (pm_setR h s1 0 (some s0)) 42 16) hi)
    refine ⟨fun x0 s0 s1 h hf => ?_, ?_⟩
    · obtain ⟨y, hf, hi⟩ := pm_iter_s hf
      have hf : tX16_init_18 x0 s0 s1 h = some y := hf
      unfold tX16_init_18 at hf
      have K0 := pm_S3.rf h
      obtain ⟨k2, hf⟩ := pm_if hf
      cases hf
      exact ((pm_S3.le (pm_S3R K0)).trans (pm_Le_flt _)).trans (ih.2.2.2.1 x0 (pm_sz (pm_setR h s1 4 (some s0))) x0 (pm_flt (pm_setR h s1 4 (some s0))) hi)
    refine ⟨fun x0 s0 s1 h hf => ?_, ?_⟩
    · obtain ⟨y, hf, hi⟩ := pm_iter_s hf
      have hf : tX16_init_29 x0 s0 s1 h = some y := hf
      unfold tX16_init_29 at hf
      have K0 := pm_S3.rf h
      obtain ⟨k3, hf⟩ := pm_if hf
      cases hf
      exact ((pm_S3.le (pm_S3R K0)).trans (pm_Le_new _ _ _)).trans (ih.2.2.2.2.1 x0 (pm_sz (pm_setR h s1 9 (some s0))) x0 (pm_new (pm_setR h s1 9 (some s0)) 34 40962) hi)
    refine ⟨fun x0 s0 s1 h hf => ?_, ?_⟩
    · obtain ⟨y, hf, hi⟩ := pm_iter_s hf
      have hf : tX16_init_37 x0 s0 s1 h = some y := hf
      unfold tX16_init_37 at hf
      have K0 := pm_S3.rf h
      obtain ⟨k4, hf⟩ := pm_if hf
      cases hf
      exact ((pm_S3.le (pm_S3R K0)).trans (pm_Le_new _ _ _)).trans (ih.2.2.2.2.2.1 x0 (pm_sz (pm_setR h s1 14 (some s0))) x0 (pm_new (pm_setR h s1 14 (some s0)) 34 40962) hi)
    refine ⟨fun x0 s0 s1 h hf => ?_, ?_⟩
    · obtain ⟨y, hf, hi⟩ := pm_iter_s hf
      have hf : tX16_init_45 x0 s0 s1 h = some y := hf
      unfold tX16_init_45 at hf
      have K0 := pm_S3.rf h
      obtain ⟨k5, hf⟩ := pm_if hf
      cases hf
      exact ((pm_S3.le (pm_S3R K0)).trans (pm_Le_new _ _ _)).trans (ih.2.2.2.2.2.2.1 x0 (pm_sz (pm_setR h s1 15 (some s0))) x0 (pm_new (pm_setR h s1 15 (some s0)) 32 128) hi)
    refine ⟨fun x0 s0 s1 h hf => ?_, ?_⟩
    · obtain ⟨y, hf, hi⟩ := pm_iter_s hf
      have hf : tX16_init_54 x0 s0 s1 h = some y := hf
      unfold tX16_init_54 at hf
      have K0 := pm_S3.rf h
      obtain ⟨k6, hf⟩ := pm_if hf
      cases hf
      exact ((pm_S3.le (pm_S3R K0)).trans (pm_Le_new _ _ _)).trans (ih.2.2.2.2.2.2.2.1 x0 (pm_sz (pm_setR h s1 20 (some s0))) x0 (pm_new (pm_setR h s1 20 (some s0)) 34 1001) hi)
    refine ⟨fun x0 s0 s1 h hf => ?_, ?_⟩
    · obtain ⟨y, hf, hi⟩ := pm_iter_s hf
      have hf : tX16_init_63 x0 s0 s1 h = some y := hf
      unfold tX16_init_63 at hf
      have K0 := pm_S3.rf h
      obtain ⟨k7, hf⟩ := pm_if hf
      cases hf
      exact ((pm_S3.le (pm_S3R K0)).trans (pm_Le_new _ _ _)).trans (ih.2.2.2.2.2.2.2.2.1 x0 (pm_sz (pm_setR h s1 22 (some s0))) x0 (pm_new (pm_setR h s1 22 (some s0)) 34 200) hi)
    refine ⟨fun x0 s0 s1 h hf => ?_, ?_⟩
    · obtain ⟨y, hf, hi⟩ := pm_iter_s hf
      have hf : tX16_init_72 x0 s0 s1 h = some y := hf
      unfold tX16_init_72 at hf
      have K0 := pm_S3.rf h
      obtain ⟨k8, hf⟩ := pm_if hf
      cases hf
      exact ((pm_S3.le (pm_S3R K0)).trans (pm_Le_new _ _ _)).trans (ih.2.2.2.2.2.2.2.2.2.1 x0 (pm_sz (pm_setR h s1 25 (some s0))) x0 (pm_new (pm_setR h s1 25 (some s0)) 35 200) hi)
    refine ⟨fun x0 s0 s1 h hf => ?_, ?_⟩
    · obtain ⟨y, hf, hi⟩ := pm_iter_s hf
      have hf : tX16_init_81 x0 s0 s1 h = some y := hf
      unfold tX16_init_81 at hf
      have K0 := pm_S3.rf h
      obtain ⟨k9, hf⟩ := pm_if hf
      cases hf
      exact ((pm_S3.le (pm_S3R K0)).trans (pm_Le_new _ _ _)).trans (ih.2.2.2.2.2.2.2.2.2.2.1 x0 (pm_sz (pm_setR h s1 26 (some s0))) x0 (pm_new (pm_setR h s1 26 (some s0)) 34 200) hi)
    refine ⟨fun x0 s0 s1 h hf => ?_, ?_⟩
    · obtain ⟨y, hf, hi⟩ := pm_iter_s hf
      have hf : tX16_init_90 x0 s0 s1 h = some y := hf
      unfold tX16_init_90 at hf
      have K0 := pm_S3.rf h
      obtain ⟨k10, hf⟩ := pm_if hf
      cases hf
      exact ((pm_S3.le (pm_S3R K0)).trans (pm_Le_new _ _ _)).trans (ih.2.2.2.2.2.2.2.2.2.2.2.1 x0 (pm_sz (pm_setR h s1 27 (some s0))) x0 (pm_new (pm_setR h s1 27 (some s0)) 32 200) hi)
    refine ⟨fun x0 s0 s1 h hf => ?_, ?_⟩
    · obtain ⟨y, hf, hi⟩ := pm_iter_s hf
      have hf : tX16_init_99 x0 s0 s1 h = some y := hf
      unfold tX16_init_99 at hf
      have K0 := pm_S3.rf h
      obtain ⟨k11, hf⟩ := pm_if hf
      cases hf
      exact ((pm_S3.le (pm_S3R K0)).trans (pm_Le_new _ _ _)).trans (ih.2.2.2.2.2.2.2.2.2.2.2.2.1 x0 (pm_sz (pm_setR h s1 28 (some s0))) x0 (pm_new (pm_setR h s1 28 (some s0)) 34 16) hi)
    refine ⟨fun x0 s0 s1 h hf => ?_, ?_⟩
    · obtain ⟨y, hf, hi⟩ := pm_iter_s hf
      have hf : tX16_init_107 x0 s0 s1 h = some y := hf
      unfold tX16_init_107 at hf
      have K0 := pm_S3.rf h
      obtain ⟨k12, hf⟩ := pm_if hf
      cases hf
      exact ((pm_S3.le (pm_S3R K0)).trans (pm_Le_new _ _ _)).trans (ih.2.2.2.2.2.2.2.2.2.2.2.2.2.1 x0 (pm_sz (pm_setR h s1 32 (some s0))) x0 (pm_new (pm_setR h s1 32 (some s0)) 15 0) hi)
    refine ⟨fun x0 s0 s1 h hf => ?_, ?_⟩
    · obtain ⟨y, hf, hi⟩ := pm_iter_s hf
      have hf : tX16_init_114 x0 s0 s1 h = some y := hf
      unfold tX16_init_114 at hf
      have K0 := pm_S3.rf h
      obtain ⟨v13, e14, hf⟩ := pm_lt hf
      obtain ⟨k15, hf⟩ := pm_if hf
      cases hf
      exact ((pm_S3.le (pm_S3R K0)).trans (pm_Le_new _ _ _)).trans (ih.2.2.2.2.2.2.2.2.2.2.2.2.2.2.1 x0 (pm_sz (pm_setR h s1 34 (some s0))) x0 (pm_new (pm_setR h s1 34 (some s0)) 15 0) hi)
    refine ⟨fun x0 s0 s1 h hf => ?_, ?_⟩
    · obtain ⟨y, hf, hi⟩ := pm_iter_s hf
      have hf : tX16_init_125 x0 s0 s1 h = some y := hf
      unfold tX16_init_125 at hf
      have K0 := pm_S3.rf h
      obtain ⟨v16, e17, hf⟩ := pm_lt hf
      obtain ⟨k18, hf⟩ := pm_if hf
      cases hf
      exact ((pm_S3.le (pm_S3R K0)).trans (pm_Le_new _ _ _)).trans (ih.2.2.2.2.2.2.2.2.2.2.2.2.2.2.2.1 x0 (pm_sz (pm_setR h s1 35 (some s0))) x0 (pm_new (pm_setR h s1 35 (some s0)) 34 512) hi)
    refine ⟨fun x0 s0 s1 h hf => ?_, ?_⟩
    · obtain ⟨y, hf, hi⟩ := pm_iter_s hf
      have hf : tX16_init_138 x0 s0 s1 h = some y := hf
      unfold tX16_init_138 at hf
      have K0 := pm_S3.rf h
      obtain ⟨k19, hf⟩ := pm_if hf
      cases hf
      exact ((pm_S3.le (pm_S3R K0)).trans (pm_Le_new _ _ _)).trans (ih.2.2.2.2.2.2.2.2.2.2.2.2.2.2.2.2.1 x0 (pm_sz (pm_setR h s1 37 (some s0))) x0 (pm_new (pm_setR h s1 37 (some s0)) 34 512) hi)
    refine ⟨fun x0 s0 s1 h hf => ?_, ?_⟩
    · obtain ⟨y, hf, hi⟩ := pm_iter_s hf
      have hf : tX16_init_147 x0 s0 s1 h = some y := hf
      unfold tX16_init_147 at hf
      have K0 := pm_S3.rf h
      obtain ⟨k20, hf⟩ := pm_if hf
      cases hf
      exact ((pm_S3.le (pm_S3R K0)).trans (pm_Le_new _ _ _)).trans (ih.2.2.2.2.2.2.2.2.2.2.2.2.2.2.2.2.2.1 x0 (pm_sz (pm_setR h s1 38 (some s0))) x0 (pm_new (pm_setR h s1 38 (some s0)) 34 512) hi)
    refine ⟨fun x0 s0 s1 h hf => ?_, ?_⟩
    · obtain ⟨y, hf, hi⟩ := pm_iter_s hf
      have hf : tX16_init_156 x0 s0 s1 h = some y := hf
      unfold tX16_init_156 at hf
      have K0 := pm_S3.rf h
      obtain ⟨k21, hf⟩ := pm_if hf
      cases hf
      exact ((pm_S3.le (pm_S3R K0)).trans (pm_Le_new _ _ _)).trans (ih.2.2.2.2.2.2.2.2.2.2.2.2.2.2.2.2.2.2.1 x0 (pm_sz (pm_setR h s1 39 (some s0))) x0 (pm_new (pm_setR h s1 39 (some s0)) 34 512) hi)
    refine ⟨fun x0 s0 s1 h hf => ?_, ?_⟩
    · obtain ⟨y, hf, hi⟩ := pm_iter_s hf
      have hf : tX16_init_165 x0 s0 s1 h = some y := hf
      unfold tX16_init_165 at hf
      have K0 := pm_S3.rf h
      obtain ⟨k22, hf⟩ := pm_if hf
      cases hf
      exact ((pm_S3.le (pm_S3R K0)).trans (pm_Le_new _ _ _)).trans (ih.2.2.2.2.2.2.2.2.2.2.2.2.2.2.2.2.2.2.2.1 x0 (pm_sz (pm_setR h s1 40 (some s0))) x0 (pm_new (pm_setR h s1 40 (some s0)) 34 512) hi)
    refine ⟨fun x0 s0 s1 h hf => ?_, ?_⟩
    · obtain ⟨y, hf, hi⟩ := pm_iter_s hf
      have hf : tX16_init_174 x0 s0 s1 h = some y := hf
      unfold tX16_init_174 at hf
      have K0 := pm_S3.rf h
      obtain ⟨k23, hf⟩ := pm_if hf
      cases hf
      exact ((pm_S3.le (pm_S3R K0)).trans (pm_Le_new _ _ _)).trans (ih.2.2.2.2.2.2.2.2.2.2.2.2.2.2.2.2.2.2.2.2.1 x0 (pm_sz (pm_setR h s1 41 (some s0))) x0 (pm_new (pm_setR h s1 41 (some s0)) 34 512) hi)
    refine ⟨fun x0 s0 s1 h hf => ?_, ?_⟩
    · obtain ⟨y, hf, hi⟩ := pm_iter_s hf
      have hf : tX16_init_183 x0 s0 s1 h = some y := hf
      unfold tX16_init_183 at hf
      have K0 := pm_S3.rf h
      obtain ⟨k24, hf⟩ := pm_if hf
      cases hf
      exact ((pm_S3.le (pm_S3R K0)).trans (pm_Le_new _ _ _)).trans (ih.2.2.2.2.2.2.2.2.2.2.2.2.2.2.2.2.2.2.2.2.2.1 x0 (pm_sz (pm_setR h s1 42 (some s0))) x0 (pm_new (pm_setR h s1 42 (some s0)) 32 512) hi)
    refine ⟨fun x0 s0 s1 h hf => ?_, ?_⟩
    · obtain ⟨y, hf, hi⟩ := pm_iter_s hf
      have hf : tX16_init_192 x0 s0 s1 h = some y := hf
      unfold tX16_init_192 at hf
      have K0 := pm_S3.rf h
      obtain ⟨k25, hf⟩ := pm_if hf
      obtain ⟨k26, hf⟩ := pm_if hf
      cases hf
      exact ((pm_S3.le (pm_S3I (pm_S3R K0))).trans (pm_Le_new _ _ _)).trans (ih.2.2.2.2.2.2.2.2.2.2.2.2.2.2.2.2.2.2.2.2.2.2.1 x0 (pm_sz (pm_setI (pm_setR h s1 43 (some s0)) x0 47 1024)) x0 (pm_new (pm_setI (pm_setR h s1 43 (some s0)) x0 47 1024) 34 32) hi)
    refine ⟨fun x0 s0 s1 h hf => ?_, ?_⟩
    · obtain ⟨y, hf, hi⟩ := pm_iter_s hf
      have hf : tX16_init_207 x0 s0 s1 h = some y := hf
      unfold tX16_init_207 at hf
      have K0 := pm_S3.rf h
      obtain ⟨k27, hf⟩ := pm_if hf
      cases hf
      exact ((pm_S3.le (pm_S3R K0)).trans (pm_Le_new _ _ _)).trans (ih.2.2.2.2.2.2.2.2.2.2.2.2.2.2.2.2.2.2.2.2.2.2.2.1 x0 (pm_sz (pm_setR h s1 48 (some s0))) x0 (pm_new (pm_setR h s1 48 (some s0)) 34 32) hi)
    refine ⟨fun x0 s0 s1 h hf => ?_, ?_⟩
    · obtain ⟨y, hf, hi⟩ := pm_iter_s hf
      have hf : tX16_init_215 x0 s0 s1 h = some y := hf
      unfold tX16_init_215 at hf
      have K0 := pm_S3.rf h
      obtain ⟨k28, hf⟩ := pm_if hf
      cases hf
      exact ((pm_S3.le (pm_S3R K0)).trans (pm_Le_new _ _ _)).trans (ih.2.2.2.2.2.2.2.2.2.2.2.2.2.2.2.2.2.2.2.2.2.2.2.2.1 x0 (pm_sz (pm_setR h s1 49 (some s0))) x0 (pm_new (pm_setR h s1 49 (some s0)) 35 32) hi)
    refine ⟨fun x0 s0 s1 h hf => ?_, ?_⟩
    · obtain ⟨y, hf, hi⟩ := pm_iter_s hf
      have hf : tX16_init_223 x0 s0 s1 h = some y := hf
      unfold tX16_init_223 at hf
      have K0 := pm_S3.rf h
      obtain ⟨k29, hf⟩ := pm_if hf
      cases hf
      exact ((pm_S3.le (pm_S3R K0)).trans (pm_Le_new _ _ _)).trans (ih.2.2.2.2.2.2.2.2.2.2.2.2.2.2.2.2.2.2.2.2.2.2.2.2.2.1 x0 (pm_sz (pm_setR h s1 50 (some s0))) x0 (pm_new (pm_setR h s1 50 (some s0)) 34 32768) hi)
    refine ⟨fun x0 s0 s1 h hf => ?_, ?_⟩
    · obtain ⟨y, hf, hi⟩ := pm_iter_s hf
      have hf : tX16_init_231 x0 s0 s1 h = some y := hf
      unfold tX16_init_231 at hf
      have K0 := pm_S3.rf h
      obtain ⟨k30, hf⟩ := pm_if hf
      obtain ⟨k31, hf⟩ := pm_if hf
      cases hf
      exact ((pm_S3.le (pm_S3I (pm_S3R K0))).trans (pm_Le_new _ _ _)).trans (ih.2.2.2.2.2.2.2.2.2.2.2.2.2.2.2.2.2.2.2.2.2.2.2.2.2.2.1 x0 (pm_sz (pm_setI (pm_setR h s1 51 (some s0)) x0 53 8)) x0 (pm_new (pm_setI (pm_setR h s1 51 (some s0)) x0 53 8) 34 16) hi)
    refine ⟨fun x0 s0 s1 h hf => ?_, ?_⟩
    · obtain ⟨y, hf, hi⟩ := pm_iter_s hf
      have hf : tX16_init_245 x0 s0 s1 h = some y := hf
      unfold tX16_init_245 at hf
      have K0 := pm_S3.rf h
      obtain ⟨k32, hf⟩ := pm_if hf
      cases hf
      exact ((pm_S3.le (pm_S3R K0)).trans (pm_Le_new _ _ _)).trans (ih.2.2.2.2.2.2.2.2.2.2.2.2.2.2.2.2.2.2.2.2.2.2.2.2.2.2.2.1 x0 (pm_sz (pm_setR h s1 54 (some s0))) x0 (pm_new (pm_setR h s1 54 (some s0)) 35 16) hi)
    refine ⟨fun x0 s0 s1 h hf => ?_, ?_⟩
    · obtain ⟨y, hf, hi⟩ := pm_iter_s hf
      have hf : tX16_init_253 x0 s0 s1 h = some y := hf
      unfold tX16_init_253 at hf
      have K0 := pm_S3.rf h
      obtain ⟨k33, hf⟩ := pm_if hf
      cases hf
      exact ((pm_S3.le (pm_S3R K0)).trans (pm_Le_new _ _ _)).trans (ih.2.2.2.2.2.2.2.2.2.2.2.2.2.2.2.2.2.2.2.2.2.2.2.2.2.2.2.2.1 x0 (pm_sz (pm_setR h s1 55 (some s0))) x0 (pm_new (pm_setR h s1 55 (some s0)) 34 128) hi)
    refine ⟨fun x0 s0 s1 h hf => ?_, ?_⟩
    · obtain ⟨y, hf, hi⟩ := pm_iter_s hf
      have hf : tX16_init_262 x0 s0 s1 h = some y := hf
      unfold tX16_init_262 at hf
      have K0 := pm_S3.rf h
      obtain ⟨k34, hf⟩ := pm_if hf
      cases hf
      exact ((pm_S3.le (pm_S3R K0)).trans (pm_Le_new _ _ _)).trans (ih.2.2.2.2.2.2.2.2.2.2.2.2.2.2.2.2.2.2.2.2.2.2.2.2.2.2.2.2.2.1 x0 (pm_sz (pm_setR h s1 56 (some s0))) x0 (pm_new (pm_setR h s1 56 (some s0)) 33 524288) hi)
    refine ⟨fun x0 s0 s1 h hf => ?_, ?_⟩
    · obtain ⟨y, hf, hi⟩ := pm_iter_s hf
      have hf : tX16_init_270 x0 s0 s1 h = some y := hf
      unfold tX16_init_270 at hf
      have K0 := pm_S3.rf h
      obtain ⟨k35, hf⟩ := pm_if hf
      cases hf
      exact ((pm_S3.le (pm_S3R K0)).trans (pm_Le_new _ _ _)).trans (ih.2.2.2.2.2.2.2.2.2.2.2.2.2.2.2.2.2.2.2.2.2.2.2.2.2.2.2.2.2.2.1 x0 (pm_sz (pm_setR h s1 57 (some s0))) x0 (pm_new (pm_setR h s1 57 (some s0)) 34 256) hi)
    refine ⟨fun x0 s0 s1 h hf => ?_, ?_⟩
    · obtain ⟨y, hf, hi⟩ := pm_iter_s hf
      have hf : tX16_init_279 x0 s0 s1 h = some y := hf
      unfold tX16_init_279 at hf
      have K0 := pm_S3.rf h
      obtain ⟨k36, hf⟩ := pm_if hf
      cases hf
      exact ((pm_S3.le (pm_S3R K0)).trans (pm_Le_new _ _ _)).trans (ih.2.2.2.2.2.2.2.2.2.2.2.2.2.2.2.2.2.2.2.2.2.2.2.2.2.2.2.2.2.2.2.1 x0 (pm_sz (pm_setR h s1 59 (some s0))) x0 (pm_new (pm_setR h s1 59 (some s0)) 32 256) hi)
    refine ⟨fun x0 s0 s1 h hf => ?_, ?_⟩
    · obtain ⟨y, hf, hi⟩ := pm_iter_s hf
      have hf : tX16_init_288 x0 s0 s1 h = some y := hf
      unfold tX16_init_288 at hf
      have K0 := pm_S3.rf h
      obtain ⟨k37, hf⟩ := pm_if hf
      cases hf
      exact ((pm_S3.le (pm_S3R K0)).trans (pm_Le_new _ _ _)).trans (ih.2.2.2.2.2.2.2.2.2.2.2.2.2.2.2.2.2.2.2.2.2.2.2.2.2.2.2.2.2.2.2.2.1 x0 (pm_sz (pm_setR h s1 60 (some s0))) x0 (pm_new (pm_setR h s1 60 (some s0)) 35 256) hi)
    refine ⟨fun x0 s0 s1 h hf => ?_, ?_⟩
    · obtain ⟨y, hf, hi⟩ := pm_iter_s hf
      have hf : tX16_init_297 x0 s0 s1 h = some y := hf
      unfold tX16_init_297 at hf
      have K0 := pm_S3.rf h
      obtain ⟨k38, hf⟩ := pm_if hf
      cases hf
      exact ((pm_S3.le (pm_S3R K0)).trans (pm_Le_new _ _ _)).trans (ih.2.2.2.2.2.2.2.2.2.2.2.2.2.2.2.2.2.2.2.2.2.2.2.2.2.2.2.2.2.2.2.2.2.1 x0 (pm_sz (pm_setR h s1 61 (some s0))) x0 (pm_new (pm_setR h s1 61 (some s0)) 34 16) hi)
    refine ⟨fun x0 s0 s1 h hf => ?_, ?_⟩
    · obtain ⟨y, hf, hi⟩ := pm_iter_s hf
      have hf : tX16_init_305 x0 s0 s1 h = some y := hf
      unfold tX16_init_305 at hf
      have K0 := pm_S3.rf h
      obtain ⟨k39, hf⟩ := pm_if hf
      cases hf
      exact ((pm_S3.le (pm_S3R K0)).trans (pm_Le_new _ _ _)).trans (ih.2.2.2.2.2.2.2.2.2.2.2.2.2.2.2.2.2.2.2.2.2.2.2.2.2.2.2.2.2.2.2.2.2.2.1 x0 (pm_sz (pm_setR h s1 63 (some s0))) x0 (pm_new (pm_setR h s1 63 (some s0)) 34 2048) hi)
    refine ⟨fun x0 s0 s1 h hf => ?_, ?_⟩
    · obtain ⟨y, hf, hi⟩ := pm_iter_s hf
      have hf : tX16_init_314 x0 s0 s1 h = some y := hf
      unfold tX16_init_314 at hf
      have K0 := pm_S3.rf h
      obtain ⟨k40, hf⟩ := pm_if hf
      cases hf
      exact ((pm_S3.le (pm_S3R K0)).trans (pm_Le_new _ _ _)).trans (ih.2.2.2.2.2.2.2.2.2.2.2.2.2.2.2.2.2.2.2.2.2.2.2.2.2.2.2.2.2.2.2.2.2.2.2.1 x0 (pm_sz (pm_setR h s1 64 (some s0))) x0 (pm_new (pm_setR h s1 64 (some s0)) 34 2048) hi)
    refine ⟨fun x0 s0 s1 h hf => ?_, ?_⟩
    · obtain ⟨y, hf, hi⟩ := pm_iter_s hf
      have hf : tX16_init_323 x0 s0 s1 h = some y := hf
      unfold tX16_init_323 at hf
      have K0 := pm_S3.rf h
      obtain ⟨k41, hf⟩ := pm_if hf
      cases hf
      exact ((pm_S3.le (pm_S3R K0)).trans (pm_Le_new _ _ _)).trans (ih.2.2.2.2.2.2.2.2.2.2.2.2.2.2.2.2.2.2.2.2.2.2.2.2.2.2.2.2.2.2.2.2.2.2.2.2.1 x0 (pm_sz (pm_setR h s1 65 (some s0))) x0 (pm_new (pm_setR h s1 65 (some s0)) 34 2048) hi)
    refine ⟨fun x0 s0 s1 h hf => ?_, ?_⟩
    · obtain ⟨y, hf, hi⟩ := pm_iter_s hf
      have hf : tX16_init_332 x0 s0 s1 h = some y := hf
      unfold tX16_init_332 at hf
      have K0 := pm_S3.rf h
      obtain ⟨k42, hf⟩ := pm_if hf
      cases hf
      exact ((pm_S3.le (pm_S3R K0)).trans (pm_Le_new _ _ _)).trans (ih.2.2.2.2.2.2.2.2.2.2.2.2.2.2.2.2.2.2.2.2.2.2.2.2.2.2.2.2.2.2.2.2.2.2.2.2.2.1 x0 (pm_sz (pm_setR h s1 66 (some s0))) x0 (pm_new (pm_setR h s1 66 (some s0)) 34 2048) hi)
    refine ⟨fun x0 s0 s1 h hf => ?_, ?_⟩
    · obtain ⟨y, hf, hi⟩ := pm_iter_s hf
      have hf : tX16_init_341 x0 s0 s1 h = some y := hf
      unfold tX16_init_341 at hf
      have K0 := pm_S3.rf h
      obtain ⟨k43, hf⟩ := pm_if hf
      cases hf
      exact ((pm_S3.le (pm_S3R K0)).trans (pm_Le_new _ _ _)).trans (ih.2.2.2.2.2.2.2.2.2.2.2.2.2.2.2.2.2.2.2.2.2.2.2.2.2.2.2.2.2.2.2.2.2.2.2.2.2.2.1 x0 (pm_sz (pm_setR h s1 67 (some s0))) x0 (pm_new (pm_setR h s1 67 (some s0)) 34 1024) hi)
    refine ⟨fun x0 s0 s1 h hf => ?_, ?_⟩
    · obtain ⟨y, hf, hi⟩ := pm_iter_s hf
      have hf : tX16_init_350 x0 s0 s1 h = some y := hf
      unfold tX16_init_350 at hf
      have K0 := pm_S3.rf h
      obtain ⟨k44, hf⟩ := pm_if hf
      cases hf
      exact ((pm_S3.le (pm_S3R K0)).trans (pm_Le_new _ _ _)).trans (ih.2.2.2.2.2.2.2.2.2.2.2.2.2.2.2.2.2.2.2.2.2.2.2.2.2.2.2.2.2.2.2.2.2.2.2.2.2.2.2.1 x0 (pm_sz (pm_setR h s1 68 (some s0))) x0 (pm_new (pm_setR h s1 68 (some s0)) 34 1024) hi)
    refine ⟨fun x0 s0 s1 h hf => ?_, ?_⟩
    · obtain ⟨y, hf, hi⟩ := pm_iter_s hf
      have hf : tX16_init_359 x0 s0 s1 h = some y := hf
      unfold tX16_init_359 at hf
      have K0 := pm_S3.rf h
      obtain ⟨k45, hf⟩ := pm_if hf
      cases hf
      exact ((pm_S3.le (pm_S3R K0)).trans (pm_Le_new _ _ _)).trans (ih.2.2.2.2.2.2.2.2.2.2.2.2.2.2.2.2.2.2.2.2.2.2.2.2.2.2.2.2.2.2.2.2.2.2.2.2.2.2.2.2.1 x0 (pm_sz (pm_setR h s1 69 (some s0))) x0 (pm_new (pm_setR h s1 69 (some s0)) 32 1024) hi)
    refine ⟨fun x0 s0 s1 h hf => ?_, ?_⟩
    · obtain ⟨y, hf, hi⟩ := pm_iter_s hf
      have hf : tX16_init_368 x0 s0 s1 h = some y := hf
      unfold tX16_init_368 at hf
      have K0 := pm_S3.rf h
      obtain ⟨k46, hf⟩ := pm_if hf
      cases hf
      exact ((pm_S3.le (pm_S3R K0)).trans (pm_Le_new _ _ _)).trans (ih.2.2.2.2.2.2.2.2.2.2.2.2.2.2.2.2.2.2.2.2.2.2.2.2.2.2.2.2.2.2.2.2.2.2.2.2.2.2.2.2.2.1 x0 (pm_sz (pm_setR h s1 70 (some s0))) x0 (pm_new (pm_setR h s1 70 (some s0)) 34 2048) hi)
    refine ⟨fun x0 s0 s1 h hf => ?_, ?_⟩
    · obtain ⟨y, hf, hi⟩ := pm_iter_s hf
      have hf : tX16_init_377 x0 s0 s1 h = some y := hf
      unfold tX16_init_377 at hf
      have K0 := pm_S3.rf h
      obtain ⟨k47, hf⟩ := pm_if hf
      cases hf
      exact ((pm_S3.le (pm_S3R K0)).trans (pm_Le_new _ _ _)).trans (ih.2.2.2.2.2.2.2.2.2.2.2.2.2.2.2.2.2.2.2.2.2.2.2.2.2.2.2.2.2.2.2.2.2.2.2.2.2.2.2.2.2.2.1 x0 (pm_sz (pm_setR h s1 72 (some s0))) x0 (pm_new (pm_setR h s1 72 (some s0)) 34 64) hi)
    refine ⟨fun x0 s0 s1 h hf => ?_, ?_⟩
    · obtain ⟨y, hf, hi⟩ := pm_iter_s hf
      have hf : tX16_init_385 x0 s0 s1 h = some y := hf
      unfold tX16_init_385 at hf
      have K0 := pm_S3.rf h
      obtain ⟨k48, hf⟩ := pm_if hf
      cases hf
      exact ((pm_S3.le (pm_S3R K0)).trans (pm_Le_new _ _ _)).trans (ih.2.2.2.2.2.2.2.2.2.2.2.2.2.2.2.2.2.2.2.2.2.2.2.2.2.2.2.2.2.2.2.2.2.2.2.2.2.2.2.2.2.2.2.1 x0 (pm_sz (pm_setR h s1 74 (some s0))) x0 (pm_new (pm_setR h s1 74 (some s0)) 34 64) hi)
    refine ⟨fun x0 s0 s1 h hf => ?_, ?_⟩
    · obtain ⟨y, hf, hi⟩ := pm_iter_s hf
      have hf : tX16_init_393 x0 s0 s1 h = some y := hf
      unfold tX16_init_393 at hf
      have K0 := pm_S3.rf h
      obtain ⟨k49, hf⟩ := pm_if hf
      obtain ⟨k50, hf⟩ := pm_if hf
      cases hf
      exact ((pm_S3.le (pm_S3I (pm_S3R K0))).trans (pm_Le_new _ _ _)).trans (ih.2.2.2.2.2.2.2.2.2.2.2.2.2.2.2.2.2.2.2.2.2.2.2.2.2.2.2.2.2.2.2.2.2.2.2.2.2.2.2.2.2.2.2.2.1 x0 (pm_sz (pm_setI (pm_setR h s1 75 (some s0)) x0 79 (-1))) x0 (pm_new (pm_setI (pm_setR h s1 75 (some s0)) x0 79 (-1)) 35 16) hi)
    refine ⟨fun x0 s0 s1 h hf => ?_, ?_⟩
    · obtain ⟨y, hf, hi⟩ := pm_iter_s hf
      have hf : tX16_init_406 x0 s0 s1 h = some y := hf
      unfold tX16_init_406 at hf
      have K0 := pm_S3.rf h
      obtain ⟨k51, hf⟩ := pm_if hf
      cases hf
      exact ((pm_S3.le (pm_S3R K0)).trans (pm_Le_new _ _ _)).trans (ih.2.2.2.2.2.2.2.2.2.2.2.2.2.2.2.2.2.2.2.2.2.2.2.2.2.2.2.2.2.2.2.2.2.2.2.2.2.2.2.2.2.2.2.2.2.1 x0 (pm_sz (pm_setR h s1 82 (some s0))) x0 (pm_new (pm_setR h s1 82 (some s0)) 35 16) hi)
    refine ⟨fun x0 s0 s1 h hf => ?_, ?_⟩
    · obtain ⟨y, hf, hi⟩ := pm_iter_s hf
      have hf : tX16_init_414 x0 s0 s1 h = some y := hf
      unfold tX16_init_414 at hf
      have K0 := pm_S3.rf h
      obtain ⟨k52, hf⟩ := pm_if hf
      cases hf
      exact ((pm_S3.le (pm_S3R K0)).trans (pm_Le_new _ _ _)).trans (ih.2.2.2.2.2.2.2.2.2.2.2.2.2.2.2.2.2.2.2.2.2.2.2.2.2.2.2.2.2.2.2.2.2.2.2.2.2.2.2.2.2.2.2.2.2.2.1 x0 (pm_sz (pm_setR h s1 84 (some s0))) x0 (pm_new (pm_setR h s1 84 (some s0)) 34 200) hi)
    refine ⟨fun x0 s0 s1 h hf => ?_, ?_⟩
    · obtain ⟨y, hf, hi⟩ := pm_iter_s hf
      have hf : tX16_init_423 x0 s0 s1 h = some y := hf
      unfold tX16_init_423 at hf
      have K0 := pm_S3.rf h
      obtain ⟨k53, hf⟩ := pm_if hf
      cases hf
      exact ((pm_S3.le (pm_S3R K0)).trans (pm_Le_new _ _ _)).trans (ih.2.2.2.2.2.2.2.2.2.2.2.2.2.2.2.2.2.2.2.2.2.2.2.2.2.2.2.2.2.2.2.2.2.2.2.2.2.2.2.2.2.2.2.2.2.2.2.1 x0 (pm_sz (pm_setR h s1 86 (some s0))) x0 (pm_new (pm_setR h s1 86 (some s0)) 34 200) hi)
    refine ⟨fun x0 s0 s1 h hf => ?_, ?_⟩
    · obtain ⟨y, hf, hi⟩ := pm_iter_s hf
      have hf : tX16_init_432 x0 s0 s1 h = some y := hf
      unfold tX16_init_432 at hf
      have K0 := pm_S3.rf h
      obtain ⟨k54, hf⟩ := pm_if hf
      cases hf
      exact ((pm_S3.le (pm_S3R K0)).trans (pm_Le_new _ _ _)).trans (ih.2.2.2.2.2.2.2.2.2.2.2.2.2.2.2.2.2.2.2.2.2.2.2.2.2.2.2.2.2.2.2.2.2.2.2.2.2.2.2.2.2.2.2.2.2.2.2.2.1 x0 (pm_sz (pm_setR h s1 87 (some s0))) x0 (pm_new (pm_setR h s1 87 (some s0)) 34 200) hi)
    refine ⟨fun x0 s0 s1 h hf => ?_, ?_⟩
    · obtain ⟨y, hf, hi⟩ := pm_iter_s hf
      have hf : tX16_init_441 x0 s0 s1 h = some y := hf
      unfold tX16_init_441 at hf
      have K0 := pm_S3.rf h
      obtain ⟨k55, hf⟩ := pm_if hf
      cases hf
      exact ((pm_S3.le (pm_S3R K0)).trans (pm_Le_new _ _ _)).trans (ih.2.2.2.2.2.2.2.2.2.2.2.2.2.2.2.2.2.2.2.2.2.2.2.2.2.2.2.2.2.2.2.2.2.2.2.2.2.2.2.2.2.2.2.2.2.2.2.2.2.1 x0 (pm_sz (pm_setR h s1 88 (some s0))) x0 (pm_new (pm_setR h s1 88 (some s0)) 34 200) hi)
    refine ⟨fun x0 s0 s1 h hf => ?_, ?_⟩
    · obtain ⟨y, hf, hi⟩ := pm_iter_s hf
      have hf : tX16_init_450 x0 s0 s1 h = some y := hf
      unfold tX16_init_450 at hf
      have K0 := pm_S3.rf h
      obtain ⟨k56, hf⟩ := pm_if hf
      cases hf
      exact ((pm_S3.le (pm_S3R K0)).trans (pm_Le_new _ _ _)).trans (ih.2.2.2.2.2.2.2.2.2.2.2.2.2.2.2.2.2.2.2.2.2.2.2.2.2.2.2.2.2.2.2.2.2.2.2.2.2.2.2.2.2.2.2.2.2.2.2.2.2.2.1 x0 (pm_sz (pm_setR h s1 89 (some s0))) x0 (pm_new (pm_setR h s1 89 (some s0)) 34 200) hi)
    refine ⟨fun x0 s0 s1 h hf => ?_, ?_⟩
    · obtain ⟨y, hf, hi⟩ := pm_iter_s hf
      have hf : tX16_init_459 x0 s0 s1 h = some y := hf
      unfold tX16_init_459 at hf
      have K0 := pm_S3.rf h
      obtain ⟨k57, hf⟩ := pm_if hf
      cases hf
      exact ((pm_S3.le (pm_S3R K0)).trans (pm_Le_new _ _ _)).trans (ih.2.2.2.2.2.2.2.2.2.2.2.2.2.2.2.2.2.2.2.2.2.2.2.2.2.2.2.2.2.2.2.2.2.2.2.2.2.2.2.2.2.2.2.2.2.2.2.2.2.2.2.1 x0 (pm_sz (pm_setR h s1 90 (some s0))) x0 (pm_new (pm_setR h s1 90 (some s0)) 34 200) hi)
    refine ⟨fun x0 s0 s1 h hf => ?_, ?_⟩
    · obtain ⟨y, hf, hi⟩ := pm_iter_s hf
      have hf : tX16_init_468 x0 s0 s1 h = some y := hf
      unfold tX16_init_468 at hf
      have K0 := pm_S3.rf h
      obtain ⟨k58, hf⟩ := pm_if hf
      cases hf
      exact ((pm_S3.le (pm_S3R K0)).trans (pm_Le_new _ _ _)).trans (ih.2.2.2.2.2.2.2.2.2.2.2.2.2.2.2.2.2.2.2.2.2.2.2.2.2.2.2.2.2.2.2.2.2.2.2.2.2.2.2.2.2.2.2.2.2.2.2.2.2.2.2.2.1 x0 (pm_sz (pm_setR h s1 91 (some s0))) x0 (pm_new (pm_setR h s1 91 (some s0)) 35 4096) hi)
    refine ⟨fun x0 s0 s1 h hf => ?_, ?_⟩
    · obtain ⟨y, hf, hi⟩ := pm_iter_s hf
      have hf : tX16_init_477 x0 s0 s1 h = some y := hf
      unfold tX16_init_477 at hf
      have K0 := pm_S3.rf h
      obtain ⟨k59, hf⟩ := pm_if hf
      cases hf
      exact ((pm_S3.le (pm_S3R K0)).trans (pm_Le_new _ _ _)).trans (ih.2.2.2.2.2.2.2.2.2.2.2.2.2.2.2.2.2.2.2.2.2.2.2.2.2.2.2.2.2.2.2.2.2.2.2.2.2.2.2.2.2.2.2.2.2.2.2.2.2.2.2.2.2.1 x0 (pm_sz (pm_setR h s1 92 (some s0))) x0 (pm_new (pm_setR h s1 92 (some s0)) 34 40000) hi)
    refine ⟨fun x0 s0 s1 h hf => ?_, ?_⟩
    · obtain ⟨y, hf, hi⟩ := pm_iter_s hf
      have hf : tX16_init_485 x0 s0 s1 h = some y := hf
      unfold tX16_init_485 at hf
      have K0 := pm_S3.rf h
      obtain ⟨k60, hf⟩ := pm_if hf
      cases hf
      exact ((pm_S3.le (pm_S3R K0)).trans (pm_Le_new _ _ _)).trans (ih.2.2.2.2.2.2.2.2.2.2.2.2.2.2.2.2.2.2.2.2.2.2.2.2.2.2.2.2.2.2.2.2.2.2.2.2.2.2.2.2.2.2.2.2.2.2.2.2.2.2.2.2.2.2.1 x0 (pm_sz (pm_setR h s1 97 (some s0))) x0 (pm_new (pm_setR h s1 97 (some s0)) 34 40000) hi)
    refine ⟨fun x0 s0 s1 h hf => ?_, ?_⟩
    · obtain ⟨y, hf, hi⟩ := pm_iter_s hf
      have hf : tX16_init_493 x0 s0 s1 h = some y := hf
      unfold tX16_init_493 at hf
      have K0 := pm_S3.rf h
      obtain ⟨k61, hf⟩ := pm_if hf
      cases hf
      exact ((pm_S3.le (pm_S3R K0)).trans (pm_Le_new _ _ _)).trans (ih.2.2.2.2.2.2.2.2.2.2.2.2.2.2.2.2.2.2.2.2.2.2.2.2.2.2.2.2.2.2.2.2.2.2.2.2.2.2.2.2.2.2.2.2.2.2.2.2.2.2.2.2.2.2.2.1 x0 (pm_sz (pm_setR h s1 98 (some s0))) x0 (pm_new (pm_setR h s1 98 (some s0)) 34 40000) hi)
    refine ⟨fun x0 s0 s1 h hf => ?_, ?_⟩
    · obtain ⟨y, hf, hi⟩ := pm_iter_s hf
      have hf : tX16_init_501 x0 s0 s1 h = some y := hf
      unfold tX16_init_501 at hf
      have K0 := pm_S3.rf h
      obtain ⟨k62, hf⟩ := pm_if hf
      cases hf
      exact ((pm_S3.le (pm_S3R K0)).trans (pm_Le_new _ _ _)).trans (ih.2.2.2.2.2.2.2.2.2.2.2.2.2.2.2.2.2.2.2.2.2.2.2.2.2.2.2.2.2.2.2.2.2.2.2.2.2.2.2.2.2.2.2.2.2.2.2.2.2.2.2.2.2.2.2.2.1 x0 (pm_sz (pm_setR h s1 99 (some s0))) x0 (pm_new (pm_setR h s1 99 (some s0)) 32 40000) hi)
    refine ⟨fun x0 s0 s1 h hf => ?_, ?_⟩
    · obtain ⟨y, hf, hi⟩ := pm_iter_s hf
      have hf : tX16_init_509 x0 s0 s1 h = some y := hf
      unfold tX16_init_509 at hf
      have K0 := pm_S3.rf h
      obtain ⟨k63, hf⟩ := pm_if hf
      cases hf
      exact (pm_S3.le (pm_S3R K0)).trans (ih.2.2.2.2.2.2.2.2.2.2.2.2.2.2.2.2.2.2.2.2.2.2.2.2.2.2.2.2.2.2.2.2.2.2.2.2.2.2.2.2.2.2.2.2.2.2.2.2.2.2.2.2.2.2.2.2.2 x0 0 (pm_setR h s1 100 (some s0)) hi)
    refine fun x0 x1 h hf => ?_
    obtain ⟨y, hf, hi⟩ := pm_iter_s hf
    have hf : tX16_init_514 x0 x1 h = some y := hf
    unfold tX16_init_514 at hf
    have K0 := pm_S3.rf h
    by_cases c64 : 512 ≤ x1
    · have hf := pm_it hf c64
      have hf := Option.some.inj hf
      subst hf
      have hi := Option.some.inj (show some _ = some r from hi)
      subst hi
      exact pm_S3.le K0
    · have hf := pm_ie hf c64
      obtain ⟨k65, hf⟩ := pm_if hf
      obtain ⟨v66, e67, hf⟩ := pm_bd hf
      obtain ⟨k68, hf⟩ := pm_if hf
      obtain ⟨u69, hf⟩ := pm_if hf
      obtain ⟨y70, e71, hf⟩ := pm_lt hf
      cases hf
      exact (pm_S3.le (pm_S3I K0)).trans (ih.2.2.2.2.2.2.2.2.2.2.2.2.2.2.2.2.2.2.2.2.2.2.2.2.2.2.2.2.2.2.2.2.2.2.2.2.2.2.2.2.2.2.2.2.2.2.2.2.2.2.2.2.2.2.2.2.2 x0 y70 (pm_setI h v66 x1.toNatClampNeg (-1)) hi)
set_option maxHeartbeats 4000000 in
set_option maxRecDepth 100000 in
theorem moX16_init {h : pm_H} {a0 : Nat} {r : pm_H} (hf : fX16_init h a0 = some r) : pm_Le h r := by
  unfold fX16_init at hf
  have K0 := pm_S3.rf h
  obtain ⟨n, hn⟩ := pm_lim_iter hf
  exact (mlX16_init n).1 a0 h hn
set_option maxHeartbeats 4000000 in
set_option maxRecDepth 100000 in
theorem lpX16_init {g : pm_Gm} {l : Launch} {G : pm_Gl} {Qr : Option Value → pm_H → Prop} (C : pm_C g cX16_init RX16) {h0 : pm_H} {r : pm_H} (X : pm_X g l G mX16_init (pm_sz r - pm_sz h0) (pm_us r - pm_us h0) Qr) (q : Qr none r) (nm : g.2.2.2.2.2.2.2.2.1.name = "<init>") (htr : l.stackTraces = false) : ∀ n : Nat, (∀ (x0 : Nat) (h : pm_H), pm_Le h0 h → pm_iter sX16_init n (.inl (x0, h)) = some r → pm_G g 0 [(0, .ref x0)] [] h (pm_sz h - pm_sz h0) (pm_us h - pm_us h0)) ∧ (∀ (x0 : Nat) (s0 : Nat) (s1 : Nat) (h : pm_H), pm_Le h0 h → pm_iter sX16_init n (.inr (.inl (x0, s0, s1, h))) = some r → pm_G g 9 [(0, .ref x0)] [.ref s0, .ref s1] h (pm_sz h - pm_sz h0) (pm_us h - pm_us h0)) ∧ (∀ (x0 : Nat) (s0 : Nat) (s1 : Nat) (h : pm_H), pm_Le h0 h → pm_iter sX16_init n (.inr (.inr (.inl (x0, s0, s1, h)))) = some r → pm_G g 18 [(0, .ref x0)] [.ref s0, .ref s1] h (pm_sz h - pm_sz h0) (pm_us h - pm_us h0)) ∧ (∀ (x0 : Nat) (s0 : Nat) (s1 : Nat) (h : pm_H), pm_Le h0 h → pm_iter sX16_init n (.inr (.inr (.inr (.inl (x0, s0, s1, h))))) = some r → pm_G g 29 [(0, .ref x0)] [.ref s0, .ref s1] h (pm_sz h - pm_sz h0) (pm_us h - pm_us h0)) ∧ (∀ (x0 : Nat) (s0 : Nat) (s1 : Nat) (h : pm_H), pm_Le h0 h → pm_iter sX16_init n (.inr (.inr (.inr (.inr (.inl (x0, s0, s1, h)))))) = some r → pm_G g 37 [(0, .ref x0)] [.ref s0, .ref s1] h (pm_sz h - pm_sz h0) (pm_us h - pm_us h0)) ∧ (∀ (x0 : Nat) (s0 : Nat) (s1 : Nat) (h : pm_H), pm_Le h0 h → pm_iter sX16_init n (.inr (.inr (.inr (.inr (.inr (.inl (x0, s0, s1, h))))))) = some r → pm_G g 45 [(0, .ref x0)] [.ref s0, .ref s1] h (pm_sz h - pm_sz h0) (pm_us h - pm_us h0)) ∧ (∀ (x0 : Nat) (s0 : Nat) (s1 : Nat) (h : pm_H), pm_Le h0 h → pm_iter sX16_init n (.inr (.inr (.inr (.inr (.inr (.inr (.inl (x0, s0, s1, h)))))))) = some r → pm_G g 54 [(0, .ref x0)] [.ref s0, .ref s1] h (pm_sz h - pm_sz h0) (pm_us h - pm_us h0)) ∧ (∀ (x0 : Nat) (s0 : Nat) (s1 : Nat) (h : pm_H), pm_Le h0 h → pm_iter sX16_init n (.inr (.inr (.inr (.inr (.inr (.inr (.inr (.inl (x0, s0, s1, h))))))))) = some r → pm_G g 63 [(0, .ref x0)] [.ref s0, .ref s1] h (pm_sz h - pm_sz h0) (pm_us h - pm_us h0)) ∧ (∀ (x0 : Nat) (s0 : Nat) (s1 : Nat) (h : pm_H), pm_Le h0 h → pm_iter sX16_init n (.inr (.inr (.inr (.inr (.inr (.inr (.inr (.inr (.inl (x0, s0, s1, h)))))))))) = some r → pm_G g 72 [(0, .ref x0)] [.ref s0, .ref s1] h (pm_sz h - pm_sz h0) (pm_us h - pm_us h0)) ∧ (∀ (x0 : Nat) (s0 : Nat) (s1 : Nat) (h : pm_H), pm_Le h0 h → pm_iter sX16_init n (.inr (.inr (.inr (.inr (.inr (.inr (.inr (.inr (.inr (.inl (x0, s0, s1, h))))))))))) = some r → pm_G g 81 [(0, .ref x0)] [.ref s0, .ref s1] h (pm_sz h - pm_sz h0) (pm_us h - pm_us h0)) ∧ (∀ (x0 : Nat) (s0 : Nat) (s1 : Nat) (h : pm_H), pm_Le h0 h → pm_iter sX16_init n (.inr (.inr (.inr (.inr (.inr (.inr (.inr (.inr (.inr (.inr (.inl (x0, s0, s1, h)))))))))))) = some r → pm_G g 90 [(0, .ref x0)] [.ref s0, .ref s1] h (pm_sz h - pm_sz h0) (pm_us h - pm_us h0)) ∧ (∀ (x0 : Nat) (s0 : Nat) (s1 : Nat) (h : pm_H), pm_Le h0 h → pm_iter sX16_init n (.inr (.inr (.inr (.inr (.inr (.inr (.inr (.inr (.inr (.inr (.inr (.inl (x0, s0, s1, h))))))))))))) = some r → pm_G g 99 [(0, .ref x0)] [.ref s0, .ref s1] h (pm_sz h - pm_sz h0) (pm_us h - pm_us h0)) ∧ (∀ (x0 : Nat) (s0 : Nat) (s1 : Nat) (h : pm_H), pm_Le h0 h → pm_iter sX16_init n (.inr (.inr (.inr (.inr (.inr (.inr (.inr (.inr (.inr (.inr (.inr (.inr (.inl (x0, s0, s1, h)))))))))))))) = some r → pm_G g 107 [(0, .ref x0)] [.ref s0, .ref s1] h (pm_sz h - pm_sz h0) (pm_us h - pm_us h0)) ∧ (∀ (x0 : Nat) (s0 : Nat) (s1 : Nat) (h : pm_H), pm_Le h0 h → pm_iter sX16_init n (.inr (.inr (.inr (.inr (.inr (.inr (.inr (.inr (.inr (.inr (.inr (.inr (.inr (.inl (x0, s0, s1, h))))))))))))))) = some r → pm_G g 114 [(0, .ref x0)] [.ref s0, .ref s1] h (pm_sz h - pm_sz h0) (pm_us h - pm_us h0)) ∧ (∀ (x0 : Nat) (s0 : Nat) (s1 : Nat) (h : pm_H), pm_Le h0 h → pm_iter sX16_init n (.inr (.inr (.inr (.inr (.inr (.inr (.inr (.inr (.inr (.inr (.inr (.inr (.inr (.inr (.inl (x0, s0, s1, h)))))))))))))))) = some r → pm_G g 125 [(0, .ref x0)] [.ref s0, .ref s1] h (pm_sz h - pm_sz h0) (pm_us h - pm_us h0)) ∧ (∀ (x0 : Nat) (s0 : Nat) (s1 : Nat) (h : pm_H), pm_Le h0 h → pm_iter sX16_init n (.inr (.inr (.inr (.inr (.inr (.inr (.inr (.inr (.inr (.inr (.inr (.inr (.inr (.inr (.inr (.inl (x0, s0, s1, h))))))))))))))))) = some r → pm_G g 138 [(0, .ref x0)] [.ref s0, .ref s1] h (pm_sz h - pm_sz h0) (pm_us h - pm_us h0)) ∧ (∀ (x0 : Nat) (s0 : Nat) (s1 : Nat) (h : pm_H), pm_Le h0 h → pm_iter sX16_init n (.inr (.inr (.inr (.inr (.inr (.inr (.inr (.inr (.inr (.inr (.inr (.inr (.inr (.inr (.inr (.inr (.inl (x0, s0, s1, h)))))))))))))))))) = some r → pm_G g 147 [(0, .ref x0)] [.ref s0, .ref s1] h (pm_sz h - pm_sz h0) (pm_us h - pm_us h0)) ∧ (∀ (x0 : Nat) (s0 : Nat) (s1 : Nat) (h : pm_H), pm_Le h0 h → pm_iter sX16_init n (.inr (.inr (.inr (.inr (.inr (.inr (.inr (.inr (.inr (.inr (.inr (.inr (.inr (.inr (.inr (.inr (.inr (.inl (x0, s0, s1, h))))))))))))))))))) = some r → pm_G g 156 [(0, .ref x0)] [.ref s0, .ref s1] h (pm_sz h - pm_sz h0) (pm_us h - pm_us h0)) ∧ (∀ (x0 : Nat) (s0 : Nat) (s1 : Nat) (h : pm_H), pm_Le h0 h → pm_iter sX16_init n (.inr (.inr (.inr (.inr (.inr (.inr (.inr (.inr (.inr (.inr (.inr (.inr (.inr (.inr (.inr (.inr (.inr (.inr (.inl (x0, s0, s1, h)))))))))))))))))))) = some r → pm_G g 165 [(0, .ref x0)] [.ref s0, .ref s1] h (pm_sz h - pm_sz h0) (pm_us h - pm_us h0)) ∧ (∀ (x0 : Nat) (s0 : Nat) (s1 : Nat) (h : pm_H), pm_Le h0 h → pm_iter sX16_init n (.inr (.inr (.inr (.inr (.inr (.inr (.inr (.inr (.inr (.inr (.inr (.inr (.inr (.inr (.inr (.inr (.inr (.inr (.inr (.inl (x0, s0, s1, h))))))))))))))))))))) = some r → pm_G g 174 [(0, .ref x0)] [.ref s0, .ref s1] h (pm_sz h - pm_sz h0) (pm_us h - pm_us h0)) ∧ (∀ (x0 : Nat) (s0 : Nat) (s1 : Nat) (h : pm_H), pm_Le h0 h → pm_iter sX16_init n (.inr (.inr (.inr (.inr (.inr (.inr (.inr (.inr (.inr (.inr (.inr (.inr (.inr (.inr (.inr (.inr (.inr (.inr (.inr (.inr (.inl (x0, s0, s1, h)))))))))))))))))))))) = some r → pm_G g 183 [(0, .ref x0)] [.ref s0, .ref s1] h (pm_sz h - pm_sz h0) (pm_us h - pm_us h0)) ∧ (∀ (x0 : Nat) (s0 : Nat) (s1 : Nat) (h : pm_H), pm_Le h0 h → pm_iter sX16_init n (.inr (.inr (.inr (.inr (.inr (.inr (.inr (.inr (.inr (.inr (.inr (.inr (.inr (.inr (.inr (.inr (.inr (.inr (.inr (.inr (.inr (.inl (x0, s0, s1, h))))))))))))))))))))))) = some r → pm_G g 192 [(0, .ref x0)] [.ref s0, .ref s1] h (pm_sz h - pm_sz h0) (pm_us h - pm_us h0)) ∧ (∀ (x0 : Nat) (s0 : Nat) (s1 : Nat) (h : pm_H), pm_Le h0 h → pm_iter sX16_init n (.inr (.inr (.inr (.inr (.inr (.inr (.inr (.inr (.inr (.inr (.inr (.inr (.inr (.inr (.inr (.inr (.inr (.inr (.inr (.inr (.inr (.inr (.inl (x0, s0, s1, h)))))))))))))))))))))))) = some r → pm_G g 207 [(0, .ref x0)] [.ref s0, .ref s1] h (pm_sz h - pm_sz h0) (pm_us h - pm_us h0)) ∧ (∀ (x0 : Nat) (s0 : Nat) (s1 : Nat) (h : pm_H), pm_Le h0 h → pm_iter sX16_init n (.inr (.inr (.inr (.inr (.inr (.inr (.inr (.inr (.inr (.inr (.inr (.inr (.inr (.inr (.inr (.inr (.inr (.inr (.inr (.inr (.inr (.inr (.inr (.inl (x0, s0, s1, h))))))))))))))))))))))))) = some r → pm_G g 215 [(0, .ref x0)] [.ref s0, .ref s1] h (pm_sz h - pm_sz h0) (pm_us h - pm_us h0)) ∧ (∀ (x0 : Nat) (s0 : Nat) (s1 : Nat) (h : pm_H), pm_Le h0 h → pm_iter sX16_init n (.inr (.inr (.inr (.inr (.inr (.inr (.inr (.inr (.inr (.inr (.inr (.inr (.inr (.inr (.inr (.inr (.inr (.inr (.inr (.inr (.inr (.inr (.inr (.inr (.inl (x0, s0, s1, h)))))))))))))))))))))))))) = some r → pm_G g 223 [(0, .ref x0)] [.ref s0, .ref s1] h (pm_sz h - pm_sz h0) (pm_us h - pm_us h0)) ∧ (∀ (x0 : Nat) (s0 : Nat) (s1 : Nat) (h : pm_H), pm_Le h0 h → pm_iter sX16_init n (.inr (.inr (.inr (.inr (.inr (.inr (.inr (.inr (.inr (.inr (.inr (.inr (.inr (.inr (.inr (.inr (.inr (.inr (.inr (.inr (.inr (.inr (.inr (.inr (.inr (.inl (x0, s0, s1, h))))))))))))))))))))))))))) = some r → pm_G g 231 [(0, .ref x0)] [.ref s0, .ref s1] h (pm_sz h - pm_sz h0) (pm_us h - pm_us h0)) ∧ (∀ (x0 : Nat) (s0 : Nat) (s1 : Nat) (h : pm_H), pm_Le h0 h → pm_iter sX16_init n (.inr (.inr (.inr (.inr (.inr (.inr (.inr (.inr (.inr (.inr (.inr (.inr (.inr (.inr (.inr (.inr (.inr (.inr (.inr (.inr (.inr (.inr (.inr (.inr (.inr (.inr (.inl (x0, s0, s1, h)))))))))))))))))))))))))))) = some r → pm_G g 245 [(0, .ref x0)] [.ref s0, .ref s1] h (pm_sz h - pm_sz h0) (pm_us h - pm_us h0)) ∧ (∀ (x0 : Nat) (s0 : Nat) (s1 : Nat) (h : pm_H), pm_Le h0 h → pm_iter sX16_init n (.inr (.inr (.inr (.inr (.inr (.inr (.inr (.inr (.inr (.inr (.inr (.inr (.inr (.inr (.inr (.inr (.inr (.inr (.inr (.inr (.inr (.inr (.inr (.inr (.inr (.inr (.inr (.inl (x0, s0, s1, h))))))))))))))))))))))))))))) = some r → pm_G g 253 [(0, .ref x0)] [.ref s0, .ref s1] h (pm_sz h - pm_sz h0) (pm_us h - pm_us h0)) ∧ (∀ (x0 : Nat) (s0 : Nat) (s1 : Nat) (h : pm_H), pm_Le h0 h → pm_iter sX16_init n (.inr (.inr (.inr (.inr (.inr (.inr (.inr (.inr (.inr (.inr (.inr (.inr (.inr (.inr (.inr (.inr (.inr (.inr (.inr (.inr (.inr (.inr (.inr (.inr (.inr (.inr (.inr (.inr (.inl (x0, s0, s1, h)))))))))))))))))))))))))))))) = some r → pm_G g 262 [(0, .ref x0)] [.ref s0, .ref s1] h (pm_sz h - pm_sz h0) (pm_us h - pm_us h0)) ∧ (∀ (x0 : Nat) (s0 : Nat) (s1 : Nat) (h : pm_H), pm_Le h0 h → pm_iter sX16_init n (.inr (.inr (.inr (.inr (.inr (.inr (.inr (.inr (.inr (.inr (.inr (.inr (.inr (.inr (.inr (.inr (.inr (.inr (.inr (.inr (.inr (.inr (.inr (.inr (.inr (.inr (.inr (.inr (.inr (.inl (x0, s0, s1, h))))))))))))))))))))))))))))))) = some r → pm_G g 270 [(0, .ref x0)] [.ref s0, .ref s1] h (pm_sz h - pm_sz h0) (pm_us h - pm_us h0)) ∧ (∀ (x0 : Nat) (s0 : Nat) (s1 : Nat) (h : pm_H), pm_Le h0 h → pm_iter sX16_init n (.inr (.inr (.inr (.inr (.inr (.inr (.inr (.inr (.inr (.inr (.inr (.inr (.inr (.inr (.inr (.inr (.inr (.inr (.inr (.inr (.inr (.inr (.inr (.inr (.inr (.inr (.inr (.inr (.inr (.inr (.inl (x0, s0, s1, h)))))))))))))))))))))))))))))))) = some r → pm_G g 279 [(0, .ref x0)] [.ref s0, .ref s1] h (pm_sz h - pm_sz h0) (pm_us h - pm_us h0)) ∧ (∀ (x0 : Nat) (s0 : Nat) (s1 : Nat) (h : pm_H), pm_Le h0 h → pm_iter sX16_init n (.inr (.inr (.inr (.inr (.inr (.inr (.inr (.inr (.inr (.inr (.inr (.inr (.inr (.inr (.inr (.inr (.inr (.inr (.inr (.inr (.inr (.inr (.inr (.inr (.inr (.inr (.inr (.inr (.inr (.inr (.inr (.inl (x0, s0, s1, h))))))))))))))))))))))))))))))))) = some r → pm_G g 288 [(0, .ref x0)] [.ref s0, .ref s1] h (pm_sz h - pm_sz h0) (pm_us h - pm_us h0)) ∧ (∀ (x0 : Nat) (s0 : Nat) (s1 : Nat) (h : pm_H), pm_Le h0 h → pm_iter sX16_init n (.inr (.inr (.inr (.inr (.inr (.inr (.inr (.inr (.inr (.inr (.inr (.inr (.inr (.inr (.inr (.inr (.inr (.inr (.inr (.inr (.inr (.inr (.inr (.inr (.inr (.inr (.inr (.inr (.inr (.inr (.inr (.inr (.inl (x0, s0, s1, h)))))))))))))))))))))))))))))))))) = some r → pm_G g 297 [(0, .ref x0)] [.ref s0, .ref s1] h (pm_sz h - pm_sz h0) (pm_us h - pm_us h0)) ∧ (∀ (x0 : Nat) (s0 : Nat) (s1 : Nat) (h : pm_H), pm_Le h0 h → pm_iter sX16_init n (.inr (.inr (.inr (.inr (.inr (.inr (.inr (.inr (.inr (.inr (.inr (.inr (.inr (.inr (.inr (.inr (.inr (.inr (.inr (.inr (.inr (.inr (.inr (.inr (.inr (.inr (.inr (.inr (.inr (.inr (.inr (.inr (.inr (.inl (x0, s0, s1, h))))))))))))))))))))))))))))))))))) = some r → pm_G g 305 [(0, .ref x0)] [.ref s0, .ref s1] h (pm_sz h - pm_sz h0) (pm_us h - pm_us h0)) ∧ (∀ (x0 : Nat) (s0 : Nat) (s1 : Nat) (h : pm_H), pm_Le h0 h → pm_iter sX16_init n (.inr (.inr (.inr (.inr (.inr (.inr (.inr (.inr (.inr (.inr (.inr (.inr (.inr (.inr (.inr (.inr (.inr (.inr (.inr (.inr (.inr (.inr (.inr (.inr (.inr (.inr (.inr (.inr (.inr (.inr (.inr (.inr (.inr (.inr (.inl (x0, s0, s1, h)))))))))))))))))))))))))))))))))))) = some r → pm_G g 314 [(0, .ref x0)] [.ref s0, .ref s1] h (pm_sz h - pm_sz h0) (pm_us h - pm_us h0)) ∧ (∀ (x0 : Nat) (s0 : Nat) (s1 : Nat) (h : pm_H), pm_Le h0 h → pm_iter sX16_init n (.inr (.inr (.inr (.inr (.inr (.inr (.inr (.inr (.inr (.inr (.inr (.inr (.inr (.inr (.inr (.inr (.inr (.inr (.inr (.inr (.inr (.inr (.inr (.inr (.inr (.inr (.inr (.inr (.inr (.inr (.inr (.inr (.inr (.inr (.inr (.inl (x0, s0, s1, h))))))))))))))))))))))))))))))))))))) = some r → pm_G g 323 [(0, .ref x0)] [.ref s0, .ref s1] h (pm_sz h - pm_sz h0) (pm_us h - pm_us h0)) ∧ (∀ (x0 : Nat) (s0 : Nat) (s1 : Nat) (h : pm_H), pm_Le h0 h → pm_iter sX16_init n (.inr (.inr (.inr (.inr (.inr (.inr (.inr (.inr (.inr (.inr (.inr (.inr (.inr (.inr (.inr (.inr (.inr (.inr (.inr (.inr (.inr (.inr (.inr (.inr (.inr (.inr (.inr (.inr (.inr (.inr (.inr (.inr (.inr (.inr (.inr (.inr (.inl (x0, s0, s1, h)))))))))))))))))))))))))))))))))))))) = some r → pm_G g 332 [(0, .ref x0)] [.ref s0, .ref s1] h (pm_sz h - pm_sz h0) (pm_us h - pm_us h0)) ∧ (∀ (x0 : Nat) (s0 : Nat) (s1 : Nat) (h : pm_H), pm_Le h0 h → pm_iter sX16_init n (.inr (.inr (.inr (.inr (.inr (.inr (.inr (.inr (.inr (.inr (.inr (.inr (.inr (.inr (.inr (.inr (.inr (.inr (.inr (.inr (.inr (.inr (.inr (.inr (.inr (.inr (.inr (.inr (.inr (.inr (.inr (.inr (.inr (.inr (.inr (.inr (.inr (.inl (x0, s0, s1, h))))))))))))))))))))))))))))))))))))))) = some r → pm_G g 341 [(0, .ref x0)] [.ref s0, .ref s1] h (pm_sz h - pm_sz h0) (pm_us h - pm_us h0)) ∧ (∀ (x0 : Nat) (s0 : Nat) (s1 : Nat) (h : pm_H), pm_Le h0 h → pm_iter sX16_init n (.inr (.inr (.inr (.inr (.inr (.inr (.inr (.inr (.inr (.inr (.inr (.inr (.inr (.inr (.inr (.inr (.inr (.inr (.inr (.inr (.inr (.inr (.inr (.inr (.inr (.inr (.inr (.inr (.inr (.inr (.inr (.inr (.inr (.inr (.inr (.inr (.inr (.inr (.inl (x0, s0, s1, h)))))))))))))))))))))))))))))))))))))))) = some r → pm_G g 350 [(0, .ref x0)] [.ref s0, .ref s1] h (pm_sz h - pm_sz h0) (pm_us h - pm_us h0)) ∧ (∀ (x0 : Nat) (s0 : Nat) (s1 : Nat) (h : pm_H), pm_Le h0 h → pm_iter sX16_init n (.inr (.inr (.inr (.inr (.inr (.inr (.inr (.inr (.inr (.inr (.inr (.inr (.inr (.inr (.inr (.inr (.inr (.inr (.inr (.inr (.inr (.inr (.inr (.inr (.inr (.inr (.inr (.inr (.inr (.inr (.inr (.inr (.inr (.inr (.inr (.inr (.inr (.inr (.inr (.inl (x0, s0, s1, h))))))))))))))))))))))))))))))))))))))))) = some r → pm_G g 359 [(0, .ref x0)] [.ref s0, .ref s1] h (pm_sz h - pm_sz h0) (pm_us h - pm_us h0)) ∧ (∀ (x0 : Nat) (s0 : Nat) (s1 : Nat) (h : pm_H), pm_Le h0 h → pm_iter sX16_init n (.inr (.inr (.inr (.inr (.inr (.inr (.inr (.inr (.inr (.inr (.inr (.inr (.inr (.inr (.inr (.inr (.inr (.inr (.inr (.inr (.inr (.inr (.inr (.inr (.inr (.inr (.inr (.inr (.inr (.inr (.inr (.inr (.inr (.inr (.inr (.inr (.inr (.inr (.inr (.inr (.inl (x0, s0, s1, h)))))))))))))))))))))))))))))))))))))))))) = some r → pm_G g 368 [(0, .ref x0)] [.ref s0, .ref s1] h (pm_sz h - pm_sz h0) (pm_us h - pm_us h0)) ∧ (∀ (x0 : Nat) (s0 : Nat) (s1 : Nat) (h : pm_H), pm_Le h0 h → pm_iter sX16_init n (.inr (.inr (.inr (.inr (.inr (.inr (.inr (.inr (.inr (.inr (.inr (.inr (.inr (.inr (.inr (.inr (.inr (.inr (.inr (.inr (.inr (.inr (.inr (.inr (.inr (.inr (.inr (.inr (.inr (.inr (.inr (.inr (.inr (.inr (.inr (.inr (.inr (.inr (.inr (.inr (.inr (.inl (x0, s0, s1, h))))))))))))))))))))))))))))))))))))))))))) = some r → pm_G g 377 [(0, .ref x0)] [.ref s0, .ref s1] h (pm_sz h - pm_sz h0) (pm_us h - pm_us h0)) ∧ (∀ (x0 : Nat) (s0 : Nat) (s1 : Nat) (h : pm_H), pm_Le h0 h → pm_iter sX16_init n (.inr (.inr (.inr (.inr (.inr (.inr (.inr (.inr (.inr (.inr (.inr (.inr (.inr (.inr (.inr (.inr (.inr (.inr (.inr (.inr (.inr (.inr (.inr (.inr (.inr (.inr (.inr (.inr (.inr (.inr (.inr (.inr (.inr (.inr (.inr (.inr (.inr (.inr (.inr (.inr (.inr (.inr (.inl (x0, s0, s1, h)))))))))))))))))))))))))))))))))))))))))))) = some r → pm_G g 385 [(0, .ref x0)] [.ref s0, .ref s1] h (pm_sz h - pm_sz h0) (pm_us h - pm_us h0)) ∧ (∀ (x0 : Nat) (s0 : Nat) (s1 : Nat) (h : pm_H), pm_Le h0 h → pm_iter sX16_init n (.inr (.inr (.inr (.inr (.inr (.inr (.inr (.inr (.inr (.inr (.inr (.inr (.inr (.inr (.inr (.inr (.inr (.inr (.inr (.inr (.inr (.inr (.inr (.inr (.inr (.inr (.inr (.inr (.inr (.inr (.inr (.inr (.inr (.inr (.inr (.inr (.inr (.inr (.inr (.inr (.inr (.inr (.inr (.inl (x0, s0, s1, h))))))))))))))))))))))))))))))))))))))))))))) = some r → pm_G g 393 [(0, .ref x0)] [.ref s0, .ref s1] h (pm_sz h - pm_sz h0) (pm_us h - pm_us h0)) ∧ (∀ (x0 : Nat) (s0 : Nat) (s1 : Nat) (h : pm_H), pm_Le h0 h → pm_iter sX16_init n (.inr (.inr (.inr (.inr (.inr (.inr (.inr (.inr (.inr (.inr (.inr (.inr (.inr (.inr (.inr (.inr (.inr (.inr (.inr (.inr (.inr (.inr (.inr (.inr (.inr (.inr (.inr (.inr (.inr (.inr (.inr (.inr (.inr (.inr (.inr (.inr (.inr (.inr (.inr (.inr (.inr (.inr (.inr (.inr (.inl (x0, s0, s1, h)))))))))))))))))))))))))))))))))))))))))))))) = some r → pm_G g 406 [(0, .ref x0)] [.ref s0, .ref s1] h (pm_sz h - pm_sz h0) (pm_us h - pm_us h0)) ∧ (∀ (x0 : Nat) (s0 : Nat) (s1 : Nat) (h : pm_H), pm_Le h0 h → pm_iter sX16_init n (.inr (.inr (.inr (.inr (.inr (.inr (.inr (.inr (.inr (.inr (.inr (.inr (.inr (.inr (.inr (.inr (.inr (.inr (.inr (.inr (.inr (.inr (.inr (.inr (.inr (.inr (.inr (.inr (.inr (.inr (.inr (.inr (.inr (.inr (.inr (.inr (.inr (.inr (.inr (.inr (.inr (.inr (.inr (.inr (.inr (.inl (x0, s0, s1, h))))))))))))))))))))))))))))))))))))))))))))))) = some r → pm_G g 414 [(0, .ref x0)] [.ref s0, .ref s1] h (pm_sz h - pm_sz h0) (pm_us h - pm_us h0)) ∧ (∀ (x0 : Nat) (s0 : Nat) (s1 : Nat) (h : pm_H), pm_Le h0 h → pm_iter sX16_init n (.inr (.inr (.inr (.inr (.inr (.inr (.inr (.inr (.inr (.inr (.inr (.inr (.inr (.inr (.inr (.inr (.inr (.inr (.inr (.inr (.inr (.inr (.inr (.inr (.inr (.inr (.inr (.inr (.inr (.inr (.inr (.inr (.inr (.inr (.inr (.inr (.inr (.inr (.inr (.inr (.inr (.inr (.inr (.inr (.inr (.inr (.inl (x0, s0, s1, h)))))))))))))))))))))))))))))))))))))))))))))))) = some r → pm_G g 423 [(0, .ref x0)] [.ref s0, .ref s1] h (pm_sz h - pm_sz h0) (pm_us h - pm_us h0)) ∧ (∀ (x0 : Nat) (s0 : Nat) (s1 : Nat) (h : pm_H), pm_Le h0 h → pm_iter sX16_init n (.inr (.inr (.inr (.inr (.inr (.inr (.inr (.inr (.inr (.inr (.inr (.inr (.inr (.inr (.inr (.inr (.inr (.inr (.inr (.inr (.inr (.inr (.inr (.inr (.inr (.inr (.inr (.inr (.inr (.inr (.inr (.inr (.inr (.inr (.inr (.inr (.inr (.inr (.inr (.inr (.inr (.inr (.inr (.inr (.inr (.inr (.inr (.inl (x0, s0, s1, h))))))))))))))))))))))))))))))))))))))))))))))))) = some r → pm_G g 432 [(0, .ref x0)] [.ref s0, .ref s1] h (pm_sz h - pm_sz h0) (pm_us h - pm_us h0)) ∧ (∀ (x0 : Nat) (s0 : Nat) (s1 : Nat) (h : pm_H), pm_Le h0 h → pm_iter sX16_init n (.inr (.inr (.inr (.inr (.inr (.inr (.inr (.inr (.inr (.inr (.inr (.inr (.inr (.inr (.inr (.inr (.inr (.inr (.inr (.inr (.inr (.inr (.inr (.inr (.inr (.inr (.inr (.inr (.inr (.inr (.inr (.inr (.inr (.inr (.inr (.inr (.inr (.inr (.inr (.inr (.inr (.inr (.inr (.inr (.inr (.inr (.inr (.inr (.inl (x0, s0, s1, h)))))))))))))))))))))))))))))))))))))))))))))))))) = some r → pm_G g 441 [(0, .ref x0)] [.ref s0, .ref s1] h (pm_sz h - pm_sz h0) (pm_us h - pm_us h0)) ∧ (∀ (x0 : Nat) (s0 : Nat) (s1 : Nat) (h : pm_H), pm_Le h0 h → pm_iter sX16_init n (.inr (.inr (.inr (.inr (.inr (.inr (.inr (.inr (.inr (.inr (.inr (.inr (.inr (.inr (.inr (.inr (.inr (.inr (.inr (.inr (.inr (.inr (.inr (.inr (.inr (.inr (.inr (.inr (.inr (.inr (.inr (.inr (.inr (.inr (.inr (.inr (.inr (.inr (.inr (.inr (.inr (.inr (.inr (.inr (.inr (.inr (.inr (.inr (.inr (.inl (x0, s0, s1, h))))))))))))))))))))))))))))))))))))))))))))))))))) = some r → pm_G g 450 [(0, .ref x0)] [.ref s0, .ref s1] h (pm_sz h - pm_sz h0) (pm_us h - pm_us h0)) ∧ (∀ (x0 : Nat) (s0 : Nat) (s1 : Nat) (h : pm_H), pm_Le h0 h → pm_iter sX16_init n (.inr (.inr (.inr (.inr (.inr (.inr (.inr (.inr (.inr (.inr (.inr (.inr (.inr (.inr (.inr (.inr (.inr (.inr (.inr (.inr (.inr (.inr (.inr (.inr (.inr (.inr (.inr (.inr (.inr (.inr (.inr (.inr (.inr (.inr (.inr (.inr (.inr (.inr (.inr (.inr (.inr (.inr (.inr (.inr (.inr (.inr (.inr (.inr (.inr (.inr (.inl (x0, s0, s1, h)))))))))))))))))))))))))))))))))))))))))))))))))))) = some r → pm_G g 459 [(0, .ref x0)] [.ref s0, .ref s1] h (pm_sz h - pm_sz h0) (pm_us h - pm_us h0)) ∧ (∀ (x0 : Nat) (s0 : Nat) (s1 : Nat) (h : pm_H), pm_Le h0 h → pm_iter sX16_init n (.inr (.inr (.inr (.inr (.inr (.inr (.inr (.inr (.inr (.inr (.inr (.inr (.inr (.inr (.inr (.inr (.inr (.inr (.inr (.inr (.inr (.inr (.inr (.inr (.inr (.inr (.inr (.inr (.inr (.inr (.inr (.inr (.inr (.inr (.inr (.inr (.inr (.inr (.inr (.inr (.inr (.inr (.inr (.inr (.inr (.inr (.inr (.inr (.inr (.inr (.inr (.inl (x0, s0, s1, h))))))))))))))))))))))))))))))))))))))))))))))))))))) = some r → pm_G g 468 [(0, .ref x0)] [.ref s0, .ref s1] h (pm_sz h - pm_sz h0) (pm_us h - pm_us h0)) ∧ (∀ (x0 : Nat) (s0 : Nat) (s1 : Nat) (h : pm_H), pm_Le h0 h → pm_iter sX16_init n (.inr (.inr (.inr (.inr (.inr (.inr (.inr (.inr (.inr (.inr (.inr (.inr (.inr (.inr (.inr (.inr (.inr (.inr (.inr (.inr (.inr (.inr (.inr (.inr (.inr (.inr (.inr (.inr (.inr (.inr (.inr (.inr (.inr (.inr (.inr (.inr (.inr (.inr (.inr (.inr (.inr (.inr (.inr (.inr (.inr (.inr (.inr (.inr (.inr (.inr (.inr (.inr (.inl (x0, s0, s1, h)))))))))))))))))))))))))))))))))))))))))))))))))))))) = some r → pm_G g 477 [(0, .ref x0)] [.ref s0, .ref s1] h (pm_sz h - pm_sz h0) (pm_us h - pm_us h0)) ∧ (∀ (x0 : Nat) (s0 : Nat) (s1 : Nat) (h : pm_H), pm_Le h0 h → pm_iter sX16_init n (.inr (.inr (.inr (.inr (.inr (.inr (.inr (.inr (.inr (.inr (.inr (.inr (.inr (.inr (.inr (.inr (.inr (.inr (.inr (.inr (.inr (.inr (.inr (.inr (.inr (.inr (.inr (.inr (.inr (.inr (.inr (.inr (.inr (.inr (.inr (.inr (.inr (.inr (.inr (.inr (.inr (.inr (.inr (.inr (.inr (.inr (.inr (.inr (.inr (.inr (.inr (.inr (.inr (.inl (x0, s0, s1, h))))))))))))))))))))))))))))))))))))))))))))))))))))))) = some r → pm_G g 485 [(0, .ref x0)] [.ref s0, .ref s1] h (pm_sz h - pm_sz h0) (pm_us h - pm_us h0)) ∧ (∀ (x0 : Nat) (s0 : Nat) (s1 : Nat) (h : pm_H), pm_Le h0 h → pm_iter sX16_init n (.inr (.inr (.inr (.inr (.inr (.inr (.inr (.inr (.inr (.inr (.inr (.inr (.inr (.inr (.inr (.inr (.inr (.inr (.inr (.inr (.inr (.inr (.inr (.inr (.inr (.inr (.inr (.inr (.inr (.inr (.inr (.inr (.inr (.inr (.inr (.inr (.inr (.inr (.inr (.inr (.inr (.inr (.inr (.inr (.inr (.inr (.inr (.inr (.inr (.inr (.inr (.inr (.inr (.inr (.inl (x0, s0, s1, h)))))))))))))))))))))))))))))))))))))))))))))))))))))))) = some r → pm_G g 493 [(0, .ref x0)] [.ref s0, .ref s1] h (pm_sz h - pm_sz h0) (pm_us h - pm_us h0)) ∧ (∀ (x0 : Nat) (s0 : Nat) (s1 : Nat) (h : pm_H), pm_Le h0 h → pm_iter sX16_init n (.inr (.inr (.inr (.inr (.inr (.inr (.inr (.inr (.inr (.inr (.inr (.inr (.inr (.inr (.inr (.inr (.inr (.inr (.inr (.inr (.inr (.inr (.inr (.inr (.inr (.inr (.inr (.inr (.inr (.inr (.inr (.inr (.inr (.inr (.inr (.inr (.inr (.inr (.inr (.inr (.inr (.inr (.inr (.inr (.inr (.inr (.inr (.inr (.inr (.inr (.inr (.inr (.inr (.inr (.inr (.inl (x0, s0, s1, h))))))))))))))))))))))))))))))))))))))))))))))))))))))))) = some r → pm_G g 501 [(0, .ref x0)] [.ref s0, .ref s1] h (pm_sz h - pm_sz h0) (pm_us h - pm_us h0)) ∧ (∀ (x0 : Nat) (s0 : Nat) (s1 : Nat) (h : pm_H), pm_Le h0 h → pm_iter sX16_init n (.inr (.inr (.inr (.inr (.inr (.inr (.inr (.inr (.inr (.inr (.inr (.inr (.inr (.inr (.inr (.inr (.inr (.inr (.inr (.inr (.inr (.inr (.inr (.inr (.inr (.inr (.inr (.inr (.inr (.inr (.inr (.inr (.inr (.inr (.inr (.inr (.inr (.inr (.inr (.inr (.inr (.inr (.inr (.inr (.inr (.inr (.inr (.inr (.inr (.inr (.inr (.inr (.inr (.inr (.inr (.inr (.inl (x0, s0, s1, h)))))))))))))))))))))))))))))))))))))))))))))))))))))))))) = some r → pm_G g 509 [(0, .ref x0)] [.ref s0, .ref s1] h (pm_sz h - pm_sz h0) (pm_us h - pm_us h0)) ∧ (∀ (x0 : Nat) (x1 : Int32) (h : pm_H), pm_Le h0 h → pm_iter sX16_init n (.inr (.inr (.inr (.inr (.inr (.inr (.inr (.inr (.inr (.inr (.inr (.inr (.inr (.inr (.inr (.inr (.inr (.inr (.inr (.inr (.inr (.inr (.inr (.inr (.inr (.inr (.inr (.inr (.inr (.inr (.inr (.inr (.inr (.inr (.inr (.inr (.inr (.inr (.inr (.inr (.inr (.inr (.inr (.inr (.inr (.inr (.inr (.inr (.inr (.inr (.inr (.inr (.inr (.inr (.inr (.inr (.inr (x0, x1, h)))))))))))))))))))))))))))))))))))))))))))))))))))))))))) = some r → pm_G g 514 [(0, .ref x0), (1, .int x1)] [] h (pm_sz h - pm_sz h0) (pm_us h - pm_us h0)) := by
  intro n
  induction n with
  | zero => exact ⟨fun _ _ _ hf => (by cases hf), fun _ _ _ _ _ hf => (by cases hf), fun _ _ _ _ _ hf => (by cases hf), fun _ _ _ _ _ hf => (by cases hf), fun _ _ _ _ _ hf => (by cases hf), fun _ _ _ _ _ hf => (by cases hf), fun _ _ _ _ _ hf => (by cases hf), fun _ _ _ _ _ hf => (by cases hf), fun _ _ _ _ _ hf => (by cases hf), fun _ _ _ _ _ hf => (by cases hf), fun _ _ _ _ _ hf => (by cases hf), fun _ _ _ _ _ hf => (by cases hf), fun _ _ _ _ _ hf => (by cases hf), fun _ _ _ _ _ hf => (by cases hf), fun _ _ _ _ _ hf => (by cases hf), fun _ _ _ _ _ hf => (by cases hf), fun _ _ _ _ _ hf => (by cases hf), fun _ _ _ _ _ hf => (by cases hf), fun _ _ _ _ _ hf => (by cases hf), fun _ _ _ _ _ hf => (by cases hf), fun _ _ _ _ _ hf => (by cases hf), fun _ _ _ _ _ hf => (by cases hf), fun _ _ _ _ _ hf => (by cases hf), fun _ _ _ _ _ hf => (by cases hf), fun _ _ _ _ _ hf => (by cases hf), fun _ _ _ _ _ hf => (by cases hf), fun _ _ _ _ _ hf => (by cases hf), fun _ _ _ _ _ hf => (by cases hf), fun _ _ _ _ _ hf => (by cases hf), fun _ _ _ _ _ hf => (by cases hf), fun _ _ _ _ _ hf => (by cases hf), fun _ _ _ _ _ hf => (by cases hf), fun _ _ _ _ _ hf => (by cases hf), fun _ _ _ _ _ hf => (by cases hf), fun _ _ _ _ _ hf => (by cases hf), fun _ _ _ _ _ hf => (by cases hf), fun _ _ _ _ _ hf => (by cases hf), fun _ _ _ _ _ hf => (by cases hf), fun _ _ _ _ _ hf => (by cases hf), fun _ _ _ _ _ hf => (by cases hf), fun _ _ _ _ _ hf => (by cases hf), fun _ _ _ _ _ hf => (by cases hf), fun _ _ _ _ _ hf => (by cases hf), fun _ _ _ _ _ hf => (by cases hf), fun _ _ _ _ _ hf => (by cases hf), fun _ _ _ _ _ hf => (by cases hf), fun _ _ _ _ _ hf => (by cases hf), fun _ _ _ _ _ hf => (by cases hf), fun _ _ _ _ _ hf => (by cases hf), fun _ _ _ _ _ hf => (by cases hf), fun _ _ _ _ _ hf => (by cases hf), fun _ _ _ _ _ hf => (by cases hf), fun _ _ _ _ _ hf => (by cases hf), fun _ _ _ _ _ hf => (by cases hf), fun _ _ _ _ _ hf => (by cases hf), fun _ _ _ _ _ hf => (by cases hf), fun _ _ _ _ _ hf => (by cases hf), fun _ _ _ _ hf => (by cases hf)⟩
  | succ n ih =>
    refine ⟨fun x0 h m0 hf => ?_, ?_⟩
    · have le0 := (mlX16_init (n + 1)).1 x0 h hf
      have kc1 := Nat.sub_le_sub_right le0.1 (pm_sz h0)
      have kc2 := Nat.sub_le_sub_right le0.2 (pm_us h0)
      have K0 := pm_S3.rf h
      obtain ⟨y, hf, hi⟩ := pm_iter_s hf
      have hf : tX16_init_0 x0 h = some y := hf
      unfold tX16_init_0 at hf
      refine pm_aload_n C dX16_init_0 rfl rfl ?_
      refine pm_obj C X dX16_init_1 obX16_1 obI obC (by decide) (by decide) (Nat.le_of_ble_eq_true rfl) ?_
      refine pm_aload_n C dX16_init_4 rfl rfl ?_
      refine pm_ldc C dX16_init_5 cnX16_9 ?_
      cases hf
      refine pa_newa (hb := h) (h0 := h0) (t := 1) (N := 40980) C X K0 m0 dX16_init_7 (by decide) rfl al1 (by decide) (by decide +kernel) (by decide +kernel) ((mlX16_init n).2.1 x0 (pm_sz h) x0 (pm_new h 33 40980) hi) ?_
      exact pm_sub [0] rfl (ih.2.1 x0 (pm_sz h) x0 (pm_new h 33 40980) ((m0.trans (pm_S3.le K0)).trans (pm_Le_new _ _ _)) hi)
    refine ⟨fun x0 s0 s1 h m0 hf => ?_, ?_⟩
    · have le0 := (mlX16_init (n + 1)).2.1 x0 s0 s1 h hf
      have kc1 := Nat.sub_le_sub_right le0.1 (pm_sz h0)
      have kc2 := Nat.sub_le_sub_right le0.2 (pm_us h0)
      have K0 := pm_S3.rf h
      obtain ⟨y, hf, hi⟩ := pm_iter_s hf
      have hf : tX16_init_9 x0 s0 s1 h = some y := hf
      unfold tX16_init_9 at hf
      obtain ⟨k1, hf⟩ := pm_if hf
      refine pm_putRF C dX16_init_9 flX16_10 rfl nm rfl fwX16_10 rfl k1 ?_
      refine pm_aload_n C dX16_init_12 rfl rfl ?_
      refine pm_bipush (v := 16) C dX16_init_13 (by decide) ?_
      cases hf
      refine pa_newq (hb := h) (h0 := h0) (t := 10) (c := 14) (N := 16) C X (pm_S3R K0) m0 dX16_init_15 (by decide) rfl ao14 ckX16_14 (by decide) (by decide +kernel) (by decide +kernel) ((mlX16_init n).2.2.1 x0 (pm_sz (pm_setR h s1 0 (some s0))) x0 (pm_new (pm_setR h s1 0 (some s0)) 42 16) hi) ?_
      exact pm_sub [0] rfl (ih.2.2.1 x0 (pm_sz (pm_setR h s1 0 (some s0))) x0 (pm_new (pm_setR h s1 0 (some s0)) 42 16) ((m0.trans (pm_S3.le (pm_S3R K0))).trans (pm_Le_new _ _ _)) hi)
    refine ⟨fun x0 s0 s1 h m0 hf => ?_, ?_⟩
    · have le0 := (mlX16_init (n + 1)).2.2.1 x0 s0 s1 h hf
      have kc1 := Nat.sub_le_sub_right le0.1 (pm_sz h0)
      have kc2 := Nat.sub_le_sub_right le0.2 (pm_us h0)
      have K0 := pm_S3.rf h
      obtain ⟨y, hf, hi⟩ := pm_iter_s hf
      have hf : tX16_init_18 x0 s0 s1 h = some y := hf
      unfold tX16_init_18 at hf
      obtain ⟨k2, hf⟩ := pm_if hf
      refine pm_putRF C dX16_init_18 flX16_16 rfl nm rfl fwX16_16 rfl k2 ?_
      refine pm_aload_n C dX16_init_21 rfl rfl ?_
      cases hf
      refine pa_newF (hb := h) (h0 := h0) C X htr (pm_S3R K0) m0 dX16_init_22 dX16_init_25 dX16_init_26 ckX16_20 cc13.1 cc13.2 (pm_tin9 _ (List.mem_of_getElem? (i := 135) rfl)) myX13_init iiX13_init ⟨by decide, by decide⟩ (Nat.le_of_ble_eq_true rfl) ((mlX16_init n).2.2.2.1 x0 (pm_sz (pm_setR h s1 4 (some s0))) x0 (pm_flt (pm_setR h s1 4 (some s0))) hi) ?_
      exact pm_sub [0] rfl (ih.2.2.2.1 x0 (pm_sz (pm_setR h s1 4 (some s0))) x0 (pm_flt (pm_setR h s1 4 (some s0))) ((m0.trans (pm_S3.le (pm_S3R K0))).trans (pm_Le_flt _)) hi)
    refine ⟨fun x0 s0 s1 h m0 hf => ?_, ?_⟩
    · have le0 := (mlX16_init (n + 1)).2.2.2.1 x0 s0 s1 h hf
      have kc1 := Nat.sub_le_sub_right le0.1 (pm_sz h0)
      have kc2 := Nat.sub_le_sub_right le0.2 (pm_us h0)
      have K0 := pm_S3.rf h
      obtain ⟨y, hf, hi⟩ := pm_iter_s hf
      have hf : tX16_init_29 x0 s0 s1 h = some y := hf
      unfold tX16_init_29 at hf
      obtain ⟨k3, hf⟩ := pm_if hf
      refine pm_putRF C dX16_init_29 flX16_23 rfl nm rfl fwX16_23 rfl k3 ?_
      refine pm_aload_n C dX16_init_32 rfl rfl ?_
      refine pm_ldc C dX16_init_33 cnX16_27 ?_
      cases hf
      refine pa_newa (hb := h) (h0 := h0) (t := 2) (N := 40962) C X (pm_S3R K0) m0 dX16_init_35 (by decide) rfl al2 (by decide) (by decide +kernel) (by decide +kernel) ((mlX16_init n).2.2.2.2.1 x0 (pm_sz (pm_setR h s1 9 (some s0))) x0 (pm_new (pm_setR h s1 9 (some s0)) 34 40962) hi) ?_
      exact pm_sub [0] rfl (ih.2.2.2.2.1 x0 (pm_sz (pm_setR h s1 9 (some s0))) x0 (pm_new (pm_setR h s1 9 (some s0)) 34 40962) ((m0.trans (pm_S3.le (pm_S3R K0))).trans (pm_Le_new _ _ _)) hi)
    refine ⟨fun x0 s0 s1 h m0 hf => ?_, ?_⟩
    · have le0 := (mlX16_init (n + 1)).2.2.2.2.1 x0 s0 s1 h hf
      have kc1 := Nat.sub_le_sub_right le0.1 (pm_sz h0)
      have kc2 := Nat.sub_le_sub_right le0.2 (pm_us h0)
      have K0 := pm_S3.rf h
      obtain ⟨y, hf, hi⟩ := pm_iter_s hf
      have hf : tX16_init_37 x0 s0 s1 h = some y := hf
      unfold tX16_init_37 at hf
      obtain ⟨k4, hf⟩ := pm_if hf
      refine pm_putRF C dX16_init_37 flX16_28 rfl nm rfl fwX16_28 rfl k4 ?_
      refine pm_aload_n C dX16_init_40 rfl rfl ?_
      refine pm_ldc C dX16_init_41 cnX16_27 ?_
      cases hf
      refine pa_newa (hb := h) (h0 := h0) (t := 2) (N := 40962) C X (pm_S3R K0) m0 dX16_init_43 (by decide) rfl al2 (by decide) (by decide +kernel) (by decide +kernel) ((mlX16_init n).2.2.2.2.2.1 x0 (pm_sz (pm_setR h s1 14 (some s0))) x0 (pm_new (pm_setR h s1 14 (some s0)) 34 40962) hi) ?_
      exact pm_sub [0] rfl (ih.2.2.2.2.2.1 x0 (pm_sz (pm_setR h s1 14 (some s0))) x0 (pm_new (pm_setR h s1 14 (some s0)) 34 40962) ((m0.trans (pm_S3.le (pm_S3R K0))).trans (pm_Le_new _ _ _)) hi)
    refine ⟨fun x0 s0 s1 h m0 hf => ?_, ?_⟩
    · have le0 := (mlX16_init (n + 1)).2.2.2.2.2.1 x0 s0 s1 h hf
      have kc1 := Nat.sub_le_sub_right le0.1 (pm_sz h0)
      have kc2 := Nat.sub_le_sub_right le0.2 (pm_us h0)
      have K0 := pm_S3.rf h
      obtain ⟨y, hf, hi⟩ := pm_iter_s hf
      have hf : tX16_init_45 x0 s0 s1 h = some y := hf
      unfold tX16_init_45 at hf
      obtain ⟨k5, hf⟩ := pm_if hf
      refine pm_putRF C dX16_init_45 flX16_32 rfl nm rfl fwX16_32 rfl k5 ?_
      refine pm_aload_n C dX16_init_48 rfl rfl ?_
      refine pm_sipush (v := 128) C dX16_init_49 (by decide) ?_
      cases hf
      refine pa_newa (hb := h) (h0 := h0) (t := 0) (N := 128) C X (pm_S3R K0) m0 dX16_init_52 (by decide) rfl al0 (by decide) (by decide +kernel) (by decide +kernel) ((mlX16_init n).2.2.2.2.2.2.1 x0 (pm_sz (pm_setR h s1 15 (some s0))) x0 (pm_new (pm_setR h s1 15 (some s0)) 32 128) hi) ?_
      exact pm_sub [0] rfl (ih.2.2.2.2.2.2.1 x0 (pm_sz (pm_setR h s1 15 (some s0))) x0 (pm_new (pm_setR h s1 15 (some s0)) 32 128) ((m0.trans (pm_S3.le (pm_S3R K0))).trans (pm_Le_new _ _ _)) hi)
    refine ⟨fun x0 s0 s1 h m0 hf => ?_, ?_⟩
    · have le0 := (mlX16_init (n + 1)).2.2.2.2.2.2.1 x0 s0 s1 h hf
      have kc1 := Nat.sub_le_sub_right le0.1 (pm_sz h0)
      have kc2 := Nat.sub_le_sub_right le0.2 (pm_us h0)
      have K0 := pm_S3.rf h
      obtain ⟨y, hf, hi⟩ := pm_iter_s hf
      have hf : tX16_init_54 x0 s0 s1 h = some y := hf
      unfold tX16_init_54 at hf
      obtain ⟨k6, hf⟩ := pm_if hf
      refine pm_putRF C dX16_init_54 flX16_35 rfl nm rfl fwX16_35 rfl k6 ?_
      refine pm_aload_n C dX16_init_57 rfl rfl ?_
      refine pm_sipush (v := 1001) C dX16_init_58 (by decide) ?_
      cases hf
      refine pa_newa (hb := h) (h0 := h0) (t := 2) (N := 1001) C X (pm_S3R K0) m0 dX16_init_61 (by decide) rfl al2 (by decide) (by decide +kernel) (by decide +kernel) ((mlX16_init n).2.2.2.2.2.2.2.1 x0 (pm_sz (pm_setR h s1 20 (some s0))) x0 (pm_new (pm_setR h s1 20 (some s0)) 34 1001) hi) ?_
      exact pm_sub [0] rfl (ih.2.2.2.2.2.2.2.1 x0 (pm_sz (pm_setR h s1 20 (some s0))) x0 (pm_new (pm_setR h s1 20 (some s0)) 34 1001) ((m0.trans (pm_S3.le (pm_S3R K0))).trans (pm_Le_new _ _ _)) hi)
    refine ⟨fun x0 s0 s1 h m0 hf => ?_, ?_⟩
    · have le0 := (mlX16_init (n + 1)).2.2.2.2.2.2.2.1 x0 s0 s1 h hf
      have kc1 := Nat.sub_le_sub_right le0.1 (pm_sz h0)
      have kc2 := Nat.sub_le_sub_right le0.2 (pm_us h0)
      have K0 := pm_S3.rf h
      obtain ⟨y, hf, hi⟩ := pm_iter_s hf
      have hf : tX16_init_63 x0 s0 s1 h = some y := hf
      unfold tX16_init_63 at hf
      obtain ⟨k7, hf⟩ := pm_if hf
      refine pm_putRF C dX16_init_63 flX16_39 rfl nm rfl fwX16_39 rfl k7 ?_
      refine pm_aload_n C dX16_init_66 rfl rfl ?_
      refine pm_sipush (v := 200) C dX16_init_67 (by decide) ?_
      cases hf
      refine pa_newa (hb := h) (h0 := h0) (t := 2) (N := 200) C X (pm_S3R K0) m0 dX16_init_70 (by decide) rfl al2 (by decide) (by decide +kernel) (by decide +kernel) ((mlX16_init n).2.2.2.2.2.2.2.2.1 x0 (pm_sz (pm_setR h s1 22 (some s0))) x0 (pm_new (pm_setR h s1 22 (some s0)) 34 200) hi) ?_
      exact pm_sub [0] rfl (ih.2.2.2.2.2.2.2.2.1 x0 (pm_sz (pm_setR h s1 22 (some s0))) x0 (pm_new (pm_setR h s1 22 (some s0)) 34 200) ((m0.trans (pm_S3.le (pm_S3R K0))).trans (pm_Le_new _ _ _)) hi)
    refine ⟨fun x0 s0 s1 h m0 hf => ?_, ?_⟩
    · have le0 := (mlX16_init (n + 1)).2.2.2.2.2.2.2.2.1 x0 s0 s1 h hf
      have kc1 := Nat.sub_le_sub_right le0.1 (pm_sz h0)
      have kc2 := Nat.sub_le_sub_right le0.2 (pm_us h0)
      have K0 := pm_S3.rf h
      obtain ⟨y, hf, hi⟩ := pm_iter_s hf
      have hf : tX16_init_72 x0 s0 s1 h = some y := hf
      unfold tX16_init_72 at hf
      obtain ⟨k8, hf⟩ := pm_if hf
      refine pm_putRF C dX16_init_72 flX16_42 rfl nm rfl fwX16_42 rfl k8 ?_
      refine pm_aload_n C dX16_init_75 rfl rfl ?_
      refine pm_sipush (v := 200) C dX16_init_76 (by decide) ?_
      cases hf
      refine pa_newa (hb := h) (h0 := h0) (t := 3) (N := 200) C X (pm_S3R K0) m0 dX16_init_79 (by decide) rfl al3 (by decide) (by decide +kernel) (by decide +kernel) ((mlX16_init n).2.2.2.2.2.2.2.2.2.1 x0 (pm_sz (pm_setR h s1 25 (some s0))) x0 (pm_new (pm_setR h s1 25 (some s0)) 35 200) hi) ?_
      exact pm_sub [0] rfl (ih.2.2.2.2.2.2.2.2.2.1 x0 (pm_sz (pm_setR h s1 25 (some s0))) x0 (pm_new (pm_setR h s1 25 (some s0)) 35 200) ((m0.trans (pm_S3.le (pm_S3R K0))).trans (pm_Le_new _ _ _)) hi)
    refine ⟨fun x0 s0 s1 h m0 hf => ?_, ?_⟩
    · have le0 := (mlX16_init (n + 1)).2.2.2.2.2.2.2.2.2.1 x0 s0 s1 h hf
      have kc1 := Nat.sub_le_sub_right le0.1 (pm_sz h0)
      have kc2 := Nat.sub_le_sub_right le0.2 (pm_us h0)
      have K0 := pm_S3.rf h
      obtain ⟨y, hf, hi⟩ := pm_iter_s hf
      have hf : tX16_init_81 x0 s0 s1 h = some y := hf
      unfold tX16_init_81 at hf
      obtain ⟨k9, hf⟩ := pm_if hf
      refine pm_putRF C dX16_init_81 flX16_45 rfl nm rfl fwX16_45 rfl k9 ?_
      refine pm_aload_n C dX16_init_84 rfl rfl ?_
      refine pm_sipush (v := 200) C dX16_init_85 (by decide) ?_
      cases hf
      refine pa_newa (hb := h) (h0 := h0) (t := 2) (N := 200) C X (pm_S3R K0) m0 dX16_init_88 (by decide) rfl al2 (by decide) (by decide +kernel) (by decide +kernel) ((mlX16_init n).2.2.2.2.2.2.2.2.2.2.1 x0 (pm_sz (pm_setR h s1 26 (some s0))) x0 (pm_new (pm_setR h s1 26 (some s0)) 34 200) hi) ?_
      exact pm_sub [0] rfl (ih.2.2.2.2.2.2.2.2.2.2.1 x0 (pm_sz (pm_setR h s1 26 (some s0))) x0 (pm_new (pm_setR h s1 26 (some s0)) 34 200) ((m0.trans (pm_S3.le (pm_S3R K0))).trans (pm_Le_new _ _ _)) hi)
    refine ⟨fun x0 s0 s1 h m0 hf => ?_, ?_⟩
    · have le0 := (mlX16_init (n + 1)).2.2.2.2.2.2.2.2.2.2.1 x0 s0 s1 h hf
      have kc1 := Nat.sub_le_sub_right le0.1 (pm_sz h0)
      have kc2 := Nat.sub_le_sub_right le0.2 (pm_us h0)
      have K0 := pm_S3.rf h
      obtain ⟨y, hf, hi⟩ := pm_iter_s hf
      have hf : tX16_init_90 x0 s0 s1 h = some y := hf
      unfold tX16_init_90 at hf
      obtain ⟨k10, hf⟩ := pm_if hf
      refine pm_putRF C dX16_init_90 flX16_49 rfl nm rfl fwX16_49 rfl k10 ?_
      refine pm_aload_n C dX16_init_93 rfl rfl ?_
      refine pm_sipush (v := 200) C dX16_init_94 (by decide) ?_
      cases hf
      refine pa_newa (hb := h) (h0 := h0) (t := 0) (N := 200) C X (pm_S3R K0) m0 dX16_init_97 (by decide) rfl al0 (by decide) (by decide +kernel) (by decide +kernel) ((mlX16_init n).2.2.2.2.2.2.2.2.2.2.2.1 x0 (pm_sz (pm_setR h s1 27 (some s0))) x0 (pm_new (pm_setR h s1 27 (some s0)) 32 200) hi) ?_
      exact pm_sub [0] rfl (ih.2.2.2.2.2.2.2.2.2.2.2.1 x0 (pm_sz (pm_setR h s1 27 (some s0))) x0 (pm_new (pm_setR h s1 27 (some s0)) 32 200) ((m0.trans (pm_S3.le (pm_S3R K0))).trans (pm_Le_new _ _ _)) hi)
    refine ⟨fun x0 s0 s1 h m0 hf => ?_, ?_⟩
    · have le0 := (mlX16_init (n + 1)).2.2.2.2.2.2.2.2.2.2.2.1 x0 s0 s1 h hf
      have kc1 := Nat.sub_le_sub_right le0.1 (pm_sz h0)
      have kc2 := Nat.sub_le_sub_right le0.2 (pm_us h0)
      have K0 := pm_S3.rf h
      obtain ⟨y, hf, hi⟩ := pm_iter_s hf
      have hf : tX16_init_99 x0 s0 s1 h = some y := hf
      unfold tX16_init_99 at hf
      obtain ⟨k11, hf⟩ := pm_if hf
      refine pm_putRF C dX16_init_99 flX16_52 rfl nm rfl fwX16_52 rfl k11 ?_
      refine pm_aload_n C dX16_init_102 rfl rfl ?_
      refine pm_bipush (v := 16) C dX16_init_103 (by decide) ?_
      cases hf
      refine pa_newa (hb := h) (h0 := h0) (t := 2) (N := 16) C X (pm_S3R K0) m0 dX16_init_105 (by decide) rfl al2 (by decide) (by decide +kernel) (by decide +kernel) ((mlX16_init n).2.2.2.2.2.2.2.2.2.2.2.2.1 x0 (pm_sz (pm_setR h s1 28 (some s0))) x0 (pm_new (pm_setR h s1 28 (some s0)) 34 16) hi) ?_
      exact pm_sub [0] rfl (ih.2.2.2.2.2.2.2.2.2.2.2.2.1 x0 (pm_sz (pm_setR h s1 28 (some s0))) x0 (pm_new (pm_setR h s1 28 (some s0)) 34 16) ((m0.trans (pm_S3.le (pm_S3R K0))).trans (pm_Le_new _ _ _)) hi)
    refine ⟨fun x0 s0 s1 h m0 hf => ?_, ?_⟩
    · have le0 := (mlX16_init (n + 1)).2.2.2.2.2.2.2.2.2.2.2.2.1 x0 s0 s1 h hf
      have kc1 := Nat.sub_le_sub_right le0.1 (pm_sz h0)
      have kc2 := Nat.sub_le_sub_right le0.2 (pm_us h0)
      have K0 := pm_S3.rf h
      obtain ⟨y, hf, hi⟩ := pm_iter_s hf
      have hf : tX16_init_107 x0 s0 s1 h = some y := hf
      unfold tX16_init_107 at hf
      obtain ⟨k12, hf⟩ := pm_if hf
      refine pm_putRF C dX16_init_107 flX16_55 rfl nm rfl fwX16_55 rfl k12 ?_
      refine pm_aload_n C dX16_init_110 rfl rfl ?_
      cases hf
      refine pa_newo (hb := h) (h0 := h0) C X (pm_S3R K0) m0 dX16_init_111 pm_Cl15 ckX16_58 cc15.1 cc15.2 ((mlX16_init n).2.2.2.2.2.2.2.2.2.2.2.2.2.1 x0 (pm_sz (pm_setR h s1 32 (some s0))) x0 (pm_new (pm_setR h s1 32 (some s0)) 15 0) hi) ?_
      exact pm_sub [0] rfl (ih.2.2.2.2.2.2.2.2.2.2.2.2.2.1 x0 (pm_sz (pm_setR h s1 32 (some s0))) x0 (pm_new (pm_setR h s1 32 (some s0)) 15 0) ((m0.trans (pm_S3.le (pm_S3R K0))).trans (pm_Le_new _ _ _)) hi)
    refine ⟨fun x0 s0 s1 h m0 hf => ?_, ?_⟩
    · have le0 := (mlX16_init (n + 1)).2.2.2.2.2.2.2.2.2.2.2.2.2.1 x0 s0 s1 h hf
      have kc1 := Nat.sub_le_sub_right le0.1 (pm_sz h0)
      have kc2 := Nat.sub_le_sub_right le0.2 (pm_us h0)
      have K0 := pm_S3.rf h
      obtain ⟨y, hf, hi⟩ := pm_iter_s hf
      have hf : tX16_init_114 x0 s0 s1 h = some y := hf
      unfold tX16_init_114 at hf
      refine pm_dup C dX16_init_114 rfl ?_
      obtain ⟨v13, e14, hf⟩ := pm_lt hf
      refine pm_callI (as := []) (st := [.ref s0, .ref s1]) C X dX16_init_115 lnX16_60 myX15_init iiX15_init ⟨by decide, by decide⟩ rfl rfl (Nat.le_of_ble_eq_true rfl) kc1 kc2 (ctX15_init e14 ?_)
      show pm_G g 118 [(0, .ref x0)] [.ref s0, .ref s1] h (pm_sz h - pm_sz h0) (pm_us h - pm_us h0)
      obtain ⟨k15, hf⟩ := pm_if hf
      refine pm_putRF C dX16_init_118 flX16_61 rfl nm rfl fwX16_61 rfl k15 ?_
      refine pm_aload_n C dX16_init_121 rfl rfl ?_
      cases hf
      refine pa_newo (hb := h) (h0 := h0) C X (pm_S3R K0) m0 dX16_init_122 pm_Cl15 ckX16_58 cc15.1 cc15.2 ((mlX16_init n).2.2.2.2.2.2.2.2.2.2.2.2.2.2.1 x0 (pm_sz (pm_setR h s1 34 (some s0))) x0 (pm_new (pm_setR h s1 34 (some s0)) 15 0) hi) ?_
      exact pm_sub [0] rfl (ih.2.2.2.2.2.2.2.2.2.2.2.2.2.2.1 x0 (pm_sz (pm_setR h s1 34 (some s0))) x0 (pm_new (pm_setR h s1 34 (some s0)) 15 0) ((m0.trans (pm_S3.le (pm_S3R K0))).trans (pm_Le_new _ _ _)) hi)
    refine ⟨fun x0 s0 s1 h m0 hf => ?_, ?_⟩
    · have le0 := (mlX16_init (n + 1)).2.2.2.2.2.2.2.2.2.2.2.2.2.2.1 x0 s0 s1 h hf
      have kc1 := Nat.sub_le_sub_right le0.1 (pm_sz h0)
      have kc2 := Nat.sub_le_sub_right le0.2 (pm_us h0)
      have K0 := pm_S3.rf h
      obtain ⟨y, hf, hi⟩ := pm_iter_s hf
      have hf : tX16_init_125 x0 s0 s1 h = some y := hf
      unfold tX16_init_125 at hf
      refine pm_dup C dX16_init_125 rfl ?_
      obtain ⟨v16, e17, hf⟩ := pm_lt hf
      refine pm_callI (as := []) (st := [.ref s0, .ref s1]) C X dX16_init_126 lnX16_60 myX15_init iiX15_init ⟨by decide, by decide⟩ rfl rfl (Nat.le_of_ble_eq_true rfl) kc1 kc2 (ctX15_init e17 ?_)
      show pm_G g 129 [(0, .ref x0)] [.ref s0, .ref s1] h (pm_sz h - pm_sz h0) (pm_us h - pm_us h0)
      obtain ⟨k18, hf⟩ := pm_if hf
      refine pm_putRF C dX16_init_129 flX16_65 rfl nm rfl fwX16_65 rfl k18 ?_
      refine pm_aload_n C dX16_init_132 rfl rfl ?_
      refine pm_sipush (v := 512) C dX16_init_133 (by decide) ?_
      cases hf
      refine pa_newa (hb := h) (h0 := h0) (t := 2) (N := 512) C X (pm_S3R K0) m0 dX16_init_136 (by decide) rfl al2 (by decide) (by decide +kernel) (by decide +kernel) ((mlX16_init n).2.2.2.2.2.2.2.2.2.2.2.2.2.2.2.1 x0 (pm_sz (pm_setR h s1 35 (some s0))) x0 (pm_new (pm_setR h s1 35 (some s0)) 34 512) hi) ?_
      exact pm_sub [0] rfl (ih.2.2.2.2.2.2.2.2.2.2.2.2.2.2.2.1 x0 (pm_sz (pm_setR h s1 35 (some s0))) x0 (pm_new (pm_setR h s1 35 (some s0)) 34 512) ((m0.trans (pm_S3.le (pm_S3R K0))).trans (pm_Le_new _ _ _)) hi)
    refine ⟨fun x0 s0 s1 h m0 hf => ?_, ?_⟩
    · have le0 := (mlX16_init (n + 1)).2.2.2.2.2.2.2.2.2.2.2.2.2.2.2.1 x0 s0 s1 h hf
      have kc1 := Nat.sub_le_sub_right le0.1 (pm_sz h0)
      have kc2 := Nat.sub_le_sub_right le0.2 (pm_us h0)
      have K0 := pm_S3.rf h
      obtain ⟨y, hf, hi⟩ := pm_iter_s hf
      have hf : tX16_init_138 x0 s0 s1 h = some y := hf
      unfold tX16_init_138 at hf
      obtain ⟨k19, hf⟩ := pm_if hf
      refine pm_putRF C dX16_init_138 flX16_68 rfl nm rfl fwX16_68 rfl k19 ?_
      refine pm_aload_n C dX16_init_141 rfl rfl ?_
      refine pm_sipush (v := 512) C dX16_init_142 (by decide) ?_
      cases hf
      refine pa_newa (hb := h) (h0 := h0) (t := 2) (N := 512) C X (pm_S3R K0) m0 dX16_init_145 (by decide) rfl al2 (by decide) (by decide +kernel) (by decide +kernel) ((mlX16_init n).2.2.2.2.2.2.2.2.2.2.2.2.2.2.2.2.1 x0 (pm_sz (pm_setR h s1 37 (some s0))) x0 (pm_new (pm_setR h s1 37 (some s0)) 34 512) hi) ?_
      exact pm_sub [0] rfl (ih.2.2.2.2.2.2.2.2.2.2.2.2.2.2.2.2.1 x0 (pm_sz (pm_setR h s1 37 (some s0))) x0 (pm_new (pm_setR h s1 37 (some s0)) 34 512) ((m0.trans (pm_S3.le (pm_S3R K0))).trans (pm_Le_new _ _ _)) hi)
    refine ⟨fun x0 s0 s1 h m0 hf => ?_, ?_⟩
    · have le0 := (mlX16_init (n + 1)).2.2.2.2.2.2.2.2.2.2.2.2.2.2.2.2.1 x0 s0 s1 h hf
      have kc1 := Nat.sub_le_sub_right le0.1 (pm_sz h0)
      have kc2 := Nat.sub_le_sub_right le0.2 (pm_us h0)
      have K0 := pm_S3.rf h
      obtain ⟨y, hf, hi⟩ := pm_iter_s hf
      have hf : tX16_init_147 x0 s0 s1 h = some y := hf
      unfold tX16_init_147 at hf
      obtain ⟨k20, hf⟩ := pm_if hf
      refine pm_putRF C dX16_init_147 flX16_71 rfl nm rfl fwX16_71 rfl k20 ?_
      refine pm_aload_n C dX16_init_150 rfl rfl ?_
      refine pm_sipush (v := 512) C dX16_init_151 (by decide) ?_
      cases hf
      refine pa_newa (hb := h) (h0 := h0) (t := 2) (N := 512) C X (pm_S3R K0) m0 dX16_init_154 (by decide) rfl al2 (by decide) (by decide +kernel) (by decide +kernel) ((mlX16_init n).2.2.2.2.2.2.2.2.2.2.2.2.2.2.2.2.2.1 x0 (pm_sz (pm_setR h s1 38 (some s0))) x0 (pm_new (pm_setR h s1 38 (some s0)) 34 512) hi) ?_
      exact pm_sub [0] rfl (ih.2.2.2.2.2.2.2.2.2.2.2.2.2.2.2.2.2.1 x0 (pm_sz (pm_setR h s1 38 (some s0))) x0 (pm_new (pm_setR h s1 38 (some s0)) 34 512) ((m0.trans (pm_S3.le (pm_S3R K0))).trans (pm_Le_new _ _ _)) hi)
    refine ⟨fun x0 s0 s1 h m0 hf => ?_, ?_⟩
    · have le0 := (mlX16_init (n + 1)).2.2.2.2.2.2.2.2.2.2.2.2.2.2.2.2.2.1 x0 s0 s1 h hf
      have kc1 := Nat.sub_le_sub_right le0.1 (pm_sz h0)
      have kc2 := Nat.sub_le_sub_right le0.2 (pm_us h0)
      have K0 := pm_S3.rf h
      obtain ⟨y, hf, hi⟩ := pm_iter_s hf
      have hf : tX16_init_156 x0 s0 s1 h = some y := hf
      unfold tX16_init_156 at hf
      obtain ⟨k21, hf⟩ := pm_if hf
      refine pm_putRF C dX16_init_156 flX16_74 rfl nm rfl fwX16_74 rfl k21 ?_
      refine pm_aload_n C dX16_init_159 rfl rfl ?_
      refine pm_sipush (v := 512) C dX16_init_160 (by decide) ?_
      cases hf
      refine pa_newa (hb := h) (h0 := h0) (t := 2) (N := 512) C X (pm_S3R K0) m0 dX16_init_163 (by decide) rfl al2 (by decide) (by decide +kernel) (by decide +kernel) ((mlX16_init n).2.2.2.2.2.2.2.2.2.2.2.2.2.2.2.2.2.2.1 x0 (pm_sz (pm_setR h s1 39 (some s0))) x0 (pm_new (pm_setR h s1 39 (some s0)) 34 512) hi) ?_
      exact pm_sub [0] rfl (ih.2.2.2.2.2.2.2.2.2.2.2.2.2.2.2.2.2.2.1 x0 (pm_sz (pm_setR h s1 39 (some s0))) x0 (pm_new (pm_setR h s1 39 (some s0)) 34 512) ((m0.trans (pm_S3.le (pm_S3R K0))).trans (pm_Le_new _ _ _)) hi)
    refine ⟨fun x0 s0 s1 h m0 hf => ?_, ?_⟩
    · have le0 := (mlX16_init (n + 1)).2.2.2.2.2.2.2.2.2.2.2.2.2.2.2.2.2.2.1 x0 s0 s1 h hf
      have kc1 := Nat.sub_le_sub_right le0.1 (pm_sz h0)
      have kc2 := Nat.sub_le_sub_right le0.2 (pm_us h0)
      have K0 := pm_S3.rf h
      obtain ⟨y, hf, hi⟩ := pm_iter_s hf
      have hf : tX16_init_165 x0 s0 s1 h = some y := hf
      unfold tX16_init_165 at hf
      obtain ⟨k22, hf⟩ := pm_if hf
      refine pm_putRF C dX16_init_165 flX16_77 rfl nm rfl fwX16_77 rfl k22 ?_
      refine pm_aload_n C dX16_init_168 rfl rfl ?_
      refine pm_sipush (v := 512) C dX16_init_169 (by decide) ?_
      cases hf
      refine pa_newa (hb := h) (h0 := h0) (t := 2) (N := 512) C X (pm_S3R K0) m0 dX16_init_172 (by decide) rfl al2 (by decide) (by decide +kernel) (by decide +kernel) ((mlX16_init n).2.2.2.2.2.2.2.2.2.2.2.2.2.2.2.2.2.2.2.1 x0 (pm_sz (pm_setR h s1 40 (some s0))) x0 (pm_new (pm_setR h s1 40 (some s0)) 34 512) hi) ?_
      exact pm_sub [0] rfl (ih.2.2.2.2.2.2.2.2.2.2.2.2.2.2.2.2.2.2.2.1 x0 (pm_sz (pm_setR h s1 40 (some s0))) x0 (pm_new (pm_setR h s1 40 (some s0)) 34 512) ((m0.trans (pm_S3.le (pm_S3R K0))).trans (pm_Le_new _ _ _)) hi)
    refine ⟨fun x0 s0 s1 h m0 hf => ?_, ?_⟩
    · have le0 := (mlX16_init (n + 1)).2.2.2.2.2.2.2.2.2.2.2.2.2.2.2.2.2.2.2.1 x0 s0 s1 h hf
      have kc1 := Nat.sub_le_sub_right le0.1 (pm_sz h0)
      have kc2 := Nat.sub_le_sub_right le0.2 (pm_us h0)
      have K0 := pm_S3.rf h
      obtain ⟨y, hf, hi⟩ := pm_iter_s hf
      have hf : tX16_init_174 x0 s0 s1 h = some y := hf
      unfold tX16_init_174 at hf
      obtain ⟨k23, hf⟩ := pm_if hf
      refine pm_putRF C dX16_init_174 flX16_80 rfl nm rfl fwX16_80 rfl k23 ?_
      refine pm_aload_n C dX16_init_177 rfl rfl ?_
      refine pm_sipush (v := 512) C dX16_init_178 (by decide) ?_
      cases hf
      refine pa_newa (hb := h) (h0 := h0) (t := 2) (N := 512) C X (pm_S3R K0) m0 dX16_init_181 (by decide) rfl al2 (by decide) (by decide +kernel) (by decide +kernel) ((mlX16_init n).2.2.2.2.2.2.2.2.2.2.2.2.2.2.2.2.2.2.2.2.1 x0 (pm_sz (pm_setR h s1 41 (some s0))) x0 (pm_new (pm_setR h s1 41 (some s0)) 34 512) hi) ?_
      exact pm_sub [0] rfl (ih.2.2.2.2.2.2.2.2.2.2.2.2.2.2.2.2.2.2.2.2.1 x0 (pm_sz (pm_setR h s1 41 (some s0))) x0 (pm_new (pm_setR h s1 41 (some s0)) 34 512) ((m0.trans (pm_S3.le (pm_S3R K0))).trans (pm_Le_new _ _ _)) hi)
    refine ⟨fun x0 s0 s1 h m0 hf => ?_, ?_⟩
    · have le0 := (mlX16_init (n + 1)).2.2.2.2.2.2.2.2.2.2.2.2.2.2.2.2.2.2.2.2.1 x0 s0 s1 h hf
      have kc1 := Nat.sub_le_sub_right le0.1 (pm_sz h0)
      have kc2 := Nat.sub_le_sub_right le0.2 (pm_us h0)
      have K0 := pm_S3.rf h
      obtain ⟨y, hf, hi⟩ := pm_iter_s hf
      have hf : tX16_init_183 x0 s0 s1 h = some y := hf
      unfold tX16_init_183 at hf
      obtain ⟨k24, hf⟩ := pm_if hf
      refine pm_putRF C dX16_init_183 flX16_83 rfl nm rfl fwX16_83 rfl k24 ?_
      refine pm_aload_n C dX16_init_186 rfl rfl ?_
      refine pm_sipush (v := 512) C dX16_init_187 (by decide) ?_
      cases hf
      refine pa_newa (hb := h) (h0 := h0) (t := 0) (N := 512) C X (pm_S3R K0) m0 dX16_init_190 (by decide) rfl al0 (by decide) (by decide +kernel) (by decide +kernel) ((mlX16_init n).2.2.2.2.2.2.2.2.2.2.2.2.2.2.2.2.2.2.2.2.2.1 x0 (pm_sz (pm_setR h s1 42 (some s0))) x0 (pm_new (pm_setR h s1 42 (some s0)) 32 512) hi) ?_
      exact pm_sub [0] rfl (ih.2.2.2.2.2.2.2.2.2.2.2.2.2.2.2.2.2.2.2.2.2.1 x0 (pm_sz (pm_setR h s1 42 (some s0))) x0 (pm_new (pm_setR h s1 42 (some s0)) 32 512) ((m0.trans (pm_S3.le (pm_S3R K0))).trans (pm_Le_new _ _ _)) hi)
    refine ⟨fun x0 s0 s1 h m0 hf => ?_, ?_⟩
    · have le0 := (mlX16_init (n + 1)).2.2.2.2.2.2.2.2.2.2.2.2.2.2.2.2.2.2.2.2.2.1 x0 s0 s1 h hf
      have kc1 := Nat.sub_le_sub_right le0.1 (pm_sz h0)
      have kc2 := Nat.sub_le_sub_right le0.2 (pm_us h0)
      have K0 := pm_S3.rf h
      obtain ⟨y, hf, hi⟩ := pm_iter_s hf
      have hf : tX16_init_192 x0 s0 s1 h = some y := hf
      unfold tX16_init_192 at hf
      obtain ⟨k25, hf⟩ := pm_if hf
      refine pm_putRF C dX16_init_192 flX16_86 rfl nm rfl fwX16_86 rfl k25 ?_
      refine pm_aload_n C dX16_init_195 rfl rfl ?_
      refine pm_sipush (v := 1024) C dX16_init_196 (by decide) ?_
      obtain ⟨k26, hf⟩ := pm_if hf
      refine pm_putI C dX16_init_199 flX16_89 rfl rfl k26 rfl rfl ?_
      refine pm_aload_n C dX16_init_202 rfl rfl ?_
      refine pm_bipush (v := 32) C dX16_init_203 (by decide) ?_
      cases hf
      refine pa_newa (hb := h) (h0 := h0) (t := 2) (N := 32) C X (pm_S3I (pm_S3R K0)) m0 dX16_init_205 (by decide) rfl al2 (by decide) (by decide +kernel) (by decide +kernel) ((mlX16_init n).2.2.2.2.2.2.2.2.2.2.2.2.2.2.2.2.2.2.2.2.2.2.1 x0 (pm_sz (pm_setI (pm_setR h s1 43 (some s0)) x0 47 1024)) x0 (pm_new (pm_setI (pm_setR h s1 43 (some s0)) x0 47 1024) 34 32) hi) ?_
      exact pm_sub [0] rfl (ih.2.2.2.2.2.2.2.2.2.2.2.2.2.2.2.2.2.2.2.2.2.2.1 x0 (pm_sz (pm_setI (pm_setR h s1 43 (some s0)) x0 47 1024)) x0 (pm_new (pm_setI (pm_setR h s1 43 (some s0)) x0 47 1024) 34 32) ((m0.trans (pm_S3.le (pm_S3I (pm_S3R K0)))).trans (pm_Le_new _ _ _)) hi)
    refine ⟨fun x0 s0 s1 h m0 hf => ?_, ?_⟩
    · have le0 := (mlX16_init (n + 1)).2.2.2.2.2.2.2.2.2.2.2.2.2.2.2.2.2.2.2.2.2.2.1 x0 s0 s1 h hf
      have kc1 := Nat.sub_le_sub_right le0.1 (pm_sz h0)
      have kc2 := Nat.sub_le_sub_right le0.2 (pm_us h0)
      have K0 := pm_S3.rf h
      obtain ⟨y, hf, hi⟩ := pm_iter_s hf
      have hf : tX16_init_207 x0 s0 s1 h = some y := hf
      unfold tX16_init_207 at hf
      obtain ⟨k27, hf⟩ := pm_if hf
      refine pm_putRF C dX16_init_207 flX16_93 rfl nm rfl fwX16_93 rfl k27 ?_
      refine pm_aload_n C dX16_init_210 rfl rfl ?_
      refine pm_bipush (v := 32) C dX16_init_211 (by decide) ?_
      cases hf
      refine pa_newa (hb := h) (h0 := h0) (t := 2) (N := 32) C X (pm_S3R K0) m0 dX16_init_213 (by decide) rfl al2 (by decide) (by decide +kernel) (by decide +kernel) ((mlX16_init n).2.2.2.2.2.2.2.2.2.2.2.2.2.2.2.2.2.2.2.2.2.2.2.1 x0 (pm_sz (pm_setR h s1 48 (some s0))) x0 (pm_new (pm_setR h s1 48 (some s0)) 34 32) hi) ?_
      exact pm_sub [0] rfl (ih.2.2.2.2.2.2.2.2.2.2.2.2.2.2.2.2.2.2.2.2.2.2.2.1 x0 (pm_sz (pm_setR h s1 48 (some s0))) x0 (pm_new (pm_setR h s1 48 (some s0)) 34 32) ((m0.trans (pm_S3.le (pm_S3R K0))).trans (pm_Le_new _ _ _)) hi)
    refine ⟨fun x0 s0 s1 h m0 hf => ?_, ?_⟩
    · have le0 := (mlX16_init (n + 1)).2.2.2.2.2.2.2.2.2.2.2.2.2.2.2.2.2.2.2.2.2.2.2.1 x0 s0 s1 h hf
      have kc1 := Nat.sub_le_sub_right le0.1 (pm_sz h0)
      have kc2 := Nat.sub_le_sub_right le0.2 (pm_us h0)
      have K0 := pm_S3.rf h
      obtain ⟨y, hf, hi⟩ := pm_iter_s hf
      have hf : tX16_init_215 x0 s0 s1 h = some y := hf
      unfold tX16_init_215 at hf
      obtain ⟨k28, hf⟩ := pm_if hf
      refine pm_putRF C dX16_init_215 flX16_96 rfl nm rfl fwX16_96 rfl k28 ?_
      refine pm_aload_n C dX16_init_218 rfl rfl ?_
      refine pm_bipush (v := 32) C dX16_init_219 (by decide) ?_
      cases hf
      refine pa_newa (hb := h) (h0 := h0) (t := 3) (N := 32) C X (pm_S3R K0) m0 dX16_init_221 (by decide) rfl al3 (by decide) (by decide +kernel) (by decide +kernel) ((mlX16_init n).2.2.2.2.2.2.2.2.2.2.2.2.2.2.2.2.2.2.2.2.2.2.2.2.1 x0 (pm_sz (pm_setR h s1 49 (some s0))) x0 (pm_new (pm_setR h s1 49 (some s0)) 35 32) hi) ?_
      exact pm_sub [0] rfl (ih.2.2.2.2.2.2.2.2.2.2.2.2.2.2.2.2.2.2.2.2.2.2.2.2.1 x0 (pm_sz (pm_setR h s1 49 (some s0))) x0 (pm_new (pm_setR h s1 49 (some s0)) 35 32) ((m0.trans (pm_S3.le (pm_S3R K0))).trans (pm_Le_new _ _ _)) hi)
    refine ⟨fun x0 s0 s1 h m0 hf => ?_, ?_⟩
    · have le0 := (mlX16_init (n + 1)).2.2.2.2.2.2.2.2.2.2.2.2.2.2.2.2.2.2.2.2.2.2.2.2.1 x0 s0 s1 h hf
      have kc1 := Nat.sub_le_sub_right le0.1 (pm_sz h0)
      have kc2 := Nat.sub_le_sub_right le0.2 (pm_us h0)
      have K0 := pm_S3.rf h
      obtain ⟨y, hf, hi⟩ := pm_iter_s hf
      have hf : tX16_init_223 x0 s0 s1 h = some y := hf
      unfold tX16_init_223 at hf
      obtain ⟨k29, hf⟩ := pm_if hf
      refine pm_putRF C dX16_init_223 flX16_99 rfl nm rfl fwX16_99 rfl k29 ?_
      refine pm_aload_n C dX16_init_226 rfl rfl ?_
      refine pm_ldc C dX16_init_227 cnX16_102 ?_
      cases hf
      refine pa_newa (hb := h) (h0 := h0) (t := 2) (N := 32768) C X (pm_S3R K0) m0 dX16_init_229 (by decide) rfl al2 (by decide) (by decide +kernel) (by decide +kernel) ((mlX16_init n).2.2.2.2.2.2.2.2.2.2.2.2.2.2.2.2.2.2.2.2.2.2.2.2.2.1 x0 (pm_sz (pm_setR h s1 50 (some s0))) x0 (pm_new (pm_setR h s1 50 (some s0)) 34 32768) hi) ?_
      exact pm_sub [0] rfl (ih.2.2.2.2.2.2.2.2.2.2.2.2.2.2.2.2.2.2.2.2.2.2.2.2.2.1 x0 (pm_sz (pm_setR h s1 50 (some s0))) x0 (pm_new (pm_setR h s1 50 (some s0)) 34 32768) ((m0.trans (pm_S3.le (pm_S3R K0))).trans (pm_Le_new _ _ _)) hi)
    refine ⟨fun x0 s0 s1 h m0 hf => ?_, ?_⟩
    · have le0 := (mlX16_init (n + 1)).2.2.2.2.2.2.2.2.2.2.2.2.2.2.2.2.2.2.2.2.2.2.2.2.2.1 x0 s0 s1 h hf
      have kc1 := Nat.sub_le_sub_right le0.1 (pm_sz h0)
      have kc2 := Nat.sub_le_sub_right le0.2 (pm_us h0)
      have K0 := pm_S3.rf h
      obtain ⟨y, hf, hi⟩ := pm_iter_s hf
      have hf : tX16_init_231 x0 s0 s1 h = some y := hf
      unfold tX16_init_231 at hf
      obtain ⟨k30, hf⟩ := pm_if hf
      refine pm_putRF C dX16_init_231 flX16_103 rfl nm rfl fwX16_103 rfl k30 ?_
      refine pm_aload_n C dX16_init_234 rfl rfl ?_
      refine pm_bipush (v := 8) C dX16_init_235 (by decide) ?_
      obtain ⟨k31, hf⟩ := pm_if hf
      refine pm_putI C dX16_init_237 flX16_106 rfl rfl k31 rfl rfl ?_
      refine pm_aload_n C dX16_init_240 rfl rfl ?_
      refine pm_bipush (v := 16) C dX16_init_241 (by decide) ?_
      cases hf
      refine pa_newa (hb := h) (h0 := h0) (t := 2) (N := 16) C X (pm_S3I (pm_S3R K0)) m0 dX16_init_243 (by decide) rfl al2 (by decide) (by decide +kernel) (by decide +kernel) ((mlX16_init n).2.2.2.2.2.2.2.2.2.2.2.2.2.2.2.2.2.2.2.2.2.2.2.2.2.2.1 x0 (pm_sz (pm_setI (pm_setR h s1 51 (some s0)) x0 53 8)) x0 (pm_new (pm_setI (pm_setR h s1 51 (some s0)) x0 53 8) 34 16) hi) ?_
      exact pm_sub [0] rfl (ih.2.2.2.2.2.2.2.2.2.2.2.2.2.2.2.2.2.2.2.2.2.2.2.2.2.2.1 x0 (pm_sz (pm_setI (pm_setR h s1 51 (some s0)) x0 53 8)) x0 (pm_new (pm_setI (pm_setR h s1 51 (some s0)) x0 53 8) 34 16) ((m0.trans (pm_S3.le (pm_S3I (pm_S3R K0)))).trans (pm_Le_new _ _ _)) hi)
    refine ⟨fun x0 s0 s1 h m0 hf => ?_, ?_⟩
    · have le0 := (mlX16_init (n + 1)).2.2.2.2.2.2.2.2.2.2.2.2.2.2.2.2.2.2.2.2.2.2.2.2.2.2.1 x0 s0 s1 h hf
      have kc1 := Nat.sub_le_sub_right le0.1 (pm_sz h0)
      have kc2 := Nat.sub_le_sub_right le0.2 (pm_us h0)
      have K0 := pm_S3.rf h
      obtain ⟨y, hf, hi⟩ := pm_iter_s hf
      have hf : tX16_init_245 x0 s0 s1 h = some y := hf
      unfold tX16_init_245 at hf
      obtain ⟨k32, hf⟩ := pm_if hf
      refine pm_putRF C dX16_init_245 flX16_109 rfl nm rfl fwX16_109 rfl k32 ?_
      refine pm_aload_n C dX16_init_248 rfl rfl ?_
      refine pm_bipush (v := 16) C dX16_init_249 (by decide) ?_
      cases hf
      refine pa_newa (hb := h) (h0 := h0) (t := 3) (N := 16) C X (pm_S3R K0) m0 dX16_init_251 (by decide) rfl al3 (by decide) (by decide +kernel) (by decide +kernel) ((mlX16_init n).2.2.2.2.2.2.2.2.2.2.2.2.2.2.2.2.2.2.2.2.2.2.2.2.2.2.2.1 x0 (pm_sz (pm_setR h s1 54 (some s0))) x0 (pm_new (pm_setR h s1 54 (some s0)) 35 16) hi) ?_
      exact pm_sub [0] rfl (ih.2.2.2.2.2.2.2.2.2.2.2.2.2.2.2.2.2.2.2.2.2.2.2.2.2.2.2.1 x0 (pm_sz (pm_setR h s1 54 (some s0))) x0 (pm_new (pm_setR h s1 54 (some s0)) 35 16) ((m0.trans (pm_S3.le (pm_S3R K0))).trans (pm_Le_new _ _ _)) hi)
    refine ⟨fun x0 s0 s1 h m0 hf => ?_, ?_⟩
    · have le0 := (mlX16_init (n + 1)).2.2.2.2.2.2.2.2.2.2.2.2.2.2.2.2.2.2.2.2.2.2.2.2.2.2.2.1 x0 s0 s1 h hf
      have kc1 := Nat.sub_le_sub_right le0.1 (pm_sz h0)
      have kc2 := Nat.sub_le_sub_right le0.2 (pm_us h0)
      have K0 := pm_S3.rf h
      obtain ⟨y, hf, hi⟩ := pm_iter_s hf
      have hf : tX16_init_253 x0 s0 s1 h = some y := hf
      unfold tX16_init_253 at hf
      obtain ⟨k33, hf⟩ := pm_if hf
      refine pm_putRF C dX16_init_253 flX16_112 rfl nm rfl fwX16_112 rfl k33 ?_
      refine pm_aload_n C dX16_init_256 rfl rfl ?_
      refine pm_sipush (v := 128) C dX16_init_257 (by decide) ?_
      cases hf
      refine pa_newa (hb := h) (h0 := h0) (t := 2) (N := 128) C X (pm_S3R K0) m0 dX16_init_260 (by decide) rfl al2 (by decide) (by decide +kernel) (by decide +kernel) ((mlX16_init n).2.2.2.2.2.2.2.2.2.2.2.2.2.2.2.2.2.2.2.2.2.2.2.2.2.2.2.2.1 x0 (pm_sz (pm_setR h s1 55 (some s0))) x0 (pm_new (pm_setR h s1 55 (some s0)) 34 128) hi) ?_
      exact pm_sub [0] rfl (ih.2.2.2.2.2.2.2.2.2.2.2.2.2.2.2.2.2.2.2.2.2.2.2.2.2.2.2.2.1 x0 (pm_sz (pm_setR h s1 55 (some s0))) x0 (pm_new (pm_setR h s1 55 (some s0)) 34 128) ((m0.trans (pm_S3.le (pm_S3R K0))).trans (pm_Le_new _ _ _)) hi)
    refine ⟨fun x0 s0 s1 h m0 hf => ?_, ?_⟩
    · have le0 := (mlX16_init (n + 1)).2.2.2.2.2.2.2.2.2.2.2.2.2.2.2.2.2.2.2.2.2.2.2.2.2.2.2.2.1 x0 s0 s1 h hf
      have kc1 := Nat.sub_le_sub_right le0.1 (pm_sz h0)
      have kc2 := Nat.sub_le_sub_right le0.2 (pm_us h0)
      have K0 := pm_S3.rf h
      obtain ⟨y, hf, hi⟩ := pm_iter_s hf
      have hf : tX16_init_262 x0 s0 s1 h = some y := hf
      unfold tX16_init_262 at hf
      obtain ⟨k34, hf⟩ := pm_if hf
      refine pm_putRF C dX16_init_262 flX16_115 rfl nm rfl fwX16_115 rfl k34 ?_
      refine pm_aload_n C dX16_init_265 rfl rfl ?_
      refine pm_ldc C dX16_init_266 cnX16_118 ?_
      cases hf
      refine pa_newa (hb := h) (h0 := h0) (t := 1) (N := 524288) C X (pm_S3R K0) m0 dX16_init_268 (by decide) rfl al1 (by decide) (by decide +kernel) (by decide +kernel) ((mlX16_init n).2.2.2.2.2.2.2.2.2.2.2.2.2.2.2.2.2.2.2.2.2.2.2.2.2.2.2.2.2.1 x0 (pm_sz (pm_setR h s1 56 (some s0))) x0 (pm_new (pm_setR h s1 56 (some s0)) 33 524288) hi) ?_
      exact pm_sub [0] rfl (ih.2.2.2.2.2.2.2.2.2.2.2.2.2.2.2.2.2.2.2.2.2.2.2.2.2.2.2.2.2.1 x0 (pm_sz (pm_setR h s1 56 (some s0))) x0 (pm_new (pm_setR h s1 56 (some s0)) 33 524288) ((m0.trans (pm_S3.le (pm_S3R K0))).trans (pm_Le_new _ _ _)) hi)
    refine ⟨fun x0 s0 s1 h m0 hf => ?_, ?_⟩
    · have le0 := (mlX16_init (n + 1)).2.2.2.2.2.2.2.2.2.2.2.2.2.2.2.2.2.2.2.2.2.2.2.2.2.2.2.2.2.1 x0 s0 s1 h hf
      have kc1 := Nat.sub_le_sub_right le0.1 (pm_sz h0)
      have kc2 := Nat.sub_le_sub_right le0.2 (pm_us h0)
      have K0 := pm_S3.rf h
      obtain ⟨y, hf, hi⟩ := pm_iter_s hf
      have hf : tX16_init_270 x0 s0 s1 h = some y := hf
      unfold tX16_init_270 at hf
      obtain ⟨k35, hf⟩ := pm_if hf
      refine pm_putRF C dX16_init_270 flX16_119 rfl nm rfl fwX16_119 rfl k35 ?_
      refine pm_aload_n C dX16_init_273 rfl rfl ?_
      refine pm_sipush (v := 256) C dX16_init_274 (by decide) ?_
      cases hf
      refine pa_newa (hb := h) (h0 := h0) (t := 2) (N := 256) C X (pm_S3R K0) m0 dX16_init_277 (by decide) rfl al2 (by decide) (by decide +kernel) (by decide +kernel) ((mlX16_init n).2.2.2.2.2.2.2.2.2.2.2.2.2.2.2.2.2.2.2.2.2.2.2.2.2.2.2.2.2.2.1 x0 (pm_sz (pm_setR h s1 57 (some s0))) x0 (pm_new (pm_setR h s1 57 (some s0)) 34 256) hi) ?_
      exact pm_sub [0] rfl (ih.2.2.2.2.2.2.2.2.2.2.2.2.2.2.2.2.2.2.2.2.2.2.2.2.2.2.2.2.2.2.1 x0 (pm_sz (pm_setR h s1 57 (some s0))) x0 (pm_new (pm_setR h s1 57 (some s0)) 34 256) ((m0.trans (pm_S3.le (pm_S3R K0))).trans (pm_Le_new _ _ _)) hi)
    refine ⟨fun x0 s0 s1 h m0 hf => ?_, ?_⟩
    · have le0 := (mlX16_init (n + 1)).2.2.2.2.2.2.2.2.2.2.2.2.2.2.2.2.2.2.2.2.2.2.2.2.2.2.2.2.2.2.1 x0 s0 s1 h hf
      have kc1 := Nat.sub_le_sub_right le0.1 (pm_sz h0)
      have kc2 := Nat.sub_le_sub_right le0.2 (pm_us h0)
      have K0 := pm_S3.rf h
      obtain ⟨y, hf, hi⟩ := pm_iter_s hf
      have hf : tX16_init_279 x0 s0 s1 h = some y := hf
      unfold tX16_init_279 at hf
      obtain ⟨k36, hf⟩ := pm_if hf
      refine pm_putRF C dX16_init_279 flX16_122 rfl nm rfl fwX16_122 rfl k36 ?_
      refine pm_aload_n C dX16_init_282 rfl rfl ?_
      refine pm_sipush (v := 256) C dX16_init_283 (by decide) ?_
      cases hf
      refine pa_newa (hb := h) (h0 := h0) (t := 0) (N := 256) C X (pm_S3R K0) m0 dX16_init_286 (by decide) rfl al0 (by decide) (by decide +kernel) (by decide +kernel) ((mlX16_init n).2.2.2.2.2.2.2.2.2.2.2.2.2.2.2.2.2.2.2.2.2.2.2.2.2.2.2.2.2.2.2.1 x0 (pm_sz (pm_setR h s1 59 (some s0))) x0 (pm_new (pm_setR h s1 59 (some s0)) 32 256) hi) ?_
      exact pm_sub [0] rfl (ih.2.2.2.2.2.2.2.2.2.2.2.2.2.2.2.2.2.2.2.2.2.2.2.2.2.2.2.2.2.2.2.1 x0 (pm_sz (pm_setR h s1 59 (some s0))) x0 (pm_new (pm_setR h s1 59 (some s0)) 32 256) ((m0.trans (pm_S3.le (pm_S3R K0))).trans (pm_Le_new _ _ _)) hi)
    refine ⟨fun x0 s0 s1 h m0 hf => ?_, ?_⟩
    · have le0 := (mlX16_init (n + 1)).2.2.2.2.2.2.2.2.2.2.2.2.2.2.2.2.2.2.2.2.2.2.2.2.2.2.2.2.2.2.2.1 x0 s0 s1 h hf
      have kc1 := Nat.sub_le_sub_right le0.1 (pm_sz h0)
      have kc2 := Nat.sub_le_sub_right le0.2 (pm_us h0)
      have K0 := pm_S3.rf h
      obtain ⟨y, hf, hi⟩ := pm_iter_s hf
      have hf : tX16_init_288 x0 s0 s1 h = some y := hf
      unfold tX16_init_288 at hf
      obtain ⟨k37, hf⟩ := pm_if hf
      refine pm_putRF C dX16_init_288 flX16_125 rfl nm rfl fwX16_125 rfl k37 ?_
      refine pm_aload_n C dX16_init_291 rfl rfl ?_
      refine pm_sipush (v := 256) C dX16_init_292 (by decide) ?_
      cases hf
      refine pa_newa (hb := h) (h0 := h0) (t := 3) (N := 256) C X (pm_S3R K0) m0 dX16_init_295 (by decide) rfl al3 (by decide) (by decide +kernel) (by decide +kernel) ((mlX16_init n).2.2.2.2.2.2.2.2.2.2.2.2.2.2.2.2.2.2.2.2.2.2.2.2.2.2.2.2.2.2.2.2.1 x0 (pm_sz (pm_setR h s1 60 (some s0))) x0 (pm_new (pm_setR h s1 60 (some s0)) 35 256) hi) ?_
      exact pm_sub [0] rfl (ih.2.2.2.2.2.2.2.2.2.2.2.2.2.2.2.2.2.2.2.2.2.2.2.2.2.2.2.2.2.2.2.2.1 x0 (pm_sz (pm_setR h s1 60 (some s0))) x0 (pm_new (pm_setR h s1 60 (some s0)) 35 256) ((m0.trans (pm_S3.le (pm_S3R K0))).trans (pm_Le_new _ _ _)) hi)
    refine ⟨fun x0 s0 s1 h m0 hf => ?_, ?_⟩
    · have le0 := (mlX16_init (n + 1)).2.2.2.2.2.2.2.2.2.2.2.2.2.2.2.2.2.2.2.2.2.2.2.2.2.2.2.2.2.2.2.2.1 x0 s0 s1 h hf
      have kc1 := Nat.sub_le_sub_right le0.1 (pm_sz h0)
      have kc2 := Nat.sub_le_sub_right le0.2 (pm_us h0)
      have K0 := pm_S3.rf h
      obtain ⟨y, hf, hi⟩ := pm_iter_s hf
      have hf : tX16_init_297 x0 s0 s1 h = some y := hf
      unfold tX16_init_297 at hf
      obtain ⟨k38, hf⟩ := pm_if hf
      refine pm_putRF C dX16_init_297 flX16_128 rfl nm rfl fwX16_128 rfl k38 ?_
      refine pm_aload_n C dX16_init_300 rfl rfl ?_
      refine pm_bipush (v := 16) C dX16_init_301 (by decide) ?_
      cases hf
      refine pa_newa (hb := h) (h0 := h0) (t := 2) (N := 16) C X (pm_S3R K0) m0 dX16_init_303 (by decide) rfl al2 (by decide) (by decide +kernel) (by decide +kernel) ((mlX16_init n).2.2.2.2.2.2.2.2.2.2.2.2.2.2.2.2.2.2.2.2.2.2.2.2.2.2.2.2.2.2.2.2.2.1 x0 (pm_sz (pm_setR h s1 61 (some s0))) x0 (pm_new (pm_setR h s1 61 (some s0)) 34 16) hi) ?_
      exact pm_sub [0] rfl (ih.2.2.2.2.2.2.2.2.2.2.2.2.2.2.2.2.2.2.2.2.2.2.2.2.2.2.2.2.2.2.2.2.2.1 x0 (pm_sz (pm_setR h s1 61 (some s0))) x0 (pm_new (pm_setR h s1 61 (some s0)) 34 16) ((m0.trans (pm_S3.le (pm_S3R K0))).trans (pm_Le_new _ _ _)) hi)
    refine ⟨fun x0 s0 s1 h m0 hf => ?_, ?_⟩
    · have le0 := (mlX16_init (n + 1)).2.2.2.2.2.2.2.2.2.2.2.2.2.2.2.2.2.2.2.2.2.2.2.2.2.2.2.2.2.2.2.2.2.1 x0 s0 s1 h hf
      have kc1 := Nat.sub_le_sub_right le0.1 (pm_sz h0)
      have kc2 := Nat.sub_le_sub_right le0.2 (pm_us h0)
      have K0 := pm_S3.rf h
      obtain ⟨y, hf, hi⟩ := pm_iter_s hf
      have hf : tX16_init_305 x0 s0 s1 h = some y := hf
      unfold tX16_init_305 at hf
      obtain ⟨k39, hf⟩ := pm_if hf
      refine pm_putRF C dX16_init_305 flX16_131 rfl nm rfl fwX16_131 rfl k39 ?_
      refine pm_aload_n C dX16_init_308 rfl rfl ?_
      refine pm_sipush (v := 2048) C dX16_init_309 (by decide) ?_
      cases hf
      refine pa_newa (hb := h) (h0 := h0) (t := 2) (N := 2048) C X (pm_S3R K0) m0 dX16_init_312 (by decide) rfl al2 (by decide) (by decide +kernel) (by decide +kernel) ((mlX16_init n).2.2.2.2.2.2.2.2.2.2.2.2.2.2.2.2.2.2.2.2.2.2.2.2.2.2.2.2.2.2.2.2.2.2.1 x0 (pm_sz (pm_setR h s1 63 (some s0))) x0 (pm_new (pm_setR h s1 63 (some s0)) 34 2048) hi) ?_
      exact pm_sub [0] rfl (ih.2.2.2.2.2.2.2.2.2.2.2.2.2.2.2.2.2.2.2.2.2.2.2.2.2.2.2.2.2.2.2.2.2.2.1 x0 (pm_sz (pm_setR h s1 63 (some s0))) x0 (pm_new (pm_setR h s1 63 (some s0)) 34 2048) ((m0.trans (pm_S3.le (pm_S3R K0))).trans (pm_Le_new _ _ _)) hi)
    refine ⟨fun x0 s0 s1 h m0 hf => ?_, ?_⟩
    · have le0 := (mlX16_init (n + 1)).2.2.2.2.2.2.2.2.2.2.2.2.2.2.2.2.2.2.2.2.2.2.2.2.2.2.2.2.2.2.2.2.2.2.1 x0 s0 s1 h hf
      have kc1 := Nat.sub_le_sub_right le0.1 (pm_sz h0)
      have kc2 := Nat.sub_le_sub_right le0.2 (pm_us h0)
      have K0 := pm_S3.rf h
      obtain ⟨y, hf, hi⟩ := pm_iter_s hf
      have hf : tX16_init_314 x0 s0 s1 h = some y := hf
      unfold tX16_init_314 at hf
      obtain ⟨k40, hf⟩ := pm_if hf
      refine pm_putRF C dX16_init_314 flX16_134 rfl nm rfl fwX16_134 rfl k40 ?_
      refine pm_aload_n C dX16_init_317 rfl rfl ?_
      refine pm_sipush (v := 2048) C dX16_init_318 (by decide) ?_
      cases hf
      refine pa_newa (hb := h) (h0 := h0) (t := 2) (N := 2048) C X (pm_S3R K0) m0 dX16_init_321 (by decide) rfl al2 (by decide) (by decide +kernel) (by decide +kernel) ((mlX16_init n).2.2.2.2.2.2.2.2.2.2.2.2.2.2.2.2.2.2.2.2.2.2.2.2.2.2.2.2.2.2.2.2.2.2.2.1 x0 (pm_sz (pm_setR h s1 64 (some s0))) x0 (pm_new (pm_setR h s1 64 (some s0)) 34 2048) hi) ?_
      exact pm_sub [0] rfl (ih.2.2.2.2.2.2.2.2.2.2.2.2.2.2.2.2.2.2.2.2.2.2.2.2.2.2.2.2.2.2.2.2.2.2.2.1 x0 (pm_sz (pm_setR h s1 64 (some s0))) x0 (pm_new (pm_setR h s1 64 (some s0)) 34 2048) ((m0.trans (pm_S3.le (pm_S3R K0))).trans (pm_Le_new _ _ _)) hi)
    refine ⟨fun x0 s0 s1 h m0 hf => ?_, ?_⟩
    · have le0 := (mlX16_init (n + 1)).2.2.2.2.2.2.2.2.2.2.2.2.2.2.2.2.2.2.2.2.2.2.2.2.2.2.2.2.2.2.2.2.2.2.2.1 x0 s0 s1 h hf
      have kc1 := Nat.sub_le_sub_right le0.1 (pm_sz h0)
      have kc2 := Nat.sub_le_sub_right le0.2 (pm_us h0)
      have K0 := pm_S3.rf h
      obtain ⟨y, hf, hi⟩ := pm_iter_s hf
      have hf : tX16_init_323 x0 s0 s1 h = some y := hf
      unfold tX16_init_323 at hf
      obtain ⟨k41, hf⟩ := pm_if hf
      refine pm_putRF C dX16_init_323 flX16_137 rfl nm rfl fwX16_137 rfl k41 ?_
      refine pm_aload_n C dX16_init_326 rfl rfl ?_
      refine pm_sipush (v := 2048) C dX16_init_327 (by decide) ?_
      cases hf
      refine pa_newa (hb := h) (h0 := h0) (t := 2) (N := 2048) C X (pm_S3R K0) m0 dX16_init_330 (by decide) rfl al2 (by decide) (by decide +kernel) (by decide +kernel) ((mlX16_init n).2.2.2.2.2.2.2.2.2.2.2.2.2.2.2.2.2.2.2.2.2.2.2.2.2.2.2.2.2.2.2.2.2.2.2.2.1 x0 (pm_sz (pm_setR h s1 65 (some s0))) x0 (pm_new (pm_setR h s1 65 (some s0)) 34 2048) hi) ?_
      exact pm_sub [0] rfl (ih.2.2.2.2.2.2.2.2.2.2.2.2.2.2.2.2.2.2.2.2.2.2.2.2.2.2.2.2.2.2.2.2.2.2.2.2.1 x0 (pm_sz (pm_setR h s1 65 (some s0))) x0 (pm_new (pm_setR h s1 65 (some s0)) 34 2048) ((m0.trans (pm_S3.le (pm_S3R K0))).trans (pm_Le_new _ _ _)) hi)
    refine ⟨fun x0 s0 s1 h m0 hf => ?_, ?_⟩
    · have le0 := (mlX16_init (n + 1)).2.2.2.2.2.2.2.2.2.2.2.2.2.2.2.2.2.2.2.2.2.2.2.2.2.2.2.2.2.2.2.2.2.2.2.2.1 x0 s0 s1 h hf
      have kc1 := Nat.sub_le_sub_right le0.1 (pm_sz h0)
      have kc2 := Nat.sub_le_sub_right le0.2 (pm_us h0)
      have K0 := pm_S3.rf h
      obtain ⟨y, hf, hi⟩ := pm_iter_s hf
      have hf : tX16_init_332 x0 s0 s1 h = some y := hf
      unfold tX16_init_332 at hf
      obtain ⟨k42, hf⟩ := pm_if hf
      refine pm_putRF C dX16_init_332 flX16_140 rfl nm rfl fwX16_140 rfl k42 ?_
      refine pm_aload_n C dX16_init_335 rfl rfl ?_
      refine pm_sipush (v := 2048) C dX16_init_336 (by decide) ?_
      cases hf
      refine pa_newa (hb := h) (h0 := h0) (t := 2) (N := 2048) C X (pm_S3R K0) m0 dX16_init_339 (by decide) rfl al2 (by decide) (by decide +kernel) (by decide +kernel) ((mlX16_init n).2.2.2.2.2.2.2.2.2.2.2.2.2.2.2.2.2.2.2.2.2.2.2.2.2.2.2.2.2.2.2.2.2.2.2.2.2.1 x0 (pm_sz (pm_setR h s1 66 (some s0))) x0 (pm_new (pm_setR h s1 66 (some s0)) 34 2048) hi) ?_
      exact pm_sub [0] rfl (ih.2.2.2.2.2.2.2.2.2.2.2.2.2.2.2.2.2.2.2.2.2.2.2.2.2.2.2.2.2.2.2.2.2.2.2.2.2.1 x0 (pm_sz (pm_setR h s1 66 (some s0))) x0 (pm_new (pm_setR h s1 66 (some s0)) 34 2048) ((m0.trans (pm_S3.le (pm_S3R K0))).trans (pm_Le_new _ _ _)) hi)
    refine ⟨fun x0 s0 s1 h m0 hf => ?_, ?_⟩
    · have le0 := (mlX16_init (n + 1)).2.2.2.2.2.2.2.2.2.2.2.2.2.2.2.2.2.2.2.2.2.2.2.2.2.2.2.2.2.2.2.2.2.2.2.2.2.1 x0 s0 s1 h hf
      have kc1 := Nat.sub_le_sub_right le0.1 (pm_sz h0)
      have kc2 := Nat.sub_le_sub_right le0.2 (pm_us h0)
      have K0 := pm_S3.rf h
      obtain ⟨y, hf, hi⟩ := pm_iter_s hf
      have hf : tX16_init_341 x0 s0 s1 h = some y := hf
      unfold tX16_init_341 at hf
      obtain ⟨k43, hf⟩ := pm_if hf
      refine pm_putRF C dX16_init_341 flX16_143 rfl nm rfl fwX16_143 rfl k43 ?_
      refine pm_aload_n C dX16_init_344 rfl rfl ?_
      refine pm_sipush (v := 1024) C dX16_init_345 (by decide) ?_
      cases hf
      refine pa_newa (hb := h) (h0 := h0) (t := 2) (N := 1024) C X (pm_S3R K0) m0 dX16_init_348 (by decide) rfl al2 (by decide) (by decide +kernel) (by decide +kernel) ((mlX16_init n).2.2.2.2.2.2.2.2.2.2.2.2.2.2.2.2.2.2.2.2.2.2.2.2.2.2.2.2.2.2.2.2.2.2.2.2.2.2.1 x0 (pm_sz (pm_setR h s1 67 (some s0))) x0 (pm_new (pm_setR h s1 67 (some s0)) 34 1024) hi) ?_
      exact pm_sub [0] rfl (ih.2.2.2.2.2.2.2.2.2.2.2.2.2.2.2.2.2.2.2.2.2.2.2.2.2.2.2.2.2.2.2.2.2.2.2.2.2.2.1 x0 (pm_sz (pm_setR h s1 67 (some s0))) x0 (pm_new (pm_setR h s1 67 (some s0)) 34 1024) ((m0.trans (pm_S3.le (pm_S3R K0))).trans (pm_Le_new _ _ _)) hi)
    refine ⟨fun x0 s0 s1 h m0 hf => ?_, ?_⟩
    · have le0 := (mlX16_init (n + 1)).2.2.2.2.2.2.2.2.2.2.2.2.2.2.2.2.2.2.2.2.2.2.2.2.2.2.2.2.2.2.2.2.2.2.2.2.2.2.1 x0 s0 s1 h hf
      have kc1 := Nat.sub_le_sub_right le0.1 (pm_sz h0)
      have kc2 := Nat.sub_le_sub_right le0.2 (pm_us h0)
      have K0 := pm_S3.rf h
      obtain ⟨y, hf, hi⟩ := pm_iter_s hf
      have hf : tX16_init_350 x0 s0 s1 h = some y := hf
      unfold tX16_init_350 at hf
      obtain ⟨k44, hf⟩ := pm_if hf
      refine pm_putRF C dX16_init_350 flX16_146 rfl nm rfl fwX16_146 rfl k44 ?_
      refine pm_aload_n C dX16_init_353 rfl rfl ?_
      refine pm_sipush (v := 1024) C dX16_init_354 (by decide) ?_
      cases hf
      refine pa_newa (hb := h) (h0 := h0) (t := 2) (N := 1024) C X (pm_S3R K0) m0 dX16_init_357 (by decide) rfl al2 (by decide) (by decide +kernel) (by decide +kernel) ((mlX16_init n).2.2.2.2.2.2.2.2.2.2.2.2.2.2.2.2.2.2.2.2.2.2.2.2.2.2.2.2.2.2.2.2.2.2.2.2.2.2.2.1 x0 (pm_sz (pm_setR h s1 68 (some s0))) x0 (pm_new (pm_setR h s1 68 (some s0)) 34 1024) hi) ?_
      exact pm_sub [0] rfl (ih.2.2.2.2.2.2.2.2.2.2.2.2.2.2.2.2.2.2.2.2.2.2.2.2.2.2.2.2.2.2.2.2.2.2.2.2.2.2.2.1 x0 (pm_sz (pm_setR h s1 68 (some s0))) x0 (pm_new (pm_setR h s1 68 (some s0)) 34 1024) ((m0.trans (pm_S3.le (pm_S3R K0))).trans (pm_Le_new _ _ _)) hi)
    refine ⟨fun x0 s0 s1 h m0 hf => ?_, ?_⟩
    · have le0 := (mlX16_init (n + 1)).2.2.2.2.2.2.2.2.2.2.2.2.2.2.2.2.2.2.2.2.2.2.2.2.2.2.2.2.2.2.2.2.2.2.2.2.2.2.2.1 x0 s0 s1 h hf
      have kc1 := Nat.sub_le_sub_right le0.1 (pm_sz h0)
      have kc2 := Nat.sub_le_sub_right le0.2 (pm_us h0)
      have K0 := pm_S3.rf h
      obtain ⟨y, hf, hi⟩ := pm_iter_s hf
      have hf : tX16_init_359 x0 s0 s1 h = some y := hf
      unfold tX16_init_359 at hf
      obtain ⟨k45, hf⟩ := pm_if hf
      refine pm_putRF C dX16_init_359 flX16_149 rfl nm rfl fwX16_149 rfl k45 ?_
      refine pm_aload_n C dX16_init_362 rfl rfl ?_
      refine pm_sipush (v := 1024) C dX16_init_363 (by decide) ?_
      cases hf
      refine pa_newa (hb := h) (h0 := h0) (t := 0) (N := 1024) C X (pm_S3R K0) m0 dX16_init_366 (by decide) rfl al0 (by decide) (by decide +kernel) (by decide +kernel) ((mlX16_init n).2.2.2.2.2.2.2.2.2.2.2.2.2.2.2.2.2.2.2.2.2.2.2.2.2.2.2.2.2.2.2.2.2.2.2.2.2.2.2.2.1 x0 (pm_sz (pm_setR h s1 69 (some s0))) x0 (pm_new (pm_setR h s1 69 (some s0)) 32 1024) hi) ?_
      exact pm_sub [0] rfl (ih.2.2.2.2.2.2.2.2.2.2.2.2.2.2.2.2.2.2.2.2.2.2.2.2.2.2.2.2.2.2.2.2.2.2.2.2.2.2.2.2.1 x0 (pm_sz (pm_setR h s1 69 (some s0))) x0 (pm_new (pm_setR h s1 69 (some s0)) 32 1024) ((m0.trans (pm_S3.le (pm_S3R K0))).trans (pm_Le_new _ _ _)) hi)
    refine ⟨fun x0 s0 s1 h m0 hf => ?_, ?_⟩
    · have le0 := (mlX16_init (n + 1)).2.2.2.2.2.2.2.2.2.2.2.2.2.2.2.2.2.2.2.2.2.2.2.2.2.2.2.2.2.2.2.2.2.2.2.2.2.2.2.2.1 x0 s0 s1 h hf
      have kc1 := Nat.sub_le_sub_right le0.1 (pm_sz h0)
      have kc2 := Nat.sub_le_sub_right le0.2 (pm_us h0)
      have K0 := pm_S3.rf h
      obtain ⟨y, hf, hi⟩ := pm_iter_s hf
      have hf : tX16_init_368 x0 s0 s1 h = some y := hf
      unfold tX16_init_368 at hf
      obtain ⟨k46, hf⟩ := pm_if hf
      refine pm_putRF C dX16_init_368 flX16_152 rfl nm rfl fwX16_152 rfl k46 ?_
      refine pm_aload_n C dX16_init_371 rfl rfl ?_
      refine pm_sipush (v := 2048) C dX16_init_372 (by decide) ?_
      cases hf
      refine pa_newa (hb := h) (h0 := h0) (t := 2) (N := 2048) C X (pm_S3R K0) m0 dX16_init_375 (by decide) rfl al2 (by decide) (by decide +kernel) (by decide +kernel) ((mlX16_init n).2.2.2.2.2.2.2.2.2.2.2.2.2.2.2.2.2.2.2.2.2.2.2.2.2.2.2.2.2.2.2.2.2.2.2.2.2.2.2.2.2.1 x0 (pm_sz (pm_setR h s1 70 (some s0))) x0 (pm_new (pm_setR h s1 70 (some s0)) 34 2048) hi) ?_
      exact pm_sub [0] rfl (ih.2.2.2.2.2.2.2.2.2.2.2.2.2.2.2.2.2.2.2.2.2.2.2.2.2.2.2.2.2.2.2.2.2.2.2.2.2.2.2.2.2.1 x0 (pm_sz (pm_setR h s1 70 (some s0))) x0 (pm_new (pm_setR h s1 70 (some s0)) 34 2048) ((m0.trans (pm_S3.le (pm_S3R K0))).trans (pm_Le_new _ _ _)) hi)
    refine ⟨fun x0 s0 s1 h m0 hf => ?_, ?_⟩
    · have le0 := (mlX16_init (n + 1)).2.2.2.2.2.2.2.2.2.2.2.2.2.2.2.2.2.2.2.2.2.2.2.2.2.2.2.2.2.2.2.2.2.2.2.2.2.2.2.2.2.1 x0 s0 s1 h hf
      have kc1 := Nat.sub_le_sub_right le0.1 (pm_sz h0)
      have kc2 := Nat.sub_le_sub_right le0.2 (pm_us h0)
      have K0 := pm_S3.rf h
      obtain ⟨y, hf, hi⟩ := pm_iter_s hf
      have hf : tX16_init_377 x0 s0 s1 h = some y := hf
      unfold tX16_init_377 at hf
      obtain ⟨k47, hf⟩ := pm_if hf
      refine pm_putRF C dX16_init_377 flX16_155 rfl nm rfl fwX16_155 rfl k47 ?_
      refine pm_aload_n C dX16_init_380 rfl rfl ?_
      refine pm_bipush (v := 64) C dX16_init_381 (by decide) ?_
      cases hf
      refine pa_newa (hb := h) (h0 := h0) (t := 2) (N := 64) C X (pm_S3R K0) m0 dX16_init_383 (by decide) rfl al2 (by decide) (by decide +kernel) (by decide +kernel) ((mlX16_init n).2.2.2.2.2.2.2.2.2.2.2.2.2.2.2.2.2.2.2.2.2.2.2.2.2.2.2.2.2.2.2.2.2.2.2.2.2.2.2.2.2.2.1 x0 (pm_sz (pm_setR h s1 72 (some s0))) x0 (pm_new (pm_setR h s1 72 (some s0)) 34 64) hi) ?_
      exact pm_sub [0] rfl (ih.2.2.2.2.2.2.2.2.2.2.2.2.2.2.2.2.2.2.2.2.2.2.2.2.2.2.2.2.2.2.2.2.2.2.2.2.2.2.2.2.2.2.1 x0 (pm_sz (pm_setR h s1 72 (some s0))) x0 (pm_new (pm_setR h s1 72 (some s0)) 34 64) ((m0.trans (pm_S3.le (pm_S3R K0))).trans (pm_Le_new _ _ _)) hi)
    refine ⟨fun x0 s0 s1 h m0 hf => ?_, ?_⟩
    · have le0 := (mlX16_init (n + 1)).2.2.2.2.2.2.2.2.2.2.2.2.2.2.2.2.2.2.2.2.2.2.2.2.2.2.2.2.2.2.2.2.2.2.2.2.2.2.2.2.2.2.1 x0 s0 s1 h hf
      have kc1 := Nat.sub_le_sub_right le0.1 (pm_sz h0)
      have kc2 := Nat.sub_le_sub_right le0.2 (pm_us h0)
      have K0 := pm_S3.rf h
      obtain ⟨y, hf, hi⟩ := pm_iter_s hf
      have hf : tX16_init_385 x0 s0 s1 h = some y := hf
      unfold tX16_init_385 at hf
      obtain ⟨k48, hf⟩ := pm_if hf
      refine pm_putRF C dX16_init_385 flX16_158 rfl nm rfl fwX16_158 rfl k48 ?_
      refine pm_aload_n C dX16_init_388 rfl rfl ?_
      refine pm_bipush (v := 64) C dX16_init_389 (by decide) ?_
      cases hf
      refine pa_newa (hb := h) (h0 := h0) (t := 2) (N := 64) C X (pm_S3R K0) m0 dX16_init_391 (by decide) rfl al2 (by decide) (by decide +kernel) (by decide +kernel) ((mlX16_init n).2.2.2.2.2.2.2.2.2.2.2.2.2.2.2.2.2.2.2.2.2.2.2.2.2.2.2.2.2.2.2.2.2.2.2.2.2.2.2.2.2.2.2.1 x0 (pm_sz (pm_setR h s1 74 (some s0))) x0 (pm_new (pm_setR h s1 74 (some s0)) 34 64) hi) ?_
      exact pm_sub [0] rfl (ih.2.2.2.2.2.2.2.2.2.2.2.2.2.2.2.2.2.2.2.2.2.2.2.2.2.2.2.2.2.2.2.2.2.2.2.2.2.2.2.2.2.2.2.1 x0 (pm_sz (pm_setR h s1 74 (some s0))) x0 (pm_new (pm_setR h s1 74 (some s0)) 34 64) ((m0.trans (pm_S3.le (pm_S3R K0))).trans (pm_Le_new _ _ _)) hi)
    refine ⟨fun x0 s0 s1 h m0 hf => ?_, ?_⟩
    · have le0 := (mlX16_init (n + 1)).2.2.2.2.2.2.2.2.2.2.2.2.2.2.2.2.2.2.2.2.2.2.2.2.2.2.2.2.2.2.2.2.2.2.2.2.2.2.2.2.2.2.2.1 x0 s0 s1 h hf
      have kc1 := Nat.sub_le_sub_right le0.1 (pm_sz h0)
      have kc2 := Nat.sub_le_sub_right le0.2 (pm_us h0)
      have K0 := pm_S3.rf h
      obtain ⟨y, hf, hi⟩ := pm_iter_s hf
      have hf : tX16_init_393 x0 s0 s1 h = some y := hf
      unfold tX16_init_393 at hf
      obtain ⟨k49, hf⟩ := pm_if hf
      refine pm_putRF C dX16_init_393 flX16_161 rfl nm rfl fwX16_161 rfl k49 ?_
      refine pm_aload_n C dX16_init_396 rfl rfl ?_
      refine pm_iconst (v := (-1)) C dX16_init_397 (by decide) ?_
      obtain ⟨k50, hf⟩ := pm_if hf
      refine pm_putI C dX16_init_398 flX16_164 rfl rfl k50 rfl rfl ?_
      refine pm_aload_n C dX16_init_401 rfl rfl ?_
      refine pm_bipush (v := 16) C dX16_init_402 (by decide) ?_
      cases hf
      refine pa_newa (hb := h) (h0 := h0) (t := 3) (N := 16) C X (pm_S3I (pm_S3R K0)) m0 dX16_init_404 (by decide) rfl al3 (by decide) (by decide +kernel) (by decide +kernel) ((mlX16_init n).2.2.2.2.2.2.2.2.2.2.2.2.2.2.2.2.2.2.2.2.2.2.2.2.2.2.2.2.2.2.2.2.2.2.2.2.2.2.2.2.2.2.2.2.1 x0 (pm_sz (pm_setI (pm_setR h s1 75 (some s0)) x0 79 (-1))) x0 (pm_new (pm_setI (pm_setR h s1 75 (some s0)) x0 79 (-1)) 35 16) hi) ?_
      exact pm_sub [0] rfl (ih.2.2.2.2.2.2.2.2.2.2.2.2.2.2.2.2.2.2.2.2.2.2.2.2.2.2.2.2.2.2.2.2.2.2.2.2.2.2.2.2.2.2.2.2.1 x0 (pm_sz (pm_setI (pm_setR h s1 75 (some s0)) x0 79 (-1))) x0 (pm_new (pm_setI (pm_setR h s1 75 (some s0)) x0 79 (-1)) 35 16) ((m0.trans (pm_S3.le (pm_S3I (pm_S3R K0)))).trans (pm_Le_new _ _ _)) hi)
    refine ⟨fun x0 s0 s1 h m0 hf => ?_, ?_⟩
    · have le0 := (mlX16_init (n + 1)).2.2.2.2.2.2.2.2.2.2.2.2.2.2.2.2.2.2.2.2.2.2.2.2.2.2.2.2.2.2.2.2.2.2.2.2.2.2.2.2.2.2.2.2.1 x0 s0 s1 h hf
      have kc1 := Nat.sub_le_sub_right le0.1 (pm_sz h0)
      have kc2 := Nat.sub_le_sub_right le0.2 (pm_us h0)
      have K0 := pm_S3.rf h
      obtain ⟨y, hf, hi⟩ := pm_iter_s hf
      have hf : tX16_init_406 x0 s0 s1 h = some y := hf
      unfold tX16_init_406 at hf
      obtain ⟨k51, hf⟩ := pm_if hf
      refine pm_putRF C dX16_init_406 flX16_167 rfl nm rfl fwX16_167 rfl k51 ?_
      refine pm_aload_n C dX16_init_409 rfl rfl ?_
      refine pm_bipush (v := 16) C dX16_init_410 (by decide) ?_
      cases hf
      refine pa_newa (hb := h) (h0 := h0) (t := 3) (N := 16) C X (pm_S3R K0) m0 dX16_init_412 (by decide) rfl al3 (by decide) (by decide +kernel) (by decide +kernel) ((mlX16_init n).2.2.2.2.2.2.2.2.2.2.2.2.2.2.2.2.2.2.2.2.2.2.2.2.2.2.2.2.2.2.2.2.2.2.2.2.2.2.2.2.2.2.2.2.2.1 x0 (pm_sz (pm_setR h s1 82 (some s0))) x0 (pm_new (pm_setR h s1 82 (some s0)) 35 16) hi) ?_
      exact pm_sub [0] rfl (ih.2.2.2.2.2.2.2.2.2.2.2.2.2.2.2.2.2.2.2.2.2.2.2.2.2.2.2.2.2.2.2.2.2.2.2.2.2.2.2.2.2.2.2.2.2.1 x0 (pm_sz (pm_setR h s1 82 (some s0))) x0 (pm_new (pm_setR h s1 82 (some s0)) 35 16) ((m0.trans (pm_S3.le (pm_S3R K0))).trans (pm_Le_new _ _ _)) hi)
    refine ⟨fun x0 s0 s1 h m0 hf => ?_, ?_⟩
    · have le0 := (mlX16_init (n + 1)).2.2.2.2.2.2.2.2.2.2.2.2.2.2.2.2.2.2.2.2.2.2.2.2.2.2.2.2.2.2.2.2.2.2.2.2.2.2.2.2.2.2.2.2.2.1 x0 s0 s1 h hf
      have kc1 := Nat.sub_le_sub_right le0.1 (pm_sz h0)
      have kc2 := Nat.sub_le_sub_right le0.2 (pm_us h0)
      have K0 := pm_S3.rf h
      obtain ⟨y, hf, hi⟩ := pm_iter_s hf
      have hf : tX16_init_414 x0 s0 s1 h = some y := hf
      unfold tX16_init_414 at hf
      obtain ⟨k52, hf⟩ := pm_if hf
      refine pm_putRF C dX16_init_414 flX16_170 rfl nm rfl fwX16_170 rfl k52 ?_
      refine pm_aload_n C dX16_init_417 rfl rfl ?_
      refine pm_sipush (v := 200) C dX16_init_418 (by decide) ?_
      cases hf
      refine pa_newa (hb := h) (h0 := h0) (t := 2) (N := 200) C X (pm_S3R K0) m0 dX16_init_421 (by decide) rfl al2 (by decide) (by decide +kernel) (by decide +kernel) ((mlX16_init n).2.2.2.2.2.2.2.2.2.2.2.2.2.2.2.2.2.2.2.2.2.2.2.2.2.2.2.2.2.2.2.2.2.2.2.2.2.2.2.2.2.2.2.2.2.2.1 x0 (pm_sz (pm_setR h s1 84 (some s0))) x0 (pm_new (pm_setR h s1 84 (some s0)) 34 200) hi) ?_
      exact pm_sub [0] rfl (ih.2.2.2.2.2.2.2.2.2.2.2.2.2.2.2.2.2.2.2.2.2.2.2.2.2.2.2.2.2.2.2.2.2.2.2.2.2.2.2.2.2.2.2.2.2.2.1 x0 (pm_sz (pm_setR h s1 84 (some s0))) x0 (pm_new (pm_setR h s1 84 (some s0)) 34 200) ((m0.trans (pm_S3.le (pm_S3R K0))).trans (pm_Le_new _ _ _)) hi)
    refine ⟨fun x0 s0 s1 h m0 hf => ?_, ?_⟩
    · have le0 := (mlX16_init (n + 1)).2.2.2.2.2.2.2.2.2.2.2.2.2.2.2.2.2.2.2.2.2.2.2.2.2.2.2.2.2.2.2.2.2.2.2.2.2.2.2.2.2.2.2.2.2.2.1 x0 s0 s1 h hf
      have kc1 := Nat.sub_le_sub_right le0.1 (pm_sz h0)
      have kc2 := Nat.sub_le_sub_right le0.2 (pm_us h0)
      have K0 := pm_S3.rf h
      obtain ⟨y, hf, hi⟩ := pm_iter_s hf
      have hf : tX16_init_423 x0 s0 s1 h = some y := hf
      unfold tX16_init_423 at hf
      obtain ⟨k53, hf⟩ := pm_if hf
      refine pm_putRF C dX16_init_423 flX16_173 rfl nm rfl fwX16_173 rfl k53 ?_
      refine pm_aload_n C dX16_init_426 rfl rfl ?_
      refine pm_sipush (v := 200) C dX16_init_427 (by decide) ?_
      cases hf
      refine pa_newa (hb := h) (h0 := h0) (t := 2) (N := 200) C X (pm_S3R K0) m0 dX16_init_430 (by decide) rfl al2 (by decide) (by decide +kernel) (by decide +kernel) ((mlX16_init n).2.2.2.2.2.2.2.2.2.2.2.2.2.2.2.2.2.2.2.2.2.2.2.2.2.2.2.2.2.2.2.2.2.2.2.2.2.2.2.2.2.2.2.2.2.2.2.1 x0 (pm_sz (pm_setR h s1 86 (some s0))) x0 (pm_new (pm_setR h s1 86 (some s0)) 34 200) hi) ?_
      exact pm_sub [0] rfl (ih.2.2.2.2.2.2.2.2.2.2.2.2.2.2.2.2.2.2.2.2.2.2.2.2.2.2.2.2.2.2.2.2.2.2.2.2.2.2.2.2.2.2.2.2.2.2.2.1 x0 (pm_sz (pm_setR h s1 86 (some s0))) x0 (pm_new (pm_setR h s1 86 (some s0)) 34 200) ((m0.trans (pm_S3.le (pm_S3R K0))).trans (pm_Le_new _ _ _)) hi)
    refine ⟨fun x0 s0 s1 h m0 hf => ?_, ?_⟩
    · have le0 := (mlX16_init (n + 1)).2.2.2.2.2.2.2.2.2.2.2.2.2.2.2.2.2.2.2.2.2.2.2.2.2.2.2.2.2.2.2.2.2.2.2.2.2.2.2.2.2.2.2.2.2.2.2.1 x0 s0 s1 h hf
      have kc1 := Nat.sub_le_sub_right le0.1 (pm_sz h0)
      have kc2 := Nat.sub_le_sub_right le0.2 (pm_us h0)
      have K0 := pm_S3.rf h
      obtain ⟨y, hf, hi⟩ := pm_iter_s hf
      have hf : tX16_init_432 x0 s0 s1 h = some y := hf
      unfold tX16_init_432 at hf
      obtain ⟨k54, hf⟩ := pm_if hf
      refine pm_putRF C dX16_init_432 flX16_176 rfl nm rfl fwX16_176 rfl k54 ?_
      refine pm_aload_n C dX16_init_435 rfl rfl ?_
      refine pm_sipush (v := 200) C dX16_init_436 (by decide) ?_
      cases hf
      refine pa_newa (hb := h) (h0 := h0) (t := 2) (N := 200) C X (pm_S3R K0) m0 dX16_init_439 (by decide) rfl al2 (by decide) (by decide +kernel) (by decide +kernel) ((mlX16_init n).2.2.2.2.2.2.2.2.2.2.2.2.2.2.2.2.2.2.2.2.2.2.2.2.2.2.2.2.2.2.2.2.2.2.2.2.2.2.2.2.2.2.2.2.2.2.2.2.1 x0 (pm_sz (pm_setR h s1 87 (some s0))) x0 (pm_new (pm_setR h s1 87 (some s0)) 34 200) hi) ?_
      exact pm_sub [0] rfl (ih.2.2.2.2.2.2.2.2.2.2.2.2.2.2.2.2.2.2.2.2.2.2.2.2.2.2.2.2.2.2.2.2.2.2.2.2.2.2.2.2.2.2.2.2.2.2.2.2.1 x0 (pm_sz (pm_setR h s1 87 (some s0))) x0 (pm_new (pm_setR h s1 87 (some s0)) 34 200) ((m0.trans (pm_S3.le (pm_S3R K0))).trans (pm_Le_new _ _ _)) hi)
    refine ⟨fun x0 s0 s1 h m0 hf => ?_, ?_⟩
    · have le0 := (mlX16_init (n + 1)).2.2.2.2.2.2.2.2.2.2.2.2.2.2.2.2.2.2.2.2.2.2.2.2.2.2.2.2.2.2.2.2.2.2.2.2.2.2.2.2.2.2.2.2.2.2.2.2.1 x0 s0 s1 h hf
      have kc1 := Nat.sub_le_sub_right le0.1 (pm_sz h0)
      have kc2 := Nat.sub_le_sub_right le0.2 (pm_us h0)
      have K0 := pm_S3.rf h
      obtain ⟨y, hf, hi⟩ := pm_iter_s hf
      have hf : tX16_init_441 x0 s0 s1 h = some y := hf
      unfold tX16_init_441 at hf
      obtain ⟨k55, hf⟩ := pm_if hf
      refine pm_putRF C dX16_init_441 flX16_179 rfl nm rfl fwX16_179 rfl k55 ?_
      refine pm_aload_n C dX16_init_444 rfl rfl ?_
      refine pm_sipush (v := 200) C dX16_init_445 (by decide) ?_
      cases hf
      refine pa_newa (hb := h) (h0 := h0) (t := 2) (N := 200) C X (pm_S3R K0) m0 dX16_init_448 (by decide) rfl al2 (by decide) (by decide +kernel) (by decide +kernel) ((mlX16_init n).2.2.2.2.2.2.2.2.2.2.2.2.2.2.2.2.2.2.2.2.2.2.2.2.2.2.2.2.2.2.2.2.2.2.2.2.2.2.2.2.2.2.2.2.2.2.2.2.2.1 x0 (pm_sz (pm_setR h s1 88 (some s0))) x0 (pm_new (pm_setR h s1 88 (some s0)) 34 200) hi) ?_
      exact pm_sub [0] rfl (ih.2.2.2.2.2.2.2.2.2.2.2.2.2.2.2.2.2.2.2.2.2.2.2.2.2.2.2.2.2.2.2.2.2.2.2.2.2.2.2.2.2.2.2.2.2.2.2.2.2.1 x0 (pm_sz (pm_setR h s1 88 (some s0))) x0 (pm_new (pm_setR h s1 88 (some s0)) 34 200) ((m0.trans (pm_S3.le (pm_S3R K0))).trans (pm_Le_new _ _ _)) hi)
    refine ⟨fun x0 s0 s1 h m0 hf => ?_, ?_⟩
    · have le0 := (mlX16_init (n + 1)).2.2.2.2.2.2.2.2.2.2.2.2.2.2.2.2.2.2.2.2.2.2.2.2.2.2.2.2.2.2.2.2.2.2.2.2.2.2.2.2.2.2.2.2.2.2.2.2.2.1 x0 s0 s1 h hf
      have kc1 := Nat.sub_le_sub_right le0.1 (pm_sz h0)
      have kc2 := Nat.sub_le_sub_right le0.2 (pm_us h0)
      have K0 := pm_S3.rf h
      obtain ⟨y, hf, hi⟩ := pm_iter_s hf
      have hf : tX16_init_450 x0 s0 s1 h = some y := hf
      unfold tX16_init_450 at hf
      obtain ⟨k56, hf⟩ := pm_if hf
      refine pm_putRF C dX16_init_450 flX16_182 rfl nm rfl fwX16_182 rfl k56 ?_
      refine pm_aload_n C dX16_init_453 rfl rfl ?_
      refine pm_sipush (v := 200) C dX16_init_454 (by decide) ?_
      cases hf
      refine pa_newa (hb := h) (h0 := h0) (t := 2) (N := 200) C X (pm_S3R K0) m0 dX16_init_457 (by decide) rfl al2 (by decide) (by decide +kernel) (by decide +kernel) ((mlX16_init n).2.2.2.2.2.2.2.2.2.2.2.2.2.2.2.2.2.2.2.2.2.2.2.2.2.2.2.2.2.2.2.2.2.2.2.2.2.2.2.2.2.2.2.2.2.2.2.2.2.2.1 x0 (pm_sz (pm_setR h s1 89 (some s0))) x0 (pm_new (pm_setR h s1 89 (some s0)) 34 200) hi) ?_
      exact pm_sub [0] rfl (ih.2.2.2.2.2.2.2.2.2.2.2.2.2.2.2.2.2.2.2.2.2.2.2.2.2.2.2.2.2.2.2.2.2.2.2.2.2.2.2.2.2.2.2.2.2.2.2.2.2.2.1 x0 (pm_sz (pm_setR h s1 89 (some s0))) x0 (pm_new (pm_setR h s1 89 (some s0)) 34 200) ((m0.trans (pm_S3.le (pm_S3R K0))).trans (pm_Le_new _ _ _)) hi)
    refine ⟨fun x0 s0 s1 h m0 hf => ?_, ?_⟩
    · have le0 := (mlX16_init (n + 1)).2.2.2.2.2.2.2.2.2.2.2.2.2.2.2.2.2.2.2.2.2.2.2.2.2.2.2.2.2.2.2.2.2.2.2.2.2.2.2.2.2.2.2.2.2.2.2.2.2.2.1 x0 s0 s1 h hf
      have kc1 := Nat.sub_le_sub_right le0.1 (pm_sz h0)
      have kc2 := Nat.sub_le_sub_right le0.2 (pm_us h0)
      have K0 := pm_S3.rf h
      obtain ⟨y, hf, hi⟩ := pm_iter_s hf
      have hf : tX16_init_459 x0 s0 s1 h = some y := hf
      unfold tX16_init_459 at hf
      obtain ⟨k57, hf⟩ := pm_if hf
      refine pm_putRF C dX16_init_459 flX16_185 rfl nm rfl fwX16_185 rfl k57 ?_
      refine pm_aload_n C dX16_init_462 rfl rfl ?_
      refine pm_sipush (v := 200) C dX16_init_463 (by decide) ?_
      cases hf
      refine pa_newa (hb := h) (h0 := h0) (t := 2) (N := 200) C X (pm_S3R K0) m0 dX16_init_466 (by decide) rfl al2 (by decide) (by decide +kernel) (by decide +kernel) ((mlX16_init n).2.2.2.2.2.2.2.2.2.2.2.2.2.2.2.2.2.2.2.2.2.2.2.2.2.2.2.2.2.2.2.2.2.2.2.2.2.2.2.2.2.2.2.2.2.2.2.2.2.2.2.1 x0 (pm_sz (pm_setR h s1 90 (some s0))) x0 (pm_new (pm_setR h s1 90 (some s0)) 34 200) hi) ?_
      exact pm_sub [0] rfl (ih.2.2.2.2.2.2.2.2.2.2.2.2.2.2.2.2.2.2.2.2.2.2.2.2.2.2.2.2.2.2.2.2.2.2.2.2.2.2.2.2.2.2.2.2.2.2.2.2.2.2.2.1 x0 (pm_sz (pm_setR h s1 90 (some s0))) x0 (pm_new (pm_setR h s1 90 (some s0)) 34 200) ((m0.trans (pm_S3.le (pm_S3R K0))).trans (pm_Le_new _ _ _)) hi)
    refine ⟨fun x0 s0 s1 h m0 hf => ?_, ?_⟩
    · have le0 := (mlX16_init (n + 1)).2.2.2.2.2.2.2.2.2.2.2.2.2.2.2.2.2.2.2.2.2.2.2.2.2.2.2.2.2.2.2.2.2.2.2.2.2.2.2.2.2.2.2.2.2.2.2.2.2.2.2.1 x0 s0 s1 h hf
      have kc1 := Nat.sub_le_sub_right le0.1 (pm_sz h0)
      have kc2 := Nat.sub_le_sub_right le0.2 (pm_us h0)
      have K0 := pm_S3.rf h
      obtain ⟨y, hf, hi⟩ := pm_iter_s hf
      have hf : tX16_init_468 x0 s0 s1 h = some y := hf
      unfold tX16_init_468 at hf
      obtain ⟨k58, hf⟩ := pm_if hf
      refine pm_putRF C dX16_init_468 flX16_188 rfl nm rfl fwX16_188 rfl k58 ?_
      refine pm_aload_n C dX16_init_471 rfl rfl ?_
      refine pm_sipush (v := 4096) C dX16_init_472 (by decide) ?_
      cases hf
      refine pa_newa (hb := h) (h0 := h0) (t := 3) (N := 4096) C X (pm_S3R K0) m0 dX16_init_475 (by decide) rfl al3 (by decide) (by decide +kernel) (by decide +kernel) ((mlX16_init n).2.2.2.2.2.2.2.2.2.2.2.2.2.2.2.2.2.2.2.2.2.2.2.2.2.2.2.2.2.2.2.2.2.2.2.2.2.2.2.2.2.2.2.2.2.2.2.2.2.2.2.2.1 x0 (pm_sz (pm_setR h s1 91 (some s0))) x0 (pm_new (pm_setR h s1 91 (some s0)) 35 4096) hi) ?_
      exact pm_sub [0] rfl (ih.2.2.2.2.2.2.2.2.2.2.2.2.2.2.2.2.2.2.2.2.2.2.2.2.2.2.2.2.2.2.2.2.2.2.2.2.2.2.2.2.2.2.2.2.2.2.2.2.2.2.2.2.1 x0 (pm_sz (pm_setR h s1 91 (some s0))) x0 (pm_new (pm_setR h s1 91 (some s0)) 35 4096) ((m0.trans (pm_S3.le (pm_S3R K0))).trans (pm_Le_new _ _ _)) hi)
    refine ⟨fun x0 s0 s1 h m0 hf => ?_, ?_⟩
    · have le0 := (mlX16_init (n + 1)).2.2.2.2.2.2.2.2.2.2.2.2.2.2.2.2.2.2.2.2.2.2.2.2.2.2.2.2.2.2.2.2.2.2.2.2.2.2.2.2.2.2.2.2.2.2.2.2.2.2.2.2.1 x0 s0 s1 h hf
      have kc1 := Nat.sub_le_sub_right le0.1 (pm_sz h0)
      have kc2 := Nat.sub_le_sub_right le0.2 (pm_us h0)
      have K0 := pm_S3.rf h
      obtain ⟨y, hf, hi⟩ := pm_iter_s hf
      have hf : tX16_init_477 x0 s0 s1 h = some y := hf
      unfold tX16_init_477 at hf
      obtain ⟨k59, hf⟩ := pm_if hf
      refine pm_putRF C dX16_init_477 flX16_191 rfl nm rfl fwX16_191 rfl k59 ?_
      refine pm_aload_n C dX16_init_480 rfl rfl ?_
      refine pm_ldc C dX16_init_481 cnX16_194 ?_
      cases hf
      refine pa_newa (hb := h) (h0 := h0) (t := 2) (N := 40000) C X (pm_S3R K0) m0 dX16_init_483 (by decide) rfl al2 (by decide) (by decide +kernel) (by decide +kernel) ((mlX16_init n).2.2.2.2.2.2.2.2.2.2.2.2.2.2.2.2.2.2.2.2.2.2.2.2.2.2.2.2.2.2.2.2.2.2.2.2.2.2.2.2.2.2.2.2.2.2.2.2.2.2.2.2.2.1 x0 (pm_sz (pm_setR h s1 92 (some s0))) x0 (pm_new (pm_setR h s1 92 (some s0)) 34 40000) hi) ?_
      exact pm_sub [0] rfl (ih.2.2.2.2.2.2.2.2.2.2.2.2.2.2.2.2.2.2.2.2.2.2.2.2.2.2.2.2.2.2.2.2.2.2.2.2.2.2.2.2.2.2.2.2.2.2.2.2.2.2.2.2.2.1 x0 (pm_sz (pm_setR h s1 92 (some s0))) x0 (pm_new (pm_setR h s1 92 (some s0)) 34 40000) ((m0.trans (pm_S3.le (pm_S3R K0))).trans (pm_Le_new _ _ _)) hi)
    refine ⟨fun x0 s0 s1 h m0 hf => ?_, ?_⟩
    · have le0 := (mlX16_init (n + 1)).2.2.2.2.2.2.2.2.2.2.2.2.2.2.2.2.2.2.2.2.2.2.2.2.2.2.2.2.2.2.2.2.2.2.2.2.2.2.2.2.2.2.2.2.2.2.2.2.2.2.2.2.2.1 x0 s0 s1 h hf
      have kc1 := Nat.sub_le_sub_right le0.1 (pm_sz h0)
      have kc2 := Nat.sub_le_sub_right le0.2 (pm_us h0)
      have K0 := pm_S3.rf h
      obtain ⟨y, hf, hi⟩ := pm_iter_s hf
      have hf : tX16_init_485 x0 s0 s1 h = some y := hf
      unfold tX16_init_485 at hf
      obtain ⟨k60, hf⟩ := pm_if hf
      refine pm_putRF C dX16_init_485 flX16_195 rfl nm rfl fwX16_195 rfl k60 ?_
      refine pm_aload_n C dX16_init_488 rfl rfl ?_
      refine pm_ldc C dX16_init_489 cnX16_194 ?_
      cases hf
      refine pa_newa (hb := h) (h0 := h0) (t := 2) (N := 40000) C X (pm_S3R K0) m0 dX16_init_491 (by decide) rfl al2 (by decide) (by decide +kernel) (by decide +kernel) ((mlX16_init n).2.2.2.2.2.2.2.2.2.2.2.2.2.2.2.2.2.2.2.2.2.2.2.2.2.2.2.2.2.2.2.2.2.2.2.2.2.2.2.2.2.2.2.2.2.2.2.2.2.2.2.2.2.2.1 x0 (pm_sz (pm_setR h s1 97 (some s0))) x0 (pm_new (pm_setR h s1 97 (some s0)) 34 40000) hi) ?_
      exact pm_sub [0] rfl (ih.2.2.2.2.2.2.2.2.2.2.2.2.2.2.2.2.2.2.2.2.2.2.2.2.2.2.2.2.2.2.2.2.2.2.2.2.2.2.2.2.2.2.2.2.2.2.2.2.2.2.2.2.2.2.1 x0 (pm_sz (pm_setR h s1 97 (some s0))) x0 (pm_new (pm_setR h s1 97 (some s0)) 34 40000) ((m0.trans (pm_S3.le (pm_S3R K0))).trans (pm_Le_new _ _ _)) hi)
    refine ⟨fun x0 s0 s1 h m0 hf => ?_, ?_⟩
    · have le0 := (mlX16_init (n + 1)).2.2.2.2.2.2.2.2.2.2.2.2.2.2.2.2.2.2.2.2.2.2.2.2.2.2.2.2.2.2.2.2.2.2.2.2.2.2.2.2.2.2.2.2.2.2.2.2.2.2.2.2.2.2.1 x0 s0 s1 h hf
      have kc1 := Nat.sub_le_sub_right le0.1 (pm_sz h0)
      have kc2 := Nat.sub_le_sub_right le0.2 (pm_us h0)
      have K0 := pm_S3.rf h
      obtain ⟨y, hf, hi⟩ := pm_iter_s hf
      have hf : tX16_init_493 x0 s0 s1 h = some y := hf
      unfold tX16_init_493 at hf
      obtain ⟨k61, hf⟩ := pm_if hf
      refine pm_putRF C dX16_init_493 flX16_198 rfl nm rfl fwX16_198 rfl k61 ?_
      refine pm_aload_n C dX16_init_496 rfl rfl ?_
      refine pm_ldc C dX16_init_497 cnX16_194 ?_
      cases hf
      refine pa_newa (hb := h) (h0 := h0) (t := 2) (N := 40000) C X (pm_S3R K0) m0 dX16_init_499 (by decide) rfl al2 (by decide) (by decide +kernel) (by decide +kernel) ((mlX16_init n).2.2.2.2.2.2.2.2.2.2.2.2.2.2.2.2.2.2.2.2.2.2.2.2.2.2.2.2.2.2.2.2.2.2.2.2.2.2.2.2.2.2.2.2.2.2.2.2.2.2.2.2.2.2.2.1 x0 (pm_sz (pm_setR h s1 98 (some s0))) x0 (pm_new (pm_setR h s1 98 (some s0)) 34 40000) hi) ?_
      exact pm_sub [0] rfl (ih.2.2.2.2.2.2.2.2.2.2.2.2.2.2.2.2.2.2.2.2.2.2.2.2.2.2.2.2.2.2.2.2.2.2.2.2.2.2.2.2.2.2.2.2.2.2.2.2.2.2.2.2.2.2.2.1 x0 (pm_sz (pm_setR h s1 98 (some s0))) x0 (pm_new (pm_setR h s1 98 (some s0)) 34 40000) ((m0.trans (pm_S3.le (pm_S3R K0))).trans (pm_Le_new _ _ _)) hi)
    refine ⟨fun x0 s0 s1 h m0 hf => ?_, ?_⟩
    · have le0 := (mlX16_init (n + 1)).2.2.2.2.2.2.2.2.2.2.2.2.2.2.2.2.2.2.2.2.2.2.2.2.2.2.2.2.2.2.2.2.2.2.2.2.2.2.2.2.2.2.2.2.2.2.2.2.2.2.2.2.2.2.2.1 x0 s0 s1 h hf
      have kc1 := Nat.sub_le_sub_right le0.1 (pm_sz h0)
      have kc2 := Nat.sub_le_sub_right le0.2 (pm_us h0)
      have K0 := pm_S3.rf h
      obtain ⟨y, hf, hi⟩ := pm_iter_s hf
      have hf : tX16_init_501 x0 s0 s1 h = some y := hf
      unfold tX16_init_501 at hf
      obtain ⟨k62, hf⟩ := pm_if hf
      refine pm_putRF C dX16_init_501 flX16_201 rfl nm rfl fwX16_201 rfl k62 ?_
      refine pm_aload_n C dX16_init_504 rfl rfl ?_
      refine pm_ldc C dX16_init_505 cnX16_194 ?_
      cases hf
      refine pa_newa (hb := h) (h0 := h0) (t := 0) (N := 40000) C X (pm_S3R K0) m0 dX16_init_507 (by decide) rfl al0 (by decide) (by decide +kernel) (by decide +kernel) ((mlX16_init n).2.2.2.2.2.2.2.2.2.2.2.2.2.2.2.2.2.2.2.2.2.2.2.2.2.2.2.2.2.2.2.2.2.2.2.2.2.2.2.2.2.2.2.2.2.2.2.2.2.2.2.2.2.2.2.2.1 x0 (pm_sz (pm_setR h s1 99 (some s0))) x0 (pm_new (pm_setR h s1 99 (some s0)) 32 40000) hi) ?_
      exact pm_sub [0] rfl (ih.2.2.2.2.2.2.2.2.2.2.2.2.2.2.2.2.2.2.2.2.2.2.2.2.2.2.2.2.2.2.2.2.2.2.2.2.2.2.2.2.2.2.2.2.2.2.2.2.2.2.2.2.2.2.2.2.1 x0 (pm_sz (pm_setR h s1 99 (some s0))) x0 (pm_new (pm_setR h s1 99 (some s0)) 32 40000) ((m0.trans (pm_S3.le (pm_S3R K0))).trans (pm_Le_new _ _ _)) hi)
    refine ⟨fun x0 s0 s1 h m0 hf => ?_, ?_⟩
    · have le0 := (mlX16_init (n + 1)).2.2.2.2.2.2.2.2.2.2.2.2.2.2.2.2.2.2.2.2.2.2.2.2.2.2.2.2.2.2.2.2.2.2.2.2.2.2.2.2.2.2.2.2.2.2.2.2.2.2.2.2.2.2.2.2.1 x0 s0 s1 h hf
      have kc1 := Nat.sub_le_sub_right le0.1 (pm_sz h0)
      have kc2 := Nat.sub_le_sub_right le0.2 (pm_us h0)
      have K0 := pm_S3.rf h
      obtain ⟨y, hf, hi⟩ := pm_iter_s hf
      have hf : tX16_init_509 x0 s0 s1 h = some y := hf
      unfold tX16_init_509 at hf
      obtain ⟨k63, hf⟩ := pm_if hf
      refine pm_putRF C dX16_init_509 flX16_204 rfl nm rfl fwX16_204 rfl k63 ?_
      refine pm_iconst (v := 0) C dX16_init_512 (by decide) ?_
      refine pm_istore_n (lv' := [(1, .int 0), (0, .ref x0)]) C dX16_init_513 rfl (pm_nl X (by decide)) rfl ?_
      cases hf
      exact pa_join (pm_S3R K0) (pm_sub [1, 0] rfl (ih.2.2.2.2.2.2.2.2.2.2.2.2.2.2.2.2.2.2.2.2.2.2.2.2.2.2.2.2.2.2.2.2.2.2.2.2.2.2.2.2.2.2.2.2.2.2.2.2.2.2.2.2.2.2.2.2.2 x0 0 (pm_setR h s1 100 (some s0)) (m0.trans (pm_S3.le (pm_S3R K0))) hi))
    refine fun x0 x1 h m0 hf => ?_
    have le0 := (mlX16_init (n + 1)).2.2.2.2.2.2.2.2.2.2.2.2.2.2.2.2.2.2.2.2.2.2.2.2.2.2.2.2.2.2.2.2.2.2.2.2.2.2.2.2.2.2.2.2.2.2.2.2.2.2.2.2.2.2.2.2.2 x0 x1 h hf
    have kc1 := Nat.sub_le_sub_right le0.1 (pm_sz h0)
    have kc2 := Nat.sub_le_sub_right le0.2 (pm_us h0)
    have K0 := pm_S3.rf h
    obtain ⟨y, hf, hi⟩ := pm_iter_s hf
    have hf : tX16_init_514 x0 x1 h = some y := hf
    unfold tX16_init_514 at hf
    refine pm_iload_n C dX16_init_514 rfl rfl ?_
    refine pm_sipush (v := 512) C dX16_init_515 (by decide) ?_
    refine pm_icmp_ge (tgt := 534) C dX16_init_518 (by decide) (fun c64 => ?_) (fun c64 => ?_)
    · have hf := pm_it hf c64
      have hf := Option.some.inj hf
      subst hf
      have hi := Option.some.inj (show some _ = some r from hi)
      subst hi
      exact pm_vret C X dX16_init_534 rfl kc1 kc2 q
    · have hf := pm_ie hf c64
      refine pm_aload_n C dX16_init_521 rfl rfl ?_
      obtain ⟨k65, hf⟩ := pm_if hf
      obtain ⟨v66, e67, hf⟩ := pm_bd hf
      refine pm_getR C dX16_init_522 flX16_80 rfl k65 e67 ?_
      refine pm_iload_n C dX16_init_525 rfl rfl ?_
      refine pm_iconst (v := (-1)) C dX16_init_526 (by decide) ?_
      obtain ⟨k68, hf⟩ := pm_if hf
      obtain ⟨u69, hf⟩ := pm_if hf
      refine pm_iast C dX16_init_527 k68 u69 ?_
      obtain ⟨y70, e71, hf⟩ := pm_lt hf
      refine pm_iinc (v := y70) (lv' := [(1, .int y70), (0, .ref x0)]) C dX16_init_528 rfl ((congrArg (x1 + ·) (by decide : Int32.ofInt 1 = 1)).trans e71) (pm_nl X (by decide)) rfl ?_
      refine pm_goto (tgt := 514) C dX16_init_531 (by decide) ?_
      cases hf
      exact pa_join (pm_S3I K0) (pm_sub [1, 0] rfl (ih.2.2.2.2.2.2.2.2.2.2.2.2.2.2.2.2.2.2.2.2.2.2.2.2.2.2.2.2.2.2.2.2.2.2.2.2.2.2.2.2.2.2.2.2.2.2.2.2.2.2.2.2.2.2.2.2.2 x0 y70 (pm_setI h v66 x1.toNatClampNeg (-1)) (m0.trans (pm_S3.le (pm_S3I K0))) hi))
set_option maxHeartbeats 4000000 in
set_option maxRecDepth 100000 in
theorem ctX16_init {l : Launch} {G : pm_Gl} {h : pm_H} {a0 : Nat} {r : pm_H} {Qr : Option Value → pm_H → Prop} (htr : l.stackTraces = false) (hf : fX16_init h a0 = some r) (q : Qr none r) : pm_Ct l G mX16_init [.ref a0] h (pm_sz r - pm_sz h) (pm_us r - pm_us h) Qr := by
  refine pm_bodyN pnX16 (Nat.le_of_ble_eq_true rfl) (fun g C X nm => ?_)
  have C : pm_C g cX16_init RX16 := C
  show pm_G g 0 [(0, .ref a0)] [] h 0 0
  unfold fX16_init at hf
  obtain ⟨n, hn⟩ := pm_lim_iter hf
  exact pa_start (pm_sub [0] rfl ((lpX16_init C X q nm htr n).1 a0 h (pm_Le.rf h) hn))
