theorem dX5_stepOnRegisters_0 : decode cX5_stepOnRegisters 0 = .ok (.aload_n 0, 1) := by decide +kernel
theorem dX5_stepOnRegisters_1 : decode cX5_stepOnRegisters 1 = .ok (.getfield 51, 3) := by decide +kernel
theorem dX5_stepOnRegisters_4 : decode cX5_stepOnRegisters 4 = .ok (.getfield 131, 3) := by decide +kernel
theorem dX5_stepOnRegisters_7 : decode cX5_stepOnRegisters 7 = .ok (.astore_n 2, 1) := by decide +kernel
theorem dX5_stepOnRegisters_8 : decode cX5_stepOnRegisters 8 = .ok (.aload_n 2, 1) := by decide +kernel
theorem dX5_stepOnRegisters_9 : decode cX5_stepOnRegisters 9 = .ok (.iload_n 1, 1) := by decide +kernel
theorem dX5_stepOnRegisters_10 : decode cX5_stepOnRegisters 10 = .ok (.iconst 0, 1) := by decide +kernel
theorem dX5_stepOnRegisters_11 : decode cX5_stepOnRegisters 11 = .ok (.iadd, 1) := by decide +kernel
theorem dX5_stepOnRegisters_12 : decode cX5_stepOnRegisters 12 = .ok (.invokestatic 88, 3) := by decide +kernel
theorem dX5_stepOnRegisters_15 : decode cX5_stepOnRegisters 15 = .ok (.istore_n 3, 1) := by decide +kernel
theorem dX5_stepOnRegisters_16 : decode cX5_stepOnRegisters 16 = .ok (.aload_n 2, 1) := by decide +kernel
theorem dX5_stepOnRegisters_17 : decode cX5_stepOnRegisters 17 = .ok (.iload_n 1, 1) := by decide +kernel
theorem dX5_stepOnRegisters_18 : decode cX5_stepOnRegisters 18 = .ok (.bipush 6, 2) := by decide +kernel
theorem dX5_stepOnRegisters_20 : decode cX5_stepOnRegisters 20 = .ok (.iadd, 1) := by decide +kernel
theorem dX5_stepOnRegisters_21 : decode cX5_stepOnRegisters 21 = .ok (.invokestatic 88, 3) := by decide +kernel
theorem dX5_stepOnRegisters_24 : decode cX5_stepOnRegisters 24 = .ok (.istore 4, 2) := by decide +kernel
theorem dX5_stepOnRegisters_26 : decode cX5_stepOnRegisters 26 = .ok (.aload_n 2, 1) := by decide +kernel
theorem dX5_stepOnRegisters_27 : decode cX5_stepOnRegisters 27 = .ok (.iload_n 1, 1) := by decide +kernel
theorem dX5_stepOnRegisters_28 : decode cX5_stepOnRegisters 28 = .ok (.bipush 7, 2) := by decide +kernel
theorem dX5_stepOnRegisters_30 : decode cX5_stepOnRegisters 30 = .ok (.iadd, 1) := by decide +kernel
theorem dX5_stepOnRegisters_31 : decode cX5_stepOnRegisters 31 = .ok (.invokestatic 88, 3) := by decide +kernel
theorem dX5_stepOnRegisters_34 : decode cX5_stepOnRegisters 34 = .ok (.istore 5, 2) := by decide +kernel
theorem dX5_stepOnRegisters_36 : decode cX5_stepOnRegisters 36 = .ok (.aload_n 2, 1) := by decide +kernel
theorem dX5_stepOnRegisters_37 : decode cX5_stepOnRegisters 37 = .ok (.iload_n 1, 1) := by decide +kernel
theorem dX5_stepOnRegisters_38 : decode cX5_stepOnRegisters 38 = .ok (.iconst 3, 1) := by decide +kernel
theorem dX5_stepOnRegisters_39 : decode cX5_stepOnRegisters 39 = .ok (.iadd, 1) := by decide +kernel
theorem dX5_stepOnRegisters_40 : decode cX5_stepOnRegisters 40 = .ok (.invokestatic 88, 3) := by decide +kernel
theorem dX5_stepOnRegisters_43 : decode cX5_stepOnRegisters 43 = .ok (.istore 6, 2) := by decide +kernel
theorem dX5_stepOnRegisters_45 : decode cX5_stepOnRegisters 45 = .ok (.aload_n 2, 1) := by decide +kernel
theorem dX5_stepOnRegisters_46 : decode cX5_stepOnRegisters 46 = .ok (.iload_n 1, 1) := by decide +kernel
theorem dX5_stepOnRegisters_47 : decode cX5_stepOnRegisters 47 = .ok (.iconst 4, 1) := by decide +kernel
theorem dX5_stepOnRegisters_48 : decode cX5_stepOnRegisters 48 = .ok (.iadd, 1) := by decide +kernel
theorem dX5_stepOnRegisters_49 : decode cX5_stepOnRegisters 49 = .ok (.invokestatic 88, 3) := by decide +kernel
theorem dX5_stepOnRegisters_52 : decode cX5_stepOnRegisters 52 = .ok (.istore 7, 2) := by decide +kernel
theorem dX5_stepOnRegisters_54 : decode cX5_stepOnRegisters 54 = .ok (.aload_n 2, 1) := by decide +kernel
theorem dX5_stepOnRegisters_55 : decode cX5_stepOnRegisters 55 = .ok (.iload_n 1, 1) := by decide +kernel
theorem dX5_stepOnRegisters_56 : decode cX5_stepOnRegisters 56 = .ok (.iconst 2, 1) := by decide +kernel
theorem dX5_stepOnRegisters_57 : decode cX5_stepOnRegisters 57 = .ok (.iadd, 1) := by decide +kernel
theorem dX5_stepOnRegisters_58 : decode cX5_stepOnRegisters 58 = .ok (.invokestatic 88, 3) := by decide +kernel
theorem dX5_stepOnRegisters_61 : decode cX5_stepOnRegisters 61 = .ok (.istore 8, 2) := by decide +kernel
theorem dX5_stepOnRegisters_63 : decode cX5_stepOnRegisters 63 = .ok (.aload_n 0, 1) := by decide +kernel
theorem dX5_stepOnRegisters_64 : decode cX5_stepOnRegisters 64 = .ok (.getfield 51, 3) := by decide +kernel
theorem dX5_stepOnRegisters_67 : decode cX5_stepOnRegisters 67 = .ok (.dup, 1) := by decide +kernel
theorem dX5_stepOnRegisters_68 : decode cX5_stepOnRegisters 68 = .ok (.getfield 128, 3) := by decide +kernel
theorem dX5_stepOnRegisters_71 : decode cX5_stepOnRegisters 71 = .ok (.iconst 1, 1) := by decide +kernel
theorem dX5_stepOnRegisters_72 : decode cX5_stepOnRegisters 72 = .ok (.iadd, 1) := by decide +kernel
theorem dX5_stepOnRegisters_73 : decode cX5_stepOnRegisters 73 = .ok (.putfield 128, 3) := by decide +kernel
theorem dX5_stepOnRegisters_76 : decode cX5_stepOnRegisters 76 = .ok (.iload_n 3, 1) := by decide +kernel
theorem dX5_stepOnRegisters_77 : decode cX5_stepOnRegisters 77 = .ok (.lookupswitch 263 #[(1, 91), (4, 99), (5, 91), (11, 91), (12, 122), (13, 130), (14, 149), (16, 176), (17, 222), (500, 91)], 91) := by decide +kernel
theorem dX5_stepOnRegisters_168 : decode cX5_stepOnRegisters 168 = .ok (.aload_n 0, 1) := by decide +kernel
theorem dX5_stepOnRegisters_169 : decode cX5_stepOnRegisters 169 = .ok (.iload_n 1, 1) := by decide +kernel
theorem dX5_stepOnRegisters_170 : decode cX5_stepOnRegisters 170 = .ok (.invokevirtual 161, 3) := by decide +kernel
theorem dX5_stepOnRegisters_173 : decode cX5_stepOnRegisters 173 = .ok (.goto 263, 3) := by decide +kernel
theorem dX5_stepOnRegisters_176 : decode cX5_stepOnRegisters 176 = .ok (.aload_n 0, 1) := by decide +kernel
theorem dX5_stepOnRegisters_177 : decode cX5_stepOnRegisters 177 = .ok (.iload 6, 2) := by decide +kernel
theorem dX5_stepOnRegisters_179 : decode cX5_stepOnRegisters 179 = .ok (.invokevirtual 280, 3) := by decide +kernel
theorem dX5_stepOnRegisters_182 : decode cX5_stepOnRegisters 182 = .ok (.lconst 0, 1) := by decide +kernel
theorem dX5_stepOnRegisters_183 : decode cX5_stepOnRegisters 183 = .ok (.lcmp, 1) := by decide +kernel
theorem dX5_stepOnRegisters_184 : decode cX5_stepOnRegisters 184 = .ok (.ifCond .ne 252, 3) := by decide +kernel
theorem dX5_stepOnRegisters_187 : decode cX5_stepOnRegisters 187 = .ok (.aload_n 0, 1) := by decide +kernel
theorem dX5_stepOnRegisters_188 : decode cX5_stepOnRegisters 188 = .ok (.getfield 51, 3) := by decide +kernel
theorem dX5_stepOnRegisters_191 : decode cX5_stepOnRegisters 191 = .ok (.iload 4, 2) := by decide +kernel
theorem dX5_stepOnRegisters_193 : decode cX5_stepOnRegisters 193 = .ok (.putfield 128, 3) := by decide +kernel
theorem dX5_stepOnRegisters_196 : decode cX5_stepOnRegisters 196 = .ok (.goto 240, 3) := by decide +kernel
theorem dX5_stepOnRegisters_199 : decode cX5_stepOnRegisters 199 = .ok (.aload_n 0, 1) := by decide +kernel
theorem dX5_stepOnRegisters_200 : decode cX5_stepOnRegisters 200 = .ok (.iload_n 1, 1) := by decide +kernel
theorem dX5_stepOnRegisters_201 : decode cX5_stepOnRegisters 201 = .ok (.invokevirtual 284, 3) := by decide +kernel
theorem dX5_stepOnRegisters_204 : decode cX5_stepOnRegisters 204 = .ok (.goto 232, 3) := by decide +kernel
theorem dX5_stepOnRegisters_207 : decode cX5_stepOnRegisters 207 = .ok (.aload_n 0, 1) := by decide +kernel
theorem dX5_stepOnRegisters_208 : decode cX5_stepOnRegisters 208 = .ok (.iload 7, 2) := by decide +kernel
theorem dX5_stepOnRegisters_210 : decode cX5_stepOnRegisters 210 = .ok (.invokevirtual 280, 3) := by decide +kernel
theorem dX5_stepOnRegisters_213 : decode cX5_stepOnRegisters 213 = .ok (.lconst 0, 1) := by decide +kernel
theorem dX5_stepOnRegisters_214 : decode cX5_stepOnRegisters 214 = .ok (.lcmp, 1) := by decide +kernel
theorem dX5_stepOnRegisters_215 : decode cX5_stepOnRegisters 215 = .ok (.ifCond .eq 221, 3) := by decide +kernel
theorem dX5_stepOnRegisters_218 : decode cX5_stepOnRegisters 218 = .ok (.aload_n 0, 1) := by decide +kernel
theorem dX5_stepOnRegisters_219 : decode cX5_stepOnRegisters 219 = .ok (.iload_n 1, 1) := by decide +kernel
theorem dX5_stepOnRegisters_220 : decode cX5_stepOnRegisters 220 = .ok (.invokevirtual 284, 3) := by decide +kernel
theorem dX5_stepOnRegisters_223 : decode cX5_stepOnRegisters 223 = .ok (.goto 213, 3) := by decide +kernel
theorem dX5_stepOnRegisters_226 : decode cX5_stepOnRegisters 226 = .ok (.aload_n 0, 1) := by decide +kernel
theorem dX5_stepOnRegisters_227 : decode cX5_stepOnRegisters 227 = .ok (.iload_n 1, 1) := by decide +kernel
theorem dX5_stepOnRegisters_228 : decode cX5_stepOnRegisters 228 = .ok (.bipush 8, 2) := by decide +kernel
theorem dX5_stepOnRegisters_230 : decode cX5_stepOnRegisters 230 = .ok (.iconst 1, 1) := by decide +kernel
theorem dX5_stepOnRegisters_231 : decode cX5_stepOnRegisters 231 = .ok (.aload_n 0, 1) := by decide +kernel
theorem dX5_stepOnRegisters_232 : decode cX5_stepOnRegisters 232 = .ok (.iload 6, 2) := by decide +kernel
theorem dX5_stepOnRegisters_234 : decode cX5_stepOnRegisters 234 = .ok (.invokevirtual 280, 3) := by decide +kernel
theorem dX5_stepOnRegisters_237 : decode cX5_stepOnRegisters 237 = .ok (.iload 4, 2) := by decide +kernel
theorem dX5_stepOnRegisters_239 : decode cX5_stepOnRegisters 239 = .ok (.i2l, 1) := by decide +kernel
theorem dX5_stepOnRegisters_240 : decode cX5_stepOnRegisters 240 = .ok (.invokestatic 258, 3) := by decide +kernel
theorem dX5_stepOnRegisters_243 : decode cX5_stepOnRegisters 243 = .ok (.l2i, 1) := by decide +kernel
theorem dX5_stepOnRegisters_244 : decode cX5_stepOnRegisters 244 = .ok (.iadd, 1) := by decide +kernel
theorem dX5_stepOnRegisters_245 : decode cX5_stepOnRegisters 245 = .ok (.imul, 1) := by decide +kernel
theorem dX5_stepOnRegisters_246 : decode cX5_stepOnRegisters 246 = .ok (.iadd, 1) := by decide +kernel
theorem dX5_stepOnRegisters_247 : decode cX5_stepOnRegisters 247 = .ok (.invokevirtual 284, 3) := by decide +kernel
theorem dX5_stepOnRegisters_250 : decode cX5_stepOnRegisters 250 = .ok (.goto 186, 3) := by decide +kernel
theorem dX5_stepOnRegisters_253 : decode cX5_stepOnRegisters 253 = .ok (.aload_n 0, 1) := by decide +kernel
theorem dX5_stepOnRegisters_254 : decode cX5_stepOnRegisters 254 = .ok (.getfield 51, 3) := by decide +kernel
theorem dX5_stepOnRegisters_257 : decode cX5_stepOnRegisters 257 = .ok (.aload_n 0, 1) := by decide +kernel
theorem dX5_stepOnRegisters_258 : decode cX5_stepOnRegisters 258 = .ok (.getfield 51, 3) := by decide +kernel
theorem dX5_stepOnRegisters_261 : decode cX5_stepOnRegisters 261 = .ok (.getfield 198, 3) := by decide +kernel
theorem dX5_stepOnRegisters_264 : decode cX5_stepOnRegisters 264 = .ok (.iload 8, 2) := by decide +kernel
theorem dX5_stepOnRegisters_266 : decode cX5_stepOnRegisters 266 = .ok (.iadd, 1) := by decide +kernel
theorem dX5_stepOnRegisters_267 : decode cX5_stepOnRegisters 267 = .ok (.putfield 118, 3) := by decide +kernel
theorem dX5_stepOnRegisters_270 : decode cX5_stepOnRegisters 270 = .ok (.aload_n 0, 1) := by decide +kernel
theorem dX5_stepOnRegisters_271 : decode cX5_stepOnRegisters 271 = .ok (.aload_n 0, 1) := by decide +kernel
theorem dX5_stepOnRegisters_272 : decode cX5_stepOnRegisters 272 = .ok (.getfield 51, 3) := by decide +kernel
theorem dX5_stepOnRegisters_275 : decode cX5_stepOnRegisters 275 = .ok (.getfield 193, 3) := by decide +kernel
theorem dX5_stepOnRegisters_278 : decode cX5_stepOnRegisters 278 = .ok (.getfield 261, 3) := by decide +kernel
theorem dX5_stepOnRegisters_281 : decode cX5_stepOnRegisters 281 = .ok (.iload 4, 2) := by decide +kernel
theorem dX5_stepOnRegisters_283 : decode cX5_stepOnRegisters 283 = .ok (.invokestatic 88, 3) := by decide +kernel
theorem dX5_stepOnRegisters_286 : decode cX5_stepOnRegisters 286 = .ok (.aload_n 0, 1) := by decide +kernel
theorem dX5_stepOnRegisters_287 : decode cX5_stepOnRegisters 287 = .ok (.getfield 51, 3) := by decide +kernel
theorem dX5_stepOnRegisters_290 : decode cX5_stepOnRegisters 290 = .ok (.getfield 118, 3) := by decide +kernel
theorem dX5_stepOnRegisters_293 : decode cX5_stepOnRegisters 293 = .ok (.invokevirtual 103, 3) := by decide +kernel
theorem dX5_stepOnRegisters_296 : decode cX5_stepOnRegisters 296 = .ok (.goto 140, 3) := by decide +kernel
theorem dX5_stepOnRegisters_299 : decode cX5_stepOnRegisters 299 = .ok (.aload_n 0, 1) := by decide +kernel
theorem dX5_stepOnRegisters_300 : decode cX5_stepOnRegisters 300 = .ok (.getfield 51, 3) := by decide +kernel
theorem dX5_stepOnRegisters_303 : decode cX5_stepOnRegisters 303 = .ok (.aload_n 0, 1) := by decide +kernel
theorem dX5_stepOnRegisters_304 : decode cX5_stepOnRegisters 304 = .ok (.getfield 51, 3) := by decide +kernel
theorem dX5_stepOnRegisters_307 : decode cX5_stepOnRegisters 307 = .ok (.getfield 198, 3) := by decide +kernel
theorem dX5_stepOnRegisters_310 : decode cX5_stepOnRegisters 310 = .ok (.iload 8, 2) := by decide +kernel
theorem dX5_stepOnRegisters_312 : decode cX5_stepOnRegisters 312 = .ok (.iadd, 1) := by decide +kernel
theorem dX5_stepOnRegisters_313 : decode cX5_stepOnRegisters 313 = .ok (.putfield 118, 3) := by decide +kernel
theorem dX5_stepOnRegisters_316 : decode cX5_stepOnRegisters 316 = .ok (.aload_n 0, 1) := by decide +kernel
theorem dX5_stepOnRegisters_317 : decode cX5_stepOnRegisters 317 = .ok (.iload 4, 2) := by decide +kernel
theorem dX5_stepOnRegisters_319 : decode cX5_stepOnRegisters 319 = .ok (.iload 5, 2) := by decide +kernel
theorem dX5_stepOnRegisters_321 : decode cX5_stepOnRegisters 321 = .ok (.aload_n 0, 1) := by decide +kernel
theorem dX5_stepOnRegisters_322 : decode cX5_stepOnRegisters 322 = .ok (.iload 6, 2) := by decide +kernel
theorem dX5_stepOnRegisters_324 : decode cX5_stepOnRegisters 324 = .ok (.invokevirtual 280, 3) := by decide +kernel
theorem dX5_stepOnRegisters_327 : decode cX5_stepOnRegisters 327 = .ok (.aload_n 0, 1) := by decide +kernel
theorem dX5_stepOnRegisters_328 : decode cX5_stepOnRegisters 328 = .ok (.getfield 51, 3) := by decide +kernel
theorem dX5_stepOnRegisters_331 : decode cX5_stepOnRegisters 331 = .ok (.getfield 118, 3) := by decide +kernel
theorem dX5_stepOnRegisters_334 : decode cX5_stepOnRegisters 334 = .ok (.invokevirtual 264, 3) := by decide +kernel
theorem dX5_stepOnRegisters_337 : decode cX5_stepOnRegisters 337 = .ok (.goto 99, 3) := by decide +kernel
theorem dX5_stepOnRegisters_340 : decode cX5_stepOnRegisters 340 = .ok (.aload_n 0, 1) := by decide +kernel
theorem dX5_stepOnRegisters_341 : decode cX5_stepOnRegisters 341 = .ok (.aload_n 2, 1) := by decide +kernel
theorem dX5_stepOnRegisters_342 : decode cX5_stepOnRegisters 342 = .ok (.iload_n 1, 1) := by decide +kernel
theorem dX5_stepOnRegisters_343 : decode cX5_stepOnRegisters 343 = .ok (.iconst 5, 1) := by decide +kernel
theorem dX5_stepOnRegisters_344 : decode cX5_stepOnRegisters 344 = .ok (.iadd, 1) := by decide +kernel
theorem dX5_stepOnRegisters_345 : decode cX5_stepOnRegisters 345 = .ok (.invokestatic 88, 3) := by decide +kernel
theorem dX5_stepOnRegisters_348 : decode cX5_stepOnRegisters 348 = .ok (.invokevirtual 280, 3) := by decide +kernel
theorem dX5_stepOnRegisters_351 : decode cX5_stepOnRegisters 351 = .ok (.lstore 9, 2) := by decide +kernel
theorem dX5_stepOnRegisters_353 : decode cX5_stepOnRegisters 353 = .ok (.aload_n 0, 1) := by decide +kernel
theorem dX5_stepOnRegisters_354 : decode cX5_stepOnRegisters 354 = .ok (.getfield 24, 3) := by decide +kernel
theorem dX5_stepOnRegisters_357 : decode cX5_stepOnRegisters 357 = .ok (.aload_n 0, 1) := by decide +kernel
theorem dX5_stepOnRegisters_358 : decode cX5_stepOnRegisters 358 = .ok (.getfield 51, 3) := by decide +kernel
theorem dX5_stepOnRegisters_361 : decode cX5_stepOnRegisters 361 = .ok (.getfield 193, 3) := by decide +kernel
theorem dX5_stepOnRegisters_364 : decode cX5_stepOnRegisters 364 = .ok (.iload_n 3, 1) := by decide +kernel
theorem dX5_stepOnRegisters_365 : decode cX5_stepOnRegisters 365 = .ok (.iload 4, 2) := by decide +kernel
theorem dX5_stepOnRegisters_367 : decode cX5_stepOnRegisters 367 = .ok (.iload 5, 2) := by decide +kernel
theorem dX5_stepOnRegisters_369 : decode cX5_stepOnRegisters 369 = .ok (.aload_n 0, 1) := by decide +kernel
theorem dX5_stepOnRegisters_370 : decode cX5_stepOnRegisters 370 = .ok (.iload 6, 2) := by decide +kernel
theorem dX5_stepOnRegisters_372 : decode cX5_stepOnRegisters 372 = .ok (.invokevirtual 280, 3) := by decide +kernel
theorem dX5_stepOnRegisters_375 : decode cX5_stepOnRegisters 375 = .ok (.aload_n 0, 1) := by decide +kernel
theorem dX5_stepOnRegisters_376 : decode cX5_stepOnRegisters 376 = .ok (.iload 7, 2) := by decide +kernel
theorem dX5_stepOnRegisters_378 : decode cX5_stepOnRegisters 378 = .ok (.invokevirtual 280, 3) := by decide +kernel
theorem dX5_stepOnRegisters_381 : decode cX5_stepOnRegisters 381 = .ok (.lload 9, 2) := by decide +kernel
theorem dX5_stepOnRegisters_383 : decode cX5_stepOnRegisters 383 = .ok (.invokevirtual 272, 3) := by decide +kernel
theorem dX5_stepOnRegisters_386 : decode cX5_stepOnRegisters 386 = .ok (.lstore 11, 2) := by decide +kernel
theorem dX5_stepOnRegisters_388 : decode cX5_stepOnRegisters 388 = .ok (.aload_n 0, 1) := by decide +kernel
theorem dX5_stepOnRegisters_389 : decode cX5_stepOnRegisters 389 = .ok (.getfield 24, 3) := by decide +kernel
theorem dX5_stepOnRegisters_392 : decode cX5_stepOnRegisters 392 = .ok (.getfield 276, 3) := by decide +kernel
theorem dX5_stepOnRegisters_395 : decode cX5_stepOnRegisters 395 = .ok (.ifCond .eq 17, 3) := by decide +kernel
theorem dX5_stepOnRegisters_398 : decode cX5_stepOnRegisters 398 = .ok (.aload_n 0, 1) := by decide +kernel
theorem dX5_stepOnRegisters_399 : decode cX5_stepOnRegisters 399 = .ok (.aload_n 0, 1) := by decide +kernel
theorem dX5_stepOnRegisters_400 : decode cX5_stepOnRegisters 400 = .ok (.getfield 24, 3) := by decide +kernel
theorem dX5_stepOnRegisters_403 : decode cX5_stepOnRegisters 403 = .ok (.getfield 276, 3) := by decide +kernel
theorem dX5_stepOnRegisters_406 : decode cX5_stepOnRegisters 406 = .ok (.invokevirtual 81, 3) := by decide +kernel
theorem dX5_stepOnRegisters_409 : decode cX5_stepOnRegisters 409 = .ok (.goto 27, 3) := by decide +kernel
theorem dX5_stepOnRegisters_412 : decode cX5_stepOnRegisters 412 = .ok (.iload 8, 2) := by decide +kernel
theorem dX5_stepOnRegisters_414 : decode cX5_stepOnRegisters 414 = .ok (.ifCond .lt 22, 3) := by decide +kernel
theorem dX5_stepOnRegisters_417 : decode cX5_stepOnRegisters 417 = .ok (.aload_n 0, 1) := by decide +kernel
theorem dX5_stepOnRegisters_418 : decode cX5_stepOnRegisters 418 = .ok (.getfield 15, 3) := by decide +kernel
theorem dX5_stepOnRegisters_421 : decode cX5_stepOnRegisters 421 = .ok (.aload_n 0, 1) := by decide +kernel
theorem dX5_stepOnRegisters_422 : decode cX5_stepOnRegisters 422 = .ok (.getfield 51, 3) := by decide +kernel
theorem dX5_stepOnRegisters_425 : decode cX5_stepOnRegisters 425 = .ok (.getfield 198, 3) := by decide +kernel
theorem dX5_stepOnRegisters_428 : decode cX5_stepOnRegisters 428 = .ok (.iload 8, 2) := by decide +kernel
theorem dX5_stepOnRegisters_430 : decode cX5_stepOnRegisters 430 = .ok (.iadd, 1) := by decide +kernel
theorem dX5_stepOnRegisters_431 : decode cX5_stepOnRegisters 431 = .ok (.lload 11, 2) := by decide +kernel
theorem dX5_stepOnRegisters_433 : decode cX5_stepOnRegisters 433 = .ok (.invokestatic 99, 3) := by decide +kernel
theorem dX5_stepOnRegisters_436 : decode cX5_stepOnRegisters 436 = .ok (.return_, 1) := by decide +kernel
noncomputable def fX5_stepOnRegisters_b386 (h : pm_H) (x0 : Nat) (x8 : Int32) (s0 : Int64) : Option pm_H := if pm_kd h x0 = 5 then (pm_R h x0 8).bind fun v94 => if pm_kd h v94 = 10 then if (pm_I h v94 0) = 0 then (if x8 < 0 then (some h) else ((pm_R h x0 10).bind fun v99 => (pm_R h x0 12).bind fun v101 => if pm_kd h v101 = 3 then (fX12_setItem_ h v99 ((pm_I h v101 4) + x8) s0).bind fun v104 => some v104 else none)) else ((fX5_fail h x0 (pm_I h v94 0)).bind fun v107 => some v107) else none else none
noncomputable def fX5_stepOnRegisters_b337 (h : pm_H)  : Option pm_H := some h
noncomputable def fX5_stepOnRegisters_b0 (h : pm_H) (x0 : Nat) (x1 : Int32) : Option pm_H := if pm_kd h x0 = 5 then (pm_R h x0 12).bind fun v2 => if pm_kd h v2 = 3 then (pm_R h v2 2).bind fun v5 => (fX12_item h v5 (x1 + 0)).bind fun v7 => (fX12_item h v5 (x1 + 6)).bind fun v9 => (fX12_item h v5 (x1 + 7)).bind fun v11 => (fX12_item h v5 (x1 + 3)).bind fun v13 => (fX12_item h v5 (x1 + 4)).bind fun v15 => (fX12_item h v5 (x1 + 2)).bind fun v17 => pm_let ((pm_I h v2 3) + 1) fun y19 => if v7 = 1 then ((fX5_goFreely (pm_setI h v2 3 y19) x0 x1).bind fun v22 => some v22) else (if v7 = 4 then ((fX5_register (pm_setI h v2 3 y19) x0 v13).bind fun v26 => if v26 = 0 then (some (pm_setI (pm_setI h v2 3 y19) v2 3 v9)) else (some (pm_setI h v2 3 y19))) else (if v7 = 5 then ((fX5_goFreely (pm_setI h v2 3 y19) x0 x1).bind fun v30 => some v30) else (if v7 = 11 then ((fX5_goFreely (pm_setI h v2 3 y19) x0 x1).bind fun v34 => some v34) else (if v7 = 12 then ((fX5_branchOnRegisters (pm_setI h v2 3 y19) x0 x1).bind fun v38 => some v38) else (if v7 = 13 then ((fX5_register (pm_setI h v2 3 y19) x0 v15).bind fun v42 => if v42 = 0 then (some (pm_setI h v2 3 y19)) else ((fX5_branchOnRegisters (pm_setI h v2 3 y19) x0 x1).bind fun v45 => some v45)) else (if v7 = 14 then ((fX5_register (pm_setI h v2 3 y19) x0 v13).bind fun v49 => (fX5_branchOnRegisters (pm_setI h v2 3 y19) x0 (x1 + (8 * (1 + (((if v9.toInt64 < v49 then v9.toInt64 else v49)).toInt32))))).bind fun v51 => some v51) else (if v7 = 16 then (pm_let ((pm_I (pm_setI h v2 3 y19) v2 4) + v17) fun y55 => (pm_R (pm_setI (pm_setI h v2 3 y19) v2 5 y55) v2 0).bind fun v57 => if pm_kd (pm_setI (pm_setI h v2 3 y19) v2 5 y55) v57 = 4 then (pm_R (pm_setI (pm_setI h v2 3 y19) v2 5 y55) v57 1).bind fun v60 => (fX12_item (pm_setI (pm_setI h v2 3 y19) v2 5 y55) v60 v9).bind fun v62 => (fX5_enter (pm_setI (pm_setI h v2 3 y19) v2 5 y55) x0 v62 (pm_I (pm_setI (pm_setI h v2 3 y19) v2 5 y55) v2 5)).bind fun v64 => some v64 else none) else (if v7 = 17 then (pm_let ((pm_I (pm_setI h v2 3 y19) v2 4) + v17) fun y68 => (fX5_register (pm_setI (pm_setI h v2 3 y19) v2 5 y68) x0 v13).bind fun v70 => (fX5_callByTable (pm_setI (pm_setI h v2 3 y19) v2 5 y68) x0 v9 v11 v70 (pm_I (pm_setI (pm_setI h v2 3 y19) v2 5 y68) v2 5)).bind fun v72 => fX5_stepOnRegisters_b337 v72) else (if v7 = 500 then ((fX5_goFreely (pm_setI h v2 3 y19) x0 x1).bind fun v75 => some v75) else ((fX12_item (pm_setI h v2 3 y19) v5 (x1 + 5)).bind fun v78 => (fX5_register (pm_setI h v2 3 y19) x0 v78).bind fun v80 => (pm_R (pm_setI h v2 3 y19) x0 8).bind fun v82 => (pm_R (pm_setI h v2 3 y19) v2 0).bind fun v84 => (fX5_register (pm_setI h v2 3 y19) x0 v13).bind fun v86 => (fX5_register (pm_setI h v2 3 y19) x0 v15).bind fun v88 => if pm_kd (pm_setI h v2 3 y19) v82 = 10 then (fX10_perform (pm_setI h v2 3 y19) v82 v84 v7 v9 v11 v86 v88 v80).bind fun v91 => fX5_stepOnRegisters_b386 v91.2 x0 v17 v91.1 else none)))))))))) else none else none
noncomputable def fX5_stepOnRegisters (h : pm_H) (a0 : Nat) (p1 : Int32) : Option pm_H := fX5_stepOnRegisters_b0 h a0 p1
set_option maxHeartbeats 4000000 in
set_option maxRecDepth 100000 in
theorem moX5_stepOnRegisters_b386 {h : pm_H} {x0 : Nat} {x8 : Int32} {s0 : Int64} {r : pm_H} (hf : fX5_stepOnRegisters_b386 h x0 x8 s0 = some r) : pm_Le h r := by
  unfold fX5_stepOnRegisters_b386 at hf
  have K0 := pm_S3.rf h
  obtain ⟨k93, hf⟩ := pm_if hf
  obtain ⟨v94, e95, hf⟩ := pm_bd hf
  obtain ⟨k96, hf⟩ := pm_if hf
  by_cases c97 : (pm_I h v94 0) = 0
  · have hf := pm_it hf c97
    by_cases c98 : x8 < 0
    · have hf := pm_it hf c98
      have hf := Option.some.inj hf
      subst hf
      exact pm_S3.le K0
    · have hf := pm_ie hf c98
      obtain ⟨v99, e100, hf⟩ := pm_bd hf
      obtain ⟨v101, e102, hf⟩ := pm_bd hf
      obtain ⟨k103, hf⟩ := pm_if hf
      obtain ⟨v104, e105, hf⟩ := pm_bd hf
      have K106 := pm_S3.trans (kpX12_setItem_ e105) K0
      have hf := Option.some.inj hf
      subst hf
      exact pm_S3.le K106
  · have hf := pm_ie hf c97
    obtain ⟨v107, e108, hf⟩ := pm_bd hf
    have K109 := pm_S3.trans (kpX5_fail e108) K0
    have hf := Option.some.inj hf
    subst hf
    exact pm_S3.le K109
set_option maxHeartbeats 4000000 in
set_option maxRecDepth 100000 in
theorem moX5_stepOnRegisters_b337 {h : pm_H}  {r : pm_H} (hf : fX5_stepOnRegisters_b337 h  = some r) : pm_Le h r := by
  unfold fX5_stepOnRegisters_b337 at hf
  have K0 := pm_S3.rf h
  have hf := Option.some.inj hf
  subst hf
  exact pm_S3.le K0
set_option maxHeartbeats 4000000 in
set_option maxRecDepth 100000 in
theorem moX5_stepOnRegisters_b0 {h : pm_H} {x0 : Nat} {x1 : Int32} {r : pm_H} (hf : fX5_stepOnRegisters_b0 h x0 x1 = some r) : pm_Le h r := by
  unfold fX5_stepOnRegisters_b0 at hf
  have K0 := pm_S3.rf h
  obtain ⟨k1, hf⟩ := pm_if hf
  obtain ⟨v2, e3, hf⟩ := pm_bd hf
  obtain ⟨k4, hf⟩ := pm_if hf
  obtain ⟨v5, e6, hf⟩ := pm_bd hf
  obtain ⟨v7, e8, hf⟩ := pm_bd hf
  obtain ⟨v9, e10, hf⟩ := pm_bd hf
  obtain ⟨v11, e12, hf⟩ := pm_bd hf
  obtain ⟨v13, e14, hf⟩ := pm_bd hf
  obtain ⟨v15, e16, hf⟩ := pm_bd hf
  obtain ⟨v17, e18, hf⟩ := pm_bd hf
  obtain ⟨y19, e20, hf⟩ := pm_lt hf
  by_cases c21 : v7 = 1
  · have hf := pm_it hf c21
    obtain ⟨v22, e23, hf⟩ := pm_bd hf
    have K24 := pm_S3.trans (kpX5_goFreely e23) (pm_S3I K0)
    have hf := Option.some.inj hf
    subst hf
    exact pm_S3.le K24
  have hf := pm_ie hf c21
  by_cases c25 : v7 = 4
  · have hf := pm_it hf c25
    obtain ⟨v26, e27, hf⟩ := pm_bd hf
    by_cases c28 : v26 = 0
    · have hf := pm_it hf c28
      have hf := Option.some.inj hf
      subst hf
      exact pm_S3.le (pm_S3I (pm_S3I K0))
    · have hf := pm_ie hf c28
      have hf := Option.some.inj hf
      subst hf
      exact pm_S3.le (pm_S3I K0)
  have hf := pm_ie hf c25
  by_cases c29 : v7 = 5
  · have hf := pm_it hf c29
    obtain ⟨v30, e31, hf⟩ := pm_bd hf
    have K32 := pm_S3.trans (kpX5_goFreely e31) (pm_S3I K0)
    have hf := Option.some.inj hf
    subst hf
    exact pm_S3.le K32
  have hf := pm_ie hf c29
  by_cases c33 : v7 = 11
  · have hf := pm_it hf c33
    obtain ⟨v34, e35, hf⟩ := pm_bd hf
    have K36 := pm_S3.trans (kpX5_goFreely e35) (pm_S3I K0)
    have hf := Option.some.inj hf
    subst hf
    exact pm_S3.le K36
  have hf := pm_ie hf c33
  by_cases c37 : v7 = 12
  · have hf := pm_it hf c37
    obtain ⟨v38, e39, hf⟩ := pm_bd hf
    have K40 := pm_S3.trans (kpX5_branchOnRegisters e39) (pm_S3I K0)
    have hf := Option.some.inj hf
    subst hf
    exact pm_S3.le K40
  have hf := pm_ie hf c37
  by_cases c41 : v7 = 13
  · have hf := pm_it hf c41
    obtain ⟨v42, e43, hf⟩ := pm_bd hf
    by_cases c44 : v42 = 0
    · have hf := pm_it hf c44
      have hf := Option.some.inj hf
      subst hf
      exact pm_S3.le (pm_S3I K0)
    · have hf := pm_ie hf c44
      obtain ⟨v45, e46, hf⟩ := pm_bd hf
      have K47 := pm_S3.trans (kpX5_branchOnRegisters e46) (pm_S3I K0)
      have hf := Option.some.inj hf
      subst hf
      exact pm_S3.le K47
  have hf := pm_ie hf c41
  by_cases c48 : v7 = 14
  · have hf := pm_it hf c48
    obtain ⟨v49, e50, hf⟩ := pm_bd hf
    obtain ⟨v51, e52, hf⟩ := pm_bd hf
    have K53 := pm_S3.trans (kpX5_branchOnRegisters e52) (pm_S3I K0)
    have hf := Option.some.inj hf
    subst hf
    exact pm_S3.le K53
  have hf := pm_ie hf c48
  by_cases c54 : v7 = 16
  · have hf := pm_it hf c54
    obtain ⟨y55, e56, hf⟩ := pm_lt hf
    obtain ⟨v57, e58, hf⟩ := pm_bd hf
    obtain ⟨k59, hf⟩ := pm_if hf
    obtain ⟨v60, e61, hf⟩ := pm_bd hf
    obtain ⟨v62, e63, hf⟩ := pm_bd hf
    obtain ⟨v64, e65, hf⟩ := pm_bd hf
    have K66 := pm_S3.trans (kpX5_enter e65) (pm_S3I (pm_S3I K0))
    have hf := Option.some.inj hf
    subst hf
    exact pm_S3.le K66
  have hf := pm_ie hf c54
  by_cases c67 : v7 = 17
  · have hf := pm_it hf c67
    obtain ⟨y68, e69, hf⟩ := pm_lt hf
    obtain ⟨v70, e71, hf⟩ := pm_bd hf
    obtain ⟨v72, e73, hf⟩ := pm_bd hf
    exact ((pm_S3.le (pm_S3I (pm_S3I K0))).trans (moX5_callByTable e73)).trans (moX5_stepOnRegisters_b337 hf)
  have hf := pm_ie hf c67
  by_cases c74 : v7 = 500
  · have hf := pm_it hf c74
    obtain ⟨v75, e76, hf⟩ := pm_bd hf
    have K77 := pm_S3.trans (kpX5_goFreely e76) (pm_S3I K0)
    have hf := Option.some.inj hf
    subst hf
    exact pm_S3.le K77
  have hf := pm_ie hf c74
  obtain ⟨v78, e79, hf⟩ := pm_bd hf
  obtain ⟨v80, e81, hf⟩ := pm_bd hf
  obtain ⟨v82, e83, hf⟩ := pm_bd hf
  obtain ⟨v84, e85, hf⟩ := pm_bd hf
  obtain ⟨v86, e87, hf⟩ := pm_bd hf
  obtain ⟨v88, e89, hf⟩ := pm_bd hf
  obtain ⟨k90, hf⟩ := pm_if hf
  obtain ⟨v91, e92, hf⟩ := pm_bd hf
  exact ((pm_S3.le (pm_S3I K0)).trans (moX10_perform e92)).trans (moX5_stepOnRegisters_b386 hf)
set_option maxHeartbeats 4000000 in
set_option maxRecDepth 100000 in
theorem moX5_stepOnRegisters {h : pm_H} {a0 : Nat} {p1 : Int32} {r : pm_H} (hf : fX5_stepOnRegisters h a0 p1 = some r) : pm_Le h r := by
  unfold fX5_stepOnRegisters at hf
  have K0 := pm_S3.rf h
  exact (pm_S3.le K0).trans (moX5_stepOnRegisters_b0 hf)
set_option maxHeartbeats 4000000 in
set_option maxRecDepth 100000 in
theorem bX5_stepOnRegisters_386 {g : pm_Gm} {l : Launch} {G : pm_Gl} {Qr : Option Value → pm_H → Prop} (C : pm_C g cX5_stepOnRegisters RX5) {h0 h : pm_H} {x0 : Nat} {x8 : Int32} {s0 : Int64} {r : pm_H} (X : pm_X g l G mX5_stepOnRegisters (pm_sz r - pm_sz h0) (pm_us r - pm_us h0) Qr) (m0 : pm_Le h0 h) (hf : fX5_stepOnRegisters_b386 h x0 x8 s0 = some r) (q : Qr none r) : pm_G g 386 [(0, .ref x0), (8, .int x8)] [.long s0] h (pm_sz h - pm_sz h0) (pm_us h - pm_us h0) := by
  have le0 := moX5_stepOnRegisters_b386 hf
  have kc1 := Nat.sub_le_sub_right le0.1 (pm_sz h0)
  have kc2 := Nat.sub_le_sub_right le0.2 (pm_us h0)
  have K0 := pm_S3.rf h
  unfold fX5_stepOnRegisters_b386 at hf
  refine pm_lstore (lv' := [(11, .long s0), (0, .ref x0), (8, .int x8)]) C dX5_stepOnRegisters_386 (pm_nl X (by decide)) rfl ?_
  refine pm_aload_n C dX5_stepOnRegisters_388 rfl rfl ?_
  obtain ⟨k93, hf⟩ := pm_if hf
  obtain ⟨v94, e95, hf⟩ := pm_bd hf
  refine pm_getR C dX5_stepOnRegisters_389 flX5_24 rfl k93 e95 ?_
  obtain ⟨k96, hf⟩ := pm_if hf
  refine pm_getI C dX5_stepOnRegisters_392 flX5_276 rfl k96 rfl ?_
  refine pm_if_eq (tgt := 412) C dX5_stepOnRegisters_395 (by decide) (fun c97 => ?_) (fun c97 => ?_)
  · have hf := pm_it hf c97
    refine pm_iload C dX5_stepOnRegisters_412 rfl ?_
    refine pm_if_lt (tgt := 436) C dX5_stepOnRegisters_414 (by decide) (fun c98 => ?_) (fun c98 => ?_)
    · have hf := pm_it hf c98
      have hf := Option.some.inj hf
      subst hf
      exact pm_vret C X dX5_stepOnRegisters_436 rfl kc1 kc2 q
    · have hf := pm_ie hf c98
      refine pm_aload_n C dX5_stepOnRegisters_417 rfl rfl ?_
      obtain ⟨v99, e100, hf⟩ := pm_bd hf
      refine pm_getR C dX5_stepOnRegisters_418 flX5_15 rfl k93 e100 ?_
      refine pm_aload_n C dX5_stepOnRegisters_421 rfl rfl ?_
      obtain ⟨v101, e102, hf⟩ := pm_bd hf
      refine pm_getR C dX5_stepOnRegisters_422 flX5_51 rfl k93 e102 ?_
      obtain ⟨k103, hf⟩ := pm_if hf
      refine pm_getI C dX5_stepOnRegisters_425 flX5_198 rfl k103 rfl ?_
      refine pm_iload C dX5_stepOnRegisters_428 rfl ?_
      refine pm_iadd C dX5_stepOnRegisters_430 ?_
      refine pm_lload C dX5_stepOnRegisters_431 rfl ?_
      obtain ⟨v104, e105, hf⟩ := pm_bd hf
      refine pm_callS (as := [.ref v99, .int ((pm_I h v101 4) + x8), .long s0]) (st := []) C X dX5_stepOnRegisters_433 lnX5_99 myX12_setItem_ stX12_setItem_ ⟨by decide, by decide⟩ rfl rfl (Nat.le_of_ble_eq_true rfl) kc1 kc2 (ctX12_setItem_ e105 ?_)
      have K106 := pm_S3.trans (kpX12_setItem_ e105) K0
      show pm_G g 436 [(11, .long s0), (0, .ref x0), (8, .int x8)] [] v104 (pm_sz h - pm_sz h0) (pm_us h - pm_us h0)
      have hf := Option.some.inj hf
      subst hf
      exact pm_vret C X dX5_stepOnRegisters_436 rfl kc1 kc2 q
  · have hf := pm_ie hf c97
    refine pm_aload_n C dX5_stepOnRegisters_398 rfl rfl ?_
    refine pm_aload_n C dX5_stepOnRegisters_399 rfl rfl ?_
    refine pm_getR C dX5_stepOnRegisters_400 flX5_24 rfl k93 e95 ?_
    refine pm_getI C dX5_stepOnRegisters_403 flX5_276 rfl k96 rfl ?_
    obtain ⟨v107, e108, hf⟩ := pm_bd hf
    refine pm_callV (as := [.int (pm_I h v94 0)]) (st := []) C X dX5_stepOnRegisters_406 lnX5_81 myX5_fail viX5_fail ⟨by decide, by decide⟩ rfl rfl k93 (Nat.le_of_ble_eq_true rfl) kc1 kc2 (ctX5_fail e108 ?_)
    have K109 := pm_S3.trans (kpX5_fail e108) K0
    show pm_G g 409 [(11, .long s0), (0, .ref x0), (8, .int x8)] [] v107 (pm_sz h - pm_sz h0) (pm_us h - pm_us h0)
    refine pm_goto (tgt := 436) C dX5_stepOnRegisters_409 (by decide) ?_
    have hf := Option.some.inj hf
    subst hf
    exact pm_vret C X dX5_stepOnRegisters_436 rfl kc1 kc2 q
set_option maxHeartbeats 4000000 in
set_option maxRecDepth 100000 in
theorem bX5_stepOnRegisters_337 {g : pm_Gm} {l : Launch} {G : pm_Gl} {Qr : Option Value → pm_H → Prop} (C : pm_C g cX5_stepOnRegisters RX5) {h0 h : pm_H}  {r : pm_H} (X : pm_X g l G mX5_stepOnRegisters (pm_sz r - pm_sz h0) (pm_us r - pm_us h0) Qr) (m0 : pm_Le h0 h) (hf : fX5_stepOnRegisters_b337 h  = some r) (q : Qr none r) : pm_G g 337 [] [] h (pm_sz h - pm_sz h0) (pm_us h - pm_us h0) := by
  have le0 := moX5_stepOnRegisters_b337 hf
  have kc1 := Nat.sub_le_sub_right le0.1 (pm_sz h0)
  have kc2 := Nat.sub_le_sub_right le0.2 (pm_us h0)
  have K0 := pm_S3.rf h
  unfold fX5_stepOnRegisters_b337 at hf
  refine pm_goto (tgt := 436) C dX5_stepOnRegisters_337 (by decide) ?_
  have hf := Option.some.inj hf
  subst hf
  exact pm_vret C X dX5_stepOnRegisters_436 rfl kc1 kc2 q
set_option maxHeartbeats 4000000 in
set_option maxRecDepth 100000 in
theorem bX5_stepOnRegisters_0 {g : pm_Gm} {l : Launch} {G : pm_Gl} {Qr : Option Value → pm_H → Prop} (C : pm_C g cX5_stepOnRegisters RX5) {h0 h : pm_H} {x0 : Nat} {x1 : Int32} {r : pm_H} (X : pm_X g l G mX5_stepOnRegisters (pm_sz r - pm_sz h0) (pm_us r - pm_us h0) Qr) (m0 : pm_Le h0 h) (hf : fX5_stepOnRegisters_b0 h x0 x1 = some r) (q : Qr none r) : pm_G g 0 [(0, .ref x0), (1, .int x1)] [] h (pm_sz h - pm_sz h0) (pm_us h - pm_us h0) := by
  have le0 := moX5_stepOnRegisters_b0 hf
  have kc1 := Nat.sub_le_sub_right le0.1 (pm_sz h0)
  have kc2 := Nat.sub_le_sub_right le0.2 (pm_us h0)
  have K0 := pm_S3.rf h
  unfold fX5_stepOnRegisters_b0 at hf
  refine pm_aload_n C dX5_stepOnRegisters_0 rfl rfl ?_
  obtain ⟨k1, hf⟩ := pm_if hf
  obtain ⟨v2, e3, hf⟩ := pm_bd hf
  refine pm_getR C dX5_stepOnRegisters_1 flX5_51 rfl k1 e3 ?_
  obtain ⟨k4, hf⟩ := pm_if hf
  obtain ⟨v5, e6, hf⟩ := pm_bd hf
  refine pm_getR C dX5_stepOnRegisters_4 flX5_131 rfl k4 e6 ?_
  refine pm_astore_n (lv' := [(2, .ref v5), (0, .ref x0), (1, .int x1)]) C dX5_stepOnRegisters_7 rfl (pm_nl X (by decide)) rfl ?_
  refine pm_aload_n C dX5_stepOnRegisters_8 rfl rfl ?_
  refine pm_iload_n C dX5_stepOnRegisters_9 rfl rfl ?_
  refine pm_iconst (v := 0) C dX5_stepOnRegisters_10 (by decide) ?_
  refine pm_iadd C dX5_stepOnRegisters_11 ?_
  obtain ⟨v7, e8, hf⟩ := pm_bd hf
  refine pm_callS (as := [.ref v5, .int (x1 + 0)]) (st := []) C X dX5_stepOnRegisters_12 lnX5_88 myX12_item stX12_item ⟨by decide, by decide⟩ rfl rfl (Nat.le_of_ble_eq_true rfl) kc1 kc2 (ctX12_item e8 ?_)
  show pm_G g 15 [(2, .ref v5), (0, .ref x0), (1, .int x1)] [.int v7] h (pm_sz h - pm_sz h0) (pm_us h - pm_us h0)
  refine pm_istore_n (lv' := [(3, .int v7), (2, .ref v5), (0, .ref x0), (1, .int x1)]) C dX5_stepOnRegisters_15 rfl (pm_nl X (by decide)) rfl ?_
  refine pm_aload_n C dX5_stepOnRegisters_16 rfl rfl ?_
  refine pm_iload_n C dX5_stepOnRegisters_17 rfl rfl ?_
  refine pm_bipush (v := 6) C dX5_stepOnRegisters_18 (by decide) ?_
  refine pm_iadd C dX5_stepOnRegisters_20 ?_
  obtain ⟨v9, e10, hf⟩ := pm_bd hf
  refine pm_callS (as := [.ref v5, .int (x1 + 6)]) (st := []) C X dX5_stepOnRegisters_21 lnX5_88 myX12_item stX12_item ⟨by decide, by decide⟩ rfl rfl (Nat.le_of_ble_eq_true rfl) kc1 kc2 (ctX12_item e10 ?_)
  show pm_G g 24 [(3, .int v7), (2, .ref v5), (0, .ref x0), (1, .int x1)] [.int v9] h (pm_sz h - pm_sz h0) (pm_us h - pm_us h0)
  refine pm_istore (lv' := [(4, .int v9), (3, .int v7), (2, .ref v5), (0, .ref x0), (1, .int x1)]) C dX5_stepOnRegisters_24 (pm_nl X (by decide)) rfl ?_
  refine pm_aload_n C dX5_stepOnRegisters_26 rfl rfl ?_
  refine pm_iload_n C dX5_stepOnRegisters_27 rfl rfl ?_
  refine pm_bipush (v := 7) C dX5_stepOnRegisters_28 (by decide) ?_
  refine pm_iadd C dX5_stepOnRegisters_30 ?_
  obtain ⟨v11, e12, hf⟩ := pm_bd hf
  refine pm_callS (as := [.ref v5, .int (x1 + 7)]) (st := []) C X dX5_stepOnRegisters_31 lnX5_88 myX12_item stX12_item ⟨by decide, by decide⟩ rfl rfl (Nat.le_of_ble_eq_true rfl) kc1 kc2 (ctX12_item e12 ?_)
  show pm_G g 34 [(4, .int v9), (3, .int v7), (2, .ref v5), (0, .ref x0), (1, .int x1)] [.int v11] h (pm_sz h - pm_sz h0) (pm_us h - pm_us h0)
  refine pm_istore (lv' := [(5, .int v11), (4, .int v9), (3, .int v7), (2, .ref v5), (0, .ref x0), (1, .int x1)]) C dX5_stepOnRegisters_34 (pm_nl X (by decide)) rfl ?_
  refine pm_aload_n C dX5_stepOnRegisters_36 rfl rfl ?_
  refine pm_iload_n C dX5_stepOnRegisters_37 rfl rfl ?_
  refine pm_iconst (v := 3) C dX5_stepOnRegisters_38 (by decide) ?_
  refine pm_iadd C dX5_stepOnRegisters_39 ?_
  obtain ⟨v13, e14, hf⟩ := pm_bd hf
  refine pm_callS (as := [.ref v5, .int (x1 + 3)]) (st := []) C X dX5_stepOnRegisters_40 lnX5_88 myX12_item stX12_item ⟨by decide, by decide⟩ rfl rfl (Nat.le_of_ble_eq_true rfl) kc1 kc2 (ctX12_item e14 ?_)
  show pm_G g 43 [(5, .int v11), (4, .int v9), (3, .int v7), (2, .ref v5), (0, .ref x0), (1, .int x1)] [.int v13] h (pm_sz h - pm_sz h0) (pm_us h - pm_us h0)
  refine pm_istore (lv' := [(6, .int v13), (5, .int v11), (4, .int v9), (3, .int v7), (2, .ref v5), (0, .ref x0), (1, .int x1)]) C dX5_stepOnRegisters_43 (pm_nl X (by decide)) rfl ?_
  refine pm_aload_n C dX5_stepOnRegisters_45 rfl rfl ?_
  refine pm_iload_n C dX5_stepOnRegisters_46 rfl rfl ?_
  refine pm_iconst (v := 4) C dX5_stepOnRegisters_47 (by decide) ?_
  refine pm_iadd C dX5_stepOnRegisters_48 ?_
  obtain ⟨v15, e16, hf⟩ := pm_bd hf
  refine pm_callS (as := [.ref v5, .int (x1 + 4)]) (st := []) C X dX5_stepOnRegisters_49 lnX5_88 myX12_item stX12_item ⟨by decide, by decide⟩ rfl rfl (Nat.le_of_ble_eq_true rfl) kc1 kc2 (ctX12_item e16 ?_)
  show pm_G g 52 [(6, .int v13), (5, .int v11), (4, .int v9), (3, .int v7), (2, .ref v5), (0, .ref x0), (1, .int x1)] [.int v15] h (pm_sz h - pm_sz h0) (pm_us h - pm_us h0)
  refine pm_istore (lv' := [(7, .int v15), (6, .int v13), (5, .int v11), (4, .int v9), (3, .int v7), (2, .ref v5), (0, .ref x0), (1, .int x1)]) C dX5_stepOnRegisters_52 (pm_nl X (by decide)) rfl ?_
  refine pm_aload_n C dX5_stepOnRegisters_54 rfl rfl ?_
  refine pm_iload_n C dX5_stepOnRegisters_55 rfl rfl ?_
  refine pm_iconst (v := 2) C dX5_stepOnRegisters_56 (by decide) ?_
  refine pm_iadd C dX5_stepOnRegisters_57 ?_
  obtain ⟨v17, e18, hf⟩ := pm_bd hf
  refine pm_callS (as := [.ref v5, .int (x1 + 2)]) (st := []) C X dX5_stepOnRegisters_58 lnX5_88 myX12_item stX12_item ⟨by decide, by decide⟩ rfl rfl (Nat.le_of_ble_eq_true rfl) kc1 kc2 (ctX12_item e18 ?_)
  show pm_G g 61 [(7, .int v15), (6, .int v13), (5, .int v11), (4, .int v9), (3, .int v7), (2, .ref v5), (0, .ref x0), (1, .int x1)] [.int v17] h (pm_sz h - pm_sz h0) (pm_us h - pm_us h0)
  refine pm_istore (lv' := [(8, .int v17), (7, .int v15), (6, .int v13), (5, .int v11), (4, .int v9), (3, .int v7), (2, .ref v5), (0, .ref x0), (1, .int x1)]) C dX5_stepOnRegisters_61 (pm_nl X (by decide)) rfl ?_
  refine pm_aload_n C dX5_stepOnRegisters_63 rfl rfl ?_
  refine pm_getR C dX5_stepOnRegisters_64 flX5_51 rfl k1 e3 ?_
  refine pm_dup C dX5_stepOnRegisters_67 rfl ?_
  refine pm_getI C dX5_stepOnRegisters_68 flX5_128 rfl k4 rfl ?_
  refine pm_iconst (v := 1) C dX5_stepOnRegisters_71 (by decide) ?_
  refine pm_iadd C dX5_stepOnRegisters_72 ?_
  obtain ⟨y19, e20, hf⟩ := pm_lt hf
  refine pm_topI e20 ?_
  refine pm_putI C dX5_stepOnRegisters_73 flX5_128 rfl rfl k4 rfl rfl ?_
  refine pm_iload_n C dX5_stepOnRegisters_76 rfl rfl ?_
  by_cases c21 : v7 = 1
  · have hf := pm_it hf c21
    refine pm_lookup (off := 91) (tgt := 168) C dX5_stepOnRegisters_77 (by decide) (by rw [c21]; first | done | decide | rfl) (by decide) ?_
    refine pm_aload_n C dX5_stepOnRegisters_168 rfl rfl ?_
    refine pm_iload_n C dX5_stepOnRegisters_169 rfl rfl ?_
    obtain ⟨v22, e23, hf⟩ := pm_bd hf
    refine pm_callV (as := [.int x1]) (st := []) C X dX5_stepOnRegisters_170 lnX5_161 myX5_goFreely viX5_goFreely ⟨by decide, by decide⟩ rfl rfl k1 (Nat.le_of_ble_eq_true rfl) kc1 kc2 (ctX5_goFreely e23 ?_)
    have K24 := pm_S3.trans (kpX5_goFreely e23) (pm_S3I K0)
    show pm_G g 173 [(8, .int v17), (7, .int v15), (6, .int v13), (5, .int v11), (4, .int v9), (3, .int v7), (2, .ref v5), (0, .ref x0), (1, .int x1)] [] v22 (pm_sz h - pm_sz h0) (pm_us h - pm_us h0)
    refine pm_goto (tgt := 436) C dX5_stepOnRegisters_173 (by decide) ?_
    have hf := Option.some.inj hf
    subst hf
    exact pm_vret C X dX5_stepOnRegisters_436 rfl kc1 kc2 q
  have hf := pm_ie hf c21
  by_cases c25 : v7 = 4
  · have hf := pm_it hf c25
    refine pm_lookup (off := 99) (tgt := 176) C dX5_stepOnRegisters_77 (by decide) (by rw [c25]; first | done | decide | rfl) (by decide) ?_
    refine pm_aload_n C dX5_stepOnRegisters_176 rfl rfl ?_
    refine pm_iload C dX5_stepOnRegisters_177 rfl ?_
    obtain ⟨v26, e27, hf⟩ := pm_bd hf
    refine pm_callV (as := [.int v13]) (st := []) C X dX5_stepOnRegisters_179 lnX5_280 myX5_register viX5_register ⟨by decide, by decide⟩ rfl rfl k1 (Nat.le_of_ble_eq_true rfl) kc1 kc2 (ctX5_register e27 ?_)
    show pm_G g 182 [(8, .int v17), (7, .int v15), (6, .int v13), (5, .int v11), (4, .int v9), (3, .int v7), (2, .ref v5), (0, .ref x0), (1, .int x1)] [.long v26] (pm_setI h v2 3 y19) (pm_sz h - pm_sz h0) (pm_us h - pm_us h0)
    refine pm_lconst (v := 0) C dX5_stepOnRegisters_182 (by decide) ?_
    refine pm_lcmp C dX5_stepOnRegisters_183 ?_
    refine pm_if_ne (tgt := 436) C dX5_stepOnRegisters_184 (by decide) (fun c28 => ?_) (fun c28 => ?_)
    · have hf := pm_ie hf ((fun z => c28 ((pm_lg_eq _ _).mpr z)))
      have hf := Option.some.inj hf
      subst hf
      exact pm_vret C X dX5_stepOnRegisters_436 rfl kc1 kc2 q
    · have hf := pm_it hf ((pm_lg_eq _ _).mp c28)
      refine pm_aload_n C dX5_stepOnRegisters_187 rfl rfl ?_
      refine pm_getR C dX5_stepOnRegisters_188 flX5_51 rfl k1 e3 ?_
      refine pm_iload C dX5_stepOnRegisters_191 rfl ?_
      refine pm_putI C dX5_stepOnRegisters_193 flX5_128 rfl rfl k4 rfl rfl ?_
      refine pm_goto (tgt := 436) C dX5_stepOnRegisters_196 (by decide) ?_
      have hf := Option.some.inj hf
      subst hf
      exact pm_vret C X dX5_stepOnRegisters_436 rfl kc1 kc2 q
  have hf := pm_ie hf c25
  by_cases c29 : v7 = 5
  · have hf := pm_it hf c29
    refine pm_lookup (off := 91) (tgt := 168) C dX5_stepOnRegisters_77 (by decide) (by rw [c29]; first | done | decide | rfl) (by decide) ?_
    refine pm_aload_n C dX5_stepOnRegisters_168 rfl rfl ?_
    refine pm_iload_n C dX5_stepOnRegisters_169 rfl rfl ?_
    obtain ⟨v30, e31, hf⟩ := pm_bd hf
    refine pm_callV (as := [.int x1]) (st := []) C X dX5_stepOnRegisters_170 lnX5_161 myX5_goFreely viX5_goFreely ⟨by decide, by decide⟩ rfl rfl k1 (Nat.le_of_ble_eq_true rfl) kc1 kc2 (ctX5_goFreely e31 ?_)
    have K32 := pm_S3.trans (kpX5_goFreely e31) (pm_S3I K0)
    show pm_G g 173 [(8, .int v17), (7, .int v15), (6, .int v13), (5, .int v11), (4, .int v9), (3, .int v7), (2, .ref v5), (0, .ref x0), (1, .int x1)] [] v30 (pm_sz h - pm_sz h0) (pm_us h - pm_us h0)
    refine pm_goto (tgt := 436) C dX5_stepOnRegisters_173 (by decide) ?_
    have hf := Option.some.inj hf
    subst hf
    exact pm_vret C X dX5_stepOnRegisters_436 rfl kc1 kc2 q
  have hf := pm_ie hf c29
  by_cases c33 : v7 = 11
  · have hf := pm_it hf c33
    refine pm_lookup (off := 91) (tgt := 168) C dX5_stepOnRegisters_77 (by decide) (by rw [c33]; first | done | decide | rfl) (by decide) ?_
    refine pm_aload_n C dX5_stepOnRegisters_168 rfl rfl ?_
    refine pm_iload_n C dX5_stepOnRegisters_169 rfl rfl ?_
    obtain ⟨v34, e35, hf⟩ := pm_bd hf
    refine pm_callV (as := [.int x1]) (st := []) C X dX5_stepOnRegisters_170 lnX5_161 myX5_goFreely viX5_goFreely ⟨by decide, by decide⟩ rfl rfl k1 (Nat.le_of_ble_eq_true rfl) kc1 kc2 (ctX5_goFreely e35 ?_)
    have K36 := pm_S3.trans (kpX5_goFreely e35) (pm_S3I K0)
    show pm_G g 173 [(8, .int v17), (7, .int v15), (6, .int v13), (5, .int v11), (4, .int v9), (3, .int v7), (2, .ref v5), (0, .ref x0), (1, .int x1)] [] v34 (pm_sz h - pm_sz h0) (pm_us h - pm_us h0)
    refine pm_goto (tgt := 436) C dX5_stepOnRegisters_173 (by decide) ?_
    have hf := Option.some.inj hf
    subst hf
    exact pm_vret C X dX5_stepOnRegisters_436 rfl kc1 kc2 q
  have hf := pm_ie hf c33
  by_cases c37 : v7 = 12
  · have hf := pm_it hf c37
    refine pm_lookup (off := 122) (tgt := 199) C dX5_stepOnRegisters_77 (by decide) (by rw [c37]; first | done | decide | rfl) (by decide) ?_
    refine pm_aload_n C dX5_stepOnRegisters_199 rfl rfl ?_
    refine pm_iload_n C dX5_stepOnRegisters_200 rfl rfl ?_
    obtain ⟨v38, e39, hf⟩ := pm_bd hf
    refine pm_callV (as := [.int x1]) (st := []) C X dX5_stepOnRegisters_201 lnX5_284 myX5_branchOnRegisters viX5_branchOnRegisters ⟨by decide, by decide⟩ rfl rfl k1 (Nat.le_of_ble_eq_true rfl) kc1 kc2 (ctX5_branchOnRegisters e39 ?_)
    have K40 := pm_S3.trans (kpX5_branchOnRegisters e39) (pm_S3I K0)
    show pm_G g 204 [(8, .int v17), (7, .int v15), (6, .int v13), (5, .int v11), (4, .int v9), (3, .int v7), (2, .ref v5), (0, .ref x0), (1, .int x1)] [] v38 (pm_sz h - pm_sz h0) (pm_us h - pm_us h0)
    refine pm_goto (tgt := 436) C dX5_stepOnRegisters_204 (by decide) ?_
    have hf := Option.some.inj hf
    subst hf
    exact pm_vret C X dX5_stepOnRegisters_436 rfl kc1 kc2 q
  have hf := pm_ie hf c37
  by_cases c41 : v7 = 13
  · have hf := pm_it hf c41
    refine pm_lookup (off := 130) (tgt := 207) C dX5_stepOnRegisters_77 (by decide) (by rw [c41]; first | done | decide | rfl) (by decide) ?_
    refine pm_aload_n C dX5_stepOnRegisters_207 rfl rfl ?_
    refine pm_iload C dX5_stepOnRegisters_208 rfl ?_
    obtain ⟨v42, e43, hf⟩ := pm_bd hf
    refine pm_callV (as := [.int v15]) (st := []) C X dX5_stepOnRegisters_210 lnX5_280 myX5_register viX5_register ⟨by decide, by decide⟩ rfl rfl k1 (Nat.le_of_ble_eq_true rfl) kc1 kc2 (ctX5_register e43 ?_)
    show pm_G g 213 [(8, .int v17), (7, .int v15), (6, .int v13), (5, .int v11), (4, .int v9), (3, .int v7), (2, .ref v5), (0, .ref x0), (1, .int x1)] [.long v42] (pm_setI h v2 3 y19) (pm_sz h - pm_sz h0) (pm_us h - pm_us h0)
    refine pm_lconst (v := 0) C dX5_stepOnRegisters_213 (by decide) ?_
    refine pm_lcmp C dX5_stepOnRegisters_214 ?_
    refine pm_if_eq (tgt := 436) C dX5_stepOnRegisters_215 (by decide) (fun c44 => ?_) (fun c44 => ?_)
    · have hf := pm_it hf ((pm_lg_eq _ _).mp c44)
      have hf := Option.some.inj hf
      subst hf
      exact pm_vret C X dX5_stepOnRegisters_436 rfl kc1 kc2 q
    · have hf := pm_ie hf ((fun z => c44 ((pm_lg_eq _ _).mpr z)))
      refine pm_aload_n C dX5_stepOnRegisters_218 rfl rfl ?_
      refine pm_iload_n C dX5_stepOnRegisters_219 rfl rfl ?_
      obtain ⟨v45, e46, hf⟩ := pm_bd hf
      refine pm_callV (as := [.int x1]) (st := []) C X dX5_stepOnRegisters_220 lnX5_284 myX5_branchOnRegisters viX5_branchOnRegisters ⟨by decide, by decide⟩ rfl rfl k1 (Nat.le_of_ble_eq_true rfl) kc1 kc2 (ctX5_branchOnRegisters e46 ?_)
      have K47 := pm_S3.trans (kpX5_branchOnRegisters e46) (pm_S3I K0)
      show pm_G g 223 [(8, .int v17), (7, .int v15), (6, .int v13), (5, .int v11), (4, .int v9), (3, .int v7), (2, .ref v5), (0, .ref x0), (1, .int x1)] [] v45 (pm_sz h - pm_sz h0) (pm_us h - pm_us h0)
      refine pm_goto (tgt := 436) C dX5_stepOnRegisters_223 (by decide) ?_
      have hf := Option.some.inj hf
      subst hf
      exact pm_vret C X dX5_stepOnRegisters_436 rfl kc1 kc2 q
  have hf := pm_ie hf c41
  by_cases c48 : v7 = 14
  · have hf := pm_it hf c48
    refine pm_lookup (off := 149) (tgt := 226) C dX5_stepOnRegisters_77 (by decide) (by rw [c48]; first | done | decide | rfl) (by decide) ?_
    refine pm_aload_n C dX5_stepOnRegisters_226 rfl rfl ?_
    refine pm_iload_n C dX5_stepOnRegisters_227 rfl rfl ?_
    refine pm_bipush (v := 8) C dX5_stepOnRegisters_228 (by decide) ?_
    refine pm_iconst (v := 1) C dX5_stepOnRegisters_230 (by decide) ?_
    refine pm_aload_n C dX5_stepOnRegisters_231 rfl rfl ?_
    refine pm_iload C dX5_stepOnRegisters_232 rfl ?_
    obtain ⟨v49, e50, hf⟩ := pm_bd hf
    refine pm_callV (as := [.int v13]) (st := [.int 1, .int 8, .int x1, .ref x0]) C X dX5_stepOnRegisters_234 lnX5_280 myX5_register viX5_register ⟨by decide, by decide⟩ rfl rfl k1 (Nat.le_of_ble_eq_true rfl) kc1 kc2 (ctX5_register e50 ?_)
    show pm_G g 237 [(8, .int v17), (7, .int v15), (6, .int v13), (5, .int v11), (4, .int v9), (3, .int v7), (2, .ref v5), (0, .ref x0), (1, .int x1)] [.long v49, .int 1, .int 8, .int x1, .ref x0] (pm_setI h v2 3 y19) (pm_sz h - pm_sz h0) (pm_us h - pm_us h0)
    refine pm_iload C dX5_stepOnRegisters_237 rfl ?_
    refine pm_i2l C dX5_stepOnRegisters_239 ?_
    refine pm_mminJ C (pm_XR X) dX5_stepOnRegisters_240 mtX5_258 (by decide) (by decide) (Nat.le_of_ble_eq_true rfl) kc1 kc2 ?_
    refine pm_l2i C dX5_stepOnRegisters_243 ?_
    refine pm_iadd C dX5_stepOnRegisters_244 ?_
    refine pm_imul C dX5_stepOnRegisters_245 ?_
    refine pm_iadd C dX5_stepOnRegisters_246 ?_
    obtain ⟨v51, e52, hf⟩ := pm_bd hf
    refine pm_callV (as := [.int (x1 + (8 * (1 + (((if v9.toInt64 < v49 then v9.toInt64 else v49)).toInt32))))]) (st := []) C X dX5_stepOnRegisters_247 lnX5_284 myX5_branchOnRegisters viX5_branchOnRegisters ⟨by decide, by decide⟩ rfl rfl k1 (Nat.le_of_ble_eq_true rfl) kc1 kc2 (ctX5_branchOnRegisters e52 ?_)
    have K53 := pm_S3.trans (kpX5_branchOnRegisters e52) (pm_S3I K0)
    show pm_G g 250 [(8, .int v17), (7, .int v15), (6, .int v13), (5, .int v11), (4, .int v9), (3, .int v7), (2, .ref v5), (0, .ref x0), (1, .int x1)] [] v51 (pm_sz h - pm_sz h0) (pm_us h - pm_us h0)
    refine pm_goto (tgt := 436) C dX5_stepOnRegisters_250 (by decide) ?_
    have hf := Option.some.inj hf
    subst hf
    exact pm_vret C X dX5_stepOnRegisters_436 rfl kc1 kc2 q
  have hf := pm_ie hf c48
  by_cases c54 : v7 = 16
  · have hf := pm_it hf c54
    refine pm_lookup (off := 176) (tgt := 253) C dX5_stepOnRegisters_77 (by decide) (by rw [c54]; first | done | decide | rfl) (by decide) ?_
    refine pm_aload_n C dX5_stepOnRegisters_253 rfl rfl ?_
    refine pm_getR C dX5_stepOnRegisters_254 flX5_51 rfl k1 e3 ?_
    refine pm_aload_n C dX5_stepOnRegisters_257 rfl rfl ?_
    refine pm_getR C dX5_stepOnRegisters_258 flX5_51 rfl k1 e3 ?_
    refine pm_getI C dX5_stepOnRegisters_261 flX5_198 rfl k4 rfl ?_
    refine pm_iload C dX5_stepOnRegisters_264 rfl ?_
    refine pm_iadd C dX5_stepOnRegisters_266 ?_
    obtain ⟨y55, e56, hf⟩ := pm_lt hf
    refine pm_topI e56 ?_
    refine pm_putI C dX5_stepOnRegisters_267 flX5_118 rfl rfl k4 rfl rfl ?_
    refine pm_aload_n C dX5_stepOnRegisters_270 rfl rfl ?_
    refine pm_aload_n C dX5_stepOnRegisters_271 rfl rfl ?_
    refine pm_getR C dX5_stepOnRegisters_272 flX5_51 rfl k1 e3 ?_
    obtain ⟨v57, e58, hf⟩ := pm_bd hf
    refine pm_getR C dX5_stepOnRegisters_275 flX5_193 rfl k4 e58 ?_
    obtain ⟨k59, hf⟩ := pm_if hf
    obtain ⟨v60, e61, hf⟩ := pm_bd hf
    refine pm_getR C dX5_stepOnRegisters_278 flX5_261 rfl k59 e61 ?_
    refine pm_iload C dX5_stepOnRegisters_281 rfl ?_
    obtain ⟨v62, e63, hf⟩ := pm_bd hf
    refine pm_callS (as := [.ref v60, .int v9]) (st := [.ref x0]) C X dX5_stepOnRegisters_283 lnX5_88 myX12_item stX12_item ⟨by decide, by decide⟩ rfl rfl (Nat.le_of_ble_eq_true rfl) kc1 kc2 (ctX12_item e63 ?_)
    show pm_G g 286 [(8, .int v17), (7, .int v15), (6, .int v13), (5, .int v11), (4, .int v9), (3, .int v7), (2, .ref v5), (0, .ref x0), (1, .int x1)] [.int v62, .ref x0] (pm_setI (pm_setI h v2 3 y19) v2 5 y55) (pm_sz h - pm_sz h0) (pm_us h - pm_us h0)
    refine pm_aload_n C dX5_stepOnRegisters_286 rfl rfl ?_
    refine pm_getR C dX5_stepOnRegisters_287 flX5_51 rfl k1 e3 ?_
    refine pm_getI C dX5_stepOnRegisters_290 flX5_118 rfl k4 rfl ?_
    obtain ⟨v64, e65, hf⟩ := pm_bd hf
    refine pm_callV (as := [.int v62, .int (pm_I (pm_setI (pm_setI h v2 3 y19) v2 5 y55) v2 5)]) (st := []) C X dX5_stepOnRegisters_293 lnX5_103 myX5_enter viX5_enter ⟨by decide, by decide⟩ rfl rfl k1 (Nat.le_of_ble_eq_true rfl) kc1 kc2 (ctX5_enter e65 ?_)
    have K66 := pm_S3.trans (kpX5_enter e65) (pm_S3I (pm_S3I K0))
    show pm_G g 296 [(8, .int v17), (7, .int v15), (6, .int v13), (5, .int v11), (4, .int v9), (3, .int v7), (2, .ref v5), (0, .ref x0), (1, .int x1)] [] v64 (pm_sz h - pm_sz h0) (pm_us h - pm_us h0)
    refine pm_goto (tgt := 436) C dX5_stepOnRegisters_296 (by decide) ?_
    have hf := Option.some.inj hf
    subst hf
    exact pm_vret C X dX5_stepOnRegisters_436 rfl kc1 kc2 q
  have hf := pm_ie hf c54
  by_cases c67 : v7 = 17
  · have hf := pm_it hf c67
    refine pm_lookup (off := 222) (tgt := 299) C dX5_stepOnRegisters_77 (by decide) (by rw [c67]; first | done | decide | rfl) (by decide) ?_
    refine pm_aload_n C dX5_stepOnRegisters_299 rfl rfl ?_
    refine pm_getR C dX5_stepOnRegisters_300 flX5_51 rfl k1 e3 ?_
    refine pm_aload_n C dX5_stepOnRegisters_303 rfl rfl ?_
    refine pm_getR C dX5_stepOnRegisters_304 flX5_51 rfl k1 e3 ?_
    refine pm_getI C dX5_stepOnRegisters_307 flX5_198 rfl k4 rfl ?_
    refine pm_iload C dX5_stepOnRegisters_310 rfl ?_
    refine pm_iadd C dX5_stepOnRegisters_312 ?_
    obtain ⟨y68, e69, hf⟩ := pm_lt hf
    refine pm_topI e69 ?_
    refine pm_putI C dX5_stepOnRegisters_313 flX5_118 rfl rfl k4 rfl rfl ?_
    refine pm_aload_n C dX5_stepOnRegisters_316 rfl rfl ?_
    refine pm_iload C dX5_stepOnRegisters_317 rfl ?_
    refine pm_iload C dX5_stepOnRegisters_319 rfl ?_
    refine pm_aload_n C dX5_stepOnRegisters_321 rfl rfl ?_
    refine pm_iload C dX5_stepOnRegisters_322 rfl ?_
    obtain ⟨v70, e71, hf⟩ := pm_bd hf
    refine pm_callV (as := [.int v13]) (st := [.int v11, .int v9, .ref x0]) C X dX5_stepOnRegisters_324 lnX5_280 myX5_register viX5_register ⟨by decide, by decide⟩ rfl rfl k1 (Nat.le_of_ble_eq_true rfl) kc1 kc2 (ctX5_register e71 ?_)
    show pm_G g 327 [(8, .int v17), (7, .int v15), (6, .int v13), (5, .int v11), (4, .int v9), (3, .int v7), (2, .ref v5), (0, .ref x0), (1, .int x1)] [.long v70, .int v11, .int v9, .ref x0] (pm_setI (pm_setI h v2 3 y19) v2 5 y68) (pm_sz h - pm_sz h0) (pm_us h - pm_us h0)
    refine pm_aload_n C dX5_stepOnRegisters_327 rfl rfl ?_
    refine pm_getR C dX5_stepOnRegisters_328 flX5_51 rfl k1 e3 ?_
    refine pm_getI C dX5_stepOnRegisters_331 flX5_118 rfl k4 rfl ?_
    obtain ⟨v72, e73, hf⟩ := pm_bd hf
    refine pm_callV (as := [.int v9, .int v11, .long v70, .int (pm_I (pm_setI (pm_setI h v2 3 y19) v2 5 y68) v2 5)]) (st := []) C X dX5_stepOnRegisters_334 lnX5_264 myX5_callByTable viX5_callByTable ⟨by decide, by decide⟩ rfl rfl k1 (Nat.le_of_ble_eq_true rfl) (pa_le1 (pm_S3I (pm_S3I K0)) m0 (moX5_callByTable e73) (moX5_stepOnRegisters_b337 hf)) (pa_le2 (pm_S3I (pm_S3I K0)) m0 (moX5_callByTable e73) (moX5_stepOnRegisters_b337 hf)) (ctX5_callByTable e73 ?_)
    show pm_G g 337 [(8, .int v17), (7, .int v15), (6, .int v13), (5, .int v11), (4, .int v9), (3, .int v7), (2, .ref v5), (0, .ref x0), (1, .int x1)] [] v72 (pm_sz h - pm_sz h0 + (pm_sz v72 - pm_sz (pm_setI (pm_setI h v2 3 y19) v2 5 y68))) (pm_us h - pm_us h0 + (pm_us v72 - pm_us (pm_setI (pm_setI h v2 3 y19) v2 5 y68)))
    refine pa_fin (pm_S3I (pm_S3I K0)) m0 (moX5_callByTable e73) ?_
    exact pm_sub [] rfl (bX5_stepOnRegisters_337 C X ((m0.trans (pm_S3.le (pm_S3I (pm_S3I K0)))).trans (moX5_callByTable e73)) hf q)
  have hf := pm_ie hf c67
  by_cases c74 : v7 = 500
  · have hf := pm_it hf c74
    refine pm_lookup (off := 91) (tgt := 168) C dX5_stepOnRegisters_77 (by decide) (by rw [c74]; first | done | decide | rfl) (by decide) ?_
    refine pm_aload_n C dX5_stepOnRegisters_168 rfl rfl ?_
    refine pm_iload_n C dX5_stepOnRegisters_169 rfl rfl ?_
    obtain ⟨v75, e76, hf⟩ := pm_bd hf
    refine pm_callV (as := [.int x1]) (st := []) C X dX5_stepOnRegisters_170 lnX5_161 myX5_goFreely viX5_goFreely ⟨by decide, by decide⟩ rfl rfl k1 (Nat.le_of_ble_eq_true rfl) kc1 kc2 (ctX5_goFreely e76 ?_)
    have K77 := pm_S3.trans (kpX5_goFreely e76) (pm_S3I K0)
    show pm_G g 173 [(8, .int v17), (7, .int v15), (6, .int v13), (5, .int v11), (4, .int v9), (3, .int v7), (2, .ref v5), (0, .ref x0), (1, .int x1)] [] v75 (pm_sz h - pm_sz h0) (pm_us h - pm_us h0)
    refine pm_goto (tgt := 436) C dX5_stepOnRegisters_173 (by decide) ?_
    have hf := Option.some.inj hf
    subst hf
    exact pm_vret C X dX5_stepOnRegisters_436 rfl kc1 kc2 q
  have hf := pm_ie hf c74
  refine pm_lookup (off := 263) (tgt := 340) C dX5_stepOnRegisters_77 (by decide) ((lv_osw c21 (by decide)).trans ((lv_osw c25 (by decide)).trans ((lv_osw c29 (by decide)).trans ((lv_osw c33 (by decide)).trans ((lv_osw c37 (by decide)).trans ((lv_osw c41 (by decide)).trans ((lv_osw c48 (by decide)).trans ((lv_osw c54 (by decide)).trans ((lv_osw c67 (by decide)).trans ((lv_osw c74 (by decide)).trans (rfl))))))))))) (by decide) ?_
  refine pm_aload_n C dX5_stepOnRegisters_340 rfl rfl ?_
  refine pm_aload_n C dX5_stepOnRegisters_341 rfl rfl ?_
  refine pm_iload_n C dX5_stepOnRegisters_342 rfl rfl ?_
  refine pm_iconst (v := 5) C dX5_stepOnRegisters_343 (by decide) ?_
  refine pm_iadd C dX5_stepOnRegisters_344 ?_
  obtain ⟨v78, e79, hf⟩ := pm_bd hf
  refine pm_callS (as := [.ref v5, .int (x1 + 5)]) (st := [.ref x0]) C X dX5_stepOnRegisters_345 lnX5_88 myX12_item stX12_item ⟨by decide, by decide⟩ rfl rfl (Nat.le_of_ble_eq_true rfl) kc1 kc2 (ctX12_item e79 ?_)
  show pm_G g 348 [(8, .int v17), (7, .int v15), (6, .int v13), (5, .int v11), (4, .int v9), (3, .int v7), (2, .ref v5), (0, .ref x0), (1, .int x1)] [.int v78, .ref x0] (pm_setI h v2 3 y19) (pm_sz h - pm_sz h0) (pm_us h - pm_us h0)
  obtain ⟨v80, e81, hf⟩ := pm_bd hf
  refine pm_callV (as := [.int v78]) (st := []) C X dX5_stepOnRegisters_348 lnX5_280 myX5_register viX5_register ⟨by decide, by decide⟩ rfl rfl k1 (Nat.le_of_ble_eq_true rfl) kc1 kc2 (ctX5_register e81 ?_)
  show pm_G g 351 [(8, .int v17), (7, .int v15), (6, .int v13), (5, .int v11), (4, .int v9), (3, .int v7), (2, .ref v5), (0, .ref x0), (1, .int x1)] [.long v80] (pm_setI h v2 3 y19) (pm_sz h - pm_sz h0) (pm_us h - pm_us h0)
  refine pm_lstore (lv' := [(9, .long v80), (8, .int v17), (7, .int v15), (6, .int v13), (5, .int v11), (4, .int v9), (3, .int v7), (2, .ref v5), (0, .ref x0), (1, .int x1)]) C dX5_stepOnRegisters_351 (pm_nl X (by decide)) rfl ?_
  refine pm_aload_n C dX5_stepOnRegisters_353 rfl rfl ?_
  obtain ⟨v82, e83, hf⟩ := pm_bd hf
  refine pm_getR C dX5_stepOnRegisters_354 flX5_24 rfl k1 e83 ?_
  refine pm_aload_n C dX5_stepOnRegisters_357 rfl rfl ?_
  refine pm_getR C dX5_stepOnRegisters_358 flX5_51 rfl k1 e3 ?_
  obtain ⟨v84, e85, hf⟩ := pm_bd hf
  refine pm_getR C dX5_stepOnRegisters_361 flX5_193 rfl k4 e85 ?_
  refine pm_iload_n C dX5_stepOnRegisters_364 rfl rfl ?_
  refine pm_iload C dX5_stepOnRegisters_365 rfl ?_
  refine pm_iload C dX5_stepOnRegisters_367 rfl ?_
  refine pm_aload_n C dX5_stepOnRegisters_369 rfl rfl ?_
  refine pm_iload C dX5_stepOnRegisters_370 rfl ?_
  obtain ⟨v86, e87, hf⟩ := pm_bd hf
  refine pm_callV (as := [.int v13]) (st := [.int v11, .int v9, .int v7, .ref v84, .ref v82]) C X dX5_stepOnRegisters_372 lnX5_280 myX5_register viX5_register ⟨by decide, by decide⟩ rfl rfl k1 (Nat.le_of_ble_eq_true rfl) kc1 kc2 (ctX5_register e87 ?_)
  show pm_G g 375 [(9, .long v80), (8, .int v17), (7, .int v15), (6, .int v13), (5, .int v11), (4, .int v9), (3, .int v7), (2, .ref v5), (0, .ref x0), (1, .int x1)] [.long v86, .int v11, .int v9, .int v7, .ref v84, .ref v82] (pm_setI h v2 3 y19) (pm_sz h - pm_sz h0) (pm_us h - pm_us h0)
  refine pm_aload_n C dX5_stepOnRegisters_375 rfl rfl ?_
  refine pm_iload C dX5_stepOnRegisters_376 rfl ?_
  obtain ⟨v88, e89, hf⟩ := pm_bd hf
  refine pm_callV (as := [.int v15]) (st := [.long v86, .int v11, .int v9, .int v7, .ref v84, .ref v82]) C X dX5_stepOnRegisters_378 lnX5_280 myX5_register viX5_register ⟨by decide, by decide⟩ rfl rfl k1 (Nat.le_of_ble_eq_true rfl) kc1 kc2 (ctX5_register e89 ?_)
  show pm_G g 381 [(9, .long v80), (8, .int v17), (7, .int v15), (6, .int v13), (5, .int v11), (4, .int v9), (3, .int v7), (2, .ref v5), (0, .ref x0), (1, .int x1)] [.long v88, .long v86, .int v11, .int v9, .int v7, .ref v84, .ref v82] (pm_setI h v2 3 y19) (pm_sz h - pm_sz h0) (pm_us h - pm_us h0)
  refine pm_lload C dX5_stepOnRegisters_381 rfl ?_
  obtain ⟨k90, hf⟩ := pm_if hf
  obtain ⟨v91, e92, hf⟩ := pm_bd hf
  refine pm_callV (as := [.ref v84, .int v7, .int v9, .int v11, .long v86, .long v88, .long v80]) (st := []) C X dX5_stepOnRegisters_383 lnX5_272 myX10_perform viX10_perform ⟨by decide, by decide⟩ rfl rfl k90 (Nat.le_of_ble_eq_true rfl) (pa_le1 (pm_S3I K0) m0 (moX10_perform e92) (moX5_stepOnRegisters_b386 hf)) (pa_le2 (pm_S3I K0) m0 (moX10_perform e92) (moX5_stepOnRegisters_b386 hf)) (ctX10_perform e92 ?_)
  show pm_G g 386 [(9, .long v80), (8, .int v17), (7, .int v15), (6, .int v13), (5, .int v11), (4, .int v9), (3, .int v7), (2, .ref v5), (0, .ref x0), (1, .int x1)] [.long v91.1] v91.2 (pm_sz h - pm_sz h0 + (pm_sz v91.2 - pm_sz (pm_setI h v2 3 y19))) (pm_us h - pm_us h0 + (pm_us v91.2 - pm_us (pm_setI h v2 3 y19)))
  refine pa_fin (pm_S3I K0) m0 (moX10_perform e92) ?_
  exact pm_sub [8, 1] rfl (bX5_stepOnRegisters_386 C X ((m0.trans (pm_S3.le (pm_S3I K0))).trans (moX10_perform e92)) hf q)
set_option maxHeartbeats 4000000 in
set_option maxRecDepth 100000 in
theorem ctX5_stepOnRegisters {l : Launch} {G : pm_Gl} {h : pm_H} {a0 : Nat} {p1 : Int32} {r : pm_H} {Qr : Option Value → pm_H → Prop} (hf : fX5_stepOnRegisters h a0 p1 = some r) (q : Qr none r) : pm_Ct l G mX5_stepOnRegisters [.ref a0, .int p1] h (pm_sz r - pm_sz h) (pm_us r - pm_us h) Qr := by
  refine pm_body pnX5 (Nat.le_of_ble_eq_true rfl) (fun g C X => ?_)
  have C : pm_C g cX5_stepOnRegisters RX5 := C
  show pm_G g 0 [(0, .ref a0), (1, .int p1)] [] h 0 0
  unfold fX5_stepOnRegisters at hf
  exact pa_start (pm_sub [0, 1] rfl (bX5_stepOnRegisters_0 C X (pm_Le.rf h) hf q))
