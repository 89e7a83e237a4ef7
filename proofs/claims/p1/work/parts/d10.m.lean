theorem dX5_stepOnStack_0 : decode cX5_stepOnStack 0 = .ok (.aload_n 0, 1) := by decide +kernel
theorem dX5_stepOnStack_1 : decode cX5_stepOnStack 1 = .ok (.getfield 51, 3) := by decide +kernel
theorem dX5_stepOnStack_4 : decode cX5_stepOnStack 4 = .ok (.getfield 128, 3) := by decide +kernel
theorem dX5_stepOnStack_7 : decode cX5_stepOnStack 7 = .ok (.iconst 5, 1) := by decide +kernel
theorem dX5_stepOnStack_8 : decode cX5_stepOnStack 8 = .ok (.imul, 1) := by decide +kernel
theorem dX5_stepOnStack_9 : decode cX5_stepOnStack 9 = .ok (.istore_n 1, 1) := by decide +kernel
theorem dX5_stepOnStack_10 : decode cX5_stepOnStack 10 = .ok (.aload_n 0, 1) := by decide +kernel
theorem dX5_stepOnStack_11 : decode cX5_stepOnStack 11 = .ok (.getfield 51, 3) := by decide +kernel
theorem dX5_stepOnStack_14 : decode cX5_stepOnStack 14 = .ok (.getfield 131, 3) := by decide +kernel
theorem dX5_stepOnStack_17 : decode cX5_stepOnStack 17 = .ok (.iload_n 1, 1) := by decide +kernel
theorem dX5_stepOnStack_18 : decode cX5_stepOnStack 18 = .ok (.invokestatic 88, 3) := by decide +kernel
theorem dX5_stepOnStack_21 : decode cX5_stepOnStack 21 = .ok (.istore_n 2, 1) := by decide +kernel
theorem dX5_stepOnStack_22 : decode cX5_stepOnStack 22 = .ok (.aload_n 0, 1) := by decide +kernel
theorem dX5_stepOnStack_23 : decode cX5_stepOnStack 23 = .ok (.getfield 51, 3) := by decide +kernel
theorem dX5_stepOnStack_26 : decode cX5_stepOnStack 26 = .ok (.getfield 131, 3) := by decide +kernel
theorem dX5_stepOnStack_29 : decode cX5_stepOnStack 29 = .ok (.iload_n 1, 1) := by decide +kernel
theorem dX5_stepOnStack_30 : decode cX5_stepOnStack 30 = .ok (.iconst 1, 1) := by decide +kernel
theorem dX5_stepOnStack_31 : decode cX5_stepOnStack 31 = .ok (.iadd, 1) := by decide +kernel
theorem dX5_stepOnStack_32 : decode cX5_stepOnStack 32 = .ok (.invokestatic 88, 3) := by decide +kernel
theorem dX5_stepOnStack_35 : decode cX5_stepOnStack 35 = .ok (.istore_n 3, 1) := by decide +kernel
theorem dX5_stepOnStack_36 : decode cX5_stepOnStack 36 = .ok (.aload_n 0, 1) := by decide +kernel
theorem dX5_stepOnStack_37 : decode cX5_stepOnStack 37 = .ok (.getfield 51, 3) := by decide +kernel
theorem dX5_stepOnStack_40 : decode cX5_stepOnStack 40 = .ok (.getfield 131, 3) := by decide +kernel
theorem dX5_stepOnStack_43 : decode cX5_stepOnStack 43 = .ok (.iload_n 1, 1) := by decide +kernel
theorem dX5_stepOnStack_44 : decode cX5_stepOnStack 44 = .ok (.iconst 2, 1) := by decide +kernel
theorem dX5_stepOnStack_45 : decode cX5_stepOnStack 45 = .ok (.iadd, 1) := by decide +kernel
theorem dX5_stepOnStack_46 : decode cX5_stepOnStack 46 = .ok (.invokestatic 88, 3) := by decide +kernel
theorem dX5_stepOnStack_49 : decode cX5_stepOnStack 49 = .ok (.istore 4, 2) := by decide +kernel
theorem dX5_stepOnStack_51 : decode cX5_stepOnStack 51 = .ok (.aload_n 0, 1) := by decide +kernel
theorem dX5_stepOnStack_52 : decode cX5_stepOnStack 52 = .ok (.getfield 51, 3) := by decide +kernel
theorem dX5_stepOnStack_55 : decode cX5_stepOnStack 55 = .ok (.getfield 131, 3) := by decide +kernel
theorem dX5_stepOnStack_58 : decode cX5_stepOnStack 58 = .ok (.iload_n 1, 1) := by decide +kernel
theorem dX5_stepOnStack_59 : decode cX5_stepOnStack 59 = .ok (.iconst 3, 1) := by decide +kernel
theorem dX5_stepOnStack_60 : decode cX5_stepOnStack 60 = .ok (.iadd, 1) := by decide +kernel
theorem dX5_stepOnStack_61 : decode cX5_stepOnStack 61 = .ok (.invokestatic 88, 3) := by decide +kernel
theorem dX5_stepOnStack_64 : decode cX5_stepOnStack 64 = .ok (.istore 5, 2) := by decide +kernel
theorem dX5_stepOnStack_66 : decode cX5_stepOnStack 66 = .ok (.aload_n 0, 1) := by decide +kernel
theorem dX5_stepOnStack_67 : decode cX5_stepOnStack 67 = .ok (.getfield 51, 3) := by decide +kernel
theorem dX5_stepOnStack_70 : decode cX5_stepOnStack 70 = .ok (.dup, 1) := by decide +kernel
theorem dX5_stepOnStack_71 : decode cX5_stepOnStack 71 = .ok (.getfield 128, 3) := by decide +kernel
theorem dX5_stepOnStack_74 : decode cX5_stepOnStack 74 = .ok (.iconst 1, 1) := by decide +kernel
theorem dX5_stepOnStack_75 : decode cX5_stepOnStack 75 = .ok (.iadd, 1) := by decide +kernel
theorem dX5_stepOnStack_76 : decode cX5_stepOnStack 76 = .ok (.putfield 128, 3) := by decide +kernel
theorem dX5_stepOnStack_79 : decode cX5_stepOnStack 79 = .ok (.iload_n 2, 1) := by decide +kernel
theorem dX5_stepOnStack_80 : decode cX5_stepOnStack 80 = .ok (.lookupswitch 342 #[(4, 92), (12, 112), (13, 120), (14, 137), (16, 160), (17, 202), (32, 241), (33, 264), (34, 287), (65, 322)], 92) := by decide +kernel
theorem dX5_stepOnStack_172 : decode cX5_stepOnStack 172 = .ok (.aload_n 0, 1) := by decide +kernel
theorem dX5_stepOnStack_173 : decode cX5_stepOnStack 173 = .ok (.invokevirtual 251, 3) := by decide +kernel
theorem dX5_stepOnStack_176 : decode cX5_stepOnStack 176 = .ok (.lconst 0, 1) := by decide +kernel
theorem dX5_stepOnStack_177 : decode cX5_stepOnStack 177 = .ok (.lcmp, 1) := by decide +kernel
theorem dX5_stepOnStack_178 : decode cX5_stepOnStack 178 = .ok (.ifCond .ne 408, 3) := by decide +kernel
theorem dX5_stepOnStack_181 : decode cX5_stepOnStack 181 = .ok (.aload_n 0, 1) := by decide +kernel
theorem dX5_stepOnStack_182 : decode cX5_stepOnStack 182 = .ok (.getfield 51, 3) := by decide +kernel
theorem dX5_stepOnStack_185 : decode cX5_stepOnStack 185 = .ok (.iload_n 3, 1) := by decide +kernel
theorem dX5_stepOnStack_186 : decode cX5_stepOnStack 186 = .ok (.putfield 128, 3) := by decide +kernel
theorem dX5_stepOnStack_189 : decode cX5_stepOnStack 189 = .ok (.goto 397, 3) := by decide +kernel
theorem dX5_stepOnStack_192 : decode cX5_stepOnStack 192 = .ok (.aload_n 0, 1) := by decide +kernel
theorem dX5_stepOnStack_193 : decode cX5_stepOnStack 193 = .ok (.iload_n 1, 1) := by decide +kernel
theorem dX5_stepOnStack_194 : decode cX5_stepOnStack 194 = .ok (.invokevirtual 255, 3) := by decide +kernel
theorem dX5_stepOnStack_197 : decode cX5_stepOnStack 197 = .ok (.goto 389, 3) := by decide +kernel
theorem dX5_stepOnStack_200 : decode cX5_stepOnStack 200 = .ok (.aload_n 0, 1) := by decide +kernel
theorem dX5_stepOnStack_201 : decode cX5_stepOnStack 201 = .ok (.invokevirtual 251, 3) := by decide +kernel
theorem dX5_stepOnStack_204 : decode cX5_stepOnStack 204 = .ok (.lconst 0, 1) := by decide +kernel
theorem dX5_stepOnStack_205 : decode cX5_stepOnStack 205 = .ok (.lcmp, 1) := by decide +kernel
theorem dX5_stepOnStack_206 : decode cX5_stepOnStack 206 = .ok (.ifCond .eq 380, 3) := by decide +kernel
theorem dX5_stepOnStack_209 : decode cX5_stepOnStack 209 = .ok (.aload_n 0, 1) := by decide +kernel
theorem dX5_stepOnStack_210 : decode cX5_stepOnStack 210 = .ok (.iload_n 1, 1) := by decide +kernel
theorem dX5_stepOnStack_211 : decode cX5_stepOnStack 211 = .ok (.invokevirtual 255, 3) := by decide +kernel
theorem dX5_stepOnStack_214 : decode cX5_stepOnStack 214 = .ok (.goto 372, 3) := by decide +kernel
theorem dX5_stepOnStack_217 : decode cX5_stepOnStack 217 = .ok (.aload_n 0, 1) := by decide +kernel
theorem dX5_stepOnStack_218 : decode cX5_stepOnStack 218 = .ok (.iload_n 1, 1) := by decide +kernel
theorem dX5_stepOnStack_219 : decode cX5_stepOnStack 219 = .ok (.iconst 5, 1) := by decide +kernel
theorem dX5_stepOnStack_220 : decode cX5_stepOnStack 220 = .ok (.iconst 1, 1) := by decide +kernel
theorem dX5_stepOnStack_221 : decode cX5_stepOnStack 221 = .ok (.aload_n 0, 1) := by decide +kernel
theorem dX5_stepOnStack_222 : decode cX5_stepOnStack 222 = .ok (.invokevirtual 251, 3) := by decide +kernel
theorem dX5_stepOnStack_225 : decode cX5_stepOnStack 225 = .ok (.iload_n 3, 1) := by decide +kernel
theorem dX5_stepOnStack_226 : decode cX5_stepOnStack 226 = .ok (.i2l, 1) := by decide +kernel
theorem dX5_stepOnStack_227 : decode cX5_stepOnStack 227 = .ok (.invokestatic 258, 3) := by decide +kernel
theorem dX5_stepOnStack_230 : decode cX5_stepOnStack 230 = .ok (.l2i, 1) := by decide +kernel
theorem dX5_stepOnStack_231 : decode cX5_stepOnStack 231 = .ok (.iadd, 1) := by decide +kernel
theorem dX5_stepOnStack_232 : decode cX5_stepOnStack 232 = .ok (.imul, 1) := by decide +kernel
theorem dX5_stepOnStack_233 : decode cX5_stepOnStack 233 = .ok (.iadd, 1) := by decide +kernel
theorem dX5_stepOnStack_234 : decode cX5_stepOnStack 234 = .ok (.invokevirtual 255, 3) := by decide +kernel
theorem dX5_stepOnStack_237 : decode cX5_stepOnStack 237 = .ok (.goto 349, 3) := by decide +kernel
theorem dX5_stepOnStack_240 : decode cX5_stepOnStack 240 = .ok (.aload_n 0, 1) := by decide +kernel
theorem dX5_stepOnStack_241 : decode cX5_stepOnStack 241 = .ok (.getfield 51, 3) := by decide +kernel
theorem dX5_stepOnStack_244 : decode cX5_stepOnStack 244 = .ok (.dup, 1) := by decide +kernel
theorem dX5_stepOnStack_245 : decode cX5_stepOnStack 245 = .ok (.getfield 118, 3) := by decide +kernel
theorem dX5_stepOnStack_248 : decode cX5_stepOnStack 248 = .ok (.iload 5, 2) := by decide +kernel
theorem dX5_stepOnStack_250 : decode cX5_stepOnStack 250 = .ok (.isub, 1) := by decide +kernel
theorem dX5_stepOnStack_251 : decode cX5_stepOnStack 251 = .ok (.putfield 118, 3) := by decide +kernel
theorem dX5_stepOnStack_254 : decode cX5_stepOnStack 254 = .ok (.aload_n 0, 1) := by decide +kernel
theorem dX5_stepOnStack_255 : decode cX5_stepOnStack 255 = .ok (.aload_n 0, 1) := by decide +kernel
theorem dX5_stepOnStack_256 : decode cX5_stepOnStack 256 = .ok (.getfield 51, 3) := by decide +kernel
theorem dX5_stepOnStack_259 : decode cX5_stepOnStack 259 = .ok (.getfield 193, 3) := by decide +kernel
theorem dX5_stepOnStack_262 : decode cX5_stepOnStack 262 = .ok (.getfield 261, 3) := by decide +kernel
theorem dX5_stepOnStack_265 : decode cX5_stepOnStack 265 = .ok (.iload_n 3, 1) := by decide +kernel
theorem dX5_stepOnStack_266 : decode cX5_stepOnStack 266 = .ok (.invokestatic 88, 3) := by decide +kernel
theorem dX5_stepOnStack_269 : decode cX5_stepOnStack 269 = .ok (.aload_n 0, 1) := by decide +kernel
theorem dX5_stepOnStack_270 : decode cX5_stepOnStack 270 = .ok (.getfield 51, 3) := by decide +kernel
theorem dX5_stepOnStack_273 : decode cX5_stepOnStack 273 = .ok (.getfield 118, 3) := by decide +kernel
theorem dX5_stepOnStack_276 : decode cX5_stepOnStack 276 = .ok (.invokevirtual 103, 3) := by decide +kernel
theorem dX5_stepOnStack_279 : decode cX5_stepOnStack 279 = .ok (.goto 307, 3) := by decide +kernel
theorem dX5_stepOnStack_282 : decode cX5_stepOnStack 282 = .ok (.aload_n 0, 1) := by decide +kernel
theorem dX5_stepOnStack_283 : decode cX5_stepOnStack 283 = .ok (.invokevirtual 251, 3) := by decide +kernel
theorem dX5_stepOnStack_286 : decode cX5_stepOnStack 286 = .ok (.lstore 6, 2) := by decide +kernel
theorem dX5_stepOnStack_288 : decode cX5_stepOnStack 288 = .ok (.aload_n 0, 1) := by decide +kernel
theorem dX5_stepOnStack_289 : decode cX5_stepOnStack 289 = .ok (.getfield 51, 3) := by decide +kernel
theorem dX5_stepOnStack_292 : decode cX5_stepOnStack 292 = .ok (.dup, 1) := by decide +kernel
theorem dX5_stepOnStack_293 : decode cX5_stepOnStack 293 = .ok (.getfield 118, 3) := by decide +kernel
theorem dX5_stepOnStack_296 : decode cX5_stepOnStack 296 = .ok (.iload 5, 2) := by decide +kernel
theorem dX5_stepOnStack_298 : decode cX5_stepOnStack 298 = .ok (.isub, 1) := by decide +kernel
theorem dX5_stepOnStack_299 : decode cX5_stepOnStack 299 = .ok (.putfield 118, 3) := by decide +kernel
theorem dX5_stepOnStack_302 : decode cX5_stepOnStack 302 = .ok (.aload_n 0, 1) := by decide +kernel
theorem dX5_stepOnStack_303 : decode cX5_stepOnStack 303 = .ok (.iload_n 3, 1) := by decide +kernel
theorem dX5_stepOnStack_304 : decode cX5_stepOnStack 304 = .ok (.iload 4, 2) := by decide +kernel
theorem dX5_stepOnStack_306 : decode cX5_stepOnStack 306 = .ok (.lload 6, 2) := by decide +kernel
theorem dX5_stepOnStack_308 : decode cX5_stepOnStack 308 = .ok (.aload_n 0, 1) := by decide +kernel
theorem dX5_stepOnStack_309 : decode cX5_stepOnStack 309 = .ok (.getfield 51, 3) := by decide +kernel
theorem dX5_stepOnStack_312 : decode cX5_stepOnStack 312 = .ok (.getfield 118, 3) := by decide +kernel
theorem dX5_stepOnStack_315 : decode cX5_stepOnStack 315 = .ok (.invokevirtual 264, 3) := by decide +kernel
theorem dX5_stepOnStack_318 : decode cX5_stepOnStack 318 = .ok (.goto 268, 3) := by decide +kernel
theorem dX5_stepOnStack_321 : decode cX5_stepOnStack 321 = .ok (.aload_n 0, 1) := by decide +kernel
theorem dX5_stepOnStack_322 : decode cX5_stepOnStack 322 = .ok (.aload_n 0, 1) := by decide +kernel
theorem dX5_stepOnStack_323 : decode cX5_stepOnStack 323 = .ok (.getfield 15, 3) := by decide +kernel
theorem dX5_stepOnStack_326 : decode cX5_stepOnStack 326 = .ok (.aload_n 0, 1) := by decide +kernel
theorem dX5_stepOnStack_327 : decode cX5_stepOnStack 327 = .ok (.getfield 51, 3) := by decide +kernel
theorem dX5_stepOnStack_330 : decode cX5_stepOnStack 330 = .ok (.getfield 198, 3) := by decide +kernel
theorem dX5_stepOnStack_333 : decode cX5_stepOnStack 333 = .ok (.iload_n 3, 1) := by decide +kernel
theorem dX5_stepOnStack_334 : decode cX5_stepOnStack 334 = .ok (.iadd, 1) := by decide +kernel
theorem dX5_stepOnStack_335 : decode cX5_stepOnStack 335 = .ok (.invokestatic 92, 3) := by decide +kernel
theorem dX5_stepOnStack_338 : decode cX5_stepOnStack 338 = .ok (.invokevirtual 268, 3) := by decide +kernel
theorem dX5_stepOnStack_341 : decode cX5_stepOnStack 341 = .ok (.goto 245, 3) := by decide +kernel
theorem dX5_stepOnStack_344 : decode cX5_stepOnStack 344 = .ok (.aload_n 0, 1) := by decide +kernel
theorem dX5_stepOnStack_345 : decode cX5_stepOnStack 345 = .ok (.getfield 15, 3) := by decide +kernel
theorem dX5_stepOnStack_348 : decode cX5_stepOnStack 348 = .ok (.aload_n 0, 1) := by decide +kernel
theorem dX5_stepOnStack_349 : decode cX5_stepOnStack 349 = .ok (.getfield 51, 3) := by decide +kernel
theorem dX5_stepOnStack_352 : decode cX5_stepOnStack 352 = .ok (.getfield 198, 3) := by decide +kernel
theorem dX5_stepOnStack_355 : decode cX5_stepOnStack 355 = .ok (.iload_n 3, 1) := by decide +kernel
theorem dX5_stepOnStack_356 : decode cX5_stepOnStack 356 = .ok (.iadd, 1) := by decide +kernel
theorem dX5_stepOnStack_357 : decode cX5_stepOnStack 357 = .ok (.aload_n 0, 1) := by decide +kernel
theorem dX5_stepOnStack_358 : decode cX5_stepOnStack 358 = .ok (.invokevirtual 251, 3) := by decide +kernel
theorem dX5_stepOnStack_361 : decode cX5_stepOnStack 361 = .ok (.invokestatic 99, 3) := by decide +kernel
theorem dX5_stepOnStack_364 : decode cX5_stepOnStack 364 = .ok (.goto 222, 3) := by decide +kernel
theorem dX5_stepOnStack_367 : decode cX5_stepOnStack 367 = .ok (.aload_n 0, 1) := by decide +kernel
theorem dX5_stepOnStack_368 : decode cX5_stepOnStack 368 = .ok (.getfield 15, 3) := by decide +kernel
theorem dX5_stepOnStack_371 : decode cX5_stepOnStack 371 = .ok (.aload_n 0, 1) := by decide +kernel
theorem dX5_stepOnStack_372 : decode cX5_stepOnStack 372 = .ok (.getfield 51, 3) := by decide +kernel
theorem dX5_stepOnStack_375 : decode cX5_stepOnStack 375 = .ok (.getfield 198, 3) := by decide +kernel
theorem dX5_stepOnStack_378 : decode cX5_stepOnStack 378 = .ok (.iload_n 3, 1) := by decide +kernel
theorem dX5_stepOnStack_379 : decode cX5_stepOnStack 379 = .ok (.iadd, 1) := by decide +kernel
theorem dX5_stepOnStack_380 : decode cX5_stepOnStack 380 = .ok (.aload_n 0, 1) := by decide +kernel
theorem dX5_stepOnStack_381 : decode cX5_stepOnStack 381 = .ok (.getfield 15, 3) := by decide +kernel
theorem dX5_stepOnStack_384 : decode cX5_stepOnStack 384 = .ok (.aload_n 0, 1) := by decide +kernel
theorem dX5_stepOnStack_385 : decode cX5_stepOnStack 385 = .ok (.getfield 51, 3) := by decide +kernel
theorem dX5_stepOnStack_388 : decode cX5_stepOnStack 388 = .ok (.getfield 118, 3) := by decide +kernel
theorem dX5_stepOnStack_391 : decode cX5_stepOnStack 391 = .ok (.iconst 1, 1) := by decide +kernel
theorem dX5_stepOnStack_392 : decode cX5_stepOnStack 392 = .ok (.isub, 1) := by decide +kernel
theorem dX5_stepOnStack_393 : decode cX5_stepOnStack 393 = .ok (.invokestatic 92, 3) := by decide +kernel
theorem dX5_stepOnStack_396 : decode cX5_stepOnStack 396 = .ok (.invokestatic 99, 3) := by decide +kernel
theorem dX5_stepOnStack_399 : decode cX5_stepOnStack 399 = .ok (.goto 187, 3) := by decide +kernel
theorem dX5_stepOnStack_402 : decode cX5_stepOnStack 402 = .ok (.aload_n 0, 1) := by decide +kernel
theorem dX5_stepOnStack_403 : decode cX5_stepOnStack 403 = .ok (.iload_n 3, 1) := by decide +kernel
theorem dX5_stepOnStack_404 : decode cX5_stepOnStack 404 = .ok (.i2l, 1) := by decide +kernel
theorem dX5_stepOnStack_405 : decode cX5_stepOnStack 405 = .ok (.ldc2_w 110, 3) := by decide +kernel
theorem dX5_stepOnStack_408 : decode cX5_stepOnStack 408 = .ok (.land, 1) := by decide +kernel
theorem dX5_stepOnStack_409 : decode cX5_stepOnStack 409 = .ok (.iload 4, 2) := by decide +kernel
theorem dX5_stepOnStack_411 : decode cX5_stepOnStack 411 = .ok (.i2l, 1) := by decide +kernel
theorem dX5_stepOnStack_412 : decode cX5_stepOnStack 412 = .ok (.bipush 32, 2) := by decide +kernel
theorem dX5_stepOnStack_414 : decode cX5_stepOnStack 414 = .ok (.lshl, 1) := by decide +kernel
theorem dX5_stepOnStack_415 : decode cX5_stepOnStack 415 = .ok (.lor, 1) := by decide +kernel
theorem dX5_stepOnStack_416 : decode cX5_stepOnStack 416 = .ok (.invokevirtual 268, 3) := by decide +kernel
theorem dX5_stepOnStack_419 : decode cX5_stepOnStack 419 = .ok (.goto 167, 3) := by decide +kernel
theorem dX5_stepOnStack_422 : decode cX5_stepOnStack 422 = .ok (.iload 5, 2) := by decide +kernel
theorem dX5_stepOnStack_424 : decode cX5_stepOnStack 424 = .ok (.iconst 1, 1) := by decide +kernel
theorem dX5_stepOnStack_425 : decode cX5_stepOnStack 425 = .ok (.ishr, 1) := by decide +kernel
theorem dX5_stepOnStack_426 : decode cX5_stepOnStack 426 = .ok (.istore 8, 2) := by decide +kernel
theorem dX5_stepOnStack_428 : decode cX5_stepOnStack 428 = .ok (.aload_n 0, 1) := by decide +kernel
theorem dX5_stepOnStack_429 : decode cX5_stepOnStack 429 = .ok (.getfield 51, 3) := by decide +kernel
theorem dX5_stepOnStack_432 : decode cX5_stepOnStack 432 = .ok (.dup, 1) := by decide +kernel
theorem dX5_stepOnStack_433 : decode cX5_stepOnStack 433 = .ok (.getfield 118, 3) := by decide +kernel
theorem dX5_stepOnStack_436 : decode cX5_stepOnStack 436 = .ok (.iload 8, 2) := by decide +kernel
theorem dX5_stepOnStack_438 : decode cX5_stepOnStack 438 = .ok (.isub, 1) := by decide +kernel
theorem dX5_stepOnStack_439 : decode cX5_stepOnStack 439 = .ok (.putfield 118, 3) := by decide +kernel
theorem dX5_stepOnStack_442 : decode cX5_stepOnStack 442 = .ok (.iload 8, 2) := by decide +kernel
theorem dX5_stepOnStack_444 : decode cX5_stepOnStack 444 = .ok (.ifCond .le 20, 3) := by decide +kernel
theorem dX5_stepOnStack_447 : decode cX5_stepOnStack 447 = .ok (.aload_n 0, 1) := by decide +kernel
theorem dX5_stepOnStack_448 : decode cX5_stepOnStack 448 = .ok (.getfield 15, 3) := by decide +kernel
theorem dX5_stepOnStack_451 : decode cX5_stepOnStack 451 = .ok (.aload_n 0, 1) := by decide +kernel
theorem dX5_stepOnStack_452 : decode cX5_stepOnStack 452 = .ok (.getfield 51, 3) := by decide +kernel
theorem dX5_stepOnStack_455 : decode cX5_stepOnStack 455 = .ok (.getfield 118, 3) := by decide +kernel
theorem dX5_stepOnStack_458 : decode cX5_stepOnStack 458 = .ok (.invokestatic 92, 3) := by decide +kernel
theorem dX5_stepOnStack_461 : decode cX5_stepOnStack 461 = .ok (.goto 4, 3) := by decide +kernel
theorem dX5_stepOnStack_464 : decode cX5_stepOnStack 464 = .ok (.lconst 0, 1) := by decide +kernel
theorem dX5_stepOnStack_465 : decode cX5_stepOnStack 465 = .ok (.lstore 9, 2) := by decide +kernel
theorem dX5_stepOnStack_467 : decode cX5_stepOnStack 467 = .ok (.iload 8, 2) := by decide +kernel
theorem dX5_stepOnStack_469 : decode cX5_stepOnStack 469 = .ok (.iconst 1, 1) := by decide +kernel
theorem dX5_stepOnStack_470 : decode cX5_stepOnStack 470 = .ok (.if_icmp .le 22, 3) := by decide +kernel
theorem dX5_stepOnStack_473 : decode cX5_stepOnStack 473 = .ok (.aload_n 0, 1) := by decide +kernel
theorem dX5_stepOnStack_474 : decode cX5_stepOnStack 474 = .ok (.getfield 15, 3) := by decide +kernel
theorem dX5_stepOnStack_477 : decode cX5_stepOnStack 477 = .ok (.aload_n 0, 1) := by decide +kernel
theorem dX5_stepOnStack_478 : decode cX5_stepOnStack 478 = .ok (.getfield 51, 3) := by decide +kernel
theorem dX5_stepOnStack_481 : decode cX5_stepOnStack 481 = .ok (.getfield 118, 3) := by decide +kernel
theorem dX5_stepOnStack_484 : decode cX5_stepOnStack 484 = .ok (.iconst 1, 1) := by decide +kernel
theorem dX5_stepOnStack_485 : decode cX5_stepOnStack 485 = .ok (.iadd, 1) := by decide +kernel
theorem dX5_stepOnStack_486 : decode cX5_stepOnStack 486 = .ok (.invokestatic 92, 3) := by decide +kernel
theorem dX5_stepOnStack_489 : decode cX5_stepOnStack 489 = .ok (.goto 4, 3) := by decide +kernel
theorem dX5_stepOnStack_492 : decode cX5_stepOnStack 492 = .ok (.lconst 0, 1) := by decide +kernel
theorem dX5_stepOnStack_493 : decode cX5_stepOnStack 493 = .ok (.lstore 11, 2) := by decide +kernel
theorem dX5_stepOnStack_495 : decode cX5_stepOnStack 495 = .ok (.iload 8, 2) := by decide +kernel
theorem dX5_stepOnStack_497 : decode cX5_stepOnStack 497 = .ok (.iconst 2, 1) := by decide +kernel
theorem dX5_stepOnStack_498 : decode cX5_stepOnStack 498 = .ok (.if_icmp .le 22, 3) := by decide +kernel
theorem dX5_stepOnStack_501 : decode cX5_stepOnStack 501 = .ok (.aload_n 0, 1) := by decide +kernel
theorem dX5_stepOnStack_502 : decode cX5_stepOnStack 502 = .ok (.getfield 15, 3) := by decide +kernel
theorem dX5_stepOnStack_505 : decode cX5_stepOnStack 505 = .ok (.aload_n 0, 1) := by decide +kernel
theorem dX5_stepOnStack_506 : decode cX5_stepOnStack 506 = .ok (.getfield 51, 3) := by decide +kernel
theorem dX5_stepOnStack_509 : decode cX5_stepOnStack 509 = .ok (.getfield 118, 3) := by decide +kernel
theorem dX5_stepOnStack_512 : decode cX5_stepOnStack 512 = .ok (.iconst 2, 1) := by decide +kernel
theorem dX5_stepOnStack_513 : decode cX5_stepOnStack 513 = .ok (.iadd, 1) := by decide +kernel
theorem dX5_stepOnStack_514 : decode cX5_stepOnStack 514 = .ok (.invokestatic 92, 3) := by decide +kernel
theorem dX5_stepOnStack_517 : decode cX5_stepOnStack 517 = .ok (.goto 4, 3) := by decide +kernel
theorem dX5_stepOnStack_520 : decode cX5_stepOnStack 520 = .ok (.lconst 0, 1) := by decide +kernel
theorem dX5_stepOnStack_521 : decode cX5_stepOnStack 521 = .ok (.lstore 13, 2) := by decide +kernel
theorem dX5_stepOnStack_523 : decode cX5_stepOnStack 523 = .ok (.aload_n 0, 1) := by decide +kernel
theorem dX5_stepOnStack_524 : decode cX5_stepOnStack 524 = .ok (.getfield 24, 3) := by decide +kernel
theorem dX5_stepOnStack_527 : decode cX5_stepOnStack 527 = .ok (.aload_n 0, 1) := by decide +kernel
theorem dX5_stepOnStack_528 : decode cX5_stepOnStack 528 = .ok (.getfield 51, 3) := by decide +kernel
theorem dX5_stepOnStack_531 : decode cX5_stepOnStack 531 = .ok (.getfield 193, 3) := by decide +kernel
theorem dX5_stepOnStack_534 : decode cX5_stepOnStack 534 = .ok (.iload_n 2, 1) := by decide +kernel
theorem dX5_stepOnStack_535 : decode cX5_stepOnStack 535 = .ok (.iload_n 3, 1) := by decide +kernel
theorem dX5_stepOnStack_536 : decode cX5_stepOnStack 536 = .ok (.iload 4, 2) := by decide +kernel
theorem dX5_stepOnStack_538 : decode cX5_stepOnStack 538 = .ok (.lload 9, 2) := by decide +kernel
theorem dX5_stepOnStack_540 : decode cX5_stepOnStack 540 = .ok (.lload 11, 2) := by decide +kernel
theorem dX5_stepOnStack_542 : decode cX5_stepOnStack 542 = .ok (.lload 13, 2) := by decide +kernel
theorem dX5_stepOnStack_544 : decode cX5_stepOnStack 544 = .ok (.invokevirtual 272, 3) := by decide +kernel
theorem dX5_stepOnStack_547 : decode cX5_stepOnStack 547 = .ok (.lstore 15, 2) := by decide +kernel
theorem dX5_stepOnStack_549 : decode cX5_stepOnStack 549 = .ok (.aload_n 0, 1) := by decide +kernel
theorem dX5_stepOnStack_550 : decode cX5_stepOnStack 550 = .ok (.getfield 24, 3) := by decide +kernel
theorem dX5_stepOnStack_553 : decode cX5_stepOnStack 553 = .ok (.getfield 276, 3) := by decide +kernel
theorem dX5_stepOnStack_556 : decode cX5_stepOnStack 556 = .ok (.ifCond .eq 17, 3) := by decide +kernel
theorem dX5_stepOnStack_559 : decode cX5_stepOnStack 559 = .ok (.aload_n 0, 1) := by decide +kernel
theorem dX5_stepOnStack_560 : decode cX5_stepOnStack 560 = .ok (.aload_n 0, 1) := by decide +kernel
theorem dX5_stepOnStack_561 : decode cX5_stepOnStack 561 = .ok (.getfield 24, 3) := by decide +kernel
theorem dX5_stepOnStack_564 : decode cX5_stepOnStack 564 = .ok (.getfield 276, 3) := by decide +kernel
theorem dX5_stepOnStack_567 : decode cX5_stepOnStack 567 = .ok (.invokevirtual 81, 3) := by decide +kernel
theorem dX5_stepOnStack_570 : decode cX5_stepOnStack 570 = .ok (.goto 16, 3) := by decide +kernel
theorem dX5_stepOnStack_573 : decode cX5_stepOnStack 573 = .ok (.iload 5, 2) := by decide +kernel
theorem dX5_stepOnStack_575 : decode cX5_stepOnStack 575 = .ok (.iconst 1, 1) := by decide +kernel
theorem dX5_stepOnStack_576 : decode cX5_stepOnStack 576 = .ok (.iand, 1) := by decide +kernel
theorem dX5_stepOnStack_577 : decode cX5_stepOnStack 577 = .ok (.ifCond .eq 9, 3) := by decide +kernel
theorem dX5_stepOnStack_580 : decode cX5_stepOnStack 580 = .ok (.aload_n 0, 1) := by decide +kernel
theorem dX5_stepOnStack_581 : decode cX5_stepOnStack 581 = .ok (.lload 15, 2) := by decide +kernel
theorem dX5_stepOnStack_583 : decode cX5_stepOnStack 583 = .ok (.invokevirtual 268, 3) := by decide +kernel
theorem dX5_stepOnStack_586 : decode cX5_stepOnStack 586 = .ok (.return_, 1) := by decide +kernel
noncomputable def fX5_stepOnStack_b547 (h : pm_H) (x0 : Nat) (x5 : Int32) (s0 : Int64) : Option pm_H := if pm_kd h x0 = 5 then (pm_R h x0 8).bind fun v142 => if pm_kd h v142 = 10 then if (pm_I h v142 0) = 0 then (if (x5 &&& 1) = 0 then (some h) else ((fX5_push h x0 s0).bind fun v147 => some v147)) else ((fX5_fail h x0 (pm_I h v142 0)).bind fun v150 => some v150) else none else none
noncomputable def fX5_stepOnStack_b521 (h : pm_H) (x0 : Nat) (x2 : Int32) (x3 : Int32) (x4 : Int32) (x5 : Int32) (x9 : Int64) (x11 : Int64) (s0 : Int64) : Option pm_H := if pm_kd h x0 = 5 then (pm_R h x0 8).bind fun v131 => (pm_R h x0 12).bind fun v133 => if pm_kd h v133 = 3 then (pm_R h v133 0).bind fun v136 => if pm_kd h v131 = 10 then (fX10_perform h v131 v136 x2 x3 x4 x9 x11 s0).bind fun v139 => fX5_stepOnStack_b547 v139.2 x0 x5 v139.1 else none else none else none
noncomputable def fX5_stepOnStack_b493 (h : pm_H) (x0 : Nat) (x2 : Int32) (x3 : Int32) (x4 : Int32) (x5 : Int32) (x8 : Int32) (x9 : Int64) (s0 : Int64) : Option pm_H := if x8 ≤ 2 then (fX5_stepOnStack_b521 h x0 x2 x3 x4 x5 x9 s0 0) else (if pm_kd h x0 = 5 then (pm_R h x0 10).bind fun v123 => (pm_R h x0 12).bind fun v125 => if pm_kd h v125 = 3 then (fX12_item_ h v123 ((pm_I h v125 5) + 2)).bind fun v128 => fX5_stepOnStack_b521 h x0 x2 x3 x4 x5 x9 s0 v128 else none else none)
noncomputable def fX5_stepOnStack_b465 (h : pm_H) (x0 : Nat) (x2 : Int32) (x3 : Int32) (x4 : Int32) (x5 : Int32) (x8 : Int32) (s0 : Int64) : Option pm_H := if x8 ≤ 1 then (fX5_stepOnStack_b493 h x0 x2 x3 x4 x5 x8 s0 0) else (if pm_kd h x0 = 5 then (pm_R h x0 10).bind fun v114 => (pm_R h x0 12).bind fun v116 => if pm_kd h v116 = 3 then (fX12_item_ h v114 ((pm_I h v116 5) + 1)).bind fun v119 => fX5_stepOnStack_b493 h x0 x2 x3 x4 x5 x8 s0 v119 else none else none)
noncomputable def fX5_stepOnStack_b318 (h : pm_H)  : Option pm_H := some h
noncomputable def fX5_stepOnStack_b0 (h : pm_H) (x0 : Nat) : Option pm_H := if pm_kd h x0 = 5 then (pm_R h x0 12).bind fun v2 => if pm_kd h v2 = 3 then pm_let ((pm_I h v2 3) * 5) fun y5 => (pm_R h v2 2).bind fun v7 => (fX12_item h v7 y5).bind fun v9 => (fX12_item h v7 (y5 + 1)).bind fun v11 => (fX12_item h v7 (y5 + 2)).bind fun v13 => (fX12_item h v7 (y5 + 3)).bind fun v15 => pm_let ((pm_I h v2 3) + 1) fun y17 => if v9 = 4 then ((fX5_pop (pm_setI h v2 3 y17) x0).bind fun v20 => if v20.1 = 0 then (if pm_kd v20.2 x0 = 5 then (pm_R v20.2 x0 12).bind fun v25 => if pm_kd v20.2 v25 = 3 then some (pm_setI v20.2 v25 3 v11) else none else none) else (some v20.2)) else (if v9 = 12 then ((fX5_branchOnStack (pm_setI h v2 3 y17) x0 y5).bind fun v29 => some v29) else (if v9 = 13 then ((fX5_pop (pm_setI h v2 3 y17) x0).bind fun v33 => if v33.1 = 0 then (some v33.2) else (if pm_kd v33.2 x0 = 5 then (fX5_branchOnStack v33.2 x0 y5).bind fun v38 => some v38 else none)) else (if v9 = 14 then ((fX5_pop (pm_setI h v2 3 y17) x0).bind fun v42 => if pm_kd v42.2 x0 = 5 then (fX5_branchOnStack v42.2 x0 (y5 + (5 * (1 + (((if v11.toInt64 < v42.1 then v11.toInt64 else v42.1)).toInt32))))).bind fun v46 => some v46 else none) else (if v9 = 16 then (pm_let ((pm_I (pm_setI h v2 3 y17) v2 5) - v15) fun y50 => (pm_R (pm_setI (pm_setI h v2 3 y17) v2 5 y50) v2 0).bind fun v52 => if pm_kd (pm_setI (pm_setI h v2 3 y17) v2 5 y50) v52 = 4 then (pm_R (pm_setI (pm_setI h v2 3 y17) v2 5 y50) v52 1).bind fun v55 => (fX12_item (pm_setI (pm_setI h v2 3 y17) v2 5 y50) v55 v11).bind fun v57 => (fX5_enter (pm_setI (pm_setI h v2 3 y17) v2 5 y50) x0 v57 (pm_I (pm_setI (pm_setI h v2 3 y17) v2 5 y50) v2 5)).bind fun v59 => some v59 else none) else (if v9 = 17 then ((fX5_pop (pm_setI h v2 3 y17) x0).bind fun v63 => if pm_kd v63.2 x0 = 5 then (pm_R v63.2 x0 12).bind fun v67 => if pm_kd v63.2 v67 = 3 then pm_let ((pm_I v63.2 v67 5) - v15) fun y70 => (fX5_callByTable (pm_setI v63.2 v67 5 y70) x0 v11 v13 v63.1 (pm_I (pm_setI v63.2 v67 5 y70) v67 5)).bind fun v72 => fX5_stepOnStack_b318 v72 else none else none) else (if v9 = 32 then ((pm_R (pm_setI h v2 3 y17) x0 10).bind fun v75 => (fX12_item_ (pm_setI h v2 3 y17) v75 ((pm_I (pm_setI h v2 3 y17) v2 4) + v11)).bind fun v77 => (fX5_push (pm_setI h v2 3 y17) x0 v77).bind fun v79 => some v79) else (if v9 = 33 then ((pm_R (pm_setI h v2 3 y17) x0 10).bind fun v83 => (fX5_pop (pm_setI h v2 3 y17) x0).bind fun v85 => (fX12_setItem_ v85.2 v83 ((pm_I (pm_setI h v2 3 y17) v2 4) + v11) v85.1).bind fun v88 => some v88) else (if v9 = 34 then ((pm_R (pm_setI h v2 3 y17) x0 10).bind fun v92 => (fX12_item_ (pm_setI h v2 3 y17) v92 ((pm_I (pm_setI h v2 3 y17) v2 5) - 1)).bind fun v94 => (fX12_setItem_ (pm_setI h v2 3 y17) v92 ((pm_I (pm_setI h v2 3 y17) v2 4) + v11) v94).bind fun v96 => some v96) else (if v9 = 65 then ((fX5_push (pm_setI h v2 3 y17) x0 ((v11.toInt64 &&& 4294967295) ||| (v13.toInt64 <<< ((32 : Int32).toInt64 &&& 63)))).bind fun v100 => some v100) else (pm_let (v15 >>> ((1 : Int32) &&& 31)) fun y103 => pm_let ((pm_I (pm_setI h v2 3 y17) v2 5) - y103) fun y105 => if y103 ≤ 0 then (fX5_stepOnStack_b465 (pm_setI (pm_setI h v2 3 y17) v2 5 y105) x0 v9 v11 v13 v15 y103 0) else ((pm_R (pm_setI (pm_setI h v2 3 y17) v2 5 y105) x0 10).bind fun v108 => (fX12_item_ (pm_setI (pm_setI h v2 3 y17) v2 5 y105) v108 (pm_I (pm_setI (pm_setI h v2 3 y17) v2 5 y105) v2 5)).bind fun v110 => fX5_stepOnStack_b465 (pm_setI (pm_setI h v2 3 y17) v2 5 y105) x0 v9 v11 v13 v15 y103 v110))))))))))) else none else none
noncomputable def fX5_stepOnStack (h : pm_H) (a0 : Nat) : Option pm_H := fX5_stepOnStack_b0 h a0
set_option maxHeartbeats 4000000 in
set_option maxRecDepth 100000 in
theorem moX5_stepOnStack_b547 {h : pm_H} {x0 : Nat} {x5 : Int32} {s0 : Int64} {r : pm_H} (hf : fX5_stepOnStack_b547 h x0 x5 s0 = some r) : pm_Le h r := by
  unfold fX5_stepOnStack_b547 at hf
  have K0 := pm_S3.rf h
  obtain ⟨k141, hf⟩ := pm_if hf
  obtain ⟨v142, e143, hf⟩ := pm_bd hf
  obtain ⟨k144, hf⟩ := pm_if hf
  by_cases c145 : (pm_I h v142 0) = 0
  · have hf := pm_it hf c145
    by_cases c146 : (x5 &&& 1) = 0
    · have hf := pm_it hf c146
      have hf := Option.some.inj hf
      subst hf
      exact pm_S3.le K0
    · have hf := pm_ie hf c146
      obtain ⟨v147, e148, hf⟩ := pm_bd hf
      have K149 := pm_S3.trans (kpX5_push e148) K0
      have hf := Option.some.inj hf
      subst hf
      exact pm_S3.le K149
  · have hf := pm_ie hf c145
    obtain ⟨v150, e151, hf⟩ := pm_bd hf
    have K152 := pm_S3.trans (kpX5_fail e151) K0
    have hf := Option.some.inj hf
    subst hf
    exact pm_S3.le K152
set_option maxHeartbeats 4000000 in
set_option maxRecDepth 100000 in
theorem moX5_stepOnStack_b521 {h : pm_H} {x0 : Nat} {x2 : Int32} {x3 : Int32} {x4 : Int32} {x5 : Int32} {x9 : Int64} {x11 : Int64} {s0 : Int64} {r : pm_H} (hf : fX5_stepOnStack_b521 h x0 x2 x3 x4 x5 x9 x11 s0 = some r) : pm_Le h r := by
  unfold fX5_stepOnStack_b521 at hf
  have K0 := pm_S3.rf h
  obtain ⟨k130, hf⟩ := pm_if hf
  obtain ⟨v131, e132, hf⟩ := pm_bd hf
  obtain ⟨v133, e134, hf⟩ := pm_bd hf
  obtain ⟨k135, hf⟩ := pm_if hf
  obtain ⟨v136, e137, hf⟩ := pm_bd hf
  obtain ⟨k138, hf⟩ := pm_if hf
  obtain ⟨v139, e140, hf⟩ := pm_bd hf
  exact ((pm_S3.le K0).trans (moX10_perform e140)).trans (moX5_stepOnStack_b547 hf)
set_option maxHeartbeats 4000000 in
set_option maxRecDepth 100000 in
theorem moX5_stepOnStack_b493 {h : pm_H} {x0 : Nat} {x2 : Int32} {x3 : Int32} {x4 : Int32} {x5 : Int32} {x8 : Int32} {x9 : Int64} {s0 : Int64} {r : pm_H} (hf : fX5_stepOnStack_b493 h x0 x2 x3 x4 x5 x8 x9 s0 = some r) : pm_Le h r := by
  unfold fX5_stepOnStack_b493 at hf
  have K0 := pm_S3.rf h
  by_cases c121 : x8 ≤ 2
  · have hf := pm_it hf c121
    exact (pm_S3.le K0).trans (moX5_stepOnStack_b521 hf)
  · have hf := pm_ie hf c121
    obtain ⟨k122, hf⟩ := pm_if hf
    obtain ⟨v123, e124, hf⟩ := pm_bd hf
    obtain ⟨v125, e126, hf⟩ := pm_bd hf
    obtain ⟨k127, hf⟩ := pm_if hf
    obtain ⟨v128, e129, hf⟩ := pm_bd hf
    exact (pm_S3.le K0).trans (moX5_stepOnStack_b521 hf)
set_option maxHeartbeats 4000000 in
set_option maxRecDepth 100000 in
theorem moX5_stepOnStack_b465 {h : pm_H} {x0 : Nat} {x2 : Int32} {x3 : Int32} {x4 : Int32} {x5 : Int32} {x8 : Int32} {s0 : Int64} {r : pm_H} (hf : fX5_stepOnStack_b465 h x0 x2 x3 x4 x5 x8 s0 = some r) : pm_Le h r := by
  unfold fX5_stepOnStack_b465 at hf
  have K0 := pm_S3.rf h
  by_cases c112 : x8 ≤ 1
  · have hf := pm_it hf c112
    exact (pm_S3.le K0).trans (moX5_stepOnStack_b493 hf)
  · have hf := pm_ie hf c112
    obtain ⟨k113, hf⟩ := pm_if hf
    obtain ⟨v114, e115, hf⟩ := pm_bd hf
    obtain ⟨v116, e117, hf⟩ := pm_bd hf
    obtain ⟨k118, hf⟩ := pm_if hf
    obtain ⟨v119, e120, hf⟩ := pm_bd hf
    exact (pm_S3.le K0).trans (moX5_stepOnStack_b493 hf)
set_option maxHeartbeats 4000000 in
set_option maxRecDepth 100000 in
theorem moX5_stepOnStack_b318 {h : pm_H}  {r : pm_H} (hf : fX5_stepOnStack_b318 h  = some r) : pm_Le h r := by
  unfold fX5_stepOnStack_b318 at hf
  have K0 := pm_S3.rf h
  have hf := Option.some.inj hf
  subst hf
  exact pm_S3.le K0
set_option maxHeartbeats 4000000 in
set_option maxRecDepth 100000 in
theorem moX5_stepOnStack_b0 {h : pm_H} {x0 : Nat} {r : pm_H} (hf : fX5_stepOnStack_b0 h x0 = some r) : pm_Le h r := by
  unfold fX5_stepOnStack_b0 at hf
  have K0 := pm_S3.rf h
  obtain ⟨k1, hf⟩ := pm_if hf
  obtain ⟨v2, e3, hf⟩ := pm_bd hf
  obtain ⟨k4, hf⟩ := pm_if hf
  obtain ⟨y5, e6, hf⟩ := pm_lt hf
  obtain ⟨v7, e8, hf⟩ := pm_bd hf
  obtain ⟨v9, e10, hf⟩ := pm_bd hf
  obtain ⟨v11, e12, hf⟩ := pm_bd hf
  obtain ⟨v13, e14, hf⟩ := pm_bd hf
  obtain ⟨v15, e16, hf⟩ := pm_bd hf
  obtain ⟨y17, e18, hf⟩ := pm_lt hf
  by_cases c19 : v9 = 4
  · have hf := pm_it hf c19
    obtain ⟨v20, e21, hf⟩ := pm_bd hf
    have K22 := pm_S3.trans (kpX5_pop e21) (pm_S3I K0)
    by_cases c23 : v20.1 = 0
    · have hf := pm_it hf c23
      obtain ⟨k24, hf⟩ := pm_if hf
      obtain ⟨v25, e26, hf⟩ := pm_bd hf
      obtain ⟨k27, hf⟩ := pm_if hf
      have hf := Option.some.inj hf
      subst hf
      exact pm_S3.le (pm_S3I K22)
    · have hf := pm_ie hf c23
      have hf := Option.some.inj hf
      subst hf
      exact pm_S3.le K22
  have hf := pm_ie hf c19
  by_cases c28 : v9 = 12
  · have hf := pm_it hf c28
    obtain ⟨v29, e30, hf⟩ := pm_bd hf
    have K31 := pm_S3.trans (kpX5_branchOnStack e30) (pm_S3I K0)
    have hf := Option.some.inj hf
    subst hf
    exact pm_S3.le K31
  have hf := pm_ie hf c28
  by_cases c32 : v9 = 13
  · have hf := pm_it hf c32
    obtain ⟨v33, e34, hf⟩ := pm_bd hf
    have K35 := pm_S3.trans (kpX5_pop e34) (pm_S3I K0)
    by_cases c36 : v33.1 = 0
    · have hf := pm_it hf c36
      have hf := Option.some.inj hf
      subst hf
      exact pm_S3.le K35
    · have hf := pm_ie hf c36
      obtain ⟨k37, hf⟩ := pm_if hf
      obtain ⟨v38, e39, hf⟩ := pm_bd hf
      have K40 := pm_S3.trans (kpX5_branchOnStack e39) K35
      have hf := Option.some.inj hf
      subst hf
      exact pm_S3.le K40
  have hf := pm_ie hf c32
  by_cases c41 : v9 = 14
  · have hf := pm_it hf c41
    obtain ⟨v42, e43, hf⟩ := pm_bd hf
    have K44 := pm_S3.trans (kpX5_pop e43) (pm_S3I K0)
    obtain ⟨k45, hf⟩ := pm_if hf
    obtain ⟨v46, e47, hf⟩ := pm_bd hf
    have K48 := pm_S3.trans (kpX5_branchOnStack e47) K44
    have hf := Option.some.inj hf
    subst hf
    exact pm_S3.le K48
  have hf := pm_ie hf c41
  by_cases c49 : v9 = 16
  · have hf := pm_it hf c49
    obtain ⟨y50, e51, hf⟩ := pm_lt hf
    obtain ⟨v52, e53, hf⟩ := pm_bd hf
    obtain ⟨k54, hf⟩ := pm_if hf
    obtain ⟨v55, e56, hf⟩ := pm_bd hf
    obtain ⟨v57, e58, hf⟩ := pm_bd hf
    obtain ⟨v59, e60, hf⟩ := pm_bd hf
    have K61 := pm_S3.trans (kpX5_enter e60) (pm_S3I (pm_S3I K0))
    have hf := Option.some.inj hf
    subst hf
    exact pm_S3.le K61
  have hf := pm_ie hf c49
  by_cases c62 : v9 = 17
  · have hf := pm_it hf c62
    obtain ⟨v63, e64, hf⟩ := pm_bd hf
    have K65 := pm_S3.trans (kpX5_pop e64) (pm_S3I K0)
    obtain ⟨k66, hf⟩ := pm_if hf
    obtain ⟨v67, e68, hf⟩ := pm_bd hf
    obtain ⟨k69, hf⟩ := pm_if hf
    obtain ⟨y70, e71, hf⟩ := pm_lt hf
    obtain ⟨v72, e73, hf⟩ := pm_bd hf
    exact ((pm_S3.le (pm_S3I K65)).trans (moX5_callByTable e73)).trans (moX5_stepOnStack_b318 hf)
  have hf := pm_ie hf c62
  by_cases c74 : v9 = 32
  · have hf := pm_it hf c74
    obtain ⟨v75, e76, hf⟩ := pm_bd hf
    obtain ⟨v77, e78, hf⟩ := pm_bd hf
    obtain ⟨v79, e80, hf⟩ := pm_bd hf
    have K81 := pm_S3.trans (kpX5_push e80) (pm_S3I K0)
    have hf := Option.some.inj hf
    subst hf
    exact pm_S3.le K81
  have hf := pm_ie hf c74
  by_cases c82 : v9 = 33
  · have hf := pm_it hf c82
    obtain ⟨v83, e84, hf⟩ := pm_bd hf
    obtain ⟨v85, e86, hf⟩ := pm_bd hf
    have K87 := pm_S3.trans (kpX5_pop e86) (pm_S3I K0)
    obtain ⟨v88, e89, hf⟩ := pm_bd hf
    have K90 := pm_S3.trans (kpX12_setItem_ e89) K87
    have hf := Option.some.inj hf
    subst hf
    exact pm_S3.le K90
  have hf := pm_ie hf c82
  by_cases c91 : v9 = 34
  · have hf := pm_it hf c91
    obtain ⟨v92, e93, hf⟩ := pm_bd hf
    obtain ⟨v94, e95, hf⟩ := pm_bd hf
    obtain ⟨v96, e97, hf⟩ := pm_bd hf
    have K98 := pm_S3.trans (kpX12_setItem_ e97) (pm_S3I K0)
    have hf := Option.some.inj hf
    subst hf
    exact pm_S3.le K98
  have hf := pm_ie hf c91
  by_cases c99 : v9 = 65
  · have hf := pm_it hf c99
    obtain ⟨v100, e101, hf⟩ := pm_bd hf
    have K102 := pm_S3.trans (kpX5_push e101) (pm_S3I K0)
    have hf := Option.some.inj hf
    subst hf
    exact pm_S3.le K102
  have hf := pm_ie hf c99
  obtain ⟨y103, e104, hf⟩ := pm_lt hf
  obtain ⟨y105, e106, hf⟩ := pm_lt hf
  by_cases c107 : y103 ≤ 0
  · have hf := pm_it hf c107
    exact (pm_S3.le (pm_S3I (pm_S3I K0))).trans (moX5_stepOnStack_b465 hf)
  · have hf := pm_ie hf c107
    obtain ⟨v108, e109, hf⟩ := pm_bd hf
    obtain ⟨v110, e111, hf⟩ := pm_bd hf
    exact (pm_S3.le (pm_S3I (pm_S3I K0))).trans (moX5_stepOnStack_b465 hf)
set_option maxHeartbeats 4000000 in
set_option maxRecDepth 100000 in
theorem moX5_stepOnStack {h : pm_H} {a0 : Nat} {r : pm_H} (hf : fX5_stepOnStack h a0 = some r) : pm_Le h r := by
  unfold fX5_stepOnStack at hf
  have K0 := pm_S3.rf h
  exact (pm_S3.le K0).trans (moX5_stepOnStack_b0 hf)
set_option maxHeartbeats 4000000 in
set_option maxRecDepth 100000 in
theorem bX5_stepOnStack_547 {g : pm_Gm} {l : Launch} {G : pm_Gl} {Qr : Option Value → pm_H → Prop} (C : pm_C g cX5_stepOnStack RX5) {h0 h : pm_H} {x0 : Nat} {x5 : Int32} {s0 : Int64} {r : pm_H} (X : pm_X g l G mX5_stepOnStack (pm_sz r - pm_sz h0) (pm_us r - pm_us h0) Qr) (m0 : pm_Le h0 h) (hf : fX5_stepOnStack_b547 h x0 x5 s0 = some r) (q : Qr none r) : pm_G g 547 [(0, .ref x0), (5, .int x5)] [.long s0] h (pm_sz h - pm_sz h0) (pm_us h - pm_us h0) := by
  have le0 := moX5_stepOnStack_b547 hf
  have kc1 := Nat.sub_le_sub_right le0.1 (pm_sz h0)
  have kc2 := Nat.sub_le_sub_right le0.2 (pm_us h0)
  have K0 := pm_S3.rf h
  unfold fX5_stepOnStack_b547 at hf
  refine pm_lstore (lv' := [(15, .long s0), (0, .ref x0), (5, .int x5)]) C dX5_stepOnStack_547 (pm_nl X (by decide)) rfl ?_
  refine pm_aload_n C dX5_stepOnStack_549 rfl rfl ?_
  obtain ⟨k141, hf⟩ := pm_if hf
  obtain ⟨v142, e143, hf⟩ := pm_bd hf
  refine pm_getR C dX5_stepOnStack_550 flX5_24 rfl k141 e143 ?_
  obtain ⟨k144, hf⟩ := pm_if hf
  refine pm_getI C dX5_stepOnStack_553 flX5_276 rfl k144 rfl ?_
  refine pm_if_eq (tgt := 573) C dX5_stepOnStack_556 (by decide) (fun c145 => ?_) (fun c145 => ?_)
  · have hf := pm_it hf c145
    refine pm_iload C dX5_stepOnStack_573 rfl ?_
    refine pm_iconst (v := 1) C dX5_stepOnStack_575 (by decide) ?_
    refine pm_iand C dX5_stepOnStack_576 ?_
    refine pm_if_eq (tgt := 586) C dX5_stepOnStack_577 (by decide) (fun c146 => ?_) (fun c146 => ?_)
    · have hf := pm_it hf c146
      have hf := Option.some.inj hf
      subst hf
      exact pm_vret C X dX5_stepOnStack_586 rfl kc1 kc2 q
    · have hf := pm_ie hf c146
      refine pm_aload_n C dX5_stepOnStack_580 rfl rfl ?_
      refine pm_lload C dX5_stepOnStack_581 rfl ?_
      obtain ⟨v147, e148, hf⟩ := pm_bd hf
      refine pm_callV (as := [.long s0]) (st := []) C X dX5_stepOnStack_583 lnX5_268 myX5_push viX5_push ⟨by decide, by decide⟩ rfl rfl k141 (Nat.le_of_ble_eq_true rfl) kc1 kc2 (ctX5_push e148 ?_)
      have K149 := pm_S3.trans (kpX5_push e148) K0
      show pm_G g 586 [(15, .long s0), (0, .ref x0), (5, .int x5)] [] v147 (pm_sz h - pm_sz h0) (pm_us h - pm_us h0)
      have hf := Option.some.inj hf
      subst hf
      exact pm_vret C X dX5_stepOnStack_586 rfl kc1 kc2 q
  · have hf := pm_ie hf c145
    refine pm_aload_n C dX5_stepOnStack_559 rfl rfl ?_
    refine pm_aload_n C dX5_stepOnStack_560 rfl rfl ?_
    refine pm_getR C dX5_stepOnStack_561 flX5_24 rfl k141 e143 ?_
    refine pm_getI C dX5_stepOnStack_564 flX5_276 rfl k144 rfl ?_
    obtain ⟨v150, e151, hf⟩ := pm_bd hf
    refine pm_callV (as := [.int (pm_I h v142 0)]) (st := []) C X dX5_stepOnStack_567 lnX5_81 myX5_fail viX5_fail ⟨by decide, by decide⟩ rfl rfl k141 (Nat.le_of_ble_eq_true rfl) kc1 kc2 (ctX5_fail e151 ?_)
    have K152 := pm_S3.trans (kpX5_fail e151) K0
    show pm_G g 570 [(15, .long s0), (0, .ref x0), (5, .int x5)] [] v150 (pm_sz h - pm_sz h0) (pm_us h - pm_us h0)
    refine pm_goto (tgt := 586) C dX5_stepOnStack_570 (by decide) ?_
    have hf := Option.some.inj hf
    subst hf
    exact pm_vret C X dX5_stepOnStack_586 rfl kc1 kc2 q
set_option maxHeartbeats 4000000 in
set_option maxRecDepth 100000 in
theorem bX5_stepOnStack_521 {g : pm_Gm} {l : Launch} {G : pm_Gl} {Qr : Option Value → pm_H → Prop} (C : pm_C g cX5_stepOnStack RX5) {h0 h : pm_H} {x0 : Nat} {x2 : Int32} {x3 : Int32} {x4 : Int32} {x5 : Int32} {x9 : Int64} {x11 : Int64} {s0 : Int64} {r : pm_H} (X : pm_X g l G mX5_stepOnStack (pm_sz r - pm_sz h0) (pm_us r - pm_us h0) Qr) (m0 : pm_Le h0 h) (hf : fX5_stepOnStack_b521 h x0 x2 x3 x4 x5 x9 x11 s0 = some r) (q : Qr none r) : pm_G g 521 [(0, .ref x0), (2, .int x2), (3, .int x3), (4, .int x4), (5, .int x5), (9, .long x9), (11, .long x11)] [.long s0] h (pm_sz h - pm_sz h0) (pm_us h - pm_us h0) := by
  have le0 := moX5_stepOnStack_b521 hf
  have kc1 := Nat.sub_le_sub_right le0.1 (pm_sz h0)
  have kc2 := Nat.sub_le_sub_right le0.2 (pm_us h0)
  have K0 := pm_S3.rf h
  unfold fX5_stepOnStack_b521 at hf
  refine pm_lstore (lv' := [(13, .long s0), (0, .ref x0), (2, .int x2), (3, .int x3), (4, .int x4), (5, .int x5), (9, .long x9), (11, .long x11)]) C dX5_stepOnStack_521 (pm_nl X (by decide)) rfl ?_
  refine pm_aload_n C dX5_stepOnStack_523 rfl rfl ?_
  obtain ⟨k130, hf⟩ := pm_if hf
  obtain ⟨v131, e132, hf⟩ := pm_bd hf
  refine pm_getR C dX5_stepOnStack_524 flX5_24 rfl k130 e132 ?_
  refine pm_aload_n C dX5_stepOnStack_527 rfl rfl ?_
  obtain ⟨v133, e134, hf⟩ := pm_bd hf
  refine pm_getR C dX5_stepOnStack_528 flX5_51 rfl k130 e134 ?_
  obtain ⟨k135, hf⟩ := pm_if hf
  obtain ⟨v136, e137, hf⟩ := pm_bd hf
  refine pm_getR C dX5_stepOnStack_531 flX5_193 rfl k135 e137 ?_
  refine pm_iload_n C dX5_stepOnStack_534 rfl rfl ?_
  refine pm_iload_n C dX5_stepOnStack_535 rfl rfl ?_
  refine pm_iload C dX5_stepOnStack_536 rfl ?_
  refine pm_lload C dX5_stepOnStack_538 rfl ?_
  refine pm_lload C dX5_stepOnStack_540 rfl ?_
  refine pm_lload C dX5_stepOnStack_542 rfl ?_
  obtain ⟨k138, hf⟩ := pm_if hf
  obtain ⟨v139, e140, hf⟩ := pm_bd hf
  refine pm_callV (as := [.ref v136, .int x2, .int x3, .int x4, .long x9, .long x11, .long s0]) (st := []) C X dX5_stepOnStack_544 lnX5_272 myX10_perform viX10_perform ⟨by decide, by decide⟩ rfl rfl k138 (Nat.le_of_ble_eq_true rfl) (pa_le1 K0 m0 (moX10_perform e140) (moX5_stepOnStack_b547 hf)) (pa_le2 K0 m0 (moX10_perform e140) (moX5_stepOnStack_b547 hf)) (ctX10_perform e140 ?_)
  show pm_G g 547 [(13, .long s0), (0, .ref x0), (2, .int x2), (3, .int x3), (4, .int x4), (5, .int x5), (9, .long x9), (11, .long x11)] [.long v139.1] v139.2 (pm_sz h - pm_sz h0 + (pm_sz v139.2 - pm_sz h)) (pm_us h - pm_us h0 + (pm_us v139.2 - pm_us h))
  refine pa_fin K0 m0 (moX10_perform e140) ?_
  exact pm_sub [1, 5] rfl (bX5_stepOnStack_547 C X ((m0.trans (pm_S3.le K0)).trans (moX10_perform e140)) hf q)
set_option maxHeartbeats 4000000 in
set_option maxRecDepth 100000 in
theorem bX5_stepOnStack_493 {g : pm_Gm} {l : Launch} {G : pm_Gl} {Qr : Option Value → pm_H → Prop} (C : pm_C g cX5_stepOnStack RX5) {h0 h : pm_H} {x0 : Nat} {x2 : Int32} {x3 : Int32} {x4 : Int32} {x5 : Int32} {x8 : Int32} {x9 : Int64} {s0 : Int64} {r : pm_H} (X : pm_X g l G mX5_stepOnStack (pm_sz r - pm_sz h0) (pm_us r - pm_us h0) Qr) (m0 : pm_Le h0 h) (hf : fX5_stepOnStack_b493 h x0 x2 x3 x4 x5 x8 x9 s0 = some r) (q : Qr none r) : pm_G g 493 [(0, .ref x0), (2, .int x2), (3, .int x3), (4, .int x4), (5, .int x5), (8, .int x8), (9, .long x9)] [.long s0] h (pm_sz h - pm_sz h0) (pm_us h - pm_us h0) := by
  have le0 := moX5_stepOnStack_b493 hf
  have kc1 := Nat.sub_le_sub_right le0.1 (pm_sz h0)
  have kc2 := Nat.sub_le_sub_right le0.2 (pm_us h0)
  have K0 := pm_S3.rf h
  unfold fX5_stepOnStack_b493 at hf
  refine pm_lstore (lv' := [(11, .long s0), (0, .ref x0), (2, .int x2), (3, .int x3), (4, .int x4), (5, .int x5), (8, .int x8), (9, .long x9)]) C dX5_stepOnStack_493 (pm_nl X (by decide)) rfl ?_
  refine pm_iload C dX5_stepOnStack_495 rfl ?_
  refine pm_iconst (v := 2) C dX5_stepOnStack_497 (by decide) ?_
  refine pm_icmp_le (tgt := 520) C dX5_stepOnStack_498 (by decide) (fun c121 => ?_) (fun c121 => ?_)
  · have hf := pm_it hf c121
    refine pm_lconst (v := 0) C dX5_stepOnStack_520 (by decide) ?_
    exact pa_join K0 (pm_sub [1, 2, 3, 4, 5, 7, 0] rfl (bX5_stepOnStack_521 C X (m0.trans (pm_S3.le K0)) hf q))
  · have hf := pm_ie hf c121
    refine pm_aload_n C dX5_stepOnStack_501 rfl rfl ?_
    obtain ⟨k122, hf⟩ := pm_if hf
    obtain ⟨v123, e124, hf⟩ := pm_bd hf
    refine pm_getR C dX5_stepOnStack_502 flX5_15 rfl k122 e124 ?_
    refine pm_aload_n C dX5_stepOnStack_505 rfl rfl ?_
    obtain ⟨v125, e126, hf⟩ := pm_bd hf
    refine pm_getR C dX5_stepOnStack_506 flX5_51 rfl k122 e126 ?_
    obtain ⟨k127, hf⟩ := pm_if hf
    refine pm_getI C dX5_stepOnStack_509 flX5_118 rfl k127 rfl ?_
    refine pm_iconst (v := 2) C dX5_stepOnStack_512 (by decide) ?_
    refine pm_iadd C dX5_stepOnStack_513 ?_
    obtain ⟨v128, e129, hf⟩ := pm_bd hf
    refine pm_callS (as := [.ref v123, .int ((pm_I h v125 5) + 2)]) (st := []) C X dX5_stepOnStack_514 lnX5_92 myX12_item_ stX12_item_ ⟨by decide, by decide⟩ rfl rfl (Nat.le_of_ble_eq_true rfl) kc1 kc2 (ctX12_item_ e129 ?_)
    show pm_G g 517 [(11, .long s0), (0, .ref x0), (2, .int x2), (3, .int x3), (4, .int x4), (5, .int x5), (8, .int x8), (9, .long x9)] [.long v128] h (pm_sz h - pm_sz h0) (pm_us h - pm_us h0)
    refine pm_goto (tgt := 521) C dX5_stepOnStack_517 (by decide) ?_
    exact pa_join K0 (pm_sub [1, 2, 3, 4, 5, 7, 0] rfl (bX5_stepOnStack_521 C X (m0.trans (pm_S3.le K0)) hf q))
set_option maxHeartbeats 4000000 in
set_option maxRecDepth 100000 in
theorem bX5_stepOnStack_465 {g : pm_Gm} {l : Launch} {G : pm_Gl} {Qr : Option Value → pm_H → Prop} (C : pm_C g cX5_stepOnStack RX5) {h0 h : pm_H} {x0 : Nat} {x2 : Int32} {x3 : Int32} {x4 : Int32} {x5 : Int32} {x8 : Int32} {s0 : Int64} {r : pm_H} (X : pm_X g l G mX5_stepOnStack (pm_sz r - pm_sz h0) (pm_us r - pm_us h0) Qr) (m0 : pm_Le h0 h) (hf : fX5_stepOnStack_b465 h x0 x2 x3 x4 x5 x8 s0 = some r) (q : Qr none r) : pm_G g 465 [(0, .ref x0), (2, .int x2), (3, .int x3), (4, .int x4), (5, .int x5), (8, .int x8)] [.long s0] h (pm_sz h - pm_sz h0) (pm_us h - pm_us h0) := by
  have le0 := moX5_stepOnStack_b465 hf
  have kc1 := Nat.sub_le_sub_right le0.1 (pm_sz h0)
  have kc2 := Nat.sub_le_sub_right le0.2 (pm_us h0)
  have K0 := pm_S3.rf h
  unfold fX5_stepOnStack_b465 at hf
  refine pm_lstore (lv' := [(9, .long s0), (0, .ref x0), (2, .int x2), (3, .int x3), (4, .int x4), (5, .int x5), (8, .int x8)]) C dX5_stepOnStack_465 (pm_nl X (by decide)) rfl ?_
  refine pm_iload C dX5_stepOnStack_467 rfl ?_
  refine pm_iconst (v := 1) C dX5_stepOnStack_469 (by decide) ?_
  refine pm_icmp_le (tgt := 492) C dX5_stepOnStack_470 (by decide) (fun c112 => ?_) (fun c112 => ?_)
  · have hf := pm_it hf c112
    refine pm_lconst (v := 0) C dX5_stepOnStack_492 (by decide) ?_
    exact pa_join K0 (pm_sub [1, 2, 3, 4, 5, 6, 0] rfl (bX5_stepOnStack_493 C X (m0.trans (pm_S3.le K0)) hf q))
  · have hf := pm_ie hf c112
    refine pm_aload_n C dX5_stepOnStack_473 rfl rfl ?_
    obtain ⟨k113, hf⟩ := pm_if hf
    obtain ⟨v114, e115, hf⟩ := pm_bd hf
    refine pm_getR C dX5_stepOnStack_474 flX5_15 rfl k113 e115 ?_
    refine pm_aload_n C dX5_stepOnStack_477 rfl rfl ?_
    obtain ⟨v116, e117, hf⟩ := pm_bd hf
    refine pm_getR C dX5_stepOnStack_478 flX5_51 rfl k113 e117 ?_
    obtain ⟨k118, hf⟩ := pm_if hf
    refine pm_getI C dX5_stepOnStack_481 flX5_118 rfl k118 rfl ?_
    refine pm_iconst (v := 1) C dX5_stepOnStack_484 (by decide) ?_
    refine pm_iadd C dX5_stepOnStack_485 ?_
    obtain ⟨v119, e120, hf⟩ := pm_bd hf
    refine pm_callS (as := [.ref v114, .int ((pm_I h v116 5) + 1)]) (st := []) C X dX5_stepOnStack_486 lnX5_92 myX12_item_ stX12_item_ ⟨by decide, by decide⟩ rfl rfl (Nat.le_of_ble_eq_true rfl) kc1 kc2 (ctX12_item_ e120 ?_)
    show pm_G g 489 [(9, .long s0), (0, .ref x0), (2, .int x2), (3, .int x3), (4, .int x4), (5, .int x5), (8, .int x8)] [.long v119] h (pm_sz h - pm_sz h0) (pm_us h - pm_us h0)
    refine pm_goto (tgt := 493) C dX5_stepOnStack_489 (by decide) ?_
    exact pa_join K0 (pm_sub [1, 2, 3, 4, 5, 6, 0] rfl (bX5_stepOnStack_493 C X (m0.trans (pm_S3.le K0)) hf q))
set_option maxHeartbeats 4000000 in
set_option maxRecDepth 100000 in
theorem bX5_stepOnStack_318 {g : pm_Gm} {l : Launch} {G : pm_Gl} {Qr : Option Value → pm_H → Prop} (C : pm_C g cX5_stepOnStack RX5) {h0 h : pm_H}  {r : pm_H} (X : pm_X g l G mX5_stepOnStack (pm_sz r - pm_sz h0) (pm_us r - pm_us h0) Qr) (m0 : pm_Le h0 h) (hf : fX5_stepOnStack_b318 h  = some r) (q : Qr none r) : pm_G g 318 [] [] h (pm_sz h - pm_sz h0) (pm_us h - pm_us h0) := by
  have le0 := moX5_stepOnStack_b318 hf
  have kc1 := Nat.sub_le_sub_right le0.1 (pm_sz h0)
  have kc2 := Nat.sub_le_sub_right le0.2 (pm_us h0)
  have K0 := pm_S3.rf h
  unfold fX5_stepOnStack_b318 at hf
  refine pm_goto (tgt := 586) C dX5_stepOnStack_318 (by decide) ?_
  have hf := Option.some.inj hf
  subst hf
  exact pm_vret C X dX5_stepOnStack_586 rfl kc1 kc2 q
set_option maxHeartbeats 4000000 in
set_option maxRecDepth 100000 in
theorem bX5_stepOnStack_0 {g : pm_Gm} {l : Launch} {G : pm_Gl} {Qr : Option Value → pm_H → Prop} (C : pm_C g cX5_stepOnStack RX5) {h0 h : pm_H} {x0 : Nat} {r : pm_H} (X : pm_X g l G mX5_stepOnStack (pm_sz r - pm_sz h0) (pm_us r - pm_us h0) Qr) (m0 : pm_Le h0 h) (hf : fX5_stepOnStack_b0 h x0 = some r) (q : Qr none r) : pm_G g 0 [(0, .ref x0)] [] h (pm_sz h - pm_sz h0) (pm_us h - pm_us h0) := by
  have le0 := moX5_stepOnStack_b0 hf
  have kc1 := Nat.sub_le_sub_right le0.1 (pm_sz h0)
  have kc2 := Nat.sub_le_sub_right le0.2 (pm_us h0)
  have K0 := pm_S3.rf h
  unfold fX5_stepOnStack_b0 at hf
  refine pm_aload_n C dX5_stepOnStack_0 rfl rfl ?_
  obtain ⟨k1, hf⟩ := pm_if hf
  obtain ⟨v2, e3, hf⟩ := pm_bd hf
  refine pm_getR C dX5_stepOnStack_1 flX5_51 rfl k1 e3 ?_
  obtain ⟨k4, hf⟩ := pm_if hf
  refine pm_getI C dX5_stepOnStack_4 flX5_128 rfl k4 rfl ?_
  refine pm_iconst (v := 5) C dX5_stepOnStack_7 (by decide) ?_
  refine pm_imul C dX5_stepOnStack_8 ?_
  obtain ⟨y5, e6, hf⟩ := pm_lt hf
  refine pm_topI e6 ?_
  refine pm_istore_n (lv' := [(1, .int y5), (0, .ref x0)]) C dX5_stepOnStack_9 rfl (pm_nl X (by decide)) rfl ?_
  refine pm_aload_n C dX5_stepOnStack_10 rfl rfl ?_
  refine pm_getR C dX5_stepOnStack_11 flX5_51 rfl k1 e3 ?_
  obtain ⟨v7, e8, hf⟩ := pm_bd hf
  refine pm_getR C dX5_stepOnStack_14 flX5_131 rfl k4 e8 ?_
  refine pm_iload_n C dX5_stepOnStack_17 rfl rfl ?_
  obtain ⟨v9, e10, hf⟩ := pm_bd hf
  refine pm_callS (as := [.ref v7, .int y5]) (st := []) C X dX5_stepOnStack_18 lnX5_88 myX12_item stX12_item ⟨by decide, by decide⟩ rfl rfl (Nat.le_of_ble_eq_true rfl) kc1 kc2 (ctX12_item e10 ?_)
  show pm_G g 21 [(1, .int y5), (0, .ref x0)] [.int v9] h (pm_sz h - pm_sz h0) (pm_us h - pm_us h0)
  refine pm_istore_n (lv' := [(2, .int v9), (1, .int y5), (0, .ref x0)]) C dX5_stepOnStack_21 rfl (pm_nl X (by decide)) rfl ?_
  refine pm_aload_n C dX5_stepOnStack_22 rfl rfl ?_
  refine pm_getR C dX5_stepOnStack_23 flX5_51 rfl k1 e3 ?_
  refine pm_getR C dX5_stepOnStack_26 flX5_131 rfl k4 e8 ?_
  refine pm_iload_n C dX5_stepOnStack_29 rfl rfl ?_
  refine pm_iconst (v := 1) C dX5_stepOnStack_30 (by decide) ?_
  refine pm_iadd C dX5_stepOnStack_31 ?_
  obtain ⟨v11, e12, hf⟩ := pm_bd hf
  refine pm_callS (as := [.ref v7, .int (y5 + 1)]) (st := []) C X dX5_stepOnStack_32 lnX5_88 myX12_item stX12_item ⟨by decide, by decide⟩ rfl rfl (Nat.le_of_ble_eq_true rfl) kc1 kc2 (ctX12_item e12 ?_)
  show pm_G g 35 [(2, .int v9), (1, .int y5), (0, .ref x0)] [.int v11] h (pm_sz h - pm_sz h0) (pm_us h - pm_us h0)
  refine pm_istore_n (lv' := [(3, .int v11), (2, .int v9), (1, .int y5), (0, .ref x0)]) C dX5_stepOnStack_35 rfl (pm_nl X (by decide)) rfl ?_
  refine pm_aload_n C dX5_stepOnStack_36 rfl rfl ?_
  refine pm_getR C dX5_stepOnStack_37 flX5_51 rfl k1 e3 ?_
  refine pm_getR C dX5_stepOnStack_40 flX5_131 rfl k4 e8 ?_
  refine pm_iload_n C dX5_stepOnStack_43 rfl rfl ?_
  refine pm_iconst (v := 2) C dX5_stepOnStack_44 (by decide) ?_
  refine pm_iadd C dX5_stepOnStack_45 ?_
  obtain ⟨v13, e14, hf⟩ := pm_bd hf
  refine pm_callS (as := [.ref v7, .int (y5 + 2)]) (st := []) C X dX5_stepOnStack_46 lnX5_88 myX12_item stX12_item ⟨by decide, by decide⟩ rfl rfl (Nat.le_of_ble_eq_true rfl) kc1 kc2 (ctX12_item e14 ?_)
  show pm_G g 49 [(3, .int v11), (2, .int v9), (1, .int y5), (0, .ref x0)] [.int v13] h (pm_sz h - pm_sz h0) (pm_us h - pm_us h0)
  refine pm_istore (lv' := [(4, .int v13), (3, .int v11), (2, .int v9), (1, .int y5), (0, .ref x0)]) C dX5_stepOnStack_49 (pm_nl X (by decide)) rfl ?_
  refine pm_aload_n C dX5_stepOnStack_51 rfl rfl ?_
  refine pm_getR C dX5_stepOnStack_52 flX5_51 rfl k1 e3 ?_
  refine pm_getR C dX5_stepOnStack_55 flX5_131 rfl k4 e8 ?_
  refine pm_iload_n C dX5_stepOnStack_58 rfl rfl ?_
  refine pm_iconst (v := 3) C dX5_stepOnStack_59 (by decide) ?_
  refine pm_iadd C dX5_stepOnStack_60 ?_
  obtain ⟨v15, e16, hf⟩ := pm_bd hf
  refine pm_callS (as := [.ref v7, .int (y5 + 3)]) (st := []) C X dX5_stepOnStack_61 lnX5_88 myX12_item stX12_item ⟨by decide, by decide⟩ rfl rfl (Nat.le_of_ble_eq_true rfl) kc1 kc2 (ctX12_item e16 ?_)
  show pm_G g 64 [(4, .int v13), (3, .int v11), (2, .int v9), (1, .int y5), (0, .ref x0)] [.int v15] h (pm_sz h - pm_sz h0) (pm_us h - pm_us h0)
  refine pm_istore (lv' := [(5, .int v15), (4, .int v13), (3, .int v11), (2, .int v9), (1, .int y5), (0, .ref x0)]) C dX5_stepOnStack_64 (pm_nl X (by decide)) rfl ?_
  refine pm_aload_n C dX5_stepOnStack_66 rfl rfl ?_
  refine pm_getR C dX5_stepOnStack_67 flX5_51 rfl k1 e3 ?_
  refine pm_dup C dX5_stepOnStack_70 rfl ?_
  refine pm_getI C dX5_stepOnStack_71 flX5_128 rfl k4 rfl ?_
  refine pm_iconst (v := 1) C dX5_stepOnStack_74 (by decide) ?_
  refine pm_iadd C dX5_stepOnStack_75 ?_
  obtain ⟨y17, e18, hf⟩ := pm_lt hf
  refine pm_topI e18 ?_
  refine pm_putI C dX5_stepOnStack_76 flX5_128 rfl rfl k4 rfl rfl ?_
  refine pm_iload_n C dX5_stepOnStack_79 rfl rfl ?_
  by_cases c19 : v9 = 4
  · have hf := pm_it hf c19
    refine pm_lookup (off := 92) (tgt := 172) C dX5_stepOnStack_80 (by decide) (by rw [c19]; first | done | decide | rfl) (by decide) ?_
    refine pm_aload_n C dX5_stepOnStack_172 rfl rfl ?_
    obtain ⟨v20, e21, hf⟩ := pm_bd hf
    refine pm_callV (as := []) (st := []) C X dX5_stepOnStack_173 lnX5_251 myX5_pop viX5_pop ⟨by decide, by decide⟩ rfl rfl k1 (Nat.le_of_ble_eq_true rfl) kc1 kc2 (ctX5_pop e21 ?_)
    have K22 := pm_S3.trans (kpX5_pop e21) (pm_S3I K0)
    show pm_G g 176 [(5, .int v15), (4, .int v13), (3, .int v11), (2, .int v9), (1, .int y5), (0, .ref x0)] [.long v20.1] v20.2 (pm_sz h - pm_sz h0) (pm_us h - pm_us h0)
    refine pm_lconst (v := 0) C dX5_stepOnStack_176 (by decide) ?_
    refine pm_lcmp C dX5_stepOnStack_177 ?_
    refine pm_if_ne (tgt := 586) C dX5_stepOnStack_178 (by decide) (fun c23 => ?_) (fun c23 => ?_)
    · have hf := pm_ie hf ((fun z => c23 ((pm_lg_eq _ _).mpr z)))
      have hf := Option.some.inj hf
      subst hf
      exact pm_vret C X dX5_stepOnStack_586 rfl kc1 kc2 q
    · have hf := pm_it hf ((pm_lg_eq _ _).mp c23)
      refine pm_aload_n C dX5_stepOnStack_181 rfl rfl ?_
      obtain ⟨k24, hf⟩ := pm_if hf
      obtain ⟨v25, e26, hf⟩ := pm_bd hf
      refine pm_getR C dX5_stepOnStack_182 flX5_51 rfl k24 e26 ?_
      refine pm_iload_n C dX5_stepOnStack_185 rfl rfl ?_
      obtain ⟨k27, hf⟩ := pm_if hf
      refine pm_putI C dX5_stepOnStack_186 flX5_128 rfl rfl k27 rfl rfl ?_
      refine pm_goto (tgt := 586) C dX5_stepOnStack_189 (by decide) ?_
      have hf := Option.some.inj hf
      subst hf
      exact pm_vret C X dX5_stepOnStack_586 rfl kc1 kc2 q
  have hf := pm_ie hf c19
  by_cases c28 : v9 = 12
  · have hf := pm_it hf c28
    refine pm_lookup (off := 112) (tgt := 192) C dX5_stepOnStack_80 (by decide) (by rw [c28]; first | done | decide | rfl) (by decide) ?_
    refine pm_aload_n C dX5_stepOnStack_192 rfl rfl ?_
    refine pm_iload_n C dX5_stepOnStack_193 rfl rfl ?_
    obtain ⟨v29, e30, hf⟩ := pm_bd hf
    refine pm_callV (as := [.int y5]) (st := []) C X dX5_stepOnStack_194 lnX5_255 myX5_branchOnStack viX5_branchOnStack ⟨by decide, by decide⟩ rfl rfl k1 (Nat.le_of_ble_eq_true rfl) kc1 kc2 (ctX5_branchOnStack e30 ?_)
    have K31 := pm_S3.trans (kpX5_branchOnStack e30) (pm_S3I K0)
    show pm_G g 197 [(5, .int v15), (4, .int v13), (3, .int v11), (2, .int v9), (1, .int y5), (0, .ref x0)] [] v29 (pm_sz h - pm_sz h0) (pm_us h - pm_us h0)
    refine pm_goto (tgt := 586) C dX5_stepOnStack_197 (by decide) ?_
    have hf := Option.some.inj hf
    subst hf
    exact pm_vret C X dX5_stepOnStack_586 rfl kc1 kc2 q
  have hf := pm_ie hf c28
  by_cases c32 : v9 = 13
  · have hf := pm_it hf c32
    refine pm_lookup (off := 120) (tgt := 200) C dX5_stepOnStack_80 (by decide) (by rw [c32]; first | done | decide | rfl) (by decide) ?_
    refine pm_aload_n C dX5_stepOnStack_200 rfl rfl ?_
    obtain ⟨v33, e34, hf⟩ := pm_bd hf
    refine pm_callV (as := []) (st := []) C X dX5_stepOnStack_201 lnX5_251 myX5_pop viX5_pop ⟨by decide, by decide⟩ rfl rfl k1 (Nat.le_of_ble_eq_true rfl) kc1 kc2 (ctX5_pop e34 ?_)
    have K35 := pm_S3.trans (kpX5_pop e34) (pm_S3I K0)
    show pm_G g 204 [(5, .int v15), (4, .int v13), (3, .int v11), (2, .int v9), (1, .int y5), (0, .ref x0)] [.long v33.1] v33.2 (pm_sz h - pm_sz h0) (pm_us h - pm_us h0)
    refine pm_lconst (v := 0) C dX5_stepOnStack_204 (by decide) ?_
    refine pm_lcmp C dX5_stepOnStack_205 ?_
    refine pm_if_eq (tgt := 586) C dX5_stepOnStack_206 (by decide) (fun c36 => ?_) (fun c36 => ?_)
    · have hf := pm_it hf ((pm_lg_eq _ _).mp c36)
      have hf := Option.some.inj hf
      subst hf
      exact pm_vret C X dX5_stepOnStack_586 rfl kc1 kc2 q
    · have hf := pm_ie hf ((fun z => c36 ((pm_lg_eq _ _).mpr z)))
      refine pm_aload_n C dX5_stepOnStack_209 rfl rfl ?_
      refine pm_iload_n C dX5_stepOnStack_210 rfl rfl ?_
      obtain ⟨k37, hf⟩ := pm_if hf
      obtain ⟨v38, e39, hf⟩ := pm_bd hf
      refine pm_callV (as := [.int y5]) (st := []) C X dX5_stepOnStack_211 lnX5_255 myX5_branchOnStack viX5_branchOnStack ⟨by decide, by decide⟩ rfl rfl k37 (Nat.le_of_ble_eq_true rfl) kc1 kc2 (ctX5_branchOnStack e39 ?_)
      have K40 := pm_S3.trans (kpX5_branchOnStack e39) K35
      show pm_G g 214 [(5, .int v15), (4, .int v13), (3, .int v11), (2, .int v9), (1, .int y5), (0, .ref x0)] [] v38 (pm_sz h - pm_sz h0) (pm_us h - pm_us h0)
      refine pm_goto (tgt := 586) C dX5_stepOnStack_214 (by decide) ?_
      have hf := Option.some.inj hf
      subst hf
      exact pm_vret C X dX5_stepOnStack_586 rfl kc1 kc2 q
  have hf := pm_ie hf c32
  by_cases c41 : v9 = 14
  · have hf := pm_it hf c41
    refine pm_lookup (off := 137) (tgt := 217) C dX5_stepOnStack_80 (by decide) (by rw [c41]; first | done | decide | rfl) (by decide) ?_
    refine pm_aload_n C dX5_stepOnStack_217 rfl rfl ?_
    refine pm_iload_n C dX5_stepOnStack_218 rfl rfl ?_
    refine pm_iconst (v := 5) C dX5_stepOnStack_219 (by decide) ?_
    refine pm_iconst (v := 1) C dX5_stepOnStack_220 (by decide) ?_
    refine pm_aload_n C dX5_stepOnStack_221 rfl rfl ?_
    obtain ⟨v42, e43, hf⟩ := pm_bd hf
    refine pm_callV (as := []) (st := [.int 1, .int 5, .int y5, .ref x0]) C X dX5_stepOnStack_222 lnX5_251 myX5_pop viX5_pop ⟨by decide, by decide⟩ rfl rfl k1 (Nat.le_of_ble_eq_true rfl) kc1 kc2 (ctX5_pop e43 ?_)
    have K44 := pm_S3.trans (kpX5_pop e43) (pm_S3I K0)
    show pm_G g 225 [(5, .int v15), (4, .int v13), (3, .int v11), (2, .int v9), (1, .int y5), (0, .ref x0)] [.long v42.1, .int 1, .int 5, .int y5, .ref x0] v42.2 (pm_sz h - pm_sz h0) (pm_us h - pm_us h0)
    refine pm_iload_n C dX5_stepOnStack_225 rfl rfl ?_
    refine pm_i2l C dX5_stepOnStack_226 ?_
    refine pm_mminJ C (pm_XR X) dX5_stepOnStack_227 mtX5_258 (by decide) (by decide) (Nat.le_of_ble_eq_true rfl) kc1 kc2 ?_
    refine pm_l2i C dX5_stepOnStack_230 ?_
    refine pm_iadd C dX5_stepOnStack_231 ?_
    refine pm_imul C dX5_stepOnStack_232 ?_
    refine pm_iadd C dX5_stepOnStack_233 ?_
    obtain ⟨k45, hf⟩ := pm_if hf
    obtain ⟨v46, e47, hf⟩ := pm_bd hf
    refine pm_callV (as := [.int (y5 + (5 * (1 + (((if v11.toInt64 < v42.1 then v11.toInt64 else v42.1)).toInt32))))]) (st := []) C X dX5_stepOnStack_234 lnX5_255 myX5_branchOnStack viX5_branchOnStack ⟨by decide, by decide⟩ rfl rfl k45 (Nat.le_of_ble_eq_true rfl) kc1 kc2 (ctX5_branchOnStack e47 ?_)
    have K48 := pm_S3.trans (kpX5_branchOnStack e47) K44
    show pm_G g 237 [(5, .int v15), (4, .int v13), (3, .int v11), (2, .int v9), (1, .int y5), (0, .ref x0)] [] v46 (pm_sz h - pm_sz h0) (pm_us h - pm_us h0)
    refine pm_goto (tgt := 586) C dX5_stepOnStack_237 (by decide) ?_
    have hf := Option.some.inj hf
    subst hf
    exact pm_vret C X dX5_stepOnStack_586 rfl kc1 kc2 q
  have hf := pm_ie hf c41
  by_cases c49 : v9 = 16
  · have hf := pm_it hf c49
    refine pm_lookup (off := 160) (tgt := 240) C dX5_stepOnStack_80 (by decide) (by rw [c49]; first | done | decide | rfl) (by decide) ?_
    refine pm_aload_n C dX5_stepOnStack_240 rfl rfl ?_
    refine pm_getR C dX5_stepOnStack_241 flX5_51 rfl k1 e3 ?_
    refine pm_dup C dX5_stepOnStack_244 rfl ?_
    refine pm_getI C dX5_stepOnStack_245 flX5_118 rfl k4 rfl ?_
    refine pm_iload C dX5_stepOnStack_248 rfl ?_
    refine pm_isub C dX5_stepOnStack_250 ?_
    obtain ⟨y50, e51, hf⟩ := pm_lt hf
    refine pm_topI e51 ?_
    refine pm_putI C dX5_stepOnStack_251 flX5_118 rfl rfl k4 rfl rfl ?_
    refine pm_aload_n C dX5_stepOnStack_254 rfl rfl ?_
    refine pm_aload_n C dX5_stepOnStack_255 rfl rfl ?_
    refine pm_getR C dX5_stepOnStack_256 flX5_51 rfl k1 e3 ?_
    obtain ⟨v52, e53, hf⟩ := pm_bd hf
    refine pm_getR C dX5_stepOnStack_259 flX5_193 rfl k4 e53 ?_
    obtain ⟨k54, hf⟩ := pm_if hf
    obtain ⟨v55, e56, hf⟩ := pm_bd hf
    refine pm_getR C dX5_stepOnStack_262 flX5_261 rfl k54 e56 ?_
    refine pm_iload_n C dX5_stepOnStack_265 rfl rfl ?_
    obtain ⟨v57, e58, hf⟩ := pm_bd hf
    refine pm_callS (as := [.ref v55, .int v11]) (st := [.ref x0]) C X dX5_stepOnStack_266 lnX5_88 myX12_item stX12_item ⟨by decide, by decide⟩ rfl rfl (Nat.le_of_ble_eq_true rfl) kc1 kc2 (ctX12_item e58 ?_)
    show pm_G g 269 [(5, .int v15), (4, .int v13), (3, .int v11), (2, .int v9), (1, .int y5), (0, .ref x0)] [.int v57, .ref x0] (pm_setI (pm_setI h v2 3 y17) v2 5 y50) (pm_sz h - pm_sz h0) (pm_us h - pm_us h0)
    refine pm_aload_n C dX5_stepOnStack_269 rfl rfl ?_
    refine pm_getR C dX5_stepOnStack_270 flX5_51 rfl k1 e3 ?_
    refine pm_getI C dX5_stepOnStack_273 flX5_118 rfl k4 rfl ?_
    obtain ⟨v59, e60, hf⟩ := pm_bd hf
    refine pm_callV (as := [.int v57, .int (pm_I (pm_setI (pm_setI h v2 3 y17) v2 5 y50) v2 5)]) (st := []) C X dX5_stepOnStack_276 lnX5_103 myX5_enter viX5_enter ⟨by decide, by decide⟩ rfl rfl k1 (Nat.le_of_ble_eq_true rfl) kc1 kc2 (ctX5_enter e60 ?_)
    have K61 := pm_S3.trans (kpX5_enter e60) (pm_S3I (pm_S3I K0))
    show pm_G g 279 [(5, .int v15), (4, .int v13), (3, .int v11), (2, .int v9), (1, .int y5), (0, .ref x0)] [] v59 (pm_sz h - pm_sz h0) (pm_us h - pm_us h0)
    refine pm_goto (tgt := 586) C dX5_stepOnStack_279 (by decide) ?_
    have hf := Option.some.inj hf
    subst hf
    exact pm_vret C X dX5_stepOnStack_586 rfl kc1 kc2 q
  have hf := pm_ie hf c49
  by_cases c62 : v9 = 17
  · have hf := pm_it hf c62
    refine pm_lookup (off := 202) (tgt := 282) C dX5_stepOnStack_80 (by decide) (by rw [c62]; first | done | decide | rfl) (by decide) ?_
    refine pm_aload_n C dX5_stepOnStack_282 rfl rfl ?_
    obtain ⟨v63, e64, hf⟩ := pm_bd hf
    refine pm_callV (as := []) (st := []) C X dX5_stepOnStack_283 lnX5_251 myX5_pop viX5_pop ⟨by decide, by decide⟩ rfl rfl k1 (Nat.le_of_ble_eq_true rfl) kc1 kc2 (ctX5_pop e64 ?_)
    have K65 := pm_S3.trans (kpX5_pop e64) (pm_S3I K0)
    show pm_G g 286 [(5, .int v15), (4, .int v13), (3, .int v11), (2, .int v9), (1, .int y5), (0, .ref x0)] [.long v63.1] v63.2 (pm_sz h - pm_sz h0) (pm_us h - pm_us h0)
    refine pm_lstore (lv' := [(6, .long v63.1), (5, .int v15), (4, .int v13), (3, .int v11), (2, .int v9), (1, .int y5), (0, .ref x0)]) C dX5_stepOnStack_286 (pm_nl X (by decide)) rfl ?_
    refine pm_aload_n C dX5_stepOnStack_288 rfl rfl ?_
    obtain ⟨k66, hf⟩ := pm_if hf
    obtain ⟨v67, e68, hf⟩ := pm_bd hf
    refine pm_getR C dX5_stepOnStack_289 flX5_51 rfl k66 e68 ?_
    refine pm_dup C dX5_stepOnStack_292 rfl ?_
    obtain ⟨k69, hf⟩ := pm_if hf
    refine pm_getI C dX5_stepOnStack_293 flX5_118 rfl k69 rfl ?_
    refine pm_iload C dX5_stepOnStack_296 rfl ?_
    refine pm_isub C dX5_stepOnStack_298 ?_
    obtain ⟨y70, e71, hf⟩ := pm_lt hf
    refine pm_topI e71 ?_
    refine pm_putI C dX5_stepOnStack_299 flX5_118 rfl rfl k69 rfl rfl ?_
    refine pm_aload_n C dX5_stepOnStack_302 rfl rfl ?_
    refine pm_iload_n C dX5_stepOnStack_303 rfl rfl ?_
    refine pm_iload C dX5_stepOnStack_304 rfl ?_
    refine pm_lload C dX5_stepOnStack_306 rfl ?_
    refine pm_aload_n C dX5_stepOnStack_308 rfl rfl ?_
    refine pm_getR C dX5_stepOnStack_309 flX5_51 rfl k66 e68 ?_
    refine pm_getI C dX5_stepOnStack_312 flX5_118 rfl k69 rfl ?_
    obtain ⟨v72, e73, hf⟩ := pm_bd hf
    refine pm_callV (as := [.int v11, .int v13, .long v63.1, .int (pm_I (pm_setI v63.2 v67 5 y70) v67 5)]) (st := []) C X dX5_stepOnStack_315 lnX5_264 myX5_callByTable viX5_callByTable ⟨by decide, by decide⟩ rfl rfl k66 (Nat.le_of_ble_eq_true rfl) (pa_le1 (pm_S3I K65) m0 (moX5_callByTable e73) (moX5_stepOnStack_b318 hf)) (pa_le2 (pm_S3I K65) m0 (moX5_callByTable e73) (moX5_stepOnStack_b318 hf)) (ctX5_callByTable e73 ?_)
    show pm_G g 318 [(6, .long v63.1), (5, .int v15), (4, .int v13), (3, .int v11), (2, .int v9), (1, .int y5), (0, .ref x0)] [] v72 (pm_sz h - pm_sz h0 + (pm_sz v72 - pm_sz (pm_setI v63.2 v67 5 y70))) (pm_us h - pm_us h0 + (pm_us v72 - pm_us (pm_setI v63.2 v67 5 y70)))
    refine pa_fin (pm_S3I K65) m0 (moX5_callByTable e73) ?_
    exact pm_sub [] rfl (bX5_stepOnStack_318 C X ((m0.trans (pm_S3.le (pm_S3I K65))).trans (moX5_callByTable e73)) hf q)
  have hf := pm_ie hf c62
  by_cases c74 : v9 = 32
  · have hf := pm_it hf c74
    refine pm_lookup (off := 241) (tgt := 321) C dX5_stepOnStack_80 (by decide) (by rw [c74]; first | done | decide | rfl) (by decide) ?_
    refine pm_aload_n C dX5_stepOnStack_321 rfl rfl ?_
    refine pm_aload_n C dX5_stepOnStack_322 rfl rfl ?_
    obtain ⟨v75, e76, hf⟩ := pm_bd hf
    refine pm_getR C dX5_stepOnStack_323 flX5_15 rfl k1 e76 ?_
    refine pm_aload_n C dX5_stepOnStack_326 rfl rfl ?_
    refine pm_getR C dX5_stepOnStack_327 flX5_51 rfl k1 e3 ?_
    refine pm_getI C dX5_stepOnStack_330 flX5_198 rfl k4 rfl ?_
    refine pm_iload_n C dX5_stepOnStack_333 rfl rfl ?_
    refine pm_iadd C dX5_stepOnStack_334 ?_
    obtain ⟨v77, e78, hf⟩ := pm_bd hf
    refine pm_callS (as := [.ref v75, .int ((pm_I (pm_setI h v2 3 y17) v2 4) + v11)]) (st := [.ref x0]) C X dX5_stepOnStack_335 lnX5_92 myX12_item_ stX12_item_ ⟨by decide, by decide⟩ rfl rfl (Nat.le_of_ble_eq_true rfl) kc1 kc2 (ctX12_item_ e78 ?_)
    show pm_G g 338 [(5, .int v15), (4, .int v13), (3, .int v11), (2, .int v9), (1, .int y5), (0, .ref x0)] [.long v77, .ref x0] (pm_setI h v2 3 y17) (pm_sz h - pm_sz h0) (pm_us h - pm_us h0)
    obtain ⟨v79, e80, hf⟩ := pm_bd hf
    refine pm_callV (as := [.long v77]) (st := []) C X dX5_stepOnStack_338 lnX5_268 myX5_push viX5_push ⟨by decide, by decide⟩ rfl rfl k1 (Nat.le_of_ble_eq_true rfl) kc1 kc2 (ctX5_push e80 ?_)
    have K81 := pm_S3.trans (kpX5_push e80) (pm_S3I K0)
    show pm_G g 341 [(5, .int v15), (4, .int v13), (3, .int v11), (2, .int v9), (1, .int y5), (0, .ref x0)] [] v79 (pm_sz h - pm_sz h0) (pm_us h - pm_us h0)
    refine pm_goto (tgt := 586) C dX5_stepOnStack_341 (by decide) ?_
    have hf := Option.some.inj hf
    subst hf
    exact pm_vret C X dX5_stepOnStack_586 rfl kc1 kc2 q
  have hf := pm_ie hf c74
  by_cases c82 : v9 = 33
  · have hf := pm_it hf c82
    refine pm_lookup (off := 264) (tgt := 344) C dX5_stepOnStack_80 (by decide) (by rw [c82]; first | done | decide | rfl) (by decide) ?_
    refine pm_aload_n C dX5_stepOnStack_344 rfl rfl ?_
    obtain ⟨v83, e84, hf⟩ := pm_bd hf
    refine pm_getR C dX5_stepOnStack_345 flX5_15 rfl k1 e84 ?_
    refine pm_aload_n C dX5_stepOnStack_348 rfl rfl ?_
    refine pm_getR C dX5_stepOnStack_349 flX5_51 rfl k1 e3 ?_
    refine pm_getI C dX5_stepOnStack_352 flX5_198 rfl k4 rfl ?_
    refine pm_iload_n C dX5_stepOnStack_355 rfl rfl ?_
    refine pm_iadd C dX5_stepOnStack_356 ?_
    refine pm_aload_n C dX5_stepOnStack_357 rfl rfl ?_
    obtain ⟨v85, e86, hf⟩ := pm_bd hf
    refine pm_callV (as := []) (st := [.int ((pm_I (pm_setI h v2 3 y17) v2 4) + v11), .ref v83]) C X dX5_stepOnStack_358 lnX5_251 myX5_pop viX5_pop ⟨by decide, by decide⟩ rfl rfl k1 (Nat.le_of_ble_eq_true rfl) kc1 kc2 (ctX5_pop e86 ?_)
    have K87 := pm_S3.trans (kpX5_pop e86) (pm_S3I K0)
    show pm_G g 361 [(5, .int v15), (4, .int v13), (3, .int v11), (2, .int v9), (1, .int y5), (0, .ref x0)] [.long v85.1, .int ((pm_I (pm_setI h v2 3 y17) v2 4) + v11), .ref v83] v85.2 (pm_sz h - pm_sz h0) (pm_us h - pm_us h0)
    obtain ⟨v88, e89, hf⟩ := pm_bd hf
    refine pm_callS (as := [.ref v83, .int ((pm_I (pm_setI h v2 3 y17) v2 4) + v11), .long v85.1]) (st := []) C X dX5_stepOnStack_361 lnX5_99 myX12_setItem_ stX12_setItem_ ⟨by decide, by decide⟩ rfl rfl (Nat.le_of_ble_eq_true rfl) kc1 kc2 (ctX12_setItem_ e89 ?_)
    have K90 := pm_S3.trans (kpX12_setItem_ e89) K87
    show pm_G g 364 [(5, .int v15), (4, .int v13), (3, .int v11), (2, .int v9), (1, .int y5), (0, .ref x0)] [] v88 (pm_sz h - pm_sz h0) (pm_us h - pm_us h0)
    refine pm_goto (tgt := 586) C dX5_stepOnStack_364 (by decide) ?_
    have hf := Option.some.inj hf
    subst hf
    exact pm_vret C X dX5_stepOnStack_586 rfl kc1 kc2 q
  have hf := pm_ie hf c82
  by_cases c91 : v9 = 34
  · have hf := pm_it hf c91
    refine pm_lookup (off := 287) (tgt := 367) C dX5_stepOnStack_80 (by decide) (by rw [c91]; first | done | decide | rfl) (by decide) ?_
    refine pm_aload_n C dX5_stepOnStack_367 rfl rfl ?_
    obtain ⟨v92, e93, hf⟩ := pm_bd hf
    refine pm_getR C dX5_stepOnStack_368 flX5_15 rfl k1 e93 ?_
    refine pm_aload_n C dX5_stepOnStack_371 rfl rfl ?_
    refine pm_getR C dX5_stepOnStack_372 flX5_51 rfl k1 e3 ?_
    refine pm_getI C dX5_stepOnStack_375 flX5_198 rfl k4 rfl ?_
    refine pm_iload_n C dX5_stepOnStack_378 rfl rfl ?_
    refine pm_iadd C dX5_stepOnStack_379 ?_
    refine pm_aload_n C dX5_stepOnStack_380 rfl rfl ?_
    refine pm_getR C dX5_stepOnStack_381 flX5_15 rfl k1 e93 ?_
    refine pm_aload_n C dX5_stepOnStack_384 rfl rfl ?_
    refine pm_getR C dX5_stepOnStack_385 flX5_51 rfl k1 e3 ?_
    refine pm_getI C dX5_stepOnStack_388 flX5_118 rfl k4 rfl ?_
    refine pm_iconst (v := 1) C dX5_stepOnStack_391 (by decide) ?_
    refine pm_isub C dX5_stepOnStack_392 ?_
    obtain ⟨v94, e95, hf⟩ := pm_bd hf
    refine pm_callS (as := [.ref v92, .int ((pm_I (pm_setI h v2 3 y17) v2 5) - 1)]) (st := [.int ((pm_I (pm_setI h v2 3 y17) v2 4) + v11), .ref v92]) C X dX5_stepOnStack_393 lnX5_92 myX12_item_ stX12_item_ ⟨by decide, by decide⟩ rfl rfl (Nat.le_of_ble_eq_true rfl) kc1 kc2 (ctX12_item_ e95 ?_)
    show pm_G g 396 [(5, .int v15), (4, .int v13), (3, .int v11), (2, .int v9), (1, .int y5), (0, .ref x0)] [.long v94, .int ((pm_I (pm_setI h v2 3 y17) v2 4) + v11), .ref v92] (pm_setI h v2 3 y17) (pm_sz h - pm_sz h0) (pm_us h - pm_us h0)
    obtain ⟨v96, e97, hf⟩ := pm_bd hf
    refine pm_callS (as := [.ref v92, .int ((pm_I (pm_setI h v2 3 y17) v2 4) + v11), .long v94]) (st := []) C X dX5_stepOnStack_396 lnX5_99 myX12_setItem_ stX12_setItem_ ⟨by decide, by decide⟩ rfl rfl (Nat.le_of_ble_eq_true rfl) kc1 kc2 (ctX12_setItem_ e97 ?_)
    have K98 := pm_S3.trans (kpX12_setItem_ e97) (pm_S3I K0)
    show pm_G g 399 [(5, .int v15), (4, .int v13), (3, .int v11), (2, .int v9), (1, .int y5), (0, .ref x0)] [] v96 (pm_sz h - pm_sz h0) (pm_us h - pm_us h0)
    refine pm_goto (tgt := 586) C dX5_stepOnStack_399 (by decide) ?_
    have hf := Option.some.inj hf
    subst hf
    exact pm_vret C X dX5_stepOnStack_586 rfl kc1 kc2 q
  have hf := pm_ie hf c91
  by_cases c99 : v9 = 65
  · have hf := pm_it hf c99
    refine pm_lookup (off := 322) (tgt := 402) C dX5_stepOnStack_80 (by decide) (by rw [c99]; first | done | decide | rfl) (by decide) ?_
    refine pm_aload_n C dX5_stepOnStack_402 rfl rfl ?_
    refine pm_iload_n C dX5_stepOnStack_403 rfl rfl ?_
    refine pm_i2l C dX5_stepOnStack_404 ?_
    refine pm_ldc2 C dX5_stepOnStack_405 cnX5_110 ?_
    refine pm_land C dX5_stepOnStack_408 ?_
    refine pm_iload C dX5_stepOnStack_409 rfl ?_
    refine pm_i2l C dX5_stepOnStack_411 ?_
    refine pm_bipush (v := 32) C dX5_stepOnStack_412 (by decide) ?_
    refine pm_lshl C dX5_stepOnStack_414 ?_
    refine pm_lor C dX5_stepOnStack_415 ?_
    obtain ⟨v100, e101, hf⟩ := pm_bd hf
    refine pm_callV (as := [.long ((v11.toInt64 &&& 4294967295) ||| (v13.toInt64 <<< ((32 : Int32).toInt64 &&& 63)))]) (st := []) C X dX5_stepOnStack_416 lnX5_268 myX5_push viX5_push ⟨by decide, by decide⟩ rfl rfl k1 (Nat.le_of_ble_eq_true rfl) kc1 kc2 (ctX5_push e101 ?_)
    have K102 := pm_S3.trans (kpX5_push e101) (pm_S3I K0)
    show pm_G g 419 [(5, .int v15), (4, .int v13), (3, .int v11), (2, .int v9), (1, .int y5), (0, .ref x0)] [] v100 (pm_sz h - pm_sz h0) (pm_us h - pm_us h0)
    refine pm_goto (tgt := 586) C dX5_stepOnStack_419 (by decide) ?_
    have hf := Option.some.inj hf
    subst hf
    exact pm_vret C X dX5_stepOnStack_586 rfl kc1 kc2 q
  have hf := pm_ie hf c99
  refine pm_lookup (off := 342) (tgt := 422) C dX5_stepOnStack_80 (by decide) ((lv_osw c19 (by decide)).trans ((lv_osw c28 (by decide)).trans ((lv_osw c32 (by decide)).trans ((lv_osw c41 (by decide)).trans ((lv_osw c49 (by decide)).trans ((lv_osw c62 (by decide)).trans ((lv_osw c74 (by decide)).trans ((lv_osw c82 (by decide)).trans ((lv_osw c91 (by decide)).trans ((lv_osw c99 (by decide)).trans (rfl))))))))))) (by decide) ?_
  refine pm_iload C dX5_stepOnStack_422 rfl ?_
  refine pm_iconst (v := 1) C dX5_stepOnStack_424 (by decide) ?_
  refine pm_ishr C dX5_stepOnStack_425 ?_
  obtain ⟨y103, e104, hf⟩ := pm_lt hf
  refine pm_topI e104 ?_
  refine pm_istore (lv' := [(8, .int y103), (5, .int v15), (4, .int v13), (3, .int v11), (2, .int v9), (1, .int y5), (0, .ref x0)]) C dX5_stepOnStack_426 (pm_nl X (by decide)) rfl ?_
  refine pm_aload_n C dX5_stepOnStack_428 rfl rfl ?_
  refine pm_getR C dX5_stepOnStack_429 flX5_51 rfl k1 e3 ?_
  refine pm_dup C dX5_stepOnStack_432 rfl ?_
  refine pm_getI C dX5_stepOnStack_433 flX5_118 rfl k4 rfl ?_
  refine pm_iload C dX5_stepOnStack_436 rfl ?_
  refine pm_isub C dX5_stepOnStack_438 ?_
  obtain ⟨y105, e106, hf⟩ := pm_lt hf
  refine pm_topI e106 ?_
  refine pm_putI C dX5_stepOnStack_439 flX5_118 rfl rfl k4 rfl rfl ?_
  refine pm_iload C dX5_stepOnStack_442 rfl ?_
  refine pm_if_le (tgt := 464) C dX5_stepOnStack_444 (by decide) (fun c107 => ?_) (fun c107 => ?_)
  · have hf := pm_it hf c107
    refine pm_lconst (v := 0) C dX5_stepOnStack_464 (by decide) ?_
    exact pa_join (pm_S3I (pm_S3I K0)) (pm_sub [6, 4, 3, 2, 1, 0] rfl (bX5_stepOnStack_465 C X (m0.trans (pm_S3.le (pm_S3I (pm_S3I K0)))) hf q))
  · have hf := pm_ie hf c107
    refine pm_aload_n C dX5_stepOnStack_447 rfl rfl ?_
    obtain ⟨v108, e109, hf⟩ := pm_bd hf
    refine pm_getR C dX5_stepOnStack_448 flX5_15 rfl k1 e109 ?_
    refine pm_aload_n C dX5_stepOnStack_451 rfl rfl ?_
    refine pm_getR C dX5_stepOnStack_452 flX5_51 rfl k1 e3 ?_
    refine pm_getI C dX5_stepOnStack_455 flX5_118 rfl k4 rfl ?_
    obtain ⟨v110, e111, hf⟩ := pm_bd hf
    refine pm_callS (as := [.ref v108, .int (pm_I (pm_setI (pm_setI h v2 3 y17) v2 5 y105) v2 5)]) (st := []) C X dX5_stepOnStack_458 lnX5_92 myX12_item_ stX12_item_ ⟨by decide, by decide⟩ rfl rfl (Nat.le_of_ble_eq_true rfl) kc1 kc2 (ctX12_item_ e111 ?_)
    show pm_G g 461 [(8, .int y103), (5, .int v15), (4, .int v13), (3, .int v11), (2, .int v9), (1, .int y5), (0, .ref x0)] [.long v110] (pm_setI (pm_setI h v2 3 y17) v2 5 y105) (pm_sz h - pm_sz h0) (pm_us h - pm_us h0)
    refine pm_goto (tgt := 465) C dX5_stepOnStack_461 (by decide) ?_
    exact pa_join (pm_S3I (pm_S3I K0)) (pm_sub [6, 4, 3, 2, 1, 0] rfl (bX5_stepOnStack_465 C X (m0.trans (pm_S3.le (pm_S3I (pm_S3I K0)))) hf q))
set_option maxHeartbeats 4000000 in
set_option maxRecDepth 100000 in
theorem ctX5_stepOnStack {l : Launch} {G : pm_Gl} {h : pm_H} {a0 : Nat} {r : pm_H} {Qr : Option Value → pm_H → Prop} (hf : fX5_stepOnStack h a0 = some r) (q : Qr none r) : pm_Ct l G mX5_stepOnStack [.ref a0] h (pm_sz r - pm_sz h) (pm_us r - pm_us h) Qr := by
  refine pm_body pnX5 (Nat.le_of_ble_eq_true rfl) (fun g C X => ?_)
  have C : pm_C g cX5_stepOnStack RX5 := C
  show pm_G g 0 [(0, .ref a0)] [] h 0 0
  unfold fX5_stepOnStack at hf
  exact pa_start (pm_sub [0] rfl (bX5_stepOnStack_0 C X (pm_Le.rf h) hf q))
