theorem dX10_create_0 : decode cX10_create 0 = .ok (.new 43, 3) := by decide +kernel
theorem dX10_create_3 : decode cX10_create 3 = .ok (.dup, 1) := by decide +kernel
theorem dX10_create_4 : decode cX10_create 4 = .ok (.aload_n 1, 1) := by decide +kernel
theorem dX10_create_5 : decode cX10_create 5 = .ok (.invokespecial 76, 3) := by decide +kernel
theorem dX10_create_8 : decode cX10_create 8 = .ok (.astore 4, 2) := by decide +kernel
theorem dX10_create_10 : decode cX10_create 10 = .ok (.aload_n 0, 1) := by decide +kernel
theorem dX10_create_11 : decode cX10_create 11 = .ok (.getfield 86, 3) := by decide +kernel
theorem dX10_create_14 : decode cX10_create 14 = .ok (.aload_n 0, 1) := by decide +kernel
theorem dX10_create_15 : decode cX10_create 15 = .ok (.getfield 58, 3) := by decide +kernel
theorem dX10_create_18 : decode cX10_create 18 = .ok (.arraylength, 1) := by decide +kernel
theorem dX10_create_19 : decode cX10_create 19 = .ok (.if_icmp .ge 14, 3) := by decide +kernel
theorem dX10_create_22 : decode cX10_create 22 = .ok (.aload_n 0, 1) := by decide +kernel
theorem dX10_create_23 : decode cX10_create 23 = .ok (.getfield 58, 3) := by decide +kernel
theorem dX10_create_26 : decode cX10_create 26 = .ok (.aload_n 0, 1) := by decide +kernel
theorem dX10_create_27 : decode cX10_create 27 = .ok (.getfield 86, 3) := by decide +kernel
theorem dX10_create_30 : decode cX10_create 30 = .ok (.aload 4, 2) := by decide +kernel
theorem dX10_create_32 : decode cX10_create 32 = .ok (.aastore, 1) := by decide +kernel
theorem dX10_create_33 : decode cX10_create 33 = .ok (.aload_n 0, 1) := by decide +kernel
theorem dX10_create_34 : decode cX10_create 34 = .ok (.dup, 1) := by decide +kernel
theorem dX10_create_35 : decode cX10_create 35 = .ok (.getfield 86, 3) := by decide +kernel
theorem dX10_create_38 : decode cX10_create 38 = .ok (.iconst 1, 1) := by decide +kernel
theorem dX10_create_39 : decode cX10_create 39 = .ok (.iadd, 1) := by decide +kernel
theorem dX10_create_40 : decode cX10_create 40 = .ok (.putfield 86, 3) := by decide +kernel
theorem dX10_create_43 : decode cX10_create 43 = .ok (.iconst 4, 1) := by decide +kernel
theorem dX10_create_44 : decode cX10_create 44 = .ok (.newarray .int, 2) := by decide +kernel
theorem dX10_create_46 : decode cX10_create 46 = .ok (.astore 5, 2) := by decide +kernel
theorem dX10_create_48 : decode cX10_create 48 = .ok (.iconst 0, 1) := by decide +kernel
theorem dX10_create_49 : decode cX10_create 49 = .ok (.istore 6, 2) := by decide +kernel
theorem dX10_create_51 : decode cX10_create 51 = .ok (.iload 6, 2) := by decide +kernel
theorem dX10_create_53 : decode cX10_create 53 = .ok (.iload_n 3, 1) := by decide +kernel
theorem dX10_create_54 : decode cX10_create 54 = .ok (.if_icmp .ge 128, 3) := by decide +kernel
theorem dX10_create_57 : decode cX10_create 57 = .ok (.aload_n 1, 1) := by decide +kernel
theorem dX10_create_58 : decode cX10_create 58 = .ok (.getfield 99, 3) := by decide +kernel
theorem dX10_create_61 : decode cX10_create 61 = .ok (.iload 6, 2) := by decide +kernel
theorem dX10_create_63 : decode cX10_create 63 = .ok (.bipush 6, 2) := by decide +kernel
theorem dX10_create_65 : decode cX10_create 65 = .ok (.imul, 1) := by decide +kernel
theorem dX10_create_66 : decode cX10_create 66 = .ok (.iconst 0, 1) := by decide +kernel
theorem dX10_create_67 : decode cX10_create 67 = .ok (.iadd, 1) := by decide +kernel
theorem dX10_create_68 : decode cX10_create 68 = .ok (.invokestatic 112, 3) := by decide +kernel
theorem dX10_create_71 : decode cX10_create 71 = .ok (.l2i, 1) := by decide +kernel
theorem dX10_create_72 : decode cX10_create 72 = .ok (.istore 7, 2) := by decide +kernel
theorem dX10_create_74 : decode cX10_create 74 = .ok (.aload_n 1, 1) := by decide +kernel
theorem dX10_create_75 : decode cX10_create 75 = .ok (.getfield 99, 3) := by decide +kernel
theorem dX10_create_78 : decode cX10_create 78 = .ok (.iload 6, 2) := by decide +kernel
theorem dX10_create_80 : decode cX10_create 80 = .ok (.bipush 6, 2) := by decide +kernel
theorem dX10_create_82 : decode cX10_create 82 = .ok (.imul, 1) := by decide +kernel
theorem dX10_create_83 : decode cX10_create 83 = .ok (.iconst 1, 1) := by decide +kernel
theorem dX10_create_84 : decode cX10_create 84 = .ok (.iadd, 1) := by decide +kernel
theorem dX10_create_85 : decode cX10_create 85 = .ok (.invokestatic 112, 3) := by decide +kernel
theorem dX10_create_88 : decode cX10_create 88 = .ok (.l2i, 1) := by decide +kernel
theorem dX10_create_89 : decode cX10_create 89 = .ok (.istore 8, 2) := by decide +kernel
theorem dX10_create_91 : decode cX10_create 91 = .ok (.aload_n 2, 1) := by decide +kernel
theorem dX10_create_92 : decode cX10_create 92 = .ok (.iconst 2, 1) := by decide +kernel
theorem dX10_create_93 : decode cX10_create 93 = .ok (.iload 6, 2) := by decide +kernel
theorem dX10_create_95 : decode cX10_create 95 = .ok (.imul, 1) := by decide +kernel
theorem dX10_create_96 : decode cX10_create 96 = .ok (.iconst 1, 1) := by decide +kernel
theorem dX10_create_97 : decode cX10_create 97 = .ok (.iadd, 1) := by decide +kernel
theorem dX10_create_98 : decode cX10_create 98 = .ok (.invokestatic 104, 3) := by decide +kernel
theorem dX10_create_101 : decode cX10_create 101 = .ok (.istore 9, 2) := by decide +kernel
theorem dX10_create_103 : decode cX10_create 103 = .ok (.aload_n 2, 1) := by decide +kernel
theorem dX10_create_104 : decode cX10_create 104 = .ok (.iconst 2, 1) := by decide +kernel
theorem dX10_create_105 : decode cX10_create 105 = .ok (.iload 6, 2) := by decide +kernel
theorem dX10_create_107 : decode cX10_create 107 = .ok (.imul, 1) := by decide +kernel
theorem dX10_create_108 : decode cX10_create 108 = .ok (.invokestatic 104, 3) := by decide +kernel
theorem dX10_create_111 : decode cX10_create 111 = .ok (.iconst (-1), 1) := by decide +kernel
theorem dX10_create_112 : decode cX10_create 112 = .ok (.if_icmp .ne 29, 3) := by decide +kernel
theorem dX10_create_115 : decode cX10_create 115 = .ok (.aload_n 0, 1) := by decide +kernel
theorem dX10_create_116 : decode cX10_create 116 = .ok (.aload_n 0, 1) := by decide +kernel
theorem dX10_create_117 : decode cX10_create 117 = .ok (.getfield 79, 3) := by decide +kernel
theorem dX10_create_120 : decode cX10_create 120 = .ok (.new 37, 3) := by decide +kernel
theorem dX10_create_123 : decode cX10_create 123 = .ok (.dup, 1) := by decide +kernel
theorem dX10_create_124 : decode cX10_create 124 = .ok (.aload_n 1, 1) := by decide +kernel
theorem dX10_create_125 : decode cX10_create 125 = .ok (.iload 8, 2) := by decide +kernel
theorem dX10_create_127 : decode cX10_create 127 = .ok (.invokevirtual 123, 3) := by decide +kernel
theorem dX10_create_130 : decode cX10_create 130 = .ok (.iconst 0, 1) := by decide +kernel
theorem dX10_create_131 : decode cX10_create 131 = .ok (.invokespecial 83, 3) := by decide +kernel
theorem dX10_create_134 : decode cX10_create 134 = .ok (.iload 9, 2) := by decide +kernel
theorem dX10_create_136 : decode cX10_create 136 = .ok (.invokevirtual 178, 3) := by decide +kernel
theorem dX10_create_139 : decode cX10_create 139 = .ok (.istore 9, 2) := by decide +kernel
theorem dX10_create_141 : decode cX10_create 141 = .ok (.aload 4, 2) := by decide +kernel
theorem dX10_create_143 : decode cX10_create 143 = .ok (.iload 7, 2) := by decide +kernel
theorem dX10_create_145 : decode cX10_create 145 = .ok (.invokevirtual 182, 3) := by decide +kernel
theorem dX10_create_148 : decode cX10_create 148 = .ok (.aload 5, 2) := by decide +kernel
theorem dX10_create_150 : decode cX10_create 150 = .ok (.iload 7, 2) := by decide +kernel
theorem dX10_create_152 : decode cX10_create 152 = .ok (.invokestatic 104, 3) := by decide +kernel
theorem dX10_create_155 : decode cX10_create 155 = .ok (.iload 9, 2) := by decide +kernel
theorem dX10_create_157 : decode cX10_create 157 = .ok (.invokestatic 184, 3) := by decide +kernel
theorem dX10_create_160 : decode cX10_create 160 = .ok (.aload 5, 2) := by decide +kernel
theorem dX10_create_162 : decode cX10_create 162 = .ok (.iload 7, 2) := by decide +kernel
theorem dX10_create_164 : decode cX10_create 164 = .ok (.aload 5, 2) := by decide +kernel
theorem dX10_create_166 : decode cX10_create 166 = .ok (.iload 7, 2) := by decide +kernel
theorem dX10_create_168 : decode cX10_create 168 = .ok (.invokestatic 104, 3) := by decide +kernel
theorem dX10_create_171 : decode cX10_create 171 = .ok (.iconst 1, 1) := by decide +kernel
theorem dX10_create_172 : decode cX10_create 172 = .ok (.iadd, 1) := by decide +kernel
theorem dX10_create_173 : decode cX10_create 173 = .ok (.invokestatic 184, 3) := by decide +kernel
theorem dX10_create_176 : decode cX10_create 176 = .ok (.iinc 6 1, 3) := by decide +kernel
theorem dX10_create_179 : decode cX10_create 179 = .ok (.goto (-128), 3) := by decide +kernel
theorem dX10_create_182 : decode cX10_create 182 = .ok (.iconst 0, 1) := by decide +kernel
theorem dX10_create_183 : decode cX10_create 183 = .ok (.istore 6, 2) := by decide +kernel
theorem dX10_create_185 : decode cX10_create 185 = .ok (.iload 6, 2) := by decide +kernel
theorem dX10_create_187 : decode cX10_create 187 = .ok (.aload_n 1, 1) := by decide +kernel
theorem dX10_create_188 : decode cX10_create 188 = .ok (.getfield 144, 3) := by decide +kernel
theorem dX10_create_191 : decode cX10_create 191 = .ok (.arraylength, 1) := by decide +kernel
theorem dX10_create_192 : decode cX10_create 192 = .ok (.if_icmp .ge 38, 3) := by decide +kernel
theorem dX10_create_195 : decode cX10_create 195 = .ok (.aload 4, 2) := by decide +kernel
theorem dX10_create_197 : decode cX10_create 197 = .ok (.getfield 188, 3) := by decide +kernel
theorem dX10_create_200 : decode cX10_create 200 = .ok (.aload 5, 2) := by decide +kernel
theorem dX10_create_202 : decode cX10_create 202 = .ok (.iconst 0, 1) := by decide +kernel
theorem dX10_create_203 : decode cX10_create 203 = .ok (.iaload, 1) := by decide +kernel
theorem dX10_create_204 : decode cX10_create 204 = .ok (.iload 6, 2) := by decide +kernel
theorem dX10_create_206 : decode cX10_create 206 = .ok (.iadd, 1) := by decide +kernel
theorem dX10_create_207 : decode cX10_create 207 = .ok (.aload_n 0, 1) := by decide +kernel
theorem dX10_create_208 : decode cX10_create 208 = .ok (.aload 4, 2) := by decide +kernel
theorem dX10_create_210 : decode cX10_create 210 = .ok (.aload_n 1, 1) := by decide +kernel
theorem dX10_create_211 : decode cX10_create 211 = .ok (.getfield 144, 3) := by decide +kernel
theorem dX10_create_214 : decode cX10_create 214 = .ok (.iload 6, 2) := by decide +kernel
theorem dX10_create_216 : decode cX10_create 216 = .ok (.aaload, 1) := by decide +kernel
theorem dX10_create_217 : decode cX10_create 217 = .ok (.iconst (-1), 1) := by decide +kernel
theorem dX10_create_218 : decode cX10_create 218 = .ok (.invokevirtual 178, 3) := by decide +kernel
theorem dX10_create_221 : decode cX10_create 221 = .ok (.invokestatic 184, 3) := by decide +kernel
theorem dX10_create_224 : decode cX10_create 224 = .ok (.iinc 6 1, 3) := by decide +kernel
theorem dX10_create_227 : decode cX10_create 227 = .ok (.goto (-42), 3) := by decide +kernel
theorem dX10_create_230 : decode cX10_create 230 = .ok (.aload 5, 2) := by decide +kernel
theorem dX10_create_232 : decode cX10_create 232 = .ok (.iconst 1, 1) := by decide +kernel
theorem dX10_create_233 : decode cX10_create 233 = .ok (.iaload, 1) := by decide +kernel
theorem dX10_create_234 : decode cX10_create 234 = .ok (.istore 6, 2) := by decide +kernel
theorem dX10_create_236 : decode cX10_create 236 = .ok (.iload 6, 2) := by decide +kernel
theorem dX10_create_238 : decode cX10_create 238 = .ok (.aload 4, 2) := by decide +kernel
theorem dX10_create_240 : decode cX10_create 240 = .ok (.getfield 191, 3) := by decide +kernel
theorem dX10_create_243 : decode cX10_create 243 = .ok (.arraylength, 1) := by decide +kernel
theorem dX10_create_244 : decode cX10_create 244 = .ok (.if_icmp .ge 53, 3) := by decide +kernel
theorem dX10_create_247 : decode cX10_create 247 = .ok (.aload_n 1, 1) := by decide +kernel
theorem dX10_create_248 : decode cX10_create 248 = .ok (.iconst 1, 1) := by decide +kernel
theorem dX10_create_249 : decode cX10_create 249 = .ok (.iload 6, 2) := by decide +kernel
theorem dX10_create_251 : decode cX10_create 251 = .ok (.iconst 1, 1) := by decide +kernel
theorem dX10_create_252 : decode cX10_create 252 = .ok (.invokevirtual 174, 3) := by decide +kernel
theorem dX10_create_255 : decode cX10_create 255 = .ok (.l2i, 1) := by decide +kernel
theorem dX10_create_256 : decode cX10_create 256 = .ok (.istore 7, 2) := by decide +kernel
theorem dX10_create_258 : decode cX10_create 258 = .ok (.aload 4, 2) := by decide +kernel
theorem dX10_create_260 : decode cX10_create 260 = .ok (.getfield 191, 3) := by decide +kernel
theorem dX10_create_263 : decode cX10_create 263 = .ok (.iload 6, 2) := by decide +kernel
theorem dX10_create_265 : decode cX10_create 265 = .ok (.aload_n 0, 1) := by decide +kernel
theorem dX10_create_266 : decode cX10_create 266 = .ok (.getfield 12, 3) := by decide +kernel
theorem dX10_create_269 : decode cX10_create 269 = .ok (.iload 7, 2) := by decide +kernel
theorem dX10_create_271 : decode cX10_create 271 = .ok (.aload_n 1, 1) := by decide +kernel
theorem dX10_create_272 : decode cX10_create 272 = .ok (.iconst 1, 1) := by decide +kernel
theorem dX10_create_273 : decode cX10_create 273 = .ok (.iload 6, 2) := by decide +kernel
theorem dX10_create_275 : decode cX10_create 275 = .ok (.iconst 3, 1) := by decide +kernel
theorem dX10_create_276 : decode cX10_create 276 = .ok (.invokevirtual 174, 3) := by decide +kernel
theorem dX10_create_279 : decode cX10_create 279 = .ok (.aload_n 1, 1) := by decide +kernel
theorem dX10_create_280 : decode cX10_create 280 = .ok (.iconst 1, 1) := by decide +kernel
theorem dX10_create_281 : decode cX10_create 281 = .ok (.iload 6, 2) := by decide +kernel
theorem dX10_create_283 : decode cX10_create 283 = .ok (.iconst 4, 1) := by decide +kernel
theorem dX10_create_284 : decode cX10_create 284 = .ok (.invokevirtual 174, 3) := by decide +kernel
theorem dX10_create_287 : decode cX10_create 287 = .ok (.invokevirtual 193, 3) := by decide +kernel
theorem dX10_create_290 : decode cX10_create 290 = .ok (.iastore, 1) := by decide +kernel
theorem dX10_create_291 : decode cX10_create 291 = .ok (.iinc 6 1, 3) := by decide +kernel
theorem dX10_create_294 : decode cX10_create 294 = .ok (.goto (-58), 3) := by decide +kernel
theorem dX10_create_297 : decode cX10_create 297 = .ok (.aload 5, 2) := by decide +kernel
theorem dX10_create_299 : decode cX10_create 299 = .ok (.iconst 2, 1) := by decide +kernel
theorem dX10_create_300 : decode cX10_create 300 = .ok (.iaload, 1) := by decide +kernel
theorem dX10_create_301 : decode cX10_create 301 = .ok (.istore 6, 2) := by decide +kernel
theorem dX10_create_303 : decode cX10_create 303 = .ok (.iload 6, 2) := by decide +kernel
theorem dX10_create_305 : decode cX10_create 305 = .ok (.aload 4, 2) := by decide +kernel
theorem dX10_create_307 : decode cX10_create 307 = .ok (.getfield 197, 3) := by decide +kernel
theorem dX10_create_310 : decode cX10_create 310 = .ok (.arraylength, 1) := by decide +kernel
theorem dX10_create_311 : decode cX10_create 311 = .ok (.if_icmp .ge 40, 3) := by decide +kernel
theorem dX10_create_314 : decode cX10_create 314 = .ok (.aload 4, 2) := by decide +kernel
theorem dX10_create_316 : decode cX10_create 316 = .ok (.getfield 197, 3) := by decide +kernel
theorem dX10_create_319 : decode cX10_create 319 = .ok (.iload 6, 2) := by decide +kernel
theorem dX10_create_321 : decode cX10_create 321 = .ok (.aload_n 0, 1) := by decide +kernel
theorem dX10_create_322 : decode cX10_create 322 = .ok (.getfield 21, 3) := by decide +kernel
theorem dX10_create_325 : decode cX10_create 325 = .ok (.aload_n 1, 1) := by decide +kernel
theorem dX10_create_326 : decode cX10_create 326 = .ok (.iconst 2, 1) := by decide +kernel
theorem dX10_create_327 : decode cX10_create 327 = .ok (.iload 6, 2) := by decide +kernel
theorem dX10_create_329 : decode cX10_create 329 = .ok (.iconst 3, 1) := by decide +kernel
theorem dX10_create_330 : decode cX10_create 330 = .ok (.invokevirtual 174, 3) := by decide +kernel
theorem dX10_create_333 : decode cX10_create 333 = .ok (.aload_n 1, 1) := by decide +kernel
theorem dX10_create_334 : decode cX10_create 334 = .ok (.iconst 2, 1) := by decide +kernel
theorem dX10_create_335 : decode cX10_create 335 = .ok (.iload 6, 2) := by decide +kernel
theorem dX10_create_337 : decode cX10_create 337 = .ok (.iconst 4, 1) := by decide +kernel
theorem dX10_create_338 : decode cX10_create 338 = .ok (.invokevirtual 174, 3) := by decide +kernel
theorem dX10_create_341 : decode cX10_create 341 = .ok (.invokevirtual 199, 3) := by decide +kernel
theorem dX10_create_344 : decode cX10_create 344 = .ok (.iastore, 1) := by decide +kernel
theorem dX10_create_345 : decode cX10_create 345 = .ok (.iinc 6 1, 3) := by decide +kernel
theorem dX10_create_348 : decode cX10_create 348 = .ok (.goto (-45), 3) := by decide +kernel
theorem dX10_create_351 : decode cX10_create 351 = .ok (.aload 5, 2) := by decide +kernel
theorem dX10_create_353 : decode cX10_create 353 = .ok (.iconst 3, 1) := by decide +kernel
theorem dX10_create_354 : decode cX10_create 354 = .ok (.iaload, 1) := by decide +kernel
theorem dX10_create_355 : decode cX10_create 355 = .ok (.istore 6, 2) := by decide +kernel
theorem dX10_create_357 : decode cX10_create 357 = .ok (.iload 6, 2) := by decide +kernel
theorem dX10_create_359 : decode cX10_create 359 = .ok (.aload 4, 2) := by decide +kernel
theorem dX10_create_361 : decode cX10_create 361 = .ok (.getfield 202, 3) := by decide +kernel
theorem dX10_create_364 : decode cX10_create 364 = .ok (.arraylength, 1) := by decide +kernel
theorem dX10_create_365 : decode cX10_create 365 = .ok (.if_icmp .ge 25, 3) := by decide +kernel
theorem dX10_create_368 : decode cX10_create 368 = .ok (.aload 4, 2) := by decide +kernel
theorem dX10_create_370 : decode cX10_create 370 = .ok (.getfield 202, 3) := by decide +kernel
theorem dX10_create_373 : decode cX10_create 373 = .ok (.iload 6, 2) := by decide +kernel
theorem dX10_create_375 : decode cX10_create 375 = .ok (.aload_n 0, 1) := by decide +kernel
theorem dX10_create_376 : decode cX10_create 376 = .ok (.aload 4, 2) := by decide +kernel
theorem dX10_create_378 : decode cX10_create 378 = .ok (.iload 6, 2) := by decide +kernel
theorem dX10_create_380 : decode cX10_create 380 = .ok (.invokevirtual 205, 3) := by decide +kernel
theorem dX10_create_383 : decode cX10_create 383 = .ok (.iastore, 1) := by decide +kernel
theorem dX10_create_384 : decode cX10_create 384 = .ok (.iinc 6 1, 3) := by decide +kernel
theorem dX10_create_387 : decode cX10_create 387 = .ok (.goto (-30), 3) := by decide +kernel
theorem dX10_create_390 : decode cX10_create 390 = .ok (.iconst 0, 1) := by decide +kernel
theorem dX10_create_391 : decode cX10_create 391 = .ok (.istore 6, 2) := by decide +kernel
theorem dX10_create_393 : decode cX10_create 393 = .ok (.iload 6, 2) := by decide +kernel
theorem dX10_create_395 : decode cX10_create 395 = .ok (.aload 4, 2) := by decide +kernel
theorem dX10_create_397 : decode cX10_create 397 = .ok (.getfield 209, 3) := by decide +kernel
theorem dX10_create_400 : decode cX10_create 400 = .ok (.arraylength, 1) := by decide +kernel
theorem dX10_create_401 : decode cX10_create 401 = .ok (.if_icmp .ge 17, 3) := by decide +kernel
theorem dX10_create_404 : decode cX10_create 404 = .ok (.aload_n 0, 1) := by decide +kernel
theorem dX10_create_405 : decode cX10_create 405 = .ok (.aload 4, 2) := by decide +kernel
theorem dX10_create_407 : decode cX10_create 407 = .ok (.iload 6, 2) := by decide +kernel
theorem dX10_create_409 : decode cX10_create 409 = .ok (.invokevirtual 212, 3) := by decide +kernel
theorem dX10_create_412 : decode cX10_create 412 = .ok (.iinc 6 1, 3) := by decide +kernel
theorem dX10_create_415 : decode cX10_create 415 = .ok (.goto (-22), 3) := by decide +kernel
theorem dX10_create_418 : decode cX10_create 418 = .ok (.iconst 0, 1) := by decide +kernel
theorem dX10_create_419 : decode cX10_create 419 = .ok (.istore 6, 2) := by decide +kernel
theorem dX10_create_421 : decode cX10_create 421 = .ok (.iload 6, 2) := by decide +kernel
theorem dX10_create_423 : decode cX10_create 423 = .ok (.aload 4, 2) := by decide +kernel
theorem dX10_create_425 : decode cX10_create 425 = .ok (.getfield 216, 3) := by decide +kernel
theorem dX10_create_428 : decode cX10_create 428 = .ok (.arraylength, 1) := by decide +kernel
theorem dX10_create_429 : decode cX10_create 429 = .ok (.if_icmp .ge 31, 3) := by decide +kernel
theorem dX10_create_432 : decode cX10_create 432 = .ok (.aload 4, 2) := by decide +kernel
theorem dX10_create_434 : decode cX10_create 434 = .ok (.getfield 216, 3) := by decide +kernel
theorem dX10_create_437 : decode cX10_create 437 = .ok (.iload 6, 2) := by decide +kernel
theorem dX10_create_439 : decode cX10_create 439 = .ok (.aload_n 1, 1) := by decide +kernel
theorem dX10_create_440 : decode cX10_create 440 = .ok (.getfield 219, 3) := by decide +kernel
theorem dX10_create_443 : decode cX10_create 443 = .ok (.iload 6, 2) := by decide +kernel
theorem dX10_create_445 : decode cX10_create 445 = .ok (.bipush 7, 2) := by decide +kernel
theorem dX10_create_447 : decode cX10_create 447 = .ok (.imul, 1) := by decide +kernel
theorem dX10_create_448 : decode cX10_create 448 = .ok (.iconst 4, 1) := by decide +kernel
theorem dX10_create_449 : decode cX10_create 449 = .ok (.iadd, 1) := by decide +kernel
theorem dX10_create_450 : decode cX10_create 450 = .ok (.invokestatic 104, 3) := by decide +kernel
theorem dX10_create_453 : decode cX10_create 453 = .ok (.iastore, 1) := by decide +kernel
theorem dX10_create_454 : decode cX10_create 454 = .ok (.iinc 6 1, 3) := by decide +kernel
theorem dX10_create_457 : decode cX10_create 457 = .ok (.goto (-36), 3) := by decide +kernel
theorem dX10_create_460 : decode cX10_create 460 = .ok (.aload 4, 2) := by decide +kernel
theorem dX10_create_462 : decode cX10_create 462 = .ok (.areturn, 1) := by decide +kernel
noncomputable def tX10_create_0 (x0 : Nat) (x1 : Nat) (x2 : Nat) (x3 : Int32) (h : pm_H) : Option (((Nat × Nat × Nat × Int32 × pm_H) ⊕ (Nat × Nat × Nat × Int32 × Nat × pm_H) ⊕ (Nat × Nat × Nat × Int32 × Nat × pm_H) ⊕ (Nat × Nat × Nat × Int32 × Nat × Nat × pm_H) ⊕ (Nat × Nat × Nat × Int32 × Nat × Nat × Int32 × pm_H) ⊕ (Nat × Nat × Nat × Nat × Int32 × pm_H) ⊕ (Nat × Nat × Nat × Int32 × Nat × Nat × Int32 × Int32 × Int32 × Int32 × Nat × Nat × Nat × pm_H) ⊕ (Nat × Nat × Nat × Nat × Int32 × pm_H) ⊕ (Nat × Nat × Nat × Int32 × Nat × Nat × Int32 × Int32 × Int32 × Nat × Nat × Nat × Nat × Nat × pm_H) ⊕ (Nat × Nat × Nat × Nat × Int32 × pm_H) ⊕ (Nat × Nat × Nat × Nat × Int32 × Int32 × Int32 × Nat × pm_H) ⊕ (Nat × Nat × Nat × Int32 × Nat × Nat × Int32 × Int32 × Int32 × Nat × Nat × Nat × pm_H) ⊕ (Nat × Nat × Nat × Int32 × pm_H) ⊕ (Nat × Nat × Nat × Nat × Int32 × Int32 × Int32 × Nat × pm_H) ⊕ (Nat × Nat × Nat × Int32 × pm_H) ⊕ (Nat × Nat × Int32 × pm_H) ⊕ (Nat × Nat × Nat × Int32 × pm_H)) ⊕ (Nat × pm_H)) := some (.inl (.inr (.inl ((x0, x1, x2, x3, pm_sz h, pm_new h 4 0)))))
noncomputable def tX10_create_3 (x0 : Nat) (x1 : Nat) (x2 : Nat) (x3 : Int32) (s0 : Nat) (h : pm_H) : Option (((Nat × Nat × Nat × Int32 × pm_H) ⊕ (Nat × Nat × Nat × Int32 × Nat × pm_H) ⊕ (Nat × Nat × Nat × Int32 × Nat × pm_H) ⊕ (Nat × Nat × Nat × Int32 × Nat × Nat × pm_H) ⊕ (Nat × Nat × Nat × Int32 × Nat × Nat × Int32 × pm_H) ⊕ (Nat × Nat × Nat × Nat × Int32 × pm_H) ⊕ (Nat × Nat × Nat × Int32 × Nat × Nat × Int32 × Int32 × Int32 × Int32 × Nat × Nat × Nat × pm_H) ⊕ (Nat × Nat × Nat × Nat × Int32 × pm_H) ⊕ (Nat × Nat × Nat × Int32 × Nat × Nat × Int32 × Int32 × Int32 × Nat × Nat × Nat × Nat × Nat × pm_H) ⊕ (Nat × Nat × Nat × Nat × Int32 × pm_H) ⊕ (Nat × Nat × Nat × Nat × Int32 × Int32 × Int32 × Nat × pm_H) ⊕ (Nat × Nat × Nat × Int32 × Nat × Nat × Int32 × Int32 × Int32 × Nat × Nat × Nat × pm_H) ⊕ (Nat × Nat × Nat × Int32 × pm_H) ⊕ (Nat × Nat × Nat × Nat × Int32 × Int32 × Int32 × Nat × pm_H) ⊕ (Nat × Nat × Nat × Int32 × pm_H) ⊕ (Nat × Nat × Int32 × pm_H) ⊕ (Nat × Nat × Nat × Int32 × pm_H)) ⊕ (Nat × pm_H)) := (fX4_init h s0 x1).bind fun v1 => some (.inl (.inr (.inr (.inl ((x0, x1, x2, x3, s0, v1))))))
noncomputable def tX10_create_8 (x0 : Nat) (x1 : Nat) (x2 : Nat) (x3 : Int32) (s0 : Nat) (h : pm_H) : Option (((Nat × Nat × Nat × Int32 × pm_H) ⊕ (Nat × Nat × Nat × Int32 × Nat × pm_H) ⊕ (Nat × Nat × Nat × Int32 × Nat × pm_H) ⊕ (Nat × Nat × Nat × Int32 × Nat × Nat × pm_H) ⊕ (Nat × Nat × Nat × Int32 × Nat × Nat × Int32 × pm_H) ⊕ (Nat × Nat × Nat × Nat × Int32 × pm_H) ⊕ (Nat × Nat × Nat × Int32 × Nat × Nat × Int32 × Int32 × Int32 × Int32 × Nat × Nat × Nat × pm_H) ⊕ (Nat × Nat × Nat × Nat × Int32 × pm_H) ⊕ (Nat × Nat × Nat × Int32 × Nat × Nat × Int32 × Int32 × Int32 × Nat × Nat × Nat × Nat × Nat × pm_H) ⊕ (Nat × Nat × Nat × Nat × Int32 × pm_H) ⊕ (Nat × Nat × Nat × Nat × Int32 × Int32 × Int32 × Nat × pm_H) ⊕ (Nat × Nat × Nat × Int32 × Nat × Nat × Int32 × Int32 × Int32 × Nat × Nat × Nat × pm_H) ⊕ (Nat × Nat × Nat × Int32 × pm_H) ⊕ (Nat × Nat × Nat × Nat × Int32 × Int32 × Int32 × Nat × pm_H) ⊕ (Nat × Nat × Nat × Int32 × pm_H) ⊕ (Nat × Nat × Int32 × pm_H) ⊕ (Nat × Nat × Nat × Int32 × pm_H)) ⊕ (Nat × pm_H)) := if pm_kd h x0 = 10 then (pm_R h x0 15).bind fun v4 => if pm_kd h v4 = 40 then if (Int32.ofNat (pm_ln h v4)) ≤ (pm_I h x0 3) then (pm_let ((pm_I h x0 3) + 1) fun y8 => some (.inl (.inr (.inr (.inr (.inl ((x0, x1, x2, x3, s0, pm_sz (pm_setI h x0 3 y8), pm_new (pm_setI h x0 3 y8) 34 4)))))))) else (if pm_kd h s0 = 4 then if pm_in (pm_I h x0 3) (pm_ln h v4) then pm_let ((pm_I (pm_setR h v4 ((pm_I h x0 3).toNatClampNeg) (some s0)) x0 3) + 1) fun y12 => some (.inl (.inr (.inr (.inr (.inl ((x0, x1, x2, x3, s0, pm_sz (pm_setI (pm_setR h v4 ((pm_I h x0 3).toNatClampNeg) (some s0)) x0 3 y12), pm_new (pm_setI (pm_setR h v4 ((pm_I h x0 3).toNatClampNeg) (some s0)) x0 3 y12) 34 4))))))) else none else none) else none else none
noncomputable def tX10_create_46 (x0 : Nat) (x1 : Nat) (x2 : Nat) (x3 : Int32) (x4 : Nat) (s0 : Nat) (h : pm_H) : Option (((Nat × Nat × Nat × Int32 × pm_H) ⊕ (Nat × Nat × Nat × Int32 × Nat × pm_H) ⊕ (Nat × Nat × Nat × Int32 × Nat × pm_H) ⊕ (Nat × Nat × Nat × Int32 × Nat × Nat × pm_H) ⊕ (Nat × Nat × Nat × Int32 × Nat × Nat × Int32 × pm_H) ⊕ (Nat × Nat × Nat × Nat × Int32 × pm_H) ⊕ (Nat × Nat × Nat × Int32 × Nat × Nat × Int32 × Int32 × Int32 × Int32 × Nat × Nat × Nat × pm_H) ⊕ (Nat × Nat × Nat × Nat × Int32 × pm_H) ⊕ (Nat × Nat × Nat × Int32 × Nat × Nat × Int32 × Int32 × Int32 × Nat × Nat × Nat × Nat × Nat × pm_H) ⊕ (Nat × Nat × Nat × Nat × Int32 × pm_H) ⊕ (Nat × Nat × Nat × Nat × Int32 × Int32 × Int32 × Nat × pm_H) ⊕ (Nat × Nat × Nat × Int32 × Nat × Nat × Int32 × Int32 × Int32 × Nat × Nat × Nat × pm_H) ⊕ (Nat × Nat × Nat × Int32 × pm_H) ⊕ (Nat × Nat × Nat × Nat × Int32 × Int32 × Int32 × Nat × pm_H) ⊕ (Nat × Nat × Nat × Int32 × pm_H) ⊕ (Nat × Nat × Int32 × pm_H) ⊕ (Nat × Nat × Nat × Int32 × pm_H)) ⊕ (Nat × pm_H)) := some (.inl (.inr (.inr (.inr (.inr (.inl ((x0, x1, x2, x3, x4, s0, 0, h))))))))
noncomputable def tX10_create_51 (x0 : Nat) (x1 : Nat) (x2 : Nat) (x3 : Int32) (x4 : Nat) (x5 : Nat) (x6 : Int32) (h : pm_H) : Option (((Nat × Nat × Nat × Int32 × pm_H) ⊕ (Nat × Nat × Nat × Int32 × Nat × pm_H) ⊕ (Nat × Nat × Nat × Int32 × Nat × pm_H) ⊕ (Nat × Nat × Nat × Int32 × Nat × Nat × pm_H) ⊕ (Nat × Nat × Nat × Int32 × Nat × Nat × Int32 × pm_H) ⊕ (Nat × Nat × Nat × Nat × Int32 × pm_H) ⊕ (Nat × Nat × Nat × Int32 × Nat × Nat × Int32 × Int32 × Int32 × Int32 × Nat × Nat × Nat × pm_H) ⊕ (Nat × Nat × Nat × Nat × Int32 × pm_H) ⊕ (Nat × Nat × Nat × Int32 × Nat × Nat × Int32 × Int32 × Int32 × Nat × Nat × Nat × Nat × Nat × pm_H) ⊕ (Nat × Nat × Nat × Nat × Int32 × pm_H) ⊕ (Nat × Nat × Nat × Nat × Int32 × Int32 × Int32 × Nat × pm_H) ⊕ (Nat × Nat × Nat × Int32 × Nat × Nat × Int32 × Int32 × Int32 × Nat × Nat × Nat × pm_H) ⊕ (Nat × Nat × Nat × Int32 × pm_H) ⊕ (Nat × Nat × Nat × Nat × Int32 × Int32 × Int32 × Nat × pm_H) ⊕ (Nat × Nat × Nat × Int32 × pm_H) ⊕ (Nat × Nat × Int32 × pm_H) ⊕ (Nat × Nat × Nat × Int32 × pm_H)) ⊕ (Nat × pm_H)) := if x3 ≤ x6 then (some (.inl (.inr (.inr (.inr (.inr (.inr (.inl ((x0, x1, x4, x5, 0, h)))))))))) else (if pm_kd h x1 = 7 then (pm_R h x1 3).bind fun v16 => (fX12_item_ h v16 ((x6 * 6) + 0)).bind fun v18 => (fX12_item_ h v16 ((x6 * 6) + 1)).bind fun v20 => (fX12_item h x2 ((2 * x6) + 1)).bind fun v22 => (fX12_item h x2 (2 * x6)).bind fun v24 => if v24 = (-1) then (if pm_kd h x0 = 10 then (pm_R h x0 16).bind fun v43 => some (.inl (.inr (.inr (.inr (.inr (.inr (.inr (.inl ((x0, x1, x2, x3, x4, x5, x6, v18.toInt32, v20.toInt32, v22, pm_sz h, v43, x0, pm_new h 0 0)))))))))) else none) else (if pm_kd h x4 = 4 then (fX4_numbers h x4 v18.toInt32).bind fun v28 => (fX12_item h x5 v18.toInt32).bind fun v30 => (fX12_setItem h v28 v30 v22).bind fun v32 => (fX12_item v32 x5 v18.toInt32).bind fun v35 => (fX12_setItem v32 x5 v18.toInt32 (v35 + 1)).bind fun v37 => pm_let (x6 + 1) fun y40 => some (.inl (.inr (.inr (.inr (.inr (.inl ((x0, x1, x2, x3, x4, x5, y40, v37)))))))) else none) else none)
noncomputable def tX10_create_185 (x0 : Nat) (x1 : Nat) (x4 : Nat) (x5 : Nat) (x6 : Int32) (h : pm_H) : Option (((Nat × Nat × Nat × Int32 × pm_H) ⊕ (Nat × Nat × Nat × Int32 × Nat × pm_H) ⊕ (Nat × Nat × Nat × Int32 × Nat × pm_H) ⊕ (Nat × Nat × Nat × Int32 × Nat × Nat × pm_H) ⊕ (Nat × Nat × Nat × Int32 × Nat × Nat × Int32 × pm_H) ⊕ (Nat × Nat × Nat × Nat × Int32 × pm_H) ⊕ (Nat × Nat × Nat × Int32 × Nat × Nat × Int32 × Int32 × Int32 × Int32 × Nat × Nat × Nat × pm_H) ⊕ (Nat × Nat × Nat × Nat × Int32 × pm_H) ⊕ (Nat × Nat × Nat × Int32 × Nat × Nat × Int32 × Int32 × Int32 × Nat × Nat × Nat × Nat × Nat × pm_H) ⊕ (Nat × Nat × Nat × Nat × Int32 × pm_H) ⊕ (Nat × Nat × Nat × Nat × Int32 × Int32 × Int32 × Nat × pm_H) ⊕ (Nat × Nat × Nat × Int32 × Nat × Nat × Int32 × Int32 × Int32 × Nat × Nat × Nat × pm_H) ⊕ (Nat × Nat × Nat × Int32 × pm_H) ⊕ (Nat × Nat × Nat × Nat × Int32 × Int32 × Int32 × Nat × pm_H) ⊕ (Nat × Nat × Nat × Int32 × pm_H) ⊕ (Nat × Nat × Int32 × pm_H) ⊕ (Nat × Nat × Nat × Int32 × pm_H)) ⊕ (Nat × pm_H)) := if pm_kd h x1 = 7 then (pm_R h x1 12).bind fun v46 => if pm_kd h v46 = 38 then if (Int32.ofNat (pm_ln h v46)) ≤ x6 then (if pm_kd h x5 = 34 then if pm_in 1 (pm_ln h x5) then pm_let (pm_I h x5 (1 : Int32).toNatClampNeg) fun y52 => some (.inl (.inr (.inr (.inr (.inr (.inr (.inr (.inr (.inl ((x0, x1, x4, x5, y52, h))))))))))) else none else none) else (if pm_kd h x4 = 4 then (pm_R h x4 1).bind fun v55 => if pm_kd h x5 = 34 then if pm_in 0 (pm_ln h x5) then if pm_in x6 (pm_ln h v46) then (pm_R h v46 x6.toNatClampNeg).bind fun v60 => if pm_kd h x0 = 10 then (fX10_addFunction h x0 x4 v60 (-1)).bind fun v63 => (fX12_setItem v63.2 v55 ((pm_I h x5 (0 : Int32).toNatClampNeg) + x6) v63.1).bind fun v66 => pm_let (x6 + 1) fun y69 => some (.inl (.inr (.inr (.inr (.inr (.inr (.inl ((x0, x1, x4, x5, y69, v66))))))))) else none else none else none else none else none) else none else none
noncomputable def tX10_create_123 (x0 : Nat) (x1 : Nat) (x2 : Nat) (x3 : Int32) (x4 : Nat) (x5 : Nat) (x6 : Int32) (x7 : Int32) (x8 : Int32) (x9 : Int32) (s0 : Nat) (s1 : Nat) (s2 : Nat) (h : pm_H) : Option (((Nat × Nat × Nat × Int32 × pm_H) ⊕ (Nat × Nat × Nat × Int32 × Nat × pm_H) ⊕ (Nat × Nat × Nat × Int32 × Nat × pm_H) ⊕ (Nat × Nat × Nat × Int32 × Nat × Nat × pm_H) ⊕ (Nat × Nat × Nat × Int32 × Nat × Nat × Int32 × pm_H) ⊕ (Nat × Nat × Nat × Nat × Int32 × pm_H) ⊕ (Nat × Nat × Nat × Int32 × Nat × Nat × Int32 × Int32 × Int32 × Int32 × Nat × Nat × Nat × pm_H) ⊕ (Nat × Nat × Nat × Nat × Int32 × pm_H) ⊕ (Nat × Nat × Nat × Int32 × Nat × Nat × Int32 × Int32 × Int32 × Nat × Nat × Nat × Nat × Nat × pm_H) ⊕ (Nat × Nat × Nat × Nat × Int32 × pm_H) ⊕ (Nat × Nat × Nat × Nat × Int32 × Int32 × Int32 × Nat × pm_H) ⊕ (Nat × Nat × Nat × Int32 × Nat × Nat × Int32 × Int32 × Int32 × Nat × Nat × Nat × pm_H) ⊕ (Nat × Nat × Nat × Int32 × pm_H) ⊕ (Nat × Nat × Nat × Nat × Int32 × Int32 × Int32 × Nat × pm_H) ⊕ (Nat × Nat × Nat × Int32 × pm_H) ⊕ (Nat × Nat × Int32 × pm_H) ⊕ (Nat × Nat × Nat × Int32 × pm_H)) ⊕ (Nat × pm_H)) := if pm_kd h x1 = 7 then (fX7_shape h x1 x8).bind fun v72 => some (.inl (.inr (.inr (.inr (.inr (.inr (.inr (.inr (.inr (.inl ((x0, x1, x2, x3, x4, x5, x6, x7, x9, v72.1, s0, s0, s1, s2, v72.2)))))))))))) else none
noncomputable def tX10_create_236 (x0 : Nat) (x1 : Nat) (x4 : Nat) (x5 : Nat) (x6 : Int32) (h : pm_H) : Option (((Nat × Nat × Nat × Int32 × pm_H) ⊕ (Nat × Nat × Nat × Int32 × Nat × pm_H) ⊕ (Nat × Nat × Nat × Int32 × Nat × pm_H) ⊕ (Nat × Nat × Nat × Int32 × Nat × Nat × pm_H) ⊕ (Nat × Nat × Nat × Int32 × Nat × Nat × Int32 × pm_H) ⊕ (Nat × Nat × Nat × Nat × Int32 × pm_H) ⊕ (Nat × Nat × Nat × Int32 × Nat × Nat × Int32 × Int32 × Int32 × Int32 × Nat × Nat × Nat × pm_H) ⊕ (Nat × Nat × Nat × Nat × Int32 × pm_H) ⊕ (Nat × Nat × Nat × Int32 × Nat × Nat × Int32 × Int32 × Int32 × Nat × Nat × Nat × Nat × Nat × pm_H) ⊕ (Nat × Nat × Nat × Nat × Int32 × pm_H) ⊕ (Nat × Nat × Nat × Nat × Int32 × Int32 × Int32 × Nat × pm_H) ⊕ (Nat × Nat × Nat × Int32 × Nat × Nat × Int32 × Int32 × Int32 × Nat × Nat × Nat × pm_H) ⊕ (Nat × Nat × Nat × Int32 × pm_H) ⊕ (Nat × Nat × Nat × Nat × Int32 × Int32 × Int32 × Nat × pm_H) ⊕ (Nat × Nat × Nat × Int32 × pm_H) ⊕ (Nat × Nat × Int32 × pm_H) ⊕ (Nat × Nat × Nat × Int32 × pm_H)) ⊕ (Nat × pm_H)) := if pm_kd h x4 = 4 then (pm_R h x4 2).bind fun v75 => if pm_kd h v75 = 34 then if (Int32.ofNat (pm_ln h v75)) ≤ x6 then (if pm_kd h x5 = 34 then if pm_in 2 (pm_ln h x5) then pm_let (pm_I h x5 (2 : Int32).toNatClampNeg) fun y81 => some (.inl (.inr (.inr (.inr (.inr (.inr (.inr (.inr (.inr (.inr (.inl ((x0, x1, x4, x5, y81, h))))))))))))) else none else none) else (if pm_kd h x1 = 7 then (fX7_of h x1 1 x6 1).bind fun v84 => if pm_kd h x0 = 10 then (pm_R h x0 4).bind fun v87 => (fX7_of h x1 1 x6 3).bind fun v89 => (fX7_of h x1 1 x6 4).bind fun v91 => if pm_kd h v87 = 11 then (fX11_create h v87 v84.toInt32 v89 v91).bind fun v94 => some (.inl (.inr (.inr (.inr (.inr (.inr (.inr (.inr (.inr (.inr (.inr (.inl ((x0, x1, x4, x5, x6, v94.1, x6, v75, v94.2)))))))))))))) else none else none else none) else none else none
noncomputable def tX10_create_130 (x0 : Nat) (x1 : Nat) (x2 : Nat) (x3 : Int32) (x4 : Nat) (x5 : Nat) (x6 : Int32) (x7 : Int32) (x9 : Int32) (s0 : Nat) (s1 : Nat) (s2 : Nat) (s3 : Nat) (s4 : Nat) (h : pm_H) : Option (((Nat × Nat × Nat × Int32 × pm_H) ⊕ (Nat × Nat × Nat × Int32 × Nat × pm_H) ⊕ (Nat × Nat × Nat × Int32 × Nat × pm_H) ⊕ (Nat × Nat × Nat × Int32 × Nat × Nat × pm_H) ⊕ (Nat × Nat × Nat × Int32 × Nat × Nat × Int32 × pm_H) ⊕ (Nat × Nat × Nat × Nat × Int32 × pm_H) ⊕ (Nat × Nat × Nat × Int32 × Nat × Nat × Int32 × Int32 × Int32 × Int32 × Nat × Nat × Nat × pm_H) ⊕ (Nat × Nat × Nat × Nat × Int32 × pm_H) ⊕ (Nat × Nat × Nat × Int32 × Nat × Nat × Int32 × Int32 × Int32 × Nat × Nat × Nat × Nat × Nat × pm_H) ⊕ (Nat × Nat × Nat × Nat × Int32 × pm_H) ⊕ (Nat × Nat × Nat × Nat × Int32 × Int32 × Int32 × Nat × pm_H) ⊕ (Nat × Nat × Nat × Int32 × Nat × Nat × Int32 × Int32 × Int32 × Nat × Nat × Nat × pm_H) ⊕ (Nat × Nat × Nat × Int32 × pm_H) ⊕ (Nat × Nat × Nat × Nat × Int32 × Int32 × Int32 × Nat × pm_H) ⊕ (Nat × Nat × Nat × Int32 × pm_H) ⊕ (Nat × Nat × Int32 × pm_H) ⊕ (Nat × Nat × Nat × Int32 × pm_H)) ⊕ (Nat × pm_H)) := (fX0_init h s1 s0 0).bind fun v96 => some (.inl (.inr (.inr (.inr (.inr (.inr (.inr (.inr (.inr (.inr (.inr (.inr (.inl ((x0, x1, x2, x3, x4, x5, x6, x7, x9, s2, s3, s4, v96)))))))))))))))
noncomputable def tX10_create_303 (x0 : Nat) (x1 : Nat) (x4 : Nat) (x5 : Nat) (x6 : Int32) (h : pm_H) : Option (((Nat × Nat × Nat × Int32 × pm_H) ⊕ (Nat × Nat × Nat × Int32 × Nat × pm_H) ⊕ (Nat × Nat × Nat × Int32 × Nat × pm_H) ⊕ (Nat × Nat × Nat × Int32 × Nat × Nat × pm_H) ⊕ (Nat × Nat × Nat × Int32 × Nat × Nat × Int32 × pm_H) ⊕ (Nat × Nat × Nat × Nat × Int32 × pm_H) ⊕ (Nat × Nat × Nat × Int32 × Nat × Nat × Int32 × Int32 × Int32 × Int32 × Nat × Nat × Nat × pm_H) ⊕ (Nat × Nat × Nat × Nat × Int32 × pm_H) ⊕ (Nat × Nat × Nat × Int32 × Nat × Nat × Int32 × Int32 × Int32 × Nat × Nat × Nat × Nat × Nat × pm_H) ⊕ (Nat × Nat × Nat × Nat × Int32 × pm_H) ⊕ (Nat × Nat × Nat × Nat × Int32 × Int32 × Int32 × Nat × pm_H) ⊕ (Nat × Nat × Nat × Int32 × Nat × Nat × Int32 × Int32 × Int32 × Nat × Nat × Nat × pm_H) ⊕ (Nat × Nat × Nat × Int32 × pm_H) ⊕ (Nat × Nat × Nat × Nat × Int32 × Int32 × Int32 × Nat × pm_H) ⊕ (Nat × Nat × Nat × Int32 × pm_H) ⊕ (Nat × Nat × Int32 × pm_H) ⊕ (Nat × Nat × Nat × Int32 × pm_H)) ⊕ (Nat × pm_H)) := if pm_kd h x4 = 4 then (pm_R h x4 3).bind fun v99 => if pm_kd h v99 = 34 then if (Int32.ofNat (pm_ln h v99)) ≤ x6 then (if pm_kd h x5 = 34 then if pm_in 3 (pm_ln h x5) then pm_let (pm_I h x5 (3 : Int32).toNatClampNeg) fun y105 => some (.inl (.inr (.inr (.inr (.inr (.inr (.inr (.inr (.inr (.inr (.inr (.inr (.inr (.inl ((x0, x1, x4, y105, h)))))))))))))))) else none else none) else (if pm_kd h x0 = 10 then (pm_R h x0 5).bind fun v108 => if pm_kd h x1 = 7 then (fX7_of h x1 2 x6 3).bind fun v111 => (fX7_of h x1 2 x6 4).bind fun v113 => if pm_kd h v108 = 6 then (fX6_create h v108 v111 v113).bind fun v116 => some (.inl (.inr (.inr (.inr (.inr (.inr (.inr (.inr (.inr (.inr (.inr (.inr (.inr (.inr (.inl ((x0, x1, x4, x5, x6, v116.1, x6, v99, v116.2))))))))))))))))) else none else none else none) else none else none
noncomputable def tX10_create_290 (x0 : Nat) (x1 : Nat) (x4 : Nat) (x5 : Nat) (x6 : Int32) (s0 : Int32) (s1 : Int32) (s2 : Nat) (h : pm_H) : Option (((Nat × Nat × Nat × Int32 × pm_H) ⊕ (Nat × Nat × Nat × Int32 × Nat × pm_H) ⊕ (Nat × Nat × Nat × Int32 × Nat × pm_H) ⊕ (Nat × Nat × Nat × Int32 × Nat × Nat × pm_H) ⊕ (Nat × Nat × Nat × Int32 × Nat × Nat × Int32 × pm_H) ⊕ (Nat × Nat × Nat × Nat × Int32 × pm_H) ⊕ (Nat × Nat × Nat × Int32 × Nat × Nat × Int32 × Int32 × Int32 × Int32 × Nat × Nat × Nat × pm_H) ⊕ (Nat × Nat × Nat × Nat × Int32 × pm_H) ⊕ (Nat × Nat × Nat × Int32 × Nat × Nat × Int32 × Int32 × Int32 × Nat × Nat × Nat × Nat × Nat × pm_H) ⊕ (Nat × Nat × Nat × Nat × Int32 × pm_H) ⊕ (Nat × Nat × Nat × Nat × Int32 × Int32 × Int32 × Nat × pm_H) ⊕ (Nat × Nat × Nat × Int32 × Nat × Nat × Int32 × Int32 × Int32 × Nat × Nat × Nat × pm_H) ⊕ (Nat × Nat × Nat × Int32 × pm_H) ⊕ (Nat × Nat × Nat × Nat × Int32 × Int32 × Int32 × Nat × pm_H) ⊕ (Nat × Nat × Nat × Int32 × pm_H) ⊕ (Nat × Nat × Int32 × pm_H) ⊕ (Nat × Nat × Nat × Int32 × pm_H)) ⊕ (Nat × pm_H)) := if pm_kd h s2 = 34 then if pm_in s1 (pm_ln h s2) then pm_let (x6 + 1) fun y120 => some (.inl (.inr (.inr (.inr (.inr (.inr (.inr (.inr (.inl ((x0, x1, x4, x5, y120, pm_setI h s2 s1.toNatClampNeg s0))))))))))) else none else none
noncomputable def tX10_create_134 (x0 : Nat) (x1 : Nat) (x2 : Nat) (x3 : Int32) (x4 : Nat) (x5 : Nat) (x6 : Int32) (x7 : Int32) (x9 : Int32) (s0 : Nat) (s1 : Nat) (s2 : Nat) (h : pm_H) : Option (((Nat × Nat × Nat × Int32 × pm_H) ⊕ (Nat × Nat × Nat × Int32 × Nat × pm_H) ⊕ (Nat × Nat × Nat × Int32 × Nat × pm_H) ⊕ (Nat × Nat × Nat × Int32 × Nat × Nat × pm_H) ⊕ (Nat × Nat × Nat × Int32 × Nat × Nat × Int32 × pm_H) ⊕ (Nat × Nat × Nat × Nat × Int32 × pm_H) ⊕ (Nat × Nat × Nat × Int32 × Nat × Nat × Int32 × Int32 × Int32 × Int32 × Nat × Nat × Nat × pm_H) ⊕ (Nat × Nat × Nat × Nat × Int32 × pm_H) ⊕ (Nat × Nat × Nat × Int32 × Nat × Nat × Int32 × Int32 × Int32 × Nat × Nat × Nat × Nat × Nat × pm_H) ⊕ (Nat × Nat × Nat × Nat × Int32 × pm_H) ⊕ (Nat × Nat × Nat × Nat × Int32 × Int32 × Int32 × Nat × pm_H) ⊕ (Nat × Nat × Nat × Int32 × Nat × Nat × Int32 × Int32 × Int32 × Nat × Nat × Nat × pm_H) ⊕ (Nat × Nat × Nat × Int32 × pm_H) ⊕ (Nat × Nat × Nat × Nat × Int32 × Int32 × Int32 × Nat × pm_H) ⊕ (Nat × Nat × Nat × Int32 × pm_H) ⊕ (Nat × Nat × Int32 × pm_H) ⊕ (Nat × Nat × Nat × Int32 × pm_H)) ⊕ (Nat × pm_H)) := if pm_kd h s2 = 10 then (fX10_addFunction h s2 s1 s0 x9).bind fun v123 => if pm_kd v123.2 x4 = 4 then (fX4_numbers v123.2 x4 x7).bind fun v127 => (fX12_item v123.2 x5 x7).bind fun v129 => (fX12_setItem v123.2 v127 v129 v123.1).bind fun v131 => (fX12_item v131 x5 x7).bind fun v134 => (fX12_setItem v131 x5 x7 (v134 + 1)).bind fun v136 => pm_let (x6 + 1) fun y139 => some (.inl (.inr (.inr (.inr (.inr (.inl ((x0, x1, x2, x3, x4, x5, y139, v136)))))))) else none else none
noncomputable def tX10_create_357 (x0 : Nat) (x1 : Nat) (x4 : Nat) (x6 : Int32) (h : pm_H) : Option (((Nat × Nat × Nat × Int32 × pm_H) ⊕ (Nat × Nat × Nat × Int32 × Nat × pm_H) ⊕ (Nat × Nat × Nat × Int32 × Nat × pm_H) ⊕ (Nat × Nat × Nat × Int32 × Nat × Nat × pm_H) ⊕ (Nat × Nat × Nat × Int32 × Nat × Nat × Int32 × pm_H) ⊕ (Nat × Nat × Nat × Nat × Int32 × pm_H) ⊕ (Nat × Nat × Nat × Int32 × Nat × Nat × Int32 × Int32 × Int32 × Int32 × Nat × Nat × Nat × pm_H) ⊕ (Nat × Nat × Nat × Nat × Int32 × pm_H) ⊕ (Nat × Nat × Nat × Int32 × Nat × Nat × Int32 × Int32 × Int32 × Nat × Nat × Nat × Nat × Nat × pm_H) ⊕ (Nat × Nat × Nat × Nat × Int32 × pm_H) ⊕ (Nat × Nat × Nat × Nat × Int32 × Int32 × Int32 × Nat × pm_H) ⊕ (Nat × Nat × Nat × Int32 × Nat × Nat × Int32 × Int32 × Int32 × Nat × Nat × Nat × pm_H) ⊕ (Nat × Nat × Nat × Int32 × pm_H) ⊕ (Nat × Nat × Nat × Nat × Int32 × Int32 × Int32 × Nat × pm_H) ⊕ (Nat × Nat × Nat × Int32 × pm_H) ⊕ (Nat × Nat × Int32 × pm_H) ⊕ (Nat × Nat × Nat × Int32 × pm_H)) ⊕ (Nat × pm_H)) := if pm_kd h x4 = 4 then (pm_R h x4 4).bind fun v142 => if pm_kd h v142 = 34 then if (Int32.ofNat (pm_ln h v142)) ≤ x6 then (some (.inl (.inr (.inr (.inr (.inr (.inr (.inr (.inr (.inr (.inr (.inr (.inr (.inr (.inr (.inr (.inl ((x0, x1, x4, 0, h))))))))))))))))))) else (if pm_kd h x0 = 10 then (fX10_addGlobal h x0 x4 x6).bind fun v147 => if pm_kd v147.2 v142 = 34 then if pm_in x6 (pm_ln v147.2 v142) then pm_let (x6 + 1) fun y152 => some (.inl (.inr (.inr (.inr (.inr (.inr (.inr (.inr (.inr (.inr (.inr (.inr (.inr (.inl ((x0, x1, x4, y152, pm_setI v147.2 v142 x6.toNatClampNeg v147.1)))))))))))))))) else none else none else none) else none else none
noncomputable def tX10_create_344 (x0 : Nat) (x1 : Nat) (x4 : Nat) (x5 : Nat) (x6 : Int32) (s0 : Int32) (s1 : Int32) (s2 : Nat) (h : pm_H) : Option (((Nat × Nat × Nat × Int32 × pm_H) ⊕ (Nat × Nat × Nat × Int32 × Nat × pm_H) ⊕ (Nat × Nat × Nat × Int32 × Nat × pm_H) ⊕ (Nat × Nat × Nat × Int32 × Nat × Nat × pm_H) ⊕ (Nat × Nat × Nat × Int32 × Nat × Nat × Int32 × pm_H) ⊕ (Nat × Nat × Nat × Nat × Int32 × pm_H) ⊕ (Nat × Nat × Nat × Int32 × Nat × Nat × Int32 × Int32 × Int32 × Int32 × Nat × Nat × Nat × pm_H) ⊕ (Nat × Nat × Nat × Nat × Int32 × pm_H) ⊕ (Nat × Nat × Nat × Int32 × Nat × Nat × Int32 × Int32 × Int32 × Nat × Nat × Nat × Nat × Nat × pm_H) ⊕ (Nat × Nat × Nat × Nat × Int32 × pm_H) ⊕ (Nat × Nat × Nat × Nat × Int32 × Int32 × Int32 × Nat × pm_H) ⊕ (Nat × Nat × Nat × Int32 × Nat × Nat × Int32 × Int32 × Int32 × Nat × Nat × Nat × pm_H) ⊕ (Nat × Nat × Nat × Int32 × pm_H) ⊕ (Nat × Nat × Nat × Nat × Int32 × Int32 × Int32 × Nat × pm_H) ⊕ (Nat × Nat × Nat × Int32 × pm_H) ⊕ (Nat × Nat × Int32 × pm_H) ⊕ (Nat × Nat × Nat × Int32 × pm_H)) ⊕ (Nat × pm_H)) := if pm_kd h s2 = 34 then if pm_in s1 (pm_ln h s2) then pm_let (x6 + 1) fun y156 => some (.inl (.inr (.inr (.inr (.inr (.inr (.inr (.inr (.inr (.inr (.inl ((x0, x1, x4, x5, y156, pm_setI h s2 s1.toNatClampNeg s0))))))))))))) else none else none
noncomputable def tX10_create_393 (x0 : Nat) (x1 : Nat) (x4 : Nat) (x6 : Int32) (h : pm_H) : Option (((Nat × Nat × Nat × Int32 × pm_H) ⊕ (Nat × Nat × Nat × Int32 × Nat × pm_H) ⊕ (Nat × Nat × Nat × Int32 × Nat × pm_H) ⊕ (Nat × Nat × Nat × Int32 × Nat × Nat × pm_H) ⊕ (Nat × Nat × Nat × Int32 × Nat × Nat × Int32 × pm_H) ⊕ (Nat × Nat × Nat × Nat × Int32 × pm_H) ⊕ (Nat × Nat × Nat × Int32 × Nat × Nat × Int32 × Int32 × Int32 × Int32 × Nat × Nat × Nat × pm_H) ⊕ (Nat × Nat × Nat × Nat × Int32 × pm_H) ⊕ (Nat × Nat × Nat × Int32 × Nat × Nat × Int32 × Int32 × Int32 × Nat × Nat × Nat × Nat × Nat × pm_H) ⊕ (Nat × Nat × Nat × Nat × Int32 × pm_H) ⊕ (Nat × Nat × Nat × Nat × Int32 × Int32 × Int32 × Nat × pm_H) ⊕ (Nat × Nat × Nat × Int32 × Nat × Nat × Int32 × Int32 × Int32 × Nat × Nat × Nat × pm_H) ⊕ (Nat × Nat × Nat × Int32 × pm_H) ⊕ (Nat × Nat × Nat × Nat × Int32 × Int32 × Int32 × Nat × pm_H) ⊕ (Nat × Nat × Nat × Int32 × pm_H) ⊕ (Nat × Nat × Int32 × pm_H) ⊕ (Nat × Nat × Nat × Int32 × pm_H)) ⊕ (Nat × pm_H)) := if pm_kd h x4 = 4 then (pm_R h x4 5).bind fun v159 => if pm_kd h v159 = 36 then if (Int32.ofNat (pm_ln h v159)) ≤ x6 then (some (.inl (.inr (.inr (.inr (.inr (.inr (.inr (.inr (.inr (.inr (.inr (.inr (.inr (.inr (.inr (.inr (.inl ((x1, x4, 0, h)))))))))))))))))))) else (if pm_kd h x0 = 10 then (fX10_fillElement h x0 x4 x6).bind fun v164 => some (.inl (.inr (.inr (.inr (.inr (.inr (.inr (.inr (.inr (.inr (.inr (.inr (.inr (.inr (.inr (.inr (.inr ((x0, x1, x4, x6, v164))))))))))))))))))) else none) else none else none
noncomputable def tX10_create_421 (x1 : Nat) (x4 : Nat) (x6 : Int32) (h : pm_H) : Option (((Nat × Nat × Nat × Int32 × pm_H) ⊕ (Nat × Nat × Nat × Int32 × Nat × pm_H) ⊕ (Nat × Nat × Nat × Int32 × Nat × pm_H) ⊕ (Nat × Nat × Nat × Int32 × Nat × Nat × pm_H) ⊕ (Nat × Nat × Nat × Int32 × Nat × Nat × Int32 × pm_H) ⊕ (Nat × Nat × Nat × Nat × Int32 × pm_H) ⊕ (Nat × Nat × Nat × Int32 × Nat × Nat × Int32 × Int32 × Int32 × Int32 × Nat × Nat × Nat × pm_H) ⊕ (Nat × Nat × Nat × Nat × Int32 × pm_H) ⊕ (Nat × Nat × Nat × Int32 × Nat × Nat × Int32 × Int32 × Int32 × Nat × Nat × Nat × Nat × Nat × pm_H) ⊕ (Nat × Nat × Nat × Nat × Int32 × pm_H) ⊕ (Nat × Nat × Nat × Nat × Int32 × Int32 × Int32 × Nat × pm_H) ⊕ (Nat × Nat × Nat × Int32 × Nat × Nat × Int32 × Int32 × Int32 × Nat × Nat × Nat × pm_H) ⊕ (Nat × Nat × Nat × Int32 × pm_H) ⊕ (Nat × Nat × Nat × Nat × Int32 × Int32 × Int32 × Nat × pm_H) ⊕ (Nat × Nat × Nat × Int32 × pm_H) ⊕ (Nat × Nat × Int32 × pm_H) ⊕ (Nat × Nat × Nat × Int32 × pm_H)) ⊕ (Nat × pm_H)) := if pm_kd h x4 = 4 then (pm_R h x4 7).bind fun v167 => if pm_kd h v167 = 34 then if (Int32.ofNat (pm_ln h v167)) ≤ x6 then (some (.inr ((x4, h)))) else (if pm_kd h x1 = 7 then (pm_R h x1 10).bind fun v172 => (fX12_item h v172 ((x6 * 7) + 4)).bind fun v174 => if pm_in x6 (pm_ln h v167) then pm_let (x6 + 1) fun y177 => some (.inl (.inr (.inr (.inr (.inr (.inr (.inr (.inr (.inr (.inr (.inr (.inr (.inr (.inr (.inr (.inr (.inl ((x1, x4, y177, pm_setI h v167 x6.toNatClampNeg v174))))))))))))))))))) else none else none) else none else none
noncomputable def tX10_create_412 (x0 : Nat) (x1 : Nat) (x4 : Nat) (x6 : Int32) (h : pm_H) : Option (((Nat × Nat × Nat × Int32 × pm_H) ⊕ (Nat × Nat × Nat × Int32 × Nat × pm_H) ⊕ (Nat × Nat × Nat × Int32 × Nat × pm_H) ⊕ (Nat × Nat × Nat × Int32 × Nat × Nat × pm_H) ⊕ (Nat × Nat × Nat × Int32 × Nat × Nat × Int32 × pm_H) ⊕ (Nat × Nat × Nat × Nat × Int32 × pm_H) ⊕ (Nat × Nat × Nat × Int32 × Nat × Nat × Int32 × Int32 × Int32 × Int32 × Nat × Nat × Nat × pm_H) ⊕ (Nat × Nat × Nat × Nat × Int32 × pm_H) ⊕ (Nat × Nat × Nat × Int32 × Nat × Nat × Int32 × Int32 × Int32 × Nat × Nat × Nat × Nat × Nat × pm_H) ⊕ (Nat × Nat × Nat × Nat × Int32 × pm_H) ⊕ (Nat × Nat × Nat × Nat × Int32 × Int32 × Int32 × Nat × pm_H) ⊕ (Nat × Nat × Nat × Int32 × Nat × Nat × Int32 × Int32 × Int32 × Nat × Nat × Nat × pm_H) ⊕ (Nat × Nat × Nat × Int32 × pm_H) ⊕ (Nat × Nat × Nat × Nat × Int32 × Int32 × Int32 × Nat × pm_H) ⊕ (Nat × Nat × Nat × Int32 × pm_H) ⊕ (Nat × Nat × Int32 × pm_H) ⊕ (Nat × Nat × Nat × Int32 × pm_H)) ⊕ (Nat × pm_H)) := pm_let (x6 + 1) fun y179 => some (.inl (.inr (.inr (.inr (.inr (.inr (.inr (.inr (.inr (.inr (.inr (.inr (.inr (.inr (.inr (.inl ((x0, x1, x4, y179, h))))))))))))))))))
noncomputable def sX10_create : ((Nat × Nat × Nat × Int32 × pm_H) ⊕ (Nat × Nat × Nat × Int32 × Nat × pm_H) ⊕ (Nat × Nat × Nat × Int32 × Nat × pm_H) ⊕ (Nat × Nat × Nat × Int32 × Nat × Nat × pm_H) ⊕ (Nat × Nat × Nat × Int32 × Nat × Nat × Int32 × pm_H) ⊕ (Nat × Nat × Nat × Nat × Int32 × pm_H) ⊕ (Nat × Nat × Nat × Int32 × Nat × Nat × Int32 × Int32 × Int32 × Int32 × Nat × Nat × Nat × pm_H) ⊕ (Nat × Nat × Nat × Nat × Int32 × pm_H) ⊕ (Nat × Nat × Nat × Int32 × Nat × Nat × Int32 × Int32 × Int32 × Nat × Nat × Nat × Nat × Nat × pm_H) ⊕ (Nat × Nat × Nat × Nat × Int32 × pm_H) ⊕ (Nat × Nat × Nat × Nat × Int32 × Int32 × Int32 × Nat × pm_H) ⊕ (Nat × Nat × Nat × Int32 × Nat × Nat × Int32 × Int32 × Int32 × Nat × Nat × Nat × pm_H) ⊕ (Nat × Nat × Nat × Int32 × pm_H) ⊕ (Nat × Nat × Nat × Nat × Int32 × Int32 × Int32 × Nat × pm_H) ⊕ (Nat × Nat × Nat × Int32 × pm_H) ⊕ (Nat × Nat × Int32 × pm_H) ⊕ (Nat × Nat × Nat × Int32 × pm_H)) → Option (((Nat × Nat × Nat × Int32 × pm_H) ⊕ (Nat × Nat × Nat × Int32 × Nat × pm_H) ⊕ (Nat × Nat × Nat × Int32 × Nat × pm_H) ⊕ (Nat × Nat × Nat × Int32 × Nat × Nat × pm_H) ⊕ (Nat × Nat × Nat × Int32 × Nat × Nat × Int32 × pm_H) ⊕ (Nat × Nat × Nat × Nat × Int32 × pm_H) ⊕ (Nat × Nat × Nat × Int32 × Nat × Nat × Int32 × Int32 × Int32 × Int32 × Nat × Nat × Nat × pm_H) ⊕ (Nat × Nat × Nat × Nat × Int32 × pm_H) ⊕ (Nat × Nat × Nat × Int32 × Nat × Nat × Int32 × Int32 × Int32 × Nat × Nat × Nat × Nat × Nat × pm_H) ⊕ (Nat × Nat × Nat × Nat × Int32 × pm_H) ⊕ (Nat × Nat × Nat × Nat × Int32 × Int32 × Int32 × Nat × pm_H) ⊕ (Nat × Nat × Nat × Int32 × Nat × Nat × Int32 × Int32 × Int32 × Nat × Nat × Nat × pm_H) ⊕ (Nat × Nat × Nat × Int32 × pm_H) ⊕ (Nat × Nat × Nat × Nat × Int32 × Int32 × Int32 × Nat × pm_H) ⊕ (Nat × Nat × Nat × Int32 × pm_H) ⊕ (Nat × Nat × Int32 × pm_H) ⊕ (Nat × Nat × Nat × Int32 × pm_H)) ⊕ (Nat × pm_H)) := fun z => match z with
  | .inl (x0, x1, x2, x3, h) => tX10_create_0 x0 x1 x2 x3 h
  | .inr (.inl (x0, x1, x2, x3, s0, h)) => tX10_create_3 x0 x1 x2 x3 s0 h
  | .inr (.inr (.inl (x0, x1, x2, x3, s0, h))) => tX10_create_8 x0 x1 x2 x3 s0 h
  | .inr (.inr (.inr (.inl (x0, x1, x2, x3, x4, s0, h)))) => tX10_create_46 x0 x1 x2 x3 x4 s0 h
  | .inr (.inr (.inr (.inr (.inl (x0, x1, x2, x3, x4, x5, x6, h))))) => tX10_create_51 x0 x1 x2 x3 x4 x5 x6 h
  | .inr (.inr (.inr (.inr (.inr (.inl (x0, x1, x4, x5, x6, h)))))) => tX10_create_185 x0 x1 x4 x5 x6 h
  | .inr (.inr (.inr (.inr (.inr (.inr (.inl (x0, x1, x2, x3, x4, x5, x6, x7, x8, x9, s0, s1, s2, h))))))) => tX10_create_123 x0 x1 x2 x3 x4 x5 x6 x7 x8 x9 s0 s1 s2 h
  | .inr (.inr (.inr (.inr (.inr (.inr (.inr (.inl (x0, x1, x4, x5, x6, h)))))))) => tX10_create_236 x0 x1 x4 x5 x6 h
  | .inr (.inr (.inr (.inr (.inr (.inr (.inr (.inr (.inl (x0, x1, x2, x3, x4, x5, x6, x7, x9, s0, s1, s2, s3, s4, h))))))))) => tX10_create_130 x0 x1 x2 x3 x4 x5 x6 x7 x9 s0 s1 s2 s3 s4 h
  | .inr (.inr (.inr (.inr (.inr (.inr (.inr (.inr (.inr (.inl (x0, x1, x4, x5, x6, h)))))))))) => tX10_create_303 x0 x1 x4 x5 x6 h
  | .inr (.inr (.inr (.inr (.inr (.inr (.inr (.inr (.inr (.inr (.inl (x0, x1, x4, x5, x6, s0, s1, s2, h))))))))))) => tX10_create_290 x0 x1 x4 x5 x6 s0 s1 s2 h
  | .inr (.inr (.inr (.inr (.inr (.inr (.inr (.inr (.inr (.inr (.inr (.inl (x0, x1, x2, x3, x4, x5, x6, x7, x9, s0, s1, s2, h)))))))))))) => tX10_create_134 x0 x1 x2 x3 x4 x5 x6 x7 x9 s0 s1 s2 h
  | .inr (.inr (.inr (.inr (.inr (.inr (.inr (.inr (.inr (.inr (.inr (.inr (.inl (x0, x1, x4, x6, h))))))))))))) => tX10_create_357 x0 x1 x4 x6 h
  | .inr (.inr (.inr (.inr (.inr (.inr (.inr (.inr (.inr (.inr (.inr (.inr (.inr (.inl (x0, x1, x4, x5, x6, s0, s1, s2, h)))))))))))))) => tX10_create_344 x0 x1 x4 x5 x6 s0 s1 s2 h
  | .inr (.inr (.inr (.inr (.inr (.inr (.inr (.inr (.inr (.inr (.inr (.inr (.inr (.inr (.inl (x0, x1, x4, x6, h))))))))))))))) => tX10_create_393 x0 x1 x4 x6 h
  | .inr (.inr (.inr (.inr (.inr (.inr (.inr (.inr (.inr (.inr (.inr (.inr (.inr (.inr (.inr (.inl (x1, x4, x6, h)))))))))))))))) => tX10_create_421 x1 x4 x6 h
  | .inr (.inr (.inr (.inr (.inr (.inr (.inr (.inr (.inr (.inr (.inr (.inr (.inr (.inr (.inr (.inr (x0, x1, x4, x6, h)))))))))))))))) => tX10_create_412 x0 x1 x4 x6 h
noncomputable def fX10_create (h : pm_H) (a0 : Nat) (p1 : Nat) (p2 : Nat) (p3 : Int32) : Option (Nat × pm_H) := pm_lim sX10_create (.inl ((a0, p1, p2, p3, h)))
set_option maxHeartbeats 4000000 in
set_option maxRecDepth 100000 in
theorem mlX10_create {r : (Nat × pm_H)} : ∀ n : Nat, (∀ (x0 : Nat) (x1 : Nat) (x2 : Nat) (x3 : Int32) (h : pm_H), pm_iter sX10_create n (.inl (x0, x1, x2, x3, h)) = some r → pm_Le h r.2) ∧ (∀ (x0 : Nat) (x1 : Nat) (x2 : Nat) (x3 : Int32) (s0 : Nat) (h : pm_H), pm_iter sX10_create n (.inr (.inl (x0, x1, x2, x3, s0, h))) = some r → pm_Le h r.2) ∧ (∀ (x0 : Nat) (x1 : Nat) (x2 : Nat) (x3 : Int32) (s0 : Nat) (h : pm_H), pm_iter sX10_create n (.inr (.inr (.inl (x0, x1, x2, x3, s0, h)))) = some r → pm_Le h r.2) ∧ (∀ (x0 : Nat) (x1 : Nat) (x2 : Nat) (x3 : Int32) (x4 : Nat) (s0 : Nat) (h : pm_H), pm_iter sX10_create n (.inr (.inr (.inr (.inl (x0, x1, x2, x3, x4, s0, h))))) = some r → pm_Le h r.2) ∧ (∀ (x0 : Nat) (x1 : Nat) (x2 : Nat) (x3 : Int32) (x4 : Nat) (x5 : Nat) (x6 : Int32) (h : pm_H), pm_iter sX10_create n (.inr (.inr (.inr (.inr (.inl (x0, x1, x2, x3, x4, x5, x6, h)))))) = some r → pm_Le h r.2) ∧ (∀ (x0 : Nat) (x1 : Nat) (x4 : Nat) (x5 : Nat) (x6 : Int32) (h : pm_H), pm_iter sX10_create n (.inr (.inr (.inr (.inr (.inr (.inl (x0, x1, x4, x5, x6, h))))))) = some r → pm_Le h r.2) ∧ (∀ (x0 : Nat) (x1 : Nat) (x2 : Nat) (x3 : Int32) (x4 : Nat) (x5 : Nat) (x6 : Int32) (x7 : Int32) (x8 : Int32) (x9 : Int32) (s0 : Nat) (s1 : Nat) (s2 : Nat) (h : pm_H), pm_iter sX10_create n (.inr (.inr (.inr (.inr (.inr (.inr (.inl (x0, x1, x2, x3, x4, x5, x6, x7, x8, x9, s0, s1, s2, h)))))))) = some r → pm_Le h r.2) ∧ (∀ (x0 : Nat) (x1 : Nat) (x4 : Nat) (x5 : Nat) (x6 : Int32) (h : pm_H), pm_iter sX10_create n (.inr (.inr (.inr (.inr (.inr (.inr (.inr (.inl (x0, x1, x4, x5, x6, h))))))))) = some r → pm_Le h r.2) ∧ (∀ (x0 : Nat) (x1 : Nat) (x2 : Nat) (x3 : Int32) (x4 : Nat) (x5 : Nat) (x6 : Int32) (x7 : Int32) (x9 : Int32) (s0 : Nat) (s1 : Nat) (s2 : Nat) (s3 : Nat) (s4 : Nat) (h : pm_H), pm_iter sX10_create n (.inr (.inr (.inr (.inr (.inr (.inr (.inr (.inr (.inl (x0, x1, x2, x3, x4, x5, x6, x7, x9, s0, s1, s2, s3, s4, h)))))))))) = some r → pm_Le h r.2) ∧ (∀ (x0 : Nat) (x1 : Nat) (x4 : Nat) (x5 : Nat) (x6 : Int32) (h : pm_H), pm_iter sX10_create n (.inr (.inr (.inr (.inr (.inr (.inr (.inr (.inr (.inr (.inl (x0, x1, x4, x5, x6, h))))))))))) = some r → pm_Le h r.2) ∧ (∀ (x0 : Nat) (x1 : Nat) (x4 : Nat) (x5 : Nat) (x6 : Int32) (s0 : Int32) (s1 : Int32) (s2 : Nat) (h : pm_H), pm_iter sX10_create n (.inr (.inr (.inr (.inr (.inr (.inr (.inr (.inr (.inr (.inr (.inl (x0, x1, x4, x5, x6, s0, s1, s2, h)))))))))))) = some r → pm_Le h r.2) ∧ (∀ (x0 : Nat) (x1 : Nat) (x2 : Nat) (x3 : Int32) (x4 : Nat) (x5 : Nat) (x6 : Int32) (x7 : Int32) (x9 : Int32) (s0 : Nat) (s1 : Nat) (s2 : Nat) (h : pm_H), pm_iter sX10_create n (.inr (.inr (.inr (.inr (.inr (.inr (.inr (.inr (.inr (.inr (.inr (.inl (x0, x1, x2, x3, x4, x5, x6, x7, x9, s0, s1, s2, h))))))))))))) = some r → pm_Le h r.2) ∧ (∀ (x0 : Nat) (x1 : Nat) (x4 : Nat) (x6 : Int32) (h : pm_H), pm_iter sX10_create n (.inr (.inr (.inr (.inr (.inr (.inr (.inr (.inr (.inr (.inr (.inr (.inr (.inl (x0, x1, x4, x6, h)))))))))))))) = some r → pm_Le h r.2) ∧ (∀ (x0 : Nat) (x1 : Nat) (x4 : Nat) (x5 : Nat) (x6 : Int32) (s0 : Int32) (s1 : Int32) (s2 : Nat) (h : pm_H), pm_iter sX10_create n (.inr (.inr (.inr (.inr (.inr (.inr (.inr (.inr (.inr (.inr (.inr (.inr (.inr (.inl (x0, x1, x4, x5, x6, s0, s1, s2, h))))))))))))))) = some r → pm_Le h r.2) ∧ (∀ (x0 : Nat) (x1 : Nat) (x4 : Nat) (x6 : Int32) (h : pm_H), pm_iter sX10_create n (.inr (.inr (.inr (.inr (.inr (.inr (.inr (.inr (.inr (.inr (.inr (.inr (.inr (.inr (.inl (x0, x1, x4, x6, h)))))))))))))))) = some r → pm_Le h r.2) ∧ (∀ (x1 : Nat) (x4 : Nat) (x6 : Int32) (h : pm_H), pm_iter sX10_create n (.inr (.inr (.inr (.inr (.inr (.inr (.inr (.inr (.inr (.inr (.inr (.inr (.inr (.inr (.inr (.inl (x1, x4, x6, h))))))))))))))))) = some r → pm_Le h r.2) ∧ (∀ (x0 : Nat) (x1 : Nat) (x4 : Nat) (x6 : Int32) (h : pm_H), pm_iter sX10_create n (.inr (.inr (.inr (.inr (.inr (.inr (.inr (.inr (.inr (.inr (.inr (.inr (.inr (.inr (.inr (.inr (x0, x1, x4, x6, h))))))))))))))))) = some r → pm_Le h r.2) := by
  intro n
  induction n with
  | zero => exact ⟨fun _ _ _ _ _ hf => (by cases hf), fun _ _ _ _ _ _ hf => (by cases hf), fun _ _ _ _ _ _ hf => (by cases hf), fun _ _ _ _ _ _ _ hf => (by cases hf), fun _ _ _ _ _ _ _ _ hf => (by cases hf), fun _ _ _ _ _ _ hf => (by cases hf), fun _ _ _ _ _ _ _ _ _ _ _ _ _ _ hf => (by cases hf), fun _ _ _ _ _ _ hf => (by cases hf), fun _ _ _ _ _ _ _ _ _ _ _ _ _ _ _ hf => (by cases hf), fun _ _ _ _ _ _ hf => (by cases hf), fun _ _ _ _ _ _ _ _ _ hf => (by cases hf), fun _ _ _ _ _ _ _ _ _ _ _ _ _ hf => (by cases hf), fun _ _ _ _ _ hf => (by cases hf), fun _ _ _ _ _ _ _ _ _ hf => (by cases hf), fun _ _ _ _ _ hf => (by cases hf), fun _ _ _ _ hf => (by cases hf), fun _ _ _ _ _ hf => (by cases hf)⟩
  | succ n ih =>
    refine ⟨fun x0 x1 x2 x3 h hf => ?_, ?_⟩
    · obtain ⟨y, hf, hi⟩ := pm_iter_s hf
      have hf : tX10_create_0 x0 x1 x2 x3 h = some y := hf
      unfold tX10_create_0 at hf
      have K0 := pm_S3.rf h
      cases hf
      exact ((pm_S3.le K0).trans (pm_Le_new _ _ _)).trans (ih.2.1 x0 x1 x2 x3 (pm_sz h) (pm_new h 4 0) hi)
    refine ⟨fun x0 x1 x2 x3 s0 h hf => ?_, ?_⟩
    · obtain ⟨y, hf, hi⟩ := pm_iter_s hf
      have hf : tX10_create_3 x0 x1 x2 x3 s0 h = some y := hf
      unfold tX10_create_3 at hf
      have K0 := pm_S3.rf h
      obtain ⟨v1, e2, hf⟩ := pm_bd hf
      cases hf
      exact ((pm_S3.le K0).trans (moX4_init e2)).trans (ih.2.2.1 x0 x1 x2 x3 s0 v1 hi)
    refine ⟨fun x0 x1 x2 x3 s0 h hf => ?_, ?_⟩
    · obtain ⟨y, hf, hi⟩ := pm_iter_s hf
      have hf : tX10_create_8 x0 x1 x2 x3 s0 h = some y := hf
      unfold tX10_create_8 at hf
      have K0 := pm_S3.rf h
      obtain ⟨k3, hf⟩ := pm_if hf
      obtain ⟨v4, e5, hf⟩ := pm_bd hf
      obtain ⟨k6, hf⟩ := pm_if hf
      by_cases c7 : (Int32.ofNat (pm_ln h v4)) ≤ (pm_I h x0 3)
      · have hf := pm_it hf c7
        obtain ⟨y8, e9, hf⟩ := pm_lt hf
        cases hf
        exact ((pm_S3.le (pm_S3I K0)).trans (pm_Le_new _ _ _)).trans (ih.2.2.2.1 x0 x1 x2 x3 s0 (pm_sz (pm_setI h x0 3 y8)) (pm_new (pm_setI h x0 3 y8) 34 4) hi)
      · have hf := pm_ie hf c7
        obtain ⟨k10, hf⟩ := pm_if hf
        obtain ⟨u11, hf⟩ := pm_if hf
        obtain ⟨y12, e13, hf⟩ := pm_lt hf
        cases hf
        exact ((pm_S3.le (pm_S3I (pm_S3R K0))).trans (pm_Le_new _ _ _)).trans (ih.2.2.2.1 x0 x1 x2 x3 s0 (pm_sz (pm_setI (pm_setR h v4 ((pm_I h x0 3).toNatClampNeg) (some s0)) x0 3 y12)) (pm_new (pm_setI (pm_setR h v4 ((pm_I h x0 3).toNatClampNeg) (some s0)) x0 3 y12) 34 4) hi)
    refine ⟨fun x0 x1 x2 x3 x4 s0 h hf => ?_, ?_⟩
    · obtain ⟨y, hf, hi⟩ := pm_iter_s hf
      have hf : tX10_create_46 x0 x1 x2 x3 x4 s0 h = some y := hf
      unfold tX10_create_46 at hf
      have K0 := pm_S3.rf h
      cases hf
      exact (pm_S3.le K0).trans (ih.2.2.2.2.1 x0 x1 x2 x3 x4 s0 0 h hi)
    refine ⟨fun x0 x1 x2 x3 x4 x5 x6 h hf => ?_, ?_⟩
    · obtain ⟨y, hf, hi⟩ := pm_iter_s hf
      have hf : tX10_create_51 x0 x1 x2 x3 x4 x5 x6 h = some y := hf
      unfold tX10_create_51 at hf
      have K0 := pm_S3.rf h
      by_cases c14 : x3 ≤ x6
      · have hf := pm_it hf c14
        cases hf
        exact (pm_S3.le K0).trans (ih.2.2.2.2.2.1 x0 x1 x4 x5 0 h hi)
      · have hf := pm_ie hf c14
        obtain ⟨k15, hf⟩ := pm_if hf
        obtain ⟨v16, e17, hf⟩ := pm_bd hf
        obtain ⟨v18, e19, hf⟩ := pm_bd hf
        obtain ⟨v20, e21, hf⟩ := pm_bd hf
        obtain ⟨v22, e23, hf⟩ := pm_bd hf
        obtain ⟨v24, e25, hf⟩ := pm_bd hf
        by_cases c26 : v24 = (-1)
        · have hf := pm_it hf c26
          obtain ⟨k27, hf⟩ := pm_if hf
          obtain ⟨v28, e29, hf⟩ := pm_bd hf
          cases hf
          exact ((pm_S3.le K0).trans (pm_Le_new _ _ _)).trans (ih.2.2.2.2.2.2.1 x0 x1 x2 x3 x4 x5 x6 v18.toInt32 v20.toInt32 v22 (pm_sz h) v28 x0 (pm_new h 0 0) hi)
        · have hf := pm_ie hf c26
          obtain ⟨k30, hf⟩ := pm_if hf
          obtain ⟨v31, e32, hf⟩ := pm_bd hf
          obtain ⟨v33, e34, hf⟩ := pm_bd hf
          obtain ⟨v35, e36, hf⟩ := pm_bd hf
          have K37 := pm_S3.trans (kpX12_setItem e36) K0
          obtain ⟨v38, e39, hf⟩ := pm_bd hf
          obtain ⟨v40, e41, hf⟩ := pm_bd hf
          have K42 := pm_S3.trans (kpX12_setItem e41) K37
          obtain ⟨y43, e44, hf⟩ := pm_lt hf
          cases hf
          exact (pm_S3.le K42).trans (ih.2.2.2.2.1 x0 x1 x2 x3 x4 x5 y43 v40 hi)
    refine ⟨fun x0 x1 x4 x5 x6 h hf => ?_, ?_⟩
    · obtain ⟨y, hf, hi⟩ := pm_iter_s hf
      have hf : tX10_create_185 x0 x1 x4 x5 x6 h = some y := hf
      unfold tX10_create_185 at hf
      have K0 := pm_S3.rf h
      obtain ⟨k45, hf⟩ := pm_if hf
      obtain ⟨v46, e47, hf⟩ := pm_bd hf
      obtain ⟨k48, hf⟩ := pm_if hf
      by_cases c49 : (Int32.ofNat (pm_ln h v46)) ≤ x6
      · have hf := pm_it hf c49
        obtain ⟨k50, hf⟩ := pm_if hf
        obtain ⟨u51, hf⟩ := pm_if hf
        obtain ⟨y52, e53, hf⟩ := pm_lt hf
        cases hf
        exact (pm_S3.le K0).trans (ih.2.2.2.2.2.2.2.1 x0 x1 x4 x5 y52 h hi)
      · have hf := pm_ie hf c49
        obtain ⟨k54, hf⟩ := pm_if hf
        obtain ⟨v55, e56, hf⟩ := pm_bd hf
        obtain ⟨k57, hf⟩ := pm_if hf
        obtain ⟨u58, hf⟩ := pm_if hf
        obtain ⟨u59, hf⟩ := pm_if hf
        obtain ⟨v60, e61, hf⟩ := pm_bd hf
        obtain ⟨k62, hf⟩ := pm_if hf
        obtain ⟨v63, e64, hf⟩ := pm_bd hf
        have K65 := pm_S3.trans (kpX10_addFunction e64) K0
        obtain ⟨v66, e67, hf⟩ := pm_bd hf
        have K68 := pm_S3.trans (kpX12_setItem e67) K65
        obtain ⟨y69, e70, hf⟩ := pm_lt hf
        cases hf
        exact (pm_S3.le K68).trans (ih.2.2.2.2.2.1 x0 x1 x4 x5 y69 v66 hi)
    refine ⟨fun x0 x1 x2 x3 x4 x5 x6 x7 x8 x9 s0 s1 s2 h hf => ?_, ?_⟩
    · obtain ⟨y, hf, hi⟩ := pm_iter_s hf
      have hf : tX10_create_123 x0 x1 x2 x3 x4 x5 x6 x7 x8 x9 s0 s1 s2 h = some y := hf
      unfold tX10_create_123 at hf
      have K0 := pm_S3.rf h
      obtain ⟨k71, hf⟩ := pm_if hf
      obtain ⟨v72, e73, hf⟩ := pm_bd hf
      cases hf
      exact ((pm_S3.le K0).trans (moX7_shape e73)).trans (ih.2.2.2.2.2.2.2.2.1 x0 x1 x2 x3 x4 x5 x6 x7 x9 v72.1 s0 s0 s1 s2 v72.2 hi)
    refine ⟨fun x0 x1 x4 x5 x6 h hf => ?_, ?_⟩
    · obtain ⟨y, hf, hi⟩ := pm_iter_s hf
      have hf : tX10_create_236 x0 x1 x4 x5 x6 h = some y := hf
      unfold tX10_create_236 at hf
      have K0 := pm_S3.rf h
      obtain ⟨k74, hf⟩ := pm_if hf
      obtain ⟨v75, e76, hf⟩ := pm_bd hf
      obtain ⟨k77, hf⟩ := pm_if hf
      by_cases c78 : (Int32.ofNat (pm_ln h v75)) ≤ x6
      · have hf := pm_it hf c78
        obtain ⟨k79, hf⟩ := pm_if hf
        obtain ⟨u80, hf⟩ := pm_if hf
        obtain ⟨y81, e82, hf⟩ := pm_lt hf
        cases hf
        exact (pm_S3.le K0).trans (ih.2.2.2.2.2.2.2.2.2.1 x0 x1 x4 x5 y81 h hi)
      · have hf := pm_ie hf c78
        obtain ⟨k83, hf⟩ := pm_if hf
        obtain ⟨v84, e85, hf⟩ := pm_bd hf
        obtain ⟨k86, hf⟩ := pm_if hf
        obtain ⟨v87, e88, hf⟩ := pm_bd hf
        obtain ⟨v89, e90, hf⟩ := pm_bd hf
        obtain ⟨v91, e92, hf⟩ := pm_bd hf
        obtain ⟨k93, hf⟩ := pm_if hf
        obtain ⟨v94, e95, hf⟩ := pm_bd hf
        cases hf
        exact ((pm_S3.le K0).trans (moX11_create e95)).trans (ih.2.2.2.2.2.2.2.2.2.2.1 x0 x1 x4 x5 x6 v94.1 x6 v75 v94.2 hi)
    refine ⟨fun x0 x1 x2 x3 x4 x5 x6 x7 x9 s0 s1 s2 s3 s4 h hf => ?_, ?_⟩
    · obtain ⟨y, hf, hi⟩ := pm_iter_s hf
      have hf : tX10_create_130 x0 x1 x2 x3 x4 x5 x6 x7 x9 s0 s1 s2 s3 s4 h = some y := hf
      unfold tX10_create_130 at hf
      have K0 := pm_S3.rf h
      obtain ⟨v96, e97, hf⟩ := pm_bd hf
      cases hf
      exact ((pm_S3.le K0).trans (moX0_init e97)).trans (ih.2.2.2.2.2.2.2.2.2.2.2.1 x0 x1 x2 x3 x4 x5 x6 x7 x9 s2 s3 s4 v96 hi)
    refine ⟨fun x0 x1 x4 x5 x6 h hf => ?_, ?_⟩
    · obtain ⟨y, hf, hi⟩ := pm_iter_s hf
      have hf : tX10_create_303 x0 x1 x4 x5 x6 h = some y := hf
      unfold tX10_create_303 at hf
      have K0 := pm_S3.rf h
      obtain ⟨k98, hf⟩ := pm_if hf
      obtain ⟨v99, e100, hf⟩ := pm_bd hf
      obtain ⟨k101, hf⟩ := pm_if hf
      by_cases c102 : (Int32.ofNat (pm_ln h v99)) ≤ x6
      · have hf := pm_it hf c102
        obtain ⟨k103, hf⟩ := pm_if hf
        obtain ⟨u104, hf⟩ := pm_if hf
        obtain ⟨y105, e106, hf⟩ := pm_lt hf
        cases hf
        exact (pm_S3.le K0).trans (ih.2.2.2.2.2.2.2.2.2.2.2.2.1 x0 x1 x4 y105 h hi)
      · have hf := pm_ie hf c102
        obtain ⟨k107, hf⟩ := pm_if hf
        obtain ⟨v108, e109, hf⟩ := pm_bd hf
        obtain ⟨k110, hf⟩ := pm_if hf
        obtain ⟨v111, e112, hf⟩ := pm_bd hf
        obtain ⟨v113, e114, hf⟩ := pm_bd hf
        obtain ⟨k115, hf⟩ := pm_if hf
        obtain ⟨v116, e117, hf⟩ := pm_bd hf
        cases hf
        exact ((pm_S3.le K0).trans (moX6_create e117)).trans (ih.2.2.2.2.2.2.2.2.2.2.2.2.2.1 x0 x1 x4 x5 x6 v116.1 x6 v99 v116.2 hi)
    refine ⟨fun x0 x1 x4 x5 x6 s0 s1 s2 h hf => ?_, ?_⟩
    · obtain ⟨y, hf, hi⟩ := pm_iter_s hf
      have hf : tX10_create_290 x0 x1 x4 x5 x6 s0 s1 s2 h = some y := hf
      unfold tX10_create_290 at hf
      have K0 := pm_S3.rf h
      obtain ⟨k118, hf⟩ := pm_if hf
      obtain ⟨u119, hf⟩ := pm_if hf
      obtain ⟨y120, e121, hf⟩ := pm_lt hf
      cases hf
      exact (pm_S3.le (pm_S3I K0)).trans (ih.2.2.2.2.2.2.2.1 x0 x1 x4 x5 y120 (pm_setI h s2 s1.toNatClampNeg s0) hi)
    refine ⟨fun x0 x1 x2 x3 x4 x5 x6 x7 x9 s0 s1 s2 h hf => ?_, ?_⟩
    · obtain ⟨y, hf, hi⟩ := pm_iter_s hf
      have hf : tX10_create_134 x0 x1 x2 x3 x4 x5 x6 x7 x9 s0 s1 s2 h = some y := hf
      unfold tX10_create_134 at hf
      have K0 := pm_S3.rf h
      obtain ⟨k122, hf⟩ := pm_if hf
      obtain ⟨v123, e124, hf⟩ := pm_bd hf
      have K125 := pm_S3.trans (kpX10_addFunction e124) K0
      obtain ⟨k126, hf⟩ := pm_if hf
      obtain ⟨v127, e128, hf⟩ := pm_bd hf
      obtain ⟨v129, e130, hf⟩ := pm_bd hf
      obtain ⟨v131, e132, hf⟩ := pm_bd hf
      have K133 := pm_S3.trans (kpX12_setItem e132) K125
      obtain ⟨v134, e135, hf⟩ := pm_bd hf
      obtain ⟨v136, e137, hf⟩ := pm_bd hf
      have K138 := pm_S3.trans (kpX12_setItem e137) K133
      obtain ⟨y139, e140, hf⟩ := pm_lt hf
      cases hf
      exact (pm_S3.le K138).trans (ih.2.2.2.2.1 x0 x1 x2 x3 x4 x5 y139 v136 hi)
    refine ⟨fun x0 x1 x4 x6 h hf => ?_, ?_⟩
    · obtain ⟨y, hf, hi⟩ := pm_iter_s hf
      have hf : tX10_create_357 x0 x1 x4 x6 h = some y := hf
      unfold tX10_create_357 at hf
      have K0 := pm_S3.rf h
      obtain ⟨k141, hf⟩ := pm_if hf
      obtain ⟨v142, e143, hf⟩ := pm_bd hf
      obtain ⟨k144, hf⟩ := pm_if hf
      by_cases c145 : (Int32.ofNat (pm_ln h v142)) ≤ x6
      · have hf := pm_it hf c145
        cases hf
        exact (pm_S3.le K0).trans (ih.2.2.2.2.2.2.2.2.2.2.2.2.2.2.1 x0 x1 x4 0 h hi)
      · have hf := pm_ie hf c145
        obtain ⟨k146, hf⟩ := pm_if hf
        obtain ⟨v147, e148, hf⟩ := pm_bd hf
        have K149 := pm_S3.trans (kpX10_addGlobal e148) K0
        obtain ⟨k150, hf⟩ := pm_if hf
        obtain ⟨u151, hf⟩ := pm_if hf
        obtain ⟨y152, e153, hf⟩ := pm_lt hf
        cases hf
        exact (pm_S3.le (pm_S3I K149)).trans (ih.2.2.2.2.2.2.2.2.2.2.2.2.1 x0 x1 x4 y152 (pm_setI v147.2 v142 x6.toNatClampNeg v147.1) hi)
    refine ⟨fun x0 x1 x4 x5 x6 s0 s1 s2 h hf => ?_, ?_⟩
    · obtain ⟨y, hf, hi⟩ := pm_iter_s hf
      have hf : tX10_create_344 x0 x1 x4 x5 x6 s0 s1 s2 h = some y := hf
      unfold tX10_create_344 at hf
      have K0 := pm_S3.rf h
      obtain ⟨k154, hf⟩ := pm_if hf
      obtain ⟨u155, hf⟩ := pm_if hf
      obtain ⟨y156, e157, hf⟩ := pm_lt hf
      cases hf
      exact (pm_S3.le (pm_S3I K0)).trans (ih.2.2.2.2.2.2.2.2.2.1 x0 x1 x4 x5 y156 (pm_setI h s2 s1.toNatClampNeg s0) hi)
    refine ⟨fun x0 x1 x4 x6 h hf => ?_, ?_⟩
    · obtain ⟨y, hf, hi⟩ := pm_iter_s hf
      have hf : tX10_create_393 x0 x1 x4 x6 h = some y := hf
      unfold tX10_create_393 at hf
      have K0 := pm_S3.rf h
      obtain ⟨k158, hf⟩ := pm_if hf
      obtain ⟨v159, e160, hf⟩ := pm_bd hf
      obtain ⟨k161, hf⟩ := pm_if hf
      by_cases c162 : (Int32.ofNat (pm_ln h v159)) ≤ x6
      · have hf := pm_it hf c162
        cases hf
        exact (pm_S3.le K0).trans (ih.2.2.2.2.2.2.2.2.2.2.2.2.2.2.2.1 x1 x4 0 h hi)
      · have hf := pm_ie hf c162
        obtain ⟨k163, hf⟩ := pm_if hf
        obtain ⟨v164, e165, hf⟩ := pm_bd hf
        cases hf
        exact ((pm_S3.le K0).trans (moX10_fillElement e165)).trans (ih.2.2.2.2.2.2.2.2.2.2.2.2.2.2.2.2 x0 x1 x4 x6 v164 hi)
    refine ⟨fun x1 x4 x6 h hf => ?_, ?_⟩
    · obtain ⟨y, hf, hi⟩ := pm_iter_s hf
      have hf : tX10_create_421 x1 x4 x6 h = some y := hf
      unfold tX10_create_421 at hf
      have K0 := pm_S3.rf h
      obtain ⟨k166, hf⟩ := pm_if hf
      obtain ⟨v167, e168, hf⟩ := pm_bd hf
      obtain ⟨k169, hf⟩ := pm_if hf
      by_cases c170 : (Int32.ofNat (pm_ln h v167)) ≤ x6
      · have hf := pm_it hf c170
        have hf := Option.some.inj hf
        subst hf
        have hi := Option.some.inj (show some _ = some r from hi)
        subst hi
        exact pm_S3.le K0
      · have hf := pm_ie hf c170
        obtain ⟨k171, hf⟩ := pm_if hf
        obtain ⟨v172, e173, hf⟩ := pm_bd hf
        obtain ⟨v174, e175, hf⟩ := pm_bd hf
        obtain ⟨u176, hf⟩ := pm_if hf
        obtain ⟨y177, e178, hf⟩ := pm_lt hf
        cases hf
        exact (pm_S3.le (pm_S3I K0)).trans (ih.2.2.2.2.2.2.2.2.2.2.2.2.2.2.2.1 x1 x4 y177 (pm_setI h v167 x6.toNatClampNeg v174) hi)
    refine fun x0 x1 x4 x6 h hf => ?_
    obtain ⟨y, hf, hi⟩ := pm_iter_s hf
    have hf : tX10_create_412 x0 x1 x4 x6 h = some y := hf
    unfold tX10_create_412 at hf
    have K0 := pm_S3.rf h
    obtain ⟨y179, e180, hf⟩ := pm_lt hf
    cases hf
    exact (pm_S3.le K0).trans (ih.2.2.2.2.2.2.2.2.2.2.2.2.2.2.1 x0 x1 x4 y179 h hi)
set_option maxHeartbeats 4000000 in
set_option maxRecDepth 100000 in
theorem moX10_create {h : pm_H} {a0 : Nat} {p1 : Nat} {p2 : Nat} {p3 : Int32} {r : (Nat × pm_H)} (hf : fX10_create h a0 p1 p2 p3 = some r) : pm_Le h r.2 := by
  unfold fX10_create at hf
  have K0 := pm_S3.rf h
  obtain ⟨n, hn⟩ := pm_lim_iter hf
  exact (mlX10_create n).1 a0 p1 p2 p3 h hn
set_option maxHeartbeats 4000000 in
set_option maxRecDepth 100000 in
theorem lpX10_create {g : pm_Gm} {l : Launch} {G : pm_Gl} {Qr : Option Value → pm_H → Prop} (C : pm_C g cX10_create RX10) {h0 : pm_H} {r : (Nat × pm_H)} (X : pm_X g l G mX10_create (pm_sz r.2 - pm_sz h0) (pm_us r.2 - pm_us h0) Qr) (q : Qr (some (.ref r.1)) r.2) : ∀ n : Nat, (∀ (x0 : Nat) (x1 : Nat) (x2 : Nat) (x3 : Int32) (h : pm_H), pm_Le h0 h → pm_iter sX10_create n (.inl (x0, x1, x2, x3, h)) = some r → pm_G g 0 [(0, .ref x0), (1, .ref x1), (2, .ref x2), (3, .int x3)] [] h (pm_sz h - pm_sz h0) (pm_us h - pm_us h0)) ∧ (∀ (x0 : Nat) (x1 : Nat) (x2 : Nat) (x3 : Int32) (s0 : Nat) (h : pm_H), pm_Le h0 h → pm_iter sX10_create n (.inr (.inl (x0, x1, x2, x3, s0, h))) = some r → pm_G g 3 [(0, .ref x0), (1, .ref x1), (2, .ref x2), (3, .int x3)] [.ref s0] h (pm_sz h - pm_sz h0) (pm_us h - pm_us h0)) ∧ (∀ (x0 : Nat) (x1 : Nat) (x2 : Nat) (x3 : Int32) (s0 : Nat) (h : pm_H), pm_Le h0 h → pm_iter sX10_create n (.inr (.inr (.inl (x0, x1, x2, x3, s0, h)))) = some r → pm_G g 8 [(0, .ref x0), (1, .ref x1), (2, .ref x2), (3, .int x3)] [.ref s0] h (pm_sz h - pm_sz h0) (pm_us h - pm_us h0)) ∧ (∀ (x0 : Nat) (x1 : Nat) (x2 : Nat) (x3 : Int32) (x4 : Nat) (s0 : Nat) (h : pm_H), pm_Le h0 h → pm_iter sX10_create n (.inr (.inr (.inr (.inl (x0, x1, x2, x3, x4, s0, h))))) = some r → pm_G g 46 [(0, .ref x0), (1, .ref x1), (2, .ref x2), (3, .int x3), (4, .ref x4)] [.ref s0] h (pm_sz h - pm_sz h0) (pm_us h - pm_us h0)) ∧ (∀ (x0 : Nat) (x1 : Nat) (x2 : Nat) (x3 : Int32) (x4 : Nat) (x5 : Nat) (x6 : Int32) (h : pm_H), pm_Le h0 h → pm_iter sX10_create n (.inr (.inr (.inr (.inr (.inl (x0, x1, x2, x3, x4, x5, x6, h)))))) = some r → pm_G g 51 [(0, .ref x0), (1, .ref x1), (2, .ref x2), (3, .int x3), (4, .ref x4), (5, .ref x5), (6, .int x6)] [] h (pm_sz h - pm_sz h0) (pm_us h - pm_us h0)) ∧ (∀ (x0 : Nat) (x1 : Nat) (x4 : Nat) (x5 : Nat) (x6 : Int32) (h : pm_H), pm_Le h0 h → pm_iter sX10_create n (.inr (.inr (.inr (.inr (.inr (.inl (x0, x1, x4, x5, x6, h))))))) = some r → pm_G g 185 [(0, .ref x0), (1, .ref x1), (4, .ref x4), (5, .ref x5), (6, .int x6)] [] h (pm_sz h - pm_sz h0) (pm_us h - pm_us h0)) ∧ (∀ (x0 : Nat) (x1 : Nat) (x2 : Nat) (x3 : Int32) (x4 : Nat) (x5 : Nat) (x6 : Int32) (x7 : Int32) (x8 : Int32) (x9 : Int32) (s0 : Nat) (s1 : Nat) (s2 : Nat) (h : pm_H), pm_Le h0 h → pm_iter sX10_create n (.inr (.inr (.inr (.inr (.inr (.inr (.inl (x0, x1, x2, x3, x4, x5, x6, x7, x8, x9, s0, s1, s2, h)))))))) = some r → pm_G g 123 [(0, .ref x0), (1, .ref x1), (2, .ref x2), (3, .int x3), (4, .ref x4), (5, .ref x5), (6, .int x6), (7, .int x7), (8, .int x8), (9, .int x9)] [.ref s0, .ref s1, .ref s2] h (pm_sz h - pm_sz h0) (pm_us h - pm_us h0)) ∧ (∀ (x0 : Nat) (x1 : Nat) (x4 : Nat) (x5 : Nat) (x6 : Int32) (h : pm_H), pm_Le h0 h → pm_iter sX10_create n (.inr (.inr (.inr (.inr (.inr (.inr (.inr (.inl (x0, x1, x4, x5, x6, h))))))))) = some r → pm_G g 236 [(0, .ref x0), (1, .ref x1), (4, .ref x4), (5, .ref x5), (6, .int x6)] [] h (pm_sz h - pm_sz h0) (pm_us h - pm_us h0)) ∧ (∀ (x0 : Nat) (x1 : Nat) (x2 : Nat) (x3 : Int32) (x4 : Nat) (x5 : Nat) (x6 : Int32) (x7 : Int32) (x9 : Int32) (s0 : Nat) (s1 : Nat) (s2 : Nat) (s3 : Nat) (s4 : Nat) (h : pm_H), pm_Le h0 h → pm_iter sX10_create n (.inr (.inr (.inr (.inr (.inr (.inr (.inr (.inr (.inl (x0, x1, x2, x3, x4, x5, x6, x7, x9, s0, s1, s2, s3, s4, h)))))))))) = some r → pm_G g 130 [(0, .ref x0), (1, .ref x1), (2, .ref x2), (3, .int x3), (4, .ref x4), (5, .ref x5), (6, .int x6), (7, .int x7), (9, .int x9)] [.ref s0, .ref s1, .ref s2, .ref s3, .ref s4] h (pm_sz h - pm_sz h0) (pm_us h - pm_us h0)) ∧ (∀ (x0 : Nat) (x1 : Nat) (x4 : Nat) (x5 : Nat) (x6 : Int32) (h : pm_H), pm_Le h0 h → pm_iter sX10_create n (.inr (.inr (.inr (.inr (.inr (.inr (.inr (.inr (.inr (.inl (x0, x1, x4, x5, x6, h))))))))))) = some r → pm_G g 303 [(0, .ref x0), (1, .ref x1), (4, .ref x4), (5, .ref x5), (6, .int x6)] [] h (pm_sz h - pm_sz h0) (pm_us h - pm_us h0)) ∧ (∀ (x0 : Nat) (x1 : Nat) (x4 : Nat) (x5 : Nat) (x6 : Int32) (s0 : Int32) (s1 : Int32) (s2 : Nat) (h : pm_H), pm_Le h0 h → pm_iter sX10_create n (.inr (.inr (.inr (.inr (.inr (.inr (.inr (.inr (.inr (.inr (.inl (x0, x1, x4, x5, x6, s0, s1, s2, h)))))))))))) = some r → pm_G g 290 [(0, .ref x0), (1, .ref x1), (4, .ref x4), (5, .ref x5), (6, .int x6)] [.int s0, .int s1, .ref s2] h (pm_sz h - pm_sz h0) (pm_us h - pm_us h0)) ∧ (∀ (x0 : Nat) (x1 : Nat) (x2 : Nat) (x3 : Int32) (x4 : Nat) (x5 : Nat) (x6 : Int32) (x7 : Int32) (x9 : Int32) (s0 : Nat) (s1 : Nat) (s2 : Nat) (h : pm_H), pm_Le h0 h → pm_iter sX10_create n (.inr (.inr (.inr (.inr (.inr (.inr (.inr (.inr (.inr (.inr (.inr (.inl (x0, x1, x2, x3, x4, x5, x6, x7, x9, s0, s1, s2, h))))))))))))) = some r → pm_G g 134 [(0, .ref x0), (1, .ref x1), (2, .ref x2), (3, .int x3), (4, .ref x4), (5, .ref x5), (6, .int x6), (7, .int x7), (9, .int x9)] [.ref s0, .ref s1, .ref s2] h (pm_sz h - pm_sz h0) (pm_us h - pm_us h0)) ∧ (∀ (x0 : Nat) (x1 : Nat) (x4 : Nat) (x6 : Int32) (h : pm_H), pm_Le h0 h → pm_iter sX10_create n (.inr (.inr (.inr (.inr (.inr (.inr (.inr (.inr (.inr (.inr (.inr (.inr (.inl (x0, x1, x4, x6, h)))))))))))))) = some r → pm_G g 357 [(0, .ref x0), (1, .ref x1), (4, .ref x4), (6, .int x6)] [] h (pm_sz h - pm_sz h0) (pm_us h - pm_us h0)) ∧ (∀ (x0 : Nat) (x1 : Nat) (x4 : Nat) (x5 : Nat) (x6 : Int32) (s0 : Int32) (s1 : Int32) (s2 : Nat) (h : pm_H), pm_Le h0 h → pm_iter sX10_create n (.inr (.inr (.inr (.inr (.inr (.inr (.inr (.inr (.inr (.inr (.inr (.inr (.inr (.inl (x0, x1, x4, x5, x6, s0, s1, s2, h))))))))))))))) = some r → pm_G g 344 [(0, .ref x0), (1, .ref x1), (4, .ref x4), (5, .ref x5), (6, .int x6)] [.int s0, .int s1, .ref s2] h (pm_sz h - pm_sz h0) (pm_us h - pm_us h0)) ∧ (∀ (x0 : Nat) (x1 : Nat) (x4 : Nat) (x6 : Int32) (h : pm_H), pm_Le h0 h → pm_iter sX10_create n (.inr (.inr (.inr (.inr (.inr (.inr (.inr (.inr (.inr (.inr (.inr (.inr (.inr (.inr (.inl (x0, x1, x4, x6, h)))))))))))))))) = some r → pm_G g 393 [(0, .ref x0), (1, .ref x1), (4, .ref x4), (6, .int x6)] [] h (pm_sz h - pm_sz h0) (pm_us h - pm_us h0)) ∧ (∀ (x1 : Nat) (x4 : Nat) (x6 : Int32) (h : pm_H), pm_Le h0 h → pm_iter sX10_create n (.inr (.inr (.inr (.inr (.inr (.inr (.inr (.inr (.inr (.inr (.inr (.inr (.inr (.inr (.inr (.inl (x1, x4, x6, h))))))))))))))))) = some r → pm_G g 421 [(1, .ref x1), (4, .ref x4), (6, .int x6)] [] h (pm_sz h - pm_sz h0) (pm_us h - pm_us h0)) ∧ (∀ (x0 : Nat) (x1 : Nat) (x4 : Nat) (x6 : Int32) (h : pm_H), pm_Le h0 h → pm_iter sX10_create n (.inr (.inr (.inr (.inr (.inr (.inr (.inr (.inr (.inr (.inr (.inr (.inr (.inr (.inr (.inr (.inr (x0, x1, x4, x6, h))))))))))))))))) = some r → pm_G g 412 [(0, .ref x0), (1, .ref x1), (4, .ref x4), (6, .int x6)] [] h (pm_sz h - pm_sz h0) (pm_us h - pm_us h0)) := by
  intro n
  induction n with
  | zero => exact ⟨fun _ _ _ _ _ _ hf => (by cases hf), fun _ _ _ _ _ _ _ hf => (by cases hf), fun _ _ _ _ _ _ _ hf => (by cases hf), fun _ _ _ _ _ _ _ _ hf => (by cases hf), fun _ _ _ _ _ _ _ _ _ hf => (by cases hf), fun _ _ _ _ _ _ _ hf => (by cases hf), fun _ _ _ _ _ _ _ _ _ _ _ _ _ _ _ hf => (by cases hf), fun _ _ _ _ _ _ _ hf => (by cases hf), fun _ _ _ _ _ _ _ _ _ _ _ _ _ _ _ _ hf => (by cases hf), fun _ _ _ _ _ _ _ hf => (by cases hf), fun _ _ _ _ _ _ _ _ _ _ hf => (by cases hf), fun _ _ _ _ _ _ _ _ _ _ _ _ _ _ hf => (by cases hf), fun _ _ _ _ _ _ hf => (by cases hf), fun _ _ _ _ _ _ _ _ _ _ hf => (by cases hf), fun _ _ _ _ _ _ hf => (by cases hf), fun _ _ _ _ _ hf => (by cases hf), fun _ _ _ _ _ _ hf => (by cases hf)⟩
  | succ n ih =>
    refine ⟨fun x0 x1 x2 x3 h m0 hf => ?_, ?_⟩
    · have le0 := (mlX10_create (n + 1)).1 x0 x1 x2 x3 h hf
      have kc1 := Nat.sub_le_sub_right le0.1 (pm_sz h0)
      have kc2 := Nat.sub_le_sub_right le0.2 (pm_us h0)
      have K0 := pm_S3.rf h
      obtain ⟨y, hf, hi⟩ := pm_iter_s hf
      have hf : tX10_create_0 x0 x1 x2 x3 h = some y := hf
      unfold tX10_create_0 at hf
      cases hf
      refine pa_newo (hb := h) (h0 := h0) C X K0 m0 dX10_create_0 pm_Cl4 ckX10_43 cc4.1 cc4.2 ((mlX10_create n).2.1 x0 x1 x2 x3 (pm_sz h) (pm_new h 4 0) hi) ?_
      exact pm_sub [0, 1, 2, 3] rfl (ih.2.1 x0 x1 x2 x3 (pm_sz h) (pm_new h 4 0) ((m0.trans (pm_S3.le K0)).trans (pm_Le_new _ _ _)) hi)
    refine ⟨fun x0 x1 x2 x3 s0 h m0 hf => ?_, ?_⟩
    · have le0 := (mlX10_create (n + 1)).2.1 x0 x1 x2 x3 s0 h hf
      have kc1 := Nat.sub_le_sub_right le0.1 (pm_sz h0)
      have kc2 := Nat.sub_le_sub_right le0.2 (pm_us h0)
      have K0 := pm_S3.rf h
      obtain ⟨y, hf, hi⟩ := pm_iter_s hf
      have hf : tX10_create_3 x0 x1 x2 x3 s0 h = some y := hf
      unfold tX10_create_3 at hf
      refine pm_dup C dX10_create_3 rfl ?_
      refine pm_aload_n C dX10_create_4 rfl rfl ?_
      obtain ⟨v1, e2, hf⟩ := pm_bd hf
      cases hf
      refine pm_callI (as := [.ref x1]) (st := [.ref s0]) C X dX10_create_5 lnX10_76 myX4_init iiX4_init ⟨by decide, by decide⟩ rfl rfl (Nat.le_of_ble_eq_true rfl) (pa_le1 K0 m0 (moX4_init e2) ((mlX10_create n).2.2.1 x0 x1 x2 x3 s0 v1 hi)) (pa_le2 K0 m0 (moX4_init e2) ((mlX10_create n).2.2.1 x0 x1 x2 x3 s0 v1 hi)) (ctX4_init e2 ?_)
      show pm_G g 8 [(0, .ref x0), (1, .ref x1), (2, .ref x2), (3, .int x3)] [.ref s0] v1 (pm_sz h - pm_sz h0 + (pm_sz v1 - pm_sz h)) (pm_us h - pm_us h0 + (pm_us v1 - pm_us h))
      refine pa_fin K0 m0 (moX4_init e2) ?_
      exact pm_sub [0, 1, 2, 3] rfl (ih.2.2.1 x0 x1 x2 x3 s0 v1 ((m0.trans (pm_S3.le K0)).trans (moX4_init e2)) hi)
    refine ⟨fun x0 x1 x2 x3 s0 h m0 hf => ?_, ?_⟩
    · have le0 := (mlX10_create (n + 1)).2.2.1 x0 x1 x2 x3 s0 h hf
      have kc1 := Nat.sub_le_sub_right le0.1 (pm_sz h0)
      have kc2 := Nat.sub_le_sub_right le0.2 (pm_us h0)
      have K0 := pm_S3.rf h
      obtain ⟨y, hf, hi⟩ := pm_iter_s hf
      have hf : tX10_create_8 x0 x1 x2 x3 s0 h = some y := hf
      unfold tX10_create_8 at hf
      refine pm_astore (lv' := [(4, .ref s0), (0, .ref x0), (1, .ref x1), (2, .ref x2), (3, .int x3)]) C dX10_create_8 (pm_nl X (by decide)) rfl ?_
      refine pm_aload_n C dX10_create_10 rfl rfl ?_
      obtain ⟨k3, hf⟩ := pm_if hf
      refine pm_getI C dX10_create_11 flX10_86 rfl k3 rfl ?_
      refine pm_aload_n C dX10_create_14 rfl rfl ?_
      obtain ⟨v4, e5, hf⟩ := pm_bd hf
      refine pm_getR C dX10_create_15 flX10_58 rfl k3 e5 ?_
      obtain ⟨k6, hf⟩ := pm_if hf
      refine pm_alen (t := 8) C dX10_create_18 (by decide) k6 rfl ?_
      refine pm_icmp_ge (tgt := 33) C dX10_create_19 (by decide) (fun c7 => ?_) (fun c7 => ?_)
      · have hf := pm_it hf c7
        refine pm_aload_n C dX10_create_33 rfl rfl ?_
        refine pm_dup C dX10_create_34 rfl ?_
        refine pm_getI C dX10_create_35 flX10_86 rfl k3 rfl ?_
        refine pm_iconst (v := 1) C dX10_create_38 (by decide) ?_
        refine pm_iadd C dX10_create_39 ?_
        obtain ⟨y8, e9, hf⟩ := pm_lt hf
        refine pm_topI e9 ?_
        refine pm_putI C dX10_create_40 flX10_86 rfl rfl k3 rfl rfl ?_
        refine pm_iconst (v := 4) C dX10_create_43 (by decide) ?_
        cases hf
        refine pa_newa (hb := h) (h0 := h0) (t := 2) (N := 4) C X (pm_S3I K0) m0 dX10_create_44 (by decide) rfl al2 (by decide) (by decide +kernel) (by decide +kernel) ((mlX10_create n).2.2.2.1 x0 x1 x2 x3 s0 (pm_sz (pm_setI h x0 3 y8)) (pm_new (pm_setI h x0 3 y8) 34 4) hi) ?_
        exact pm_sub [1, 2, 3, 4, 0] rfl (ih.2.2.2.1 x0 x1 x2 x3 s0 (pm_sz (pm_setI h x0 3 y8)) (pm_new (pm_setI h x0 3 y8) 34 4) ((m0.trans (pm_S3.le (pm_S3I K0))).trans (pm_Le_new _ _ _)) hi)
      · have hf := pm_ie hf c7
        refine pm_aload_n C dX10_create_22 rfl rfl ?_
        refine pm_getR C dX10_create_23 flX10_58 rfl k3 e5 ?_
        refine pm_aload_n C dX10_create_26 rfl rfl ?_
        refine pm_getI C dX10_create_27 flX10_86 rfl k3 rfl ?_
        refine pm_aload C dX10_create_30 rfl ?_
        obtain ⟨k10, hf⟩ := pm_if hf
        obtain ⟨u11, hf⟩ := pm_if hf
        refine pm_aast (t := 8) C dX10_create_32 (by decide) pm_Cl4 rfl k6 k10 u11 ?_
        refine pm_aload_n C dX10_create_33 rfl rfl ?_
        refine pm_dup C dX10_create_34 rfl ?_
        refine pm_getI C dX10_create_35 flX10_86 rfl k3 rfl ?_
        refine pm_iconst (v := 1) C dX10_create_38 (by decide) ?_
        refine pm_iadd C dX10_create_39 ?_
        obtain ⟨y12, e13, hf⟩ := pm_lt hf
        refine pm_topI e13 ?_
        refine pm_putI C dX10_create_40 flX10_86 rfl rfl k3 rfl rfl ?_
        refine pm_iconst (v := 4) C dX10_create_43 (by decide) ?_
        cases hf
        refine pa_newa (hb := h) (h0 := h0) (t := 2) (N := 4) C X (pm_S3I (pm_S3R K0)) m0 dX10_create_44 (by decide) rfl al2 (by decide) (by decide +kernel) (by decide +kernel) ((mlX10_create n).2.2.2.1 x0 x1 x2 x3 s0 (pm_sz (pm_setI (pm_setR h v4 ((pm_I h x0 3).toNatClampNeg) (some s0)) x0 3 y12)) (pm_new (pm_setI (pm_setR h v4 ((pm_I h x0 3).toNatClampNeg) (some s0)) x0 3 y12) 34 4) hi) ?_
        exact pm_sub [1, 2, 3, 4, 0] rfl (ih.2.2.2.1 x0 x1 x2 x3 s0 (pm_sz (pm_setI (pm_setR h v4 ((pm_I h x0 3).toNatClampNeg) (some s0)) x0 3 y12)) (pm_new (pm_setI (pm_setR h v4 ((pm_I h x0 3).toNatClampNeg) (some s0)) x0 3 y12) 34 4) ((m0.trans (pm_S3.le (pm_S3I (pm_S3R K0)))).trans (pm_Le_new _ _ _)) hi)
    refine ⟨fun x0 x1 x2 x3 x4 s0 h m0 hf => ?_, ?_⟩
    · have le0 := (mlX10_create (n + 1)).2.2.2.1 x0 x1 x2 x3 x4 s0 h hf
      have kc1 := Nat.sub_le_sub_right le0.1 (pm_sz h0)
      have kc2 := Nat.sub_le_sub_right le0.2 (pm_us h0)
      have K0 := pm_S3.rf h
      obtain ⟨y, hf, hi⟩ := pm_iter_s hf
      have hf : tX10_create_46 x0 x1 x2 x3 x4 s0 h = some y := hf
      unfold tX10_create_46 at hf
      refine pm_astore (lv' := [(5, .ref s0), (0, .ref x0), (1, .ref x1), (2, .ref x2), (3, .int x3), (4, .ref x4)]) C dX10_create_46 (pm_nl X (by decide)) rfl ?_
      refine pm_iconst (v := 0) C dX10_create_48 (by decide) ?_
      refine pm_istore (lv' := [(6, .int 0), (5, .ref s0), (0, .ref x0), (1, .ref x1), (2, .ref x2), (3, .int x3), (4, .ref x4)]) C dX10_create_49 (pm_nl X (by decide)) rfl ?_
      cases hf
      exact pa_join K0 (pm_sub [2, 3, 4, 5, 6, 1, 0] rfl (ih.2.2.2.2.1 x0 x1 x2 x3 x4 s0 0 h (m0.trans (pm_S3.le K0)) hi))
    refine ⟨fun x0 x1 x2 x3 x4 x5 x6 h m0 hf => ?_, ?_⟩
    · have le0 := (mlX10_create (n + 1)).2.2.2.2.1 x0 x1 x2 x3 x4 x5 x6 h hf
      have kc1 := Nat.sub_le_sub_right le0.1 (pm_sz h0)
      have kc2 := Nat.sub_le_sub_right le0.2 (pm_us h0)
      have K0 := pm_S3.rf h
      obtain ⟨y, hf, hi⟩ := pm_iter_s hf
      have hf : tX10_create_51 x0 x1 x2 x3 x4 x5 x6 h = some y := hf
      unfold tX10_create_51 at hf
      refine pm_iload C dX10_create_51 rfl ?_
      refine pm_iload_n C dX10_create_53 rfl rfl ?_
      refine pm_icmp_ge (tgt := 182) C dX10_create_54 (by decide) (fun c14 => ?_) (fun c14 => ?_)
      · have hf := pm_it hf c14
        refine pm_iconst (v := 0) C dX10_create_182 (by decide) ?_
        refine pm_istore (lv' := [(6, .int 0), (0, .ref x0), (1, .ref x1), (2, .ref x2), (3, .int x3), (4, .ref x4), (5, .ref x5)]) C dX10_create_183 (pm_nl X (by decide)) rfl ?_
        cases hf
        exact pa_join K0 (pm_sub [1, 2, 5, 6, 0] rfl (ih.2.2.2.2.2.1 x0 x1 x4 x5 0 h (m0.trans (pm_S3.le K0)) hi))
      · have hf := pm_ie hf c14
        refine pm_aload_n C dX10_create_57 rfl rfl ?_
        obtain ⟨k15, hf⟩ := pm_if hf
        obtain ⟨v16, e17, hf⟩ := pm_bd hf
        refine pm_getR C dX10_create_58 flX10_99 rfl k15 e17 ?_
        refine pm_iload C dX10_create_61 rfl ?_
        refine pm_bipush (v := 6) C dX10_create_63 (by decide) ?_
        refine pm_imul C dX10_create_65 ?_
        refine pm_iconst (v := 0) C dX10_create_66 (by decide) ?_
        refine pm_iadd C dX10_create_67 ?_
        obtain ⟨v18, e19, hf⟩ := pm_bd hf
        refine pm_callS (as := [.ref v16, .int ((x6 * 6) + 0)]) (st := []) C X dX10_create_68 lnX10_112 myX12_item_ stX12_item_ ⟨by decide, by decide⟩ rfl rfl (Nat.le_of_ble_eq_true rfl) kc1 kc2 (ctX12_item_ e19 ?_)
        show pm_G g 71 [(0, .ref x0), (1, .ref x1), (2, .ref x2), (3, .int x3), (4, .ref x4), (5, .ref x5), (6, .int x6)] [.long v18] h (pm_sz h - pm_sz h0) (pm_us h - pm_us h0)
        refine pm_l2i C dX10_create_71 ?_
        refine pm_istore (lv' := [(7, .int v18.toInt32), (0, .ref x0), (1, .ref x1), (2, .ref x2), (3, .int x3), (4, .ref x4), (5, .ref x5), (6, .int x6)]) C dX10_create_72 (pm_nl X (by decide)) rfl ?_
        refine pm_aload_n C dX10_create_74 rfl rfl ?_
        refine pm_getR C dX10_create_75 flX10_99 rfl k15 e17 ?_
        refine pm_iload C dX10_create_78 rfl ?_
        refine pm_bipush (v := 6) C dX10_create_80 (by decide) ?_
        refine pm_imul C dX10_create_82 ?_
        refine pm_iconst (v := 1) C dX10_create_83 (by decide) ?_
        refine pm_iadd C dX10_create_84 ?_
        obtain ⟨v20, e21, hf⟩ := pm_bd hf
        refine pm_callS (as := [.ref v16, .int ((x6 * 6) + 1)]) (st := []) C X dX10_create_85 lnX10_112 myX12_item_ stX12_item_ ⟨by decide, by decide⟩ rfl rfl (Nat.le_of_ble_eq_true rfl) kc1 kc2 (ctX12_item_ e21 ?_)
        show pm_G g 88 [(7, .int v18.toInt32), (0, .ref x0), (1, .ref x1), (2, .ref x2), (3, .int x3), (4, .ref x4), (5, .ref x5), (6, .int x6)] [.long v20] h (pm_sz h - pm_sz h0) (pm_us h - pm_us h0)
        refine pm_l2i C dX10_create_88 ?_
        refine pm_istore (lv' := [(8, .int v20.toInt32), (7, .int v18.toInt32), (0, .ref x0), (1, .ref x1), (2, .ref x2), (3, .int x3), (4, .ref x4), (5, .ref x5), (6, .int x6)]) C dX10_create_89 (pm_nl X (by decide)) rfl ?_
        refine pm_aload_n C dX10_create_91 rfl rfl ?_
        refine pm_iconst (v := 2) C dX10_create_92 (by decide) ?_
        refine pm_iload C dX10_create_93 rfl ?_
        refine pm_imul C dX10_create_95 ?_
        refine pm_iconst (v := 1) C dX10_create_96 (by decide) ?_
        refine pm_iadd C dX10_create_97 ?_
        obtain ⟨v22, e23, hf⟩ := pm_bd hf
        refine pm_callS (as := [.ref x2, .int ((2 * x6) + 1)]) (st := []) C X dX10_create_98 lnX10_104 myX12_item stX12_item ⟨by decide, by decide⟩ rfl rfl (Nat.le_of_ble_eq_true rfl) kc1 kc2 (ctX12_item e23 ?_)
        show pm_G g 101 [(8, .int v20.toInt32), (7, .int v18.toInt32), (0, .ref x0), (1, .ref x1), (2, .ref x2), (3, .int x3), (4, .ref x4), (5, .ref x5), (6, .int x6)] [.int v22] h (pm_sz h - pm_sz h0) (pm_us h - pm_us h0)
        refine pm_istore (lv' := [(9, .int v22), (8, .int v20.toInt32), (7, .int v18.toInt32), (0, .ref x0), (1, .ref x1), (2, .ref x2), (3, .int x3), (4, .ref x4), (5, .ref x5), (6, .int x6)]) C dX10_create_101 (pm_nl X (by decide)) rfl ?_
        refine pm_aload_n C dX10_create_103 rfl rfl ?_
        refine pm_iconst (v := 2) C dX10_create_104 (by decide) ?_
        refine pm_iload C dX10_create_105 rfl ?_
        refine pm_imul C dX10_create_107 ?_
        obtain ⟨v24, e25, hf⟩ := pm_bd hf
        refine pm_callS (as := [.ref x2, .int (2 * x6)]) (st := []) C X dX10_create_108 lnX10_104 myX12_item stX12_item ⟨by decide, by decide⟩ rfl rfl (Nat.le_of_ble_eq_true rfl) kc1 kc2 (ctX12_item e25 ?_)
        show pm_G g 111 [(9, .int v22), (8, .int v20.toInt32), (7, .int v18.toInt32), (0, .ref x0), (1, .ref x1), (2, .ref x2), (3, .int x3), (4, .ref x4), (5, .ref x5), (6, .int x6)] [.int v24] h (pm_sz h - pm_sz h0) (pm_us h - pm_us h0)
        refine pm_iconst (v := (-1)) C dX10_create_111 (by decide) ?_
        refine pm_icmp_ne (tgt := 141) C dX10_create_112 (by decide) (fun c26 => ?_) (fun c26 => ?_)
        · have hf := pm_ie hf c26
          refine pm_aload C dX10_create_141 rfl ?_
          refine pm_iload C dX10_create_143 rfl ?_
          obtain ⟨k27, hf⟩ := pm_if hf
          obtain ⟨v28, e29, hf⟩ := pm_bd hf
          refine pm_callV (as := [.int v18.toInt32]) (st := []) C X dX10_create_145 lnX10_182 myX4_numbers viX4_numbers ⟨by decide, by decide⟩ rfl rfl k27 (Nat.le_of_ble_eq_true rfl) kc1 kc2 (ctX4_numbers e29 ?_)
          show pm_G g 148 [(9, .int v22), (8, .int v20.toInt32), (7, .int v18.toInt32), (0, .ref x0), (1, .ref x1), (2, .ref x2), (3, .int x3), (4, .ref x4), (5, .ref x5), (6, .int x6)] [.ref v28] h (pm_sz h - pm_sz h0) (pm_us h - pm_us h0)
          refine pm_aload C dX10_create_148 rfl ?_
          refine pm_iload C dX10_create_150 rfl ?_
          obtain ⟨v30, e31, hf⟩ := pm_bd hf
          refine pm_callS (as := [.ref x5, .int v18.toInt32]) (st := [.ref v28]) C X dX10_create_152 lnX10_104 myX12_item stX12_item ⟨by decide, by decide⟩ rfl rfl (Nat.le_of_ble_eq_true rfl) kc1 kc2 (ctX12_item e31 ?_)
          show pm_G g 155 [(9, .int v22), (8, .int v20.toInt32), (7, .int v18.toInt32), (0, .ref x0), (1, .ref x1), (2, .ref x2), (3, .int x3), (4, .ref x4), (5, .ref x5), (6, .int x6)] [.int v30, .ref v28] h (pm_sz h - pm_sz h0) (pm_us h - pm_us h0)
          refine pm_iload C dX10_create_155 rfl ?_
          obtain ⟨v32, e33, hf⟩ := pm_bd hf
          refine pm_callS (as := [.ref v28, .int v30, .int v22]) (st := []) C X dX10_create_157 lnX10_184 myX12_setItem stX12_setItem ⟨by decide, by decide⟩ rfl rfl (Nat.le_of_ble_eq_true rfl) kc1 kc2 (ctX12_setItem e33 ?_)
          have K34 := pm_S3.trans (kpX12_setItem e33) K0
          show pm_G g 160 [(9, .int v22), (8, .int v20.toInt32), (7, .int v18.toInt32), (0, .ref x0), (1, .ref x1), (2, .ref x2), (3, .int x3), (4, .ref x4), (5, .ref x5), (6, .int x6)] [] v32 (pm_sz h - pm_sz h0) (pm_us h - pm_us h0)
          refine pm_aload C dX10_create_160 rfl ?_
          refine pm_iload C dX10_create_162 rfl ?_
          refine pm_aload C dX10_create_164 rfl ?_
          refine pm_iload C dX10_create_166 rfl ?_
          obtain ⟨v35, e36, hf⟩ := pm_bd hf
          refine pm_callS (as := [.ref x5, .int v18.toInt32]) (st := [.int v18.toInt32, .ref x5]) C X dX10_create_168 lnX10_104 myX12_item stX12_item ⟨by decide, by decide⟩ rfl rfl (Nat.le_of_ble_eq_true rfl) kc1 kc2 (ctX12_item e36 ?_)
          show pm_G g 171 [(9, .int v22), (8, .int v20.toInt32), (7, .int v18.toInt32), (0, .ref x0), (1, .ref x1), (2, .ref x2), (3, .int x3), (4, .ref x4), (5, .ref x5), (6, .int x6)] [.int v35, .int v18.toInt32, .ref x5] v32 (pm_sz h - pm_sz h0) (pm_us h - pm_us h0)
          refine pm_iconst (v := 1) C dX10_create_171 (by decide) ?_
          refine pm_iadd C dX10_create_172 ?_
          obtain ⟨v37, e38, hf⟩ := pm_bd hf
          refine pm_callS (as := [.ref x5, .int v18.toInt32, .int (v35 + 1)]) (st := []) C X dX10_create_173 lnX10_184 myX12_setItem stX12_setItem ⟨by decide, by decide⟩ rfl rfl (Nat.le_of_ble_eq_true rfl) kc1 kc2 (ctX12_setItem e38 ?_)
          have K39 := pm_S3.trans (kpX12_setItem e38) K34
          show pm_G g 176 [(9, .int v22), (8, .int v20.toInt32), (7, .int v18.toInt32), (0, .ref x0), (1, .ref x1), (2, .ref x2), (3, .int x3), (4, .ref x4), (5, .ref x5), (6, .int x6)] [] v37 (pm_sz h - pm_sz h0) (pm_us h - pm_us h0)
          obtain ⟨y40, e41, hf⟩ := pm_lt hf
          refine pm_iinc (v := y40) (lv' := [(6, .int y40), (9, .int v22), (8, .int v20.toInt32), (7, .int v18.toInt32), (0, .ref x0), (1, .ref x1), (2, .ref x2), (3, .int x3), (4, .ref x4), (5, .ref x5)]) C dX10_create_176 rfl ((congrArg (x6 + ·) (by decide : Int32.ofInt 1 = 1)).trans e41) (pm_nl X (by decide)) rfl ?_
          refine pm_goto (tgt := 51) C dX10_create_179 (by decide) ?_
          cases hf
          exact pa_join K39 (pm_sub [4, 5, 6, 7, 8, 9, 0] rfl (ih.2.2.2.2.1 x0 x1 x2 x3 x4 x5 y40 v37 (m0.trans (pm_S3.le K39)) hi))
        · have hf := pm_it hf c26
          refine pm_aload_n C dX10_create_115 rfl rfl ?_
          refine pm_aload_n C dX10_create_116 rfl rfl ?_
          obtain ⟨k42, hf⟩ := pm_if hf
          obtain ⟨v43, e44, hf⟩ := pm_bd hf
          refine pm_getR C dX10_create_117 flX10_79 rfl k42 e44 ?_
          cases hf
          refine pa_newo (hb := h) (h0 := h0) C X K0 m0 dX10_create_120 pm_Cl0 ckX10_37 cc0.1 cc0.2 ((mlX10_create n).2.2.2.2.2.2.1 x0 x1 x2 x3 x4 x5 x6 v18.toInt32 v20.toInt32 v22 (pm_sz h) v43 x0 (pm_new h 0 0) hi) ?_
          exact pm_sub [3, 4, 5, 6, 7, 8, 9, 2, 1, 0] rfl (ih.2.2.2.2.2.2.1 x0 x1 x2 x3 x4 x5 x6 v18.toInt32 v20.toInt32 v22 (pm_sz h) v43 x0 (pm_new h 0 0) ((m0.trans (pm_S3.le K0)).trans (pm_Le_new _ _ _)) hi)
    refine ⟨fun x0 x1 x4 x5 x6 h m0 hf => ?_, ?_⟩
    · have le0 := (mlX10_create (n + 1)).2.2.2.2.2.1 x0 x1 x4 x5 x6 h hf
      have kc1 := Nat.sub_le_sub_right le0.1 (pm_sz h0)
      have kc2 := Nat.sub_le_sub_right le0.2 (pm_us h0)
      have K0 := pm_S3.rf h
      obtain ⟨y, hf, hi⟩ := pm_iter_s hf
      have hf : tX10_create_185 x0 x1 x4 x5 x6 h = some y := hf
      unfold tX10_create_185 at hf
      refine pm_iload C dX10_create_185 rfl ?_
      refine pm_aload_n C dX10_create_187 rfl rfl ?_
      obtain ⟨k45, hf⟩ := pm_if hf
      obtain ⟨v46, e47, hf⟩ := pm_bd hf
      refine pm_getR C dX10_create_188 flX10_144 rfl k45 e47 ?_
      obtain ⟨k48, hf⟩ := pm_if hf
      refine pm_alen (t := 6) C dX10_create_191 (by decide) k48 rfl ?_
      refine pm_icmp_ge (tgt := 230) C dX10_create_192 (by decide) (fun c49 => ?_) (fun c49 => ?_)
      · have hf := pm_it hf c49
        refine pm_aload C dX10_create_230 rfl ?_
        refine pm_iconst (v := 1) C dX10_create_232 (by decide) ?_
        obtain ⟨k50, hf⟩ := pm_if hf
        obtain ⟨u51, hf⟩ := pm_if hf
        refine pm_iald C dX10_create_233 k50 u51 rfl ?_
        obtain ⟨y52, e53, hf⟩ := pm_lt hf
        refine pm_topI e53 ?_
        refine pm_istore (lv' := [(6, .int y52), (0, .ref x0), (1, .ref x1), (4, .ref x4), (5, .ref x5)]) C dX10_create_234 (pm_nl X (by decide)) rfl ?_
        cases hf
        exact pa_join K0 (pm_sub [1, 2, 3, 4, 0] rfl (ih.2.2.2.2.2.2.2.1 x0 x1 x4 x5 y52 h (m0.trans (pm_S3.le K0)) hi))
      · have hf := pm_ie hf c49
        refine pm_aload C dX10_create_195 rfl ?_
        obtain ⟨k54, hf⟩ := pm_if hf
        obtain ⟨v55, e56, hf⟩ := pm_bd hf
        refine pm_getR C dX10_create_197 flX10_188 rfl k54 e56 ?_
        refine pm_aload C dX10_create_200 rfl ?_
        refine pm_iconst (v := 0) C dX10_create_202 (by decide) ?_
        obtain ⟨k57, hf⟩ := pm_if hf
        obtain ⟨u58, hf⟩ := pm_if hf
        refine pm_iald C dX10_create_203 k57 u58 rfl ?_
        refine pm_iload C dX10_create_204 rfl ?_
        refine pm_iadd C dX10_create_206 ?_
        refine pm_aload_n C dX10_create_207 rfl rfl ?_
        refine pm_aload C dX10_create_208 rfl ?_
        refine pm_aload_n C dX10_create_210 rfl rfl ?_
        refine pm_getR C dX10_create_211 flX10_144 rfl k45 e47 ?_
        refine pm_iload C dX10_create_214 rfl ?_
        obtain ⟨u59, hf⟩ := pm_if hf
        obtain ⟨v60, e61, hf⟩ := pm_bd hf
        refine pm_ald (t := 6) C dX10_create_216 (by decide) rfl k48 u59 e61 ?_
        refine pm_iconst (v := (-1)) C dX10_create_217 (by decide) ?_
        obtain ⟨k62, hf⟩ := pm_if hf
        obtain ⟨v63, e64, hf⟩ := pm_bd hf
        refine pm_callV (as := [.ref x4, .ref v60, .int (-1)]) (st := [.int ((pm_I h x5 (0 : Int32).toNatClampNeg) + x6), .ref v55]) C X dX10_create_218 lnX10_178 myX10_addFunction viX10_addFunction ⟨by decide, by decide⟩ rfl rfl k62 (Nat.le_of_ble_eq_true rfl) kc1 kc2 (ctX10_addFunction e64 ?_)
        have K65 := pm_S3.trans (kpX10_addFunction e64) K0
        show pm_G g 221 [(0, .ref x0), (1, .ref x1), (4, .ref x4), (5, .ref x5), (6, .int x6)] [.int v63.1, .int ((pm_I h x5 (0 : Int32).toNatClampNeg) + x6), .ref v55] v63.2 (pm_sz h - pm_sz h0) (pm_us h - pm_us h0)
        obtain ⟨v66, e67, hf⟩ := pm_bd hf
        refine pm_callS (as := [.ref v55, .int ((pm_I h x5 (0 : Int32).toNatClampNeg) + x6), .int v63.1]) (st := []) C X dX10_create_221 lnX10_184 myX12_setItem stX12_setItem ⟨by decide, by decide⟩ rfl rfl (Nat.le_of_ble_eq_true rfl) kc1 kc2 (ctX12_setItem e67 ?_)
        have K68 := pm_S3.trans (kpX12_setItem e67) K65
        show pm_G g 224 [(0, .ref x0), (1, .ref x1), (4, .ref x4), (5, .ref x5), (6, .int x6)] [] v66 (pm_sz h - pm_sz h0) (pm_us h - pm_us h0)
        obtain ⟨y69, e70, hf⟩ := pm_lt hf
        refine pm_iinc (v := y69) (lv' := [(6, .int y69), (0, .ref x0), (1, .ref x1), (4, .ref x4), (5, .ref x5)]) C dX10_create_224 rfl ((congrArg (x6 + ·) (by decide : Int32.ofInt 1 = 1)).trans e70) (pm_nl X (by decide)) rfl ?_
        refine pm_goto (tgt := 185) C dX10_create_227 (by decide) ?_
        cases hf
        exact pa_join K68 (pm_sub [1, 2, 3, 4, 0] rfl (ih.2.2.2.2.2.1 x0 x1 x4 x5 y69 v66 (m0.trans (pm_S3.le K68)) hi))
    refine ⟨fun x0 x1 x2 x3 x4 x5 x6 x7 x8 x9 s0 s1 s2 h m0 hf => ?_, ?_⟩
    · have le0 := (mlX10_create (n + 1)).2.2.2.2.2.2.1 x0 x1 x2 x3 x4 x5 x6 x7 x8 x9 s0 s1 s2 h hf
      have kc1 := Nat.sub_le_sub_right le0.1 (pm_sz h0)
      have kc2 := Nat.sub_le_sub_right le0.2 (pm_us h0)
      have K0 := pm_S3.rf h
      obtain ⟨y, hf, hi⟩ := pm_iter_s hf
      have hf : tX10_create_123 x0 x1 x2 x3 x4 x5 x6 x7 x8 x9 s0 s1 s2 h = some y := hf
      unfold tX10_create_123 at hf
      refine pm_dup C dX10_create_123 rfl ?_
      refine pm_aload_n C dX10_create_124 rfl rfl ?_
      refine pm_iload C dX10_create_125 rfl ?_
      obtain ⟨k71, hf⟩ := pm_if hf
      obtain ⟨v72, e73, hf⟩ := pm_bd hf
      cases hf
      refine pm_callV (as := [.int x8]) (st := [.ref s0, .ref s0, .ref s1, .ref s2]) C X dX10_create_127 lnX10_123 myX7_shape viX7_shape ⟨by decide, by decide⟩ rfl rfl k71 (Nat.le_of_ble_eq_true rfl) (pa_le1 K0 m0 (moX7_shape e73) ((mlX10_create n).2.2.2.2.2.2.2.2.1 x0 x1 x2 x3 x4 x5 x6 x7 x9 v72.1 s0 s0 s1 s2 v72.2 hi)) (pa_le2 K0 m0 (moX7_shape e73) ((mlX10_create n).2.2.2.2.2.2.2.2.1 x0 x1 x2 x3 x4 x5 x6 x7 x9 v72.1 s0 s0 s1 s2 v72.2 hi)) (ctX7_shape e73 ?_)
      show pm_G g 130 [(0, .ref x0), (1, .ref x1), (2, .ref x2), (3, .int x3), (4, .ref x4), (5, .ref x5), (6, .int x6), (7, .int x7), (8, .int x8), (9, .int x9)] [.ref v72.1, .ref s0, .ref s0, .ref s1, .ref s2] v72.2 (pm_sz h - pm_sz h0 + (pm_sz v72.2 - pm_sz h)) (pm_us h - pm_us h0 + (pm_us v72.2 - pm_us h))
      refine pa_fin K0 m0 (moX7_shape e73) ?_
      exact pm_sub [0, 1, 2, 3, 4, 5, 6, 7, 9] rfl (ih.2.2.2.2.2.2.2.2.1 x0 x1 x2 x3 x4 x5 x6 x7 x9 v72.1 s0 s0 s1 s2 v72.2 ((m0.trans (pm_S3.le K0)).trans (moX7_shape e73)) hi)
    refine ⟨fun x0 x1 x4 x5 x6 h m0 hf => ?_, ?_⟩
    · have le0 := (mlX10_create (n + 1)).2.2.2.2.2.2.2.1 x0 x1 x4 x5 x6 h hf
      have kc1 := Nat.sub_le_sub_right le0.1 (pm_sz h0)
      have kc2 := Nat.sub_le_sub_right le0.2 (pm_us h0)
      have K0 := pm_S3.rf h
      obtain ⟨y, hf, hi⟩ := pm_iter_s hf
      have hf : tX10_create_236 x0 x1 x4 x5 x6 h = some y := hf
      unfold tX10_create_236 at hf
      refine pm_iload C dX10_create_236 rfl ?_
      refine pm_aload C dX10_create_238 rfl ?_
      obtain ⟨k74, hf⟩ := pm_if hf
      obtain ⟨v75, e76, hf⟩ := pm_bd hf
      refine pm_getR C dX10_create_240 flX10_191 rfl k74 e76 ?_
      obtain ⟨k77, hf⟩ := pm_if hf
      refine pm_alen (t := 2) C dX10_create_243 (by decide) k77 rfl ?_
      refine pm_icmp_ge (tgt := 297) C dX10_create_244 (by decide) (fun c78 => ?_) (fun c78 => ?_)
      · have hf := pm_it hf c78
        refine pm_aload C dX10_create_297 rfl ?_
        refine pm_iconst (v := 2) C dX10_create_299 (by decide) ?_
        obtain ⟨k79, hf⟩ := pm_if hf
        obtain ⟨u80, hf⟩ := pm_if hf
        refine pm_iald C dX10_create_300 k79 u80 rfl ?_
        obtain ⟨y81, e82, hf⟩ := pm_lt hf
        refine pm_topI e82 ?_
        refine pm_istore (lv' := [(6, .int y81), (0, .ref x0), (1, .ref x1), (4, .ref x4), (5, .ref x5)]) C dX10_create_301 (pm_nl X (by decide)) rfl ?_
        cases hf
        exact pa_join K0 (pm_sub [1, 2, 3, 4, 0] rfl (ih.2.2.2.2.2.2.2.2.2.1 x0 x1 x4 x5 y81 h (m0.trans (pm_S3.le K0)) hi))
      · have hf := pm_ie hf c78
        refine pm_aload_n C dX10_create_247 rfl rfl ?_
        refine pm_iconst (v := 1) C dX10_create_248 (by decide) ?_
        refine pm_iload C dX10_create_249 rfl ?_
        refine pm_iconst (v := 1) C dX10_create_251 (by decide) ?_
        obtain ⟨k83, hf⟩ := pm_if hf
        obtain ⟨v84, e85, hf⟩ := pm_bd hf
        refine pm_callV (as := [.int 1, .int x6, .int 1]) (st := []) C X dX10_create_252 lnX10_174 myX7_of viX7_of ⟨by decide, by decide⟩ rfl rfl k83 (Nat.le_of_ble_eq_true rfl) kc1 kc2 (ctX7_of e85 ?_)
        show pm_G g 255 [(0, .ref x0), (1, .ref x1), (4, .ref x4), (5, .ref x5), (6, .int x6)] [.long v84] h (pm_sz h - pm_sz h0) (pm_us h - pm_us h0)
        refine pm_l2i C dX10_create_255 ?_
        refine pm_istore (lv' := [(7, .int v84.toInt32), (0, .ref x0), (1, .ref x1), (4, .ref x4), (5, .ref x5), (6, .int x6)]) C dX10_create_256 (pm_nl X (by decide)) rfl ?_
        refine pm_aload C dX10_create_258 rfl ?_
        refine pm_getR C dX10_create_260 flX10_191 rfl k74 e76 ?_
        refine pm_iload C dX10_create_263 rfl ?_
        refine pm_aload_n C dX10_create_265 rfl rfl ?_
        obtain ⟨k86, hf⟩ := pm_if hf
        obtain ⟨v87, e88, hf⟩ := pm_bd hf
        refine pm_getR C dX10_create_266 flX10_12 rfl k86 e88 ?_
        refine pm_iload C dX10_create_269 rfl ?_
        refine pm_aload_n C dX10_create_271 rfl rfl ?_
        refine pm_iconst (v := 1) C dX10_create_272 (by decide) ?_
        refine pm_iload C dX10_create_273 rfl ?_
        refine pm_iconst (v := 3) C dX10_create_275 (by decide) ?_
        obtain ⟨v89, e90, hf⟩ := pm_bd hf
        refine pm_callV (as := [.int 1, .int x6, .int 3]) (st := [.int v84.toInt32, .ref v87, .int x6, .ref v75]) C X dX10_create_276 lnX10_174 myX7_of viX7_of ⟨by decide, by decide⟩ rfl rfl k83 (Nat.le_of_ble_eq_true rfl) kc1 kc2 (ctX7_of e90 ?_)
        show pm_G g 279 [(7, .int v84.toInt32), (0, .ref x0), (1, .ref x1), (4, .ref x4), (5, .ref x5), (6, .int x6)] [.long v89, .int v84.toInt32, .ref v87, .int x6, .ref v75] h (pm_sz h - pm_sz h0) (pm_us h - pm_us h0)
        refine pm_aload_n C dX10_create_279 rfl rfl ?_
        refine pm_iconst (v := 1) C dX10_create_280 (by decide) ?_
        refine pm_iload C dX10_create_281 rfl ?_
        refine pm_iconst (v := 4) C dX10_create_283 (by decide) ?_
        obtain ⟨v91, e92, hf⟩ := pm_bd hf
        refine pm_callV (as := [.int 1, .int x6, .int 4]) (st := [.long v89, .int v84.toInt32, .ref v87, .int x6, .ref v75]) C X dX10_create_284 lnX10_174 myX7_of viX7_of ⟨by decide, by decide⟩ rfl rfl k83 (Nat.le_of_ble_eq_true rfl) kc1 kc2 (ctX7_of e92 ?_)
        show pm_G g 287 [(7, .int v84.toInt32), (0, .ref x0), (1, .ref x1), (4, .ref x4), (5, .ref x5), (6, .int x6)] [.long v91, .long v89, .int v84.toInt32, .ref v87, .int x6, .ref v75] h (pm_sz h - pm_sz h0) (pm_us h - pm_us h0)
        obtain ⟨k93, hf⟩ := pm_if hf
        obtain ⟨v94, e95, hf⟩ := pm_bd hf
        cases hf
        refine pm_callV (as := [.int v84.toInt32, .long v89, .long v91]) (st := [.int x6, .ref v75]) C X dX10_create_287 lnX10_193 myX11_create viX11_create ⟨by decide, by decide⟩ rfl rfl k93 (Nat.le_of_ble_eq_true rfl) (pa_le1 K0 m0 (moX11_create e95) ((mlX10_create n).2.2.2.2.2.2.2.2.2.2.1 x0 x1 x4 x5 x6 v94.1 x6 v75 v94.2 hi)) (pa_le2 K0 m0 (moX11_create e95) ((mlX10_create n).2.2.2.2.2.2.2.2.2.2.1 x0 x1 x4 x5 x6 v94.1 x6 v75 v94.2 hi)) (ctX11_create e95 ?_)
        show pm_G g 290 [(7, .int v84.toInt32), (0, .ref x0), (1, .ref x1), (4, .ref x4), (5, .ref x5), (6, .int x6)] [.int v94.1, .int x6, .ref v75] v94.2 (pm_sz h - pm_sz h0 + (pm_sz v94.2 - pm_sz h)) (pm_us h - pm_us h0 + (pm_us v94.2 - pm_us h))
        refine pa_fin K0 m0 (moX11_create e95) ?_
        exact pm_sub [1, 2, 3, 4, 5] rfl (ih.2.2.2.2.2.2.2.2.2.2.1 x0 x1 x4 x5 x6 v94.1 x6 v75 v94.2 ((m0.trans (pm_S3.le K0)).trans (moX11_create e95)) hi)
    refine ⟨fun x0 x1 x2 x3 x4 x5 x6 x7 x9 s0 s1 s2 s3 s4 h m0 hf => ?_, ?_⟩
    · have le0 := (mlX10_create (n + 1)).2.2.2.2.2.2.2.2.1 x0 x1 x2 x3 x4 x5 x6 x7 x9 s0 s1 s2 s3 s4 h hf
      have kc1 := Nat.sub_le_sub_right le0.1 (pm_sz h0)
      have kc2 := Nat.sub_le_sub_right le0.2 (pm_us h0)
      have K0 := pm_S3.rf h
      obtain ⟨y, hf, hi⟩ := pm_iter_s hf
      have hf : tX10_create_130 x0 x1 x2 x3 x4 x5 x6 x7 x9 s0 s1 s2 s3 s4 h = some y := hf
      unfold tX10_create_130 at hf
      refine pm_iconst (v := 0) C dX10_create_130 (by decide) ?_
      obtain ⟨v96, e97, hf⟩ := pm_bd hf
      cases hf
      refine pm_callI (as := [.ref s0, .int 0]) (st := [.ref s2, .ref s3, .ref s4]) C X dX10_create_131 lnX10_83 myX0_init iiX0_init ⟨by decide, by decide⟩ rfl rfl (Nat.le_of_ble_eq_true rfl) (pa_le1 K0 m0 (moX0_init e97) ((mlX10_create n).2.2.2.2.2.2.2.2.2.2.2.1 x0 x1 x2 x3 x4 x5 x6 x7 x9 s2 s3 s4 v96 hi)) (pa_le2 K0 m0 (moX0_init e97) ((mlX10_create n).2.2.2.2.2.2.2.2.2.2.2.1 x0 x1 x2 x3 x4 x5 x6 x7 x9 s2 s3 s4 v96 hi)) (ctX0_init e97 ?_)
      show pm_G g 134 [(0, .ref x0), (1, .ref x1), (2, .ref x2), (3, .int x3), (4, .ref x4), (5, .ref x5), (6, .int x6), (7, .int x7), (9, .int x9)] [.ref s2, .ref s3, .ref s4] v96 (pm_sz h - pm_sz h0 + (pm_sz v96 - pm_sz h)) (pm_us h - pm_us h0 + (pm_us v96 - pm_us h))
      refine pa_fin K0 m0 (moX0_init e97) ?_
      exact pm_sub [0, 1, 2, 3, 4, 5, 6, 7, 8] rfl (ih.2.2.2.2.2.2.2.2.2.2.2.1 x0 x1 x2 x3 x4 x5 x6 x7 x9 s2 s3 s4 v96 ((m0.trans (pm_S3.le K0)).trans (moX0_init e97)) hi)
    refine ⟨fun x0 x1 x4 x5 x6 h m0 hf => ?_, ?_⟩
    · have le0 := (mlX10_create (n + 1)).2.2.2.2.2.2.2.2.2.1 x0 x1 x4 x5 x6 h hf
      have kc1 := Nat.sub_le_sub_right le0.1 (pm_sz h0)
      have kc2 := Nat.sub_le_sub_right le0.2 (pm_us h0)
      have K0 := pm_S3.rf h
      obtain ⟨y, hf, hi⟩ := pm_iter_s hf
      have hf : tX10_create_303 x0 x1 x4 x5 x6 h = some y := hf
      unfold tX10_create_303 at hf
      refine pm_iload C dX10_create_303 rfl ?_
      refine pm_aload C dX10_create_305 rfl ?_
      obtain ⟨k98, hf⟩ := pm_if hf
      obtain ⟨v99, e100, hf⟩ := pm_bd hf
      refine pm_getR C dX10_create_307 flX10_197 rfl k98 e100 ?_
      obtain ⟨k101, hf⟩ := pm_if hf
      refine pm_alen (t := 2) C dX10_create_310 (by decide) k101 rfl ?_
      refine pm_icmp_ge (tgt := 351) C dX10_create_311 (by decide) (fun c102 => ?_) (fun c102 => ?_)
      · have hf := pm_it hf c102
        refine pm_aload C dX10_create_351 rfl ?_
        refine pm_iconst (v := 3) C dX10_create_353 (by decide) ?_
        obtain ⟨k103, hf⟩ := pm_if hf
        obtain ⟨u104, hf⟩ := pm_if hf
        refine pm_iald C dX10_create_354 k103 u104 rfl ?_
        obtain ⟨y105, e106, hf⟩ := pm_lt hf
        refine pm_topI e106 ?_
        refine pm_istore (lv' := [(6, .int y105), (0, .ref x0), (1, .ref x1), (4, .ref x4), (5, .ref x5)]) C dX10_create_355 (pm_nl X (by decide)) rfl ?_
        cases hf
        exact pa_join K0 (pm_sub [1, 2, 3, 0] rfl (ih.2.2.2.2.2.2.2.2.2.2.2.2.1 x0 x1 x4 y105 h (m0.trans (pm_S3.le K0)) hi))
      · have hf := pm_ie hf c102
        refine pm_aload C dX10_create_314 rfl ?_
        refine pm_getR C dX10_create_316 flX10_197 rfl k98 e100 ?_
        refine pm_iload C dX10_create_319 rfl ?_
        refine pm_aload_n C dX10_create_321 rfl rfl ?_
        obtain ⟨k107, hf⟩ := pm_if hf
        obtain ⟨v108, e109, hf⟩ := pm_bd hf
        refine pm_getR C dX10_create_322 flX10_21 rfl k107 e109 ?_
        refine pm_aload_n C dX10_create_325 rfl rfl ?_
        refine pm_iconst (v := 2) C dX10_create_326 (by decide) ?_
        refine pm_iload C dX10_create_327 rfl ?_
        refine pm_iconst (v := 3) C dX10_create_329 (by decide) ?_
        obtain ⟨k110, hf⟩ := pm_if hf
        obtain ⟨v111, e112, hf⟩ := pm_bd hf
        refine pm_callV (as := [.int 2, .int x6, .int 3]) (st := [.ref v108, .int x6, .ref v99]) C X dX10_create_330 lnX10_174 myX7_of viX7_of ⟨by decide, by decide⟩ rfl rfl k110 (Nat.le_of_ble_eq_true rfl) kc1 kc2 (ctX7_of e112 ?_)
        show pm_G g 333 [(0, .ref x0), (1, .ref x1), (4, .ref x4), (5, .ref x5), (6, .int x6)] [.long v111, .ref v108, .int x6, .ref v99] h (pm_sz h - pm_sz h0) (pm_us h - pm_us h0)
        refine pm_aload_n C dX10_create_333 rfl rfl ?_
        refine pm_iconst (v := 2) C dX10_create_334 (by decide) ?_
        refine pm_iload C dX10_create_335 rfl ?_
        refine pm_iconst (v := 4) C dX10_create_337 (by decide) ?_
        obtain ⟨v113, e114, hf⟩ := pm_bd hf
        refine pm_callV (as := [.int 2, .int x6, .int 4]) (st := [.long v111, .ref v108, .int x6, .ref v99]) C X dX10_create_338 lnX10_174 myX7_of viX7_of ⟨by decide, by decide⟩ rfl rfl k110 (Nat.le_of_ble_eq_true rfl) kc1 kc2 (ctX7_of e114 ?_)
        show pm_G g 341 [(0, .ref x0), (1, .ref x1), (4, .ref x4), (5, .ref x5), (6, .int x6)] [.long v113, .long v111, .ref v108, .int x6, .ref v99] h (pm_sz h - pm_sz h0) (pm_us h - pm_us h0)
        obtain ⟨k115, hf⟩ := pm_if hf
        obtain ⟨v116, e117, hf⟩ := pm_bd hf
        cases hf
        refine pm_callV (as := [.long v111, .long v113]) (st := [.int x6, .ref v99]) C X dX10_create_341 lnX10_199 myX6_create viX6_create ⟨by decide, by decide⟩ rfl rfl k115 (Nat.le_of_ble_eq_true rfl) (pa_le1 K0 m0 (moX6_create e117) ((mlX10_create n).2.2.2.2.2.2.2.2.2.2.2.2.2.1 x0 x1 x4 x5 x6 v116.1 x6 v99 v116.2 hi)) (pa_le2 K0 m0 (moX6_create e117) ((mlX10_create n).2.2.2.2.2.2.2.2.2.2.2.2.2.1 x0 x1 x4 x5 x6 v116.1 x6 v99 v116.2 hi)) (ctX6_create e117 ?_)
        show pm_G g 344 [(0, .ref x0), (1, .ref x1), (4, .ref x4), (5, .ref x5), (6, .int x6)] [.int v116.1, .int x6, .ref v99] v116.2 (pm_sz h - pm_sz h0 + (pm_sz v116.2 - pm_sz h)) (pm_us h - pm_us h0 + (pm_us v116.2 - pm_us h))
        refine pa_fin K0 m0 (moX6_create e117) ?_
        exact pm_sub [0, 1, 2, 3, 4] rfl (ih.2.2.2.2.2.2.2.2.2.2.2.2.2.1 x0 x1 x4 x5 x6 v116.1 x6 v99 v116.2 ((m0.trans (pm_S3.le K0)).trans (moX6_create e117)) hi)
    refine ⟨fun x0 x1 x4 x5 x6 s0 s1 s2 h m0 hf => ?_, ?_⟩
    · have le0 := (mlX10_create (n + 1)).2.2.2.2.2.2.2.2.2.2.1 x0 x1 x4 x5 x6 s0 s1 s2 h hf
      have kc1 := Nat.sub_le_sub_right le0.1 (pm_sz h0)
      have kc2 := Nat.sub_le_sub_right le0.2 (pm_us h0)
      have K0 := pm_S3.rf h
      obtain ⟨y, hf, hi⟩ := pm_iter_s hf
      have hf : tX10_create_290 x0 x1 x4 x5 x6 s0 s1 s2 h = some y := hf
      unfold tX10_create_290 at hf
      obtain ⟨k118, hf⟩ := pm_if hf
      obtain ⟨u119, hf⟩ := pm_if hf
      refine pm_iast C dX10_create_290 k118 u119 ?_
      obtain ⟨y120, e121, hf⟩ := pm_lt hf
      refine pm_iinc (v := y120) (lv' := [(6, .int y120), (0, .ref x0), (1, .ref x1), (4, .ref x4), (5, .ref x5)]) C dX10_create_291 rfl ((congrArg (x6 + ·) (by decide : Int32.ofInt 1 = 1)).trans e121) (pm_nl X (by decide)) rfl ?_
      refine pm_goto (tgt := 236) C dX10_create_294 (by decide) ?_
      cases hf
      exact pa_join (pm_S3I K0) (pm_sub [1, 2, 3, 4, 0] rfl (ih.2.2.2.2.2.2.2.1 x0 x1 x4 x5 y120 (pm_setI h s2 s1.toNatClampNeg s0) (m0.trans (pm_S3.le (pm_S3I K0))) hi))
    refine ⟨fun x0 x1 x2 x3 x4 x5 x6 x7 x9 s0 s1 s2 h m0 hf => ?_, ?_⟩
    · have le0 := (mlX10_create (n + 1)).2.2.2.2.2.2.2.2.2.2.2.1 x0 x1 x2 x3 x4 x5 x6 x7 x9 s0 s1 s2 h hf
      have kc1 := Nat.sub_le_sub_right le0.1 (pm_sz h0)
      have kc2 := Nat.sub_le_sub_right le0.2 (pm_us h0)
      have K0 := pm_S3.rf h
      obtain ⟨y, hf, hi⟩ := pm_iter_s hf
      have hf : tX10_create_134 x0 x1 x2 x3 x4 x5 x6 x7 x9 s0 s1 s2 h = some y := hf
      unfold tX10_create_134 at hf
      refine pm_iload C dX10_create_134 rfl ?_
      obtain ⟨k122, hf⟩ := pm_if hf
      obtain ⟨v123, e124, hf⟩ := pm_bd hf
      refine pm_callV (as := [.ref s1, .ref s0, .int x9]) (st := []) C X dX10_create_136 lnX10_178 myX10_addFunction viX10_addFunction ⟨by decide, by decide⟩ rfl rfl k122 (Nat.le_of_ble_eq_true rfl) kc1 kc2 (ctX10_addFunction e124 ?_)
      have K125 := pm_S3.trans (kpX10_addFunction e124) K0
      show pm_G g 139 [(0, .ref x0), (1, .ref x1), (2, .ref x2), (3, .int x3), (4, .ref x4), (5, .ref x5), (6, .int x6), (7, .int x7), (9, .int x9)] [.int v123.1] v123.2 (pm_sz h - pm_sz h0) (pm_us h - pm_us h0)
      refine pm_istore (lv' := [(9, .int v123.1), (0, .ref x0), (1, .ref x1), (2, .ref x2), (3, .int x3), (4, .ref x4), (5, .ref x5), (6, .int x6), (7, .int x7)]) C dX10_create_139 (pm_nl X (by decide)) rfl ?_
      refine pm_aload C dX10_create_141 rfl ?_
      refine pm_iload C dX10_create_143 rfl ?_
      obtain ⟨k126, hf⟩ := pm_if hf
      obtain ⟨v127, e128, hf⟩ := pm_bd hf
      refine pm_callV (as := [.int x7]) (st := []) C X dX10_create_145 lnX10_182 myX4_numbers viX4_numbers ⟨by decide, by decide⟩ rfl rfl k126 (Nat.le_of_ble_eq_true rfl) kc1 kc2 (ctX4_numbers e128 ?_)
      show pm_G g 148 [(9, .int v123.1), (0, .ref x0), (1, .ref x1), (2, .ref x2), (3, .int x3), (4, .ref x4), (5, .ref x5), (6, .int x6), (7, .int x7)] [.ref v127] v123.2 (pm_sz h - pm_sz h0) (pm_us h - pm_us h0)
      refine pm_aload C dX10_create_148 rfl ?_
      refine pm_iload C dX10_create_150 rfl ?_
      obtain ⟨v129, e130, hf⟩ := pm_bd hf
      refine pm_callS (as := [.ref x5, .int x7]) (st := [.ref v127]) C X dX10_create_152 lnX10_104 myX12_item stX12_item ⟨by decide, by decide⟩ rfl rfl (Nat.le_of_ble_eq_true rfl) kc1 kc2 (ctX12_item e130 ?_)
      show pm_G g 155 [(9, .int v123.1), (0, .ref x0), (1, .ref x1), (2, .ref x2), (3, .int x3), (4, .ref x4), (5, .ref x5), (6, .int x6), (7, .int x7)] [.int v129, .ref v127] v123.2 (pm_sz h - pm_sz h0) (pm_us h - pm_us h0)
      refine pm_iload C dX10_create_155 rfl ?_
      obtain ⟨v131, e132, hf⟩ := pm_bd hf
      refine pm_callS (as := [.ref v127, .int v129, .int v123.1]) (st := []) C X dX10_create_157 lnX10_184 myX12_setItem stX12_setItem ⟨by decide, by decide⟩ rfl rfl (Nat.le_of_ble_eq_true rfl) kc1 kc2 (ctX12_setItem e132 ?_)
      have K133 := pm_S3.trans (kpX12_setItem e132) K125
      show pm_G g 160 [(9, .int v123.1), (0, .ref x0), (1, .ref x1), (2, .ref x2), (3, .int x3), (4, .ref x4), (5, .ref x5), (6, .int x6), (7, .int x7)] [] v131 (pm_sz h - pm_sz h0) (pm_us h - pm_us h0)
      refine pm_aload C dX10_create_160 rfl ?_
      refine pm_iload C dX10_create_162 rfl ?_
      refine pm_aload C dX10_create_164 rfl ?_
      refine pm_iload C dX10_create_166 rfl ?_
      obtain ⟨v134, e135, hf⟩ := pm_bd hf
      refine pm_callS (as := [.ref x5, .int x7]) (st := [.int x7, .ref x5]) C X dX10_create_168 lnX10_104 myX12_item stX12_item ⟨by decide, by decide⟩ rfl rfl (Nat.le_of_ble_eq_true rfl) kc1 kc2 (ctX12_item e135 ?_)
      show pm_G g 171 [(9, .int v123.1), (0, .ref x0), (1, .ref x1), (2, .ref x2), (3, .int x3), (4, .ref x4), (5, .ref x5), (6, .int x6), (7, .int x7)] [.int v134, .int x7, .ref x5] v131 (pm_sz h - pm_sz h0) (pm_us h - pm_us h0)
      refine pm_iconst (v := 1) C dX10_create_171 (by decide) ?_
      refine pm_iadd C dX10_create_172 ?_
      obtain ⟨v136, e137, hf⟩ := pm_bd hf
      refine pm_callS (as := [.ref x5, .int x7, .int (v134 + 1)]) (st := []) C X dX10_create_173 lnX10_184 myX12_setItem stX12_setItem ⟨by decide, by decide⟩ rfl rfl (Nat.le_of_ble_eq_true rfl) kc1 kc2 (ctX12_setItem e137 ?_)
      have K138 := pm_S3.trans (kpX12_setItem e137) K133
      show pm_G g 176 [(9, .int v123.1), (0, .ref x0), (1, .ref x1), (2, .ref x2), (3, .int x3), (4, .ref x4), (5, .ref x5), (6, .int x6), (7, .int x7)] [] v136 (pm_sz h - pm_sz h0) (pm_us h - pm_us h0)
      obtain ⟨y139, e140, hf⟩ := pm_lt hf
      refine pm_iinc (v := y139) (lv' := [(6, .int y139), (9, .int v123.1), (0, .ref x0), (1, .ref x1), (2, .ref x2), (3, .int x3), (4, .ref x4), (5, .ref x5), (7, .int x7)]) C dX10_create_176 rfl ((congrArg (x6 + ·) (by decide : Int32.ofInt 1 = 1)).trans e140) (pm_nl X (by decide)) rfl ?_
      refine pm_goto (tgt := 51) C dX10_create_179 (by decide) ?_
      cases hf
      exact pa_join K138 (pm_sub [2, 3, 4, 5, 6, 7, 0] rfl (ih.2.2.2.2.1 x0 x1 x2 x3 x4 x5 y139 v136 (m0.trans (pm_S3.le K138)) hi))
    refine ⟨fun x0 x1 x4 x6 h m0 hf => ?_, ?_⟩
    · have le0 := (mlX10_create (n + 1)).2.2.2.2.2.2.2.2.2.2.2.2.1 x0 x1 x4 x6 h hf
      have kc1 := Nat.sub_le_sub_right le0.1 (pm_sz h0)
      have kc2 := Nat.sub_le_sub_right le0.2 (pm_us h0)
      have K0 := pm_S3.rf h
      obtain ⟨y, hf, hi⟩ := pm_iter_s hf
      have hf : tX10_create_357 x0 x1 x4 x6 h = some y := hf
      unfold tX10_create_357 at hf
      refine pm_iload C dX10_create_357 rfl ?_
      refine pm_aload C dX10_create_359 rfl ?_
      obtain ⟨k141, hf⟩ := pm_if hf
      obtain ⟨v142, e143, hf⟩ := pm_bd hf
      refine pm_getR C dX10_create_361 flX10_202 rfl k141 e143 ?_
      obtain ⟨k144, hf⟩ := pm_if hf
      refine pm_alen (t := 2) C dX10_create_364 (by decide) k144 rfl ?_
      refine pm_icmp_ge (tgt := 390) C dX10_create_365 (by decide) (fun c145 => ?_) (fun c145 => ?_)
      · have hf := pm_it hf c145
        refine pm_iconst (v := 0) C dX10_create_390 (by decide) ?_
        refine pm_istore (lv' := [(6, .int 0), (0, .ref x0), (1, .ref x1), (4, .ref x4)]) C dX10_create_391 (pm_nl X (by decide)) rfl ?_
        cases hf
        exact pa_join K0 (pm_sub [1, 2, 3, 0] rfl (ih.2.2.2.2.2.2.2.2.2.2.2.2.2.2.1 x0 x1 x4 0 h (m0.trans (pm_S3.le K0)) hi))
      · have hf := pm_ie hf c145
        refine pm_aload C dX10_create_368 rfl ?_
        refine pm_getR C dX10_create_370 flX10_202 rfl k141 e143 ?_
        refine pm_iload C dX10_create_373 rfl ?_
        refine pm_aload_n C dX10_create_375 rfl rfl ?_
        refine pm_aload C dX10_create_376 rfl ?_
        refine pm_iload C dX10_create_378 rfl ?_
        obtain ⟨k146, hf⟩ := pm_if hf
        obtain ⟨v147, e148, hf⟩ := pm_bd hf
        refine pm_callV (as := [.ref x4, .int x6]) (st := [.int x6, .ref v142]) C X dX10_create_380 lnX10_205 myX10_addGlobal viX10_addGlobal ⟨by decide, by decide⟩ rfl rfl k146 (Nat.le_of_ble_eq_true rfl) kc1 kc2 (ctX10_addGlobal e148 ?_)
        have K149 := pm_S3.trans (kpX10_addGlobal e148) K0
        show pm_G g 383 [(0, .ref x0), (1, .ref x1), (4, .ref x4), (6, .int x6)] [.int v147.1, .int x6, .ref v142] v147.2 (pm_sz h - pm_sz h0) (pm_us h - pm_us h0)
        obtain ⟨k150, hf⟩ := pm_if hf
        obtain ⟨u151, hf⟩ := pm_if hf
        refine pm_iast C dX10_create_383 k150 u151 ?_
        obtain ⟨y152, e153, hf⟩ := pm_lt hf
        refine pm_iinc (v := y152) (lv' := [(6, .int y152), (0, .ref x0), (1, .ref x1), (4, .ref x4)]) C dX10_create_384 rfl ((congrArg (x6 + ·) (by decide : Int32.ofInt 1 = 1)).trans e153) (pm_nl X (by decide)) rfl ?_
        refine pm_goto (tgt := 357) C dX10_create_387 (by decide) ?_
        cases hf
        exact pa_join (pm_S3I K149) (pm_sub [1, 2, 3, 0] rfl (ih.2.2.2.2.2.2.2.2.2.2.2.2.1 x0 x1 x4 y152 (pm_setI v147.2 v142 x6.toNatClampNeg v147.1) (m0.trans (pm_S3.le (pm_S3I K149))) hi))
    refine ⟨fun x0 x1 x4 x5 x6 s0 s1 s2 h m0 hf => ?_, ?_⟩
    · have le0 := (mlX10_create (n + 1)).2.2.2.2.2.2.2.2.2.2.2.2.2.1 x0 x1 x4 x5 x6 s0 s1 s2 h hf
      have kc1 := Nat.sub_le_sub_right le0.1 (pm_sz h0)
      have kc2 := Nat.sub_le_sub_right le0.2 (pm_us h0)
      have K0 := pm_S3.rf h
      obtain ⟨y, hf, hi⟩ := pm_iter_s hf
      have hf : tX10_create_344 x0 x1 x4 x5 x6 s0 s1 s2 h = some y := hf
      unfold tX10_create_344 at hf
      obtain ⟨k154, hf⟩ := pm_if hf
      obtain ⟨u155, hf⟩ := pm_if hf
      refine pm_iast C dX10_create_344 k154 u155 ?_
      obtain ⟨y156, e157, hf⟩ := pm_lt hf
      refine pm_iinc (v := y156) (lv' := [(6, .int y156), (0, .ref x0), (1, .ref x1), (4, .ref x4), (5, .ref x5)]) C dX10_create_345 rfl ((congrArg (x6 + ·) (by decide : Int32.ofInt 1 = 1)).trans e157) (pm_nl X (by decide)) rfl ?_
      refine pm_goto (tgt := 303) C dX10_create_348 (by decide) ?_
      cases hf
      exact pa_join (pm_S3I K0) (pm_sub [1, 2, 3, 4, 0] rfl (ih.2.2.2.2.2.2.2.2.2.1 x0 x1 x4 x5 y156 (pm_setI h s2 s1.toNatClampNeg s0) (m0.trans (pm_S3.le (pm_S3I K0))) hi))
    refine ⟨fun x0 x1 x4 x6 h m0 hf => ?_, ?_⟩
    · have le0 := (mlX10_create (n + 1)).2.2.2.2.2.2.2.2.2.2.2.2.2.2.1 x0 x1 x4 x6 h hf
      have kc1 := Nat.sub_le_sub_right le0.1 (pm_sz h0)
      have kc2 := Nat.sub_le_sub_right le0.2 (pm_us h0)
      have K0 := pm_S3.rf h
      obtain ⟨y, hf, hi⟩ := pm_iter_s hf
      have hf : tX10_create_393 x0 x1 x4 x6 h = some y := hf
      unfold tX10_create_393 at hf
      refine pm_iload C dX10_create_393 rfl ?_
      refine pm_aload C dX10_create_395 rfl ?_
      obtain ⟨k158, hf⟩ := pm_if hf
      obtain ⟨v159, e160, hf⟩ := pm_bd hf
      refine pm_getR C dX10_create_397 flX10_209 rfl k158 e160 ?_
      obtain ⟨k161, hf⟩ := pm_if hf
      refine pm_alen (t := 4) C dX10_create_400 (by decide) k161 rfl ?_
      refine pm_icmp_ge (tgt := 418) C dX10_create_401 (by decide) (fun c162 => ?_) (fun c162 => ?_)
      · have hf := pm_it hf c162
        refine pm_iconst (v := 0) C dX10_create_418 (by decide) ?_
        refine pm_istore (lv' := [(6, .int 0), (0, .ref x0), (1, .ref x1), (4, .ref x4)]) C dX10_create_419 (pm_nl X (by decide)) rfl ?_
        cases hf
        exact pa_join K0 (pm_sub [2, 3, 0] rfl (ih.2.2.2.2.2.2.2.2.2.2.2.2.2.2.2.1 x1 x4 0 h (m0.trans (pm_S3.le K0)) hi))
      · have hf := pm_ie hf c162
        refine pm_aload_n C dX10_create_404 rfl rfl ?_
        refine pm_aload C dX10_create_405 rfl ?_
        refine pm_iload C dX10_create_407 rfl ?_
        obtain ⟨k163, hf⟩ := pm_if hf
        obtain ⟨v164, e165, hf⟩ := pm_bd hf
        cases hf
        refine pm_callV (as := [.ref x4, .int x6]) (st := []) C X dX10_create_409 lnX10_212 myX10_fillElement viX10_fillElement ⟨by decide, by decide⟩ rfl rfl k163 (Nat.le_of_ble_eq_true rfl) (pa_le1 K0 m0 (moX10_fillElement e165) ((mlX10_create n).2.2.2.2.2.2.2.2.2.2.2.2.2.2.2.2 x0 x1 x4 x6 v164 hi)) (pa_le2 K0 m0 (moX10_fillElement e165) ((mlX10_create n).2.2.2.2.2.2.2.2.2.2.2.2.2.2.2.2 x0 x1 x4 x6 v164 hi)) (ctX10_fillElement e165 ?_)
        show pm_G g 412 [(0, .ref x0), (1, .ref x1), (4, .ref x4), (6, .int x6)] [] v164 (pm_sz h - pm_sz h0 + (pm_sz v164 - pm_sz h)) (pm_us h - pm_us h0 + (pm_us v164 - pm_us h))
        refine pa_fin K0 m0 (moX10_fillElement e165) ?_
        exact pm_sub [0, 1, 2, 3] rfl (ih.2.2.2.2.2.2.2.2.2.2.2.2.2.2.2.2 x0 x1 x4 x6 v164 ((m0.trans (pm_S3.le K0)).trans (moX10_fillElement e165)) hi)
    refine ⟨fun x1 x4 x6 h m0 hf => ?_, ?_⟩
    · have le0 := (mlX10_create (n + 1)).2.2.2.2.2.2.2.2.2.2.2.2.2.2.2.1 x1 x4 x6 h hf
      have kc1 := Nat.sub_le_sub_right le0.1 (pm_sz h0)
      have kc2 := Nat.sub_le_sub_right le0.2 (pm_us h0)
      have K0 := pm_S3.rf h
      obtain ⟨y, hf, hi⟩ := pm_iter_s hf
      have hf : tX10_create_421 x1 x4 x6 h = some y := hf
      unfold tX10_create_421 at hf
      refine pm_iload C dX10_create_421 rfl ?_
      refine pm_aload C dX10_create_423 rfl ?_
      obtain ⟨k166, hf⟩ := pm_if hf
      obtain ⟨v167, e168, hf⟩ := pm_bd hf
      refine pm_getR C dX10_create_425 flX10_216 rfl k166 e168 ?_
      obtain ⟨k169, hf⟩ := pm_if hf
      refine pm_alen (t := 2) C dX10_create_428 (by decide) k169 rfl ?_
      refine pm_icmp_ge (tgt := 460) C dX10_create_429 (by decide) (fun c170 => ?_) (fun c170 => ?_)
      · have hf := pm_it hf c170
        refine pm_aload C dX10_create_460 rfl ?_
        have hf := Option.some.inj hf
        subst hf
        have hi := Option.some.inj (show some _ = some r from hi)
        subst hi
        exact pm_aret C X dX10_create_462 rfl (Or.inl ⟨_, rfl⟩) kc1 kc2 q
      · have hf := pm_ie hf c170
        refine pm_aload C dX10_create_432 rfl ?_
        refine pm_getR C dX10_create_434 flX10_216 rfl k166 e168 ?_
        refine pm_iload C dX10_create_437 rfl ?_
        refine pm_aload_n C dX10_create_439 rfl rfl ?_
        obtain ⟨k171, hf⟩ := pm_if hf
        obtain ⟨v172, e173, hf⟩ := pm_bd hf
        refine pm_getR C dX10_create_440 flX10_219 rfl k171 e173 ?_
        refine pm_iload C dX10_create_443 rfl ?_
        refine pm_bipush (v := 7) C dX10_create_445 (by decide) ?_
        refine pm_imul C dX10_create_447 ?_
        refine pm_iconst (v := 4) C dX10_create_448 (by decide) ?_
        refine pm_iadd C dX10_create_449 ?_
        obtain ⟨v174, e175, hf⟩ := pm_bd hf
        refine pm_callS (as := [.ref v172, .int ((x6 * 7) + 4)]) (st := [.int x6, .ref v167]) C X dX10_create_450 lnX10_104 myX12_item stX12_item ⟨by decide, by decide⟩ rfl rfl (Nat.le_of_ble_eq_true rfl) kc1 kc2 (ctX12_item e175 ?_)
        show pm_G g 453 [(1, .ref x1), (4, .ref x4), (6, .int x6)] [.int v174, .int x6, .ref v167] h (pm_sz h - pm_sz h0) (pm_us h - pm_us h0)
        obtain ⟨u176, hf⟩ := pm_if hf
        refine pm_iast C dX10_create_453 k169 u176 ?_
        obtain ⟨y177, e178, hf⟩ := pm_lt hf
        refine pm_iinc (v := y177) (lv' := [(6, .int y177), (1, .ref x1), (4, .ref x4)]) C dX10_create_454 rfl ((congrArg (x6 + ·) (by decide : Int32.ofInt 1 = 1)).trans e178) (pm_nl X (by decide)) rfl ?_
        refine pm_goto (tgt := 421) C dX10_create_457 (by decide) ?_
        cases hf
        exact pa_join (pm_S3I K0) (pm_sub [1, 2, 0] rfl (ih.2.2.2.2.2.2.2.2.2.2.2.2.2.2.2.1 x1 x4 y177 (pm_setI h v167 x6.toNatClampNeg v174) (m0.trans (pm_S3.le (pm_S3I K0))) hi))
    refine fun x0 x1 x4 x6 h m0 hf => ?_
    have le0 := (mlX10_create (n + 1)).2.2.2.2.2.2.2.2.2.2.2.2.2.2.2.2 x0 x1 x4 x6 h hf
    have kc1 := Nat.sub_le_sub_right le0.1 (pm_sz h0)
    have kc2 := Nat.sub_le_sub_right le0.2 (pm_us h0)
    have K0 := pm_S3.rf h
    obtain ⟨y, hf, hi⟩ := pm_iter_s hf
    have hf : tX10_create_412 x0 x1 x4 x6 h = some y := hf
    unfold tX10_create_412 at hf
    obtain ⟨y179, e180, hf⟩ := pm_lt hf
    refine pm_iinc (v := y179) (lv' := [(6, .int y179), (0, .ref x0), (1, .ref x1), (4, .ref x4)]) C dX10_create_412 rfl ((congrArg (x6 + ·) (by decide : Int32.ofInt 1 = 1)).trans e180) (pm_nl X (by decide)) rfl ?_
    refine pm_goto (tgt := 393) C dX10_create_415 (by decide) ?_
    cases hf
    exact pa_join K0 (pm_sub [1, 2, 3, 0] rfl (ih.2.2.2.2.2.2.2.2.2.2.2.2.2.2.1 x0 x1 x4 y179 h (m0.trans (pm_S3.le K0)) hi))
set_option maxHeartbeats 4000000 in
set_option maxRecDepth 100000 in
theorem ctX10_create {l : Launch} {G : pm_Gl} {h : pm_H} {a0 : Nat} {p1 : Nat} {p2 : Nat} {p3 : Int32} {r : (Nat × pm_H)} {Qr : Option Value → pm_H → Prop} (hf : fX10_create h a0 p1 p2 p3 = some r) (q : Qr (some (.ref r.1)) r.2) : pm_Ct l G mX10_create [.ref a0, .ref p1, .ref p2, .int p3] h (pm_sz r.2 - pm_sz h) (pm_us r.2 - pm_us h) Qr := by
  refine pm_body pnX10 (Nat.le_of_ble_eq_true rfl) (fun g C X => ?_)
  have C : pm_C g cX10_create RX10 := C
  show pm_G g 0 [(0, .ref a0), (1, .ref p1), (2, .ref p2), (3, .int p3)] [] h 0 0
  unfold fX10_create at hf
  obtain ⟨n, hn⟩ := pm_lim_iter hf
  exact pa_start (pm_sub [0, 1, 2, 3] rfl ((lpX10_create C X q n).1 a0 p1 p2 p3 h (pm_Le.rf h) hn))
