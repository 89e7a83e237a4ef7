theorem dX16_turned_0 : decode cX16_turned 0 = .ok (.iload_n 1, 1) := by decide +kernel
theorem dX16_turned_1 : decode cX16_turned 1 = .ok (.sipush 200, 3) := by decide +kernel
theorem dX16_turned_4 : decode cX16_turned 4 = .ok (.if_icmp .lt 36, 3) := by decide +kernel
theorem dX16_turned_7 : decode cX16_turned 7 = .ok (.aload_n 0, 1) := by decide +kernel
theorem dX16_turned_8 : decode cX16_turned 8 = .ok (.iload_n 2, 1) := by decide +kernel
theorem dX16_turned_9 : decode cX16_turned 9 = .ok (.lload_n 3, 1) := by decide +kernel
theorem dX16_turned_10 : decode cX16_turned 10 = .ok (.iload_n 1, 1) := by decide +kernel
theorem dX16_turned_11 : decode cX16_turned 11 = .ok (.sipush 204, 3) := by decide +kernel
theorem dX16_turned_14 : decode cX16_turned 14 = .ok (.if_icmp .ge 8, 3) := by decide +kernel
theorem dX16_turned_17 : decode cX16_turned 17 = .ok (.bipush 32, 2) := by decide +kernel
theorem dX16_turned_19 : decode cX16_turned 19 = .ok (.goto 5, 3) := by decide +kernel
theorem dX16_turned_22 : decode cX16_turned 22 = .ok (.bipush 64, 2) := by decide +kernel
theorem dX16_turned_24 : decode cX16_turned 24 = .ok (.iload_n 1, 1) := by decide +kernel
theorem dX16_turned_25 : decode cX16_turned 25 = .ok (.iconst 2, 1) := by decide +kernel
theorem dX16_turned_26 : decode cX16_turned 26 = .ok (.irem, 1) := by decide +kernel
theorem dX16_turned_27 : decode cX16_turned 27 = .ok (.ifCond .ne 7, 3) := by decide +kernel
theorem dX16_turned_30 : decode cX16_turned 30 = .ok (.iconst 1, 1) := by decide +kernel
theorem dX16_turned_31 : decode cX16_turned 31 = .ok (.goto 4, 3) := by decide +kernel
theorem dX16_turned_34 : decode cX16_turned 34 = .ok (.iconst 0, 1) := by decide +kernel
theorem dX16_turned_35 : decode cX16_turned 35 = .ok (.iconst 1, 1) := by decide +kernel
theorem dX16_turned_36 : decode cX16_turned 36 = .ok (.invokevirtual 938, 3) := by decide +kernel
theorem dX16_turned_39 : decode cX16_turned 39 = .ok (.lreturn, 1) := by decide +kernel
theorem dX16_turned_40 : decode cX16_turned 40 = .ok (.iload_n 1, 1) := by decide +kernel
theorem dX16_turned_41 : decode cX16_turned 41 = .ok (.sipush 168, 3) := by decide +kernel
theorem dX16_turned_44 : decode cX16_turned 44 = .ok (.if_icmp .lt 10, 3) := by decide +kernel
theorem dX16_turned_47 : decode cX16_turned 47 = .ok (.iload_n 1, 1) := by decide +kernel
theorem dX16_turned_48 : decode cX16_turned 48 = .ok (.sipush 172, 3) := by decide +kernel
theorem dX16_turned_51 : decode cX16_turned 51 = .ok (.if_icmp .lt 17, 3) := by decide +kernel
theorem dX16_turned_54 : decode cX16_turned 54 = .ok (.iload_n 1, 1) := by decide +kernel
theorem dX16_turned_55 : decode cX16_turned 55 = .ok (.sipush 174, 3) := by decide +kernel
theorem dX16_turned_58 : decode cX16_turned 58 = .ok (.if_icmp .lt 43, 3) := by decide +kernel
theorem dX16_turned_61 : decode cX16_turned 61 = .ok (.iload_n 1, 1) := by decide +kernel
theorem dX16_turned_62 : decode cX16_turned 62 = .ok (.sipush 178, 3) := by decide +kernel
theorem dX16_turned_65 : decode cX16_turned 65 = .ok (.if_icmp .ge 36, 3) := by decide +kernel
theorem dX16_turned_68 : decode cX16_turned 68 = .ok (.aload_n 0, 1) := by decide +kernel
theorem dX16_turned_69 : decode cX16_turned 69 = .ok (.iload_n 2, 1) := by decide +kernel
theorem dX16_turned_70 : decode cX16_turned 70 = .ok (.lload_n 3, 1) := by decide +kernel
theorem dX16_turned_71 : decode cX16_turned 71 = .ok (.iload_n 1, 1) := by decide +kernel
theorem dX16_turned_72 : decode cX16_turned 72 = .ok (.sipush 172, 3) := by decide +kernel
theorem dX16_turned_75 : decode cX16_turned 75 = .ok (.if_icmp .ge 8, 3) := by decide +kernel
theorem dX16_turned_78 : decode cX16_turned 78 = .ok (.bipush 32, 2) := by decide +kernel
theorem dX16_turned_80 : decode cX16_turned 80 = .ok (.goto 5, 3) := by decide +kernel
theorem dX16_turned_83 : decode cX16_turned 83 = .ok (.bipush 64, 2) := by decide +kernel
theorem dX16_turned_85 : decode cX16_turned 85 = .ok (.iload_n 1, 1) := by decide +kernel
theorem dX16_turned_86 : decode cX16_turned 86 = .ok (.iconst 2, 1) := by decide +kernel
theorem dX16_turned_87 : decode cX16_turned 87 = .ok (.irem, 1) := by decide +kernel
theorem dX16_turned_88 : decode cX16_turned 88 = .ok (.ifCond .ne 7, 3) := by decide +kernel
theorem dX16_turned_91 : decode cX16_turned 91 = .ok (.iconst 1, 1) := by decide +kernel
theorem dX16_turned_92 : decode cX16_turned 92 = .ok (.goto 4, 3) := by decide +kernel
theorem dX16_turned_95 : decode cX16_turned 95 = .ok (.iconst 0, 1) := by decide +kernel
theorem dX16_turned_96 : decode cX16_turned 96 = .ok (.iconst 0, 1) := by decide +kernel
theorem dX16_turned_97 : decode cX16_turned 97 = .ok (.invokevirtual 938, 3) := by decide +kernel
theorem dX16_turned_100 : decode cX16_turned 100 = .ok (.lreturn, 1) := by decide +kernel
theorem dX16_turned_101 : decode cX16_turned 101 = .ok (.iload_n 1, 1) := by decide +kernel
theorem dX16_turned_102 : decode cX16_turned 102 = .ok (.tableswitch 275 167 196 #[134, 275, 275, 275, 275, 140, 275, 275, 275, 275, 275, 144, 206, 175, 206, 216, 144, 206, 175, 206, 216, 275, 275, 275, 275, 227, 249, 227, 249, 271], 134) := by decide +kernel
theorem dX16_turned_236 : decode cX16_turned 236 = .ok (.lload_n 3, 1) := by decide +kernel
theorem dX16_turned_237 : decode cX16_turned 237 = .ok (.ldc2_w 513, 3) := by decide +kernel
theorem dX16_turned_240 : decode cX16_turned 240 = .ok (.land, 1) := by decide +kernel
theorem dX16_turned_241 : decode cX16_turned 241 = .ok (.lreturn, 1) := by decide +kernel
theorem dX16_turned_242 : decode cX16_turned 242 = .ok (.lload_n 3, 1) := by decide +kernel
theorem dX16_turned_243 : decode cX16_turned 243 = .ok (.l2i, 1) := by decide +kernel
theorem dX16_turned_244 : decode cX16_turned 244 = .ok (.i2l, 1) := by decide +kernel
theorem dX16_turned_245 : decode cX16_turned 245 = .ok (.lreturn, 1) := by decide +kernel
theorem dX16_turned_246 : decode cX16_turned 246 = .ok (.iload_n 1, 1) := by decide +kernel
theorem dX16_turned_247 : decode cX16_turned 247 = .ok (.invokestatic 759, 3) := by decide +kernel
theorem dX16_turned_250 : decode cX16_turned 250 = .ok (.lload_n 3, 1) := by decide +kernel
theorem dX16_turned_251 : decode cX16_turned 251 = .ok (.l2i, 1) := by decide +kernel
theorem dX16_turned_252 : decode cX16_turned 252 = .ok (.ifCond .ge 10, 3) := by decide +kernel
theorem dX16_turned_255 : decode cX16_turned 255 = .ok (.lload_n 3, 1) := by decide +kernel
theorem dX16_turned_256 : decode cX16_turned 256 = .ok (.l2i, 1) := by decide +kernel
theorem dX16_turned_257 : decode cX16_turned 257 = .ok (.i2l, 1) := by decide +kernel
theorem dX16_turned_258 : decode cX16_turned 258 = .ok (.lneg, 1) := by decide +kernel
theorem dX16_turned_259 : decode cX16_turned 259 = .ok (.goto 4, 3) := by decide +kernel
theorem dX16_turned_262 : decode cX16_turned 262 = .ok (.lload_n 3, 1) := by decide +kernel
theorem dX16_turned_263 : decode cX16_turned 263 = .ok (.lload_n 3, 1) := by decide +kernel
theorem dX16_turned_264 : decode cX16_turned 264 = .ok (.l2i, 1) := by decide +kernel
theorem dX16_turned_265 : decode cX16_turned 265 = .ok (.ifCond .ge 7, 3) := by decide +kernel
theorem dX16_turned_268 : decode cX16_turned 268 = .ok (.iconst 1, 1) := by decide +kernel
theorem dX16_turned_269 : decode cX16_turned 269 = .ok (.goto 4, 3) := by decide +kernel
theorem dX16_turned_272 : decode cX16_turned 272 = .ok (.iconst 0, 1) := by decide +kernel
theorem dX16_turned_273 : decode cX16_turned 273 = .ok (.invokestatic 942, 3) := by decide +kernel
theorem dX16_turned_276 : decode cX16_turned 276 = .ok (.lreturn, 1) := by decide +kernel
theorem dX16_turned_277 : decode cX16_turned 277 = .ok (.iload_n 1, 1) := by decide +kernel
theorem dX16_turned_278 : decode cX16_turned 278 = .ok (.invokestatic 759, 3) := by decide +kernel
theorem dX16_turned_281 : decode cX16_turned 281 = .ok (.lload_n 3, 1) := by decide +kernel
theorem dX16_turned_282 : decode cX16_turned 282 = .ok (.lconst 0, 1) := by decide +kernel
theorem dX16_turned_283 : decode cX16_turned 283 = .ok (.lcmp, 1) := by decide +kernel
theorem dX16_turned_284 : decode cX16_turned 284 = .ok (.ifCond .ge 8, 3) := by decide +kernel
theorem dX16_turned_287 : decode cX16_turned 287 = .ok (.lload_n 3, 1) := by decide +kernel
theorem dX16_turned_288 : decode cX16_turned 288 = .ok (.lneg, 1) := by decide +kernel
theorem dX16_turned_289 : decode cX16_turned 289 = .ok (.goto 4, 3) := by decide +kernel
theorem dX16_turned_292 : decode cX16_turned 292 = .ok (.lload_n 3, 1) := by decide +kernel
theorem dX16_turned_293 : decode cX16_turned 293 = .ok (.lload_n 3, 1) := by decide +kernel
theorem dX16_turned_294 : decode cX16_turned 294 = .ok (.lconst 0, 1) := by decide +kernel
theorem dX16_turned_295 : decode cX16_turned 295 = .ok (.lcmp, 1) := by decide +kernel
theorem dX16_turned_296 : decode cX16_turned 296 = .ok (.ifCond .ge 7, 3) := by decide +kernel
theorem dX16_turned_299 : decode cX16_turned 299 = .ok (.iconst 1, 1) := by decide +kernel
theorem dX16_turned_300 : decode cX16_turned 300 = .ok (.goto 4, 3) := by decide +kernel
theorem dX16_turned_303 : decode cX16_turned 303 = .ok (.iconst 0, 1) := by decide +kernel
theorem dX16_turned_304 : decode cX16_turned 304 = .ok (.invokestatic 942, 3) := by decide +kernel
theorem dX16_turned_307 : decode cX16_turned 307 = .ok (.lreturn, 1) := by decide +kernel
theorem dX16_turned_308 : decode cX16_turned 308 = .ok (.iload_n 1, 1) := by decide +kernel
theorem dX16_turned_309 : decode cX16_turned 309 = .ok (.invokestatic 759, 3) := by decide +kernel
theorem dX16_turned_312 : decode cX16_turned 312 = .ok (.lload_n 3, 1) := by decide +kernel
theorem dX16_turned_313 : decode cX16_turned 313 = .ok (.iconst 0, 1) := by decide +kernel
theorem dX16_turned_314 : decode cX16_turned 314 = .ok (.invokestatic 942, 3) := by decide +kernel
theorem dX16_turned_317 : decode cX16_turned 317 = .ok (.lreturn, 1) := by decide +kernel
theorem dX16_turned_318 : decode cX16_turned 318 = .ok (.aload_n 0, 1) := by decide +kernel
theorem dX16_turned_319 : decode cX16_turned 319 = .ok (.iload_n 1, 1) := by decide +kernel
theorem dX16_turned_320 : decode cX16_turned 320 = .ok (.invokestatic 759, 3) := by decide +kernel
theorem dX16_turned_323 : decode cX16_turned 323 = .ok (.iload_n 2, 1) := by decide +kernel
theorem dX16_turned_324 : decode cX16_turned 324 = .ok (.lload_n 3, 1) := by decide +kernel
theorem dX16_turned_325 : decode cX16_turned 325 = .ok (.invokevirtual 946, 3) := by decide +kernel
theorem dX16_turned_328 : decode cX16_turned 328 = .ok (.lreturn, 1) := by decide +kernel
theorem dX16_turned_329 : decode cX16_turned 329 = .ok (.lload_n 3, 1) := by decide +kernel
theorem dX16_turned_330 : decode cX16_turned 330 = .ok (.l2i, 1) := by decide +kernel
theorem dX16_turned_331 : decode cX16_turned 331 = .ok (.i2b, 1) := by decide +kernel
theorem dX16_turned_332 : decode cX16_turned 332 = .ok (.i2l, 1) := by decide +kernel
theorem dX16_turned_333 : decode cX16_turned 333 = .ok (.iload_n 1, 1) := by decide +kernel
theorem dX16_turned_334 : decode cX16_turned 334 = .ok (.sipush 192, 3) := by decide +kernel
theorem dX16_turned_337 : decode cX16_turned 337 = .ok (.if_icmp .ne 9, 3) := by decide +kernel
theorem dX16_turned_340 : decode cX16_turned 340 = .ok (.ldc2_w 513, 3) := by decide +kernel
theorem dX16_turned_343 : decode cX16_turned 343 = .ok (.goto 6, 3) := by decide +kernel
theorem dX16_turned_346 : decode cX16_turned 346 = .ok (.ldc2_w 268, 3) := by decide +kernel
theorem dX16_turned_349 : decode cX16_turned 349 = .ok (.land, 1) := by decide +kernel
theorem dX16_turned_350 : decode cX16_turned 350 = .ok (.lreturn, 1) := by decide +kernel
theorem dX16_turned_351 : decode cX16_turned 351 = .ok (.lload_n 3, 1) := by decide +kernel
theorem dX16_turned_352 : decode cX16_turned 352 = .ok (.l2i, 1) := by decide +kernel
theorem dX16_turned_353 : decode cX16_turned 353 = .ok (.i2s, 1) := by decide +kernel
theorem dX16_turned_354 : decode cX16_turned 354 = .ok (.i2l, 1) := by decide +kernel
theorem dX16_turned_355 : decode cX16_turned 355 = .ok (.iload_n 1, 1) := by decide +kernel
theorem dX16_turned_356 : decode cX16_turned 356 = .ok (.sipush 193, 3) := by decide +kernel
theorem dX16_turned_359 : decode cX16_turned 359 = .ok (.if_icmp .ne 9, 3) := by decide +kernel
theorem dX16_turned_362 : decode cX16_turned 362 = .ok (.ldc2_w 513, 3) := by decide +kernel
theorem dX16_turned_365 : decode cX16_turned 365 = .ok (.goto 6, 3) := by decide +kernel
theorem dX16_turned_368 : decode cX16_turned 368 = .ok (.ldc2_w 268, 3) := by decide +kernel
theorem dX16_turned_371 : decode cX16_turned 371 = .ok (.land, 1) := by decide +kernel
theorem dX16_turned_372 : decode cX16_turned 372 = .ok (.lreturn, 1) := by decide +kernel
theorem dX16_turned_373 : decode cX16_turned 373 = .ok (.lload_n 3, 1) := by decide +kernel
theorem dX16_turned_374 : decode cX16_turned 374 = .ok (.l2i, 1) := by decide +kernel
theorem dX16_turned_375 : decode cX16_turned 375 = .ok (.i2l, 1) := by decide +kernel
theorem dX16_turned_376 : decode cX16_turned 376 = .ok (.lreturn, 1) := by decide +kernel
theorem dX16_turned_377 : decode cX16_turned 377 = .ok (.lload_n 3, 1) := by decide +kernel
theorem dX16_turned_378 : decode cX16_turned 378 = .ok (.lreturn, 1) := by decide +kernel
noncomputable def fX16_turned_b101 (h : pm_H) (x0 : Nat) (x1 : Int32) (x2 : Int32) (x3 : Int64) : Option (Int64 × pm_H) := if x1 = 167 then (some ((x3 &&& 4294967295, h))) else (if x1 = 168 then (some ((x3, h))) else (if x1 = 169 then (some ((x3, h))) else (if x1 = 170 then (some ((x3, h))) else (if x1 = 171 then (some ((x3, h))) else (if x1 = 172 then (some ((x3.toInt32.toInt64, h))) else (if x1 = 173 then (some ((x3, h))) else (if x1 = 174 then (some ((x3, h))) else (if x1 = 175 then (some ((x3, h))) else (if x1 = 176 then (some ((x3, h))) else (if x1 = 177 then (some ((x3, h))) else (if x1 = 178 then (pm_let (fX16_resultOf x1) fun v48 => if 0 ≤ x3.toInt32 then (if 0 ≤ x3.toInt32 then ((fX16_ofWhole v48 x3 0).bind fun v52 => some ((v52, h))) else ((fX16_ofWhole v48 x3 1).bind fun v54 => some ((v54, h)))) else (if 0 ≤ x3.toInt32 then ((fX16_ofWhole v48 (-x3.toInt32.toInt64) 0).bind fun v57 => some ((v57, h))) else ((fX16_ofWhole v48 (-x3.toInt32.toInt64) 1).bind fun v59 => some ((v59, h))))) else (if x1 = 179 then (pm_let (fX16_resultOf x1) fun v62 => (fX16_ofWhole v62 x3 0).bind fun v64 => some ((v64, h))) else (if x1 = 180 then (pm_let (fX16_resultOf x1) fun v67 => if 0 ≤ x3 then (if 0 ≤ x3 then ((fX16_ofWhole v67 x3 0).bind fun v71 => some ((v71, h))) else ((fX16_ofWhole v67 x3 1).bind fun v73 => some ((v73, h)))) else (if 0 ≤ x3 then ((fX16_ofWhole v67 (-x3) 0).bind fun v76 => some ((v76, h))) else ((fX16_ofWhole v67 (-x3) 1).bind fun v78 => some ((v78, h))))) else (if x1 = 181 then (pm_let (fX16_resultOf x1) fun v81 => (fX16_ofWhole v81 x3 0).bind fun v83 => some ((v83, h))) else (if x1 = 182 then (pm_let (fX16_resultOf x1) fun v86 => if pm_kd h x0 = 16 then (fX16_moved h x0 v86 x2 x3).bind fun v89 => some ((v89.1, v89.2)) else none) else (if x1 = 183 then (pm_let (fX16_resultOf x1) fun v92 => if 0 ≤ x3.toInt32 then (if 0 ≤ x3.toInt32 then ((fX16_ofWhole v92 x3 0).bind fun v96 => some ((v96, h))) else ((fX16_ofWhole v92 x3 1).bind fun v98 => some ((v98, h)))) else (if 0 ≤ x3.toInt32 then ((fX16_ofWhole v92 (-x3.toInt32.toInt64) 0).bind fun v101 => some ((v101, h))) else ((fX16_ofWhole v92 (-x3.toInt32.toInt64) 1).bind fun v103 => some ((v103, h))))) else (if x1 = 184 then (pm_let (fX16_resultOf x1) fun v106 => (fX16_ofWhole v106 x3 0).bind fun v108 => some ((v108, h))) else (if x1 = 185 then (pm_let (fX16_resultOf x1) fun v111 => if 0 ≤ x3 then (if 0 ≤ x3 then ((fX16_ofWhole v111 x3 0).bind fun v115 => some ((v115, h))) else ((fX16_ofWhole v111 x3 1).bind fun v117 => some ((v117, h)))) else (if 0 ≤ x3 then ((fX16_ofWhole v111 (-x3) 0).bind fun v120 => some ((v120, h))) else ((fX16_ofWhole v111 (-x3) 1).bind fun v122 => some ((v122, h))))) else (if x1 = 186 then (pm_let (fX16_resultOf x1) fun v125 => (fX16_ofWhole v125 x3 0).bind fun v127 => some ((v127, h))) else (if x1 = 187 then (pm_let (fX16_resultOf x1) fun v130 => if pm_kd h x0 = 16 then (fX16_moved h x0 v130 x2 x3).bind fun v133 => some ((v133.1, v133.2)) else none) else (if x1 = 188 then (some ((x3, h))) else (if x1 = 189 then (some ((x3, h))) else (if x1 = 190 then (some ((x3, h))) else (if x1 = 191 then (some ((x3, h))) else (if x1 = 192 then (if x1 = 192 then (some ((x3.toInt32.toInt8.toInt32.toInt64 &&& 4294967295, h))) else (some ((x3.toInt32.toInt8.toInt32.toInt64 &&& (-1), h)))) else (if x1 = 193 then (if x1 = 193 then (some ((x3.toInt32.toInt16.toInt32.toInt64 &&& 4294967295, h))) else (some ((x3.toInt32.toInt16.toInt32.toInt64 &&& (-1), h)))) else (if x1 = 194 then (if x1 = 192 then (some ((x3.toInt32.toInt8.toInt32.toInt64 &&& 4294967295, h))) else (some ((x3.toInt32.toInt8.toInt32.toInt64 &&& (-1), h)))) else (if x1 = 195 then (if x1 = 193 then (some ((x3.toInt32.toInt16.toInt32.toInt64 &&& 4294967295, h))) else (some ((x3.toInt32.toInt16.toInt32.toInt64 &&& (-1), h)))) else (if x1 = 196 then (some ((x3.toInt32.toInt64, h))) else (some ((x3, h))))))))))))))))))))))))))))))))
noncomputable def fX16_turned_b68 (h : pm_H) (x0 : Nat) (x1 : Int32) (x2 : Int32) (x3 : Int64) : Option (Int64 × pm_H) := if 172 ≤ x1 then (if (x1 - x1 / 2 * 2) = 0 then (if pm_kd h x0 = 16 then (fX16_towards h x0 x2 x3 64 1 0).bind fun v27 => some ((v27.1, v27.2)) else none) else (if pm_kd h x0 = 16 then (fX16_towards h x0 x2 x3 64 0 0).bind fun v24 => some ((v24.1, v24.2)) else none)) else (if (x1 - x1 / 2 * 2) = 0 then (if pm_kd h x0 = 16 then (fX16_towards h x0 x2 x3 32 1 0).bind fun v34 => some ((v34.1, v34.2)) else none) else (if pm_kd h x0 = 16 then (fX16_towards h x0 x2 x3 32 0 0).bind fun v31 => some ((v31.1, v31.2)) else none))
noncomputable def fX16_turned_b54 (h : pm_H) (x0 : Nat) (x1 : Int32) (x2 : Int32) (x3 : Int64) : Option (Int64 × pm_H) := if x1 < 174 then (fX16_turned_b101 h x0 x1 x2 x3) else (if 178 ≤ x1 then (fX16_turned_b101 h x0 x1 x2 x3) else (fX16_turned_b68 h x0 x1 x2 x3))
noncomputable def fX16_turned (h : pm_H) (a0 : Nat) (p1 : Int32) (p2 : Int32) (p3 : Int64) : Option (Int64 × pm_H) := if p1 < 200 then (if p1 < 168 then (fX16_turned_b54 h a0 p1 p2 p3) else (if p1 < 172 then (fX16_turned_b68 h a0 p1 p2 p3) else (fX16_turned_b54 h a0 p1 p2 p3))) else (if 204 ≤ p1 then (if (p1 - p1 / 2 * 2) = 0 then (if pm_kd h a0 = 16 then (fX16_towards h a0 p2 p3 64 1 1).bind fun v10 => some ((v10.1, v10.2)) else none) else (if pm_kd h a0 = 16 then (fX16_towards h a0 p2 p3 64 0 1).bind fun v7 => some ((v7.1, v7.2)) else none)) else (if (p1 - p1 / 2 * 2) = 0 then (if pm_kd h a0 = 16 then (fX16_towards h a0 p2 p3 32 1 1).bind fun v17 => some ((v17.1, v17.2)) else none) else (if pm_kd h a0 = 16 then (fX16_towards h a0 p2 p3 32 0 1).bind fun v14 => some ((v14.1, v14.2)) else none)))
set_option maxHeartbeats 4000000 in
set_option maxRecDepth 100000 in
theorem bX16_turned_101 {g : pm_Gm} {l : Launch} {G : pm_Gl} {Qr : Option Value → pm_H → Prop} (C : pm_C g cX16_turned RX16) (X : pm_X g l G mX16_turned 0 0 Qr) {h : pm_H} {x0 : Nat} {x1 : Int32} {x2 : Int32} {x3 : Int64} {r : (Int64 × pm_H)} (hf : fX16_turned_b101 h x0 x1 x2 x3 = some r) (q : Qr (some (.long r.1)) r.2) : pm_G g 101 [(0, .ref x0), (1, .int x1), (2, .int x2), (3, .long x3)] [] h 0 0 := by
  unfold fX16_turned_b101 at hf
  refine pm_iload_n C dX16_turned_101 rfl rfl ?_
  by_cases c36 : x1 = 167
  · have hf := pm_it hf c36
    refine pm_tableIn (tgt := 236) C dX16_turned_102 (by rw [c36]; decide) (by rw [c36]; decide) (by rw [c36]; rfl) (by decide) ?_
    refine pm_lload_n C dX16_turned_236 rfl rfl ?_
    refine pm_ldc2 C dX16_turned_237 cnX16_513 ?_
    refine pm_land C dX16_turned_240 ?_
    cases hf
    exact pm_lret C X dX16_turned_241 rfl (Nat.le_refl _) (Nat.le_refl _) q
  have hf := pm_ie hf c36
  by_cases c37 : x1 = 168
  · have hf := pm_it hf c37
    refine pm_tableIn (tgt := 377) C dX16_turned_102 (by rw [c37]; decide) (by rw [c37]; decide) (by rw [c37]; rfl) (by decide) ?_
    refine pm_lload_n C dX16_turned_377 rfl rfl ?_
    cases hf
    exact pm_lret C X dX16_turned_378 rfl (Nat.le_refl _) (Nat.le_refl _) q
  have hf := pm_ie hf c37
  by_cases c38 : x1 = 169
  · have hf := pm_it hf c38
    refine pm_tableIn (tgt := 377) C dX16_turned_102 (by rw [c38]; decide) (by rw [c38]; decide) (by rw [c38]; rfl) (by decide) ?_
    refine pm_lload_n C dX16_turned_377 rfl rfl ?_
    cases hf
    exact pm_lret C X dX16_turned_378 rfl (Nat.le_refl _) (Nat.le_refl _) q
  have hf := pm_ie hf c38
  by_cases c39 : x1 = 170
  · have hf := pm_it hf c39
    refine pm_tableIn (tgt := 377) C dX16_turned_102 (by rw [c39]; decide) (by rw [c39]; decide) (by rw [c39]; rfl) (by decide) ?_
    refine pm_lload_n C dX16_turned_377 rfl rfl ?_
    cases hf
    exact pm_lret C X dX16_turned_378 rfl (Nat.le_refl _) (Nat.le_refl _) q
  have hf := pm_ie hf c39
  by_cases c40 : x1 = 171
  · have hf := pm_it hf c40
    refine pm_tableIn (tgt := 377) C dX16_turned_102 (by rw [c40]; decide) (by rw [c40]; decide) (by rw [c40]; rfl) (by decide) ?_
    refine pm_lload_n C dX16_turned_377 rfl rfl ?_
    cases hf
    exact pm_lret C X dX16_turned_378 rfl (Nat.le_refl _) (Nat.le_refl _) q
  have hf := pm_ie hf c40
  by_cases c41 : x1 = 172
  · have hf := pm_it hf c41
    refine pm_tableIn (tgt := 242) C dX16_turned_102 (by rw [c41]; decide) (by rw [c41]; decide) (by rw [c41]; rfl) (by decide) ?_
    refine pm_lload_n C dX16_turned_242 rfl rfl ?_
    refine pm_l2i C dX16_turned_243 ?_
    refine pm_i2l C dX16_turned_244 ?_
    cases hf
    exact pm_lret C X dX16_turned_245 rfl (Nat.le_refl _) (Nat.le_refl _) q
  have hf := pm_ie hf c41
  by_cases c42 : x1 = 173
  · have hf := pm_it hf c42
    refine pm_tableIn (tgt := 377) C dX16_turned_102 (by rw [c42]; decide) (by rw [c42]; decide) (by rw [c42]; rfl) (by decide) ?_
    refine pm_lload_n C dX16_turned_377 rfl rfl ?_
    cases hf
    exact pm_lret C X dX16_turned_378 rfl (Nat.le_refl _) (Nat.le_refl _) q
  have hf := pm_ie hf c42
  by_cases c43 : x1 = 174
  · have hf := pm_it hf c43
    refine pm_tableIn (tgt := 377) C dX16_turned_102 (by rw [c43]; decide) (by rw [c43]; decide) (by rw [c43]; rfl) (by decide) ?_
    refine pm_lload_n C dX16_turned_377 rfl rfl ?_
    cases hf
    exact pm_lret C X dX16_turned_378 rfl (Nat.le_refl _) (Nat.le_refl _) q
  have hf := pm_ie hf c43
  by_cases c44 : x1 = 175
  · have hf := pm_it hf c44
    refine pm_tableIn (tgt := 377) C dX16_turned_102 (by rw [c44]; decide) (by rw [c44]; decide) (by rw [c44]; rfl) (by decide) ?_
    refine pm_lload_n C dX16_turned_377 rfl rfl ?_
    cases hf
    exact pm_lret C X dX16_turned_378 rfl (Nat.le_refl _) (Nat.le_refl _) q
  have hf := pm_ie hf c44
  by_cases c45 : x1 = 176
  · have hf := pm_it hf c45
    refine pm_tableIn (tgt := 377) C dX16_turned_102 (by rw [c45]; decide) (by rw [c45]; decide) (by rw [c45]; rfl) (by decide) ?_
    refine pm_lload_n C dX16_turned_377 rfl rfl ?_
    cases hf
    exact pm_lret C X dX16_turned_378 rfl (Nat.le_refl _) (Nat.le_refl _) q
  have hf := pm_ie hf c45
  by_cases c46 : x1 = 177
  · have hf := pm_it hf c46
    refine pm_tableIn (tgt := 377) C dX16_turned_102 (by rw [c46]; decide) (by rw [c46]; decide) (by rw [c46]; rfl) (by decide) ?_
    refine pm_lload_n C dX16_turned_377 rfl rfl ?_
    cases hf
    exact pm_lret C X dX16_turned_378 rfl (Nat.le_refl _) (Nat.le_refl _) q
  have hf := pm_ie hf c46
  by_cases c47 : x1 = 178
  · have hf := pm_it hf c47
    refine pm_tableIn (tgt := 246) C dX16_turned_102 (by rw [c47]; decide) (by rw [c47]; decide) (by rw [c47]; rfl) (by decide) ?_
    refine pm_iload_n C dX16_turned_246 rfl rfl ?_
    obtain ⟨v48, e49, hf⟩ := pm_lt hf
    refine pm_callS (as := [.int x1]) (st := []) C X dX16_turned_247 lnX16_759 myX16_resultOf stX16_resultOf ⟨by decide, by decide⟩ rfl rfl (Nat.le_of_ble_eq_true rfl) (Nat.le_refl _) (Nat.le_refl _) (ctX16_resultOf e49 ?_)
    show pm_G g 250 [(0, .ref x0), (1, .int x1), (2, .int x2), (3, .long x3)] [.int v48] h 0 0
    refine pm_lload_n C dX16_turned_250 rfl rfl ?_
    refine pm_l2i C dX16_turned_251 ?_
    refine pm_if_ge (tgt := 262) C dX16_turned_252 (by decide) (fun c50 => ?_) (fun c50 => ?_)
    · have hf := pm_it hf c50
      refine pm_lload_n C dX16_turned_262 rfl rfl ?_
      refine pm_lload_n C dX16_turned_263 rfl rfl ?_
      refine pm_l2i C dX16_turned_264 ?_
      refine pm_if_ge (tgt := 272) C dX16_turned_265 (by decide) (fun c51 => ?_) (fun c51 => ?_)
      · have hf := pm_it hf c51
        refine pm_iconst (v := 0) C dX16_turned_272 (by decide) ?_
        obtain ⟨v52, e53, hf⟩ := pm_bd hf
        refine pm_callS (as := [.int v48, .long x3, .int 0]) (st := []) C X dX16_turned_273 lnX16_942 myX16_ofWhole stX16_ofWhole ⟨by decide, by decide⟩ rfl rfl (Nat.le_of_ble_eq_true rfl) (Nat.le_refl _) (Nat.le_refl _) (ctX16_ofWhole e53 ?_)
        show pm_G g 276 [(0, .ref x0), (1, .int x1), (2, .int x2), (3, .long x3)] [.long v52] h 0 0
        cases hf
        exact pm_lret C X dX16_turned_276 rfl (Nat.le_refl _) (Nat.le_refl _) q
      · have hf := pm_ie hf c51
        refine pm_iconst (v := 1) C dX16_turned_268 (by decide) ?_
        refine pm_goto (tgt := 273) C dX16_turned_269 (by decide) ?_
        obtain ⟨v54, e55, hf⟩ := pm_bd hf
        refine pm_callS (as := [.int v48, .long x3, .int 1]) (st := []) C X dX16_turned_273 lnX16_942 myX16_ofWhole stX16_ofWhole ⟨by decide, by decide⟩ rfl rfl (Nat.le_of_ble_eq_true rfl) (Nat.le_refl _) (Nat.le_refl _) (ctX16_ofWhole e55 ?_)
        show pm_G g 276 [(0, .ref x0), (1, .int x1), (2, .int x2), (3, .long x3)] [.long v54] h 0 0
        cases hf
        exact pm_lret C X dX16_turned_276 rfl (Nat.le_refl _) (Nat.le_refl _) q
    · have hf := pm_ie hf c50
      refine pm_lload_n C dX16_turned_255 rfl rfl ?_
      refine pm_l2i C dX16_turned_256 ?_
      refine pm_i2l C dX16_turned_257 ?_
      refine pm_lneg C dX16_turned_258 ?_
      refine pm_goto (tgt := 263) C dX16_turned_259 (by decide) ?_
      refine pm_lload_n C dX16_turned_263 rfl rfl ?_
      refine pm_l2i C dX16_turned_264 ?_
      refine pm_if_ge (tgt := 272) C dX16_turned_265 (by decide) (fun c56 => ?_) (fun c56 => ?_)
      · have hf := pm_it hf c56
        refine pm_iconst (v := 0) C dX16_turned_272 (by decide) ?_
        obtain ⟨v57, e58, hf⟩ := pm_bd hf
        refine pm_callS (as := [.int v48, .long (-x3.toInt32.toInt64), .int 0]) (st := []) C X dX16_turned_273 lnX16_942 myX16_ofWhole stX16_ofWhole ⟨by decide, by decide⟩ rfl rfl (Nat.le_of_ble_eq_true rfl) (Nat.le_refl _) (Nat.le_refl _) (ctX16_ofWhole e58 ?_)
        show pm_G g 276 [(0, .ref x0), (1, .int x1), (2, .int x2), (3, .long x3)] [.long v57] h 0 0
        cases hf
        exact pm_lret C X dX16_turned_276 rfl (Nat.le_refl _) (Nat.le_refl _) q
      · have hf := pm_ie hf c56
        refine pm_iconst (v := 1) C dX16_turned_268 (by decide) ?_
        refine pm_goto (tgt := 273) C dX16_turned_269 (by decide) ?_
        obtain ⟨v59, e60, hf⟩ := pm_bd hf
        refine pm_callS (as := [.int v48, .long (-x3.toInt32.toInt64), .int 1]) (st := []) C X dX16_turned_273 lnX16_942 myX16_ofWhole stX16_ofWhole ⟨by decide, by decide⟩ rfl rfl (Nat.le_of_ble_eq_true rfl) (Nat.le_refl _) (Nat.le_refl _) (ctX16_ofWhole e60 ?_)
        show pm_G g 276 [(0, .ref x0), (1, .int x1), (2, .int x2), (3, .long x3)] [.long v59] h 0 0
        cases hf
        exact pm_lret C X dX16_turned_276 rfl (Nat.le_refl _) (Nat.le_refl _) q
  have hf := pm_ie hf c47
  by_cases c61 : x1 = 179
  · have hf := pm_it hf c61
    refine pm_tableIn (tgt := 308) C dX16_turned_102 (by rw [c61]; decide) (by rw [c61]; decide) (by rw [c61]; rfl) (by decide) ?_
    refine pm_iload_n C dX16_turned_308 rfl rfl ?_
    obtain ⟨v62, e63, hf⟩ := pm_lt hf
    refine pm_callS (as := [.int x1]) (st := []) C X dX16_turned_309 lnX16_759 myX16_resultOf stX16_resultOf ⟨by decide, by decide⟩ rfl rfl (Nat.le_of_ble_eq_true rfl) (Nat.le_refl _) (Nat.le_refl _) (ctX16_resultOf e63 ?_)
    show pm_G g 312 [(0, .ref x0), (1, .int x1), (2, .int x2), (3, .long x3)] [.int v62] h 0 0
    refine pm_lload_n C dX16_turned_312 rfl rfl ?_
    refine pm_iconst (v := 0) C dX16_turned_313 (by decide) ?_
    obtain ⟨v64, e65, hf⟩ := pm_bd hf
    refine pm_callS (as := [.int v62, .long x3, .int 0]) (st := []) C X dX16_turned_314 lnX16_942 myX16_ofWhole stX16_ofWhole ⟨by decide, by decide⟩ rfl rfl (Nat.le_of_ble_eq_true rfl) (Nat.le_refl _) (Nat.le_refl _) (ctX16_ofWhole e65 ?_)
    show pm_G g 317 [(0, .ref x0), (1, .int x1), (2, .int x2), (3, .long x3)] [.long v64] h 0 0
    cases hf
    exact pm_lret C X dX16_turned_317 rfl (Nat.le_refl _) (Nat.le_refl _) q
  have hf := pm_ie hf c61
  by_cases c66 : x1 = 180
  · have hf := pm_it hf c66
    refine pm_tableIn (tgt := 277) C dX16_turned_102 (by rw [c66]; decide) (by rw [c66]; decide) (by rw [c66]; rfl) (by decide) ?_
    refine pm_iload_n C dX16_turned_277 rfl rfl ?_
    obtain ⟨v67, e68, hf⟩ := pm_lt hf
    refine pm_callS (as := [.int x1]) (st := []) C X dX16_turned_278 lnX16_759 myX16_resultOf stX16_resultOf ⟨by decide, by decide⟩ rfl rfl (Nat.le_of_ble_eq_true rfl) (Nat.le_refl _) (Nat.le_refl _) (ctX16_resultOf e68 ?_)
    show pm_G g 281 [(0, .ref x0), (1, .int x1), (2, .int x2), (3, .long x3)] [.int v67] h 0 0
    refine pm_lload_n C dX16_turned_281 rfl rfl ?_
    refine pm_lconst (v := 0) C dX16_turned_282 (by decide) ?_
    refine pm_lcmp C dX16_turned_283 ?_
    refine pm_if_ge (tgt := 292) C dX16_turned_284 (by decide) (fun c69 => ?_) (fun c69 => ?_)
    · have hf := pm_it hf ((pm_lg_ge _ _).mp c69)
      refine pm_lload_n C dX16_turned_292 rfl rfl ?_
      refine pm_lload_n C dX16_turned_293 rfl rfl ?_
      refine pm_lconst (v := 0) C dX16_turned_294 (by decide) ?_
      refine pm_lcmp C dX16_turned_295 ?_
      refine pm_if_ge (tgt := 303) C dX16_turned_296 (by decide) (fun c70 => ?_) (fun c70 => ?_)
      · have hf := pm_it hf ((pm_lg_ge _ _).mp c70)
        refine pm_iconst (v := 0) C dX16_turned_303 (by decide) ?_
        obtain ⟨v71, e72, hf⟩ := pm_bd hf
        refine pm_callS (as := [.int v67, .long x3, .int 0]) (st := []) C X dX16_turned_304 lnX16_942 myX16_ofWhole stX16_ofWhole ⟨by decide, by decide⟩ rfl rfl (Nat.le_of_ble_eq_true rfl) (Nat.le_refl _) (Nat.le_refl _) (ctX16_ofWhole e72 ?_)
        show pm_G g 307 [(0, .ref x0), (1, .int x1), (2, .int x2), (3, .long x3)] [.long v71] h 0 0
        cases hf
        exact pm_lret C X dX16_turned_307 rfl (Nat.le_refl _) (Nat.le_refl _) q
      · have hf := pm_ie hf ((fun z => c70 ((pm_lg_ge _ _).mpr z)))
        refine pm_iconst (v := 1) C dX16_turned_299 (by decide) ?_
        refine pm_goto (tgt := 304) C dX16_turned_300 (by decide) ?_
        obtain ⟨v73, e74, hf⟩ := pm_bd hf
        refine pm_callS (as := [.int v67, .long x3, .int 1]) (st := []) C X dX16_turned_304 lnX16_942 myX16_ofWhole stX16_ofWhole ⟨by decide, by decide⟩ rfl rfl (Nat.le_of_ble_eq_true rfl) (Nat.le_refl _) (Nat.le_refl _) (ctX16_ofWhole e74 ?_)
        show pm_G g 307 [(0, .ref x0), (1, .int x1), (2, .int x2), (3, .long x3)] [.long v73] h 0 0
        cases hf
        exact pm_lret C X dX16_turned_307 rfl (Nat.le_refl _) (Nat.le_refl _) q
    · have hf := pm_ie hf ((fun z => c69 ((pm_lg_ge _ _).mpr z)))
      refine pm_lload_n C dX16_turned_287 rfl rfl ?_
      refine pm_lneg C dX16_turned_288 ?_
      refine pm_goto (tgt := 293) C dX16_turned_289 (by decide) ?_
      refine pm_lload_n C dX16_turned_293 rfl rfl ?_
      refine pm_lconst (v := 0) C dX16_turned_294 (by decide) ?_
      refine pm_lcmp C dX16_turned_295 ?_
      refine pm_if_ge (tgt := 303) C dX16_turned_296 (by decide) (fun c75 => ?_) (fun c75 => ?_)
      · have hf := pm_it hf ((pm_lg_ge _ _).mp c75)
        refine pm_iconst (v := 0) C dX16_turned_303 (by decide) ?_
        obtain ⟨v76, e77, hf⟩ := pm_bd hf
        refine pm_callS (as := [.int v67, .long (-x3), .int 0]) (st := []) C X dX16_turned_304 lnX16_942 myX16_ofWhole stX16_ofWhole ⟨by decide, by decide⟩ rfl rfl (Nat.le_of_ble_eq_true rfl) (Nat.le_refl _) (Nat.le_refl _) (ctX16_ofWhole e77 ?_)
        show pm_G g 307 [(0, .ref x0), (1, .int x1), (2, .int x2), (3, .long x3)] [.long v76] h 0 0
        cases hf
        exact pm_lret C X dX16_turned_307 rfl (Nat.le_refl _) (Nat.le_refl _) q
      · have hf := pm_ie hf ((fun z => c75 ((pm_lg_ge _ _).mpr z)))
        refine pm_iconst (v := 1) C dX16_turned_299 (by decide) ?_
        refine pm_goto (tgt := 304) C dX16_turned_300 (by decide) ?_
        obtain ⟨v78, e79, hf⟩ := pm_bd hf
        refine pm_callS (as := [.int v67, .long (-x3), .int 1]) (st := []) C X dX16_turned_304 lnX16_942 myX16_ofWhole stX16_ofWhole ⟨by decide, by decide⟩ rfl rfl (Nat.le_of_ble_eq_true rfl) (Nat.le_refl _) (Nat.le_refl _) (ctX16_ofWhole e79 ?_)
        show pm_G g 307 [(0, .ref x0), (1, .int x1), (2, .int x2), (3, .long x3)] [.long v78] h 0 0
        cases hf
        exact pm_lret C X dX16_turned_307 rfl (Nat.le_refl _) (Nat.le_refl _) q
  have hf := pm_ie hf c66
  by_cases c80 : x1 = 181
  · have hf := pm_it hf c80
    refine pm_tableIn (tgt := 308) C dX16_turned_102 (by rw [c80]; decide) (by rw [c80]; decide) (by rw [c80]; rfl) (by decide) ?_
    refine pm_iload_n C dX16_turned_308 rfl rfl ?_
    obtain ⟨v81, e82, hf⟩ := pm_lt hf
    refine pm_callS (as := [.int x1]) (st := []) C X dX16_turned_309 lnX16_759 myX16_resultOf stX16_resultOf ⟨by decide, by decide⟩ rfl rfl (Nat.le_of_ble_eq_true rfl) (Nat.le_refl _) (Nat.le_refl _) (ctX16_resultOf e82 ?_)
    show pm_G g 312 [(0, .ref x0), (1, .int x1), (2, .int x2), (3, .long x3)] [.int v81] h 0 0
    refine pm_lload_n C dX16_turned_312 rfl rfl ?_
    refine pm_iconst (v := 0) C dX16_turned_313 (by decide) ?_
    obtain ⟨v83, e84, hf⟩ := pm_bd hf
    refine pm_callS (as := [.int v81, .long x3, .int 0]) (st := []) C X dX16_turned_314 lnX16_942 myX16_ofWhole stX16_ofWhole ⟨by decide, by decide⟩ rfl rfl (Nat.le_of_ble_eq_true rfl) (Nat.le_refl _) (Nat.le_refl _) (ctX16_ofWhole e84 ?_)
    show pm_G g 317 [(0, .ref x0), (1, .int x1), (2, .int x2), (3, .long x3)] [.long v83] h 0 0
    cases hf
    exact pm_lret C X dX16_turned_317 rfl (Nat.le_refl _) (Nat.le_refl _) q
  have hf := pm_ie hf c80
  by_cases c85 : x1 = 182
  · have hf := pm_it hf c85
    refine pm_tableIn (tgt := 318) C dX16_turned_102 (by rw [c85]; decide) (by rw [c85]; decide) (by rw [c85]; rfl) (by decide) ?_
    refine pm_aload_n C dX16_turned_318 rfl rfl ?_
    refine pm_iload_n C dX16_turned_319 rfl rfl ?_
    obtain ⟨v86, e87, hf⟩ := pm_lt hf
    refine pm_callS (as := [.int x1]) (st := [.ref x0]) C X dX16_turned_320 lnX16_759 myX16_resultOf stX16_resultOf ⟨by decide, by decide⟩ rfl rfl (Nat.le_of_ble_eq_true rfl) (Nat.le_refl _) (Nat.le_refl _) (ctX16_resultOf e87 ?_)
    show pm_G g 323 [(0, .ref x0), (1, .int x1), (2, .int x2), (3, .long x3)] [.int v86, .ref x0] h 0 0
    refine pm_iload_n C dX16_turned_323 rfl rfl ?_
    refine pm_lload_n C dX16_turned_324 rfl rfl ?_
    obtain ⟨k88, hf⟩ := pm_if hf
    obtain ⟨v89, e90, hf⟩ := pm_bd hf
    refine pm_callV (as := [.int v86, .int x2, .long x3]) (st := []) C X dX16_turned_325 lnX16_946 myX16_moved viX16_moved ⟨by decide, by decide⟩ rfl rfl k88 (Nat.le_of_ble_eq_true rfl) (Nat.le_refl _) (Nat.le_refl _) (ctX16_moved e90 ?_)
    show pm_G g 328 [(0, .ref x0), (1, .int x1), (2, .int x2), (3, .long x3)] [.long v89.1] v89.2 0 0
    cases hf
    exact pm_lret C X dX16_turned_328 rfl (Nat.le_refl _) (Nat.le_refl _) q
  have hf := pm_ie hf c85
  by_cases c91 : x1 = 183
  · have hf := pm_it hf c91
    refine pm_tableIn (tgt := 246) C dX16_turned_102 (by rw [c91]; decide) (by rw [c91]; decide) (by rw [c91]; rfl) (by decide) ?_
    refine pm_iload_n C dX16_turned_246 rfl rfl ?_
    obtain ⟨v92, e93, hf⟩ := pm_lt hf
    refine pm_callS (as := [.int x1]) (st := []) C X dX16_turned_247 lnX16_759 myX16_resultOf stX16_resultOf ⟨by decide, by decide⟩ rfl rfl (Nat.le_of_ble_eq_true rfl) (Nat.le_refl _) (Nat.le_refl _) (ctX16_resultOf e93 ?_)
    show pm_G g 250 [(0, .ref x0), (1, .int x1), (2, .int x2), (3, .long x3)] [.int v92] h 0 0
    refine pm_lload_n C dX16_turned_250 rfl rfl ?_
    refine pm_l2i C dX16_turned_251 ?_
    refine pm_if_ge (tgt := 262) C dX16_turned_252 (by decide) (fun c94 => ?_) (fun c94 => ?_)
    · have hf := pm_it hf c94
      refine pm_lload_n C dX16_turned_262 rfl rfl ?_
      refine pm_lload_n C dX16_turned_263 rfl rfl ?_
      refine pm_l2i C dX16_turned_264 ?_
      refine pm_if_ge (tgt := 272) C dX16_turned_265 (by decide) (fun c95 => ?_) (fun c95 => ?_)
      · have hf := pm_it hf c95
        refine pm_iconst (v := 0) C dX16_turned_272 (by decide) ?_
        obtain ⟨v96, e97, hf⟩ := pm_bd hf
        refine pm_callS (as := [.int v92, .long x3, .int 0]) (st := []) C X dX16_turned_273 lnX16_942 myX16_ofWhole stX16_ofWhole ⟨by decide, by decide⟩ rfl rfl (Nat.le_of_ble_eq_true rfl) (Nat.le_refl _) (Nat.le_refl _) (ctX16_ofWhole e97 ?_)
        show pm_G g 276 [(0, .ref x0), (1, .int x1), (2, .int x2), (3, .long x3)] [.long v96] h 0 0
        cases hf
        exact pm_lret C X dX16_turned_276 rfl (Nat.le_refl _) (Nat.le_refl _) q
      · have hf := pm_ie hf c95
        refine pm_iconst (v := 1) C dX16_turned_268 (by decide) ?_
        refine pm_goto (tgt := 273) C dX16_turned_269 (by decide) ?_
        obtain ⟨v98, e99, hf⟩ := pm_bd hf
        refine pm_callS (as := [.int v92, .long x3, .int 1]) (st := []) C X dX16_turned_273 lnX16_942 myX16_ofWhole stX16_ofWhole ⟨by decide, by decide⟩ rfl rfl (Nat.le_of_ble_eq_true rfl) (Nat.le_refl _) (Nat.le_refl _) (ctX16_ofWhole e99 ?_)
        show pm_G g 276 [(0, .ref x0), (1, .int x1), (2, .int x2), (3, .long x3)] [.long v98] h 0 0
        cases hf
        exact pm_lret C X dX16_turned_276 rfl (Nat.le_refl _) (Nat.le_refl _) q
    · have hf := pm_ie hf c94
      refine pm_lload_n C dX16_turned_255 rfl rfl ?_
      refine pm_l2i C dX16_turned_256 ?_
      refine pm_i2l C dX16_turned_257 ?_
      refine pm_lneg C dX16_turned_258 ?_
      refine pm_goto (tgt := 263) C dX16_turned_259 (by decide) ?_
      refine pm_lload_n C dX16_turned_263 rfl rfl ?_
      refine pm_l2i C dX16_turned_264 ?_
      refine pm_if_ge (tgt := 272) C dX16_turned_265 (by decide) (fun c100 => ?_) (fun c100 => ?_)
      · have hf := pm_it hf c100
        refine pm_iconst (v := 0) C dX16_turned_272 (by decide) ?_
        obtain ⟨v101, e102, hf⟩ := pm_bd hf
        refine pm_callS (as := [.int v92, .long (-x3.toInt32.toInt64), .int 0]) (st := []) C X dX16_turned_273 lnX16_942 myX16_ofWhole stX16_ofWhole ⟨by decide, by decide⟩ rfl rfl (Nat.le_of_ble_eq_true rfl) (Nat.le_refl _) (Nat.le_refl _) (ctX16_ofWhole e102 ?_)
        show pm_G g 276 [(0, .ref x0), (1, .int x1), (2, .int x2), (3, .long x3)] [.long v101] h 0 0
        cases hf
        exact pm_lret C X dX16_turned_276 rfl (Nat.le_refl _) (Nat.le_refl _) q
      · have hf := pm_ie hf c100
        refine pm_iconst (v := 1) C dX16_turned_268 (by decide) ?_
        refine pm_goto (tgt := 273) C dX16_turned_269 (by decide) ?_
        obtain ⟨v103, e104, hf⟩ := pm_bd hf
        refine pm_callS (as := [.int v92, .long (-x3.toInt32.toInt64), .int 1]) (st := []) C X dX16_turned_273 lnX16_942 myX16_ofWhole stX16_ofWhole ⟨by decide, by decide⟩ rfl rfl (Nat.le_of_ble_eq_true rfl) (Nat.le_refl _) (Nat.le_refl _) (ctX16_ofWhole e104 ?_)
        show pm_G g 276 [(0, .ref x0), (1, .int x1), (2, .int x2), (3, .long x3)] [.long v103] h 0 0
        cases hf
        exact pm_lret C X dX16_turned_276 rfl (Nat.le_refl _) (Nat.le_refl _) q
  have hf := pm_ie hf c91
  by_cases c105 : x1 = 184
  · have hf := pm_it hf c105
    refine pm_tableIn (tgt := 308) C dX16_turned_102 (by rw [c105]; decide) (by rw [c105]; decide) (by rw [c105]; rfl) (by decide) ?_
    refine pm_iload_n C dX16_turned_308 rfl rfl ?_
    obtain ⟨v106, e107, hf⟩ := pm_lt hf
    refine pm_callS (as := [.int x1]) (st := []) C X dX16_turned_309 lnX16_759 myX16_resultOf stX16_resultOf ⟨by decide, by decide⟩ rfl rfl (Nat.le_of_ble_eq_true rfl) (Nat.le_refl _) (Nat.le_refl _) (ctX16_resultOf e107 ?_)
    show pm_G g 312 [(0, .ref x0), (1, .int x1), (2, .int x2), (3, .long x3)] [.int v106] h 0 0
    refine pm_lload_n C dX16_turned_312 rfl rfl ?_
    refine pm_iconst (v := 0) C dX16_turned_313 (by decide) ?_
    obtain ⟨v108, e109, hf⟩ := pm_bd hf
    refine pm_callS (as := [.int v106, .long x3, .int 0]) (st := []) C X dX16_turned_314 lnX16_942 myX16_ofWhole stX16_ofWhole ⟨by decide, by decide⟩ rfl rfl (Nat.le_of_ble_eq_true rfl) (Nat.le_refl _) (Nat.le_refl _) (ctX16_ofWhole e109 ?_)
    show pm_G g 317 [(0, .ref x0), (1, .int x1), (2, .int x2), (3, .long x3)] [.long v108] h 0 0
    cases hf
    exact pm_lret C X dX16_turned_317 rfl (Nat.le_refl _) (Nat.le_refl _) q
  have hf := pm_ie hf c105
  by_cases c110 : x1 = 185
  · have hf := pm_it hf c110
    refine pm_tableIn (tgt := 277) C dX16_turned_102 (by rw [c110]; decide) (by rw [c110]; decide) (by rw [c110]; rfl) (by decide) ?_
    refine pm_iload_n C dX16_turned_277 rfl rfl ?_
    obtain ⟨v111, e112, hf⟩ := pm_lt hf
    refine pm_callS (as := [.int x1]) (st := []) C X dX16_turned_278 lnX16_759 myX16_resultOf stX16_resultOf ⟨by decide, by decide⟩ rfl rfl (Nat.le_of_ble_eq_true rfl) (Nat.le_refl _) (Nat.le_refl _) (ctX16_resultOf e112 ?_)
    show pm_G g 281 [(0, .ref x0), (1, .int x1), (2, .int x2), (3, .long x3)] [.int v111] h 0 0
    refine pm_lload_n C dX16_turned_281 rfl rfl ?_
    refine pm_lconst (v := 0) C dX16_turned_282 (by decide) ?_
    refine pm_lcmp C dX16_turned_283 ?_
    refine pm_if_ge (tgt := 292) C dX16_turned_284 (by decide) (fun c113 => ?_) (fun c113 => ?_)
    · have hf := pm_it hf ((pm_lg_ge _ _).mp c113)
      refine pm_lload_n C dX16_turned_292 rfl rfl ?_
      refine pm_lload_n C dX16_turned_293 rfl rfl ?_
      refine pm_lconst (v := 0) C dX16_turned_294 (by decide) ?_
      refine pm_lcmp C dX16_turned_295 ?_
      refine pm_if_ge (tgt := 303) C dX16_turned_296 (by decide) (fun c114 => ?_) (fun c114 => ?_)
      · have hf := pm_it hf ((pm_lg_ge _ _).mp c114)
        refine pm_iconst (v := 0) C dX16_turned_303 (by decide) ?_
        obtain ⟨v115, e116, hf⟩ := pm_bd hf
        refine pm_callS (as := [.int v111, .long x3, .int 0]) (st := []) C X dX16_turned_304 lnX16_942 myX16_ofWhole stX16_ofWhole ⟨by decide, by decide⟩ rfl rfl (Nat.le_of_ble_eq_true rfl) (Nat.le_refl _) (Nat.le_refl _) (ctX16_ofWhole e116 ?_)
        show pm_G g 307 [(0, .ref x0), (1, .int x1), (2, .int x2), (3, .long x3)] [.long v115] h 0 0
        cases hf
        exact pm_lret C X dX16_turned_307 rfl (Nat.le_refl _) (Nat.le_refl _) q
      · have hf := pm_ie hf ((fun z => c114 ((pm_lg_ge _ _).mpr z)))
        refine pm_iconst (v := 1) C dX16_turned_299 (by decide) ?_
        refine pm_goto (tgt := 304) C dX16_turned_300 (by decide) ?_
        obtain ⟨v117, e118, hf⟩ := pm_bd hf
        refine pm_callS (as := [.int v111, .long x3, .int 1]) (st := []) C X dX16_turned_304 lnX16_942 myX16_ofWhole stX16_ofWhole ⟨by decide, by decide⟩ rfl rfl (Nat.le_of_ble_eq_true rfl) (Nat.le_refl _) (Nat.le_refl _) (ctX16_ofWhole e118 ?_)
        show pm_G g 307 [(0, .ref x0), (1, .int x1), (2, .int x2), (3, .long x3)] [.long v117] h 0 0
        cases hf
        exact pm_lret C X dX16_turned_307 rfl (Nat.le_refl _) (Nat.le_refl _) q
    · have hf := pm_ie hf ((fun z => c113 ((pm_lg_ge _ _).mpr z)))
      refine pm_lload_n C dX16_turned_287 rfl rfl ?_
      refine pm_lneg C dX16_turned_288 ?_
      refine pm_goto (tgt := 293) C dX16_turned_289 (by decide) ?_
      refine pm_lload_n C dX16_turned_293 rfl rfl ?_
      refine pm_lconst (v := 0) C dX16_turned_294 (by decide) ?_
      refine pm_lcmp C dX16_turned_295 ?_
      refine pm_if_ge (tgt := 303) C dX16_turned_296 (by decide) (fun c119 => ?_) (fun c119 => ?_)
      · have hf := pm_it hf ((pm_lg_ge _ _).mp c119)
        refine pm_iconst (v := 0) C dX16_turned_303 (by decide) ?_
        obtain ⟨v120, e121, hf⟩ := pm_bd hf
        refine pm_callS (as := [.int v111, .long (-x3), .int 0]) (st := []) C X dX16_turned_304 lnX16_942 myX16_ofWhole stX16_ofWhole ⟨by decide, by decide⟩ rfl rfl (Nat.le_of_ble_eq_true rfl) (Nat.le_refl _) (Nat.le_refl _) (ctX16_ofWhole e121 ?_)
        show pm_G g 307 [(0, .ref x0), (1, .int x1), (2, .int x2), (3, .long x3)] [.long v120] h 0 0
        cases hf
        exact pm_lret C X dX16_turned_307 rfl (Nat.le_refl _) (Nat.le_refl _) q
      · have hf := pm_ie hf ((fun z => c119 ((pm_lg_ge _ _).mpr z)))
        refine pm_iconst (v := 1) C dX16_turned_299 (by decide) ?_
        refine pm_goto (tgt := 304) C dX16_turned_300 (by decide) ?_
        obtain ⟨v122, e123, hf⟩ := pm_bd hf
        refine pm_callS (as := [.int v111, .long (-x3), .int 1]) (st := []) C X dX16_turned_304 lnX16_942 myX16_ofWhole stX16_ofWhole ⟨by decide, by decide⟩ rfl rfl (Nat.le_of_ble_eq_true rfl) (Nat.le_refl _) (Nat.le_refl _) (ctX16_ofWhole e123 ?_)
        show pm_G g 307 [(0, .ref x0), (1, .int x1), (2, .int x2), (3, .long x3)] [.long v122] h 0 0
        cases hf
        exact pm_lret C X dX16_turned_307 rfl (Nat.le_refl _) (Nat.le_refl _) q
  have hf := pm_ie hf c110
  by_cases c124 : x1 = 186
  · have hf := pm_it hf c124
    refine pm_tableIn (tgt := 308) C dX16_turned_102 (by rw [c124]; decide) (by rw [c124]; decide) (by rw [c124]; rfl) (by decide) ?_
    refine pm_iload_n C dX16_turned_308 rfl rfl ?_
    obtain ⟨v125, e126, hf⟩ := pm_lt hf
    refine pm_callS (as := [.int x1]) (st := []) C X dX16_turned_309 lnX16_759 myX16_resultOf stX16_resultOf ⟨by decide, by decide⟩ rfl rfl (Nat.le_of_ble_eq_true rfl) (Nat.le_refl _) (Nat.le_refl _) (ctX16_resultOf e126 ?_)
    show pm_G g 312 [(0, .ref x0), (1, .int x1), (2, .int x2), (3, .long x3)] [.int v125] h 0 0
    refine pm_lload_n C dX16_turned_312 rfl rfl ?_
    refine pm_iconst (v := 0) C dX16_turned_313 (by decide) ?_
    obtain ⟨v127, e128, hf⟩ := pm_bd hf
    refine pm_callS (as := [.int v125, .long x3, .int 0]) (st := []) C X dX16_turned_314 lnX16_942 myX16_ofWhole stX16_ofWhole ⟨by decide, by decide⟩ rfl rfl (Nat.le_of_ble_eq_true rfl) (Nat.le_refl _) (Nat.le_refl _) (ctX16_ofWhole e128 ?_)
    show pm_G g 317 [(0, .ref x0), (1, .int x1), (2, .int x2), (3, .long x3)] [.long v127] h 0 0
    cases hf
    exact pm_lret C X dX16_turned_317 rfl (Nat.le_refl _) (Nat.le_refl _) q
  have hf := pm_ie hf c124
  by_cases c129 : x1 = 187
  · have hf := pm_it hf c129
    refine pm_tableIn (tgt := 318) C dX16_turned_102 (by rw [c129]; decide) (by rw [c129]; decide) (by rw [c129]; rfl) (by decide) ?_
    refine pm_aload_n C dX16_turned_318 rfl rfl ?_
    refine pm_iload_n C dX16_turned_319 rfl rfl ?_
    obtain ⟨v130, e131, hf⟩ := pm_lt hf
    refine pm_callS (as := [.int x1]) (st := [.ref x0]) C X dX16_turned_320 lnX16_759 myX16_resultOf stX16_resultOf ⟨by decide, by decide⟩ rfl rfl (Nat.le_of_ble_eq_true rfl) (Nat.le_refl _) (Nat.le_refl _) (ctX16_resultOf e131 ?_)
    show pm_G g 323 [(0, .ref x0), (1, .int x1), (2, .int x2), (3, .long x3)] [.int v130, .ref x0] h 0 0
    refine pm_iload_n C dX16_turned_323 rfl rfl ?_
    refine pm_lload_n C dX16_turned_324 rfl rfl ?_
    obtain ⟨k132, hf⟩ := pm_if hf
    obtain ⟨v133, e134, hf⟩ := pm_bd hf
    refine pm_callV (as := [.int v130, .int x2, .long x3]) (st := []) C X dX16_turned_325 lnX16_946 myX16_moved viX16_moved ⟨by decide, by decide⟩ rfl rfl k132 (Nat.le_of_ble_eq_true rfl) (Nat.le_refl _) (Nat.le_refl _) (ctX16_moved e134 ?_)
    show pm_G g 328 [(0, .ref x0), (1, .int x1), (2, .int x2), (3, .long x3)] [.long v133.1] v133.2 0 0
    cases hf
    exact pm_lret C X dX16_turned_328 rfl (Nat.le_refl _) (Nat.le_refl _) q
  have hf := pm_ie hf c129
  by_cases c135 : x1 = 188
  · have hf := pm_it hf c135
    refine pm_tableIn (tgt := 377) C dX16_turned_102 (by rw [c135]; decide) (by rw [c135]; decide) (by rw [c135]; rfl) (by decide) ?_
    refine pm_lload_n C dX16_turned_377 rfl rfl ?_
    cases hf
    exact pm_lret C X dX16_turned_378 rfl (Nat.le_refl _) (Nat.le_refl _) q
  have hf := pm_ie hf c135
  by_cases c136 : x1 = 189
  · have hf := pm_it hf c136
    refine pm_tableIn (tgt := 377) C dX16_turned_102 (by rw [c136]; decide) (by rw [c136]; decide) (by rw [c136]; rfl) (by decide) ?_
    refine pm_lload_n C dX16_turned_377 rfl rfl ?_
    cases hf
    exact pm_lret C X dX16_turned_378 rfl (Nat.le_refl _) (Nat.le_refl _) q
  have hf := pm_ie hf c136
  by_cases c137 : x1 = 190
  · have hf := pm_it hf c137
    refine pm_tableIn (tgt := 377) C dX16_turned_102 (by rw [c137]; decide) (by rw [c137]; decide) (by rw [c137]; rfl) (by decide) ?_
    refine pm_lload_n C dX16_turned_377 rfl rfl ?_
    cases hf
    exact pm_lret C X dX16_turned_378 rfl (Nat.le_refl _) (Nat.le_refl _) q
  have hf := pm_ie hf c137
  by_cases c138 : x1 = 191
  · have hf := pm_it hf c138
    refine pm_tableIn (tgt := 377) C dX16_turned_102 (by rw [c138]; decide) (by rw [c138]; decide) (by rw [c138]; rfl) (by decide) ?_
    refine pm_lload_n C dX16_turned_377 rfl rfl ?_
    cases hf
    exact pm_lret C X dX16_turned_378 rfl (Nat.le_refl _) (Nat.le_refl _) q
  have hf := pm_ie hf c138
  by_cases c139 : x1 = 192
  · have hf := pm_it hf c139
    refine pm_tableIn (tgt := 329) C dX16_turned_102 (by rw [c139]; decide) (by rw [c139]; decide) (by rw [c139]; rfl) (by decide) ?_
    refine pm_lload_n C dX16_turned_329 rfl rfl ?_
    refine pm_l2i C dX16_turned_330 ?_
    refine pm_i2b C dX16_turned_331 ?_
    refine pm_i2l C dX16_turned_332 ?_
    refine pm_iload_n C dX16_turned_333 rfl rfl ?_
    refine pm_sipush (v := 192) C dX16_turned_334 (by decide) ?_
    refine pm_icmp_ne (tgt := 346) C dX16_turned_337 (by decide) (fun c140 => ?_) (fun c140 => ?_)
    · have hf := pm_ie hf c140
      refine pm_ldc2 C dX16_turned_346 cnX16_268 ?_
      refine pm_land C dX16_turned_349 ?_
      cases hf
      exact pm_lret C X dX16_turned_350 rfl (Nat.le_refl _) (Nat.le_refl _) q
    · have hf := pm_it hf c140
      refine pm_ldc2 C dX16_turned_340 cnX16_513 ?_
      refine pm_goto (tgt := 349) C dX16_turned_343 (by decide) ?_
      refine pm_land C dX16_turned_349 ?_
      cases hf
      exact pm_lret C X dX16_turned_350 rfl (Nat.le_refl _) (Nat.le_refl _) q
  have hf := pm_ie hf c139
  by_cases c141 : x1 = 193
  · have hf := pm_it hf c141
    refine pm_tableIn (tgt := 351) C dX16_turned_102 (by rw [c141]; decide) (by rw [c141]; decide) (by rw [c141]; rfl) (by decide) ?_
    refine pm_lload_n C dX16_turned_351 rfl rfl ?_
    refine pm_l2i C dX16_turned_352 ?_
    refine pm_i2s C dX16_turned_353 ?_
    refine pm_i2l C dX16_turned_354 ?_
    refine pm_iload_n C dX16_turned_355 rfl rfl ?_
    refine pm_sipush (v := 193) C dX16_turned_356 (by decide) ?_
    refine pm_icmp_ne (tgt := 368) C dX16_turned_359 (by decide) (fun c142 => ?_) (fun c142 => ?_)
    · have hf := pm_ie hf c142
      refine pm_ldc2 C dX16_turned_368 cnX16_268 ?_
      refine pm_land C dX16_turned_371 ?_
      cases hf
      exact pm_lret C X dX16_turned_372 rfl (Nat.le_refl _) (Nat.le_refl _) q
    · have hf := pm_it hf c142
      refine pm_ldc2 C dX16_turned_362 cnX16_513 ?_
      refine pm_goto (tgt := 371) C dX16_turned_365 (by decide) ?_
      refine pm_land C dX16_turned_371 ?_
      cases hf
      exact pm_lret C X dX16_turned_372 rfl (Nat.le_refl _) (Nat.le_refl _) q
  have hf := pm_ie hf c141
  by_cases c143 : x1 = 194
  · have hf := pm_it hf c143
    refine pm_tableIn (tgt := 329) C dX16_turned_102 (by rw [c143]; decide) (by rw [c143]; decide) (by rw [c143]; rfl) (by decide) ?_
    refine pm_lload_n C dX16_turned_329 rfl rfl ?_
    refine pm_l2i C dX16_turned_330 ?_
    refine pm_i2b C dX16_turned_331 ?_
    refine pm_i2l C dX16_turned_332 ?_
    refine pm_iload_n C dX16_turned_333 rfl rfl ?_
    refine pm_sipush (v := 192) C dX16_turned_334 (by decide) ?_
    refine pm_icmp_ne (tgt := 346) C dX16_turned_337 (by decide) (fun c144 => ?_) (fun c144 => ?_)
    · have hf := pm_ie hf c144
      refine pm_ldc2 C dX16_turned_346 cnX16_268 ?_
      refine pm_land C dX16_turned_349 ?_
      cases hf
      exact pm_lret C X dX16_turned_350 rfl (Nat.le_refl _) (Nat.le_refl _) q
    · have hf := pm_it hf c144
      refine pm_ldc2 C dX16_turned_340 cnX16_513 ?_
      refine pm_goto (tgt := 349) C dX16_turned_343 (by decide) ?_
      refine pm_land C dX16_turned_349 ?_
      cases hf
      exact pm_lret C X dX16_turned_350 rfl (Nat.le_refl _) (Nat.le_refl _) q
  have hf := pm_ie hf c143
  by_cases c145 : x1 = 195
  · have hf := pm_it hf c145
    refine pm_tableIn (tgt := 351) C dX16_turned_102 (by rw [c145]; decide) (by rw [c145]; decide) (by rw [c145]; rfl) (by decide) ?_
    refine pm_lload_n C dX16_turned_351 rfl rfl ?_
    refine pm_l2i C dX16_turned_352 ?_
    refine pm_i2s C dX16_turned_353 ?_
    refine pm_i2l C dX16_turned_354 ?_
    refine pm_iload_n C dX16_turned_355 rfl rfl ?_
    refine pm_sipush (v := 193) C dX16_turned_356 (by decide) ?_
    refine pm_icmp_ne (tgt := 368) C dX16_turned_359 (by decide) (fun c146 => ?_) (fun c146 => ?_)
    · have hf := pm_ie hf c146
      refine pm_ldc2 C dX16_turned_368 cnX16_268 ?_
      refine pm_land C dX16_turned_371 ?_
      cases hf
      exact pm_lret C X dX16_turned_372 rfl (Nat.le_refl _) (Nat.le_refl _) q
    · have hf := pm_it hf c146
      refine pm_ldc2 C dX16_turned_362 cnX16_513 ?_
      refine pm_goto (tgt := 371) C dX16_turned_365 (by decide) ?_
      refine pm_land C dX16_turned_371 ?_
      cases hf
      exact pm_lret C X dX16_turned_372 rfl (Nat.le_refl _) (Nat.le_refl _) q
  have hf := pm_ie hf c145
  by_cases c147 : x1 = 196
  · have hf := pm_it hf c147
    refine pm_tableIn (tgt := 373) C dX16_turned_102 (by rw [c147]; decide) (by rw [c147]; decide) (by rw [c147]; rfl) (by decide) ?_
    refine pm_lload_n C dX16_turned_373 rfl rfl ?_
    refine pm_l2i C dX16_turned_374 ?_
    refine pm_i2l C dX16_turned_375 ?_
    cases hf
    exact pm_lret C X dX16_turned_376 rfl (Nat.le_refl _) (Nat.le_refl _) q
  have hf := pm_ie hf c147
  have nc36 := lv_neT c36 (by decide : (167 : Int32).toInt = 167)
  have nc37 := lv_neT c37 (by decide : (168 : Int32).toInt = 168)
  have nc38 := lv_neT c38 (by decide : (169 : Int32).toInt = 169)
  have nc39 := lv_neT c39 (by decide : (170 : Int32).toInt = 170)
  have nc40 := lv_neT c40 (by decide : (171 : Int32).toInt = 171)
  have nc41 := lv_neT c41 (by decide : (172 : Int32).toInt = 172)
  have nc42 := lv_neT c42 (by decide : (173 : Int32).toInt = 173)
  have nc43 := lv_neT c43 (by decide : (174 : Int32).toInt = 174)
  have nc44 := lv_neT c44 (by decide : (175 : Int32).toInt = 175)
  have nc45 := lv_neT c45 (by decide : (176 : Int32).toInt = 176)
  have nc46 := lv_neT c46 (by decide : (177 : Int32).toInt = 177)
  have nc47 := lv_neT c47 (by decide : (178 : Int32).toInt = 178)
  have nc61 := lv_neT c61 (by decide : (179 : Int32).toInt = 179)
  have nc66 := lv_neT c66 (by decide : (180 : Int32).toInt = 180)
  have nc80 := lv_neT c80 (by decide : (181 : Int32).toInt = 181)
  have nc85 := lv_neT c85 (by decide : (182 : Int32).toInt = 182)
  have nc91 := lv_neT c91 (by decide : (183 : Int32).toInt = 183)
  have nc105 := lv_neT c105 (by decide : (184 : Int32).toInt = 184)
  have nc110 := lv_neT c110 (by decide : (185 : Int32).toInt = 185)
  have nc124 := lv_neT c124 (by decide : (186 : Int32).toInt = 186)
  have nc129 := lv_neT c129 (by decide : (187 : Int32).toInt = 187)
  have nc135 := lv_neT c135 (by decide : (188 : Int32).toInt = 188)
  have nc136 := lv_neT c136 (by decide : (189 : Int32).toInt = 189)
  have nc137 := lv_neT c137 (by decide : (190 : Int32).toInt = 190)
  have nc138 := lv_neT c138 (by decide : (191 : Int32).toInt = 191)
  have nc139 := lv_neT c139 (by decide : (192 : Int32).toInt = 192)
  have nc141 := lv_neT c141 (by decide : (193 : Int32).toInt = 193)
  have nc143 := lv_neT c143 (by decide : (194 : Int32).toInt = 194)
  have nc145 := lv_neT c145 (by decide : (195 : Int32).toInt = 195)
  have nc147 := lv_neT c147 (by decide : (196 : Int32).toInt = 196)
  refine pm_tableOut (tgt := 377) C dX16_turned_102 (by omega) (by decide) ?_
  refine pm_lload_n C dX16_turned_377 rfl rfl ?_
  cases hf
  exact pm_lret C X dX16_turned_378 rfl (Nat.le_refl _) (Nat.le_refl _) q
set_option maxHeartbeats 4000000 in
set_option maxRecDepth 100000 in
theorem bX16_turned_68 {g : pm_Gm} {l : Launch} {G : pm_Gl} {Qr : Option Value → pm_H → Prop} (C : pm_C g cX16_turned RX16) (X : pm_X g l G mX16_turned 0 0 Qr) {h : pm_H} {x0 : Nat} {x1 : Int32} {x2 : Int32} {x3 : Int64} {r : (Int64 × pm_H)} (hf : fX16_turned_b68 h x0 x1 x2 x3 = some r) (q : Qr (some (.long r.1)) r.2) : pm_G g 68 [(0, .ref x0), (1, .int x1), (2, .int x2), (3, .long x3)] [] h 0 0 := by
  unfold fX16_turned_b68 at hf
  refine pm_aload_n C dX16_turned_68 rfl rfl ?_
  refine pm_iload_n C dX16_turned_69 rfl rfl ?_
  refine pm_lload_n C dX16_turned_70 rfl rfl ?_
  refine pm_iload_n C dX16_turned_71 rfl rfl ?_
  refine pm_sipush (v := 172) C dX16_turned_72 (by decide) ?_
  refine pm_icmp_ge (tgt := 83) C dX16_turned_75 (by decide) (fun c21 => ?_) (fun c21 => ?_)
  · have hf := pm_it hf c21
    refine pm_bipush (v := 64) C dX16_turned_83 (by decide) ?_
    refine pm_iload_n C dX16_turned_85 rfl rfl ?_
    refine pm_iconst (v := 2) C dX16_turned_86 (by decide) ?_
    refine pm_irem C dX16_turned_87 (by decide) ?_
    refine pm_if_ne (tgt := 95) C dX16_turned_88 (by decide) (fun c22 => ?_) (fun c22 => ?_)
    · have hf := pm_ie hf c22
      refine pm_iconst (v := 0) C dX16_turned_95 (by decide) ?_
      refine pm_iconst (v := 0) C dX16_turned_96 (by decide) ?_
      obtain ⟨k23, hf⟩ := pm_if hf
      obtain ⟨v24, e25, hf⟩ := pm_bd hf
      refine pm_callV (as := [.int x2, .long x3, .int 64, .int 0, .int 0]) (st := []) C X dX16_turned_97 lnX16_938 myX16_towards viX16_towards ⟨by decide, by decide⟩ rfl rfl k23 (Nat.le_of_ble_eq_true rfl) (Nat.le_refl _) (Nat.le_refl _) (ctX16_towards e25 ?_)
      show pm_G g 100 [(0, .ref x0), (1, .int x1), (2, .int x2), (3, .long x3)] [.long v24.1] v24.2 0 0
      cases hf
      exact pm_lret C X dX16_turned_100 rfl (Nat.le_refl _) (Nat.le_refl _) q
    · have hf := pm_it hf c22
      refine pm_iconst (v := 1) C dX16_turned_91 (by decide) ?_
      refine pm_goto (tgt := 96) C dX16_turned_92 (by decide) ?_
      refine pm_iconst (v := 0) C dX16_turned_96 (by decide) ?_
      obtain ⟨k26, hf⟩ := pm_if hf
      obtain ⟨v27, e28, hf⟩ := pm_bd hf
      refine pm_callV (as := [.int x2, .long x3, .int 64, .int 1, .int 0]) (st := []) C X dX16_turned_97 lnX16_938 myX16_towards viX16_towards ⟨by decide, by decide⟩ rfl rfl k26 (Nat.le_of_ble_eq_true rfl) (Nat.le_refl _) (Nat.le_refl _) (ctX16_towards e28 ?_)
      show pm_G g 100 [(0, .ref x0), (1, .int x1), (2, .int x2), (3, .long x3)] [.long v27.1] v27.2 0 0
      cases hf
      exact pm_lret C X dX16_turned_100 rfl (Nat.le_refl _) (Nat.le_refl _) q
  · have hf := pm_ie hf c21
    refine pm_bipush (v := 32) C dX16_turned_78 (by decide) ?_
    refine pm_goto (tgt := 85) C dX16_turned_80 (by decide) ?_
    refine pm_iload_n C dX16_turned_85 rfl rfl ?_
    refine pm_iconst (v := 2) C dX16_turned_86 (by decide) ?_
    refine pm_irem C dX16_turned_87 (by decide) ?_
    refine pm_if_ne (tgt := 95) C dX16_turned_88 (by decide) (fun c29 => ?_) (fun c29 => ?_)
    · have hf := pm_ie hf c29
      refine pm_iconst (v := 0) C dX16_turned_95 (by decide) ?_
      refine pm_iconst (v := 0) C dX16_turned_96 (by decide) ?_
      obtain ⟨k30, hf⟩ := pm_if hf
      obtain ⟨v31, e32, hf⟩ := pm_bd hf
      refine pm_callV (as := [.int x2, .long x3, .int 32, .int 0, .int 0]) (st := []) C X dX16_turned_97 lnX16_938 myX16_towards viX16_towards ⟨by decide, by decide⟩ rfl rfl k30 (Nat.le_of_ble_eq_true rfl) (Nat.le_refl _) (Nat.le_refl _) (ctX16_towards e32 ?_)
      show pm_G g 100 [(0, .ref x0), (1, .int x1), (2, .int x2), (3, .long x3)] [.long v31.1] v31.2 0 0
      cases hf
      exact pm_lret C X dX16_turned_100 rfl (Nat.le_refl _) (Nat.le_refl _) q
    · have hf := pm_it hf c29
      refine pm_iconst (v := 1) C dX16_turned_91 (by decide) ?_
      refine pm_goto (tgt := 96) C dX16_turned_92 (by decide) ?_
      refine pm_iconst (v := 0) C dX16_turned_96 (by decide) ?_
      obtain ⟨k33, hf⟩ := pm_if hf
      obtain ⟨v34, e35, hf⟩ := pm_bd hf
      refine pm_callV (as := [.int x2, .long x3, .int 32, .int 1, .int 0]) (st := []) C X dX16_turned_97 lnX16_938 myX16_towards viX16_towards ⟨by decide, by decide⟩ rfl rfl k33 (Nat.le_of_ble_eq_true rfl) (Nat.le_refl _) (Nat.le_refl _) (ctX16_towards e35 ?_)
      show pm_G g 100 [(0, .ref x0), (1, .int x1), (2, .int x2), (3, .long x3)] [.long v34.1] v34.2 0 0
      cases hf
      exact pm_lret C X dX16_turned_100 rfl (Nat.le_refl _) (Nat.le_refl _) q
set_option maxHeartbeats 4000000 in
set_option maxRecDepth 100000 in
theorem bX16_turned_54 {g : pm_Gm} {l : Launch} {G : pm_Gl} {Qr : Option Value → pm_H → Prop} (C : pm_C g cX16_turned RX16) (X : pm_X g l G mX16_turned 0 0 Qr) {h : pm_H} {x0 : Nat} {x1 : Int32} {x2 : Int32} {x3 : Int64} {r : (Int64 × pm_H)} (hf : fX16_turned_b54 h x0 x1 x2 x3 = some r) (q : Qr (some (.long r.1)) r.2) : pm_G g 54 [(0, .ref x0), (1, .int x1), (2, .int x2), (3, .long x3)] [] h 0 0 := by
  unfold fX16_turned_b54 at hf
  refine pm_iload_n C dX16_turned_54 rfl rfl ?_
  refine pm_sipush (v := 174) C dX16_turned_55 (by decide) ?_
  refine pm_icmp_lt (tgt := 101) C dX16_turned_58 (by decide) (fun c19 => ?_) (fun c19 => ?_)
  · have hf := pm_it hf c19
    exact pm_sub [0, 1, 2, 3] rfl (bX16_turned_101 C X hf q)
  · have hf := pm_ie hf c19
    refine pm_iload_n C dX16_turned_61 rfl rfl ?_
    refine pm_sipush (v := 178) C dX16_turned_62 (by decide) ?_
    refine pm_icmp_ge (tgt := 101) C dX16_turned_65 (by decide) (fun c20 => ?_) (fun c20 => ?_)
    · have hf := pm_it hf c20
      exact pm_sub [0, 1, 2, 3] rfl (bX16_turned_101 C X hf q)
    · have hf := pm_ie hf c20
      exact pm_sub [0, 1, 2, 3] rfl (bX16_turned_68 C X hf q)
set_option maxHeartbeats 4000000 in
set_option maxRecDepth 100000 in
theorem ctX16_turned {l : Launch} {G : pm_Gl} {h : pm_H} {a0 : Nat} {p1 : Int32} {p2 : Int32} {p3 : Int64} {r : (Int64 × pm_H)} {Qr : Option Value → pm_H → Prop} (hf : fX16_turned h a0 p1 p2 p3 = some r) (q : Qr (some (.long r.1)) r.2) : pm_Ct l G mX16_turned [.ref a0, .int p1, .int p2, .long p3] h 0 0 Qr := by
  refine pm_body pnX16 (Nat.le_of_ble_eq_true rfl) (fun g C X => ?_)
  have C : pm_C g cX16_turned RX16 := C
  show pm_G g 0 [(0, .ref a0), (1, .int p1), (2, .int p2), (3, .long p3)] [] h 0 0
  unfold fX16_turned at hf
  refine pm_iload_n C dX16_turned_0 rfl rfl ?_
  refine pm_sipush (v := 200) C dX16_turned_1 (by decide) ?_
  refine pm_icmp_lt (tgt := 40) C dX16_turned_4 (by decide) (fun c1 => ?_) (fun c1 => ?_)
  · have hf := pm_it hf c1
    refine pm_iload_n C dX16_turned_40 rfl rfl ?_
    refine pm_sipush (v := 168) C dX16_turned_41 (by decide) ?_
    refine pm_icmp_lt (tgt := 54) C dX16_turned_44 (by decide) (fun c2 => ?_) (fun c2 => ?_)
    · have hf := pm_it hf c2
      exact pm_sub [0, 1, 2, 3] rfl (bX16_turned_54 C X hf q)
    · have hf := pm_ie hf c2
      refine pm_iload_n C dX16_turned_47 rfl rfl ?_
      refine pm_sipush (v := 172) C dX16_turned_48 (by decide) ?_
      refine pm_icmp_lt (tgt := 68) C dX16_turned_51 (by decide) (fun c3 => ?_) (fun c3 => ?_)
      · have hf := pm_it hf c3
        exact pm_sub [0, 1, 2, 3] rfl (bX16_turned_68 C X hf q)
      · have hf := pm_ie hf c3
        exact pm_sub [0, 1, 2, 3] rfl (bX16_turned_54 C X hf q)
  · have hf := pm_ie hf c1
    refine pm_aload_n C dX16_turned_7 rfl rfl ?_
    refine pm_iload_n C dX16_turned_8 rfl rfl ?_
    refine pm_lload_n C dX16_turned_9 rfl rfl ?_
    refine pm_iload_n C dX16_turned_10 rfl rfl ?_
    refine pm_sipush (v := 204) C dX16_turned_11 (by decide) ?_
    refine pm_icmp_ge (tgt := 22) C dX16_turned_14 (by decide) (fun c4 => ?_) (fun c4 => ?_)
    · have hf := pm_it hf c4
      refine pm_bipush (v := 64) C dX16_turned_22 (by decide) ?_
      refine pm_iload_n C dX16_turned_24 rfl rfl ?_
      refine pm_iconst (v := 2) C dX16_turned_25 (by decide) ?_
      refine pm_irem C dX16_turned_26 (by decide) ?_
      refine pm_if_ne (tgt := 34) C dX16_turned_27 (by decide) (fun c5 => ?_) (fun c5 => ?_)
      · have hf := pm_ie hf c5
        refine pm_iconst (v := 0) C dX16_turned_34 (by decide) ?_
        refine pm_iconst (v := 1) C dX16_turned_35 (by decide) ?_
        obtain ⟨k6, hf⟩ := pm_if hf
        obtain ⟨v7, e8, hf⟩ := pm_bd hf
        refine pm_callV (as := [.int p2, .long p3, .int 64, .int 0, .int 1]) (st := []) C X dX16_turned_36 lnX16_938 myX16_towards viX16_towards ⟨by decide, by decide⟩ rfl rfl k6 (Nat.le_of_ble_eq_true rfl) (Nat.le_refl _) (Nat.le_refl _) (ctX16_towards e8 ?_)
        show pm_G g 39 [(0, .ref a0), (1, .int p1), (2, .int p2), (3, .long p3)] [.long v7.1] v7.2 0 0
        cases hf
        exact pm_lret C X dX16_turned_39 rfl (Nat.le_refl _) (Nat.le_refl _) q
      · have hf := pm_it hf c5
        refine pm_iconst (v := 1) C dX16_turned_30 (by decide) ?_
        refine pm_goto (tgt := 35) C dX16_turned_31 (by decide) ?_
        refine pm_iconst (v := 1) C dX16_turned_35 (by decide) ?_
        obtain ⟨k9, hf⟩ := pm_if hf
        obtain ⟨v10, e11, hf⟩ := pm_bd hf
        refine pm_callV (as := [.int p2, .long p3, .int 64, .int 1, .int 1]) (st := []) C X dX16_turned_36 lnX16_938 myX16_towards viX16_towards ⟨by decide, by decide⟩ rfl rfl k9 (Nat.le_of_ble_eq_true rfl) (Nat.le_refl _) (Nat.le_refl _) (ctX16_towards e11 ?_)
        show pm_G g 39 [(0, .ref a0), (1, .int p1), (2, .int p2), (3, .long p3)] [.long v10.1] v10.2 0 0
        cases hf
        exact pm_lret C X dX16_turned_39 rfl (Nat.le_refl _) (Nat.le_refl _) q
    · have hf := pm_ie hf c4
      refine pm_bipush (v := 32) C dX16_turned_17 (by decide) ?_
      refine pm_goto (tgt := 24) C dX16_turned_19 (by decide) ?_
      refine pm_iload_n C dX16_turned_24 rfl rfl ?_
      refine pm_iconst (v := 2) C dX16_turned_25 (by decide) ?_
      refine pm_irem C dX16_turned_26 (by decide) ?_
      refine pm_if_ne (tgt := 34) C dX16_turned_27 (by decide) (fun c12 => ?_) (fun c12 => ?_)
      · have hf := pm_ie hf c12
        refine pm_iconst (v := 0) C dX16_turned_34 (by decide) ?_
        refine pm_iconst (v := 1) C dX16_turned_35 (by decide) ?_
        obtain ⟨k13, hf⟩ := pm_if hf
        obtain ⟨v14, e15, hf⟩ := pm_bd hf
        refine pm_callV (as := [.int p2, .long p3, .int 32, .int 0, .int 1]) (st := []) C X dX16_turned_36 lnX16_938 myX16_towards viX16_towards ⟨by decide, by decide⟩ rfl rfl k13 (Nat.le_of_ble_eq_true rfl) (Nat.le_refl _) (Nat.le_refl _) (ctX16_towards e15 ?_)
        show pm_G g 39 [(0, .ref a0), (1, .int p1), (2, .int p2), (3, .long p3)] [.long v14.1] v14.2 0 0
        cases hf
        exact pm_lret C X dX16_turned_39 rfl (Nat.le_refl _) (Nat.le_refl _) q
      · have hf := pm_it hf c12
        refine pm_iconst (v := 1) C dX16_turned_30 (by decide) ?_
        refine pm_goto (tgt := 35) C dX16_turned_31 (by decide) ?_
        refine pm_iconst (v := 1) C dX16_turned_35 (by decide) ?_
        obtain ⟨k16, hf⟩ := pm_if hf
        obtain ⟨v17, e18, hf⟩ := pm_bd hf
        refine pm_callV (as := [.int p2, .long p3, .int 32, .int 1, .int 1]) (st := []) C X dX16_turned_36 lnX16_938 myX16_towards viX16_towards ⟨by decide, by decide⟩ rfl rfl k16 (Nat.le_of_ble_eq_true rfl) (Nat.le_refl _) (Nat.le_refl _) (ctX16_towards e18 ?_)
        show pm_G g 39 [(0, .ref a0), (1, .int p1), (2, .int p2), (3, .long p3)] [.long v17.1] v17.2 0 0
        cases hf
        exact pm_lret C X dX16_turned_39 rfl (Nat.le_refl _) (Nat.le_refl _) q
theorem dX16_turns_0 : decode cX16_turns 0 = .ok (.iload_n 1, 1) := by decide +kernel
theorem dX16_turns_1 : decode cX16_turns 1 = .ok (.tableswitch 360 0 28 #[131, 360, 360, 360, 140, 360, 360, 360, 360, 360, 360, 360, 148, 160, 183, 254, 279, 305, 360, 360, 360, 360, 360, 360, 360, 360, 312, 321, 321], 131) := by decide +kernel
theorem dX16_turns_132 : decode cX16_turns 132 = .ok (.aload_n 0, 1) := by decide +kernel
theorem dX16_turns_133 : decode cX16_turns 133 = .ok (.iconst 1, 1) := by decide +kernel
theorem dX16_turns_134 : decode cX16_turns 134 = .ok (.iconst 1, 1) := by decide +kernel
theorem dX16_turns_135 : decode cX16_turns 135 = .ok (.invokevirtual 1163, 3) := by decide +kernel
theorem dX16_turns_138 : decode cX16_turns 138 = .ok (.goto 223, 3) := by decide +kernel
theorem dX16_turns_141 : decode cX16_turns 141 = .ok (.aload_n 0, 1) := by decide +kernel
theorem dX16_turns_142 : decode cX16_turns 142 = .ok (.iload_n 2, 1) := by decide +kernel
theorem dX16_turns_143 : decode cX16_turns 143 = .ok (.invokevirtual 1167, 3) := by decide +kernel
theorem dX16_turns_146 : decode cX16_turns 146 = .ok (.goto 215, 3) := by decide +kernel
theorem dX16_turns_149 : decode cX16_turns 149 = .ok (.aload_n 0, 1) := by decide +kernel
theorem dX16_turns_150 : decode cX16_turns 150 = .ok (.aload_n 0, 1) := by decide +kernel
theorem dX16_turns_151 : decode cX16_turns 151 = .ok (.invokevirtual 603, 3) := by decide +kernel
theorem dX16_turns_154 : decode cX16_turns 154 = .ok (.l2i, 1) := by decide +kernel
theorem dX16_turns_155 : decode cX16_turns 155 = .ok (.invokevirtual 1170, 3) := by decide +kernel
theorem dX16_turns_158 : decode cX16_turns 158 = .ok (.goto 203, 3) := by decide +kernel
theorem dX16_turns_161 : decode cX16_turns 161 = .ok (.aload_n 0, 1) := by decide +kernel
theorem dX16_turns_162 : decode cX16_turns 162 = .ok (.invokevirtual 603, 3) := by decide +kernel
theorem dX16_turns_165 : decode cX16_turns 165 = .ok (.l2i, 1) := by decide +kernel
theorem dX16_turns_166 : decode cX16_turns 166 = .ok (.istore_n 3, 1) := by decide +kernel
theorem dX16_turns_167 : decode cX16_turns 167 = .ok (.aload_n 0, 1) := by decide +kernel
theorem dX16_turns_168 : decode cX16_turns 168 = .ok (.invokevirtual 1157, 3) := by decide +kernel
theorem dX16_turns_171 : decode cX16_turns 171 = .ok (.lconst 0, 1) := by decide +kernel
theorem dX16_turns_172 : decode cX16_turns 172 = .ok (.lcmp, 1) := by decide +kernel
theorem dX16_turns_173 : decode cX16_turns 173 = .ok (.ifCond .eq 188, 3) := by decide +kernel
theorem dX16_turns_176 : decode cX16_turns 176 = .ok (.aload_n 0, 1) := by decide +kernel
theorem dX16_turns_177 : decode cX16_turns 177 = .ok (.iload_n 3, 1) := by decide +kernel
theorem dX16_turns_178 : decode cX16_turns 178 = .ok (.invokevirtual 1170, 3) := by decide +kernel
theorem dX16_turns_181 : decode cX16_turns 181 = .ok (.goto 180, 3) := by decide +kernel
theorem dX16_turns_184 : decode cX16_turns 184 = .ok (.aload_n 0, 1) := by decide +kernel
theorem dX16_turns_185 : decode cX16_turns 185 = .ok (.invokevirtual 603, 3) := by decide +kernel
theorem dX16_turns_188 : decode cX16_turns 188 = .ok (.lstore 4, 2) := by decide +kernel
theorem dX16_turns_190 : decode cX16_turns 190 = .ok (.aload_n 0, 1) := by decide +kernel
theorem dX16_turns_191 : decode cX16_turns 191 = .ok (.invokevirtual 1157, 3) := by decide +kernel
theorem dX16_turns_194 : decode cX16_turns 194 = .ok (.lstore 6, 2) := by decide +kernel
theorem dX16_turns_196 : decode cX16_turns 196 = .ok (.lload 6, 2) := by decide +kernel
theorem dX16_turns_198 : decode cX16_turns 198 = .ok (.lload 4, 2) := by decide +kernel
theorem dX16_turns_200 : decode cX16_turns 200 = .ok (.lcmp, 1) := by decide +kernel
theorem dX16_turns_201 : decode cX16_turns 201 = .ok (.ifCond .ge 8, 3) := by decide +kernel
theorem dX16_turns_204 : decode cX16_turns 204 = .ok (.lload 6, 2) := by decide +kernel
theorem dX16_turns_206 : decode cX16_turns 206 = .ok (.goto 5, 3) := by decide +kernel
theorem dX16_turns_209 : decode cX16_turns 209 = .ok (.lload 4, 2) := by decide +kernel
theorem dX16_turns_211 : decode cX16_turns 211 = .ok (.lstore 8, 2) := by decide +kernel
theorem dX16_turns_213 : decode cX16_turns 213 = .ok (.aload_n 0, 1) := by decide +kernel
theorem dX16_turns_214 : decode cX16_turns 214 = .ok (.invokevirtual 603, 3) := by decide +kernel
theorem dX16_turns_217 : decode cX16_turns 217 = .ok (.lstore 10, 2) := by decide +kernel
theorem dX16_turns_219 : decode cX16_turns 219 = .ok (.lconst 0, 1) := by decide +kernel
theorem dX16_turns_220 : decode cX16_turns 220 = .ok (.lstore 12, 2) := by decide +kernel
theorem dX16_turns_222 : decode cX16_turns 222 = .ok (.lload 12, 2) := by decide +kernel
theorem dX16_turns_224 : decode cX16_turns 224 = .ok (.lload 8, 2) := by decide +kernel
theorem dX16_turns_226 : decode cX16_turns 226 = .ok (.lcmp, 1) := by decide +kernel
theorem dX16_turns_227 : decode cX16_turns 227 = .ok (.ifCond .ge 18, 3) := by decide +kernel
theorem dX16_turns_230 : decode cX16_turns 230 = .ok (.aload_n 0, 1) := by decide +kernel
theorem dX16_turns_231 : decode cX16_turns 231 = .ok (.invokevirtual 603, 3) := by decide +kernel
theorem dX16_turns_234 : decode cX16_turns 234 = .ok (.lstore 10, 2) := by decide +kernel
theorem dX16_turns_236 : decode cX16_turns 236 = .ok (.lload 12, 2) := by decide +kernel
theorem dX16_turns_238 : decode cX16_turns 238 = .ok (.lconst 1, 1) := by decide +kernel
theorem dX16_turns_239 : decode cX16_turns 239 = .ok (.ladd, 1) := by decide +kernel
theorem dX16_turns_240 : decode cX16_turns 240 = .ok (.lstore 12, 2) := by decide +kernel
theorem dX16_turns_242 : decode cX16_turns 242 = .ok (.goto (-20), 3) := by decide +kernel
theorem dX16_turns_245 : decode cX16_turns 245 = .ok (.aload_n 0, 1) := by decide +kernel
theorem dX16_turns_246 : decode cX16_turns 246 = .ok (.lload 10, 2) := by decide +kernel
theorem dX16_turns_248 : decode cX16_turns 248 = .ok (.l2i, 1) := by decide +kernel
theorem dX16_turns_249 : decode cX16_turns 249 = .ok (.invokevirtual 1170, 3) := by decide +kernel
theorem dX16_turns_252 : decode cX16_turns 252 = .ok (.goto 109, 3) := by decide +kernel
theorem dX16_turns_255 : decode cX16_turns 255 = .ok (.aload_n 0, 1) := by decide +kernel
theorem dX16_turns_256 : decode cX16_turns 256 = .ok (.aload_n 0, 1) := by decide +kernel
theorem dX16_turns_257 : decode cX16_turns 257 = .ok (.getfield 1086, 3) := by decide +kernel
theorem dX16_turns_260 : decode cX16_turns 260 = .ok (.iconst 1, 1) := by decide +kernel
theorem dX16_turns_261 : decode cX16_turns 261 = .ok (.isub, 1) := by decide +kernel
theorem dX16_turns_262 : decode cX16_turns 262 = .ok (.aload_n 0, 1) := by decide +kernel
theorem dX16_turns_263 : decode cX16_turns 263 = .ok (.getfield 188, 3) := by decide +kernel
theorem dX16_turns_266 : decode cX16_turns 266 = .ok (.aload_n 0, 1) := by decide +kernel
theorem dX16_turns_267 : decode cX16_turns 267 = .ok (.getfield 1052, 3) := by decide +kernel
theorem dX16_turns_270 : decode cX16_turns 270 = .ok (.iconst 1, 1) := by decide +kernel
theorem dX16_turns_271 : decode cX16_turns 271 = .ok (.isub, 1) := by decide +kernel
theorem dX16_turns_272 : decode cX16_turns 272 = .ok (.iaload, 1) := by decide +kernel
theorem dX16_turns_273 : decode cX16_turns 273 = .ok (.isub, 1) := by decide +kernel
theorem dX16_turns_274 : decode cX16_turns 274 = .ok (.invokevirtual 1170, 3) := by decide +kernel
theorem dX16_turns_277 : decode cX16_turns 277 = .ok (.goto 84, 3) := by decide +kernel
theorem dX16_turns_280 : decode cX16_turns 280 = .ok (.aload_n 0, 1) := by decide +kernel
theorem dX16_turns_281 : decode cX16_turns 281 = .ok (.aload_n 0, 1) := by decide +kernel
theorem dX16_turns_282 : decode cX16_turns 282 = .ok (.getfield 134, 3) := by decide +kernel
theorem dX16_turns_285 : decode cX16_turns 285 = .ok (.sipush 128, 3) := by decide +kernel
theorem dX16_turns_288 : decode cX16_turns 288 = .ok (.aload_n 0, 1) := by decide +kernel
theorem dX16_turns_289 : decode cX16_turns 289 = .ok (.getfield 1110, 3) := by decide +kernel
theorem dX16_turns_292 : decode cX16_turns 292 = .ok (.imul, 1) := by decide +kernel
theorem dX16_turns_293 : decode cX16_turns 293 = .ok (.aload_n 0, 1) := by decide +kernel
theorem dX16_turns_294 : decode cX16_turns 294 = .ok (.invokevirtual 603, 3) := by decide +kernel
theorem dX16_turns_297 : decode cX16_turns 297 = .ok (.l2i, 1) := by decide +kernel
theorem dX16_turns_298 : decode cX16_turns 298 = .ok (.iadd, 1) := by decide +kernel
theorem dX16_turns_299 : decode cX16_turns 299 = .ok (.iaload, 1) := by decide +kernel
theorem dX16_turns_300 : decode cX16_turns 300 = .ok (.invokevirtual 1173, 3) := by decide +kernel
theorem dX16_turns_303 : decode cX16_turns 303 = .ok (.goto 58, 3) := by decide +kernel
theorem dX16_turns_306 : decode cX16_turns 306 = .ok (.aload_n 0, 1) := by decide +kernel
theorem dX16_turns_307 : decode cX16_turns 307 = .ok (.invokevirtual 1176, 3) := by decide +kernel
theorem dX16_turns_310 : decode cX16_turns 310 = .ok (.goto 51, 3) := by decide +kernel
theorem dX16_turns_313 : decode cX16_turns 313 = .ok (.aload_n 0, 1) := by decide +kernel
theorem dX16_turns_314 : decode cX16_turns 314 = .ok (.invokevirtual 1157, 3) := by decide +kernel
theorem dX16_turns_317 : decode cX16_turns 317 = .ok (.lstore 12, 2) := by decide +kernel
theorem dX16_turns_319 : decode cX16_turns 319 = .ok (.goto 42, 3) := by decide +kernel
theorem dX16_turns_322 : decode cX16_turns 322 = .ok (.aload_n 0, 1) := by decide +kernel
theorem dX16_turns_323 : decode cX16_turns 323 = .ok (.invokevirtual 1157, 3) := by decide +kernel
theorem dX16_turns_326 : decode cX16_turns 326 = .ok (.lstore 14, 2) := by decide +kernel
theorem dX16_turns_328 : decode cX16_turns 328 = .ok (.aload_n 0, 1) := by decide +kernel
theorem dX16_turns_329 : decode cX16_turns 329 = .ok (.invokevirtual 1157, 3) := by decide +kernel
theorem dX16_turns_332 : decode cX16_turns 332 = .ok (.lstore 16, 2) := by decide +kernel
theorem dX16_turns_334 : decode cX16_turns 334 = .ok (.aload_n 0, 1) := by decide +kernel
theorem dX16_turns_335 : decode cX16_turns 335 = .ok (.invokevirtual 1157, 3) := by decide +kernel
theorem dX16_turns_338 : decode cX16_turns 338 = .ok (.lstore 18, 2) := by decide +kernel
theorem dX16_turns_340 : decode cX16_turns 340 = .ok (.aload_n 0, 1) := by decide +kernel
theorem dX16_turns_341 : decode cX16_turns 341 = .ok (.lload 14, 2) := by decide +kernel
theorem dX16_turns_343 : decode cX16_turns 343 = .ok (.lconst 0, 1) := by decide +kernel
theorem dX16_turns_344 : decode cX16_turns 344 = .ok (.lcmp, 1) := by decide +kernel
theorem dX16_turns_345 : decode cX16_turns 345 = .ok (.ifCond .eq 8, 3) := by decide +kernel
theorem dX16_turns_348 : decode cX16_turns 348 = .ok (.lload 18, 2) := by decide +kernel
theorem dX16_turns_350 : decode cX16_turns 350 = .ok (.goto 5, 3) := by decide +kernel
theorem dX16_turns_353 : decode cX16_turns 353 = .ok (.lload 16, 2) := by decide +kernel
theorem dX16_turns_355 : decode cX16_turns 355 = .ok (.invokevirtual 1136, 3) := by decide +kernel
theorem dX16_turns_358 : decode cX16_turns 358 = .ok (.goto 3, 3) := by decide +kernel
theorem dX16_turns_361 : decode cX16_turns 361 = .ok (.return_, 1) := by decide +kernel
noncomputable def tX16_turns_222 (x0 : Nat) (x8 : Int64) (x10 : Int64) (x12 : Int64) (h : pm_H) : Option (((Nat × Int64 × Int64 × Int64 × pm_H)) ⊕ pm_H) := if x8 ≤ x12 then (if pm_kd h x0 = 16 then (fX16_branches h x0 x10.toInt32).bind fun v126 => some (.inr (v126)) else none) else (if pm_kd h x0 = 16 then (fX16_word h x0).bind fun v129 => pm_let (x12 + 1) fun y131 => some (.inl ((x0, x8, v129.1, y131, v129.2))) else none)
noncomputable def sX16_turns : ((Nat × Int64 × Int64 × Int64 × pm_H)) → Option (((Nat × Int64 × Int64 × Int64 × pm_H)) ⊕ pm_H) := fun z => match z with
  | (x0, x8, x10, x12, h) => tX16_turns_222 x0 x8 x10 x12 h
noncomputable def fX16_turns (h : pm_H) (a0 : Nat) (p1 : Int32) (p2 : Int32) : Option pm_H := if p1 = 0 then (if pm_kd h a0 = 16 then (fX16_endsBy h a0 1 1).bind fun v3 => some v3 else none) else (if p1 = 1 then (some h) else (if p1 = 2 then (some h) else (if p1 = 3 then (some h) else (if p1 = 4 then (if pm_kd h a0 = 16 then (fX16_opensIf h a0 p2).bind fun v10 => some v10 else none) else (if p1 = 5 then (some h) else (if p1 = 6 then (some h) else (if p1 = 7 then (some h) else (if p1 = 8 then (some h) else (if p1 = 9 then (some h) else (if p1 = 10 then (some h) else (if p1 = 11 then (some h) else (if p1 = 12 then (if pm_kd h a0 = 16 then (fX16_word h a0).bind fun v21 => if pm_kd v21.2 a0 = 16 then (fX16_branches v21.2 a0 v21.1.toInt32).bind fun v24 => some v24 else none else none) else (if p1 = 13 then (if pm_kd h a0 = 16 then (fX16_word h a0).bind fun v28 => if pm_kd v28.2 a0 = 16 then (fX16_pop v28.2 a0).bind fun v31 => if v31.1 = 0 then (some v31.2) else (if pm_kd v31.2 a0 = 16 then (fX16_branches v31.2 a0 v28.1.toInt32).bind fun v35 => some v35 else none) else none else none) else (if p1 = 14 then (if pm_kd h a0 = 16 then (fX16_word h a0).bind fun v39 => if pm_kd v39.2 a0 = 16 then (fX16_pop v39.2 a0).bind fun v42 => if v39.1 ≤ v42.1 then (if pm_kd v42.2 a0 = 16 then (fX16_word v42.2 a0).bind fun v46 => pm_lim sX16_turns ((a0, v39.1, v46.1, 0, v46.2)) else none) else (if pm_kd v42.2 a0 = 16 then (fX16_word v42.2 a0).bind fun v49 => pm_lim sX16_turns ((a0, v42.1, v49.1, 0, v49.2)) else none) else none else none) else (if p1 = 15 then (if pm_kd h a0 = 16 then (pm_R h a0 91).bind fun v53 => pm_let ((pm_I h a0 85) - 1) fun y55 => if pm_kd h v53 = 34 then if pm_in y55 (pm_ln h v53) then (fX16_branches h a0 (((pm_I h a0 96) - 1) - (pm_I h v53 y55.toNatClampNeg))).bind fun v59 => some v59 else none else none else none) else (if p1 = 16 then (if pm_kd h a0 = 16 then (pm_R h a0 64).bind fun v63 => (fX16_word h a0).bind fun v65 => pm_let ((128 * (pm_I h a0 95)) + v65.1.toInt32) fun y67 => if pm_kd v65.2 v63 = 34 then if pm_in y67 (pm_ln v65.2 v63) then if pm_kd v65.2 a0 = 16 then (fX16_invokes v65.2 a0 (pm_I v65.2 v63 y67.toNatClampNeg)).bind fun v72 => some v72 else none else none else none else none) else (if p1 = 17 then (if pm_kd h a0 = 16 then (fX16_invokesEntry h a0).bind fun v76 => some v76 else none) else (if p1 = 18 then (some h) else (if p1 = 19 then (some h) else (if p1 = 20 then (some h) else (if p1 = 21 then (some h) else (if p1 = 22 then (some h) else (if p1 = 23 then (some h) else (if p1 = 24 then (some h) else (if p1 = 25 then (some h) else (if p1 = 26 then (if pm_kd h a0 = 16 then (fX16_pop h a0).bind fun v88 => some v88.2 else none) else (if p1 = 27 then (if pm_kd h a0 = 16 then (fX16_pop h a0).bind fun v92 => if pm_kd v92.2 a0 = 16 then (fX16_pop v92.2 a0).bind fun v95 => if pm_kd v95.2 a0 = 16 then (fX16_pop v95.2 a0).bind fun v98 => if v92.1 = 0 then (if pm_kd v98.2 a0 = 16 then (fX16_push v98.2 a0 v95.1).bind fun v102 => some v102 else none) else (if pm_kd v98.2 a0 = 16 then (fX16_push v98.2 a0 v98.1).bind fun v105 => some v105 else none) else none else none else none) else (if p1 = 28 then (if pm_kd h a0 = 16 then (fX16_pop h a0).bind fun v109 => if pm_kd v109.2 a0 = 16 then (fX16_pop v109.2 a0).bind fun v112 => if pm_kd v112.2 a0 = 16 then (fX16_pop v112.2 a0).bind fun v115 => if v109.1 = 0 then (if pm_kd v115.2 a0 = 16 then (fX16_push v115.2 a0 v112.1).bind fun v119 => some v119 else none) else (if pm_kd v115.2 a0 = 16 then (fX16_push v115.2 a0 v115.1).bind fun v122 => some v122 else none) else none else none else none) else (some h)))))))))))))))))))))))))))))
set_option maxHeartbeats 4000000 in
set_option maxRecDepth 100000 in
theorem lpX16_turns {g : pm_Gm} {l : Launch} {G : pm_Gl} {Qr : Option Value → pm_H → Prop} (C : pm_C g cX16_turns RX16) (X : pm_X g l G mX16_turns 0 0 Qr) {r : pm_H} (q : Qr none r) : ∀ n : Nat, (∀ (x0 : Nat) (x8 : Int64) (x10 : Int64) (x12 : Int64) (h : pm_H), pm_iter sX16_turns n (x0, x8, x10, x12, h) = some r → pm_G g 222 [(0, .ref x0), (8, .long x8), (10, .long x10), (12, .long x12)] [] h 0 0) := by
  intro n
  induction n with
  | zero => exact fun _ _ _ _ _ hf => (by cases hf)
  | succ n ih =>
    refine fun x0 x8 x10 x12 h hf => ?_
    obtain ⟨y, hf, hi⟩ := pm_iter_s hf
    have hf : tX16_turns_222 x0 x8 x10 x12 h = some y := hf
    unfold tX16_turns_222 at hf
    refine pm_lload C dX16_turns_222 rfl ?_
    refine pm_lload C dX16_turns_224 rfl ?_
    refine pm_lcmp C dX16_turns_226 ?_
    refine pm_if_ge (tgt := 245) C dX16_turns_227 (by decide) (fun c124 => ?_) (fun c124 => ?_)
    · have hf := pm_it hf ((pm_lg_ge _ _).mp c124)
      refine pm_aload_n C dX16_turns_245 rfl rfl ?_
      refine pm_lload C dX16_turns_246 rfl ?_
      refine pm_l2i C dX16_turns_248 ?_
      obtain ⟨k125, hf⟩ := pm_if hf
      obtain ⟨v126, e127, hf⟩ := pm_bd hf
      refine pm_callV (as := [.int x10.toInt32]) (st := []) C X dX16_turns_249 lnX16_1170 myX16_branches viX16_branches ⟨by decide, by decide⟩ rfl rfl k125 (Nat.le_of_ble_eq_true rfl) (Nat.le_refl _) (Nat.le_refl _) (ctX16_branches e127 ?_)
      show pm_G g 252 [(0, .ref x0), (8, .long x8), (10, .long x10), (12, .long x12)] [] v126 0 0
      refine pm_goto (tgt := 361) C dX16_turns_252 (by decide) ?_
      cases hf
      cases hi
      exact pm_vret C X dX16_turns_361 rfl (Nat.le_refl _) (Nat.le_refl _) q
    · have hf := pm_ie hf ((fun z => c124 ((pm_lg_ge _ _).mpr z)))
      refine pm_aload_n C dX16_turns_230 rfl rfl ?_
      obtain ⟨k128, hf⟩ := pm_if hf
      obtain ⟨v129, e130, hf⟩ := pm_bd hf
      refine pm_callV (as := []) (st := []) C X dX16_turns_231 lnX16_603 myX16_word viX16_word ⟨by decide, by decide⟩ rfl rfl k128 (Nat.le_of_ble_eq_true rfl) (Nat.le_refl _) (Nat.le_refl _) (ctX16_word e130 ?_)
      show pm_G g 234 [(0, .ref x0), (8, .long x8), (10, .long x10), (12, .long x12)] [.long v129.1] v129.2 0 0
      refine pm_lstore (lv' := [(10, .long v129.1), (0, .ref x0), (8, .long x8), (12, .long x12)]) C dX16_turns_234 (pm_nl X (by decide)) rfl ?_
      refine pm_lload C dX16_turns_236 rfl ?_
      refine pm_lconst (v := 1) C dX16_turns_238 (by decide) ?_
      refine pm_ladd C dX16_turns_239 ?_
      obtain ⟨y131, e132, hf⟩ := pm_lt hf
      refine pm_topL e132 ?_
      refine pm_lstore (lv' := [(12, .long y131), (10, .long v129.1), (0, .ref x0), (8, .long x8)]) C dX16_turns_240 (pm_nl X (by decide)) rfl ?_
      refine pm_goto (tgt := 222) C dX16_turns_242 (by decide) ?_
      cases hf
      exact pm_sub [2, 3, 1, 0] rfl (ih x0 x8 v129.1 y131 v129.2 hi)
set_option maxHeartbeats 4000000 in
set_option maxRecDepth 100000 in
theorem ctX16_turns {l : Launch} {G : pm_Gl} {h : pm_H} {a0 : Nat} {p1 : Int32} {p2 : Int32} {r : pm_H} {Qr : Option Value → pm_H → Prop} (hf : fX16_turns h a0 p1 p2 = some r) (q : Qr none r) : pm_Ct l G mX16_turns [.ref a0, .int p1, .int p2] h 0 0 Qr := by
  refine pm_body pnX16 (Nat.le_of_ble_eq_true rfl) (fun g C X => ?_)
  have C : pm_C g cX16_turns RX16 := C
  show pm_G g 0 [(0, .ref a0), (1, .int p1), (2, .int p2)] [] h 0 0
  unfold fX16_turns at hf
  refine pm_iload_n C dX16_turns_0 rfl rfl ?_
  by_cases c1 : p1 = 0
  · have hf := pm_it hf c1
    refine pm_tableIn (tgt := 132) C dX16_turns_1 (by rw [c1]; decide) (by rw [c1]; decide) (by rw [c1]; rfl) (by decide) ?_
    refine pm_aload_n C dX16_turns_132 rfl rfl ?_
    refine pm_iconst (v := 1) C dX16_turns_133 (by decide) ?_
    refine pm_iconst (v := 1) C dX16_turns_134 (by decide) ?_
    obtain ⟨k2, hf⟩ := pm_if hf
    obtain ⟨v3, e4, hf⟩ := pm_bd hf
    refine pm_callV (as := [.int 1, .int 1]) (st := []) C X dX16_turns_135 lnX16_1163 myX16_endsBy viX16_endsBy ⟨by decide, by decide⟩ rfl rfl k2 (Nat.le_of_ble_eq_true rfl) (Nat.le_refl _) (Nat.le_refl _) (ctX16_endsBy e4 ?_)
    show pm_G g 138 [(0, .ref a0), (1, .int p1), (2, .int p2)] [] v3 0 0
    refine pm_goto (tgt := 361) C dX16_turns_138 (by decide) ?_
    cases hf
    exact pm_vret C X dX16_turns_361 rfl (Nat.le_refl _) (Nat.le_refl _) q
  have hf := pm_ie hf c1
  by_cases c5 : p1 = 1
  · have hf := pm_it hf c5
    refine pm_tableIn (tgt := 361) C dX16_turns_1 (by rw [c5]; decide) (by rw [c5]; decide) (by rw [c5]; rfl) (by decide) ?_
    cases hf
    exact pm_vret C X dX16_turns_361 rfl (Nat.le_refl _) (Nat.le_refl _) q
  have hf := pm_ie hf c5
  by_cases c6 : p1 = 2
  · have hf := pm_it hf c6
    refine pm_tableIn (tgt := 361) C dX16_turns_1 (by rw [c6]; decide) (by rw [c6]; decide) (by rw [c6]; rfl) (by decide) ?_
    cases hf
    exact pm_vret C X dX16_turns_361 rfl (Nat.le_refl _) (Nat.le_refl _) q
  have hf := pm_ie hf c6
  by_cases c7 : p1 = 3
  · have hf := pm_it hf c7
    refine pm_tableIn (tgt := 361) C dX16_turns_1 (by rw [c7]; decide) (by rw [c7]; decide) (by rw [c7]; rfl) (by decide) ?_
    cases hf
    exact pm_vret C X dX16_turns_361 rfl (Nat.le_refl _) (Nat.le_refl _) q
  have hf := pm_ie hf c7
  by_cases c8 : p1 = 4
  · have hf := pm_it hf c8
    refine pm_tableIn (tgt := 141) C dX16_turns_1 (by rw [c8]; decide) (by rw [c8]; decide) (by rw [c8]; rfl) (by decide) ?_
    refine pm_aload_n C dX16_turns_141 rfl rfl ?_
    refine pm_iload_n C dX16_turns_142 rfl rfl ?_
    obtain ⟨k9, hf⟩ := pm_if hf
    obtain ⟨v10, e11, hf⟩ := pm_bd hf
    refine pm_callV (as := [.int p2]) (st := []) C X dX16_turns_143 lnX16_1167 myX16_opensIf viX16_opensIf ⟨by decide, by decide⟩ rfl rfl k9 (Nat.le_of_ble_eq_true rfl) (Nat.le_refl _) (Nat.le_refl _) (ctX16_opensIf e11 ?_)
    show pm_G g 146 [(0, .ref a0), (1, .int p1), (2, .int p2)] [] v10 0 0
    refine pm_goto (tgt := 361) C dX16_turns_146 (by decide) ?_
    cases hf
    exact pm_vret C X dX16_turns_361 rfl (Nat.le_refl _) (Nat.le_refl _) q
  have hf := pm_ie hf c8
  by_cases c12 : p1 = 5
  · have hf := pm_it hf c12
    refine pm_tableIn (tgt := 361) C dX16_turns_1 (by rw [c12]; decide) (by rw [c12]; decide) (by rw [c12]; rfl) (by decide) ?_
    cases hf
    exact pm_vret C X dX16_turns_361 rfl (Nat.le_refl _) (Nat.le_refl _) q
  have hf := pm_ie hf c12
  by_cases c13 : p1 = 6
  · have hf := pm_it hf c13
    refine pm_tableIn (tgt := 361) C dX16_turns_1 (by rw [c13]; decide) (by rw [c13]; decide) (by rw [c13]; rfl) (by decide) ?_
    cases hf
    exact pm_vret C X dX16_turns_361 rfl (Nat.le_refl _) (Nat.le_refl _) q
  have hf := pm_ie hf c13
  by_cases c14 : p1 = 7
  · have hf := pm_it hf c14
    refine pm_tableIn (tgt := 361) C dX16_turns_1 (by rw [c14]; decide) (by rw [c14]; decide) (by rw [c14]; rfl) (by decide) ?_
    cases hf
    exact pm_vret C X dX16_turns_361 rfl (Nat.le_refl _) (Nat.le_refl _) q
  have hf := pm_ie hf c14
  by_cases c15 : p1 = 8
  · have hf := pm_it hf c15
    refine pm_tableIn (tgt := 361) C dX16_turns_1 (by rw [c15]; decide) (by rw [c15]; decide) (by rw [c15]; rfl) (by decide) ?_
    cases hf
    exact pm_vret C X dX16_turns_361 rfl (Nat.le_refl _) (Nat.le_refl _) q
  have hf := pm_ie hf c15
  by_cases c16 : p1 = 9
  · have hf := pm_it hf c16
    refine pm_tableIn (tgt := 361) C dX16_turns_1 (by rw [c16]; decide) (by rw [c16]; decide) (by rw [c16]; rfl) (by decide) ?_
    cases hf
    exact pm_vret C X dX16_turns_361 rfl (Nat.le_refl _) (Nat.le_refl _) q
  have hf := pm_ie hf c16
  by_cases c17 : p1 = 10
  · have hf := pm_it hf c17
    refine pm_tableIn (tgt := 361) C dX16_turns_1 (by rw [c17]; decide) (by rw [c17]; decide) (by rw [c17]; rfl) (by decide) ?_
    cases hf
    exact pm_vret C X dX16_turns_361 rfl (Nat.le_refl _) (Nat.le_refl _) q
  have hf := pm_ie hf c17
  by_cases c18 : p1 = 11
  · have hf := pm_it hf c18
    refine pm_tableIn (tgt := 361) C dX16_turns_1 (by rw [c18]; decide) (by rw [c18]; decide) (by rw [c18]; rfl) (by decide) ?_
    cases hf
    exact pm_vret C X dX16_turns_361 rfl (Nat.le_refl _) (Nat.le_refl _) q
  have hf := pm_ie hf c18
  by_cases c19 : p1 = 12
  · have hf := pm_it hf c19
    refine pm_tableIn (tgt := 149) C dX16_turns_1 (by rw [c19]; decide) (by rw [c19]; decide) (by rw [c19]; rfl) (by decide) ?_
    refine pm_aload_n C dX16_turns_149 rfl rfl ?_
    refine pm_aload_n C dX16_turns_150 rfl rfl ?_
    obtain ⟨k20, hf⟩ := pm_if hf
    obtain ⟨v21, e22, hf⟩ := pm_bd hf
    refine pm_callV (as := []) (st := [.ref a0]) C X dX16_turns_151 lnX16_603 myX16_word viX16_word ⟨by decide, by decide⟩ rfl rfl k20 (Nat.le_of_ble_eq_true rfl) (Nat.le_refl _) (Nat.le_refl _) (ctX16_word e22 ?_)
    show pm_G g 154 [(0, .ref a0), (1, .int p1), (2, .int p2)] [.long v21.1, .ref a0] v21.2 0 0
    refine pm_l2i C dX16_turns_154 ?_
    obtain ⟨k23, hf⟩ := pm_if hf
    obtain ⟨v24, e25, hf⟩ := pm_bd hf
    refine pm_callV (as := [.int v21.1.toInt32]) (st := []) C X dX16_turns_155 lnX16_1170 myX16_branches viX16_branches ⟨by decide, by decide⟩ rfl rfl k23 (Nat.le_of_ble_eq_true rfl) (Nat.le_refl _) (Nat.le_refl _) (ctX16_branches e25 ?_)
    show pm_G g 158 [(0, .ref a0), (1, .int p1), (2, .int p2)] [] v24 0 0
    refine pm_goto (tgt := 361) C dX16_turns_158 (by decide) ?_
    cases hf
    exact pm_vret C X dX16_turns_361 rfl (Nat.le_refl _) (Nat.le_refl _) q
  have hf := pm_ie hf c19
  by_cases c26 : p1 = 13
  · have hf := pm_it hf c26
    refine pm_tableIn (tgt := 161) C dX16_turns_1 (by rw [c26]; decide) (by rw [c26]; decide) (by rw [c26]; rfl) (by decide) ?_
    refine pm_aload_n C dX16_turns_161 rfl rfl ?_
    obtain ⟨k27, hf⟩ := pm_if hf
    obtain ⟨v28, e29, hf⟩ := pm_bd hf
    refine pm_callV (as := []) (st := []) C X dX16_turns_162 lnX16_603 myX16_word viX16_word ⟨by decide, by decide⟩ rfl rfl k27 (Nat.le_of_ble_eq_true rfl) (Nat.le_refl _) (Nat.le_refl _) (ctX16_word e29 ?_)
    show pm_G g 165 [(0, .ref a0), (1, .int p1), (2, .int p2)] [.long v28.1] v28.2 0 0
    refine pm_l2i C dX16_turns_165 ?_
    refine pm_istore_n (lv' := [(3, .int v28.1.toInt32), (0, .ref a0), (1, .int p1), (2, .int p2)]) C dX16_turns_166 rfl (pm_nl X (by decide)) rfl ?_
    refine pm_aload_n C dX16_turns_167 rfl rfl ?_
    obtain ⟨k30, hf⟩ := pm_if hf
    obtain ⟨v31, e32, hf⟩ := pm_bd hf
    refine pm_callV (as := []) (st := []) C X dX16_turns_168 lnX16_1157 myX16_pop viX16_pop ⟨by decide, by decide⟩ rfl rfl k30 (Nat.le_of_ble_eq_true rfl) (Nat.le_refl _) (Nat.le_refl _) (ctX16_pop e32 ?_)
    show pm_G g 171 [(3, .int v28.1.toInt32), (0, .ref a0), (1, .int p1), (2, .int p2)] [.long v31.1] v31.2 0 0
    refine pm_lconst (v := 0) C dX16_turns_171 (by decide) ?_
    refine pm_lcmp C dX16_turns_172 ?_
    refine pm_if_eq (tgt := 361) C dX16_turns_173 (by decide) (fun c33 => ?_) (fun c33 => ?_)
    · have hf := pm_it hf ((pm_lg_eq _ _).mp c33)
      cases hf
      exact pm_vret C X dX16_turns_361 rfl (Nat.le_refl _) (Nat.le_refl _) q
    · have hf := pm_ie hf ((fun z => c33 ((pm_lg_eq _ _).mpr z)))
      refine pm_aload_n C dX16_turns_176 rfl rfl ?_
      refine pm_iload_n C dX16_turns_177 rfl rfl ?_
      obtain ⟨k34, hf⟩ := pm_if hf
      obtain ⟨v35, e36, hf⟩ := pm_bd hf
      refine pm_callV (as := [.int v28.1.toInt32]) (st := []) C X dX16_turns_178 lnX16_1170 myX16_branches viX16_branches ⟨by decide, by decide⟩ rfl rfl k34 (Nat.le_of_ble_eq_true rfl) (Nat.le_refl _) (Nat.le_refl _) (ctX16_branches e36 ?_)
      show pm_G g 181 [(3, .int v28.1.toInt32), (0, .ref a0), (1, .int p1), (2, .int p2)] [] v35 0 0
      refine pm_goto (tgt := 361) C dX16_turns_181 (by decide) ?_
      cases hf
      exact pm_vret C X dX16_turns_361 rfl (Nat.le_refl _) (Nat.le_refl _) q
  have hf := pm_ie hf c26
  by_cases c37 : p1 = 14
  · have hf := pm_it hf c37
    refine pm_tableIn (tgt := 184) C dX16_turns_1 (by rw [c37]; decide) (by rw [c37]; decide) (by rw [c37]; rfl) (by decide) ?_
    refine pm_aload_n C dX16_turns_184 rfl rfl ?_
    obtain ⟨k38, hf⟩ := pm_if hf
    obtain ⟨v39, e40, hf⟩ := pm_bd hf
    refine pm_callV (as := []) (st := []) C X dX16_turns_185 lnX16_603 myX16_word viX16_word ⟨by decide, by decide⟩ rfl rfl k38 (Nat.le_of_ble_eq_true rfl) (Nat.le_refl _) (Nat.le_refl _) (ctX16_word e40 ?_)
    show pm_G g 188 [(0, .ref a0), (1, .int p1), (2, .int p2)] [.long v39.1] v39.2 0 0
    refine pm_lstore (lv' := [(4, .long v39.1), (0, .ref a0), (1, .int p1), (2, .int p2)]) C dX16_turns_188 (pm_nl X (by decide)) rfl ?_
    refine pm_aload_n C dX16_turns_190 rfl rfl ?_
    obtain ⟨k41, hf⟩ := pm_if hf
    obtain ⟨v42, e43, hf⟩ := pm_bd hf
    refine pm_callV (as := []) (st := []) C X dX16_turns_191 lnX16_1157 myX16_pop viX16_pop ⟨by decide, by decide⟩ rfl rfl k41 (Nat.le_of_ble_eq_true rfl) (Nat.le_refl _) (Nat.le_refl _) (ctX16_pop e43 ?_)
    show pm_G g 194 [(4, .long v39.1), (0, .ref a0), (1, .int p1), (2, .int p2)] [.long v42.1] v42.2 0 0
    refine pm_lstore (lv' := [(6, .long v42.1), (4, .long v39.1), (0, .ref a0), (1, .int p1), (2, .int p2)]) C dX16_turns_194 (pm_nl X (by decide)) rfl ?_
    refine pm_lload C dX16_turns_196 rfl ?_
    refine pm_lload C dX16_turns_198 rfl ?_
    refine pm_lcmp C dX16_turns_200 ?_
    refine pm_if_ge (tgt := 209) C dX16_turns_201 (by decide) (fun c44 => ?_) (fun c44 => ?_)
    · have hf := pm_it hf ((pm_lg_ge _ _).mp c44)
      refine pm_lload C dX16_turns_209 rfl ?_
      refine pm_lstore (lv' := [(8, .long v39.1), (6, .long v42.1), (4, .long v39.1), (0, .ref a0), (1, .int p1), (2, .int p2)]) C dX16_turns_211 (pm_nl X (by decide)) rfl ?_
      refine pm_aload_n C dX16_turns_213 rfl rfl ?_
      obtain ⟨k45, hf⟩ := pm_if hf
      obtain ⟨v46, e47, hf⟩ := pm_bd hf
      refine pm_callV (as := []) (st := []) C X dX16_turns_214 lnX16_603 myX16_word viX16_word ⟨by decide, by decide⟩ rfl rfl k45 (Nat.le_of_ble_eq_true rfl) (Nat.le_refl _) (Nat.le_refl _) (ctX16_word e47 ?_)
      show pm_G g 217 [(8, .long v39.1), (6, .long v42.1), (4, .long v39.1), (0, .ref a0), (1, .int p1), (2, .int p2)] [.long v46.1] v46.2 0 0
      refine pm_lstore (lv' := [(10, .long v46.1), (8, .long v39.1), (6, .long v42.1), (4, .long v39.1), (0, .ref a0), (1, .int p1), (2, .int p2)]) C dX16_turns_217 (pm_nl X (by decide)) rfl ?_
      refine pm_lconst (v := 0) C dX16_turns_219 (by decide) ?_
      refine pm_lstore (lv' := [(12, .long 0), (10, .long v46.1), (8, .long v39.1), (6, .long v42.1), (4, .long v39.1), (0, .ref a0), (1, .int p1), (2, .int p2)]) C dX16_turns_220 (pm_nl X (by decide)) rfl ?_
      obtain ⟨n, hn⟩ := pm_lim_iter hf
      exact pm_sub [5, 2, 1, 0] rfl ((lpX16_turns C X q n) a0 v39.1 v46.1 0 v46.2 hn)
    · have hf := pm_ie hf ((fun z => c44 ((pm_lg_ge _ _).mpr z)))
      refine pm_lload C dX16_turns_204 rfl ?_
      refine pm_goto (tgt := 211) C dX16_turns_206 (by decide) ?_
      refine pm_lstore (lv' := [(8, .long v42.1), (6, .long v42.1), (4, .long v39.1), (0, .ref a0), (1, .int p1), (2, .int p2)]) C dX16_turns_211 (pm_nl X (by decide)) rfl ?_
      refine pm_aload_n C dX16_turns_213 rfl rfl ?_
      obtain ⟨k48, hf⟩ := pm_if hf
      obtain ⟨v49, e50, hf⟩ := pm_bd hf
      refine pm_callV (as := []) (st := []) C X dX16_turns_214 lnX16_603 myX16_word viX16_word ⟨by decide, by decide⟩ rfl rfl k48 (Nat.le_of_ble_eq_true rfl) (Nat.le_refl _) (Nat.le_refl _) (ctX16_word e50 ?_)
      show pm_G g 217 [(8, .long v42.1), (6, .long v42.1), (4, .long v39.1), (0, .ref a0), (1, .int p1), (2, .int p2)] [.long v49.1] v49.2 0 0
      refine pm_lstore (lv' := [(10, .long v49.1), (8, .long v42.1), (6, .long v42.1), (4, .long v39.1), (0, .ref a0), (1, .int p1), (2, .int p2)]) C dX16_turns_217 (pm_nl X (by decide)) rfl ?_
      refine pm_lconst (v := 0) C dX16_turns_219 (by decide) ?_
      refine pm_lstore (lv' := [(12, .long 0), (10, .long v49.1), (8, .long v42.1), (6, .long v42.1), (4, .long v39.1), (0, .ref a0), (1, .int p1), (2, .int p2)]) C dX16_turns_220 (pm_nl X (by decide)) rfl ?_
      obtain ⟨n, hn⟩ := pm_lim_iter hf
      exact pm_sub [5, 2, 1, 0] rfl ((lpX16_turns C X q n) a0 v42.1 v49.1 0 v49.2 hn)
  have hf := pm_ie hf c37
  by_cases c51 : p1 = 15
  · have hf := pm_it hf c51
    refine pm_tableIn (tgt := 255) C dX16_turns_1 (by rw [c51]; decide) (by rw [c51]; decide) (by rw [c51]; rfl) (by decide) ?_
    refine pm_aload_n C dX16_turns_255 rfl rfl ?_
    refine pm_aload_n C dX16_turns_256 rfl rfl ?_
    obtain ⟨k52, hf⟩ := pm_if hf
    refine pm_getI C dX16_turns_257 flX16_1086 rfl k52 rfl ?_
    refine pm_iconst (v := 1) C dX16_turns_260 (by decide) ?_
    refine pm_isub C dX16_turns_261 ?_
    refine pm_aload_n C dX16_turns_262 rfl rfl ?_
    obtain ⟨v53, e54, hf⟩ := pm_bd hf
    refine pm_getR C dX16_turns_263 flX16_188 rfl k52 e54 ?_
    refine pm_aload_n C dX16_turns_266 rfl rfl ?_
    refine pm_getI C dX16_turns_267 flX16_1052 rfl k52 rfl ?_
    refine pm_iconst (v := 1) C dX16_turns_270 (by decide) ?_
    refine pm_isub C dX16_turns_271 ?_
    obtain ⟨y55, e56, hf⟩ := pm_lt hf
    refine pm_topI e56 ?_
    obtain ⟨k57, hf⟩ := pm_if hf
    obtain ⟨u58, hf⟩ := pm_if hf
    refine pm_iald C dX16_turns_272 k57 u58 rfl ?_
    refine pm_isub C dX16_turns_273 ?_
    obtain ⟨v59, e60, hf⟩ := pm_bd hf
    refine pm_callV (as := [.int (((pm_I h a0 96) - 1) - (pm_I h v53 y55.toNatClampNeg))]) (st := []) C X dX16_turns_274 lnX16_1170 myX16_branches viX16_branches ⟨by decide, by decide⟩ rfl rfl k52 (Nat.le_of_ble_eq_true rfl) (Nat.le_refl _) (Nat.le_refl _) (ctX16_branches e60 ?_)
    show pm_G g 277 [(0, .ref a0), (1, .int p1), (2, .int p2)] [] v59 0 0
    refine pm_goto (tgt := 361) C dX16_turns_277 (by decide) ?_
    cases hf
    exact pm_vret C X dX16_turns_361 rfl (Nat.le_refl _) (Nat.le_refl _) q
  have hf := pm_ie hf c51
  by_cases c61 : p1 = 16
  · have hf := pm_it hf c61
    refine pm_tableIn (tgt := 280) C dX16_turns_1 (by rw [c61]; decide) (by rw [c61]; decide) (by rw [c61]; rfl) (by decide) ?_
    refine pm_aload_n C dX16_turns_280 rfl rfl ?_
    refine pm_aload_n C dX16_turns_281 rfl rfl ?_
    obtain ⟨k62, hf⟩ := pm_if hf
    obtain ⟨v63, e64, hf⟩ := pm_bd hf
    refine pm_getR C dX16_turns_282 flX16_134 rfl k62 e64 ?_
    refine pm_sipush (v := 128) C dX16_turns_285 (by decide) ?_
    refine pm_aload_n C dX16_turns_288 rfl rfl ?_
    refine pm_getI C dX16_turns_289 flX16_1110 rfl k62 rfl ?_
    refine pm_imul C dX16_turns_292 ?_
    refine pm_aload_n C dX16_turns_293 rfl rfl ?_
    obtain ⟨v65, e66, hf⟩ := pm_bd hf
    refine pm_callV (as := []) (st := [.int (128 * (pm_I h a0 95)), .ref v63, .ref a0]) C X dX16_turns_294 lnX16_603 myX16_word viX16_word ⟨by decide, by decide⟩ rfl rfl k62 (Nat.le_of_ble_eq_true rfl) (Nat.le_refl _) (Nat.le_refl _) (ctX16_word e66 ?_)
    show pm_G g 297 [(0, .ref a0), (1, .int p1), (2, .int p2)] [.long v65.1, .int (128 * (pm_I h a0 95)), .ref v63, .ref a0] v65.2 0 0
    refine pm_l2i C dX16_turns_297 ?_
    refine pm_iadd C dX16_turns_298 ?_
    obtain ⟨y67, e68, hf⟩ := pm_lt hf
    refine pm_topI e68 ?_
    obtain ⟨k69, hf⟩ := pm_if hf
    obtain ⟨u70, hf⟩ := pm_if hf
    refine pm_iald C dX16_turns_299 k69 u70 rfl ?_
    obtain ⟨k71, hf⟩ := pm_if hf
    obtain ⟨v72, e73, hf⟩ := pm_bd hf
    refine pm_callV (as := [.int (pm_I v65.2 v63 y67.toNatClampNeg)]) (st := []) C X dX16_turns_300 lnX16_1173 myX16_invokes viX16_invokes ⟨by decide, by decide⟩ rfl rfl k71 (Nat.le_of_ble_eq_true rfl) (Nat.le_refl _) (Nat.le_refl _) (ctX16_invokes e73 ?_)
    show pm_G g 303 [(0, .ref a0), (1, .int p1), (2, .int p2)] [] v72 0 0
    refine pm_goto (tgt := 361) C dX16_turns_303 (by decide) ?_
    cases hf
    exact pm_vret C X dX16_turns_361 rfl (Nat.le_refl _) (Nat.le_refl _) q
  have hf := pm_ie hf c61
  by_cases c74 : p1 = 17
  · have hf := pm_it hf c74
    refine pm_tableIn (tgt := 306) C dX16_turns_1 (by rw [c74]; decide) (by rw [c74]; decide) (by rw [c74]; rfl) (by decide) ?_
    refine pm_aload_n C dX16_turns_306 rfl rfl ?_
    obtain ⟨k75, hf⟩ := pm_if hf
    obtain ⟨v76, e77, hf⟩ := pm_bd hf
    refine pm_callV (as := []) (st := []) C X dX16_turns_307 lnX16_1176 myX16_invokesEntry viX16_invokesEntry ⟨by decide, by decide⟩ rfl rfl k75 (Nat.le_of_ble_eq_true rfl) (Nat.le_refl _) (Nat.le_refl _) (ctX16_invokesEntry e77 ?_)
    show pm_G g 310 [(0, .ref a0), (1, .int p1), (2, .int p2)] [] v76 0 0
    refine pm_goto (tgt := 361) C dX16_turns_310 (by decide) ?_
    cases hf
    exact pm_vret C X dX16_turns_361 rfl (Nat.le_refl _) (Nat.le_refl _) q
  have hf := pm_ie hf c74
  by_cases c78 : p1 = 18
  · have hf := pm_it hf c78
    refine pm_tableIn (tgt := 361) C dX16_turns_1 (by rw [c78]; decide) (by rw [c78]; decide) (by rw [c78]; rfl) (by decide) ?_
    cases hf
    exact pm_vret C X dX16_turns_361 rfl (Nat.le_refl _) (Nat.le_refl _) q
  have hf := pm_ie hf c78
  by_cases c79 : p1 = 19
  · have hf := pm_it hf c79
    refine pm_tableIn (tgt := 361) C dX16_turns_1 (by rw [c79]; decide) (by rw [c79]; decide) (by rw [c79]; rfl) (by decide) ?_
    cases hf
    exact pm_vret C X dX16_turns_361 rfl (Nat.le_refl _) (Nat.le_refl _) q
  have hf := pm_ie hf c79
  by_cases c80 : p1 = 20
  · have hf := pm_it hf c80
    refine pm_tableIn (tgt := 361) C dX16_turns_1 (by rw [c80]; decide) (by rw [c80]; decide) (by rw [c80]; rfl) (by decide) ?_
    cases hf
    exact pm_vret C X dX16_turns_361 rfl (Nat.le_refl _) (Nat.le_refl _) q
  have hf := pm_ie hf c80
  by_cases c81 : p1 = 21
  · have hf := pm_it hf c81
    refine pm_tableIn (tgt := 361) C dX16_turns_1 (by rw [c81]; decide) (by rw [c81]; decide) (by rw [c81]; rfl) (by decide) ?_
    cases hf
    exact pm_vret C X dX16_turns_361 rfl (Nat.le_refl _) (Nat.le_refl _) q
  have hf := pm_ie hf c81
  by_cases c82 : p1 = 22
  · have hf := pm_it hf c82
    refine pm_tableIn (tgt := 361) C dX16_turns_1 (by rw [c82]; decide) (by rw [c82]; decide) (by rw [c82]; rfl) (by decide) ?_
    cases hf
    exact pm_vret C X dX16_turns_361 rfl (Nat.le_refl _) (Nat.le_refl _) q
  have hf := pm_ie hf c82
  by_cases c83 : p1 = 23
  · have hf := pm_it hf c83
    refine pm_tableIn (tgt := 361) C dX16_turns_1 (by rw [c83]; decide) (by rw [c83]; decide) (by rw [c83]; rfl) (by decide) ?_
    cases hf
    exact pm_vret C X dX16_turns_361 rfl (Nat.le_refl _) (Nat.le_refl _) q
  have hf := pm_ie hf c83
  by_cases c84 : p1 = 24
  · have hf := pm_it hf c84
    refine pm_tableIn (tgt := 361) C dX16_turns_1 (by rw [c84]; decide) (by rw [c84]; decide) (by rw [c84]; rfl) (by decide) ?_
    cases hf
    exact pm_vret C X dX16_turns_361 rfl (Nat.le_refl _) (Nat.le_refl _) q
  have hf := pm_ie hf c84
  by_cases c85 : p1 = 25
  · have hf := pm_it hf c85
    refine pm_tableIn (tgt := 361) C dX16_turns_1 (by rw [c85]; decide) (by rw [c85]; decide) (by rw [c85]; rfl) (by decide) ?_
    cases hf
    exact pm_vret C X dX16_turns_361 rfl (Nat.le_refl _) (Nat.le_refl _) q
  have hf := pm_ie hf c85
  by_cases c86 : p1 = 26
  · have hf := pm_it hf c86
    refine pm_tableIn (tgt := 313) C dX16_turns_1 (by rw [c86]; decide) (by rw [c86]; decide) (by rw [c86]; rfl) (by decide) ?_
    refine pm_aload_n C dX16_turns_313 rfl rfl ?_
    obtain ⟨k87, hf⟩ := pm_if hf
    obtain ⟨v88, e89, hf⟩ := pm_bd hf
    refine pm_callV (as := []) (st := []) C X dX16_turns_314 lnX16_1157 myX16_pop viX16_pop ⟨by decide, by decide⟩ rfl rfl k87 (Nat.le_of_ble_eq_true rfl) (Nat.le_refl _) (Nat.le_refl _) (ctX16_pop e89 ?_)
    show pm_G g 317 [(0, .ref a0), (1, .int p1), (2, .int p2)] [.long v88.1] v88.2 0 0
    refine pm_lstore (lv' := [(12, .long v88.1), (0, .ref a0), (1, .int p1), (2, .int p2)]) C dX16_turns_317 (pm_nl X (by decide)) rfl ?_
    refine pm_goto (tgt := 361) C dX16_turns_319 (by decide) ?_
    cases hf
    exact pm_vret C X dX16_turns_361 rfl (Nat.le_refl _) (Nat.le_refl _) q
  have hf := pm_ie hf c86
  by_cases c90 : p1 = 27
  · have hf := pm_it hf c90
    refine pm_tableIn (tgt := 322) C dX16_turns_1 (by rw [c90]; decide) (by rw [c90]; decide) (by rw [c90]; rfl) (by decide) ?_
    refine pm_aload_n C dX16_turns_322 rfl rfl ?_
    obtain ⟨k91, hf⟩ := pm_if hf
    obtain ⟨v92, e93, hf⟩ := pm_bd hf
    refine pm_callV (as := []) (st := []) C X dX16_turns_323 lnX16_1157 myX16_pop viX16_pop ⟨by decide, by decide⟩ rfl rfl k91 (Nat.le_of_ble_eq_true rfl) (Nat.le_refl _) (Nat.le_refl _) (ctX16_pop e93 ?_)
    show pm_G g 326 [(0, .ref a0), (1, .int p1), (2, .int p2)] [.long v92.1] v92.2 0 0
    refine pm_lstore (lv' := [(14, .long v92.1), (0, .ref a0), (1, .int p1), (2, .int p2)]) C dX16_turns_326 (pm_nl X (by decide)) rfl ?_
    refine pm_aload_n C dX16_turns_328 rfl rfl ?_
    obtain ⟨k94, hf⟩ := pm_if hf
    obtain ⟨v95, e96, hf⟩ := pm_bd hf
    refine pm_callV (as := []) (st := []) C X dX16_turns_329 lnX16_1157 myX16_pop viX16_pop ⟨by decide, by decide⟩ rfl rfl k94 (Nat.le_of_ble_eq_true rfl) (Nat.le_refl _) (Nat.le_refl _) (ctX16_pop e96 ?_)
    show pm_G g 332 [(14, .long v92.1), (0, .ref a0), (1, .int p1), (2, .int p2)] [.long v95.1] v95.2 0 0
    refine pm_lstore (lv' := [(16, .long v95.1), (14, .long v92.1), (0, .ref a0), (1, .int p1), (2, .int p2)]) C dX16_turns_332 (pm_nl X (by decide)) rfl ?_
    refine pm_aload_n C dX16_turns_334 rfl rfl ?_
    obtain ⟨k97, hf⟩ := pm_if hf
    obtain ⟨v98, e99, hf⟩ := pm_bd hf
    refine pm_callV (as := []) (st := []) C X dX16_turns_335 lnX16_1157 myX16_pop viX16_pop ⟨by decide, by decide⟩ rfl rfl k97 (Nat.le_of_ble_eq_true rfl) (Nat.le_refl _) (Nat.le_refl _) (ctX16_pop e99 ?_)
    show pm_G g 338 [(16, .long v95.1), (14, .long v92.1), (0, .ref a0), (1, .int p1), (2, .int p2)] [.long v98.1] v98.2 0 0
    refine pm_lstore (lv' := [(18, .long v98.1), (16, .long v95.1), (14, .long v92.1), (0, .ref a0), (1, .int p1), (2, .int p2)]) C dX16_turns_338 (pm_nl X (by decide)) rfl ?_
    refine pm_aload_n C dX16_turns_340 rfl rfl ?_
    refine pm_lload C dX16_turns_341 rfl ?_
    refine pm_lconst (v := 0) C dX16_turns_343 (by decide) ?_
    refine pm_lcmp C dX16_turns_344 ?_
    refine pm_if_eq (tgt := 353) C dX16_turns_345 (by decide) (fun c100 => ?_) (fun c100 => ?_)
    · have hf := pm_it hf ((pm_lg_eq _ _).mp c100)
      refine pm_lload C dX16_turns_353 rfl ?_
      obtain ⟨k101, hf⟩ := pm_if hf
      obtain ⟨v102, e103, hf⟩ := pm_bd hf
      refine pm_callV (as := [.long v95.1]) (st := []) C X dX16_turns_355 lnX16_1136 myX16_push viX16_push ⟨by decide, by decide⟩ rfl rfl k101 (Nat.le_of_ble_eq_true rfl) (Nat.le_refl _) (Nat.le_refl _) (ctX16_push e103 ?_)
      show pm_G g 358 [(18, .long v98.1), (16, .long v95.1), (14, .long v92.1), (0, .ref a0), (1, .int p1), (2, .int p2)] [] v102 0 0
      refine pm_goto (tgt := 361) C dX16_turns_358 (by decide) ?_
      cases hf
      exact pm_vret C X dX16_turns_361 rfl (Nat.le_refl _) (Nat.le_refl _) q
    · have hf := pm_ie hf ((fun z => c100 ((pm_lg_eq _ _).mpr z)))
      refine pm_lload C dX16_turns_348 rfl ?_
      refine pm_goto (tgt := 355) C dX16_turns_350 (by decide) ?_
      obtain ⟨k104, hf⟩ := pm_if hf
      obtain ⟨v105, e106, hf⟩ := pm_bd hf
      refine pm_callV (as := [.long v98.1]) (st := []) C X dX16_turns_355 lnX16_1136 myX16_push viX16_push ⟨by decide, by decide⟩ rfl rfl k104 (Nat.le_of_ble_eq_true rfl) (Nat.le_refl _) (Nat.le_refl _) (ctX16_push e106 ?_)
      show pm_G g 358 [(18, .long v98.1), (16, .long v95.1), (14, .long v92.1), (0, .ref a0), (1, .int p1), (2, .int p2)] [] v105 0 0
      refine pm_goto (tgt := 361) C dX16_turns_358 (by decide) ?_
      cases hf
      exact pm_vret C X dX16_turns_361 rfl (Nat.le_refl _) (Nat.le_refl _) q
  have hf := pm_ie hf c90
  by_cases c107 : p1 = 28
  · have hf := pm_it hf c107
    refine pm_tableIn (tgt := 322) C dX16_turns_1 (by rw [c107]; decide) (by rw [c107]; decide) (by rw [c107]; rfl) (by decide) ?_
    refine pm_aload_n C dX16_turns_322 rfl rfl ?_
    obtain ⟨k108, hf⟩ := pm_if hf
    obtain ⟨v109, e110, hf⟩ := pm_bd hf
    refine pm_callV (as := []) (st := []) C X dX16_turns_323 lnX16_1157 myX16_pop viX16_pop ⟨by decide, by decide⟩ rfl rfl k108 (Nat.le_of_ble_eq_true rfl) (Nat.le_refl _) (Nat.le_refl _) (ctX16_pop e110 ?_)
    show pm_G g 326 [(0, .ref a0), (1, .int p1), (2, .int p2)] [.long v109.1] v109.2 0 0
    refine pm_lstore (lv' := [(14, .long v109.1), (0, .ref a0), (1, .int p1), (2, .int p2)]) C dX16_turns_326 (pm_nl X (by decide)) rfl ?_
    refine pm_aload_n C dX16_turns_328 rfl rfl ?_
    obtain ⟨k111, hf⟩ := pm_if hf
    obtain ⟨v112, e113, hf⟩ := pm_bd hf
    refine pm_callV (as := []) (st := []) C X dX16_turns_329 lnX16_1157 myX16_pop viX16_pop ⟨by decide, by decide⟩ rfl rfl k111 (Nat.le_of_ble_eq_true rfl) (Nat.le_refl _) (Nat.le_refl _) (ctX16_pop e113 ?_)
    show pm_G g 332 [(14, .long v109.1), (0, .ref a0), (1, .int p1), (2, .int p2)] [.long v112.1] v112.2 0 0
    refine pm_lstore (lv' := [(16, .long v112.1), (14, .long v109.1), (0, .ref a0), (1, .int p1), (2, .int p2)]) C dX16_turns_332 (pm_nl X (by decide)) rfl ?_
    refine pm_aload_n C dX16_turns_334 rfl rfl ?_
    obtain ⟨k114, hf⟩ := pm_if hf
    obtain ⟨v115, e116, hf⟩ := pm_bd hf
    refine pm_callV (as := []) (st := []) C X dX16_turns_335 lnX16_1157 myX16_pop viX16_pop ⟨by decide, by decide⟩ rfl rfl k114 (Nat.le_of_ble_eq_true rfl) (Nat.le_refl _) (Nat.le_refl _) (ctX16_pop e116 ?_)
    show pm_G g 338 [(16, .long v112.1), (14, .long v109.1), (0, .ref a0), (1, .int p1), (2, .int p2)] [.long v115.1] v115.2 0 0
    refine pm_lstore (lv' := [(18, .long v115.1), (16, .long v112.1), (14, .long v109.1), (0, .ref a0), (1, .int p1), (2, .int p2)]) C dX16_turns_338 (pm_nl X (by decide)) rfl ?_
    refine pm_aload_n C dX16_turns_340 rfl rfl ?_
    refine pm_lload C dX16_turns_341 rfl ?_
    refine pm_lconst (v := 0) C dX16_turns_343 (by decide) ?_
    refine pm_lcmp C dX16_turns_344 ?_
    refine pm_if_eq (tgt := 353) C dX16_turns_345 (by decide) (fun c117 => ?_) (fun c117 => ?_)
    · have hf := pm_it hf ((pm_lg_eq _ _).mp c117)
      refine pm_lload C dX16_turns_353 rfl ?_
      obtain ⟨k118, hf⟩ := pm_if hf
      obtain ⟨v119, e120, hf⟩ := pm_bd hf
      refine pm_callV (as := [.long v112.1]) (st := []) C X dX16_turns_355 lnX16_1136 myX16_push viX16_push ⟨by decide, by decide⟩ rfl rfl k118 (Nat.le_of_ble_eq_true rfl) (Nat.le_refl _) (Nat.le_refl _) (ctX16_push e120 ?_)
      show pm_G g 358 [(18, .long v115.1), (16, .long v112.1), (14, .long v109.1), (0, .ref a0), (1, .int p1), (2, .int p2)] [] v119 0 0
      refine pm_goto (tgt := 361) C dX16_turns_358 (by decide) ?_
      cases hf
      exact pm_vret C X dX16_turns_361 rfl (Nat.le_refl _) (Nat.le_refl _) q
    · have hf := pm_ie hf ((fun z => c117 ((pm_lg_eq _ _).mpr z)))
      refine pm_lload C dX16_turns_348 rfl ?_
      refine pm_goto (tgt := 355) C dX16_turns_350 (by decide) ?_
      obtain ⟨k121, hf⟩ := pm_if hf
      obtain ⟨v122, e123, hf⟩ := pm_bd hf
      refine pm_callV (as := [.long v115.1]) (st := []) C X dX16_turns_355 lnX16_1136 myX16_push viX16_push ⟨by decide, by decide⟩ rfl rfl k121 (Nat.le_of_ble_eq_true rfl) (Nat.le_refl _) (Nat.le_refl _) (ctX16_push e123 ?_)
      show pm_G g 358 [(18, .long v115.1), (16, .long v112.1), (14, .long v109.1), (0, .ref a0), (1, .int p1), (2, .int p2)] [] v122 0 0
      refine pm_goto (tgt := 361) C dX16_turns_358 (by decide) ?_
      cases hf
      exact pm_vret C X dX16_turns_361 rfl (Nat.le_refl _) (Nat.le_refl _) q
  have hf := pm_ie hf c107
  have nc1 := lv_neT c1 (by decide : (0 : Int32).toInt = 0)
  have nc5 := lv_neT c5 (by decide : (1 : Int32).toInt = 1)
  have nc6 := lv_neT c6 (by decide : (2 : Int32).toInt = 2)
  have nc7 := lv_neT c7 (by decide : (3 : Int32).toInt = 3)
  have nc8 := lv_neT c8 (by decide : (4 : Int32).toInt = 4)
  have nc12 := lv_neT c12 (by decide : (5 : Int32).toInt = 5)
  have nc13 := lv_neT c13 (by decide : (6 : Int32).toInt = 6)
  have nc14 := lv_neT c14 (by decide : (7 : Int32).toInt = 7)
  have nc15 := lv_neT c15 (by decide : (8 : Int32).toInt = 8)
  have nc16 := lv_neT c16 (by decide : (9 : Int32).toInt = 9)
  have nc17 := lv_neT c17 (by decide : (10 : Int32).toInt = 10)
  have nc18 := lv_neT c18 (by decide : (11 : Int32).toInt = 11)
  have nc19 := lv_neT c19 (by decide : (12 : Int32).toInt = 12)
  have nc26 := lv_neT c26 (by decide : (13 : Int32).toInt = 13)
  have nc37 := lv_neT c37 (by decide : (14 : Int32).toInt = 14)
  have nc51 := lv_neT c51 (by decide : (15 : Int32).toInt = 15)
  have nc61 := lv_neT c61 (by decide : (16 : Int32).toInt = 16)
  have nc74 := lv_neT c74 (by decide : (17 : Int32).toInt = 17)
  have nc78 := lv_neT c78 (by decide : (18 : Int32).toInt = 18)
  have nc79 := lv_neT c79 (by decide : (19 : Int32).toInt = 19)
  have nc80 := lv_neT c80 (by decide : (20 : Int32).toInt = 20)
  have nc81 := lv_neT c81 (by decide : (21 : Int32).toInt = 21)
  have nc82 := lv_neT c82 (by decide : (22 : Int32).toInt = 22)
  have nc83 := lv_neT c83 (by decide : (23 : Int32).toInt = 23)
  have nc84 := lv_neT c84 (by decide : (24 : Int32).toInt = 24)
  have nc85 := lv_neT c85 (by decide : (25 : Int32).toInt = 25)
  have nc86 := lv_neT c86 (by decide : (26 : Int32).toInt = 26)
  have nc90 := lv_neT c90 (by decide : (27 : Int32).toInt = 27)
  have nc107 := lv_neT c107 (by decide : (28 : Int32).toInt = 28)
  refine pm_tableOut (tgt := 361) C dX16_turns_1 (by omega) (by decide) ?_
  cases hf
  exact pm_vret C X dX16_turns_361 rfl (Nat.le_refl _) (Nat.le_refl _) q
