theorem dX16_controls_0 : decode cX16_controls 0 = .ok (.iload_n 1, 1) := by decide +kernel
theorem dX16_controls_1 : decode cX16_controls 1 = .ok (.tableswitch 394 0 28 #[131, 394, 138, 138, 138, 174, 394, 394, 394, 394, 394, 174, 182, 198, 253, 260, 276, 307, 394, 394, 394, 394, 394, 394, 394, 394, 335, 345, 352], 131) := by decide +kernel
theorem dX16_controls_132 : decode cX16_controls 132 = .ok (.aload_n 0, 1) := by decide +kernel
theorem dX16_controls_133 : decode cX16_controls 133 = .ok (.invokevirtual 762, 3) := by decide +kernel
theorem dX16_controls_136 : decode cX16_controls 136 = .ok (.goto 259, 3) := by decide +kernel
theorem dX16_controls_139 : decode cX16_controls 139 = .ok (.aload_n 0, 1) := by decide +kernel
theorem dX16_controls_140 : decode cX16_controls 140 = .ok (.invokevirtual 600, 3) := by decide +kernel
theorem dX16_controls_143 : decode cX16_controls 143 = .ok (.lstore_n 2, 1) := by decide +kernel
theorem dX16_controls_144 : decode cX16_controls 144 = .ok (.iload_n 1, 1) := by decide +kernel
theorem dX16_controls_145 : decode cX16_controls 145 = .ok (.iconst 4, 1) := by decide +kernel
theorem dX16_controls_146 : decode cX16_controls 146 = .ok (.if_icmp .ne 10, 3) := by decide +kernel
theorem dX16_controls_149 : decode cX16_controls 149 = .ok (.aload_n 0, 1) := by decide +kernel
theorem dX16_controls_150 : decode cX16_controls 150 = .ok (.bipush 127, 2) := by decide +kernel
theorem dX16_controls_152 : decode cX16_controls 152 = .ok (.iconst 1, 1) := by decide +kernel
theorem dX16_controls_153 : decode cX16_controls 153 = .ok (.invokevirtual 750, 3) := by decide +kernel
theorem dX16_controls_156 : decode cX16_controls 156 = .ok (.aload_n 0, 1) := by decide +kernel
theorem dX16_controls_157 : decode cX16_controls 157 = .ok (.lload_n 2, 1) := by decide +kernel
theorem dX16_controls_158 : decode cX16_controls 158 = .ok (.invokevirtual 765, 3) := by decide +kernel
theorem dX16_controls_161 : decode cX16_controls 161 = .ok (.aload_n 0, 1) := by decide +kernel
theorem dX16_controls_162 : decode cX16_controls 162 = .ok (.iload_n 1, 1) := by decide +kernel
theorem dX16_controls_163 : decode cX16_controls 163 = .ok (.lload_n 2, 1) := by decide +kernel
theorem dX16_controls_164 : decode cX16_controls 164 = .ok (.invokevirtual 716, 3) := by decide +kernel
theorem dX16_controls_167 : decode cX16_controls 167 = .ok (.aload_n 0, 1) := by decide +kernel
theorem dX16_controls_168 : decode cX16_controls 168 = .ok (.lload_n 2, 1) := by decide +kernel
theorem dX16_controls_169 : decode cX16_controls 169 = .ok (.invokevirtual 768, 3) := by decide +kernel
theorem dX16_controls_172 : decode cX16_controls 172 = .ok (.goto 223, 3) := by decide +kernel
theorem dX16_controls_175 : decode cX16_controls 175 = .ok (.aload_n 0, 1) := by decide +kernel
theorem dX16_controls_176 : decode cX16_controls 176 = .ok (.iload_n 1, 1) := by decide +kernel
theorem dX16_controls_177 : decode cX16_controls 177 = .ok (.invokevirtual 771, 3) := by decide +kernel
theorem dX16_controls_180 : decode cX16_controls 180 = .ok (.goto 215, 3) := by decide +kernel
theorem dX16_controls_183 : decode cX16_controls 183 = .ok (.aload_n 0, 1) := by decide +kernel
theorem dX16_controls_184 : decode cX16_controls 184 = .ok (.aload_n 0, 1) := by decide +kernel
theorem dX16_controls_185 : decode cX16_controls 185 = .ok (.invokevirtual 603, 3) := by decide +kernel
theorem dX16_controls_188 : decode cX16_controls 188 = .ok (.l2i, 1) := by decide +kernel
theorem dX16_controls_189 : decode cX16_controls 189 = .ok (.invokevirtual 774, 3) := by decide +kernel
theorem dX16_controls_192 : decode cX16_controls 192 = .ok (.aload_n 0, 1) := by decide +kernel
theorem dX16_controls_193 : decode cX16_controls 193 = .ok (.invokevirtual 762, 3) := by decide +kernel
theorem dX16_controls_196 : decode cX16_controls 196 = .ok (.goto 199, 3) := by decide +kernel
theorem dX16_controls_199 : decode cX16_controls 199 = .ok (.aload_n 0, 1) := by decide +kernel
theorem dX16_controls_200 : decode cX16_controls 200 = .ok (.invokevirtual 603, 3) := by decide +kernel
theorem dX16_controls_203 : decode cX16_controls 203 = .ok (.l2i, 1) := by decide +kernel
theorem dX16_controls_204 : decode cX16_controls 204 = .ok (.istore 4, 2) := by decide +kernel
theorem dX16_controls_206 : decode cX16_controls 206 = .ok (.aload_n 0, 1) := by decide +kernel
theorem dX16_controls_207 : decode cX16_controls 207 = .ok (.bipush 127, 2) := by decide +kernel
theorem dX16_controls_209 : decode cX16_controls 209 = .ok (.iconst 1, 1) := by decide +kernel
theorem dX16_controls_210 : decode cX16_controls 210 = .ok (.invokevirtual 750, 3) := by decide +kernel
theorem dX16_controls_213 : decode cX16_controls 213 = .ok (.aload_n 0, 1) := by decide +kernel
theorem dX16_controls_214 : decode cX16_controls 214 = .ok (.iload 4, 2) := by decide +kernel
theorem dX16_controls_216 : decode cX16_controls 216 = .ok (.invokevirtual 774, 3) := by decide +kernel
theorem dX16_controls_219 : decode cX16_controls 219 = .ok (.iconst 0, 1) := by decide +kernel
theorem dX16_controls_220 : decode cX16_controls 220 = .ok (.istore 5, 2) := by decide +kernel
theorem dX16_controls_222 : decode cX16_controls 222 = .ok (.iload 5, 2) := by decide +kernel
theorem dX16_controls_224 : decode cX16_controls 224 = .ok (.aload_n 0, 1) := by decide +kernel
theorem dX16_controls_225 : decode cX16_controls 225 = .ok (.iload 4, 2) := by decide +kernel
theorem dX16_controls_227 : decode cX16_controls 227 = .ok (.invokevirtual 704, 3) := by decide +kernel
theorem dX16_controls_230 : decode cX16_controls 230 = .ok (.if_icmp .ge 21, 3) := by decide +kernel
theorem dX16_controls_233 : decode cX16_controls 233 = .ok (.aload_n 0, 1) := by decide +kernel
theorem dX16_controls_234 : decode cX16_controls 234 = .ok (.aload_n 0, 1) := by decide +kernel
theorem dX16_controls_235 : decode cX16_controls 235 = .ok (.iload 4, 2) := by decide +kernel
theorem dX16_controls_237 : decode cX16_controls 237 = .ok (.iload 5, 2) := by decide +kernel
theorem dX16_controls_239 : decode cX16_controls 239 = .ok (.invokevirtual 707, 3) := by decide +kernel
theorem dX16_controls_242 : decode cX16_controls 242 = .ok (.invokevirtual 695, 3) := by decide +kernel
theorem dX16_controls_245 : decode cX16_controls 245 = .ok (.iinc 5 1, 3) := by decide +kernel
theorem dX16_controls_248 : decode cX16_controls 248 = .ok (.goto (-26), 3) := by decide +kernel
theorem dX16_controls_251 : decode cX16_controls 251 = .ok (.goto 144, 3) := by decide +kernel
theorem dX16_controls_254 : decode cX16_controls 254 = .ok (.aload_n 0, 1) := by decide +kernel
theorem dX16_controls_255 : decode cX16_controls 255 = .ok (.invokevirtual 777, 3) := by decide +kernel
theorem dX16_controls_258 : decode cX16_controls 258 = .ok (.goto 137, 3) := by decide +kernel
theorem dX16_controls_261 : decode cX16_controls 261 = .ok (.aload_n 0, 1) := by decide +kernel
theorem dX16_controls_262 : decode cX16_controls 262 = .ok (.aload_n 0, 1) := by decide +kernel
theorem dX16_controls_263 : decode cX16_controls 263 = .ok (.getfield 713, 3) := by decide +kernel
theorem dX16_controls_266 : decode cX16_controls 266 = .ok (.i2l, 1) := by decide +kernel
theorem dX16_controls_267 : decode cX16_controls 267 = .ok (.invokevirtual 780, 3) := by decide +kernel
theorem dX16_controls_270 : decode cX16_controls 270 = .ok (.aload_n 0, 1) := by decide +kernel
theorem dX16_controls_271 : decode cX16_controls 271 = .ok (.invokevirtual 762, 3) := by decide +kernel
theorem dX16_controls_274 : decode cX16_controls 274 = .ok (.goto 121, 3) := by decide +kernel
theorem dX16_controls_277 : decode cX16_controls 277 = .ok (.aload_n 0, 1) := by decide +kernel
theorem dX16_controls_278 : decode cX16_controls 278 = .ok (.getfield 221, 3) := by decide +kernel
theorem dX16_controls_281 : decode cX16_controls 281 = .ok (.aload_n 0, 1) := by decide +kernel
theorem dX16_controls_282 : decode cX16_controls 282 = .ok (.invokevirtual 603, 3) := by decide +kernel
theorem dX16_controls_285 : decode cX16_controls 285 = .ok (.l2i, 1) := by decide +kernel
theorem dX16_controls_286 : decode cX16_controls 286 = .ok (.invokevirtual 621, 3) := by decide +kernel
theorem dX16_controls_289 : decode cX16_controls 289 = .ok (.istore 5, 2) := by decide +kernel
theorem dX16_controls_291 : decode cX16_controls 291 = .ok (.aload_n 0, 1) := by decide +kernel
theorem dX16_controls_292 : decode cX16_controls 292 = .ok (.iload 5, 2) := by decide +kernel
theorem dX16_controls_294 : decode cX16_controls 294 = .ok (.i2l, 1) := by decide +kernel
theorem dX16_controls_295 : decode cX16_controls 295 = .ok (.invokevirtual 765, 3) := by decide +kernel
theorem dX16_controls_298 : decode cX16_controls 298 = .ok (.aload_n 0, 1) := by decide +kernel
theorem dX16_controls_299 : decode cX16_controls 299 = .ok (.iload 5, 2) := by decide +kernel
theorem dX16_controls_301 : decode cX16_controls 301 = .ok (.i2l, 1) := by decide +kernel
theorem dX16_controls_302 : decode cX16_controls 302 = .ok (.invokevirtual 783, 3) := by decide +kernel
theorem dX16_controls_305 : decode cX16_controls 305 = .ok (.goto 90, 3) := by decide +kernel
theorem dX16_controls_308 : decode cX16_controls 308 = .ok (.aload_n 0, 1) := by decide +kernel
theorem dX16_controls_309 : decode cX16_controls 309 = .ok (.invokevirtual 603, 3) := by decide +kernel
theorem dX16_controls_312 : decode cX16_controls 312 = .ok (.lstore 6, 2) := by decide +kernel
theorem dX16_controls_314 : decode cX16_controls 314 = .ok (.aload_n 0, 1) := by decide +kernel
theorem dX16_controls_315 : decode cX16_controls 315 = .ok (.bipush 127, 2) := by decide +kernel
theorem dX16_controls_317 : decode cX16_controls 317 = .ok (.iconst 1, 1) := by decide +kernel
theorem dX16_controls_318 : decode cX16_controls 318 = .ok (.invokevirtual 750, 3) := by decide +kernel
theorem dX16_controls_321 : decode cX16_controls 321 = .ok (.aload_n 0, 1) := by decide +kernel
theorem dX16_controls_322 : decode cX16_controls 322 = .ok (.lload 6, 2) := by decide +kernel
theorem dX16_controls_324 : decode cX16_controls 324 = .ok (.invokevirtual 765, 3) := by decide +kernel
theorem dX16_controls_327 : decode cX16_controls 327 = .ok (.aload_n 0, 1) := by decide +kernel
theorem dX16_controls_328 : decode cX16_controls 328 = .ok (.lload 6, 2) := by decide +kernel
theorem dX16_controls_330 : decode cX16_controls 330 = .ok (.invokevirtual 783, 3) := by decide +kernel
theorem dX16_controls_333 : decode cX16_controls 333 = .ok (.goto 62, 3) := by decide +kernel
theorem dX16_controls_336 : decode cX16_controls 336 = .ok (.aload_n 0, 1) := by decide +kernel
theorem dX16_controls_337 : decode cX16_controls 337 = .ok (.iconst 0, 1) := by decide +kernel
theorem dX16_controls_338 : decode cX16_controls 338 = .ok (.invokevirtual 692, 3) := by decide +kernel
theorem dX16_controls_341 : decode cX16_controls 341 = .ok (.istore 8, 2) := by decide +kernel
theorem dX16_controls_343 : decode cX16_controls 343 = .ok (.goto 52, 3) := by decide +kernel
theorem dX16_controls_346 : decode cX16_controls 346 = .ok (.aload_n 0, 1) := by decide +kernel
theorem dX16_controls_347 : decode cX16_controls 347 = .ok (.invokevirtual 786, 3) := by decide +kernel
theorem dX16_controls_350 : decode cX16_controls 350 = .ok (.goto 45, 3) := by decide +kernel
theorem dX16_controls_353 : decode cX16_controls 353 = .ok (.aload_n 0, 1) := by decide +kernel
theorem dX16_controls_354 : decode cX16_controls 354 = .ok (.invokevirtual 603, 3) := by decide +kernel
theorem dX16_controls_357 : decode cX16_controls 357 = .ok (.lstore 9, 2) := by decide +kernel
theorem dX16_controls_359 : decode cX16_controls 359 = .ok (.aload_n 0, 1) := by decide +kernel
theorem dX16_controls_360 : decode cX16_controls 360 = .ok (.getfield 221, 3) := by decide +kernel
theorem dX16_controls_363 : decode cX16_controls 363 = .ok (.aload_n 0, 1) := by decide +kernel
theorem dX16_controls_364 : decode cX16_controls 364 = .ok (.getfield 594, 3) := by decide +kernel
theorem dX16_controls_367 : decode cX16_controls 367 = .ok (.invokevirtual 261, 3) := by decide +kernel
theorem dX16_controls_370 : decode cX16_controls 370 = .ok (.istore 11, 2) := by decide +kernel
theorem dX16_controls_372 : decode cX16_controls 372 = .ok (.aload_n 0, 1) := by decide +kernel
theorem dX16_controls_373 : decode cX16_controls 373 = .ok (.bipush 127, 2) := by decide +kernel
theorem dX16_controls_375 : decode cX16_controls 375 = .ok (.iconst 1, 1) := by decide +kernel
theorem dX16_controls_376 : decode cX16_controls 376 = .ok (.invokevirtual 750, 3) := by decide +kernel
theorem dX16_controls_379 : decode cX16_controls 379 = .ok (.aload_n 0, 1) := by decide +kernel
theorem dX16_controls_380 : decode cX16_controls 380 = .ok (.iload 11, 2) := by decide +kernel
theorem dX16_controls_382 : decode cX16_controls 382 = .ok (.iconst 2, 1) := by decide +kernel
theorem dX16_controls_383 : decode cX16_controls 383 = .ok (.invokevirtual 750, 3) := by decide +kernel
theorem dX16_controls_386 : decode cX16_controls 386 = .ok (.aload_n 0, 1) := by decide +kernel
theorem dX16_controls_387 : decode cX16_controls 387 = .ok (.iload 11, 2) := by decide +kernel
theorem dX16_controls_389 : decode cX16_controls 389 = .ok (.invokevirtual 695, 3) := by decide +kernel
theorem dX16_controls_392 : decode cX16_controls 392 = .ok (.goto 3, 3) := by decide +kernel
theorem dX16_controls_395 : decode cX16_controls 395 = .ok (.return_, 1) := by decide +kernel
noncomputable def tX16_controls_222 (x0 : Nat) (x4 : Int32) (x5 : Int32) (h : pm_H) : Option (((Nat × Int32 × Int32 × pm_H)) ⊕ ((Nat × pm_H) ⊕ pm_H)) := if pm_kd h x0 = 16 then (fX16_wantedBy h x0 x4).bind fun v267 => if v267 ≤ x5 then (some (.inr (.inr (h)))) else ((fX16_wantedAt h x0 x4 x5).bind fun v270 => (fX16_put h x0 v270).bind fun v272 => pt_s v272 fun w274 => pm_let (x5 + 1) fun y276 => some (.inl ((x0, x4, y276, w274)))) else none
noncomputable def sX16_controls : ((Nat × Int32 × Int32 × pm_H)) → Option (((Nat × Int32 × Int32 × pm_H)) ⊕ ((Nat × pm_H) ⊕ pm_H)) := fun z => match z with
  | (x0, x4, x5, h) => tX16_controls_222 x0 x4 x5 h
noncomputable def fX16_controls (h : pm_H) (a0 : Nat) (p1 : Int32) : Option ((Nat × pm_H) ⊕ pm_H) := if p1 = 0 then (if pm_kd h a0 = 16 then (fX16_dies h a0).bind fun v3 => some (.inr (v3)) else none) else (if p1 = 1 then (some (.inr (h))) else (if p1 = 2 then (if pm_kd h a0 = 16 then (fX16_blockWord h a0).bind fun v8 => if p1 = 4 then (if pm_kd v8.2 a0 = 16 then (fX16_takes v8.2 a0 127 1).bind fun v27 => pt_k v27 fun w29 => if pm_kd w29 a0 = 16 then (fX16_takeParameters w29 a0 v8.1).bind fun v32 => pt_k v32 fun w34 => if pm_kd w34 a0 = 16 then (fX16_begins w34 a0 p1 v8.1).bind fun v37 => pt_k v37 fun w39 => if pm_kd w39 a0 = 16 then (fX16_putParameters w39 a0 v8.1).bind fun v42 => pt_k v42 fun w44 => some (.inr (w44)) else none else none else none else none) else (if pm_kd v8.2 a0 = 16 then (fX16_takeParameters v8.2 a0 v8.1).bind fun v12 => pt_k v12 fun w14 => if pm_kd w14 a0 = 16 then (fX16_begins w14 a0 p1 v8.1).bind fun v17 => pt_k v17 fun w19 => if pm_kd w19 a0 = 16 then (fX16_putParameters w19 a0 v8.1).bind fun v22 => pt_k v22 fun w24 => some (.inr (w24)) else none else none else none) else none) else (if p1 = 3 then (if pm_kd h a0 = 16 then (fX16_blockWord h a0).bind fun v48 => if p1 = 4 then (if pm_kd v48.2 a0 = 16 then (fX16_takes v48.2 a0 127 1).bind fun v67 => pt_k v67 fun w69 => if pm_kd w69 a0 = 16 then (fX16_takeParameters w69 a0 v48.1).bind fun v72 => pt_k v72 fun w74 => if pm_kd w74 a0 = 16 then (fX16_begins w74 a0 p1 v48.1).bind fun v77 => pt_k v77 fun w79 => if pm_kd w79 a0 = 16 then (fX16_putParameters w79 a0 v48.1).bind fun v82 => pt_k v82 fun w84 => some (.inr (w84)) else none else none else none else none) else (if pm_kd v48.2 a0 = 16 then (fX16_takeParameters v48.2 a0 v48.1).bind fun v52 => pt_k v52 fun w54 => if pm_kd w54 a0 = 16 then (fX16_begins w54 a0 p1 v48.1).bind fun v57 => pt_k v57 fun w59 => if pm_kd w59 a0 = 16 then (fX16_putParameters w59 a0 v48.1).bind fun v62 => pt_k v62 fun w64 => some (.inr (w64)) else none else none else none) else none) else (if p1 = 4 then (if pm_kd h a0 = 16 then (fX16_blockWord h a0).bind fun v88 => if p1 = 4 then (if pm_kd v88.2 a0 = 16 then (fX16_takes v88.2 a0 127 1).bind fun v107 => pt_k v107 fun w109 => if pm_kd w109 a0 = 16 then (fX16_takeParameters w109 a0 v88.1).bind fun v112 => pt_k v112 fun w114 => if pm_kd w114 a0 = 16 then (fX16_begins w114 a0 p1 v88.1).bind fun v117 => pt_k v117 fun w119 => if pm_kd w119 a0 = 16 then (fX16_putParameters w119 a0 v88.1).bind fun v122 => pt_k v122 fun w124 => some (.inr (w124)) else none else none else none else none) else (if pm_kd v88.2 a0 = 16 then (fX16_takeParameters v88.2 a0 v88.1).bind fun v92 => pt_k v92 fun w94 => if pm_kd w94 a0 = 16 then (fX16_begins w94 a0 p1 v88.1).bind fun v97 => pt_k v97 fun w99 => if pm_kd w99 a0 = 16 then (fX16_putParameters w99 a0 v88.1).bind fun v102 => pt_k v102 fun w104 => some (.inr (w104)) else none else none else none) else none) else (if p1 = 5 then (if pm_kd h a0 = 16 then (fX16_ends h a0 p1).bind fun v128 => pt_k v128 fun w130 => some (.inr (w130)) else none) else (if p1 = 6 then (some (.inr (h))) else (if p1 = 7 then (some (.inr (h))) else (if p1 = 8 then (some (.inr (h))) else (if p1 = 9 then (some (.inr (h))) else (if p1 = 10 then (some (.inr (h))) else (if p1 = 11 then (if pm_kd h a0 = 16 then (fX16_ends h a0 p1).bind fun v139 => pt_k v139 fun w141 => some (.inr (w141)) else none) else (if p1 = 12 then (if pm_kd h a0 = 16 then (fX16_word h a0).bind fun v145 => if pm_kd v145.2 a0 = 16 then (fX16_takeWanted v145.2 a0 v145.1.toInt32).bind fun v148 => pt_k v148 fun w150 => if pm_kd w150 a0 = 16 then (fX16_dies w150 a0).bind fun v153 => some (.inr (v153)) else none else none else none) else (if p1 = 13 then (if pm_kd h a0 = 16 then (fX16_word h a0).bind fun v157 => if pm_kd v157.2 a0 = 16 then (fX16_takes v157.2 a0 127 1).bind fun v160 => pt_k v160 fun w162 => if pm_kd w162 a0 = 16 then (fX16_takeWanted w162 a0 v157.1.toInt32).bind fun v165 => pt_k v165 fun w167 => pm_lim sX16_controls ((a0, v157.1.toInt32, 0, w167)) else none else none else none) else (if p1 = 14 then (if pm_kd h a0 = 16 then (fX16_chooses h a0).bind fun v171 => pt_k v171 fun w173 => some (.inr (w173)) else none) else (if p1 = 15 then (if pm_kd h a0 = 16 then (fX16_takeResults h a0 ((pm_I h a0 30).toInt64)).bind fun v177 => pt_k v177 fun w179 => if pm_kd w179 a0 = 16 then (fX16_dies w179 a0).bind fun v182 => some (.inr (v182)) else none else none) else (if p1 = 16 then (if pm_kd h a0 = 16 then (pm_R h a0 10).bind fun v186 => (fX16_word h a0).bind fun v188 => if pm_kd v188.2 v186 = 14 then (fX14_typeOfFunction v188.2 v186 v188.1.toInt32).bind fun v191 => if pm_kd v188.2 a0 = 16 then (fX16_takeParameters v188.2 a0 v191.toInt64).bind fun v194 => pt_k v194 fun w196 => if pm_kd w196 a0 = 16 then (fX16_putResults w196 a0 v191.toInt64).bind fun v199 => pt_k v199 fun w201 => some (.inr (w201)) else none else none else none else none) else (if p1 = 17 then (if pm_kd h a0 = 16 then (fX16_word h a0).bind fun v205 => if pm_kd v205.2 a0 = 16 then (fX16_takes v205.2 a0 127 1).bind fun v208 => pt_k v208 fun w210 => if pm_kd w210 a0 = 16 then (fX16_takeParameters w210 a0 v205.1).bind fun v213 => pt_k v213 fun w215 => if pm_kd w215 a0 = 16 then (fX16_putResults w215 a0 v205.1).bind fun v218 => pt_k v218 fun w220 => some (.inr (w220)) else none else none else none else none) else (if p1 = 18 then (some (.inr (h))) else (if p1 = 19 then (some (.inr (h))) else (if p1 = 20 then (some (.inr (h))) else (if p1 = 21 then (some (.inr (h))) else (if p1 = 22 then (some (.inr (h))) else (if p1 = 23 then (some (.inr (h))) else (if p1 = 24 then (some (.inr (h))) else (if p1 = 25 then (some (.inr (h))) else (if p1 = 26 then (if pm_kd h a0 = 16 then (fX16_take h a0 0).bind fun v232 => pt_k v232 fun w234 => some (.inr (w234.2)) else none) else (if p1 = 27 then (if pm_kd h a0 = 16 then (fX16_selects h a0).bind fun v238 => pt_k v238 fun w240 => some (.inr (w240)) else none) else (if p1 = 28 then (if pm_kd h a0 = 16 then (fX16_word h a0).bind fun v244 => if pm_kd v244.2 a0 = 16 then (pm_R v244.2 a0 10).bind fun v247 => if pm_kd v244.2 v247 = 14 then (fX14_at v244.2 v247 (pm_I v244.2 a0 19)).bind fun v250 => (fX16_takes v244.2 a0 127 1).bind fun v252 => pt_k v252 fun w254 => if pm_kd w254 a0 = 16 then (fX16_takes w254 a0 v250 2).bind fun v257 => pt_k v257 fun w259 => if pm_kd w259 a0 = 16 then (fX16_put w259 a0 v250).bind fun v262 => pt_k v262 fun w264 => some (.inr (w264)) else none else none else none else none else none) else (some (.inr (h)))))))))))))))))))))))))))))))
set_option maxHeartbeats 4000000 in
set_option maxRecDepth 100000 in
theorem lpX16_controls {g : pm_Gm} {l : Launch} {G : pm_Gl} {Qr : Option Value → pm_H → Prop} {Qt : Nat → pm_H → Prop} (C : pm_C g cX16_controls RX16) (X : pm_XT g l G mX16_controls 0 0 Qr Qt) {r : ((Nat × pm_H) ⊕ pm_H)} (q : pt_eV Qr Qt r) : ∀ n : Nat, (∀ (x0 : Nat) (x4 : Int32) (x5 : Int32) (h : pm_H), pm_iter sX16_controls n (x0, x4, x5, h) = some r → pm_G g 222 [(0, .ref x0), (4, .int x4), (5, .int x5)] [] h 0 0) := by
  intro n
  induction n with
  | zero => exact fun _ _ _ _ hf => (by cases hf)
  | succ n ih =>
    refine fun x0 x4 x5 h hf => ?_
    obtain ⟨y, hf, hi⟩ := pm_iter_s hf
    have hf : tX16_controls_222 x0 x4 x5 h = some y := hf
    unfold tX16_controls_222 at hf
    refine pm_iload C dX16_controls_222 rfl ?_
    refine pm_aload_n C dX16_controls_224 rfl rfl ?_
    refine pm_iload C dX16_controls_225 rfl ?_
    obtain ⟨k266, hf⟩ := pm_if hf
    obtain ⟨v267, e268, hf⟩ := pm_bd hf
    refine pt_callV (as := [.int x4]) (st := [.int x5]) C X dX16_controls_227 lnX16_704 myX16_wantedBy viX16_wantedBy ⟨by decide, by decide⟩ rfl rfl k266 (Nat.le_of_ble_eq_true rfl) (Nat.le_refl _) (Nat.le_refl _) (ctX16_wantedBy e268 ?_)
    show pm_G g 230 [(0, .ref x0), (4, .int x4), (5, .int x5)] [.int v267, .int x5] h 0 0
    refine pm_icmp_ge (tgt := 251) C dX16_controls_230 (by decide) (fun c269 => ?_) (fun c269 => ?_)
    · have hf := pm_it hf c269
      refine pm_goto (tgt := 395) C dX16_controls_251 (by decide) ?_
      cases hf
      cases hi
      exact pt_vret C X dX16_controls_395 rfl (Nat.le_refl _) (Nat.le_refl _) q
    · have hf := pm_ie hf c269
      refine pm_aload_n C dX16_controls_233 rfl rfl ?_
      refine pm_aload_n C dX16_controls_234 rfl rfl ?_
      refine pm_iload C dX16_controls_235 rfl ?_
      refine pm_iload C dX16_controls_237 rfl ?_
      obtain ⟨v270, e271, hf⟩ := pm_bd hf
      refine pt_callV (as := [.int x4, .int x5]) (st := [.ref x0]) C X dX16_controls_239 lnX16_707 myX16_wantedAt viX16_wantedAt ⟨by decide, by decide⟩ rfl rfl k266 (Nat.le_of_ble_eq_true rfl) (Nat.le_refl _) (Nat.le_refl _) (ctX16_wantedAt e271 ?_)
      show pm_G g 242 [(0, .ref x0), (4, .int x4), (5, .int x5)] [.int v270, .ref x0] h 0 0
      obtain ⟨v272, e273, hf⟩ := pm_bd hf
      refine pt_callVT (as := [.int v270]) (st := []) C X dX16_controls_242 ltX16_695 myX16_put viX16_put ⟨by decide, by decide⟩ rfl rfl k266 (Nat.le_of_ble_eq_true rfl) (Nat.le_refl _) (Nat.le_refl _) (ctX16_put e273 ?_)
      rcases v272 with z275 | w274
      · have hf := pt_sl hf
        cases hf
        cases hi
        exact q
      have hf := pt_sr hf
      show pm_G g 245 [(0, .ref x0), (4, .int x4), (5, .int x5)] [] w274 0 0
      obtain ⟨y276, e277, hf⟩ := pm_lt hf
      refine pm_iinc (v := y276) (lv' := [(5, .int y276), (0, .ref x0), (4, .int x4)]) C dX16_controls_245 rfl ((congrArg (x5 + ·) (by decide : Int32.ofInt 1 = 1)).trans e277) (pt_nl X (by decide)) rfl ?_
      refine pm_goto (tgt := 222) C dX16_controls_248 (by decide) ?_
      cases hf
      exact pm_sub [1, 2, 0] rfl (ih x0 x4 y276 w274 hi)
set_option maxHeartbeats 4000000 in
set_option maxRecDepth 100000 in
theorem ctX16_controls {l : Launch} {G : pm_Gl} {h : pm_H} {a0 : Nat} {p1 : Int32} {r : ((Nat × pm_H) ⊕ pm_H)} {Qr : Option Value → pm_H → Prop} {Qt : Nat → pm_H → Prop} (hf : fX16_controls h a0 p1 = some r) (q : pt_eV Qr Qt r) : pm_Ctt l G mX16_controls [.ref a0, .int p1] h 0 0 Qr Qt := by
  refine pm_bodyT pnX16 (Nat.le_of_ble_eq_true rfl) (fun g C X => ?_)
  have C : pm_C g cX16_controls RX16 := C
  show pm_G g 0 [(0, .ref a0), (1, .int p1)] [] h 0 0
  unfold fX16_controls at hf
  refine pm_iload_n C dX16_controls_0 rfl rfl ?_
  by_cases c1 : p1 = 0
  · have hf := pm_it hf c1
    refine pm_tableIn (tgt := 132) C dX16_controls_1 (by rw [c1]; decide) (by rw [c1]; decide) (by rw [c1]; rfl) (by decide) ?_
    refine pm_aload_n C dX16_controls_132 rfl rfl ?_
    obtain ⟨k2, hf⟩ := pm_if hf
    obtain ⟨v3, e4, hf⟩ := pm_bd hf
    refine pt_callV (as := []) (st := []) C X dX16_controls_133 lnX16_762 myX16_dies viX16_dies ⟨by decide, by decide⟩ rfl rfl k2 (Nat.le_of_ble_eq_true rfl) (Nat.le_refl _) (Nat.le_refl _) (ctX16_dies e4 ?_)
    show pm_G g 136 [(0, .ref a0), (1, .int p1)] [] v3 0 0
    refine pm_goto (tgt := 395) C dX16_controls_136 (by decide) ?_
    cases hf
    exact pt_vret C X dX16_controls_395 rfl (Nat.le_refl _) (Nat.le_refl _) q
  have hf := pm_ie hf c1
  by_cases c5 : p1 = 1
  · have hf := pm_it hf c5
    refine pm_tableIn (tgt := 395) C dX16_controls_1 (by rw [c5]; decide) (by rw [c5]; decide) (by rw [c5]; rfl) (by decide) ?_
    cases hf
    exact pt_vret C X dX16_controls_395 rfl (Nat.le_refl _) (Nat.le_refl _) q
  have hf := pm_ie hf c5
  by_cases c6 : p1 = 2
  · have hf := pm_it hf c6
    refine pm_tableIn (tgt := 139) C dX16_controls_1 (by rw [c6]; decide) (by rw [c6]; decide) (by rw [c6]; rfl) (by decide) ?_
    refine pm_aload_n C dX16_controls_139 rfl rfl ?_
    obtain ⟨k7, hf⟩ := pm_if hf
    obtain ⟨v8, e9, hf⟩ := pm_bd hf
    refine pt_callV (as := []) (st := []) C X dX16_controls_140 lnX16_600 myX16_blockWord viX16_blockWord ⟨by decide, by decide⟩ rfl rfl k7 (Nat.le_of_ble_eq_true rfl) (Nat.le_refl _) (Nat.le_refl _) (ctX16_blockWord e9 ?_)
    show pm_G g 143 [(0, .ref a0), (1, .int p1)] [.long v8.1] v8.2 0 0
    refine pm_lstore_n (lv' := [(2, .long v8.1), (0, .ref a0), (1, .int p1)]) C dX16_controls_143 rfl (pt_nl X (by decide)) rfl ?_
    refine pm_iload_n C dX16_controls_144 rfl rfl ?_
    refine pm_iconst (v := 4) C dX16_controls_145 (by decide) ?_
    refine pm_icmp_ne (tgt := 156) C dX16_controls_146 (by decide) (fun c10 => ?_) (fun c10 => ?_)
    · have hf := pm_ie hf c10
      refine pm_aload_n C dX16_controls_156 rfl rfl ?_
      refine pm_lload_n C dX16_controls_157 rfl rfl ?_
      obtain ⟨k11, hf⟩ := pm_if hf
      obtain ⟨v12, e13, hf⟩ := pm_bd hf
      refine pt_callVT (as := [.long v8.1]) (st := []) C X dX16_controls_158 ltX16_765 myX16_takeParameters viX16_takeParameters ⟨by decide, by decide⟩ rfl rfl k11 (Nat.le_of_ble_eq_true rfl) (Nat.le_refl _) (Nat.le_refl _) (ctX16_takeParameters e13 ?_)
      rcases v12 with z15 | w14
      · have hf := pt_kl hf
        cases hf
        exact q
      have hf := pt_kr hf
      show pm_G g 161 [(2, .long v8.1), (0, .ref a0), (1, .int p1)] [] w14 0 0
      refine pm_aload_n C dX16_controls_161 rfl rfl ?_
      refine pm_iload_n C dX16_controls_162 rfl rfl ?_
      refine pm_lload_n C dX16_controls_163 rfl rfl ?_
      obtain ⟨k16, hf⟩ := pm_if hf
      obtain ⟨v17, e18, hf⟩ := pm_bd hf
      refine pt_callVT (as := [.int p1, .long v8.1]) (st := []) C X dX16_controls_164 ltX16_716 myX16_begins viX16_begins ⟨by decide, by decide⟩ rfl rfl k16 (Nat.le_of_ble_eq_true rfl) (Nat.le_refl _) (Nat.le_refl _) (ctX16_begins e18 ?_)
      rcases v17 with z20 | w19
      · have hf := pt_kl hf
        cases hf
        exact q
      have hf := pt_kr hf
      show pm_G g 167 [(2, .long v8.1), (0, .ref a0), (1, .int p1)] [] w19 0 0
      refine pm_aload_n C dX16_controls_167 rfl rfl ?_
      refine pm_lload_n C dX16_controls_168 rfl rfl ?_
      obtain ⟨k21, hf⟩ := pm_if hf
      obtain ⟨v22, e23, hf⟩ := pm_bd hf
      refine pt_callVT (as := [.long v8.1]) (st := []) C X dX16_controls_169 ltX16_768 myX16_putParameters viX16_putParameters ⟨by decide, by decide⟩ rfl rfl k21 (Nat.le_of_ble_eq_true rfl) (Nat.le_refl _) (Nat.le_refl _) (ctX16_putParameters e23 ?_)
      rcases v22 with z25 | w24
      · have hf := pt_kl hf
        cases hf
        exact q
      have hf := pt_kr hf
      show pm_G g 172 [(2, .long v8.1), (0, .ref a0), (1, .int p1)] [] w24 0 0
      refine pm_goto (tgt := 395) C dX16_controls_172 (by decide) ?_
      cases hf
      exact pt_vret C X dX16_controls_395 rfl (Nat.le_refl _) (Nat.le_refl _) q
    · have hf := pm_it hf c10
      refine pm_aload_n C dX16_controls_149 rfl rfl ?_
      refine pm_bipush (v := 127) C dX16_controls_150 (by decide) ?_
      refine pm_iconst (v := 1) C dX16_controls_152 (by decide) ?_
      obtain ⟨k26, hf⟩ := pm_if hf
      obtain ⟨v27, e28, hf⟩ := pm_bd hf
      refine pt_callVT (as := [.int 127, .int 1]) (st := []) C X dX16_controls_153 ltX16_750 myX16_takes viX16_takes ⟨by decide, by decide⟩ rfl rfl k26 (Nat.le_of_ble_eq_true rfl) (Nat.le_refl _) (Nat.le_refl _) (ctX16_takes e28 ?_)
      rcases v27 with z30 | w29
      · have hf := pt_kl hf
        cases hf
        exact q
      have hf := pt_kr hf
      show pm_G g 156 [(2, .long v8.1), (0, .ref a0), (1, .int p1)] [] w29 0 0
      refine pm_aload_n C dX16_controls_156 rfl rfl ?_
      refine pm_lload_n C dX16_controls_157 rfl rfl ?_
      obtain ⟨k31, hf⟩ := pm_if hf
      obtain ⟨v32, e33, hf⟩ := pm_bd hf
      refine pt_callVT (as := [.long v8.1]) (st := []) C X dX16_controls_158 ltX16_765 myX16_takeParameters viX16_takeParameters ⟨by decide, by decide⟩ rfl rfl k31 (Nat.le_of_ble_eq_true rfl) (Nat.le_refl _) (Nat.le_refl _) (ctX16_takeParameters e33 ?_)
      rcases v32 with z35 | w34
      · have hf := pt_kl hf
        cases hf
        exact q
      have hf := pt_kr hf
      show pm_G g 161 [(2, .long v8.1), (0, .ref a0), (1, .int p1)] [] w34 0 0
      refine pm_aload_n C dX16_controls_161 rfl rfl ?_
      refine pm_iload_n C dX16_controls_162 rfl rfl ?_
      refine pm_lload_n C dX16_controls_163 rfl rfl ?_
      obtain ⟨k36, hf⟩ := pm_if hf
      obtain ⟨v37, e38, hf⟩ := pm_bd hf
      refine pt_callVT (as := [.int p1, .long v8.1]) (st := []) C X dX16_controls_164 ltX16_716 myX16_begins viX16_begins ⟨by decide, by decide⟩ rfl rfl k36 (Nat.le_of_ble_eq_true rfl) (Nat.le_refl _) (Nat.le_refl _) (ctX16_begins e38 ?_)
      rcases v37 with z40 | w39
      · have hf := pt_kl hf
        cases hf
        exact q
      have hf := pt_kr hf
      show pm_G g 167 [(2, .long v8.1), (0, .ref a0), (1, .int p1)] [] w39 0 0
      refine pm_aload_n C dX16_controls_167 rfl rfl ?_
      refine pm_lload_n C dX16_controls_168 rfl rfl ?_
      obtain ⟨k41, hf⟩ := pm_if hf
      obtain ⟨v42, e43, hf⟩ := pm_bd hf
      refine pt_callVT (as := [.long v8.1]) (st := []) C X dX16_controls_169 ltX16_768 myX16_putParameters viX16_putParameters ⟨by decide, by decide⟩ rfl rfl k41 (Nat.le_of_ble_eq_true rfl) (Nat.le_refl _) (Nat.le_refl _) (ctX16_putParameters e43 ?_)
      rcases v42 with z45 | w44
      · have hf := pt_kl hf
        cases hf
        exact q
      have hf := pt_kr hf
      show pm_G g 172 [(2, .long v8.1), (0, .ref a0), (1, .int p1)] [] w44 0 0
      refine pm_goto (tgt := 395) C dX16_controls_172 (by decide) ?_
      cases hf
      exact pt_vret C X dX16_controls_395 rfl (Nat.le_refl _) (Nat.le_refl _) q
  have hf := pm_ie hf c6
  by_cases c46 : p1 = 3
  · have hf := pm_it hf c46
    refine pm_tableIn (tgt := 139) C dX16_controls_1 (by rw [c46]; decide) (by rw [c46]; decide) (by rw [c46]; rfl) (by decide) ?_
    refine pm_aload_n C dX16_controls_139 rfl rfl ?_
    obtain ⟨k47, hf⟩ := pm_if hf
    obtain ⟨v48, e49, hf⟩ := pm_bd hf
    refine pt_callV (as := []) (st := []) C X dX16_controls_140 lnX16_600 myX16_blockWord viX16_blockWord ⟨by decide, by decide⟩ rfl rfl k47 (Nat.le_of_ble_eq_true rfl) (Nat.le_refl _) (Nat.le_refl _) (ctX16_blockWord e49 ?_)
    show pm_G g 143 [(0, .ref a0), (1, .int p1)] [.long v48.1] v48.2 0 0
    refine pm_lstore_n (lv' := [(2, .long v48.1), (0, .ref a0), (1, .int p1)]) C dX16_controls_143 rfl (pt_nl X (by decide)) rfl ?_
    refine pm_iload_n C dX16_controls_144 rfl rfl ?_
    refine pm_iconst (v := 4) C dX16_controls_145 (by decide) ?_
    refine pm_icmp_ne (tgt := 156) C dX16_controls_146 (by decide) (fun c50 => ?_) (fun c50 => ?_)
    · have hf := pm_ie hf c50
      refine pm_aload_n C dX16_controls_156 rfl rfl ?_
      refine pm_lload_n C dX16_controls_157 rfl rfl ?_
      obtain ⟨k51, hf⟩ := pm_if hf
      obtain ⟨v52, e53, hf⟩ := pm_bd hf
      refine pt_callVT (as := [.long v48.1]) (st := []) C X dX16_controls_158 ltX16_765 myX16_takeParameters viX16_takeParameters ⟨by decide, by decide⟩ rfl rfl k51 (Nat.le_of_ble_eq_true rfl) (Nat.le_refl _) (Nat.le_refl _) (ctX16_takeParameters e53 ?_)
      rcases v52 with z55 | w54
      · have hf := pt_kl hf
        cases hf
        exact q
      have hf := pt_kr hf
      show pm_G g 161 [(2, .long v48.1), (0, .ref a0), (1, .int p1)] [] w54 0 0
      refine pm_aload_n C dX16_controls_161 rfl rfl ?_
      refine pm_iload_n C dX16_controls_162 rfl rfl ?_
      refine pm_lload_n C dX16_controls_163 rfl rfl ?_
      obtain ⟨k56, hf⟩ := pm_if hf
      obtain ⟨v57, e58, hf⟩ := pm_bd hf
      refine pt_callVT (as := [.int p1, .long v48.1]) (st := []) C X dX16_controls_164 ltX16_716 myX16_begins viX16_begins ⟨by decide, by decide⟩ rfl rfl k56 (Nat.le_of_ble_eq_true rfl) (Nat.le_refl _) (Nat.le_refl _) (ctX16_begins e58 ?_)
      rcases v57 with z60 | w59
      · have hf := pt_kl hf
        cases hf
        exact q
      have hf := pt_kr hf
      show pm_G g 167 [(2, .long v48.1), (0, .ref a0), (1, .int p1)] [] w59 0 0
      refine pm_aload_n C dX16_controls_167 rfl rfl ?_
      refine pm_lload_n C dX16_controls_168 rfl rfl ?_
      obtain ⟨k61, hf⟩ := pm_if hf
      obtain ⟨v62, e63, hf⟩ := pm_bd hf
      refine pt_callVT (as := [.long v48.1]) (st := []) C X dX16_controls_169 ltX16_768 myX16_putParameters viX16_putParameters ⟨by decide, by decide⟩ rfl rfl k61 (Nat.le_of_ble_eq_true rfl) (Nat.le_refl _) (Nat.le_refl _) (ctX16_putParameters e63 ?_)
      rcases v62 with z65 | w64
      · have hf := pt_kl hf
        cases hf
        exact q
      have hf := pt_kr hf
      show pm_G g 172 [(2, .long v48.1), (0, .ref a0), (1, .int p1)] [] w64 0 0
      refine pm_goto (tgt := 395) C dX16_controls_172 (by decide) ?_
      cases hf
      exact pt_vret C X dX16_controls_395 rfl (Nat.le_refl _) (Nat.le_refl _) q
    · have hf := pm_it hf c50
      refine pm_aload_n C dX16_controls_149 rfl rfl ?_
      refine pm_bipush (v := 127) C dX16_controls_150 (by decide) ?_
      refine pm_iconst (v := 1) C dX16_controls_152 (by decide) ?_
      obtain ⟨k66, hf⟩ := pm_if hf
      obtain ⟨v67, e68, hf⟩ := pm_bd hf
      refine pt_callVT (as := [.int 127, .int 1]) (st := []) C X dX16_controls_153 ltX16_750 myX16_takes viX16_takes ⟨by decide, by decide⟩ rfl rfl k66 (Nat.le_of_ble_eq_true rfl) (Nat.le_refl _) (Nat.le_refl _) (ctX16_takes e68 ?_)
      rcases v67 with z70 | w69
      · have hf := pt_kl hf
        cases hf
        exact q
      have hf := pt_kr hf
      show pm_G g 156 [(2, .long v48.1), (0, .ref a0), (1, .int p1)] [] w69 0 0
      refine pm_aload_n C dX16_controls_156 rfl rfl ?_
      refine pm_lload_n C dX16_controls_157 rfl rfl ?_
      obtain ⟨k71, hf⟩ := pm_if hf
      obtain ⟨v72, e73, hf⟩ := pm_bd hf
      refine pt_callVT (as := [.long v48.1]) (st := []) C X dX16_controls_158 ltX16_765 myX16_takeParameters viX16_takeParameters ⟨by decide, by decide⟩ rfl rfl k71 (Nat.le_of_ble_eq_true rfl) (Nat.le_refl _) (Nat.le_refl _) (ctX16_takeParameters e73 ?_)
      rcases v72 with z75 | w74
      · have hf := pt_kl hf
        cases hf
        exact q
      have hf := pt_kr hf
      show pm_G g 161 [(2, .long v48.1), (0, .ref a0), (1, .int p1)] [] w74 0 0
      refine pm_aload_n C dX16_controls_161 rfl rfl ?_
      refine pm_iload_n C dX16_controls_162 rfl rfl ?_
      refine pm_lload_n C dX16_controls_163 rfl rfl ?_
      obtain ⟨k76, hf⟩ := pm_if hf
      obtain ⟨v77, e78, hf⟩ := pm_bd hf
      refine pt_callVT (as := [.int p1, .long v48.1]) (st := []) C X dX16_controls_164 ltX16_716 myX16_begins viX16_begins ⟨by decide, by decide⟩ rfl rfl k76 (Nat.le_of_ble_eq_true rfl) (Nat.le_refl _) (Nat.le_refl _) (ctX16_begins e78 ?_)
      rcases v77 with z80 | w79
      · have hf := pt_kl hf
        cases hf
        exact q
      have hf := pt_kr hf
      show pm_G g 167 [(2, .long v48.1), (0, .ref a0), (1, .int p1)] [] w79 0 0
      refine pm_aload_n C dX16_controls_167 rfl rfl ?_
      refine pm_lload_n C dX16_controls_168 rfl rfl ?_
      obtain ⟨k81, hf⟩ := pm_if hf
      obtain ⟨v82, e83, hf⟩ := pm_bd hf
      refine pt_callVT (as := [.long v48.1]) (st := []) C X dX16_controls_169 ltX16_768 myX16_putParameters viX16_putParameters ⟨by decide, by decide⟩ rfl rfl k81 (Nat.le_of_ble_eq_true rfl) (Nat.le_refl _) (Nat.le_refl _) (ctX16_putParameters e83 ?_)
      rcases v82 with z85 | w84
      · have hf := pt_kl hf
        cases hf
        exact q
      have hf := pt_kr hf
      show pm_G g 172 [(2, .long v48.1), (0, .ref a0), (1, .int p1)] [] w84 0 0
      refine pm_goto (tgt := 395) C dX16_controls_172 (by decide) ?_
      cases hf
      exact pt_vret C X dX16_controls_395 rfl (Nat.le_refl _) (Nat.le_refl _) q
  have hf := pm_ie hf c46
  by_cases c86 : p1 = 4
  · have hf := pm_it hf c86
    refine pm_tableIn (tgt := 139) C dX16_controls_1 (by rw [c86]; decide) (by rw [c86]; decide) (by rw [c86]; rfl) (by decide) ?_
    refine pm_aload_n C dX16_controls_139 rfl rfl ?_
    obtain ⟨k87, hf⟩ := pm_if hf
    obtain ⟨v88, e89, hf⟩ := pm_bd hf
    refine pt_callV (as := []) (st := []) C X dX16_controls_140 lnX16_600 myX16_blockWord viX16_blockWord ⟨by decide, by decide⟩ rfl rfl k87 (Nat.le_of_ble_eq_true rfl) (Nat.le_refl _) (Nat.le_refl _) (ctX16_blockWord e89 ?_)
    show pm_G g 143 [(0, .ref a0), (1, .int p1)] [.long v88.1] v88.2 0 0
    refine pm_lstore_n (lv' := [(2, .long v88.1), (0, .ref a0), (1, .int p1)]) C dX16_controls_143 rfl (pt_nl X (by decide)) rfl ?_
    refine pm_iload_n C dX16_controls_144 rfl rfl ?_
    refine pm_iconst (v := 4) C dX16_controls_145 (by decide) ?_
    refine pm_icmp_ne (tgt := 156) C dX16_controls_146 (by decide) (fun c90 => ?_) (fun c90 => ?_)
    · have hf := pm_ie hf c90
      refine pm_aload_n C dX16_controls_156 rfl rfl ?_
      refine pm_lload_n C dX16_controls_157 rfl rfl ?_
      obtain ⟨k91, hf⟩ := pm_if hf
      obtain ⟨v92, e93, hf⟩ := pm_bd hf
      refine pt_callVT (as := [.long v88.1]) (st := []) C X dX16_controls_158 ltX16_765 myX16_takeParameters viX16_takeParameters ⟨by decide, by decide⟩ rfl rfl k91 (Nat.le_of_ble_eq_true rfl) (Nat.le_refl _) (Nat.le_refl _) (ctX16_takeParameters e93 ?_)
      rcases v92 with z95 | w94
      · have hf := pt_kl hf
        cases hf
        exact q
      have hf := pt_kr hf
      show pm_G g 161 [(2, .long v88.1), (0, .ref a0), (1, .int p1)] [] w94 0 0
      refine pm_aload_n C dX16_controls_161 rfl rfl ?_
      refine pm_iload_n C dX16_controls_162 rfl rfl ?_
      refine pm_lload_n C dX16_controls_163 rfl rfl ?_
      obtain ⟨k96, hf⟩ := pm_if hf
      obtain ⟨v97, e98, hf⟩ := pm_bd hf
      refine pt_callVT (as := [.int p1, .long v88.1]) (st := []) C X dX16_controls_164 ltX16_716 myX16_begins viX16_begins ⟨by decide, by decide⟩ rfl rfl k96 (Nat.le_of_ble_eq_true rfl) (Nat.le_refl _) (Nat.le_refl _) (ctX16_begins e98 ?_)
      rcases v97 with z100 | w99
      · have hf := pt_kl hf
        cases hf
        exact q
      have hf := pt_kr hf
      show pm_G g 167 [(2, .long v88.1), (0, .ref a0), (1, .int p1)] [] w99 0 0
      refine pm_aload_n C dX16_controls_167 rfl rfl ?_
      refine pm_lload_n C dX16_controls_168 rfl rfl ?_
      obtain ⟨k101, hf⟩ := pm_if hf
      obtain ⟨v102, e103, hf⟩ := pm_bd hf
      refine pt_callVT (as := [.long v88.1]) (st := []) C X dX16_controls_169 ltX16_768 myX16_putParameters viX16_putParameters ⟨by decide, by decide⟩ rfl rfl k101 (Nat.le_of_ble_eq_true rfl) (Nat.le_refl _) (Nat.le_refl _) (ctX16_putParameters e103 ?_)
      rcases v102 with z105 | w104
      · have hf := pt_kl hf
        cases hf
        exact q
      have hf := pt_kr hf
      show pm_G g 172 [(2, .long v88.1), (0, .ref a0), (1, .int p1)] [] w104 0 0
      refine pm_goto (tgt := 395) C dX16_controls_172 (by decide) ?_
      cases hf
      exact pt_vret C X dX16_controls_395 rfl (Nat.le_refl _) (Nat.le_refl _) q
    · have hf := pm_it hf c90
      refine pm_aload_n C dX16_controls_149 rfl rfl ?_
      refine pm_bipush (v := 127) C dX16_controls_150 (by decide) ?_
      refine pm_iconst (v := 1) C dX16_controls_152 (by decide) ?_
      obtain ⟨k106, hf⟩ := pm_if hf
      obtain ⟨v107, e108, hf⟩ := pm_bd hf
      refine pt_callVT (as := [.int 127, .int 1]) (st := []) C X dX16_controls_153 ltX16_750 myX16_takes viX16_takes ⟨by decide, by decide⟩ rfl rfl k106 (Nat.le_of_ble_eq_true rfl) (Nat.le_refl _) (Nat.le_refl _) (ctX16_takes e108 ?_)
      rcases v107 with z110 | w109
      · have hf := pt_kl hf
        cases hf
        exact q
      have hf := pt_kr hf
      show pm_G g 156 [(2, .long v88.1), (0, .ref a0), (1, .int p1)] [] w109 0 0
      refine pm_aload_n C dX16_controls_156 rfl rfl ?_
      refine pm_lload_n C dX16_controls_157 rfl rfl ?_
      obtain ⟨k111, hf⟩ := pm_if hf
      obtain ⟨v112, e113, hf⟩ := pm_bd hf
      refine pt_callVT (as := [.long v88.1]) (st := []) C X dX16_controls_158 ltX16_765 myX16_takeParameters viX16_takeParameters ⟨by decide, by decide⟩ rfl rfl k111 (Nat.le_of_ble_eq_true rfl) (Nat.le_refl _) (Nat.le_refl _) (ctX16_takeParameters e113 ?_)
      rcases v112 with z115 | w114
      · have hf := pt_kl hf
        cases hf
        exact q
      have hf := pt_kr hf
      show pm_G g 161 [(2, .long v88.1), (0, .ref a0), (1, .int p1)] [] w114 0 0
      refine pm_aload_n C dX16_controls_161 rfl rfl ?_
      refine pm_iload_n C dX16_controls_162 rfl rfl ?_
      refine pm_lload_n C dX16_controls_163 rfl rfl ?_
      obtain ⟨k116, hf⟩ := pm_if hf
      obtain ⟨v117, e118, hf⟩ := pm_bd hf
      refine pt_callVT (as := [.int p1, .long v88.1]) (st := []) C X dX16_controls_164 ltX16_716 myX16_begins viX16_begins ⟨by decide, by decide⟩ rfl rfl k116 (Nat.le_of_ble_eq_true rfl) (Nat.le_refl _) (Nat.le_refl _) (ctX16_begins e118 ?_)
      rcases v117 with z120 | w119
      · have hf := pt_kl hf
        cases hf
        exact q
      have hf := pt_kr hf
      show pm_G g 167 [(2, .long v88.1), (0, .ref a0), (1, .int p1)] [] w119 0 0
      refine pm_aload_n C dX16_controls_167 rfl rfl ?_
      refine pm_lload_n C dX16_controls_168 rfl rfl ?_
      obtain ⟨k121, hf⟩ := pm_if hf
      obtain ⟨v122, e123, hf⟩ := pm_bd hf
      refine pt_callVT (as := [.long v88.1]) (st := []) C X dX16_controls_169 ltX16_768 myX16_putParameters viX16_putParameters ⟨by decide, by decide⟩ rfl rfl k121 (Nat.le_of_ble_eq_true rfl) (Nat.le_refl _) (Nat.le_refl _) (ctX16_putParameters e123 ?_)
      rcases v122 with z125 | w124
      · have hf := pt_kl hf
        cases hf
        exact q
      have hf := pt_kr hf
      show pm_G g 172 [(2, .long v88.1), (0, .ref a0), (1, .int p1)] [] w124 0 0
      refine pm_goto (tgt := 395) C dX16_controls_172 (by decide) ?_
      cases hf
      exact pt_vret C X dX16_controls_395 rfl (Nat.le_refl _) (Nat.le_refl _) q
  have hf := pm_ie hf c86
  by_cases c126 : p1 = 5
  · have hf := pm_it hf c126
    refine pm_tableIn (tgt := 175) C dX16_controls_1 (by rw [c126]; decide) (by rw [c126]; decide) (by rw [c126]; rfl) (by decide) ?_
    refine pm_aload_n C dX16_controls_175 rfl rfl ?_
    refine pm_iload_n C dX16_controls_176 rfl rfl ?_
    obtain ⟨k127, hf⟩ := pm_if hf
    obtain ⟨v128, e129, hf⟩ := pm_bd hf
    refine pt_callVT (as := [.int p1]) (st := []) C X dX16_controls_177 ltX16_771 myX16_ends viX16_ends ⟨by decide, by decide⟩ rfl rfl k127 (Nat.le_of_ble_eq_true rfl) (Nat.le_refl _) (Nat.le_refl _) (ctX16_ends e129 ?_)
    rcases v128 with z131 | w130
    · have hf := pt_kl hf
      cases hf
      exact q
    have hf := pt_kr hf
    show pm_G g 180 [(0, .ref a0), (1, .int p1)] [] w130 0 0
    refine pm_goto (tgt := 395) C dX16_controls_180 (by decide) ?_
    cases hf
    exact pt_vret C X dX16_controls_395 rfl (Nat.le_refl _) (Nat.le_refl _) q
  have hf := pm_ie hf c126
  by_cases c132 : p1 = 6
  · have hf := pm_it hf c132
    refine pm_tableIn (tgt := 395) C dX16_controls_1 (by rw [c132]; decide) (by rw [c132]; decide) (by rw [c132]; rfl) (by decide) ?_
    cases hf
    exact pt_vret C X dX16_controls_395 rfl (Nat.le_refl _) (Nat.le_refl _) q
  have hf := pm_ie hf c132
  by_cases c133 : p1 = 7
  · have hf := pm_it hf c133
    refine pm_tableIn (tgt := 395) C dX16_controls_1 (by rw [c133]; decide) (by rw [c133]; decide) (by rw [c133]; rfl) (by decide) ?_
    cases hf
    exact pt_vret C X dX16_controls_395 rfl (Nat.le_refl _) (Nat.le_refl _) q
  have hf := pm_ie hf c133
  by_cases c134 : p1 = 8
  · have hf := pm_it hf c134
    refine pm_tableIn (tgt := 395) C dX16_controls_1 (by rw [c134]; decide) (by rw [c134]; decide) (by rw [c134]; rfl) (by decide) ?_
    cases hf
    exact pt_vret C X dX16_controls_395 rfl (Nat.le_refl _) (Nat.le_refl _) q
  have hf := pm_ie hf c134
  by_cases c135 : p1 = 9
  · have hf := pm_it hf c135
    refine pm_tableIn (tgt := 395) C dX16_controls_1 (by rw [c135]; decide) (by rw [c135]; decide) (by rw [c135]; rfl) (by decide) ?_
    cases hf
    exact pt_vret C X dX16_controls_395 rfl (Nat.le_refl _) (Nat.le_refl _) q
  have hf := pm_ie hf c135
  by_cases c136 : p1 = 10
  · have hf := pm_it hf c136
    refine pm_tableIn (tgt := 395) C dX16_controls_1 (by rw [c136]; decide) (by rw [c136]; decide) (by rw [c136]; rfl) (by decide) ?_
    cases hf
    exact pt_vret C X dX16_controls_395 rfl (Nat.le_refl _) (Nat.le_refl _) q
  have hf := pm_ie hf c136
  by_cases c137 : p1 = 11
  · have hf := pm_it hf c137
    refine pm_tableIn (tgt := 175) C dX16_controls_1 (by rw [c137]; decide) (by rw [c137]; decide) (by rw [c137]; rfl) (by decide) ?_
    refine pm_aload_n C dX16_controls_175 rfl rfl ?_
    refine pm_iload_n C dX16_controls_176 rfl rfl ?_
    obtain ⟨k138, hf⟩ := pm_if hf
    obtain ⟨v139, e140, hf⟩ := pm_bd hf
    refine pt_callVT (as := [.int p1]) (st := []) C X dX16_controls_177 ltX16_771 myX16_ends viX16_ends ⟨by decide, by decide⟩ rfl rfl k138 (Nat.le_of_ble_eq_true rfl) (Nat.le_refl _) (Nat.le_refl _) (ctX16_ends e140 ?_)
    rcases v139 with z142 | w141
    · have hf := pt_kl hf
      cases hf
      exact q
    have hf := pt_kr hf
    show pm_G g 180 [(0, .ref a0), (1, .int p1)] [] w141 0 0
    refine pm_goto (tgt := 395) C dX16_controls_180 (by decide) ?_
    cases hf
    exact pt_vret C X dX16_controls_395 rfl (Nat.le_refl _) (Nat.le_refl _) q
  have hf := pm_ie hf c137
  by_cases c143 : p1 = 12
  · have hf := pm_it hf c143
    refine pm_tableIn (tgt := 183) C dX16_controls_1 (by rw [c143]; decide) (by rw [c143]; decide) (by rw [c143]; rfl) (by decide) ?_
    refine pm_aload_n C dX16_controls_183 rfl rfl ?_
    refine pm_aload_n C dX16_controls_184 rfl rfl ?_
    obtain ⟨k144, hf⟩ := pm_if hf
    obtain ⟨v145, e146, hf⟩ := pm_bd hf
    refine pt_callV (as := []) (st := [.ref a0]) C X dX16_controls_185 lnX16_603 myX16_word viX16_word ⟨by decide, by decide⟩ rfl rfl k144 (Nat.le_of_ble_eq_true rfl) (Nat.le_refl _) (Nat.le_refl _) (ctX16_word e146 ?_)
    show pm_G g 188 [(0, .ref a0), (1, .int p1)] [.long v145.1, .ref a0] v145.2 0 0
    refine pm_l2i C dX16_controls_188 ?_
    obtain ⟨k147, hf⟩ := pm_if hf
    obtain ⟨v148, e149, hf⟩ := pm_bd hf
    refine pt_callVT (as := [.int v145.1.toInt32]) (st := []) C X dX16_controls_189 ltX16_774 myX16_takeWanted viX16_takeWanted ⟨by decide, by decide⟩ rfl rfl k147 (Nat.le_of_ble_eq_true rfl) (Nat.le_refl _) (Nat.le_refl _) (ctX16_takeWanted e149 ?_)
    rcases v148 with z151 | w150
    · have hf := pt_kl hf
      cases hf
      exact q
    have hf := pt_kr hf
    show pm_G g 192 [(0, .ref a0), (1, .int p1)] [] w150 0 0
    refine pm_aload_n C dX16_controls_192 rfl rfl ?_
    obtain ⟨k152, hf⟩ := pm_if hf
    obtain ⟨v153, e154, hf⟩ := pm_bd hf
    refine pt_callV (as := []) (st := []) C X dX16_controls_193 lnX16_762 myX16_dies viX16_dies ⟨by decide, by decide⟩ rfl rfl k152 (Nat.le_of_ble_eq_true rfl) (Nat.le_refl _) (Nat.le_refl _) (ctX16_dies e154 ?_)
    show pm_G g 196 [(0, .ref a0), (1, .int p1)] [] v153 0 0
    refine pm_goto (tgt := 395) C dX16_controls_196 (by decide) ?_
    cases hf
    exact pt_vret C X dX16_controls_395 rfl (Nat.le_refl _) (Nat.le_refl _) q
  have hf := pm_ie hf c143
  by_cases c155 : p1 = 13
  · have hf := pm_it hf c155
    refine pm_tableIn (tgt := 199) C dX16_controls_1 (by rw [c155]; decide) (by rw [c155]; decide) (by rw [c155]; rfl) (by decide) ?_
    refine pm_aload_n C dX16_controls_199 rfl rfl ?_
    obtain ⟨k156, hf⟩ := pm_if hf
    obtain ⟨v157, e158, hf⟩ := pm_bd hf
    refine pt_callV (as := []) (st := []) C X dX16_controls_200 lnX16_603 myX16_word viX16_word ⟨by decide, by decide⟩ rfl rfl k156 (Nat.le_of_ble_eq_true rfl) (Nat.le_refl _) (Nat.le_refl _) (ctX16_word e158 ?_)
    show pm_G g 203 [(0, .ref a0), (1, .int p1)] [.long v157.1] v157.2 0 0
    refine pm_l2i C dX16_controls_203 ?_
    refine pm_istore (lv' := [(4, .int v157.1.toInt32), (0, .ref a0), (1, .int p1)]) C dX16_controls_204 (pt_nl X (by decide)) rfl ?_
    refine pm_aload_n C dX16_controls_206 rfl rfl ?_
    refine pm_bipush (v := 127) C dX16_controls_207 (by decide) ?_
    refine pm_iconst (v := 1) C dX16_controls_209 (by decide) ?_
    obtain ⟨k159, hf⟩ := pm_if hf
    obtain ⟨v160, e161, hf⟩ := pm_bd hf
    refine pt_callVT (as := [.int 127, .int 1]) (st := []) C X dX16_controls_210 ltX16_750 myX16_takes viX16_takes ⟨by decide, by decide⟩ rfl rfl k159 (Nat.le_of_ble_eq_true rfl) (Nat.le_refl _) (Nat.le_refl _) (ctX16_takes e161 ?_)
    rcases v160 with z163 | w162
    · have hf := pt_kl hf
      cases hf
      exact q
    have hf := pt_kr hf
    show pm_G g 213 [(4, .int v157.1.toInt32), (0, .ref a0), (1, .int p1)] [] w162 0 0
    refine pm_aload_n C dX16_controls_213 rfl rfl ?_
    refine pm_iload C dX16_controls_214 rfl ?_
    obtain ⟨k164, hf⟩ := pm_if hf
    obtain ⟨v165, e166, hf⟩ := pm_bd hf
    refine pt_callVT (as := [.int v157.1.toInt32]) (st := []) C X dX16_controls_216 ltX16_774 myX16_takeWanted viX16_takeWanted ⟨by decide, by decide⟩ rfl rfl k164 (Nat.le_of_ble_eq_true rfl) (Nat.le_refl _) (Nat.le_refl _) (ctX16_takeWanted e166 ?_)
    rcases v165 with z168 | w167
    · have hf := pt_kl hf
      cases hf
      exact q
    have hf := pt_kr hf
    show pm_G g 219 [(4, .int v157.1.toInt32), (0, .ref a0), (1, .int p1)] [] w167 0 0
    refine pm_iconst (v := 0) C dX16_controls_219 (by decide) ?_
    refine pm_istore (lv' := [(5, .int 0), (4, .int v157.1.toInt32), (0, .ref a0), (1, .int p1)]) C dX16_controls_220 (pt_nl X (by decide)) rfl ?_
    obtain ⟨n, hn⟩ := pm_lim_iter hf
    exact pm_sub [2, 1, 0] rfl ((lpX16_controls C X q n) a0 v157.1.toInt32 0 w167 hn)
  have hf := pm_ie hf c155
  by_cases c169 : p1 = 14
  · have hf := pm_it hf c169
    refine pm_tableIn (tgt := 254) C dX16_controls_1 (by rw [c169]; decide) (by rw [c169]; decide) (by rw [c169]; rfl) (by decide) ?_
    refine pm_aload_n C dX16_controls_254 rfl rfl ?_
    obtain ⟨k170, hf⟩ := pm_if hf
    obtain ⟨v171, e172, hf⟩ := pm_bd hf
    refine pt_callVT (as := []) (st := []) C X dX16_controls_255 ltX16_777 myX16_chooses viX16_chooses ⟨by decide, by decide⟩ rfl rfl k170 (Nat.le_of_ble_eq_true rfl) (Nat.le_refl _) (Nat.le_refl _) (ctX16_chooses e172 ?_)
    rcases v171 with z174 | w173
    · have hf := pt_kl hf
      cases hf
      exact q
    have hf := pt_kr hf
    show pm_G g 258 [(0, .ref a0), (1, .int p1)] [] w173 0 0
    refine pm_goto (tgt := 395) C dX16_controls_258 (by decide) ?_
    cases hf
    exact pt_vret C X dX16_controls_395 rfl (Nat.le_refl _) (Nat.le_refl _) q
  have hf := pm_ie hf c169
  by_cases c175 : p1 = 15
  · have hf := pm_it hf c175
    refine pm_tableIn (tgt := 261) C dX16_controls_1 (by rw [c175]; decide) (by rw [c175]; decide) (by rw [c175]; rfl) (by decide) ?_
    refine pm_aload_n C dX16_controls_261 rfl rfl ?_
    refine pm_aload_n C dX16_controls_262 rfl rfl ?_
    obtain ⟨k176, hf⟩ := pm_if hf
    refine pm_getI C dX16_controls_263 flX16_713 rfl k176 rfl ?_
    refine pm_i2l C dX16_controls_266 ?_
    obtain ⟨v177, e178, hf⟩ := pm_bd hf
    refine pt_callVT (as := [.long ((pm_I h a0 30).toInt64)]) (st := []) C X dX16_controls_267 ltX16_780 myX16_takeResults viX16_takeResults ⟨by decide, by decide⟩ rfl rfl k176 (Nat.le_of_ble_eq_true rfl) (Nat.le_refl _) (Nat.le_refl _) (ctX16_takeResults e178 ?_)
    rcases v177 with z180 | w179
    · have hf := pt_kl hf
      cases hf
      exact q
    have hf := pt_kr hf
    show pm_G g 270 [(0, .ref a0), (1, .int p1)] [] w179 0 0
    refine pm_aload_n C dX16_controls_270 rfl rfl ?_
    obtain ⟨k181, hf⟩ := pm_if hf
    obtain ⟨v182, e183, hf⟩ := pm_bd hf
    refine pt_callV (as := []) (st := []) C X dX16_controls_271 lnX16_762 myX16_dies viX16_dies ⟨by decide, by decide⟩ rfl rfl k181 (Nat.le_of_ble_eq_true rfl) (Nat.le_refl _) (Nat.le_refl _) (ctX16_dies e183 ?_)
    show pm_G g 274 [(0, .ref a0), (1, .int p1)] [] v182 0 0
    refine pm_goto (tgt := 395) C dX16_controls_274 (by decide) ?_
    cases hf
    exact pt_vret C X dX16_controls_395 rfl (Nat.le_refl _) (Nat.le_refl _) q
  have hf := pm_ie hf c175
  by_cases c184 : p1 = 16
  · have hf := pm_it hf c184
    refine pm_tableIn (tgt := 277) C dX16_controls_1 (by rw [c184]; decide) (by rw [c184]; decide) (by rw [c184]; rfl) (by decide) ?_
    refine pm_aload_n C dX16_controls_277 rfl rfl ?_
    obtain ⟨k185, hf⟩ := pm_if hf
    obtain ⟨v186, e187, hf⟩ := pm_bd hf
    refine pm_getR C dX16_controls_278 flX16_221 rfl k185 e187 ?_
    refine pm_aload_n C dX16_controls_281 rfl rfl ?_
    obtain ⟨v188, e189, hf⟩ := pm_bd hf
    refine pt_callV (as := []) (st := [.ref v186]) C X dX16_controls_282 lnX16_603 myX16_word viX16_word ⟨by decide, by decide⟩ rfl rfl k185 (Nat.le_of_ble_eq_true rfl) (Nat.le_refl _) (Nat.le_refl _) (ctX16_word e189 ?_)
    show pm_G g 285 [(0, .ref a0), (1, .int p1)] [.long v188.1, .ref v186] v188.2 0 0
    refine pm_l2i C dX16_controls_285 ?_
    obtain ⟨k190, hf⟩ := pm_if hf
    obtain ⟨v191, e192, hf⟩ := pm_bd hf
    refine pt_callV (as := [.int v188.1.toInt32]) (st := []) C X dX16_controls_286 lnX16_621 myX14_typeOfFunction viX14_typeOfFunction ⟨by decide, by decide⟩ rfl rfl k190 (Nat.le_of_ble_eq_true rfl) (Nat.le_refl _) (Nat.le_refl _) (ctX14_typeOfFunction e192 ?_)
    show pm_G g 289 [(0, .ref a0), (1, .int p1)] [.int v191] v188.2 0 0
    refine pm_istore (lv' := [(5, .int v191), (0, .ref a0), (1, .int p1)]) C dX16_controls_289 (pt_nl X (by decide)) rfl ?_
    refine pm_aload_n C dX16_controls_291 rfl rfl ?_
    refine pm_iload C dX16_controls_292 rfl ?_
    refine pm_i2l C dX16_controls_294 ?_
    obtain ⟨k193, hf⟩ := pm_if hf
    obtain ⟨v194, e195, hf⟩ := pm_bd hf
    refine pt_callVT (as := [.long v191.toInt64]) (st := []) C X dX16_controls_295 ltX16_765 myX16_takeParameters viX16_takeParameters ⟨by decide, by decide⟩ rfl rfl k193 (Nat.le_of_ble_eq_true rfl) (Nat.le_refl _) (Nat.le_refl _) (ctX16_takeParameters e195 ?_)
    rcases v194 with z197 | w196
    · have hf := pt_kl hf
      cases hf
      exact q
    have hf := pt_kr hf
    show pm_G g 298 [(5, .int v191), (0, .ref a0), (1, .int p1)] [] w196 0 0
    refine pm_aload_n C dX16_controls_298 rfl rfl ?_
    refine pm_iload C dX16_controls_299 rfl ?_
    refine pm_i2l C dX16_controls_301 ?_
    obtain ⟨k198, hf⟩ := pm_if hf
    obtain ⟨v199, e200, hf⟩ := pm_bd hf
    refine pt_callVT (as := [.long v191.toInt64]) (st := []) C X dX16_controls_302 ltX16_783 myX16_putResults viX16_putResults ⟨by decide, by decide⟩ rfl rfl k198 (Nat.le_of_ble_eq_true rfl) (Nat.le_refl _) (Nat.le_refl _) (ctX16_putResults e200 ?_)
    rcases v199 with z202 | w201
    · have hf := pt_kl hf
      cases hf
      exact q
    have hf := pt_kr hf
    show pm_G g 305 [(5, .int v191), (0, .ref a0), (1, .int p1)] [] w201 0 0
    refine pm_goto (tgt := 395) C dX16_controls_305 (by decide) ?_
    cases hf
    exact pt_vret C X dX16_controls_395 rfl (Nat.le_refl _) (Nat.le_refl _) q
  have hf := pm_ie hf c184
  by_cases c203 : p1 = 17
  · have hf := pm_it hf c203
    refine pm_tableIn (tgt := 308) C dX16_controls_1 (by rw [c203]; decide) (by rw [c203]; decide) (by rw [c203]; rfl) (by decide) ?_
    refine pm_aload_n C dX16_controls_308 rfl rfl ?_
    obtain ⟨k204, hf⟩ := pm_if hf
    obtain ⟨v205, e206, hf⟩ := pm_bd hf
    refine pt_callV (as := []) (st := []) C X dX16_controls_309 lnX16_603 myX16_word viX16_word ⟨by decide, by decide⟩ rfl rfl k204 (Nat.le_of_ble_eq_true rfl) (Nat.le_refl _) (Nat.le_refl _) (ctX16_word e206 ?_)
    show pm_G g 312 [(0, .ref a0), (1, .int p1)] [.long v205.1] v205.2 0 0
    refine pm_lstore (lv' := [(6, .long v205.1), (0, .ref a0), (1, .int p1)]) C dX16_controls_312 (pt_nl X (by decide)) rfl ?_
    refine pm_aload_n C dX16_controls_314 rfl rfl ?_
    refine pm_bipush (v := 127) C dX16_controls_315 (by decide) ?_
    refine pm_iconst (v := 1) C dX16_controls_317 (by decide) ?_
    obtain ⟨k207, hf⟩ := pm_if hf
    obtain ⟨v208, e209, hf⟩ := pm_bd hf
    refine pt_callVT (as := [.int 127, .int 1]) (st := []) C X dX16_controls_318 ltX16_750 myX16_takes viX16_takes ⟨by decide, by decide⟩ rfl rfl k207 (Nat.le_of_ble_eq_true rfl) (Nat.le_refl _) (Nat.le_refl _) (ctX16_takes e209 ?_)
    rcases v208 with z211 | w210
    · have hf := pt_kl hf
      cases hf
      exact q
    have hf := pt_kr hf
    show pm_G g 321 [(6, .long v205.1), (0, .ref a0), (1, .int p1)] [] w210 0 0
    refine pm_aload_n C dX16_controls_321 rfl rfl ?_
    refine pm_lload C dX16_controls_322 rfl ?_
    obtain ⟨k212, hf⟩ := pm_if hf
    obtain ⟨v213, e214, hf⟩ := pm_bd hf
    refine pt_callVT (as := [.long v205.1]) (st := []) C X dX16_controls_324 ltX16_765 myX16_takeParameters viX16_takeParameters ⟨by decide, by decide⟩ rfl rfl k212 (Nat.le_of_ble_eq_true rfl) (Nat.le_refl _) (Nat.le_refl _) (ctX16_takeParameters e214 ?_)
    rcases v213 with z216 | w215
    · have hf := pt_kl hf
      cases hf
      exact q
    have hf := pt_kr hf
    show pm_G g 327 [(6, .long v205.1), (0, .ref a0), (1, .int p1)] [] w215 0 0
    refine pm_aload_n C dX16_controls_327 rfl rfl ?_
    refine pm_lload C dX16_controls_328 rfl ?_
    obtain ⟨k217, hf⟩ := pm_if hf
    obtain ⟨v218, e219, hf⟩ := pm_bd hf
    refine pt_callVT (as := [.long v205.1]) (st := []) C X dX16_controls_330 ltX16_783 myX16_putResults viX16_putResults ⟨by decide, by decide⟩ rfl rfl k217 (Nat.le_of_ble_eq_true rfl) (Nat.le_refl _) (Nat.le_refl _) (ctX16_putResults e219 ?_)
    rcases v218 with z221 | w220
    · have hf := pt_kl hf
      cases hf
      exact q
    have hf := pt_kr hf
    show pm_G g 333 [(6, .long v205.1), (0, .ref a0), (1, .int p1)] [] w220 0 0
    refine pm_goto (tgt := 395) C dX16_controls_333 (by decide) ?_
    cases hf
    exact pt_vret C X dX16_controls_395 rfl (Nat.le_refl _) (Nat.le_refl _) q
  have hf := pm_ie hf c203
  by_cases c222 : p1 = 18
  · have hf := pm_it hf c222
    refine pm_tableIn (tgt := 395) C dX16_controls_1 (by rw [c222]; decide) (by rw [c222]; decide) (by rw [c222]; rfl) (by decide) ?_
    cases hf
    exact pt_vret C X dX16_controls_395 rfl (Nat.le_refl _) (Nat.le_refl _) q
  have hf := pm_ie hf c222
  by_cases c223 : p1 = 19
  · have hf := pm_it hf c223
    refine pm_tableIn (tgt := 395) C dX16_controls_1 (by rw [c223]; decide) (by rw [c223]; decide) (by rw [c223]; rfl) (by decide) ?_
    cases hf
    exact pt_vret C X dX16_controls_395 rfl (Nat.le_refl _) (Nat.le_refl _) q
  have hf := pm_ie hf c223
  by_cases c224 : p1 = 20
  · have hf := pm_it hf c224
    refine pm_tableIn (tgt := 395) C dX16_controls_1 (by rw [c224]; decide) (by rw [c224]; decide) (by rw [c224]; rfl) (by decide) ?_
    cases hf
    exact pt_vret C X dX16_controls_395 rfl (Nat.le_refl _) (Nat.le_refl _) q
  have hf := pm_ie hf c224
  by_cases c225 : p1 = 21
  · have hf := pm_it hf c225
    refine pm_tableIn (tgt := 395) C dX16_controls_1 (by rw [c225]; decide) (by rw [c225]; decide) (by rw [c225]; rfl) (by decide) ?_
    cases hf
    exact pt_vret C X dX16_controls_395 rfl (Nat.le_refl _) (Nat.le_refl _) q
  have hf := pm_ie hf c225
  by_cases c226 : p1 = 22
  · have hf := pm_it hf c226
    refine pm_tableIn (tgt := 395) C dX16_controls_1 (by rw [c226]; decide) (by rw [c226]; decide) (by rw [c226]; rfl) (by decide) ?_
    cases hf
    exact pt_vret C X dX16_controls_395 rfl (Nat.le_refl _) (Nat.le_refl _) q
  have hf := pm_ie hf c226
  by_cases c227 : p1 = 23
  · have hf := pm_it hf c227
    refine pm_tableIn (tgt := 395) C dX16_controls_1 (by rw [c227]; decide) (by rw [c227]; decide) (by rw [c227]; rfl) (by decide) ?_
    cases hf
    exact pt_vret C X dX16_controls_395 rfl (Nat.le_refl _) (Nat.le_refl _) q
  have hf := pm_ie hf c227
  by_cases c228 : p1 = 24
  · have hf := pm_it hf c228
    refine pm_tableIn (tgt := 395) C dX16_controls_1 (by rw [c228]; decide) (by rw [c228]; decide) (by rw [c228]; rfl) (by decide) ?_
    cases hf
    exact pt_vret C X dX16_controls_395 rfl (Nat.le_refl _) (Nat.le_refl _) q
  have hf := pm_ie hf c228
  by_cases c229 : p1 = 25
  · have hf := pm_it hf c229
    refine pm_tableIn (tgt := 395) C dX16_controls_1 (by rw [c229]; decide) (by rw [c229]; decide) (by rw [c229]; rfl) (by decide) ?_
    cases hf
    exact pt_vret C X dX16_controls_395 rfl (Nat.le_refl _) (Nat.le_refl _) q
  have hf := pm_ie hf c229
  by_cases c230 : p1 = 26
  · have hf := pm_it hf c230
    refine pm_tableIn (tgt := 336) C dX16_controls_1 (by rw [c230]; decide) (by rw [c230]; decide) (by rw [c230]; rfl) (by decide) ?_
    refine pm_aload_n C dX16_controls_336 rfl rfl ?_
    refine pm_iconst (v := 0) C dX16_controls_337 (by decide) ?_
    obtain ⟨k231, hf⟩ := pm_if hf
    obtain ⟨v232, e233, hf⟩ := pm_bd hf
    refine pt_callVT (as := [.int 0]) (st := []) C X dX16_controls_338 ltX16_692 myX16_take viX16_take ⟨by decide, by decide⟩ rfl rfl k231 (Nat.le_of_ble_eq_true rfl) (Nat.le_refl _) (Nat.le_refl _) (ctX16_take e233 ?_)
    rcases v232 with z235 | w234
    · have hf := pt_kl hf
      cases hf
      exact q
    have hf := pt_kr hf
    show pm_G g 341 [(0, .ref a0), (1, .int p1)] [.int w234.1] w234.2 0 0
    refine pm_istore (lv' := [(8, .int w234.1), (0, .ref a0), (1, .int p1)]) C dX16_controls_341 (pt_nl X (by decide)) rfl ?_
    refine pm_goto (tgt := 395) C dX16_controls_343 (by decide) ?_
    cases hf
    exact pt_vret C X dX16_controls_395 rfl (Nat.le_refl _) (Nat.le_refl _) q
  have hf := pm_ie hf c230
  by_cases c236 : p1 = 27
  · have hf := pm_it hf c236
    refine pm_tableIn (tgt := 346) C dX16_controls_1 (by rw [c236]; decide) (by rw [c236]; decide) (by rw [c236]; rfl) (by decide) ?_
    refine pm_aload_n C dX16_controls_346 rfl rfl ?_
    obtain ⟨k237, hf⟩ := pm_if hf
    obtain ⟨v238, e239, hf⟩ := pm_bd hf
    refine pt_callVT (as := []) (st := []) C X dX16_controls_347 ltX16_786 myX16_selects viX16_selects ⟨by decide, by decide⟩ rfl rfl k237 (Nat.le_of_ble_eq_true rfl) (Nat.le_refl _) (Nat.le_refl _) (ctX16_selects e239 ?_)
    rcases v238 with z241 | w240
    · have hf := pt_kl hf
      cases hf
      exact q
    have hf := pt_kr hf
    show pm_G g 350 [(0, .ref a0), (1, .int p1)] [] w240 0 0
    refine pm_goto (tgt := 395) C dX16_controls_350 (by decide) ?_
    cases hf
    exact pt_vret C X dX16_controls_395 rfl (Nat.le_refl _) (Nat.le_refl _) q
  have hf := pm_ie hf c236
  by_cases c242 : p1 = 28
  · have hf := pm_it hf c242
    refine pm_tableIn (tgt := 353) C dX16_controls_1 (by rw [c242]; decide) (by rw [c242]; decide) (by rw [c242]; rfl) (by decide) ?_
    refine pm_aload_n C dX16_controls_353 rfl rfl ?_
    obtain ⟨k243, hf⟩ := pm_if hf
    obtain ⟨v244, e245, hf⟩ := pm_bd hf
    refine pt_callV (as := []) (st := []) C X dX16_controls_354 lnX16_603 myX16_word viX16_word ⟨by decide, by decide⟩ rfl rfl k243 (Nat.le_of_ble_eq_true rfl) (Nat.le_refl _) (Nat.le_refl _) (ctX16_word e245 ?_)
    show pm_G g 357 [(0, .ref a0), (1, .int p1)] [.long v244.1] v244.2 0 0
    refine pm_lstore (lv' := [(9, .long v244.1), (0, .ref a0), (1, .int p1)]) C dX16_controls_357 (pt_nl X (by decide)) rfl ?_
    refine pm_aload_n C dX16_controls_359 rfl rfl ?_
    obtain ⟨k246, hf⟩ := pm_if hf
    obtain ⟨v247, e248, hf⟩ := pm_bd hf
    refine pm_getR C dX16_controls_360 flX16_221 rfl k246 e248 ?_
    refine pm_aload_n C dX16_controls_363 rfl rfl ?_
    refine pm_getI C dX16_controls_364 flX16_594 rfl k246 rfl ?_
    obtain ⟨k249, hf⟩ := pm_if hf
    obtain ⟨v250, e251, hf⟩ := pm_bd hf
    refine pt_callV (as := [.int (pm_I v244.2 a0 19)]) (st := []) C X dX16_controls_367 lnX16_261 myX14_at viX14_at ⟨by decide, by decide⟩ rfl rfl k249 (Nat.le_of_ble_eq_true rfl) (Nat.le_refl _) (Nat.le_refl _) (ctX14_at e251 ?_)
    show pm_G g 370 [(9, .long v244.1), (0, .ref a0), (1, .int p1)] [.int v250] v244.2 0 0
    refine pm_istore (lv' := [(11, .int v250), (9, .long v244.1), (0, .ref a0), (1, .int p1)]) C dX16_controls_370 (pt_nl X (by decide)) rfl ?_
    refine pm_aload_n C dX16_controls_372 rfl rfl ?_
    refine pm_bipush (v := 127) C dX16_controls_373 (by decide) ?_
    refine pm_iconst (v := 1) C dX16_controls_375 (by decide) ?_
    obtain ⟨v252, e253, hf⟩ := pm_bd hf
    refine pt_callVT (as := [.int 127, .int 1]) (st := []) C X dX16_controls_376 ltX16_750 myX16_takes viX16_takes ⟨by decide, by decide⟩ rfl rfl k246 (Nat.le_of_ble_eq_true rfl) (Nat.le_refl _) (Nat.le_refl _) (ctX16_takes e253 ?_)
    rcases v252 with z255 | w254
    · have hf := pt_kl hf
      cases hf
      exact q
    have hf := pt_kr hf
    show pm_G g 379 [(11, .int v250), (9, .long v244.1), (0, .ref a0), (1, .int p1)] [] w254 0 0
    refine pm_aload_n C dX16_controls_379 rfl rfl ?_
    refine pm_iload C dX16_controls_380 rfl ?_
    refine pm_iconst (v := 2) C dX16_controls_382 (by decide) ?_
    obtain ⟨k256, hf⟩ := pm_if hf
    obtain ⟨v257, e258, hf⟩ := pm_bd hf
    refine pt_callVT (as := [.int v250, .int 2]) (st := []) C X dX16_controls_383 ltX16_750 myX16_takes viX16_takes ⟨by decide, by decide⟩ rfl rfl k256 (Nat.le_of_ble_eq_true rfl) (Nat.le_refl _) (Nat.le_refl _) (ctX16_takes e258 ?_)
    rcases v257 with z260 | w259
    · have hf := pt_kl hf
      cases hf
      exact q
    have hf := pt_kr hf
    show pm_G g 386 [(11, .int v250), (9, .long v244.1), (0, .ref a0), (1, .int p1)] [] w259 0 0
    refine pm_aload_n C dX16_controls_386 rfl rfl ?_
    refine pm_iload C dX16_controls_387 rfl ?_
    obtain ⟨k261, hf⟩ := pm_if hf
    obtain ⟨v262, e263, hf⟩ := pm_bd hf
    refine pt_callVT (as := [.int v250]) (st := []) C X dX16_controls_389 ltX16_695 myX16_put viX16_put ⟨by decide, by decide⟩ rfl rfl k261 (Nat.le_of_ble_eq_true rfl) (Nat.le_refl _) (Nat.le_refl _) (ctX16_put e263 ?_)
    rcases v262 with z265 | w264
    · have hf := pt_kl hf
      cases hf
      exact q
    have hf := pt_kr hf
    show pm_G g 392 [(11, .int v250), (9, .long v244.1), (0, .ref a0), (1, .int p1)] [] w264 0 0
    refine pm_goto (tgt := 395) C dX16_controls_392 (by decide) ?_
    cases hf
    exact pt_vret C X dX16_controls_395 rfl (Nat.le_refl _) (Nat.le_refl _) q
  have hf := pm_ie hf c242
  have nc1 := lv_neT c1 (by decide : (0 : Int32).toInt = 0)
  have nc5 := lv_neT c5 (by decide : (1 : Int32).toInt = 1)
  have nc6 := lv_neT c6 (by decide : (2 : Int32).toInt = 2)
  have nc46 := lv_neT c46 (by decide : (3 : Int32).toInt = 3)
  have nc86 := lv_neT c86 (by decide : (4 : Int32).toInt = 4)
  have nc126 := lv_neT c126 (by decide : (5 : Int32).toInt = 5)
  have nc132 := lv_neT c132 (by decide : (6 : Int32).toInt = 6)
  have nc133 := lv_neT c133 (by decide : (7 : Int32).toInt = 7)
  have nc134 := lv_neT c134 (by decide : (8 : Int32).toInt = 8)
  have nc135 := lv_neT c135 (by decide : (9 : Int32).toInt = 9)
  have nc136 := lv_neT c136 (by decide : (10 : Int32).toInt = 10)
  have nc137 := lv_neT c137 (by decide : (11 : Int32).toInt = 11)
  have nc143 := lv_neT c143 (by decide : (12 : Int32).toInt = 12)
  have nc155 := lv_neT c155 (by decide : (13 : Int32).toInt = 13)
  have nc169 := lv_neT c169 (by decide : (14 : Int32).toInt = 14)
  have nc175 := lv_neT c175 (by decide : (15 : Int32).toInt = 15)
  have nc184 := lv_neT c184 (by decide : (16 : Int32).toInt = 16)
  have nc203 := lv_neT c203 (by decide : (17 : Int32).toInt = 17)
  have nc222 := lv_neT c222 (by decide : (18 : Int32).toInt = 18)
  have nc223 := lv_neT c223 (by decide : (19 : Int32).toInt = 19)
  have nc224 := lv_neT c224 (by decide : (20 : Int32).toInt = 20)
  have nc225 := lv_neT c225 (by decide : (21 : Int32).toInt = 21)
  have nc226 := lv_neT c226 (by decide : (22 : Int32).toInt = 22)
  have nc227 := lv_neT c227 (by decide : (23 : Int32).toInt = 23)
  have nc228 := lv_neT c228 (by decide : (24 : Int32).toInt = 24)
  have nc229 := lv_neT c229 (by decide : (25 : Int32).toInt = 25)
  have nc230 := lv_neT c230 (by decide : (26 : Int32).toInt = 26)
  have nc236 := lv_neT c236 (by decide : (27 : Int32).toInt = 27)
  have nc242 := lv_neT c242 (by decide : (28 : Int32).toInt = 28)
  refine pm_tableOut (tgt := 395) C dX16_controls_1 (by omega) (by decide) ?_
  cases hf
  exact pt_vret C X dX16_controls_395 rfl (Nat.le_refl _) (Nat.le_refl _) q
theorem dX16_expression_0 : decode cX16_expression 0 = .ok (.iconst 1, 1) := by decide +kernel
theorem dX16_expression_1 : decode cX16_expression 1 = .ok (.istore_n 2, 1) := by decide +kernel
theorem dX16_expression_2 : decode cX16_expression 2 = .ok (.aload_n 0, 1) := by decide +kernel
theorem dX16_expression_3 : decode cX16_expression 3 = .ok (.getfield 28, 3) := by decide +kernel
theorem dX16_expression_6 : decode cX16_expression 6 = .ok (.iconst 0, 1) := by decide +kernel
theorem dX16_expression_7 : decode cX16_expression 7 = .ok (.iconst 0, 1) := by decide +kernel
theorem dX16_expression_8 : decode cX16_expression 8 = .ok (.iastore, 1) := by decide +kernel
theorem dX16_expression_9 : decode cX16_expression 9 = .ok (.iload_n 2, 1) := by decide +kernel
theorem dX16_expression_10 : decode cX16_expression 10 = .ok (.ifCond .le 192, 3) := by decide +kernel
theorem dX16_expression_13 : decode cX16_expression 13 = .ok (.aload_n 0, 1) := by decide +kernel
theorem dX16_expression_14 : decode cX16_expression 14 = .ok (.getfield 251, 3) := by decide +kernel
theorem dX16_expression_17 : decode cX16_expression 17 = .ok (.istore_n 3, 1) := by decide +kernel
theorem dX16_expression_18 : decode cX16_expression 18 = .ok (.aload_n 0, 1) := by decide +kernel
theorem dX16_expression_19 : decode cX16_expression 19 = .ok (.invokevirtual 264, 3) := by decide +kernel
theorem dX16_expression_22 : decode cX16_expression 22 = .ok (.istore 4, 2) := by decide +kernel
theorem dX16_expression_24 : decode cX16_expression 24 = .ok (.iload 4, 2) := by decide +kernel
theorem dX16_expression_26 : decode cX16_expression 26 = .ok (.bipush 11, 2) := by decide +kernel
theorem dX16_expression_28 : decode cX16_expression 28 = .ok (.if_icmp .ne 72, 3) := by decide +kernel
theorem dX16_expression_31 : decode cX16_expression 31 = .ok (.iinc 2 (-1), 3) := by decide +kernel
theorem dX16_expression_34 : decode cX16_expression 34 = .ok (.iload_n 2, 1) := by decide +kernel
theorem dX16_expression_35 : decode cX16_expression 35 = .ok (.ifCond .le 18, 3) := by decide +kernel
theorem dX16_expression_38 : decode cX16_expression 38 = .ok (.aload_n 0, 1) := by decide +kernel
theorem dX16_expression_39 : decode cX16_expression 39 = .ok (.getfield 221, 3) := by decide +kernel
theorem dX16_expression_42 : decode cX16_expression 42 = .ok (.getfield 549, 3) := by decide +kernel
theorem dX16_expression_45 : decode cX16_expression 45 = .ok (.aload_n 0, 1) := by decide +kernel
theorem dX16_expression_46 : decode cX16_expression 46 = .ok (.getfield 32, 3) := by decide +kernel
theorem dX16_expression_49 : decode cX16_expression 49 = .ok (.iload_n 2, 1) := by decide +kernel
theorem dX16_expression_50 : decode cX16_expression 50 = .ok (.iaload, 1) := by decide +kernel
theorem dX16_expression_51 : decode cX16_expression 51 = .ok (.iload_n 3, 1) := by decide +kernel
theorem dX16_expression_52 : decode cX16_expression 52 = .ok (.iastore, 1) := by decide +kernel
theorem dX16_expression_53 : decode cX16_expression 53 = .ok (.iload_n 2, 1) := by decide +kernel
theorem dX16_expression_54 : decode cX16_expression 54 = .ok (.ifCond .le 145, 3) := by decide +kernel
theorem dX16_expression_57 : decode cX16_expression 57 = .ok (.aload_n 0, 1) := by decide +kernel
theorem dX16_expression_58 : decode cX16_expression 58 = .ok (.getfield 221, 3) := by decide +kernel
theorem dX16_expression_61 : decode cX16_expression 61 = .ok (.getfield 552, 3) := by decide +kernel
theorem dX16_expression_64 : decode cX16_expression 64 = .ok (.aload_n 0, 1) := by decide +kernel
theorem dX16_expression_65 : decode cX16_expression 65 = .ok (.getfield 32, 3) := by decide +kernel
theorem dX16_expression_68 : decode cX16_expression 68 = .ok (.iload_n 2, 1) := by decide +kernel
theorem dX16_expression_69 : decode cX16_expression 69 = .ok (.iaload, 1) := by decide +kernel
theorem dX16_expression_70 : decode cX16_expression 70 = .ok (.iaload, 1) := by decide +kernel
theorem dX16_expression_71 : decode cX16_expression 71 = .ok (.ifCond .le 128, 3) := by decide +kernel
theorem dX16_expression_74 : decode cX16_expression 74 = .ok (.aload_n 0, 1) := by decide +kernel
theorem dX16_expression_75 : decode cX16_expression 75 = .ok (.getfield 221, 3) := by decide +kernel
theorem dX16_expression_78 : decode cX16_expression 78 = .ok (.getfield 549, 3) := by decide +kernel
theorem dX16_expression_81 : decode cX16_expression 81 = .ok (.aload_n 0, 1) := by decide +kernel
theorem dX16_expression_82 : decode cX16_expression 82 = .ok (.getfield 221, 3) := by decide +kernel
theorem dX16_expression_85 : decode cX16_expression 85 = .ok (.getfield 552, 3) := by decide +kernel
theorem dX16_expression_88 : decode cX16_expression 88 = .ok (.aload_n 0, 1) := by decide +kernel
theorem dX16_expression_89 : decode cX16_expression 89 = .ok (.getfield 32, 3) := by decide +kernel
theorem dX16_expression_92 : decode cX16_expression 92 = .ok (.iload_n 2, 1) := by decide +kernel
theorem dX16_expression_93 : decode cX16_expression 93 = .ok (.iaload, 1) := by decide +kernel
theorem dX16_expression_94 : decode cX16_expression 94 = .ok (.iaload, 1) := by decide +kernel
theorem dX16_expression_95 : decode cX16_expression 95 = .ok (.iload_n 3, 1) := by decide +kernel
theorem dX16_expression_96 : decode cX16_expression 96 = .ok (.iastore, 1) := by decide +kernel
theorem dX16_expression_97 : decode cX16_expression 97 = .ok (.goto 102, 3) := by decide +kernel
theorem dX16_expression_100 : decode cX16_expression 100 = .ok (.iload 4, 2) := by decide +kernel
theorem dX16_expression_102 : decode cX16_expression 102 = .ok (.iconst 2, 1) := by decide +kernel
theorem dX16_expression_103 : decode cX16_expression 103 = .ok (.if_icmp .lt 34, 3) := by decide +kernel
theorem dX16_expression_106 : decode cX16_expression 106 = .ok (.iload 4, 2) := by decide +kernel
theorem dX16_expression_108 : decode cX16_expression 108 = .ok (.iconst 4, 1) := by decide +kernel
theorem dX16_expression_109 : decode cX16_expression 109 = .ok (.if_icmp .gt 28, 3) := by decide +kernel
theorem dX16_expression_112 : decode cX16_expression 112 = .ok (.aload_n 0, 1) := by decide +kernel
theorem dX16_expression_113 : decode cX16_expression 113 = .ok (.invokevirtual 555, 3) := by decide +kernel
theorem dX16_expression_116 : decode cX16_expression 116 = .ok (.aload_n 0, 1) := by decide +kernel
theorem dX16_expression_117 : decode cX16_expression 117 = .ok (.getfield 28, 3) := by decide +kernel
theorem dX16_expression_120 : decode cX16_expression 120 = .ok (.iload_n 2, 1) := by decide +kernel
theorem dX16_expression_121 : decode cX16_expression 121 = .ok (.iload 4, 2) := by decide +kernel
theorem dX16_expression_123 : decode cX16_expression 123 = .ok (.iastore, 1) := by decide +kernel
theorem dX16_expression_124 : decode cX16_expression 124 = .ok (.aload_n 0, 1) := by decide +kernel
theorem dX16_expression_125 : decode cX16_expression 125 = .ok (.getfield 32, 3) := by decide +kernel
theorem dX16_expression_128 : decode cX16_expression 128 = .ok (.iload_n 2, 1) := by decide +kernel
theorem dX16_expression_129 : decode cX16_expression 129 = .ok (.iload_n 3, 1) := by decide +kernel
theorem dX16_expression_130 : decode cX16_expression 130 = .ok (.iastore, 1) := by decide +kernel
theorem dX16_expression_131 : decode cX16_expression 131 = .ok (.iinc 2 1, 3) := by decide +kernel
theorem dX16_expression_134 : decode cX16_expression 134 = .ok (.goto 65, 3) := by decide +kernel
theorem dX16_expression_137 : decode cX16_expression 137 = .ok (.iload 4, 2) := by decide +kernel
theorem dX16_expression_139 : decode cX16_expression 139 = .ok (.iconst 5, 1) := by decide +kernel
theorem dX16_expression_140 : decode cX16_expression 140 = .ok (.if_icmp .ne 51, 3) := by decide +kernel
theorem dX16_expression_143 : decode cX16_expression 143 = .ok (.aload_n 0, 1) := by decide +kernel
theorem dX16_expression_144 : decode cX16_expression 144 = .ok (.getfield 28, 3) := by decide +kernel
theorem dX16_expression_147 : decode cX16_expression 147 = .ok (.iload_n 2, 1) := by decide +kernel
theorem dX16_expression_148 : decode cX16_expression 148 = .ok (.iconst 1, 1) := by decide +kernel
theorem dX16_expression_149 : decode cX16_expression 149 = .ok (.isub, 1) := by decide +kernel
theorem dX16_expression_150 : decode cX16_expression 150 = .ok (.iaload, 1) := by decide +kernel
theorem dX16_expression_151 : decode cX16_expression 151 = .ok (.iconst 4, 1) := by decide +kernel
theorem dX16_expression_152 : decode cX16_expression 152 = .ok (.if_icmp .eq 10, 3) := by decide +kernel
theorem dX16_expression_155 : decode cX16_expression 155 = .ok (.aload_n 0, 1) := by decide +kernel
theorem dX16_expression_156 : decode cX16_expression 156 = .ok (.bipush 10, 2) := by decide +kernel
theorem dX16_expression_158 : decode cX16_expression 158 = .ok (.iload_n 3, 1) := by decide +kernel
theorem dX16_expression_159 : decode cX16_expression 159 = .ok (.invokevirtual 257, 3) := by decide +kernel
theorem dX16_expression_162 : decode cX16_expression 162 = .ok (.aload_n 0, 1) := by decide +kernel
theorem dX16_expression_163 : decode cX16_expression 163 = .ok (.getfield 28, 3) := by decide +kernel
theorem dX16_expression_166 : decode cX16_expression 166 = .ok (.iload_n 2, 1) := by decide +kernel
theorem dX16_expression_167 : decode cX16_expression 167 = .ok (.iconst 1, 1) := by decide +kernel
theorem dX16_expression_168 : decode cX16_expression 168 = .ok (.isub, 1) := by decide +kernel
theorem dX16_expression_169 : decode cX16_expression 169 = .ok (.iconst 5, 1) := by decide +kernel
theorem dX16_expression_170 : decode cX16_expression 170 = .ok (.iastore, 1) := by decide +kernel
theorem dX16_expression_171 : decode cX16_expression 171 = .ok (.aload_n 0, 1) := by decide +kernel
theorem dX16_expression_172 : decode cX16_expression 172 = .ok (.getfield 221, 3) := by decide +kernel
theorem dX16_expression_175 : decode cX16_expression 175 = .ok (.getfield 552, 3) := by decide +kernel
theorem dX16_expression_178 : decode cX16_expression 178 = .ok (.aload_n 0, 1) := by decide +kernel
theorem dX16_expression_179 : decode cX16_expression 179 = .ok (.getfield 32, 3) := by decide +kernel
theorem dX16_expression_182 : decode cX16_expression 182 = .ok (.iload_n 2, 1) := by decide +kernel
theorem dX16_expression_183 : decode cX16_expression 183 = .ok (.iconst 1, 1) := by decide +kernel
theorem dX16_expression_184 : decode cX16_expression 184 = .ok (.isub, 1) := by decide +kernel
theorem dX16_expression_185 : decode cX16_expression 185 = .ok (.iaload, 1) := by decide +kernel
theorem dX16_expression_186 : decode cX16_expression 186 = .ok (.iload_n 3, 1) := by decide +kernel
theorem dX16_expression_187 : decode cX16_expression 187 = .ok (.iastore, 1) := by decide +kernel
theorem dX16_expression_188 : decode cX16_expression 188 = .ok (.goto 11, 3) := by decide +kernel
theorem dX16_expression_191 : decode cX16_expression 191 = .ok (.aload_n 0, 1) := by decide +kernel
theorem dX16_expression_192 : decode cX16_expression 192 = .ok (.iload 4, 2) := by decide +kernel
theorem dX16_expression_194 : decode cX16_expression 194 = .ok (.iload_n 3, 1) := by decide +kernel
theorem dX16_expression_195 : decode cX16_expression 195 = .ok (.iload_n 1, 1) := by decide +kernel
theorem dX16_expression_196 : decode cX16_expression 196 = .ok (.invokevirtual 558, 3) := by decide +kernel
theorem dX16_expression_199 : decode cX16_expression 199 = .ok (.goto (-190), 3) := by decide +kernel
theorem dX16_expression_202 : decode cX16_expression 202 = .ok (.return_, 1) := by decide +kernel
noncomputable def tX16_expression_9 (x0 : Nat) (x1 : Int32) (x2 : Int32) (h : pm_H) : Option (((Nat × Int32 × Int32 × pm_H) ⊕ (Nat × Int32 × Int32 × Int32 × Int32 × pm_H)) ⊕ ((Nat × pm_H) ⊕ pm_H)) := if x2 ≤ 0 then (some (.inr (.inr (h)))) else (if pm_kd h x0 = 16 then pm_let (pm_I h x0 11) fun y8 => (fX16_next h x0).bind fun v10 => pt_s v10 fun w12 => if w12.1 = 11 then (pm_let (x2 + (-1)) fun y33 => if y33 ≤ 0 then (if y33 ≤ 0 then (some (.inl (.inl ((x0, x1, y33, w12.2))))) else (if pm_kd w12.2 x0 = 16 then (pm_R w12.2 x0 10).bind fun v38 => if pm_kd w12.2 v38 = 14 then (pm_R w12.2 v38 57).bind fun v41 => (pm_R w12.2 x0 15).bind fun v43 => if pm_kd w12.2 v43 = 34 then if pm_in y33 (pm_ln w12.2 v43) then pm_let (pm_I w12.2 v43 y33.toNatClampNeg) fun y47 => if pm_kd w12.2 v41 = 34 then if pm_in y47 (pm_ln w12.2 v41) then if (pm_I w12.2 v41 y47.toNatClampNeg) ≤ 0 then (some (.inl (.inl ((x0, x1, y33, w12.2))))) else ((pm_R w12.2 v38 56).bind fun v52 => if pm_in y33 (pm_ln w12.2 v43) then pm_let (pm_I w12.2 v43 y33.toNatClampNeg) fun y55 => if pm_in y55 (pm_ln w12.2 v41) then if pm_kd w12.2 v52 = 34 then if pm_in (pm_I w12.2 v41 y55.toNatClampNeg) (pm_ln w12.2 v52) then some (.inl (.inl ((x0, x1, y33, pm_setI w12.2 v52 ((pm_I w12.2 v41 y55.toNatClampNeg).toNatClampNeg) y8)))) else none else none else none else none) else none else none else none else none else none else none)) else (if pm_kd w12.2 x0 = 16 then (pm_R w12.2 x0 10).bind fun v61 => if pm_kd w12.2 v61 = 14 then (pm_R w12.2 v61 56).bind fun v64 => (pm_R w12.2 x0 15).bind fun v66 => if pm_kd w12.2 v66 = 34 then if pm_in y33 (pm_ln w12.2 v66) then if pm_kd w12.2 v64 = 34 then if pm_in (pm_I w12.2 v66 y33.toNatClampNeg) (pm_ln w12.2 v64) then if y33 ≤ 0 then (some (.inl (.inl ((x0, x1, y33, pm_setI w12.2 v64 ((pm_I w12.2 v66 y33.toNatClampNeg).toNatClampNeg) y8))))) else ((pm_R (pm_setI w12.2 v64 ((pm_I w12.2 v66 y33.toNatClampNeg).toNatClampNeg) y8) v61 57).bind fun v73 => if pm_in y33 (pm_ln (pm_setI w12.2 v64 ((pm_I w12.2 v66 y33.toNatClampNeg).toNatClampNeg) y8) v66) then pm_let (pm_I (pm_setI w12.2 v64 ((pm_I w12.2 v66 y33.toNatClampNeg).toNatClampNeg) y8) v66 y33.toNatClampNeg) fun y76 => if pm_kd (pm_setI w12.2 v64 ((pm_I w12.2 v66 y33.toNatClampNeg).toNatClampNeg) y8) v73 = 34 then if pm_in y76 (pm_ln (pm_setI w12.2 v64 ((pm_I w12.2 v66 y33.toNatClampNeg).toNatClampNeg) y8) v73) then if (pm_I (pm_setI w12.2 v64 ((pm_I w12.2 v66 y33.toNatClampNeg).toNatClampNeg) y8) v73 y76.toNatClampNeg) ≤ 0 then (some (.inl (.inl ((x0, x1, y33, pm_setI w12.2 v64 ((pm_I w12.2 v66 y33.toNatClampNeg).toNatClampNeg) y8))))) else (if pm_in y33 (pm_ln (pm_setI w12.2 v64 ((pm_I w12.2 v66 y33.toNatClampNeg).toNatClampNeg) y8) v66) then pm_let (pm_I (pm_setI w12.2 v64 ((pm_I w12.2 v66 y33.toNatClampNeg).toNatClampNeg) y8) v66 y33.toNatClampNeg) fun y82 => if pm_in y82 (pm_ln (pm_setI w12.2 v64 ((pm_I w12.2 v66 y33.toNatClampNeg).toNatClampNeg) y8) v73) then if pm_in (pm_I (pm_setI w12.2 v64 ((pm_I w12.2 v66 y33.toNatClampNeg).toNatClampNeg) y8) v73 y82.toNatClampNeg) (pm_ln (pm_setI w12.2 v64 ((pm_I w12.2 v66 y33.toNatClampNeg).toNatClampNeg) y8) v64) then some (.inl (.inl ((x0, x1, y33, pm_setI (pm_setI w12.2 v64 ((pm_I w12.2 v66 y33.toNatClampNeg).toNatClampNeg) y8) v64 ((pm_I (pm_setI w12.2 v64 ((pm_I w12.2 v66 y33.toNatClampNeg).toNatClampNeg) y8) v73 y82.toNatClampNeg).toNatClampNeg) y8)))) else none else none else none) else none else none else none) else none else none else none else none else none else none)) else (if w12.1 < 2 then (some (.inl (.inr ((x0, x1, x2, y8, w12.1, w12.2))))) else (if 4 < w12.1 then (some (.inl (.inr ((x0, x1, x2, y8, w12.1, w12.2))))) else (if pm_kd w12.2 x0 = 16 then (fX16_blockType w12.2 x0).bind fun v18 => pt_s v18 fun w20 => if pm_kd w20 x0 = 16 then (pm_R w20 x0 14).bind fun v23 => if pm_kd w20 v23 = 34 then if pm_in x2 (pm_ln w20 v23) then (pm_R (pm_setI w20 v23 x2.toNatClampNeg w12.1) x0 15).bind fun v27 => if pm_kd (pm_setI w20 v23 x2.toNatClampNeg w12.1) v27 = 34 then if pm_in x2 (pm_ln (pm_setI w20 v23 x2.toNatClampNeg w12.1) v27) then pm_let (x2 + 1) fun y31 => some (.inl (.inl ((x0, x1, y31, pm_setI (pm_setI w20 v23 x2.toNatClampNeg w12.1) v27 x2.toNatClampNeg y8)))) else none else none else none else none else none else none))) else none)
noncomputable def tX16_expression_137 (x0 : Nat) (x1 : Int32) (x2 : Int32) (x3 : Int32) (x4 : Int32) (h : pm_H) : Option (((Nat × Int32 × Int32 × pm_H) ⊕ (Nat × Int32 × Int32 × Int32 × Int32 × pm_H)) ⊕ ((Nat × pm_H) ⊕ pm_H)) := if x4 = 5 then (if pm_kd h x0 = 16 then (pm_R h x0 14).bind fun v93 => pm_let (x2 - 1) fun y95 => if pm_kd h v93 = 34 then if pm_in y95 (pm_ln h v93) then if (pm_I h v93 y95.toNatClampNeg) = 4 then (if pm_in (x2 - 1) (pm_ln h v93) then (pm_R (pm_setI h v93 ((x2 - 1).toNatClampNeg) 5) x0 10).bind fun v101 => if pm_kd (pm_setI h v93 ((x2 - 1).toNatClampNeg) 5) v101 = 14 then (pm_R (pm_setI h v93 ((x2 - 1).toNatClampNeg) 5) v101 57).bind fun v104 => (pm_R (pm_setI h v93 ((x2 - 1).toNatClampNeg) 5) x0 15).bind fun v106 => pm_let (x2 - 1) fun y108 => if pm_kd (pm_setI h v93 ((x2 - 1).toNatClampNeg) 5) v106 = 34 then if pm_in y108 (pm_ln (pm_setI h v93 ((x2 - 1).toNatClampNeg) 5) v106) then if pm_kd (pm_setI h v93 ((x2 - 1).toNatClampNeg) 5) v104 = 34 then if pm_in (pm_I (pm_setI h v93 ((x2 - 1).toNatClampNeg) 5) v106 y108.toNatClampNeg) (pm_ln (pm_setI h v93 ((x2 - 1).toNatClampNeg) 5) v104) then some (.inl (.inl ((x0, x1, x2, pm_setI (pm_setI h v93 ((x2 - 1).toNatClampNeg) 5) v104 ((pm_I (pm_setI h v93 ((x2 - 1).toNatClampNeg) 5) v106 y108.toNatClampNeg).toNatClampNeg) x3)))) else none else none else none else none else none else none) else ((fX16_stops h x0 10 x3).bind fun v114 => pt_s v114 fun w116 => if pm_kd w116 x0 = 16 then (pm_R w116 x0 14).bind fun v119 => if pm_kd w116 v119 = 34 then if pm_in (x2 - 1) (pm_ln w116 v119) then (pm_R (pm_setI w116 v119 ((x2 - 1).toNatClampNeg) 5) x0 10).bind fun v123 => if pm_kd (pm_setI w116 v119 ((x2 - 1).toNatClampNeg) 5) v123 = 14 then (pm_R (pm_setI w116 v119 ((x2 - 1).toNatClampNeg) 5) v123 57).bind fun v126 => (pm_R (pm_setI w116 v119 ((x2 - 1).toNatClampNeg) 5) x0 15).bind fun v128 => pm_let (x2 - 1) fun y130 => if pm_kd (pm_setI w116 v119 ((x2 - 1).toNatClampNeg) 5) v128 = 34 then if pm_in y130 (pm_ln (pm_setI w116 v119 ((x2 - 1).toNatClampNeg) 5) v128) then if pm_kd (pm_setI w116 v119 ((x2 - 1).toNatClampNeg) 5) v126 = 34 then if pm_in (pm_I (pm_setI w116 v119 ((x2 - 1).toNatClampNeg) 5) v128 y130.toNatClampNeg) (pm_ln (pm_setI w116 v119 ((x2 - 1).toNatClampNeg) 5) v126) then some (.inl (.inl ((x0, x1, x2, pm_setI (pm_setI w116 v119 ((x2 - 1).toNatClampNeg) 5) v126 ((pm_I (pm_setI w116 v119 ((x2 - 1).toNatClampNeg) 5) v128 y130.toNatClampNeg).toNatClampNeg) x3)))) else none else none else none else none else none else none else none else none) else none else none else none) else (if pm_kd h x0 = 16 then (fX16_operands h x0 x4 x3 x1).bind fun v88 => pt_s v88 fun w90 => some (.inl (.inl ((x0, x1, x2, w90)))) else none)
noncomputable def sX16_expression : ((Nat × Int32 × Int32 × pm_H) ⊕ (Nat × Int32 × Int32 × Int32 × Int32 × pm_H)) → Option (((Nat × Int32 × Int32 × pm_H) ⊕ (Nat × Int32 × Int32 × Int32 × Int32 × pm_H)) ⊕ ((Nat × pm_H) ⊕ pm_H)) := fun z => match z with
  | .inl (x0, x1, x2, h) => tX16_expression_9 x0 x1 x2 h
  | .inr (x0, x1, x2, x3, x4, h) => tX16_expression_137 x0 x1 x2 x3 x4 h
noncomputable def fX16_expression (h : pm_H) (a0 : Nat) (p1 : Int32) : Option ((Nat × pm_H) ⊕ pm_H) := if pm_kd h a0 = 16 then (pm_R h a0 14).bind fun v2 => if pm_kd h v2 = 34 then if pm_in 0 (pm_ln h v2) then pm_lim sX16_expression (.inl ((a0, p1, 1, pm_setI h v2 ((0 : Int32).toNatClampNeg) 0))) else none else none else none
set_option maxHeartbeats 4000000 in
set_option maxRecDepth 100000 in
theorem lpX16_expression {g : pm_Gm} {l : Launch} {G : pm_Gl} {Qr : Option Value → pm_H → Prop} {Qt : Nat → pm_H → Prop} (C : pm_C g cX16_expression RX16) (X : pm_XT g l G mX16_expression 0 0 Qr Qt) {r : ((Nat × pm_H) ⊕ pm_H)} (q : pt_eV Qr Qt r) : ∀ n : Nat, (∀ (x0 : Nat) (x1 : Int32) (x2 : Int32) (h : pm_H), pm_iter sX16_expression n (.inl (x0, x1, x2, h)) = some r → pm_G g 9 [(0, .ref x0), (1, .int x1), (2, .int x2)] [] h 0 0) ∧ (∀ (x0 : Nat) (x1 : Int32) (x2 : Int32) (x3 : Int32) (x4 : Int32) (h : pm_H), pm_iter sX16_expression n (.inr (x0, x1, x2, x3, x4, h)) = some r → pm_G g 137 [(0, .ref x0), (1, .int x1), (2, .int x2), (3, .int x3), (4, .int x4)] [] h 0 0) := by
  intro n
  induction n with
  | zero => exact ⟨fun _ _ _ _ hf => (by cases hf), fun _ _ _ _ _ _ hf => (by cases hf)⟩
  | succ n ih =>
    refine ⟨fun x0 x1 x2 h hf => ?_, ?_⟩
    · obtain ⟨y, hf, hi⟩ := pm_iter_s hf
      have hf : tX16_expression_9 x0 x1 x2 h = some y := hf
      unfold tX16_expression_9 at hf
      refine pm_iload_n C dX16_expression_9 rfl rfl ?_
      refine pm_if_le (tgt := 202) C dX16_expression_10 (by decide) (fun c6 => ?_) (fun c6 => ?_)
      · have hf := pm_it hf c6
        cases hf
        cases hi
        exact pt_vret C X dX16_expression_202 rfl (Nat.le_refl _) (Nat.le_refl _) q
      · have hf := pm_ie hf c6
        refine pm_aload_n C dX16_expression_13 rfl rfl ?_
        obtain ⟨k7, hf⟩ := pm_if hf
        refine pm_getI C dX16_expression_14 flX16_251 rfl k7 rfl ?_
        obtain ⟨y8, e9, hf⟩ := pm_lt hf
        refine pm_topI e9 ?_
        refine pm_istore_n (lv' := [(3, .int y8), (0, .ref x0), (1, .int x1), (2, .int x2)]) C dX16_expression_17 rfl (pt_nl X (by decide)) rfl ?_
        refine pm_aload_n C dX16_expression_18 rfl rfl ?_
        obtain ⟨v10, e11, hf⟩ := pm_bd hf
        refine pt_callVT (as := []) (st := []) C X dX16_expression_19 ltX16_264 myX16_next viX16_next ⟨by decide, by decide⟩ rfl rfl k7 (Nat.le_of_ble_eq_true rfl) (Nat.le_refl _) (Nat.le_refl _) (ctX16_next e11 ?_)
        rcases v10 with z13 | w12
        · have hf := pt_sl hf
          cases hf
          cases hi
          exact q
        have hf := pt_sr hf
        show pm_G g 22 [(3, .int y8), (0, .ref x0), (1, .int x1), (2, .int x2)] [.int w12.1] w12.2 0 0
        refine pm_istore (lv' := [(4, .int w12.1), (3, .int y8), (0, .ref x0), (1, .int x1), (2, .int x2)]) C dX16_expression_22 (pt_nl X (by decide)) rfl ?_
        refine pm_iload C dX16_expression_24 rfl ?_
        refine pm_bipush (v := 11) C dX16_expression_26 (by decide) ?_
        refine pm_icmp_ne (tgt := 100) C dX16_expression_28 (by decide) (fun c14 => ?_) (fun c14 => ?_)
        · have hf := pm_ie hf c14
          refine pm_iload C dX16_expression_100 rfl ?_
          refine pm_iconst (v := 2) C dX16_expression_102 (by decide) ?_
          refine pm_icmp_lt (tgt := 137) C dX16_expression_103 (by decide) (fun c15 => ?_) (fun c15 => ?_)
          · have hf := pm_it hf c15
            cases hf
            exact pm_sub [2, 3, 4, 1, 0] rfl (ih.2 x0 x1 x2 y8 w12.1 w12.2 hi)
          · have hf := pm_ie hf c15
            refine pm_iload C dX16_expression_106 rfl ?_
            refine pm_iconst (v := 4) C dX16_expression_108 (by decide) ?_
            refine pm_icmp_gt (tgt := 137) C dX16_expression_109 (by decide) (fun c16 => ?_) (fun c16 => ?_)
            · have hf := pm_it hf c16
              cases hf
              exact pm_sub [2, 3, 4, 1, 0] rfl (ih.2 x0 x1 x2 y8 w12.1 w12.2 hi)
            · have hf := pm_ie hf c16
              refine pm_aload_n C dX16_expression_112 rfl rfl ?_
              obtain ⟨k17, hf⟩ := pm_if hf
              obtain ⟨v18, e19, hf⟩ := pm_bd hf
              refine pt_callVT (as := []) (st := []) C X dX16_expression_113 ltX16_555 myX16_blockType viX16_blockType ⟨by decide, by decide⟩ rfl rfl k17 (Nat.le_of_ble_eq_true rfl) (Nat.le_refl _) (Nat.le_refl _) (ctX16_blockType e19 ?_)
              rcases v18 with z21 | w20
              · have hf := pt_sl hf
                cases hf
                cases hi
                exact q
              have hf := pt_sr hf
              show pm_G g 116 [(4, .int w12.1), (3, .int y8), (0, .ref x0), (1, .int x1), (2, .int x2)] [] w20 0 0
              refine pm_aload_n C dX16_expression_116 rfl rfl ?_
              obtain ⟨k22, hf⟩ := pm_if hf
              obtain ⟨v23, e24, hf⟩ := pm_bd hf
              refine pm_getR C dX16_expression_117 flX16_28 rfl k22 e24 ?_
              refine pm_iload_n C dX16_expression_120 rfl rfl ?_
              refine pm_iload C dX16_expression_121 rfl ?_
              obtain ⟨k25, hf⟩ := pm_if hf
              obtain ⟨u26, hf⟩ := pm_if hf
              refine pm_iast C dX16_expression_123 k25 u26 ?_
              refine pm_aload_n C dX16_expression_124 rfl rfl ?_
              obtain ⟨v27, e28, hf⟩ := pm_bd hf
              refine pm_getR C dX16_expression_125 flX16_32 rfl k22 e28 ?_
              refine pm_iload_n C dX16_expression_128 rfl rfl ?_
              refine pm_iload_n C dX16_expression_129 rfl rfl ?_
              obtain ⟨k29, hf⟩ := pm_if hf
              obtain ⟨u30, hf⟩ := pm_if hf
              refine pm_iast C dX16_expression_130 k29 u30 ?_
              obtain ⟨y31, e32, hf⟩ := pm_lt hf
              refine pm_iinc (v := y31) (lv' := [(2, .int y31), (4, .int w12.1), (3, .int y8), (0, .ref x0), (1, .int x1)]) C dX16_expression_131 rfl ((congrArg (x2 + ·) (by decide : Int32.ofInt 1 = 1)).trans e32) (pt_nl X (by decide)) rfl ?_
              refine pm_goto (tgt := 199) C dX16_expression_134 (by decide) ?_
              refine pm_goto (tgt := 9) C dX16_expression_199 (by decide) ?_
              cases hf
              exact pm_sub [3, 4, 0] rfl (ih.1 x0 x1 y31 (pm_setI (pm_setI w20 v23 x2.toNatClampNeg w12.1) v27 x2.toNatClampNeg y8) hi)
        · have hf := pm_it hf c14
          obtain ⟨y33, e34, hf⟩ := pm_lt hf
          refine pm_iinc (v := y33) (lv' := [(2, .int y33), (4, .int w12.1), (3, .int y8), (0, .ref x0), (1, .int x1)]) C dX16_expression_31 rfl ((congrArg (x2 + ·) (by decide : Int32.ofInt (-1) = (-1))).trans e34) (pt_nl X (by decide)) rfl ?_
          refine pm_iload_n C dX16_expression_34 rfl rfl ?_
          refine pm_if_le (tgt := 53) C dX16_expression_35 (by decide) (fun c35 => ?_) (fun c35 => ?_)
          · have hf := pm_it hf c35
            refine pm_iload_n C dX16_expression_53 rfl rfl ?_
            refine pm_if_le (tgt := 199) C dX16_expression_54 (by decide) (fun c36 => ?_) (fun c36 => ?_)
            · have hf := pm_it hf c36
              refine pm_goto (tgt := 9) C dX16_expression_199 (by decide) ?_
              cases hf
              exact pm_sub [3, 4, 0] rfl (ih.1 x0 x1 y33 w12.2 hi)
            · have hf := pm_ie hf c36
              refine pm_aload_n C dX16_expression_57 rfl rfl ?_
              obtain ⟨k37, hf⟩ := pm_if hf
              obtain ⟨v38, e39, hf⟩ := pm_bd hf
              refine pm_getR C dX16_expression_58 flX16_221 rfl k37 e39 ?_
              obtain ⟨k40, hf⟩ := pm_if hf
              obtain ⟨v41, e42, hf⟩ := pm_bd hf
              refine pm_getR C dX16_expression_61 flX16_552 rfl k40 e42 ?_
              refine pm_aload_n C dX16_expression_64 rfl rfl ?_
              obtain ⟨v43, e44, hf⟩ := pm_bd hf
              refine pm_getR C dX16_expression_65 flX16_32 rfl k37 e44 ?_
              refine pm_iload_n C dX16_expression_68 rfl rfl ?_
              obtain ⟨k45, hf⟩ := pm_if hf
              obtain ⟨u46, hf⟩ := pm_if hf
              refine pm_iald C dX16_expression_69 k45 u46 rfl ?_
              obtain ⟨y47, e48, hf⟩ := pm_lt hf
              refine pm_topI e48 ?_
              obtain ⟨k49, hf⟩ := pm_if hf
              obtain ⟨u50, hf⟩ := pm_if hf
              refine pm_iald C dX16_expression_70 k49 u50 rfl ?_
              refine pm_if_le (tgt := 199) C dX16_expression_71 (by decide) (fun c51 => ?_) (fun c51 => ?_)
              · have hf := pm_it hf c51
                refine pm_goto (tgt := 9) C dX16_expression_199 (by decide) ?_
                cases hf
                exact pm_sub [3, 4, 0] rfl (ih.1 x0 x1 y33 w12.2 hi)
              · have hf := pm_ie hf c51
                refine pm_aload_n C dX16_expression_74 rfl rfl ?_
                refine pm_getR C dX16_expression_75 flX16_221 rfl k37 e39 ?_
                obtain ⟨v52, e53, hf⟩ := pm_bd hf
                refine pm_getR C dX16_expression_78 flX16_549 rfl k40 e53 ?_
                refine pm_aload_n C dX16_expression_81 rfl rfl ?_
                refine pm_getR C dX16_expression_82 flX16_221 rfl k37 e39 ?_
                refine pm_getR C dX16_expression_85 flX16_552 rfl k40 e42 ?_
                refine pm_aload_n C dX16_expression_88 rfl rfl ?_
                refine pm_getR C dX16_expression_89 flX16_32 rfl k37 e44 ?_
                refine pm_iload_n C dX16_expression_92 rfl rfl ?_
                obtain ⟨u54, hf⟩ := pm_if hf
                refine pm_iald C dX16_expression_93 k45 u54 rfl ?_
                obtain ⟨y55, e56, hf⟩ := pm_lt hf
                refine pm_topI e56 ?_
                obtain ⟨u57, hf⟩ := pm_if hf
                refine pm_iald C dX16_expression_94 k49 u57 rfl ?_
                refine pm_iload_n C dX16_expression_95 rfl rfl ?_
                obtain ⟨k58, hf⟩ := pm_if hf
                obtain ⟨u59, hf⟩ := pm_if hf
                refine pm_iast C dX16_expression_96 k58 u59 ?_
                refine pm_goto (tgt := 199) C dX16_expression_97 (by decide) ?_
                refine pm_goto (tgt := 9) C dX16_expression_199 (by decide) ?_
                cases hf
                exact pm_sub [3, 4, 0] rfl (ih.1 x0 x1 y33 (pm_setI w12.2 v52 ((pm_I w12.2 v41 y55.toNatClampNeg).toNatClampNeg) y8) hi)
          · have hf := pm_ie hf c35
            refine pm_aload_n C dX16_expression_38 rfl rfl ?_
            obtain ⟨k60, hf⟩ := pm_if hf
            obtain ⟨v61, e62, hf⟩ := pm_bd hf
            refine pm_getR C dX16_expression_39 flX16_221 rfl k60 e62 ?_
            obtain ⟨k63, hf⟩ := pm_if hf
            obtain ⟨v64, e65, hf⟩ := pm_bd hf
            refine pm_getR C dX16_expression_42 flX16_549 rfl k63 e65 ?_
            refine pm_aload_n C dX16_expression_45 rfl rfl ?_
            obtain ⟨v66, e67, hf⟩ := pm_bd hf
            refine pm_getR C dX16_expression_46 flX16_32 rfl k60 e67 ?_
            refine pm_iload_n C dX16_expression_49 rfl rfl ?_
            obtain ⟨k68, hf⟩ := pm_if hf
            obtain ⟨u69, hf⟩ := pm_if hf
            refine pm_iald C dX16_expression_50 k68 u69 rfl ?_
            refine pm_iload_n C dX16_expression_51 rfl rfl ?_
            obtain ⟨k70, hf⟩ := pm_if hf
            obtain ⟨u71, hf⟩ := pm_if hf
            refine pm_iast C dX16_expression_52 k70 u71 ?_
            refine pm_iload_n C dX16_expression_53 rfl rfl ?_
            refine pm_if_le (tgt := 199) C dX16_expression_54 (by decide) (fun c72 => ?_) (fun c72 => ?_)
            · have hf := pm_it hf c72
              refine pm_goto (tgt := 9) C dX16_expression_199 (by decide) ?_
              cases hf
              exact pm_sub [3, 4, 0] rfl (ih.1 x0 x1 y33 (pm_setI w12.2 v64 ((pm_I w12.2 v66 y33.toNatClampNeg).toNatClampNeg) y8) hi)
            · have hf := pm_ie hf c72
              refine pm_aload_n C dX16_expression_57 rfl rfl ?_
              refine pm_getR C dX16_expression_58 flX16_221 rfl k60 e62 ?_
              obtain ⟨v73, e74, hf⟩ := pm_bd hf
              refine pm_getR C dX16_expression_61 flX16_552 rfl k63 e74 ?_
              refine pm_aload_n C dX16_expression_64 rfl rfl ?_
              refine pm_getR C dX16_expression_65 flX16_32 rfl k60 e67 ?_
              refine pm_iload_n C dX16_expression_68 rfl rfl ?_
              obtain ⟨u75, hf⟩ := pm_if hf
              refine pm_iald C dX16_expression_69 k68 u75 rfl ?_
              obtain ⟨y76, e77, hf⟩ := pm_lt hf
              refine pm_topI e77 ?_
              obtain ⟨k78, hf⟩ := pm_if hf
              obtain ⟨u79, hf⟩ := pm_if hf
              refine pm_iald C dX16_expression_70 k78 u79 rfl ?_
              refine pm_if_le (tgt := 199) C dX16_expression_71 (by decide) (fun c80 => ?_) (fun c80 => ?_)
              · have hf := pm_it hf c80
                refine pm_goto (tgt := 9) C dX16_expression_199 (by decide) ?_
                cases hf
                exact pm_sub [3, 4, 0] rfl (ih.1 x0 x1 y33 (pm_setI w12.2 v64 ((pm_I w12.2 v66 y33.toNatClampNeg).toNatClampNeg) y8) hi)
              · have hf := pm_ie hf c80
                refine pm_aload_n C dX16_expression_74 rfl rfl ?_
                refine pm_getR C dX16_expression_75 flX16_221 rfl k60 e62 ?_
                refine pm_getR C dX16_expression_78 flX16_549 rfl k63 e65 ?_
                refine pm_aload_n C dX16_expression_81 rfl rfl ?_
                refine pm_getR C dX16_expression_82 flX16_221 rfl k60 e62 ?_
                refine pm_getR C dX16_expression_85 flX16_552 rfl k63 e74 ?_
                refine pm_aload_n C dX16_expression_88 rfl rfl ?_
                refine pm_getR C dX16_expression_89 flX16_32 rfl k60 e67 ?_
                refine pm_iload_n C dX16_expression_92 rfl rfl ?_
                obtain ⟨u81, hf⟩ := pm_if hf
                refine pm_iald C dX16_expression_93 k68 u81 rfl ?_
                obtain ⟨y82, e83, hf⟩ := pm_lt hf
                refine pm_topI e83 ?_
                obtain ⟨u84, hf⟩ := pm_if hf
                refine pm_iald C dX16_expression_94 k78 u84 rfl ?_
                refine pm_iload_n C dX16_expression_95 rfl rfl ?_
                obtain ⟨u85, hf⟩ := pm_if hf
                refine pm_iast C dX16_expression_96 k70 u85 ?_
                refine pm_goto (tgt := 199) C dX16_expression_97 (by decide) ?_
                refine pm_goto (tgt := 9) C dX16_expression_199 (by decide) ?_
                cases hf
                exact pm_sub [3, 4, 0] rfl (ih.1 x0 x1 y33 (pm_setI (pm_setI w12.2 v64 ((pm_I w12.2 v66 y33.toNatClampNeg).toNatClampNeg) y8) v64 ((pm_I (pm_setI w12.2 v64 ((pm_I w12.2 v66 y33.toNatClampNeg).toNatClampNeg) y8) v73 y82.toNatClampNeg).toNatClampNeg) y8) hi)
    refine fun x0 x1 x2 x3 x4 h hf => ?_
    obtain ⟨y, hf, hi⟩ := pm_iter_s hf
    have hf : tX16_expression_137 x0 x1 x2 x3 x4 h = some y := hf
    unfold tX16_expression_137 at hf
    refine pm_iload C dX16_expression_137 rfl ?_
    refine pm_iconst (v := 5) C dX16_expression_139 (by decide) ?_
    refine pm_icmp_ne (tgt := 191) C dX16_expression_140 (by decide) (fun c86 => ?_) (fun c86 => ?_)
    · have hf := pm_ie hf c86
      refine pm_aload_n C dX16_expression_191 rfl rfl ?_
      refine pm_iload C dX16_expression_192 rfl ?_
      refine pm_iload_n C dX16_expression_194 rfl rfl ?_
      refine pm_iload_n C dX16_expression_195 rfl rfl ?_
      obtain ⟨k87, hf⟩ := pm_if hf
      obtain ⟨v88, e89, hf⟩ := pm_bd hf
      refine pt_callVT (as := [.int x4, .int x3, .int x1]) (st := []) C X dX16_expression_196 ltX16_558 myX16_operands viX16_operands ⟨by decide, by decide⟩ rfl rfl k87 (Nat.le_of_ble_eq_true rfl) (Nat.le_refl _) (Nat.le_refl _) (ctX16_operands e89 ?_)
      rcases v88 with z91 | w90
      · have hf := pt_sl hf
        cases hf
        cases hi
        exact q
      have hf := pt_sr hf
      show pm_G g 199 [(0, .ref x0), (1, .int x1), (2, .int x2), (3, .int x3), (4, .int x4)] [] w90 0 0
      refine pm_goto (tgt := 9) C dX16_expression_199 (by decide) ?_
      cases hf
      exact pm_sub [0, 1, 2] rfl (ih.1 x0 x1 x2 w90 hi)
    · have hf := pm_it hf c86
      refine pm_aload_n C dX16_expression_143 rfl rfl ?_
      obtain ⟨k92, hf⟩ := pm_if hf
      obtain ⟨v93, e94, hf⟩ := pm_bd hf
      refine pm_getR C dX16_expression_144 flX16_28 rfl k92 e94 ?_
      refine pm_iload_n C dX16_expression_147 rfl rfl ?_
      refine pm_iconst (v := 1) C dX16_expression_148 (by decide) ?_
      refine pm_isub C dX16_expression_149 ?_
      obtain ⟨y95, e96, hf⟩ := pm_lt hf
      refine pm_topI e96 ?_
      obtain ⟨k97, hf⟩ := pm_if hf
      obtain ⟨u98, hf⟩ := pm_if hf
      refine pm_iald C dX16_expression_150 k97 u98 rfl ?_
      refine pm_iconst (v := 4) C dX16_expression_151 (by decide) ?_
      refine pm_icmp_eq (tgt := 162) C dX16_expression_152 (by decide) (fun c99 => ?_) (fun c99 => ?_)
      · have hf := pm_it hf c99
        refine pm_aload_n C dX16_expression_162 rfl rfl ?_
        refine pm_getR C dX16_expression_163 flX16_28 rfl k92 e94 ?_
        refine pm_iload_n C dX16_expression_166 rfl rfl ?_
        refine pm_iconst (v := 1) C dX16_expression_167 (by decide) ?_
        refine pm_isub C dX16_expression_168 ?_
        refine pm_iconst (v := 5) C dX16_expression_169 (by decide) ?_
        obtain ⟨u100, hf⟩ := pm_if hf
        refine pm_iast C dX16_expression_170 k97 u100 ?_
        refine pm_aload_n C dX16_expression_171 rfl rfl ?_
        obtain ⟨v101, e102, hf⟩ := pm_bd hf
        refine pm_getR C dX16_expression_172 flX16_221 rfl k92 e102 ?_
        obtain ⟨k103, hf⟩ := pm_if hf
        obtain ⟨v104, e105, hf⟩ := pm_bd hf
        refine pm_getR C dX16_expression_175 flX16_552 rfl k103 e105 ?_
        refine pm_aload_n C dX16_expression_178 rfl rfl ?_
        obtain ⟨v106, e107, hf⟩ := pm_bd hf
        refine pm_getR C dX16_expression_179 flX16_32 rfl k92 e107 ?_
        refine pm_iload_n C dX16_expression_182 rfl rfl ?_
        refine pm_iconst (v := 1) C dX16_expression_183 (by decide) ?_
        refine pm_isub C dX16_expression_184 ?_
        obtain ⟨y108, e109, hf⟩ := pm_lt hf
        refine pm_topI e109 ?_
        obtain ⟨k110, hf⟩ := pm_if hf
        obtain ⟨u111, hf⟩ := pm_if hf
        refine pm_iald C dX16_expression_185 k110 u111 rfl ?_
        refine pm_iload_n C dX16_expression_186 rfl rfl ?_
        obtain ⟨k112, hf⟩ := pm_if hf
        obtain ⟨u113, hf⟩ := pm_if hf
        refine pm_iast C dX16_expression_187 k112 u113 ?_
        refine pm_goto (tgt := 199) C dX16_expression_188 (by decide) ?_
        refine pm_goto (tgt := 9) C dX16_expression_199 (by decide) ?_
        cases hf
        exact pm_sub [0, 1, 2] rfl (ih.1 x0 x1 x2 (pm_setI (pm_setI h v93 ((x2 - 1).toNatClampNeg) 5) v104 ((pm_I (pm_setI h v93 ((x2 - 1).toNatClampNeg) 5) v106 y108.toNatClampNeg).toNatClampNeg) x3) hi)
      · have hf := pm_ie hf c99
        refine pm_aload_n C dX16_expression_155 rfl rfl ?_
        refine pm_bipush (v := 10) C dX16_expression_156 (by decide) ?_
        refine pm_iload_n C dX16_expression_158 rfl rfl ?_
        obtain ⟨v114, e115, hf⟩ := pm_bd hf
        refine pt_callVT (as := [.int 10, .int x3]) (st := []) C X dX16_expression_159 ltX16_257 myX16_stops viX16_stops ⟨by decide, by decide⟩ rfl rfl k92 (Nat.le_of_ble_eq_true rfl) (Nat.le_refl _) (Nat.le_refl _) (ctX16_stops e115 ?_)
        rcases v114 with z117 | w116
        · have hf := pt_sl hf
          cases hf
          cases hi
          exact q
        have hf := pt_sr hf
        show pm_G g 162 [(0, .ref x0), (1, .int x1), (2, .int x2), (3, .int x3), (4, .int x4)] [] w116 0 0
        refine pm_aload_n C dX16_expression_162 rfl rfl ?_
        obtain ⟨k118, hf⟩ := pm_if hf
        obtain ⟨v119, e120, hf⟩ := pm_bd hf
        refine pm_getR C dX16_expression_163 flX16_28 rfl k118 e120 ?_
        refine pm_iload_n C dX16_expression_166 rfl rfl ?_
        refine pm_iconst (v := 1) C dX16_expression_167 (by decide) ?_
        refine pm_isub C dX16_expression_168 ?_
        refine pm_iconst (v := 5) C dX16_expression_169 (by decide) ?_
        obtain ⟨k121, hf⟩ := pm_if hf
        obtain ⟨u122, hf⟩ := pm_if hf
        refine pm_iast C dX16_expression_170 k121 u122 ?_
        refine pm_aload_n C dX16_expression_171 rfl rfl ?_
        obtain ⟨v123, e124, hf⟩ := pm_bd hf
        refine pm_getR C dX16_expression_172 flX16_221 rfl k118 e124 ?_
        obtain ⟨k125, hf⟩ := pm_if hf
        obtain ⟨v126, e127, hf⟩ := pm_bd hf
        refine pm_getR C dX16_expression_175 flX16_552 rfl k125 e127 ?_
        refine pm_aload_n C dX16_expression_178 rfl rfl ?_
        obtain ⟨v128, e129, hf⟩ := pm_bd hf
        refine pm_getR C dX16_expression_179 flX16_32 rfl k118 e129 ?_
        refine pm_iload_n C dX16_expression_182 rfl rfl ?_
        refine pm_iconst (v := 1) C dX16_expression_183 (by decide) ?_
        refine pm_isub C dX16_expression_184 ?_
        obtain ⟨y130, e131, hf⟩ := pm_lt hf
        refine pm_topI e131 ?_
        obtain ⟨k132, hf⟩ := pm_if hf
        obtain ⟨u133, hf⟩ := pm_if hf
        refine pm_iald C dX16_expression_185 k132 u133 rfl ?_
        refine pm_iload_n C dX16_expression_186 rfl rfl ?_
        obtain ⟨k134, hf⟩ := pm_if hf
        obtain ⟨u135, hf⟩ := pm_if hf
        refine pm_iast C dX16_expression_187 k134 u135 ?_
        refine pm_goto (tgt := 199) C dX16_expression_188 (by decide) ?_
        refine pm_goto (tgt := 9) C dX16_expression_199 (by decide) ?_
        cases hf
        exact pm_sub [0, 1, 2] rfl (ih.1 x0 x1 x2 (pm_setI (pm_setI w116 v119 ((x2 - 1).toNatClampNeg) 5) v126 ((pm_I (pm_setI w116 v119 ((x2 - 1).toNatClampNeg) 5) v128 y130.toNatClampNeg).toNatClampNeg) x3) hi)
set_option maxHeartbeats 4000000 in
set_option maxRecDepth 100000 in
theorem ctX16_expression {l : Launch} {G : pm_Gl} {h : pm_H} {a0 : Nat} {p1 : Int32} {r : ((Nat × pm_H) ⊕ pm_H)} {Qr : Option Value → pm_H → Prop} {Qt : Nat → pm_H → Prop} (hf : fX16_expression h a0 p1 = some r) (q : pt_eV Qr Qt r) : pm_Ctt l G mX16_expression [.ref a0, .int p1] h 0 0 Qr Qt := by
  refine pm_bodyT pnX16 (Nat.le_of_ble_eq_true rfl) (fun g C X => ?_)
  have C : pm_C g cX16_expression RX16 := C
  show pm_G g 0 [(0, .ref a0), (1, .int p1)] [] h 0 0
  unfold fX16_expression at hf
  refine pm_iconst (v := 1) C dX16_expression_0 (by decide) ?_
  refine pm_istore_n (lv' := [(2, .int 1), (0, .ref a0), (1, .int p1)]) C dX16_expression_1 rfl (pt_nl X (by decide)) rfl ?_
  refine pm_aload_n C dX16_expression_2 rfl rfl ?_
  obtain ⟨k1, hf⟩ := pm_if hf
  obtain ⟨v2, e3, hf⟩ := pm_bd hf
  refine pm_getR C dX16_expression_3 flX16_28 rfl k1 e3 ?_
  refine pm_iconst (v := 0) C dX16_expression_6 (by decide) ?_
  refine pm_iconst (v := 0) C dX16_expression_7 (by decide) ?_
  obtain ⟨k4, hf⟩ := pm_if hf
  obtain ⟨u5, hf⟩ := pm_if hf
  refine pm_iast C dX16_expression_8 k4 u5 ?_
  obtain ⟨n, hn⟩ := pm_lim_iter hf
  exact pm_sub [1, 2, 0] rfl ((lpX16_expression C X q n).1 a0 p1 1 (pm_setI h v2 ((0 : Int32).toNatClampNeg) 0) hn)
