theorem dX16_enters_0 : decode cX16_enters 0 = .ok (.aload_n 0, 1) := by decide +kernel
theorem dX16_enters_1 : decode cX16_enters 1 = .ok (.getfield 80, 3) := by decide +kernel
theorem dX16_enters_4 : decode cX16_enters 4 = .ok (.iload_n 1, 1) := by decide +kernel
theorem dX16_enters_5 : decode cX16_enters 5 = .ok (.iaload, 1) := by decide +kernel
theorem dX16_enters_6 : decode cX16_enters 6 = .ok (.ifCond .lt 33, 3) := by decide +kernel
theorem dX16_enters_9 : decode cX16_enters 9 = .ok (.aload_n 0, 1) := by decide +kernel
theorem dX16_enters_10 : decode cX16_enters 10 = .ok (.iconst 5, 1) := by decide +kernel
theorem dX16_enters_11 : decode cX16_enters 11 = .ok (.putfield 970, 3) := by decide +kernel
theorem dX16_enters_14 : decode cX16_enters 14 = .ok (.aload_n 0, 1) := by decide +kernel
theorem dX16_enters_15 : decode cX16_enters 15 = .ok (.aload_n 0, 1) := by decide +kernel
theorem dX16_enters_16 : decode cX16_enters 16 = .ok (.getfield 80, 3) := by decide +kernel
theorem dX16_enters_19 : decode cX16_enters 19 = .ok (.iload_n 1, 1) := by decide +kernel
theorem dX16_enters_20 : decode cX16_enters 20 = .ok (.iaload, 1) := by decide +kernel
theorem dX16_enters_21 : decode cX16_enters 21 = .ok (.putfield 164, 3) := by decide +kernel
theorem dX16_enters_24 : decode cX16_enters 24 = .ok (.aload_n 0, 1) := by decide +kernel
theorem dX16_enters_25 : decode cX16_enters 25 = .ok (.iload_n 1, 1) := by decide +kernel
theorem dX16_enters_26 : decode cX16_enters 26 = .ok (.putfield 1095, 3) := by decide +kernel
theorem dX16_enters_29 : decode cX16_enters 29 = .ok (.aload_n 0, 1) := by decide +kernel
theorem dX16_enters_30 : decode cX16_enters 30 = .ok (.aload_n 0, 1) := by decide +kernel
theorem dX16_enters_31 : decode cX16_enters 31 = .ok (.iload_n 1, 1) := by decide +kernel
theorem dX16_enters_32 : decode cX16_enters 32 = .ok (.invokevirtual 1077, 3) := by decide +kernel
theorem dX16_enters_35 : decode cX16_enters 35 = .ok (.putfield 1098, 3) := by decide +kernel
theorem dX16_enters_38 : decode cX16_enters 38 = .ok (.return_, 1) := by decide +kernel
theorem dX16_enters_39 : decode cX16_enters 39 = .ok (.aload_n 0, 1) := by decide +kernel
theorem dX16_enters_40 : decode cX16_enters 40 = .ok (.iload_n 1, 1) := by decide +kernel
theorem dX16_enters_41 : decode cX16_enters 41 = .ok (.invokevirtual 1065, 3) := by decide +kernel
theorem dX16_enters_44 : decode cX16_enters 44 = .ok (.astore_n 2, 1) := by decide +kernel
theorem dX16_enters_45 : decode cX16_enters 45 = .ok (.aload_n 0, 1) := by decide +kernel
theorem dX16_enters_46 : decode cX16_enters 46 = .ok (.getfield 77, 3) := by decide +kernel
theorem dX16_enters_49 : decode cX16_enters 49 = .ok (.iload_n 1, 1) := by decide +kernel
theorem dX16_enters_50 : decode cX16_enters 50 = .ok (.iaload, 1) := by decide +kernel
theorem dX16_enters_51 : decode cX16_enters 51 = .ok (.istore_n 3, 1) := by decide +kernel
theorem dX16_enters_52 : decode cX16_enters 52 = .ok (.aload_n 2, 1) := by decide +kernel
theorem dX16_enters_53 : decode cX16_enters 53 = .ok (.getfield 387, 3) := by decide +kernel
theorem dX16_enters_56 : decode cX16_enters 56 = .ok (.aload_n 0, 1) := by decide +kernel
theorem dX16_enters_57 : decode cX16_enters 57 = .ok (.getfield 71, 3) := by decide +kernel
theorem dX16_enters_60 : decode cX16_enters 60 = .ok (.iload_n 1, 1) := by decide +kernel
theorem dX16_enters_61 : decode cX16_enters 61 = .ok (.iaload, 1) := by decide +kernel
theorem dX16_enters_62 : decode cX16_enters 62 = .ok (.iaload, 1) := by decide +kernel
theorem dX16_enters_63 : decode cX16_enters 63 = .ok (.istore 4, 2) := by decide +kernel
theorem dX16_enters_65 : decode cX16_enters 65 = .ok (.iload 4, 2) := by decide +kernel
theorem dX16_enters_67 : decode cX16_enters 67 = .ok (.aload_n 2, 1) := by decide +kernel
theorem dX16_enters_68 : decode cX16_enters 68 = .ok (.getfield 520, 3) := by decide +kernel
theorem dX16_enters_71 : decode cX16_enters 71 = .ok (.iload_n 3, 1) := by decide +kernel
theorem dX16_enters_72 : decode cX16_enters 72 = .ok (.laload, 1) := by decide +kernel
theorem dX16_enters_73 : decode cX16_enters 73 = .ok (.l2i, 1) := by decide +kernel
theorem dX16_enters_74 : decode cX16_enters 74 = .ok (.iadd, 1) := by decide +kernel
theorem dX16_enters_75 : decode cX16_enters 75 = .ok (.istore 5, 2) := by decide +kernel
theorem dX16_enters_77 : decode cX16_enters 77 = .ok (.aload_n 0, 1) := by decide +kernel
theorem dX16_enters_78 : decode cX16_enters 78 = .ok (.getfield 1052, 3) := by decide +kernel
theorem dX16_enters_81 : decode cX16_enters 81 = .ok (.ifCond .ne 7, 3) := by decide +kernel
theorem dX16_enters_84 : decode cX16_enters 84 = .ok (.iconst 0, 1) := by decide +kernel
theorem dX16_enters_85 : decode cX16_enters 85 = .ok (.goto 26, 3) := by decide +kernel
theorem dX16_enters_88 : decode cX16_enters 88 = .ok (.aload_n 0, 1) := by decide +kernel
theorem dX16_enters_89 : decode cX16_enters 89 = .ok (.getfield 179, 3) := by decide +kernel
theorem dX16_enters_92 : decode cX16_enters 92 = .ok (.aload_n 0, 1) := by decide +kernel
theorem dX16_enters_93 : decode cX16_enters 93 = .ok (.getfield 1052, 3) := by decide +kernel
theorem dX16_enters_96 : decode cX16_enters 96 = .ok (.iconst 1, 1) := by decide +kernel
theorem dX16_enters_97 : decode cX16_enters 97 = .ok (.isub, 1) := by decide +kernel
theorem dX16_enters_98 : decode cX16_enters 98 = .ok (.iaload, 1) := by decide +kernel
theorem dX16_enters_99 : decode cX16_enters 99 = .ok (.aload_n 0, 1) := by decide +kernel
theorem dX16_enters_100 : decode cX16_enters 100 = .ok (.getfield 182, 3) := by decide +kernel
theorem dX16_enters_103 : decode cX16_enters 103 = .ok (.aload_n 0, 1) := by decide +kernel
theorem dX16_enters_104 : decode cX16_enters 104 = .ok (.getfield 1052, 3) := by decide +kernel
theorem dX16_enters_107 : decode cX16_enters 107 = .ok (.iconst 1, 1) := by decide +kernel
theorem dX16_enters_108 : decode cX16_enters 108 = .ok (.isub, 1) := by decide +kernel
theorem dX16_enters_109 : decode cX16_enters 109 = .ok (.iaload, 1) := by decide +kernel
theorem dX16_enters_110 : decode cX16_enters 110 = .ok (.iadd, 1) := by decide +kernel
theorem dX16_enters_111 : decode cX16_enters 111 = .ok (.istore 6, 2) := by decide +kernel
theorem dX16_enters_113 : decode cX16_enters 113 = .ok (.aload_n 0, 1) := by decide +kernel
theorem dX16_enters_114 : decode cX16_enters 114 = .ok (.getfield 1052, 3) := by decide +kernel
theorem dX16_enters_117 : decode cX16_enters 117 = .ok (.sipush 200, 3) := by decide +kernel
theorem dX16_enters_120 : decode cX16_enters 120 = .ok (.if_icmp .eq 21, 3) := by decide +kernel
theorem dX16_enters_123 : decode cX16_enters 123 = .ok (.iload 6, 2) := by decide +kernel
theorem dX16_enters_125 : decode cX16_enters 125 = .ok (.iload 5, 2) := by decide +kernel
theorem dX16_enters_127 : decode cX16_enters 127 = .ok (.iadd, 1) := by decide +kernel
theorem dX16_enters_128 : decode cX16_enters 128 = .ok (.aload_n 2, 1) := by decide +kernel
theorem dX16_enters_129 : decode cX16_enters 129 = .ok (.getfield 726, 3) := by decide +kernel
theorem dX16_enters_132 : decode cX16_enters 132 = .ok (.iload_n 3, 1) := by decide +kernel
theorem dX16_enters_133 : decode cX16_enters 133 = .ok (.iaload, 1) := by decide +kernel
theorem dX16_enters_134 : decode cX16_enters 134 = .ok (.iadd, 1) := by decide +kernel
theorem dX16_enters_135 : decode cX16_enters 135 = .ok (.sipush 4096, 3) := by decide +kernel
theorem dX16_enters_138 : decode cX16_enters 138 = .ok (.if_icmp .le 9, 3) := by decide +kernel
theorem dX16_enters_141 : decode cX16_enters 141 = .ok (.aload_n 0, 1) := by decide +kernel
theorem dX16_enters_142 : decode cX16_enters 142 = .ok (.iconst 4, 1) := by decide +kernel
theorem dX16_enters_143 : decode cX16_enters 143 = .ok (.putfield 970, 3) := by decide +kernel
theorem dX16_enters_146 : decode cX16_enters 146 = .ok (.return_, 1) := by decide +kernel
theorem dX16_enters_147 : decode cX16_enters 147 = .ok (.aload_n 0, 1) := by decide +kernel
theorem dX16_enters_148 : decode cX16_enters 148 = .ok (.iload_n 1, 1) := by decide +kernel
theorem dX16_enters_149 : decode cX16_enters 149 = .ok (.invokevirtual 1101, 3) := by decide +kernel
theorem dX16_enters_152 : decode cX16_enters 152 = .ok (.aload_n 0, 1) := by decide +kernel
theorem dX16_enters_153 : decode cX16_enters 153 = .ok (.getfield 1052, 3) := by decide +kernel
theorem dX16_enters_156 : decode cX16_enters 156 = .ok (.ifCond .le 18, 3) := by decide +kernel
theorem dX16_enters_159 : decode cX16_enters 159 = .ok (.aload_n 0, 1) := by decide +kernel
theorem dX16_enters_160 : decode cX16_enters 160 = .ok (.getfield 185, 3) := by decide +kernel
theorem dX16_enters_163 : decode cX16_enters 163 = .ok (.aload_n 0, 1) := by decide +kernel
theorem dX16_enters_164 : decode cX16_enters 164 = .ok (.getfield 1052, 3) := by decide +kernel
theorem dX16_enters_167 : decode cX16_enters 167 = .ok (.iconst 1, 1) := by decide +kernel
theorem dX16_enters_168 : decode cX16_enters 168 = .ok (.isub, 1) := by decide +kernel
theorem dX16_enters_169 : decode cX16_enters 169 = .ok (.aload_n 0, 1) := by decide +kernel
theorem dX16_enters_170 : decode cX16_enters 170 = .ok (.getfield 1104, 3) := by decide +kernel
theorem dX16_enters_173 : decode cX16_enters 173 = .ok (.iastore, 1) := by decide +kernel
theorem dX16_enters_174 : decode cX16_enters 174 = .ok (.aload_n 0, 1) := by decide +kernel
theorem dX16_enters_175 : decode cX16_enters 175 = .ok (.getfield 173, 3) := by decide +kernel
theorem dX16_enters_178 : decode cX16_enters 178 = .ok (.aload_n 0, 1) := by decide +kernel
theorem dX16_enters_179 : decode cX16_enters 179 = .ok (.getfield 1052, 3) := by decide +kernel
theorem dX16_enters_182 : decode cX16_enters 182 = .ok (.iload_n 1, 1) := by decide +kernel
theorem dX16_enters_183 : decode cX16_enters 183 = .ok (.iastore, 1) := by decide +kernel
theorem dX16_enters_184 : decode cX16_enters 184 = .ok (.aload_n 0, 1) := by decide +kernel
theorem dX16_enters_185 : decode cX16_enters 185 = .ok (.getfield 176, 3) := by decide +kernel
theorem dX16_enters_188 : decode cX16_enters 188 = .ok (.aload_n 0, 1) := by decide +kernel
theorem dX16_enters_189 : decode cX16_enters 189 = .ok (.getfield 1052, 3) := by decide +kernel
theorem dX16_enters_192 : decode cX16_enters 192 = .ok (.aload_n 0, 1) := by decide +kernel
theorem dX16_enters_193 : decode cX16_enters 193 = .ok (.getfield 1107, 3) := by decide +kernel
theorem dX16_enters_196 : decode cX16_enters 196 = .ok (.iastore, 1) := by decide +kernel
theorem dX16_enters_197 : decode cX16_enters 197 = .ok (.aload_n 0, 1) := by decide +kernel
theorem dX16_enters_198 : decode cX16_enters 198 = .ok (.getfield 179, 3) := by decide +kernel
theorem dX16_enters_201 : decode cX16_enters 201 = .ok (.aload_n 0, 1) := by decide +kernel
theorem dX16_enters_202 : decode cX16_enters 202 = .ok (.getfield 1052, 3) := by decide +kernel
theorem dX16_enters_205 : decode cX16_enters 205 = .ok (.iload 6, 2) := by decide +kernel
theorem dX16_enters_207 : decode cX16_enters 207 = .ok (.iastore, 1) := by decide +kernel
theorem dX16_enters_208 : decode cX16_enters 208 = .ok (.aload_n 0, 1) := by decide +kernel
theorem dX16_enters_209 : decode cX16_enters 209 = .ok (.getfield 182, 3) := by decide +kernel
theorem dX16_enters_212 : decode cX16_enters 212 = .ok (.aload_n 0, 1) := by decide +kernel
theorem dX16_enters_213 : decode cX16_enters 213 = .ok (.getfield 1052, 3) := by decide +kernel
theorem dX16_enters_216 : decode cX16_enters 216 = .ok (.iload 5, 2) := by decide +kernel
theorem dX16_enters_218 : decode cX16_enters 218 = .ok (.aload_n 2, 1) := by decide +kernel
theorem dX16_enters_219 : decode cX16_enters 219 = .ok (.getfield 726, 3) := by decide +kernel
theorem dX16_enters_222 : decode cX16_enters 222 = .ok (.iload_n 3, 1) := by decide +kernel
theorem dX16_enters_223 : decode cX16_enters 223 = .ok (.iaload, 1) := by decide +kernel
theorem dX16_enters_224 : decode cX16_enters 224 = .ok (.iadd, 1) := by decide +kernel
theorem dX16_enters_225 : decode cX16_enters 225 = .ok (.iastore, 1) := by decide +kernel
theorem dX16_enters_226 : decode cX16_enters 226 = .ok (.aload_n 0, 1) := by decide +kernel
theorem dX16_enters_227 : decode cX16_enters 227 = .ok (.getfield 188, 3) := by decide +kernel
theorem dX16_enters_230 : decode cX16_enters 230 = .ok (.aload_n 0, 1) := by decide +kernel
theorem dX16_enters_231 : decode cX16_enters 231 = .ok (.getfield 1052, 3) := by decide +kernel
theorem dX16_enters_234 : decode cX16_enters 234 = .ok (.aload_n 0, 1) := by decide +kernel
theorem dX16_enters_235 : decode cX16_enters 235 = .ok (.getfield 1086, 3) := by decide +kernel
theorem dX16_enters_238 : decode cX16_enters 238 = .ok (.iastore, 1) := by decide +kernel
theorem dX16_enters_239 : decode cX16_enters 239 = .ok (.aload_n 0, 1) := by decide +kernel
theorem dX16_enters_240 : decode cX16_enters 240 = .ok (.dup, 1) := by decide +kernel
theorem dX16_enters_241 : decode cX16_enters 241 = .ok (.getfield 1052, 3) := by decide +kernel
theorem dX16_enters_244 : decode cX16_enters 244 = .ok (.iconst 1, 1) := by decide +kernel
theorem dX16_enters_245 : decode cX16_enters 245 = .ok (.iadd, 1) := by decide +kernel
theorem dX16_enters_246 : decode cX16_enters 246 = .ok (.putfield 1052, 3) := by decide +kernel
theorem dX16_enters_249 : decode cX16_enters 249 = .ok (.aload_n 0, 1) := by decide +kernel
theorem dX16_enters_250 : decode cX16_enters 250 = .ok (.aload_n 2, 1) := by decide +kernel
theorem dX16_enters_251 : decode cX16_enters 251 = .ok (.putfield 221, 3) := by decide +kernel
theorem dX16_enters_254 : decode cX16_enters 254 = .ok (.aload_n 0, 1) := by decide +kernel
theorem dX16_enters_255 : decode cX16_enters 255 = .ok (.aload_n 0, 1) := by decide +kernel
theorem dX16_enters_256 : decode cX16_enters 256 = .ok (.getfield 74, 3) := by decide +kernel
theorem dX16_enters_259 : decode cX16_enters 259 = .ok (.iload_n 1, 1) := by decide +kernel
theorem dX16_enters_260 : decode cX16_enters 260 = .ok (.iaload, 1) := by decide +kernel
theorem dX16_enters_261 : decode cX16_enters 261 = .ok (.putfield 1110, 3) := by decide +kernel
theorem dX16_enters_264 : decode cX16_enters 264 = .ok (.iconst 0, 1) := by decide +kernel
theorem dX16_enters_265 : decode cX16_enters 265 = .ok (.istore 7, 2) := by decide +kernel
theorem dX16_enters_267 : decode cX16_enters 267 = .ok (.iload 7, 2) := by decide +kernel
theorem dX16_enters_269 : decode cX16_enters 269 = .ok (.iload 4, 2) := by decide +kernel
theorem dX16_enters_271 : decode cX16_enters 271 = .ok (.if_icmp .ge 26, 3) := by decide +kernel
theorem dX16_enters_274 : decode cX16_enters 274 = .ok (.aload_n 0, 1) := by decide +kernel
theorem dX16_enters_275 : decode cX16_enters 275 = .ok (.getfield 191, 3) := by decide +kernel
theorem dX16_enters_278 : decode cX16_enters 278 = .ok (.iload 6, 2) := by decide +kernel
theorem dX16_enters_280 : decode cX16_enters 280 = .ok (.iload 7, 2) := by decide +kernel
theorem dX16_enters_282 : decode cX16_enters 282 = .ok (.iadd, 1) := by decide +kernel
theorem dX16_enters_283 : decode cX16_enters 283 = .ok (.aload_n 0, 1) := by decide +kernel
theorem dX16_enters_284 : decode cX16_enters 284 = .ok (.getfield 170, 3) := by decide +kernel
theorem dX16_enters_287 : decode cX16_enters 287 = .ok (.iload 7, 2) := by decide +kernel
theorem dX16_enters_289 : decode cX16_enters 289 = .ok (.laload, 1) := by decide +kernel
theorem dX16_enters_290 : decode cX16_enters 290 = .ok (.lastore, 1) := by decide +kernel
theorem dX16_enters_291 : decode cX16_enters 291 = .ok (.iinc 7 1, 3) := by decide +kernel
theorem dX16_enters_294 : decode cX16_enters 294 = .ok (.goto (-27), 3) := by decide +kernel
theorem dX16_enters_297 : decode cX16_enters 297 = .ok (.aload_n 0, 1) := by decide +kernel
theorem dX16_enters_298 : decode cX16_enters 298 = .ok (.iload 6, 2) := by decide +kernel
theorem dX16_enters_300 : decode cX16_enters 300 = .ok (.iload 4, 2) := by decide +kernel
theorem dX16_enters_302 : decode cX16_enters 302 = .ok (.iadd, 1) := by decide +kernel
theorem dX16_enters_303 : decode cX16_enters 303 = .ok (.putfield 1104, 3) := by decide +kernel
theorem dX16_enters_306 : decode cX16_enters 306 = .ok (.aload_n 0, 1) := by decide +kernel
theorem dX16_enters_307 : decode cX16_enters 307 = .ok (.aload_n 2, 1) := by decide +kernel
theorem dX16_enters_308 : decode cX16_enters 308 = .ok (.getfield 517, 3) := by decide +kernel
theorem dX16_enters_311 : decode cX16_enters 311 = .ok (.iload_n 3, 1) := by decide +kernel
theorem dX16_enters_312 : decode cX16_enters 312 = .ok (.iaload, 1) := by decide +kernel
theorem dX16_enters_313 : decode cX16_enters 313 = .ok (.putfield 594, 3) := by decide +kernel
theorem dX16_enters_316 : decode cX16_enters 316 = .ok (.aload_n 0, 1) := by decide +kernel
theorem dX16_enters_317 : decode cX16_enters 317 = .ok (.invokevirtual 603, 3) := by decide +kernel
theorem dX16_enters_320 : decode cX16_enters 320 = .ok (.lstore 7, 2) := by decide +kernel
theorem dX16_enters_322 : decode cX16_enters 322 = .ok (.lload 7, 2) := by decide +kernel
theorem dX16_enters_324 : decode cX16_enters 324 = .ok (.lconst 0, 1) := by decide +kernel
theorem dX16_enters_325 : decode cX16_enters 325 = .ok (.lcmp, 1) := by decide +kernel
theorem dX16_enters_326 : decode cX16_enters 326 = .ok (.ifCond .le 88, 3) := by decide +kernel
theorem dX16_enters_329 : decode cX16_enters 329 = .ok (.aload_n 0, 1) := by decide +kernel
theorem dX16_enters_330 : decode cX16_enters 330 = .ok (.invokevirtual 603, 3) := by decide +kernel
theorem dX16_enters_333 : decode cX16_enters 333 = .ok (.lstore 9, 2) := by decide +kernel
theorem dX16_enters_335 : decode cX16_enters 335 = .ok (.aload_n 2, 1) := by decide +kernel
theorem dX16_enters_336 : decode cX16_enters 336 = .ok (.aload_n 0, 1) := by decide +kernel
theorem dX16_enters_337 : decode cX16_enters 337 = .ok (.getfield 594, 3) := by decide +kernel
theorem dX16_enters_340 : decode cX16_enters 340 = .ok (.invokevirtual 261, 3) := by decide +kernel
theorem dX16_enters_343 : decode cX16_enters 343 = .ok (.invokestatic 270, 3) := by decide +kernel
theorem dX16_enters_346 : decode cX16_enters 346 = .ok (.ifCond .eq 9, 3) := by decide +kernel
theorem dX16_enters_349 : decode cX16_enters 349 = .ok (.ldc2_w 268, 3) := by decide +kernel
theorem dX16_enters_352 : decode cX16_enters 352 = .ok (.goto 4, 3) := by decide +kernel
theorem dX16_enters_355 : decode cX16_enters 355 = .ok (.lconst 0, 1) := by decide +kernel
theorem dX16_enters_356 : decode cX16_enters 356 = .ok (.lstore 11, 2) := by decide +kernel
theorem dX16_enters_358 : decode cX16_enters 358 = .ok (.aload_n 0, 1) := by decide +kernel
theorem dX16_enters_359 : decode cX16_enters 359 = .ok (.dup, 1) := by decide +kernel
theorem dX16_enters_360 : decode cX16_enters 360 = .ok (.getfield 594, 3) := by decide +kernel
theorem dX16_enters_363 : decode cX16_enters 363 = .ok (.iconst 1, 1) := by decide +kernel
theorem dX16_enters_364 : decode cX16_enters 364 = .ok (.iadd, 1) := by decide +kernel
theorem dX16_enters_365 : decode cX16_enters 365 = .ok (.putfield 594, 3) := by decide +kernel
theorem dX16_enters_368 : decode cX16_enters 368 = .ok (.lload 9, 2) := by decide +kernel
theorem dX16_enters_370 : decode cX16_enters 370 = .ok (.lconst 0, 1) := by decide +kernel
theorem dX16_enters_371 : decode cX16_enters 371 = .ok (.lcmp, 1) := by decide +kernel
theorem dX16_enters_372 : decode cX16_enters 372 = .ok (.ifCond .le 33, 3) := by decide +kernel
theorem dX16_enters_375 : decode cX16_enters 375 = .ok (.aload_n 0, 1) := by decide +kernel
theorem dX16_enters_376 : decode cX16_enters 376 = .ok (.getfield 191, 3) := by decide +kernel
theorem dX16_enters_379 : decode cX16_enters 379 = .ok (.aload_n 0, 1) := by decide +kernel
theorem dX16_enters_380 : decode cX16_enters 380 = .ok (.getfield 1104, 3) := by decide +kernel
theorem dX16_enters_383 : decode cX16_enters 383 = .ok (.lload 11, 2) := by decide +kernel
theorem dX16_enters_385 : decode cX16_enters 385 = .ok (.lastore, 1) := by decide +kernel
theorem dX16_enters_386 : decode cX16_enters 386 = .ok (.aload_n 0, 1) := by decide +kernel
theorem dX16_enters_387 : decode cX16_enters 387 = .ok (.dup, 1) := by decide +kernel
theorem dX16_enters_388 : decode cX16_enters 388 = .ok (.getfield 1104, 3) := by decide +kernel
theorem dX16_enters_391 : decode cX16_enters 391 = .ok (.iconst 1, 1) := by decide +kernel
theorem dX16_enters_392 : decode cX16_enters 392 = .ok (.iadd, 1) := by decide +kernel
theorem dX16_enters_393 : decode cX16_enters 393 = .ok (.putfield 1104, 3) := by decide +kernel
theorem dX16_enters_396 : decode cX16_enters 396 = .ok (.lload 9, 2) := by decide +kernel
theorem dX16_enters_398 : decode cX16_enters 398 = .ok (.lconst 1, 1) := by decide +kernel
theorem dX16_enters_399 : decode cX16_enters 399 = .ok (.lsub, 1) := by decide +kernel
theorem dX16_enters_400 : decode cX16_enters 400 = .ok (.lstore 9, 2) := by decide +kernel
theorem dX16_enters_402 : decode cX16_enters 402 = .ok (.goto (-34), 3) := by decide +kernel
theorem dX16_enters_405 : decode cX16_enters 405 = .ok (.lload 7, 2) := by decide +kernel
theorem dX16_enters_407 : decode cX16_enters 407 = .ok (.lconst 1, 1) := by decide +kernel
theorem dX16_enters_408 : decode cX16_enters 408 = .ok (.lsub, 1) := by decide +kernel
theorem dX16_enters_409 : decode cX16_enters 409 = .ok (.lstore 7, 2) := by decide +kernel
theorem dX16_enters_411 : decode cX16_enters 411 = .ok (.goto (-89), 3) := by decide +kernel
theorem dX16_enters_414 : decode cX16_enters 414 = .ok (.aload_n 0, 1) := by decide +kernel
theorem dX16_enters_415 : decode cX16_enters 415 = .ok (.aload_n 2, 1) := by decide +kernel
theorem dX16_enters_416 : decode cX16_enters 416 = .ok (.getfield 523, 3) := by decide +kernel
theorem dX16_enters_419 : decode cX16_enters 419 = .ok (.iload_n 3, 1) := by decide +kernel
theorem dX16_enters_420 : decode cX16_enters 420 = .ok (.iaload, 1) := by decide +kernel
theorem dX16_enters_421 : decode cX16_enters 421 = .ok (.putfield 1107, 3) := by decide +kernel
theorem dX16_enters_424 : decode cX16_enters 424 = .ok (.aload_n 0, 1) := by decide +kernel
theorem dX16_enters_425 : decode cX16_enters 425 = .ok (.aload_n 2, 1) := by decide +kernel
theorem dX16_enters_426 : decode cX16_enters 426 = .ok (.getfield 526, 3) := by decide +kernel
theorem dX16_enters_429 : decode cX16_enters 429 = .ok (.iload_n 3, 1) := by decide +kernel
theorem dX16_enters_430 : decode cX16_enters 430 = .ok (.iaload, 1) := by decide +kernel
theorem dX16_enters_431 : decode cX16_enters 431 = .ok (.aload_n 2, 1) := by decide +kernel
theorem dX16_enters_432 : decode cX16_enters 432 = .ok (.getfield 390, 3) := by decide +kernel
theorem dX16_enters_435 : decode cX16_enters 435 = .ok (.aload_n 0, 1) := by decide +kernel
theorem dX16_enters_436 : decode cX16_enters 436 = .ok (.getfield 71, 3) := by decide +kernel
theorem dX16_enters_439 : decode cX16_enters 439 = .ok (.iload_n 1, 1) := by decide +kernel
theorem dX16_enters_440 : decode cX16_enters 440 = .ok (.iaload, 1) := by decide +kernel
theorem dX16_enters_441 : decode cX16_enters 441 = .ok (.iaload, 1) := by decide +kernel
theorem dX16_enters_442 : decode cX16_enters 442 = .ok (.iconst 0, 1) := by decide +kernel
theorem dX16_enters_443 : decode cX16_enters 443 = .ok (.iconst 1, 1) := by decide +kernel
theorem dX16_enters_444 : decode cX16_enters 444 = .ok (.invokevirtual 1113, 3) := by decide +kernel
theorem dX16_enters_447 : decode cX16_enters 447 = .ok (.return_, 1) := by decide +kernel
noncomputable def tX16_enters_111 (x0 : Nat) (x1 : Int32) (x2 : Nat) (x3 : Int32) (x4 : Int32) (x5 : Int32) (s0 : Int32) (h : pm_H) : Option (((Nat × Int32 × Nat × Int32 × Int32 × Int32 × Int32 × pm_H) ⊕ (Nat × Int32 × Nat × Int32 × Int32 × Int32 × Int32 × pm_H) ⊕ (Nat × Int32 × Nat × Int32 × Int64 × pm_H) ⊕ (Nat × Int32 × Nat × Int32 × Int64 × Int64 × Int64 × pm_H)) ⊕ pm_H) := if pm_kd h x0 = 16 then if (pm_I h x0 85) = 200 then (some (.inr (pm_setI h x0 76 4))) else (if pm_kd h x2 = 14 then (pm_R h x2 55).bind fun v55 => if pm_kd h v55 = 34 then if pm_in x3 (pm_ln h v55) then if ((s0 + x5) + (pm_I h v55 x3.toNatClampNeg)) ≤ 4096 then ((fX16_counts h x0 x1).bind fun v60 => if pm_kd v60 x0 = 16 then if (pm_I v60 x0 85) ≤ 0 then ((pm_R v60 x0 86).bind fun v64 => if pm_kd v60 v64 = 34 then if pm_in (pm_I v60 x0 85) (pm_ln v60 v64) then (pm_R (pm_setI v60 v64 ((pm_I v60 x0 85).toNatClampNeg) x1) x0 87).bind fun v68 => pm_let (pm_I (pm_setI v60 v64 ((pm_I v60 x0 85).toNatClampNeg) x1) x0 94) fun y70 => if pm_kd (pm_setI v60 v64 ((pm_I v60 x0 85).toNatClampNeg) x1) v68 = 34 then if pm_in (pm_I (pm_setI v60 v64 ((pm_I v60 x0 85).toNatClampNeg) x1) x0 85) (pm_ln (pm_setI v60 v64 ((pm_I v60 x0 85).toNatClampNeg) x1) v68) then (pm_R (pm_setI (pm_setI v60 v64 ((pm_I v60 x0 85).toNatClampNeg) x1) v68 ((pm_I (pm_setI v60 v64 ((pm_I v60 x0 85).toNatClampNeg) x1) x0 85).toNatClampNeg) y70) x0 88).bind fun v74 => if pm_kd (pm_setI (pm_setI v60 v64 ((pm_I v60 x0 85).toNatClampNeg) x1) v68 ((pm_I (pm_setI v60 v64 ((pm_I v60 x0 85).toNatClampNeg) x1) x0 85).toNatClampNeg) y70) v74 = 34 then if pm_in (pm_I (pm_setI (pm_setI v60 v64 ((pm_I v60 x0 85).toNatClampNeg) x1) v68 ((pm_I (pm_setI v60 v64 ((pm_I v60 x0 85).toNatClampNeg) x1) x0 85).toNatClampNeg) y70) x0 85) (pm_ln (pm_setI (pm_setI v60 v64 ((pm_I v60 x0 85).toNatClampNeg) x1) v68 ((pm_I (pm_setI v60 v64 ((pm_I v60 x0 85).toNatClampNeg) x1) x0 85).toNatClampNeg) y70) v74) then (pm_R (pm_setI (pm_setI (pm_setI v60 v64 ((pm_I v60 x0 85).toNatClampNeg) x1) v68 ((pm_I (pm_setI v60 v64 ((pm_I v60 x0 85).toNatClampNeg) x1) x0 85).toNatClampNeg) y70) v74 ((pm_I (pm_setI (pm_setI v60 v64 ((pm_I v60 x0 85).toNatClampNeg) x1) v68 ((pm_I (pm_setI v60 v64 ((pm_I v60 x0 85).toNatClampNeg) x1) x0 85).toNatClampNeg) y70) x0 85).toNatClampNeg) s0) x0 89).bind fun v78 => if pm_kd (pm_setI (pm_setI (pm_setI v60 v64 ((pm_I v60 x0 85).toNatClampNeg) x1) v68 ((pm_I (pm_setI v60 v64 ((pm_I v60 x0 85).toNatClampNeg) x1) x0 85).toNatClampNeg) y70) v74 ((pm_I (pm_setI (pm_setI v60 v64 ((pm_I v60 x0 85).toNatClampNeg) x1) v68 ((pm_I (pm_setI v60 v64 ((pm_I v60 x0 85).toNatClampNeg) x1) x0 85).toNatClampNeg) y70) x0 85).toNatClampNeg) s0) x2 = 14 then (pm_R (pm_setI (pm_setI (pm_setI v60 v64 ((pm_I v60 x0 85).toNatClampNeg) x1) v68 ((pm_I (pm_setI v60 v64 ((pm_I v60 x0 85).toNatClampNeg) x1) x0 85).toNatClampNeg) y70) v74 ((pm_I (pm_setI (pm_setI v60 v64 ((pm_I v60 x0 85).toNatClampNeg) x1) v68 ((pm_I (pm_setI v60 v64 ((pm_I v60 x0 85).toNatClampNeg) x1) x0 85).toNatClampNeg) y70) x0 85).toNatClampNeg) s0) x2 55).bind fun v81 => if pm_kd (pm_setI (pm_setI (pm_setI v60 v64 ((pm_I v60 x0 85).toNatClampNeg) x1) v68 ((pm_I (pm_setI v60 v64 ((pm_I v60 x0 85).toNatClampNeg) x1) x0 85).toNatClampNeg) y70) v74 ((pm_I (pm_setI (pm_setI v60 v64 ((pm_I v60 x0 85).toNatClampNeg) x1) v68 ((pm_I (pm_setI v60 v64 ((pm_I v60 x0 85).toNatClampNeg) x1) x0 85).toNatClampNeg) y70) x0 85).toNatClampNeg) s0) v81 = 34 then if pm_in x3 (pm_ln (pm_setI (pm_setI (pm_setI v60 v64 ((pm_I v60 x0 85).toNatClampNeg) x1) v68 ((pm_I (pm_setI v60 v64 ((pm_I v60 x0 85).toNatClampNeg) x1) x0 85).toNatClampNeg) y70) v74 ((pm_I (pm_setI (pm_setI v60 v64 ((pm_I v60 x0 85).toNatClampNeg) x1) v68 ((pm_I (pm_setI v60 v64 ((pm_I v60 x0 85).toNatClampNeg) x1) x0 85).toNatClampNeg) y70) x0 85).toNatClampNeg) s0) v81) then pm_let (x5 + (pm_I (pm_setI (pm_setI (pm_setI v60 v64 ((pm_I v60 x0 85).toNatClampNeg) x1) v68 ((pm_I (pm_setI v60 v64 ((pm_I v60 x0 85).toNatClampNeg) x1) x0 85).toNatClampNeg) y70) v74 ((pm_I (pm_setI (pm_setI v60 v64 ((pm_I v60 x0 85).toNatClampNeg) x1) v68 ((pm_I (pm_setI v60 v64 ((pm_I v60 x0 85).toNatClampNeg) x1) x0 85).toNatClampNeg) y70) x0 85).toNatClampNeg) s0) v81 x3.toNatClampNeg)) fun y85 => if pm_kd (pm_setI (pm_setI (pm_setI v60 v64 ((pm_I v60 x0 85).toNatClampNeg) x1) v68 ((pm_I (pm_setI v60 v64 ((pm_I v60 x0 85).toNatClampNeg) x1) x0 85).toNatClampNeg) y70) v74 ((pm_I (pm_setI (pm_setI v60 v64 ((pm_I v60 x0 85).toNatClampNeg) x1) v68 ((pm_I (pm_setI v60 v64 ((pm_I v60 x0 85).toNatClampNeg) x1) x0 85).toNatClampNeg) y70) x0 85).toNatClampNeg) s0) v78 = 34 then if pm_in (pm_I (pm_setI (pm_setI (pm_setI v60 v64 ((pm_I v60 x0 85).toNatClampNeg) x1) v68 ((pm_I (pm_setI v60 v64 ((pm_I v60 x0 85).toNatClampNeg) x1) x0 85).toNatClampNeg) y70) v74 ((pm_I (pm_setI (pm_setI v60 v64 ((pm_I v60 x0 85).toNatClampNeg) x1) v68 ((pm_I (pm_setI v60 v64 ((pm_I v60 x0 85).toNatClampNeg) x1) x0 85).toNatClampNeg) y70) x0 85).toNatClampNeg) s0) x0 85) (pm_ln (pm_setI (pm_setI (pm_setI v60 v64 ((pm_I v60 x0 85).toNatClampNeg) x1) v68 ((pm_I (pm_setI v60 v64 ((pm_I v60 x0 85).toNatClampNeg) x1) x0 85).toNatClampNeg) y70) v74 ((pm_I (pm_setI (pm_setI v60 v64 ((pm_I v60 x0 85).toNatClampNeg) x1) v68 ((pm_I (pm_setI v60 v64 ((pm_I v60 x0 85).toNatClampNeg) x1) x0 85).toNatClampNeg) y70) x0 85).toNatClampNeg) s0) v78) then (pm_R (pm_setI (pm_setI (pm_setI (pm_setI v60 v64 ((pm_I v60 x0 85).toNatClampNeg) x1) v68 ((pm_I (pm_setI v60 v64 ((pm_I v60 x0 85).toNatClampNeg) x1) x0 85).toNatClampNeg) y70) v74 ((pm_I (pm_setI (pm_setI v60 v64 ((pm_I v60 x0 85).toNatClampNeg) x1) v68 ((pm_I (pm_setI v60 v64 ((pm_I v60 x0 85).toNatClampNeg) x1) x0 85).toNatClampNeg) y70) x0 85).toNatClampNeg) s0) v78 ((pm_I (pm_setI (pm_setI (pm_setI v60 v64 ((pm_I v60 x0 85).toNatClampNeg) x1) v68 ((pm_I (pm_setI v60 v64 ((pm_I v60 x0 85).toNatClampNeg) x1) x0 85).toNatClampNeg) y70) v74 ((pm_I (pm_setI (pm_setI v60 v64 ((pm_I v60 x0 85).toNatClampNeg) x1) v68 ((pm_I (pm_setI v60 v64 ((pm_I v60 x0 85).toNatClampNeg) x1) x0 85).toNatClampNeg) y70) x0 85).toNatClampNeg) s0) x0 85).toNatClampNeg) y85) x0 91).bind fun v89 => pm_let (pm_I (pm_setI (pm_setI (pm_setI (pm_setI v60 v64 ((pm_I v60 x0 85).toNatClampNeg) x1) v68 ((pm_I (pm_setI v60 v64 ((pm_I v60 x0 85).toNatClampNeg) x1) x0 85).toNatClampNeg) y70) v74 ((pm_I (pm_setI (pm_setI v60 v64 ((pm_I v60 x0 85).toNatClampNeg) x1) v68 ((pm_I (pm_setI v60 v64 ((pm_I v60 x0 85).toNatClampNeg) x1) x0 85).toNatClampNeg) y70) x0 85).toNatClampNeg) s0) v78 ((pm_I (pm_setI (pm_setI (pm_setI v60 v64 ((pm_I v60 x0 85).toNatClampNeg) x1) v68 ((pm_I (pm_setI v60 v64 ((pm_I v60 x0 85).toNatClampNeg) x1) x0 85).toNatClampNeg) y70) v74 ((pm_I (pm_setI (pm_setI v60 v64 ((pm_I v60 x0 85).toNatClampNeg) x1) v68 ((pm_I (pm_setI v60 v64 ((pm_I v60 x0 85).toNatClampNeg) x1) x0 85).toNatClampNeg) y70) x0 85).toNatClampNeg) s0) x0 85).toNatClampNeg) y85) x0 96) fun y91 => if pm_kd (pm_setI (pm_setI (pm_setI (pm_setI v60 v64 ((pm_I v60 x0 85).toNatClampNeg) x1) v68 ((pm_I (pm_setI v60 v64 ((pm_I v60 x0 85).toNatClampNeg) x1) x0 85).toNatClampNeg) y70) v74 ((pm_I (pm_setI (pm_setI v60 v64 ((pm_I v60 x0 85).toNatClampNeg) x1) v68 ((pm_I (pm_setI v60 v64 ((pm_I v60 x0 85).toNatClampNeg) x1) x0 85).toNatClampNeg) y70) x0 85).toNatClampNeg) s0) v78 ((pm_I (pm_setI (pm_setI (pm_setI v60 v64 ((pm_I v60 x0 85).toNatClampNeg) x1) v68 ((pm_I (pm_setI v60 v64 ((pm_I v60 x0 85).toNatClampNeg) x1) x0 85).toNatClampNeg) y70) v74 ((pm_I (pm_setI (pm_setI v60 v64 ((pm_I v60 x0 85).toNatClampNeg) x1) v68 ((pm_I (pm_setI v60 v64 ((pm_I v60 x0 85).toNatClampNeg) x1) x0 85).toNatClampNeg) y70) x0 85).toNatClampNeg) s0) x0 85).toNatClampNeg) y85) v89 = 34 then if pm_in (pm_I (pm_setI (pm_setI (pm_setI (pm_setI v60 v64 ((pm_I v60 x0 85).toNatClampNeg) x1) v68 ((pm_I (pm_setI v60 v64 ((pm_I v60 x0 85).toNatClampNeg) x1) x0 85).toNatClampNeg) y70) v74 ((pm_I (pm_setI (pm_setI v60 v64 ((pm_I v60 x0 85).toNatClampNeg) x1) v68 ((pm_I (pm_setI v60 v64 ((pm_I v60 x0 85).toNatClampNeg) x1) x0 85).toNatClampNeg) y70) x0 85).toNatClampNeg) s0) v78 ((pm_I (pm_setI (pm_setI (pm_setI v60 v64 ((pm_I v60 x0 85).toNatClampNeg) x1) v68 ((pm_I (pm_setI v60 v64 ((pm_I v60 x0 85).toNatClampNeg) x1) x0 85).toNatClampNeg) y70) v74 ((pm_I (pm_setI (pm_setI v60 v64 ((pm_I v60 x0 85).toNatClampNeg) x1) v68 ((pm_I (pm_setI v60 v64 ((pm_I v60 x0 85).toNatClampNeg) x1) x0 85).toNatClampNeg) y70) x0 85).toNatClampNeg) s0) x0 85).toNatClampNeg) y85) x0 85) (pm_ln (pm_setI (pm_setI (pm_setI (pm_setI v60 v64 ((pm_I v60 x0 85).toNatClampNeg) x1) v68 ((pm_I (pm_setI v60 v64 ((pm_I v60 x0 85).toNatClampNeg) x1) x0 85).toNatClampNeg) y70) v74 ((pm_I (pm_setI (pm_setI v60 v64 ((pm_I v60 x0 85).toNatClampNeg) x1) v68 ((pm_I (pm_setI v60 v64 ((pm_I v60 x0 85).toNatClampNeg) x1) x0 85).toNatClampNeg) y70) x0 85).toNatClampNeg) s0) v78 ((pm_I (pm_setI (pm_setI (pm_setI v60 v64 ((pm_I v60 x0 85).toNatClampNeg) x1) v68 ((pm_I (pm_setI v60 v64 ((pm_I v60 x0 85).toNatClampNeg) x1) x0 85).toNatClampNeg) y70) v74 ((pm_I (pm_setI (pm_setI v60 v64 ((pm_I v60 x0 85).toNatClampNeg) x1) v68 ((pm_I (pm_setI v60 v64 ((pm_I v60 x0 85).toNatClampNeg) x1) x0 85).toNatClampNeg) y70) x0 85).toNatClampNeg) s0) x0 85).toNatClampNeg) y85) v89) then pm_let ((pm_I (pm_setI (pm_setI (pm_setI (pm_setI (pm_setI v60 v64 ((pm_I v60 x0 85).toNatClampNeg) x1) v68 ((pm_I (pm_setI v60 v64 ((pm_I v60 x0 85).toNatClampNeg) x1) x0 85).toNatClampNeg) y70) v74 ((pm_I (pm_setI (pm_setI v60 v64 ((pm_I v60 x0 85).toNatClampNeg) x1) v68 ((pm_I (pm_setI v60 v64 ((pm_I v60 x0 85).toNatClampNeg) x1) x0 85).toNatClampNeg) y70) x0 85).toNatClampNeg) s0) v78 ((pm_I (pm_setI (pm_setI (pm_setI v60 v64 ((pm_I v60 x0 85).toNatClampNeg) x1) v68 ((pm_I (pm_setI v60 v64 ((pm_I v60 x0 85).toNatClampNeg) x1) x0 85).toNatClampNeg) y70) v74 ((pm_I (pm_setI (pm_setI v60 v64 ((pm_I v60 x0 85).toNatClampNeg) x1) v68 ((pm_I (pm_setI v60 v64 ((pm_I v60 x0 85).toNatClampNeg) x1) x0 85).toNatClampNeg) y70) x0 85).toNatClampNeg) s0) x0 85).toNatClampNeg) y85) v89 ((pm_I (pm_setI (pm_setI (pm_setI (pm_setI v60 v64 ((pm_I v60 x0 85).toNatClampNeg) x1) v68 ((pm_I (pm_setI v60 v64 ((pm_I v60 x0 85).toNatClampNeg) x1) x0 85).toNatClampNeg) y70) v74 ((pm_I (pm_setI (pm_setI v60 v64 ((pm_I v60 x0 85).toNatClampNeg) x1) v68 ((pm_I (pm_setI v60 v64 ((pm_I v60 x0 85).toNatClampNeg) x1) x0 85).toNatClampNeg) y70) x0 85).toNatClampNeg) s0) v78 ((pm_I (pm_setI (pm_setI (pm_setI v60 v64 ((pm_I v60 x0 85).toNatClampNeg) x1) v68 ((pm_I (pm_setI v60 v64 ((pm_I v60 x0 85).toNatClampNeg) x1) x0 85).toNatClampNeg) y70) v74 ((pm_I (pm_setI (pm_setI v60 v64 ((pm_I v60 x0 85).toNatClampNeg) x1) v68 ((pm_I (pm_setI v60 v64 ((pm_I v60 x0 85).toNatClampNeg) x1) x0 85).toNatClampNeg) y70) x0 85).toNatClampNeg) s0) x0 85).toNatClampNeg) y85) x0 85).toNatClampNeg) y91) x0 85) + 1) fun y95 => (pm_R (pm_setR (pm_setI (pm_setI (pm_setI (pm_setI (pm_setI (pm_setI v60 v64 ((pm_I v60 x0 85).toNatClampNeg) x1) v68 ((pm_I (pm_setI v60 v64 ((pm_I v60 x0 85).toNatClampNeg) x1) x0 85).toNatClampNeg) y70) v74 ((pm_I (pm_setI (pm_setI v60 v64 ((pm_I v60 x0 85).toNatClampNeg) x1) v68 ((pm_I (pm_setI v60 v64 ((pm_I v60 x0 85).toNatClampNeg) x1) x0 85).toNatClampNeg) y70) x0 85).toNatClampNeg) s0) v78 ((pm_I (pm_setI (pm_setI (pm_setI v60 v64 ((pm_I v60 x0 85).toNatClampNeg) x1) v68 ((pm_I (pm_setI v60 v64 ((pm_I v60 x0 85).toNatClampNeg) x1) x0 85).toNatClampNeg) y70) v74 ((pm_I (pm_setI (pm_setI v60 v64 ((pm_I v60 x0 85).toNatClampNeg) x1) v68 ((pm_I (pm_setI v60 v64 ((pm_I v60 x0 85).toNatClampNeg) x1) x0 85).toNatClampNeg) y70) x0 85).toNatClampNeg) s0) x0 85).toNatClampNeg) y85) v89 ((pm_I (pm_setI (pm_setI (pm_setI (pm_setI v60 v64 ((pm_I v60 x0 85).toNatClampNeg) x1) v68 ((pm_I (pm_setI v60 v64 ((pm_I v60 x0 85).toNatClampNeg) x1) x0 85).toNatClampNeg) y70) v74 ((pm_I (pm_setI (pm_setI v60 v64 ((pm_I v60 x0 85).toNatClampNeg) x1) v68 ((pm_I (pm_setI v60 v64 ((pm_I v60 x0 85).toNatClampNeg) x1) x0 85).toNatClampNeg) y70) x0 85).toNatClampNeg) s0) v78 ((pm_I (pm_setI (pm_setI (pm_setI v60 v64 ((pm_I v60 x0 85).toNatClampNeg) x1) v68 ((pm_I (pm_setI v60 v64 ((pm_I v60 x0 85).toNatClampNeg) x1) x0 85).toNatClampNeg) y70) v74 ((pm_I (pm_setI (pm_setI v60 v64 ((pm_I v60 x0 85).toNatClampNeg) x1) v68 ((pm_I (pm_setI v60 v64 ((pm_I v60 x0 85).toNatClampNeg) x1) x0 85).toNatClampNeg) y70) x0 85).toNatClampNeg) s0) x0 85).toNatClampNeg) y85) x0 85).toNatClampNeg) y91) x0 85 y95) x0 10 (some x2)) x0 39).bind fun v97 => if pm_kd (pm_setR (pm_setI (pm_setI (pm_setI (pm_setI (pm_setI (pm_setI v60 v64 ((pm_I v60 x0 85).toNatClampNeg) x1) v68 ((pm_I (pm_setI v60 v64 ((pm_I v60 x0 85).toNatClampNeg) x1) x0 85).toNatClampNeg) y70) v74 ((pm_I (pm_setI (pm_setI v60 v64 ((pm_I v60 x0 85).toNatClampNeg) x1) v68 ((pm_I (pm_setI v60 v64 ((pm_I v60 x0 85).toNatClampNeg) x1) x0 85).toNatClampNeg) y70) x0 85).toNatClampNeg) s0) v78 ((pm_I (pm_setI (pm_setI (pm_setI v60 v64 ((pm_I v60 x0 85).toNatClampNeg) x1) v68 ((pm_I (pm_setI v60 v64 ((pm_I v60 x0 85).toNatClampNeg) x1) x0 85).toNatClampNeg) y70) v74 ((pm_I (pm_setI (pm_setI v60 v64 ((pm_I v60 x0 85).toNatClampNeg) x1) v68 ((pm_I (pm_setI v60 v64 ((pm_I v60 x0 85).toNatClampNeg) x1) x0 85).toNatClampNeg) y70) x0 85).toNatClampNeg) s0) x0 85).toNatClampNeg) y85) v89 ((pm_I (pm_setI (pm_setI (pm_setI (pm_setI v60 v64 ((pm_I v60 x0 85).toNatClampNeg) x1) v68 ((pm_I (pm_setI v60 v64 ((pm_I v60 x0 85).toNatClampNeg) x1) x0 85).toNatClampNeg) y70) v74 ((pm_I (pm_setI (pm_setI v60 v64 ((pm_I v60 x0 85).toNatClampNeg) x1) v68 ((pm_I (pm_setI v60 v64 ((pm_I v60 x0 85).toNatClampNeg) x1) x0 85).toNatClampNeg) y70) x0 85).toNatClampNeg) s0) v78 ((pm_I (pm_setI (pm_setI (pm_setI v60 v64 ((pm_I v60 x0 85).toNatClampNeg) x1) v68 ((pm_I (pm_setI v60 v64 ((pm_I v60 x0 85).toNatClampNeg) x1) x0 85).toNatClampNeg) y70) v74 ((pm_I (pm_setI (pm_setI v60 v64 ((pm_I v60 x0 85).toNatClampNeg) x1) v68 ((pm_I (pm_setI v60 v64 ((pm_I v60 x0 85).toNatClampNeg) x1) x0 85).toNatClampNeg) y70) x0 85).toNatClampNeg) s0) x0 85).toNatClampNeg) y85) x0 85).toNatClampNeg) y91) x0 85 y95) x0 10 (some x2)) v97 = 34 then if pm_in x1 (pm_ln (pm_setR (pm_setI (pm_setI (pm_setI (pm_setI (pm_setI (pm_setI v60 v64 ((pm_I v60 x0 85).toNatClampNeg) x1) v68 ((pm_I (pm_setI v60 v64 ((pm_I v60 x0 85).toNatClampNeg) x1) x0 85).toNatClampNeg) y70) v74 ((pm_I (pm_setI (pm_setI v60 v64 ((pm_I v60 x0 85).toNatClampNeg) x1) v68 ((pm_I (pm_setI v60 v64 ((pm_I v60 x0 85).toNatClampNeg) x1) x0 85).toNatClampNeg) y70) x0 85).toNatClampNeg) s0) v78 ((pm_I (pm_setI (pm_setI (pm_setI v60 v64 ((pm_I v60 x0 85).toNatClampNeg) x1) v68 ((pm_I (pm_setI v60 v64 ((pm_I v60 x0 85).toNatClampNeg) x1) x0 85).toNatClampNeg) y70) v74 ((pm_I (pm_setI (pm_setI v60 v64 ((pm_I v60 x0 85).toNatClampNeg) x1) v68 ((pm_I (pm_setI v60 v64 ((pm_I v60 x0 85).toNatClampNeg) x1) x0 85).toNatClampNeg) y70) x0 85).toNatClampNeg) s0) x0 85).toNatClampNeg) y85) v89 ((pm_I (pm_setI (pm_setI (pm_setI (pm_setI v60 v64 ((pm_I v60 x0 85).toNatClampNeg) x1) v68 ((pm_I (pm_setI v60 v64 ((pm_I v60 x0 85).toNatClampNeg) x1) x0 85).toNatClampNeg) y70) v74 ((pm_I (pm_setI (pm_setI v60 v64 ((pm_I v60 x0 85).toNatClampNeg) x1) v68 ((pm_I (pm_setI v60 v64 ((pm_I v60 x0 85).toNatClampNeg) x1) x0 85).toNatClampNeg) y70) x0 85).toNatClampNeg) s0) v78 ((pm_I (pm_setI (pm_setI (pm_setI v60 v64 ((pm_I v60 x0 85).toNatClampNeg) x1) v68 ((pm_I (pm_setI v60 v64 ((pm_I v60 x0 85).toNatClampNeg) x1) x0 85).toNatClampNeg) y70) v74 ((pm_I (pm_setI (pm_setI v60 v64 ((pm_I v60 x0 85).toNatClampNeg) x1) v68 ((pm_I (pm_setI v60 v64 ((pm_I v60 x0 85).toNatClampNeg) x1) x0 85).toNatClampNeg) y70) x0 85).toNatClampNeg) s0) x0 85).toNatClampNeg) y85) x0 85).toNatClampNeg) y91) x0 85 y95) x0 10 (some x2)) v97) then pm_let (pm_I (pm_setR (pm_setI (pm_setI (pm_setI (pm_setI (pm_setI (pm_setI v60 v64 ((pm_I v60 x0 85).toNatClampNeg) x1) v68 ((pm_I (pm_setI v60 v64 ((pm_I v60 x0 85).toNatClampNeg) x1) x0 85).toNatClampNeg) y70) v74 ((pm_I (pm_setI (pm_setI v60 v64 ((pm_I v60 x0 85).toNatClampNeg) x1) v68 ((pm_I (pm_setI v60 v64 ((pm_I v60 x0 85).toNatClampNeg) x1) x0 85).toNatClampNeg) y70) x0 85).toNatClampNeg) s0) v78 ((pm_I (pm_setI (pm_setI (pm_setI v60 v64 ((pm_I v60 x0 85).toNatClampNeg) x1) v68 ((pm_I (pm_setI v60 v64 ((pm_I v60 x0 85).toNatClampNeg) x1) x0 85).toNatClampNeg) y70) v74 ((pm_I (pm_setI (pm_setI v60 v64 ((pm_I v60 x0 85).toNatClampNeg) x1) v68 ((pm_I (pm_setI v60 v64 ((pm_I v60 x0 85).toNatClampNeg) x1) x0 85).toNatClampNeg) y70) x0 85).toNatClampNeg) s0) x0 85).toNatClampNeg) y85) v89 ((pm_I (pm_setI (pm_setI (pm_setI (pm_setI v60 v64 ((pm_I v60 x0 85).toNatClampNeg) x1) v68 ((pm_I (pm_setI v60 v64 ((pm_I v60 x0 85).toNatClampNeg) x1) x0 85).toNatClampNeg) y70) v74 ((pm_I (pm_setI (pm_setI v60 v64 ((pm_I v60 x0 85).toNatClampNeg) x1) v68 ((pm_I (pm_setI v60 v64 ((pm_I v60 x0 85).toNatClampNeg) x1) x0 85).toNatClampNeg) y70) x0 85).toNatClampNeg) s0) v78 ((pm_I (pm_setI (pm_setI (pm_setI v60 v64 ((pm_I v60 x0 85).toNatClampNeg) x1) v68 ((pm_I (pm_setI v60 v64 ((pm_I v60 x0 85).toNatClampNeg) x1) x0 85).toNatClampNeg) y70) v74 ((pm_I (pm_setI (pm_setI v60 v64 ((pm_I v60 x0 85).toNatClampNeg) x1) v68 ((pm_I (pm_setI v60 v64 ((pm_I v60 x0 85).toNatClampNeg) x1) x0 85).toNatClampNeg) y70) x0 85).toNatClampNeg) s0) x0 85).toNatClampNeg) y85) x0 85).toNatClampNeg) y91) x0 85 y95) x0 10 (some x2)) v97 x1.toNatClampNeg) fun y101 => some (.inl (.inr (.inl ((x0, x1, x2, x3, x4, s0, 0, pm_setI (pm_setR (pm_setI (pm_setI (pm_setI (pm_setI (pm_setI (pm_setI v60 v64 ((pm_I v60 x0 85).toNatClampNeg) x1) v68 ((pm_I (pm_setI v60 v64 ((pm_I v60 x0 85).toNatClampNeg) x1) x0 85).toNatClampNeg) y70) v74 ((pm_I (pm_setI (pm_setI v60 v64 ((pm_I v60 x0 85).toNatClampNeg) x1) v68 ((pm_I (pm_setI v60 v64 ((pm_I v60 x0 85).toNatClampNeg) x1) x0 85).toNatClampNeg) y70) x0 85).toNatClampNeg) s0) v78 ((pm_I (pm_setI (pm_setI (pm_setI v60 v64 ((pm_I v60 x0 85).toNatClampNeg) x1) v68 ((pm_I (pm_setI v60 v64 ((pm_I v60 x0 85).toNatClampNeg) x1) x0 85).toNatClampNeg) y70) v74 ((pm_I (pm_setI (pm_setI v60 v64 ((pm_I v60 x0 85).toNatClampNeg) x1) v68 ((pm_I (pm_setI v60 v64 ((pm_I v60 x0 85).toNatClampNeg) x1) x0 85).toNatClampNeg) y70) x0 85).toNatClampNeg) s0) x0 85).toNatClampNeg) y85) v89 ((pm_I (pm_setI (pm_setI (pm_setI (pm_setI v60 v64 ((pm_I v60 x0 85).toNatClampNeg) x1) v68 ((pm_I (pm_setI v60 v64 ((pm_I v60 x0 85).toNatClampNeg) x1) x0 85).toNatClampNeg) y70) v74 ((pm_I (pm_setI (pm_setI v60 v64 ((pm_I v60 x0 85).toNatClampNeg) x1) v68 ((pm_I (pm_setI v60 v64 ((pm_I v60 x0 85).toNatClampNeg) x1) x0 85).toNatClampNeg) y70) x0 85).toNatClampNeg) s0) v78 ((pm_I (pm_setI (pm_setI (pm_setI v60 v64 ((pm_I v60 x0 85).toNatClampNeg) x1) v68 ((pm_I (pm_setI v60 v64 ((pm_I v60 x0 85).toNatClampNeg) x1) x0 85).toNatClampNeg) y70) v74 ((pm_I (pm_setI (pm_setI v60 v64 ((pm_I v60 x0 85).toNatClampNeg) x1) v68 ((pm_I (pm_setI v60 v64 ((pm_I v60 x0 85).toNatClampNeg) x1) x0 85).toNatClampNeg) y70) x0 85).toNatClampNeg) s0) x0 85).toNatClampNeg) y85) x0 85).toNatClampNeg) y91) x0 85 y95) x0 10 (some x2)) x0 95 y101))))) else none else none else none else none else none else none else none else none else none else none else none else none else none else none else none) else ((pm_R v60 x0 90).bind fun v103 => pm_let (pm_I v60 x0 93) fun y105 => if pm_kd v60 v103 = 34 then if pm_in ((pm_I v60 x0 85) - 1) (pm_ln v60 v103) then (pm_R (pm_setI v60 v103 (((pm_I v60 x0 85) - 1).toNatClampNeg) y105) x0 86).bind fun v109 => if pm_kd (pm_setI v60 v103 (((pm_I v60 x0 85) - 1).toNatClampNeg) y105) v109 = 34 then if pm_in (pm_I (pm_setI v60 v103 (((pm_I v60 x0 85) - 1).toNatClampNeg) y105) x0 85) (pm_ln (pm_setI v60 v103 (((pm_I v60 x0 85) - 1).toNatClampNeg) y105) v109) then (pm_R (pm_setI (pm_setI v60 v103 (((pm_I v60 x0 85) - 1).toNatClampNeg) y105) v109 ((pm_I (pm_setI v60 v103 (((pm_I v60 x0 85) - 1).toNatClampNeg) y105) x0 85).toNatClampNeg) x1) x0 87).bind fun v113 => pm_let (pm_I (pm_setI (pm_setI v60 v103 (((pm_I v60 x0 85) - 1).toNatClampNeg) y105) v109 ((pm_I (pm_setI v60 v103 (((pm_I v60 x0 85) - 1).toNatClampNeg) y105) x0 85).toNatClampNeg) x1) x0 94) fun y115 => if pm_kd (pm_setI (pm_setI v60 v103 (((pm_I v60 x0 85) - 1).toNatClampNeg) y105) v109 ((pm_I (pm_setI v60 v103 (((pm_I v60 x0 85) - 1).toNatClampNeg) y105) x0 85).toNatClampNeg) x1) v113 = 34 then if pm_in (pm_I (pm_setI (pm_setI v60 v103 (((pm_I v60 x0 85) - 1).toNatClampNeg) y105) v109 ((pm_I (pm_setI v60 v103 (((pm_I v60 x0 85) - 1).toNatClampNeg) y105) x0 85).toNatClampNeg) x1) x0 85) (pm_ln (pm_setI (pm_setI v60 v103 (((pm_I v60 x0 85) - 1).toNatClampNeg) y105) v109 ((pm_I (pm_setI v60 v103 (((pm_I v60 x0 85) - 1).toNatClampNeg) y105) x0 85).toNatClampNeg) x1) v113) then (pm_R (pm_setI (pm_setI (pm_setI v60 v103 (((pm_I v60 x0 85) - 1).toNatClampNeg) y105) v109 ((pm_I (pm_setI v60 v103 (((pm_I v60 x0 85) - 1).toNatClampNeg) y105) x0 85).toNatClampNeg) x1) v113 ((pm_I (pm_setI (pm_setI v60 v103 (((pm_I v60 x0 85) - 1).toNatClampNeg) y105) v109 ((pm_I (pm_setI v60 v103 (((pm_I v60 x0 85) - 1).toNatClampNeg) y105) x0 85).toNatClampNeg) x1) x0 85).toNatClampNeg) y115) x0 88).bind fun v119 => if pm_kd (pm_setI (pm_setI (pm_setI v60 v103 (((pm_I v60 x0 85) - 1).toNatClampNeg) y105) v109 ((pm_I (pm_setI v60 v103 (((pm_I v60 x0 85) - 1).toNatClampNeg) y105) x0 85).toNatClampNeg) x1) v113 ((pm_I (pm_setI (pm_setI v60 v103 (((pm_I v60 x0 85) - 1).toNatClampNeg) y105) v109 ((pm_I (pm_setI v60 v103 (((pm_I v60 x0 85) - 1).toNatClampNeg) y105) x0 85).toNatClampNeg) x1) x0 85).toNatClampNeg) y115) v119 = 34 then if pm_in (pm_I (pm_setI (pm_setI (pm_setI v60 v103 (((pm_I v60 x0 85) - 1).toNatClampNeg) y105) v109 ((pm_I (pm_setI v60 v103 (((pm_I v60 x0 85) - 1).toNatClampNeg) y105) x0 85).toNatClampNeg) x1) v113 ((pm_I (pm_setI (pm_setI v60 v103 (((pm_I v60 x0 85) - 1).toNatClampNeg) y105) v109 ((pm_I (pm_setI v60 v103 (((pm_I v60 x0 85) - 1).toNatClampNeg) y105) x0 85).toNatClampNeg) x1) x0 85).toNatClampNeg) y115) x0 85) (pm_ln (pm_setI (pm_setI (pm_setI v60 v103 (((pm_I v60 x0 85) - 1).toNatClampNeg) y105) v109 ((pm_I (pm_setI v60 v103 (((pm_I v60 x0 85) - 1).toNatClampNeg) y105) x0 85).toNatClampNeg) x1) v113 ((pm_I (pm_setI (pm_setI v60 v103 (((pm_I v60 x0 85) - 1).toNatClampNeg) y105) v109 ((pm_I (pm_setI v60 v103 (((pm_I v60 x0 85) - 1).toNatClampNeg) y105) x0 85).toNatClampNeg) x1) x0 85).toNatClampNeg) y115) v119) then (pm_R (pm_setI (pm_setI (pm_setI (pm_setI v60 v103 (((pm_I v60 x0 85) - 1).toNatClampNeg) y105) v109 ((pm_I (pm_setI v60 v103 (((pm_I v60 x0 85) - 1).toNatClampNeg) y105) x0 85).toNatClampNeg) x1) v113 ((pm_I (pm_setI (pm_setI v60 v103 (((pm_I v60 x0 85) - 1).toNatClampNeg) y105) v109 ((pm_I (pm_setI v60 v103 (((pm_I v60 x0 85) - 1).toNatClampNeg) y105) x0 85).toNatClampNeg) x1) x0 85).toNatClampNeg) y115) v119 ((pm_I (pm_setI (pm_setI (pm_setI v60 v103 (((pm_I v60 x0 85) - 1).toNatClampNeg) y105) v109 ((pm_I (pm_setI v60 v103 (((pm_I v60 x0 85) - 1).toNatClampNeg) y105) x0 85).toNatClampNeg) x1) v113 ((pm_I (pm_setI (pm_setI v60 v103 (((pm_I v60 x0 85) - 1).toNatClampNeg) y105) v109 ((pm_I (pm_setI v60 v103 (((pm_I v60 x0 85) - 1).toNatClampNeg) y105) x0 85).toNatClampNeg) x1) x0 85).toNatClampNeg) y115) x0 85).toNatClampNeg) s0) x0 89).bind fun v123 => if pm_kd (pm_setI (pm_setI (pm_setI (pm_setI v60 v103 (((pm_I v60 x0 85) - 1).toNatClampNeg) y105) v109 ((pm_I (pm_setI v60 v103 (((pm_I v60 x0 85) - 1).toNatClampNeg) y105) x0 85).toNatClampNeg) x1) v113 ((pm_I (pm_setI (pm_setI v60 v103 (((pm_I v60 x0 85) - 1).toNatClampNeg) y105) v109 ((pm_I (pm_setI v60 v103 (((pm_I v60 x0 85) - 1).toNatClampNeg) y105) x0 85).toNatClampNeg) x1) x0 85).toNatClampNeg) y115) v119 ((pm_I (pm_setI (pm_setI (pm_setI v60 v103 (((pm_I v60 x0 85) - 1).toNatClampNeg) y105) v109 ((pm_I (pm_setI v60 v103 (((pm_I v60 x0 85) - 1).toNatClampNeg) y105) x0 85).toNatClampNeg) x1) v113 ((pm_I (pm_setI (pm_setI v60 v103 (((pm_I v60 x0 85) - 1).toNatClampNeg) y105) v109 ((pm_I (pm_setI v60 v103 (((pm_I v60 x0 85) - 1).toNatClampNeg) y105) x0 85).toNatClampNeg) x1) x0 85).toNatClampNeg) y115) x0 85).toNatClampNeg) s0) x2 = 14 then (pm_R (pm_setI (pm_setI (pm_setI (pm_setI v60 v103 (((pm_I v60 x0 85) - 1).toNatClampNeg) y105) v109 ((pm_I (pm_setI v60 v103 (((pm_I v60 x0 85) - 1).toNatClampNeg) y105) x0 85).toNatClampNeg) x1) v113 ((pm_I (pm_setI (pm_setI v60 v103 (((pm_I v60 x0 85) - 1).toNatClampNeg) y105) v109 ((pm_I (pm_setI v60 v103 (((pm_I v60 x0 85) - 1).toNatClampNeg) y105) x0 85).toNatClampNeg) x1) x0 85).toNatClampNeg) y115) v119 ((pm_I (pm_setI (pm_setI (pm_setI v60 v103 (((pm_I v60 x0 85) - 1).toNatClampNeg) y105) v109 ((pm_I (pm_setI v60 v103 (((pm_I v60 x0 85) - 1).toNatClampNeg) y105) x0 85).toNatClampNeg) x1) v113 ((pm_I (pm_setI (pm_setI v60 v103 (((pm_I v60 x0 85) - 1).toNatClampNeg) y105) v109 ((pm_I (pm_setI v60 v103 (((pm_I v60 x0 85) - 1).toNatClampNeg) y105) x0 85).toNatClampNeg) x1) x0 85).toNatClampNeg) y115) x0 85).toNatClampNeg) s0) x2 55).bind fun v126 => if pm_kd (pm_setI (pm_setI (pm_setI (pm_setI v60 v103 (((pm_I v60 x0 85) - 1).toNatClampNeg) y105) v109 ((pm_I (pm_setI v60 v103 (((pm_I v60 x0 85) - 1).toNatClampNeg) y105) x0 85).toNatClampNeg) x1) v113 ((pm_I (pm_setI (pm_setI v60 v103 (((pm_I v60 x0 85) - 1).toNatClampNeg) y105) v109 ((pm_I (pm_setI v60 v103 (((pm_I v60 x0 85) - 1).toNatClampNeg) y105) x0 85).toNatClampNeg) x1) x0 85).toNatClampNeg) y115) v119 ((pm_I (pm_setI (pm_setI (pm_setI v60 v103 (((pm_I v60 x0 85) - 1).toNatClampNeg) y105) v109 ((pm_I (pm_setI v60 v103 (((pm_I v60 x0 85) - 1).toNatClampNeg) y105) x0 85).toNatClampNeg) x1) v113 ((pm_I (pm_setI (pm_setI v60 v103 (((pm_I v60 x0 85) - 1).toNatClampNeg) y105) v109 ((pm_I (pm_setI v60 v103 (((pm_I v60 x0 85) - 1).toNatClampNeg) y105) x0 85).toNatClampNeg) x1) x0 85).toNatClampNeg) y115) x0 85).toNatClampNeg) s0) v126 = 34 then if pm_in x3 (pm_ln (pm_setI (pm_setI (pm_setI (pm_setI v60 v103 (((pm_I v60 x0 85) - 1).toNatClampNeg) y105) v109 ((pm_I (pm_setI v60 v103 (((pm_I v60 x0 85) - 1).toNatClampNeg) y105) x0 85).toNatClampNeg) x1) v113 ((pm_I (pm_setI (pm_setI v60 v103 (((pm_I v60 x0 85) - 1).toNatClampNeg) y105) v109 ((pm_I (pm_setI v60 v103 (((pm_I v60 x0 85) - 1).toNatClampNeg) y105) x0 85).toNatClampNeg) x1) x0 85).toNatClampNeg) y115) v119 ((pm_I (pm_setI (pm_setI (pm_setI v60 v103 (((pm_I v60 x0 85) - 1).toNatClampNeg) y105) v109 ((pm_I (pm_setI v60 v103 (((pm_I v60 x0 85) - 1).toNatClampNeg) y105) x0 85).toNatClampNeg) x1) v113 ((pm_I (pm_setI (pm_setI v60 v103 (((pm_I v60 x0 85) - 1).toNatClampNeg) y105) v109 ((pm_I (pm_setI v60 v103 (((pm_I v60 x0 85) - 1).toNatClampNeg) y105) x0 85).toNatClampNeg) x1) x0 85).toNatClampNeg) y115) x0 85).toNatClampNeg) s0) v126) then pm_let (x5 + (pm_I (pm_setI (pm_setI (pm_setI (pm_setI v60 v103 (((pm_I v60 x0 85) - 1).toNatClampNeg) y105) v109 ((pm_I (pm_setI v60 v103 (((pm_I v60 x0 85) - 1).toNatClampNeg) y105) x0 85).toNatClampNeg) x1) v113 ((pm_I (pm_setI (pm_setI v60 v103 (((pm_I v60 x0 85) - 1).toNatClampNeg) y105) v109 ((pm_I (pm_setI v60 v103 (((pm_I v60 x0 85) - 1).toNatClampNeg) y105) x0 85).toNatClampNeg) x1) x0 85).toNatClampNeg) y115) v119 ((pm_I (pm_setI (pm_setI (pm_setI v60 v103 (((pm_I v60 x0 85) - 1).toNatClampNeg) y105) v109 ((pm_I (pm_setI v60 v103 (((pm_I v60 x0 85) - 1).toNatClampNeg) y105) x0 85).toNatClampNeg) x1) v113 ((pm_I (pm_setI (pm_setI v60 v103 (((pm_I v60 x0 85) - 1).toNatClampNeg) y105) v109 ((pm_I (pm_setI v60 v103 (((pm_I v60 x0 85) - 1).toNatClampNeg) y105) x0 85).toNatClampNeg) x1) x0 85).toNatClampNeg) y115) x0 85).toNatClampNeg) s0) v126 x3.toNatClampNeg)) fun y130 => if pm_kd (pm_setI (pm_setI (pm_setI (pm_setI v60 v103 (((pm_I v60 x0 85) - 1).toNatClampNeg) y105) v109 ((pm_I (pm_setI v60 v103 (((pm_I v60 x0 85) - 1).toNatClampNeg) y105) x0 85).toNatClampNeg) x1) v113 ((pm_I (pm_setI (pm_setI v60 v103 (((pm_I v60 x0 85) - 1).toNatClampNeg) y105) v109 ((pm_I (pm_setI v60 v103 (((pm_I v60 x0 85) - 1).toNatClampNeg) y105) x0 85).toNatClampNeg) x1) x0 85).toNatClampNeg) y115) v119 ((pm_I (pm_setI (pm_setI (pm_setI v60 v103 (((pm_I v60 x0 85) - 1).toNatClampNeg) y105) v109 ((pm_I (pm_setI v60 v103 (((pm_I v60 x0 85) - 1).toNatClampNeg) y105) x0 85).toNatClampNeg) x1) v113 ((pm_I (pm_setI (pm_setI v60 v103 (((pm_I v60 x0 85) - 1).toNatClampNeg) y105) v109 ((pm_I (pm_setI v60 v103 (((pm_I v60 x0 85) - 1).toNatClampNeg) y105) x0 85).toNatClampNeg) x1) x0 85).toNatClampNeg) y115) x0 85).toNatClampNeg) s0) v123 = 34 then if pm_in (pm_I (pm_setI (pm_setI (pm_setI (pm_setI v60 v103 (((pm_I v60 x0 85) - 1).toNatClampNeg) y105) v109 ((pm_I (pm_setI v60 v103 (((pm_I v60 x0 85) - 1).toNatClampNeg) y105) x0 85).toNatClampNeg) x1) v113 ((pm_I (pm_setI (pm_setI v60 v103 (((pm_I v60 x0 85) - 1).toNatClampNeg) y105) v109 ((pm_I (pm_setI v60 v103 (((pm_I v60 x0 85) - 1).toNatClampNeg) y105) x0 85).toNatClampNeg) x1) x0 85).toNatClampNeg) y115) v119 ((pm_I (pm_setI (pm_setI (pm_setI v60 v103 (((pm_I v60 x0 85) - 1).toNatClampNeg) y105) v109 ((pm_I (pm_setI v60 v103 (((pm_I v60 x0 85) - 1).toNatClampNeg) y105) x0 85).toNatClampNeg) x1) v113 ((pm_I (pm_setI (pm_setI v60 v103 (((pm_I v60 x0 85) - 1).toNatClampNeg) y105) v109 ((pm_I (pm_setI v60 v103 (((pm_I v60 x0 85) - 1).toNatClampNeg) y105) x0 85).toNatClampNeg) x1) x0 85).toNatClampNeg) y115) x0 85).toNatClampNeg) s0) x0 85) (pm_ln (pm_setI (pm_setI (pm_setI (pm_setI v60 v103 (((pm_I v60 x0 85) - 1).toNatClampNeg) y105) v109 ((pm_I (pm_setI v60 v103 (((pm_I v60 x0 85) - 1).toNatClampNeg) y105) x0 85).toNatClampNeg) x1) v113 ((pm_I (pm_setI (pm_setI v60 v103 (((pm_I v60 x0 85) - 1).toNatClampNeg) y105) v109 ((pm_I (pm_setI v60 v103 (((pm_I v60 x0 85) - 1).toNatClampNeg) y105) x0 85).toNatClampNeg) x1) x0 85).toNatClampNeg) y115) v119 ((pm_I (pm_setI (pm_setI (pm_setI v60 v103 (((pm_I v60 x0 85) - 1).toNatClampNeg) y105) v109 ((pm_I (pm_setI v60 v103 (((pm_I v60 x0 85) - 1).toNatClampNeg) y105) x0 85).toNatClampNeg) x1) v113 ((pm_I (pm_setI (pm_setI v60 v103 (((pm_I v60 x0 85) - 1).toNatClampNeg) y105) v109 ((pm_I (pm_setI v60 v103 (((pm_I v60 x0 85) - 1).toNatClampNeg) y105) x0 85).toNatClampNeg) x1) x0 85).toNatClampNeg) y115) x0 85).toNatClampNeg) s0) v123) then (pm_R (pm_setI (pm_setI (pm_setI (pm_setI (pm_setI v60 v103 (((pm_I v60 x0 85) - 1).toNatClampNeg) y105) v109 ((pm_I (pm_setI v60 v103 (((pm_I v60 x0 85) - 1).toNatClampNeg) y105) x0 85).toNatClampNeg) x1) v113 ((pm_I (pm_setI (pm_setI v60 v103 (((pm_I v60 x0 85) - 1).toNatClampNeg) y105) v109 ((pm_I (pm_setI v60 v103 (((pm_I v60 x0 85) - 1).toNatClampNeg) y105) x0 85).toNatClampNeg) x1) x0 85).toNatClampNeg) y115) v119 ((pm_I (pm_setI (pm_setI (pm_setI v60 v103 (((pm_I v60 x0 85) - 1).toNatClampNeg) y105) v109 ((pm_I (pm_setI v60 v103 (((pm_I v60 x0 85) - 1).toNatClampNeg) y105) x0 85).toNatClampNeg) x1) v113 ((pm_I (pm_setI (pm_setI v60 v103 (((pm_I v60 x0 85) - 1).toNatClampNeg) y105) v109 ((pm_I (pm_setI v60 v103 (((pm_I v60 x0 85) - 1).toNatClampNeg) y105) x0 85).toNatClampNeg) x1) x0 85).toNatClampNeg) y115) x0 85).toNatClampNeg) s0) v123 ((pm_I (pm_setI (pm_setI (pm_setI (pm_setI v60 v103 (((pm_I v60 x0 85) - 1).toNatClampNeg) y105) v109 ((pm_I (pm_setI v60 v103 (((pm_I v60 x0 85) - 1).toNatClampNeg) y105) x0 85).toNatClampNeg) x1) v113 ((pm_I (pm_setI (pm_setI v60 v103 (((pm_I v60 x0 85) - 1).toNatClampNeg) y105) v109 ((pm_I (pm_setI v60 v103 (((pm_I v60 x0 85) - 1).toNatClampNeg) y105) x0 85).toNatClampNeg) x1) x0 85).toNatClampNeg) y115) v119 ((pm_I (pm_setI (pm_setI (pm_setI v60 v103 (((pm_I v60 x0 85) - 1).toNatClampNeg) y105) v109 ((pm_I (pm_setI v60 v103 (((pm_I v60 x0 85) - 1).toNatClampNeg) y105) x0 85).toNatClampNeg) x1) v113 ((pm_I (pm_setI (pm_setI v60 v103 (((pm_I v60 x0 85) - 1).toNatClampNeg) y105) v109 ((pm_I (pm_setI v60 v103 (((pm_I v60 x0 85) - 1).toNatClampNeg) y105) x0 85).toNatClampNeg) x1) x0 85).toNatClampNeg) y115) x0 85).toNatClampNeg) s0) x0 85).toNatClampNeg) y130) x0 91).bind fun v134 => pm_let (pm_I (pm_setI (pm_setI (pm_setI (pm_setI (pm_setI v60 v103 (((pm_I v60 x0 85) - 1).toNatClampNeg) y105) v109 ((pm_I (pm_setI v60 v103 (((pm_I v60 x0 85) - 1).toNatClampNeg) y105) x0 85).toNatClampNeg) x1) v113 ((pm_I (pm_setI (pm_setI v60 v103 (((pm_I v60 x0 85) - 1).toNatClampNeg) y105) v109 ((pm_I (pm_setI v60 v103 (((pm_I v60 x0 85) - 1).toNatClampNeg) y105) x0 85).toNatClampNeg) x1) x0 85).toNatClampNeg) y115) v119 ((pm_I (pm_setI (pm_setI (pm_setI v60 v103 (((pm_I v60 x0 85) - 1).toNatClampNeg) y105) v109 ((pm_I (pm_setI v60 v103 (((pm_I v60 x0 85) - 1).toNatClampNeg) y105) x0 85).toNatClampNeg) x1) v113 ((pm_I (pm_setI (pm_setI v60 v103 (((pm_I v60 x0 85) - 1).toNatClampNeg) y105) v109 ((pm_I (pm_setI v60 v103 (((pm_I v60 x0 85) - 1).toNatClampNeg) y105) x0 85).toNatClampNeg) x1) x0 85).toNatClampNeg) y115) x0 85).toNatClampNeg) s0) v123 ((pm_I (pm_setI (pm_setI (pm_setI (pm_setI v60 v103 (((pm_I v60 x0 85) - 1).toNatClampNeg) y105) v109 ((pm_I (pm_setI v60 v103 (((pm_I v60 x0 85) - 1).toNatClampNeg) y105) x0 85).toNatClampNeg) x1) v113 ((pm_I (pm_setI (pm_setI v60 v103 (((pm_I v60 x0 85) - 1).toNatClampNeg) y105) v109 ((pm_I (pm_setI v60 v103 (((pm_I v60 x0 85) - 1).toNatClampNeg) y105) x0 85).toNatClampNeg) x1) x0 85).toNatClampNeg) y115) v119 ((pm_I (pm_setI (pm_setI (pm_setI v60 v103 (((pm_I v60 x0 85) - 1).toNatClampNeg) y105) v109 ((pm_I (pm_setI v60 v103 (((pm_I v60 x0 85) - 1).toNatClampNeg) y105) x0 85).toNatClampNeg) x1) v113 ((pm_I (pm_setI (pm_setI v60 v103 (((pm_I v60 x0 85) - 1).toNatClampNeg) y105) v109 ((pm_I (pm_setI v60 v103 (((pm_I v60 x0 85) - 1).toNatClampNeg) y105) x0 85).toNatClampNeg) x1) x0 85).toNatClampNeg) y115) x0 85).toNatClampNeg) s0) x0 85).toNatClampNeg) y130) x0 96) fun y136 => if pm_kd (pm_setI (pm_setI (pm_setI (pm_setI (pm_setI v60 v103 (((pm_I v60 x0 85) - 1).toNatClampNeg) y105) v109 ((pm_I (pm_setI v60 v103 (((pm_I v60 x0 85) - 1).toNatClampNeg) y105) x0 85).toNatClampNeg) x1) v113 ((pm_I (pm_setI (pm_setI v60 v103 (((pm_I v60 x0 85) - 1).toNatClampNeg) y105) v109 ((pm_I (pm_setI v60 v103 (((pm_I v60 x0 85) - 1).toNatClampNeg) y105) x0 85).toNatClampNeg) x1) x0 85).toNatClampNeg) y115) v119 ((pm_I (pm_setI (pm_setI (pm_setI v60 v103 (((pm_I v60 x0 85) - 1).toNatClampNeg) y105) v109 ((pm_I (pm_setI v60 v103 (((pm_I v60 x0 85) - 1).toNatClampNeg) y105) x0 85).toNatClampNeg) x1) v113 ((pm_I (pm_setI (pm_setI v60 v103 (((pm_I v60 x0 85) - 1).toNatClampNeg) y105) v109 ((pm_I (pm_setI v60 v103 (((pm_I v60 x0 85) - 1).toNatClampNeg) y105) x0 85).toNatClampNeg) x1) x0 85).toNatClampNeg) y115) x0 85).toNatClampNeg) s0) v123 ((pm_I (pm_setI (pm_setI (pm_setI (pm_setI v60 v103 (((pm_I v60 x0 85) - 1).toNatClampNeg) y105) v109 ((pm_I (pm_setI v60 v103 (((pm_I v60 x0 85) - 1).toNatClampNeg) y105) x0 85).toNatClampNeg) x1) v113 ((pm_I (pm_setI (pm_setI v60 v103 (((pm_I v60 x0 85) - 1).toNatClampNeg) y105) v109 ((pm_I (pm_setI v60 v103 (((pm_I v60 x0 85) - 1).toNatClampNeg) y105) x0 85).toNatClampNeg) x1) x0 85).toNatClampNeg) y115) v119 ((pm_I (pm_setI (pm_setI (pm_setI v60 v103 (((pm_I v60 x0 85) - 1).toNatClampNeg) y105) v109 ((pm_I (pm_setI v60 v103 (((pm_I v60 x0 85) - 1).toNatClampNeg) y105) x0 85).toNatClampNeg) x1) v113 ((pm_I (pm_setI (pm_setI v60 v103 (((pm_I v60 x0 85) - 1).toNatClampNeg) y105) v109 ((pm_I (pm_setI v60 v103 (((pm_I v60 x0 85) - 1).toNatClampNeg) y105) x0 85).toNatClampNeg) x1) x0 85).toNatClampNeg) y115) x0 85).toNatClampNeg) s0) x0 85).toNatClampNeg) y130) v134 = 34 then if pm_in (pm_I (pm_setI (pm_setI (pm_setI (pm_setI (pm_setI v60 v103 (((pm_I v60 x0 85) - 1).toNatClampNeg) y105) v109 ((pm_I (pm_setI v60 v103 (((pm_I v60 x0 85) - 1).toNatClampNeg) y105) x0 85).toNatClampNeg) x1) v113 ((pm_I (pm_setI (pm_setI v60 v103 (((pm_I v60 x0 85) - 1).toNatClampNeg) y105) v109 ((pm_I (pm_setI v60 v103 (((pm_I v60 x0 85) - 1).toNatClampNeg) y105) x0 85).toNatClampNeg) x1) x0 85).toNatClampNeg) y115) v119 ((pm_I (pm_setI (pm_setI (pm_setI v60 v103 (((pm_I v60 x0 85) - 1).toNatClampNeg) y105) v109 ((pm_I (pm_setI v60 v103 (((pm_I v60 x0 85) - 1).toNatClampNeg) y105) x0 85).toNatClampNeg) x1) v113 ((pm_I (pm_setI (pm_setI v60 v103 (((pm_I v60 x0 85) - 1).toNatClampNeg) y105) v109 ((pm_I (pm_setI v60 v103 (((pm_I v60 x0 85) - 1).toNatClampNeg) y105) x0 85).toNatClampNeg) x1) x0 85).toNatClampNeg) y115) x0 85).toNatClampNeg) s0) v123 ((pm_I (pm_setI (pm_setI (pm_setI (pm_setI v60 v103 (((pm_I v60 x0 85) - 1).toNatClampNeg) y105) v109 ((pm_I (pm_setI v60 v103 (((pm_I v60 x0 85) - 1).toNatClampNeg) y105) x0 85).toNatClampNeg) x1) v113 ((pm_I (pm_setI (pm_setI v60 v103 (((pm_I v60 x0 85) - 1).toNatClampNeg) y105) v109 ((pm_I (pm_setI v60 v103 (((pm_I v60 x0 85) - 1).toNatClampNeg) y105) x0 85).toNatClampNeg) x1) x0 85).toNatClampNeg) y115) v119 ((pm_I (pm_setI (pm_setI (pm_setI v60 v103 (((pm_I v60 x0 85) - 1).toNatClampNeg) y105) v109 ((pm_I (pm_setI v60 v103 (((pm_I v60 x0 85) - 1).toNatClampNeg) y105) x0 85).toNatClampNeg) x1) v113 ((pm_I (pm_setI (pm_setI v60 v103 (((pm_I v60 x0 85) - 1).toNatClampNeg) y105) v109 ((pm_I (pm_setI v60 v103 (((pm_I v60 x0 85) - 1).toNatClampNeg) y105) x0 85).toNatClampNeg) x1) x0 85).toNatClampNeg) y115) x0 85).toNatClampNeg) s0) x0 85).toNatClampNeg) y130) x0 85) (pm_ln (pm_setI (pm_setI (pm_setI (pm_setI (pm_setI v60 v103 (((pm_I v60 x0 85) - 1).toNatClampNeg) y105) v109 ((pm_I (pm_setI v60 v103 (((pm_I v60 x0 85) - 1).toNatClampNeg) y105) x0 85).toNatClampNeg) x1) v113 ((pm_I (pm_setI (pm_setI v60 v103 (((pm_I v60 x0 85) - 1).toNatClampNeg) y105) v109 ((pm_I (pm_setI v60 v103 (((pm_I v60 x0 85) - 1).toNatClampNeg) y105) x0 85).toNatClampNeg) x1) x0 85).toNatClampNeg) y115) v119 ((pm_I (pm_setI (pm_setI (pm_setI v60 v103 (((pm_I v60 x0 85) - 1).toNatClampNeg) y105) v109 ((pm_I (pm_setI v60 v103 (((pm_I v60 x0 85) - 1).toNatClampNeg) y105) x0 85).toNatClampNeg) x1) v113 ((pm_I (pm_setI (pm_setI v60 v103 (((pm_I v60 x0 85) - 1).toNatClampNeg) y105) v109 ((pm_I (pm_setI v60 v103 (((pm_I v60 x0 85) - 1).toNatClampNeg) y105) x0 85).toNatClampNeg) x1) x0 85).toNatClampNeg) y115) x0 85).toNatClampNeg) s0) v123 ((pm_I (pm_setI (pm_setI (pm_setI (pm_setI v60 v103 (((pm_I v60 x0 85) - 1).toNatClampNeg) y105) v109 ((pm_I (pm_setI v60 v103 (((pm_I v60 x0 85) - 1).toNatClampNeg) y105) x0 85).toNatClampNeg) x1) v113 ((pm_I (pm_setI (pm_setI v60 v103 (((pm_I v60 x0 85) - 1).toNatClampNeg) y105) v109 ((pm_I (pm_setI v60 v103 (((pm_I v60 x0 85) - 1).toNatClampNeg) y105) x0 85).toNatClampNeg) x1) x0 85).toNatClampNeg) y115) v119 ((pm_I (pm_setI (pm_setI (pm_setI v60 v103 (((pm_I v60 x0 85) - 1).toNatClampNeg) y105) v109 ((pm_I (pm_setI v60 v103 (((pm_I v60 x0 85) - 1).toNatClampNeg) y105) x0 85).toNatClampNeg) x1) v113 ((pm_I (pm_setI (pm_setI v60 v103 (((pm_I v60 x0 85) - 1).toNatClampNeg) y105) v109 ((pm_I (pm_setI v60 v103 (((pm_I v60 x0 85) - 1).toNatClampNeg) y105) x0 85).toNatClampNeg) x1) x0 85).toNatClampNeg) y115) x0 85).toNatClampNeg) s0) x0 85).toNatClampNeg) y130) v134) then pm_let ((pm_I (pm_setI (pm_setI (pm_setI (pm_setI (pm_setI (pm_setI v60 v103 (((pm_I v60 x0 85) - 1).toNatClampNeg) y105) v109 ((pm_I (pm_setI v60 v103 (((pm_I v60 x0 85) - 1).toNatClampNeg) y105) x0 85).toNatClampNeg) x1) v113 ((pm_I (pm_setI (pm_setI v60 v103 (((pm_I v60 x0 85) - 1).toNatClampNeg) y105) v109 ((pm_I (pm_setI v60 v103 (((pm_I v60 x0 85) - 1).toNatClampNeg) y105) x0 85).toNatClampNeg) x1) x0 85).toNatClampNeg) y115) v119 ((pm_I (pm_setI (pm_setI (pm_setI v60 v103 (((pm_I v60 x0 85) - 1).toNatClampNeg) y105) v109 ((pm_I (pm_setI v60 v103 (((pm_I v60 x0 85) - 1).toNatClampNeg) y105) x0 85).toNatClampNeg) x1) v113 ((pm_I (pm_setI (pm_setI v60 v103 (((pm_I v60 x0 85) - 1).toNatClampNeg) y105) v109 ((pm_I (pm_setI v60 v103 (((pm_I v60 x0 85) - 1).toNatClampNeg) y105) x0 85).toNatClampNeg) x1) x0 85).toNatClampNeg) y115) x0 85).toNatClampNeg) s0) v123 ((pm_I (pm_setI (pm_setI (pm_setI (pm_setI v60 v103 (((pm_I v60 x0 85) - 1).toNatClampNeg) y105) v109 ((pm_I (pm_setI v60 v103 (((pm_I v60 x0 85) - 1).toNatClampNeg) y105) x0 85).toNatClampNeg) x1) v113 ((pm_I (pm_setI (pm_setI v60 v103 (((pm_I v60 x0 85) - 1).toNatClampNeg) y105) v109 ((pm_I (pm_setI v60 v103 (((pm_I v60 x0 85) - 1).toNatClampNeg) y105) x0 85).toNatClampNeg) x1) x0 85).toNatClampNeg) y115) v119 ((pm_I (pm_setI (pm_setI (pm_setI v60 v103 (((pm_I v60 x0 85) - 1).toNatClampNeg) y105) v109 ((pm_I (pm_setI v60 v103 (((pm_I v60 x0 85) - 1).toNatClampNeg) y105) x0 85).toNatClampNeg) x1) v113 ((pm_I (pm_setI (pm_setI v60 v103 (((pm_I v60 x0 85) - 1).toNatClampNeg) y105) v109 ((pm_I (pm_setI v60 v103 (((pm_I v60 x0 85) - 1).toNatClampNeg) y105) x0 85).toNatClampNeg) x1) x0 85).toNatClampNeg) y115) x0 85).toNatClampNeg) s0) x0 85).toNatClampNeg) y130) v134 ((pm_I (pm_setI (pm_setI (pm_setI (pm_setI (pm_setI v60 v103 (((pm_I v60 x0 85) - 1).toNatClampNeg) y105) v109 ((pm_I (pm_setI v60 v103 (((pm_I v60 x0 85) - 1).toNatClampNeg) y105) x0 85).toNatClampNeg) x1) v113 ((pm_I (pm_setI (pm_setI v60 v103 (((pm_I v60 x0 85) - 1).toNatClampNeg) y105) v109 ((pm_I (pm_setI v60 v103 (((pm_I v60 x0 85) - 1).toNatClampNeg) y105) x0 85).toNatClampNeg) x1) x0 85).toNatClampNeg) y115) v119 ((pm_I (pm_setI (pm_setI (pm_setI v60 v103 (((pm_I v60 x0 85) - 1).toNatClampNeg) y105) v109 ((pm_I (pm_setI v60 v103 (((pm_I v60 x0 85) - 1).toNatClampNeg) y105) x0 85).toNatClampNeg) x1) v113 ((pm_I (pm_setI (pm_setI v60 v103 (((pm_I v60 x0 85) - 1).toNatClampNeg) y105) v109 ((pm_I (pm_setI v60 v103 (((pm_I v60 x0 85) - 1).toNatClampNeg) y105) x0 85).toNatClampNeg) x1) x0 85).toNatClampNeg) y115) x0 85).toNatClampNeg) s0) v123 ((pm_I (pm_setI (pm_setI (pm_setI (pm_setI v60 v103 (((pm_I v60 x0 85) - 1).toNatClampNeg) y105) v109 ((pm_I (pm_setI v60 v103 (((pm_I v60 x0 85) - 1).toNatClampNeg) y105) x0 85).toNatClampNeg) x1) v113 ((pm_I (pm_setI (pm_setI v60 v103 (((pm_I v60 x0 85) - 1).toNatClampNeg) y105) v109 ((pm_I (pm_setI v60 v103 (((pm_I v60 x0 85) - 1).toNatClampNeg) y105) x0 85).toNatClampNeg) x1) x0 85).toNatClampNeg) y115) v119 ((pm_I (pm_setI (pm_setI (pm_setI v60 v103 (((pm_I v60 x0 85) - 1).toNatClampNeg) y105) v109 ((pm_I (pm_setI v60 v103 (((pm_I v60 x0 85) - 1).toNatClampNeg) y105) x0 85).toNatClampNeg) x1) v113 ((pm_I (pm_setI (pm_setI v60 v103 (((pm_I v60 x0 85) - 1).toNatClampNeg) y105) v109 ((pm_I (pm_setI v60 v103 (((pm_I v60 x0 85) - 1).toNatClampNeg) y105) x0 85).toNatClampNeg) x1) x0 85).toNatClampNeg) y115) x0 85).toNatClampNeg) s0) x0 85).toNatClampNeg) y130) x0 85).toNatClampNeg) y136) x0 85) + 1) fun y140 => (pm_R (pm_setR (pm_setI (pm_setI (pm_setI (pm_setI (pm_setI (pm_setI (pm_setI v60 v103 (((pm_I v60 x0 85) - 1).toNatClampNeg) y105) v109 ((pm_I (pm_setI v60 v103 (((pm_I v60 x0 85) - 1).toNatClampNeg) y105) x0 85).toNatClampNeg) x1) v113 ((pm_I (pm_setI (pm_setI v60 v103 (((pm_I v60 x0 85) - 1).toNatClampNeg) y105) v109 ((pm_I (pm_setI v60 v103 (((pm_I v60 x0 85) - 1).toNatClampNeg) y105) x0 85).toNatClampNeg) x1) x0 85).toNatClampNeg) y115) v119 ((pm_I (pm_setI (pm_setI (pm_setI v60 v103 (((pm_I v60 x0 85) - 1).toNatClampNeg) y105) v109 ((pm_I (pm_setI v60 v103 (((pm_I v60 x0 85) - 1).toNatClampNeg) y105) x0 85).toNatClampNeg) x1) v113 ((pm_I (pm_setI (pm_setI v60 v103 (((pm_I v60 x0 85) - 1).toNatClampNeg) y105) v109 ((pm_I (pm_setI v60 v103 (((pm_I v60 x0 85) - 1).toNatClampNeg) y105) x0 85).toNatClampNeg) x1) x0 85).toNatClampNeg) y115) x0 85).toNatClampNeg) s0) v123 ((pm_I (pm_setI (pm_setI (pm_setI (pm_setI v60 v103 (((pm_I v60 x0 85) - 1).toNatClampNeg) y105) v109 ((pm_I (pm_setI v60 v103 (((pm_I v60 x0 85) - 1).toNatClampNeg) y105) x0 85).toNatClampNeg) x1) v113 ((pm_I (pm_setI (pm_setI v60 v103 (((pm_I v60 x0 85) - 1).toNatClampNeg) y105) v109 ((pm_I (pm_setI v60 v103 (((pm_I v60 x0 85) - 1).toNatClampNeg) y105) x0 85).toNatClampNeg) x1) x0 85).toNatClampNeg) y115) v119 ((pm_I (pm_setI (pm_setI (pm_setI v60 v103 (((pm_I v60 x0 85) - 1).toNatClampNeg) y105) v109 ((pm_I (pm_setI v60 v103 (((pm_I v60 x0 85) - 1).toNatClampNeg) y105) x0 85).toNatClampNeg) x1) v113 ((pm_I (pm_setI (pm_setI v60 v103 (((pm_I v60 x0 85) - 1).toNatClampNeg) y105) v109 ((pm_I (pm_setI v60 v103 (((pm_I v60 x0 85) - 1).toNatClampNeg) y105) x0 85).toNatClampNeg) x1) x0 85).toNatClampNeg) y115) x0 85).toNatClampNeg) s0) x0 85).toNatClampNeg) y130) v134 ((pm_I (pm_setI (pm_setI (pm_setI (pm_setI (pm_setI v60 v103 (((pm_I v60 x0 85) - 1).toNatClampNeg) y105) v109 ((pm_I (pm_setI v60 v103 (((pm_I v60 x0 85) - 1).toNatClampNeg) y105) x0 85).toNatClampNeg) x1) v113 ((pm_I (pm_setI (pm_setI v60 v103 (((pm_I v60 x0 85) - 1).toNatClampNeg) y105) v109 ((pm_I (pm_setI v60 v103 (((pm_I v60 x0 85) - 1).toNatClampNeg) y105) x0 85).toNatClampNeg) x1) x0 85).toNatClampNeg) y115) v119 ((pm_I (pm_setI (pm_setI (pm_setI v60 v103 (((pm_I v60 x0 85) - 1).toNatClampNeg) y105) v109 ((pm_I (pm_setI v60 v103 (((pm_I v60 x0 85) - 1).toNatClampNeg) y105) x0 85).toNatClampNeg) x1) v113 ((pm_I (pm_setI (pm_setI v60 v103 (((pm_I v60 x0 85) - 1).toNatClampNeg) y105) v109 ((pm_I (pm_setI v60 v103 (((pm_I v60 x0 85) - 1).toNatClampNeg) y105) x0 85).toNatClampNeg) x1) x0 85).toNatClampNeg) y115) x0 85).toNatClampNeg) s0) v123 ((pm_I (pm_setI (pm_setI (pm_setI (pm_setI v60 v103 (((pm_I v60 x0 85) - 1).toNatClampNeg) y105) v109 ((pm_I (pm_setI v60 v103 (((pm_I v60 x0 85) - 1).toNatClampNeg) y105) x0 85).toNatClampNeg) x1) v113 ((pm_I (pm_setI (pm_setI v60 v103 (((pm_I v60 x0 85) - 1).toNatClampNeg) y105) v109 ((pm_I (pm_setI v60 v103 (((pm_I v60 x0 85) - 1).toNatClampNeg) y105) x0 85).toNatClampNeg) x1) x0 85).toNatClampNeg) y115) v119 ((pm_I (pm_setI (pm_setI (pm_setI v60 v103 (((pm_I v60 x0 85) - 1).toNatClampNeg) y105) v109 ((pm_I (pm_setI v60 v103 (((pm_I v60 x0 85) - 1).toNatClampNeg) y105) x0 85).toNatClampNeg) x1) v113 ((pm_I (pm_setI (pm_setI v60 v103 (((pm_I v60 x0 85) - 1).toNatClampNeg) y105) v109 ((pm_I (pm_setI v60 v103 (((pm_I v60 x0 85) - 1).toNatClampNeg) y105) x0 85).toNatClampNeg) x1) x0 85).toNatClampNeg) y115) x0 85).toNatClampNeg) s0) x0 85).toNatClampNeg) y130) x0 85).toNatClampNeg) y136) x0 85 y140) x0 10 (some x2)) x0 39).bind fun v142 => if pm_kd (pm_setR (pm_setI (pm_setI (pm_setI (pm_setI (pm_setI (pm_setI (pm_setI v60 v103 (((pm_I v60 x0 85) - 1).toNatClampNeg) y105) v109 ((pm_I (pm_setI v60 v103 (((pm_I v60 x0 85) - 1).toNatClampNeg) y105) x0 85).toNatClampNeg) x1) v113 ((pm_I (pm_setI (pm_setI v60 v103 (((pm_I v60 x0 85) - 1).toNatClampNeg) y105) v109 ((pm_I (pm_setI v60 v103 (((pm_I v60 x0 85) - 1).toNatClampNeg) y105) x0 85).toNatClampNeg) x1) x0 85).toNatClampNeg) y115) v119 ((pm_I (pm_setI (pm_setI (pm_setI v60 v103 (((pm_I v60 x0 85) - 1).toNatClampNeg) y105) v109 ((pm_I (pm_setI v60 v103 (((pm_I v60 x0 85) - 1).toNatClampNeg) y105) x0 85).toNatClampNeg) x1) v113 ((pm_I (pm_setI (pm_setI v60 v103 (((pm_I v60 x0 85) - 1).toNatClampNeg) y105) v109 ((pm_I (pm_setI v60 v103 (((pm_I v60 x0 85) - 1).toNatClampNeg) y105) x0 85).toNatClampNeg) x1) x0 85).toNatClampNeg) y115) x0 85).toNatClampNeg) s0) v123 ((pm_I (pm_setI (pm_setI (pm_setI (pm_setI v60 v103 (((pm_I v60 x0 85) - 1).toNatClampNeg) y105) v109 ((pm_I (pm_setI v60 v103 (((pm_I v60 x0 85) - 1).toNatClampNeg) y105) x0 85).toNatClampNeg) x1) v113 ((pm_I (pm_setI (pm_setI v60 v103 (((pm_I v60 x0 85) - 1).toNatClampNeg) y105) v109 ((pm_I (pm_setI v60 v103 (((pm_I v60 x0 85) - 1).toNatClampNeg) y105) x0 85).toNatClampNeg) x1) x0 85).toNatClampNeg) y115) v119 ((pm_I (pm_setI (pm_setI (pm_setI v60 v103 (((pm_I v60 x0 85) - 1).toNatClampNeg) y105) v109 ((pm_I (pm_setI v60 v103 (((pm_I v60 x0 85) - 1).toNatClampNeg) y105) x0 85).toNatClampNeg) x1) v113 ((pm_I (pm_setI (pm_setI v60 v103 (((pm_I v60 x0 85) - 1).toNatClampNeg) y105) v109 ((pm_I (pm_setI v60 v103 (((pm_I v60 x0 85) - 1).toNatClampNeg) y105) x0 85).toNatClampNeg) x1) x0 85).toNatClampNeg) y115) x0 85).toNatClampNeg) s0) x0 85).toNatClampNeg) y130) v134 ((pm_I (pm_setI (pm_setI (pm_setI (pm_setI (pm_setI v60 v103 (((pm_I v60 x0 85) - 1).toNatClampNeg) y105) v109 ((pm_I (pm_setI v60 v103 (((pm_I v60 x0 85) - 1).toNatClampNeg) y105) x0 85).toNatClampNeg) x1) v113 ((pm_I (pm_setI (pm_setI v60 v103 (((pm_I v60 x0 85) - 1).toNatClampNeg) y105) v109 ((pm_I (pm_setI v60 v103 (((pm_I v60 x0 85) - 1).toNatClampNeg) y105) x0 85).toNatClampNeg) x1) x0 85).toNatClampNeg) y115) v119 ((pm_I (pm_setI (pm_setI (pm_setI v60 v103 (((pm_I v60 x0 85) - 1).toNatClampNeg) y105) v109 ((pm_I (pm_setI v60 v103 (((pm_I v60 x0 85) - 1).toNatClampNeg) y105) x0 85).toNatClampNeg) x1) v113 ((pm_I (pm_setI (pm_setI v60 v103 (((pm_I v60 x0 85) - 1).toNatClampNeg) y105) v109 ((pm_I (pm_setI v60 v103 (((pm_I v60 x0 85) - 1).toNatClampNeg) y105) x0 85).toNatClampNeg) x1) x0 85).toNatClampNeg) y115) x0 85).toNatClampNeg) s0) v123 ((pm_I (pm_setI (pm_setI (pm_setI (pm_setI v60 v103 (((pm_I v60 x0 85) - 1).toNatClampNeg) y105) v109 ((pm_I (pm_setI v60 v103 (((pm_I v60 x0 85) - 1).toNatClampNeg) y105) x0 85).toNatClampNeg) x1) v113 ((pm_I (pm_setI (pm_setI v60 v103 (((pm_I v60 x0 85) - 1).toNatClampNeg) y105) v109 ((pm_I (pm_setI v60 v103 (((pm_I v60 x0 85) - 1).toNatClampNeg) y105) x0 85).toNatClampNeg) x1) x0 85).toNatClampNeg) y115) v119 ((pm_I (pm_setI (pm_setI (pm_setI v60 v103 (((pm_I v60 x0 85) - 1).toNatClampNeg) y105) v109 ((pm_I (pm_setI v60 v103 (((pm_I v60 x0 85) - 1).toNatClampNeg) y105) x0 85).toNatClampNeg) x1) v113 ((pm_I (pm_setI (pm_setI v60 v103 (((pm_I v60 x0 85) - 1).toNatClampNeg) y105) v109 ((pm_I (pm_setI v60 v103 (((pm_I v60 x0 85) - 1).toNatClampNeg) y105) x0 85).toNatClampNeg) x1) x0 85).toNatClampNeg) y115) x0 85).toNatClampNeg) s0) x0 85).toNatClampNeg) y130) x0 85).toNatClampNeg) y136) x0 85 y140) x0 10 (some x2)) v142 = 34 then if pm_in x1 (pm_ln (pm_setR (pm_setI (pm_setI (pm_setI (pm_setI (pm_setI (pm_setI (pm_setI v60 v103 (((pm_I v60 x0 85) - 1).toNatClampNeg) y105) v109 ((pm_I (pm_setI v60 v103 (((pm_I v60 x0 85) - 1).toNatClampNeg) y105) x0 85).toNatClampNeg) x1) v113 ((pm_I (pm_setI (pm_setI v60 v103 (((pm_I v60 x0 85) - 1).toNatClampNeg) y105) v109 ((pm_I (pm_setI v60 v103 (((pm_I v60 x0 85) - 1).toNatClampNeg) y105) x0 85).toNatClampNeg) x1) x0 85).toNatClampNeg) y115) v119 ((pm_I (pm_setI (pm_setI (pm_setI v60 v103 (((pm_I v60 x0 85) - 1).toNatClampNeg) y105) v109 ((pm_I (pm_setI v60 v103 (((pm_I v60 x0 85) - 1).toNatClampNeg) y105) x0 85).toNatClampNeg) x1) v113 ((pm_I (pm_setI (pm_setI v60 v103 (((pm_I v60 x0 85) - 1).toNatClampNeg) y105) v109 ((pm_I (pm_setI v60 v103 (((pm_I v60 x0 85) - 1).toNatClampNeg) y105) x0 85).toNatClampNeg) x1) x0 85).toNatClampNeg) y115) x0 85).toNatClampNeg) s0) v123 ((pm_I (pm_setI (pm_setI (pm_setI (pm_setI v60 v103 (((pm_I v60 x0 85) - 1).toNatClampNeg) y105) v109 ((pm_I (pm_setI v60 v103 (((pm_I v60 x0 85) - 1).toNatClampNeg) y105) x0 85).toNatClampNeg) x1) v113 ((pm_I (pm_setI (pm_setI v60 v103 (((pm_I v60 x0 85) - 1).toNatClampNeg) y105) v109 ((pm_I (pm_setI v60 v103 (((pm_I v60 x0 85) - 1).toNatClampNeg) y105) x0 85).toNatClampNeg) x1) x0 85).toNatClampNeg) y115) v119 ((pm_I (pm_setI (pm_setI (pm_setI v60 v103 (((pm_I v60 x0 85) - 1).toNatClampNeg) y105) v109 ((pm_I (pm_setI v60 v103 (((pm_I v60 x0 85) - 1).toNatClampNeg) y105) x0 85).toNatClampNeg) x1) v113 ((pm_I (pm_setI (pm_setI v60 v103 (((pm_I v60 x0 85) - 1).toNatClampNeg) y105) v109 ((pm_I (pm_setI v60 v103 (((pm_I v60 x0 85) - 1).toNatClampNeg) y105) x0 85).toNatClampNeg) x1) x0 85).toNatClampNeg) y115) x0 85).toNatClampNeg) s0) x0 85).toNatClampNeg) y130) v134 ((pm_I (pm_setI (pm_setI (pm_setI (pm_setI (pm_setI v60 v103 (((pm_I v60 x0 85) - 1).toNatClampNeg) y105) v109 ((pm_I (pm_setI v60 v103 (((pm_I v60 x0 85) - 1).toNatClampNeg) y105) x0 85).toNatClampNeg) x1) v113 ((pm_I (pm_setI (pm_setI v60 v103 (((pm_I v60 x0 85) - 1).toNatClampNeg) y105) v109 ((pm_I (pm_setI v60 v103 (((pm_I v60 x0 85) - 1).toNatClampNeg) y105) x0 85).toNatClampNeg) x1) x0 85).toNatClampNeg) y115) v119 ((pm_I (pm_setI (pm_setI (pm_setI v60 v103 (((pm_I v60 x0 85) - 1).toNatClampNeg) y105) v109 ((pm_I (pm_setI v60 v103 (((pm_I v60 x0 85) - 1).toNatClampNeg) y105) x0 85).toNatClampNeg) x1) v113 ((pm_I (pm_setI (pm_setI v60 v103 (((pm_I v60 x0 85) - 1).toNatClampNeg) y105) v109 ((pm_I (pm_setI v60 v103 (((pm_I v60 x0 85) - 1).toNatClampNeg) y105) x0 85).toNatClampNeg) x1) x0 85).toNatClampNeg) y115) x0 85).toNatClampNeg) s0) v123 ((pm_I (pm_setI (pm_setI (pm_setI (pm_setI v60 v103 (((pm_I v60 x0 85) - 1).toNatClampNeg) y105) v109 ((pm_I (pm_setI v60 v103 (((pm_I v60 x0 85) - 1).toNatClampNeg) y105) x0 85).toNatClampNeg) x1) v113 ((pm_I (pm_setI (pm_setI v60 v103 (((pm_I v60 x0 85) - 1).toNatClampNeg) y105) v109 ((pm_I (pm_setI v60 v103 (((pm_I v60 x0 85) - 1).toNatClampNeg) y105) x0 85).toNatClampNeg) x1) x0 85).toNatClampNeg) y115) v119 ((pm_I (pm_setI (pm_setI (pm_setI v60 v103 (((pm_I v60 x0 85) - 1).toNatClampNeg) y105) v109 ((pm_I (pm_setI v60 v103 (((pm_I v60 x0 85) - 1).toNatClampNeg) y105) x0 85).toNatClampNeg) x1) v113 ((pm_I (pm_setI (pm_setI v60 v103 (((pm_I v60 x0 85) - 1).toNatClampNeg) y105) v109 ((pm_I (pm_setI v60 v103 (((pm_I v60 x0 85) - 1).toNatClampNeg) y105) x0 85).toNatClampNeg) x1) x0 85).toNatClampNeg) y115) x0 85).toNatClampNeg) s0) x0 85).toNatClampNeg) y130) x0 85).toNatClampNeg) y136) x0 85 y140) x0 10 (some x2)) v142) then pm_let (pm_I (pm_setR (pm_setI (pm_setI (pm_setI (pm_setI (pm_setI (pm_setI (pm_setI v60 v103 (((pm_I v60 x0 85) - 1).toNatClampNeg) y105) v109 ((pm_I (pm_setI v60 v103 (((pm_I v60 x0 85) - 1).toNatClampNeg) y105) x0 85).toNatClampNeg) x1) v113 ((pm_I (pm_setI (pm_setI v60 v103 (((pm_I v60 x0 85) - 1).toNatClampNeg) y105) v109 ((pm_I (pm_setI v60 v103 (((pm_I v60 x0 85) - 1).toNatClampNeg) y105) x0 85).toNatClampNeg) x1) x0 85).toNatClampNeg) y115) v119 ((pm_I (pm_setI (pm_setI (pm_setI v60 v103 (((pm_I v60 x0 85) - 1).toNatClampNeg) y105) v109 ((pm_I (pm_setI v60 v103 (((pm_I v60 x0 85) - 1).toNatClampNeg) y105) x0 85).toNatClampNeg) x1) v113 ((pm_I (pm_setI (pm_setI v60 v103 (((pm_I v60 x0 85) - 1).toNatClampNeg) y105) v109 ((pm_I (pm_setI v60 v103 (((pm_I v60 x0 85) - 1).toNatClampNeg) y105) x0 85).toNatClampNeg) x1) x0 85).toNatClampNeg) y115) x0 85).toNatClampNeg) s0) v123 ((pm_I (pm_setI (pm_setI (pm_setI (pm_setI v60 v103 (((pm_I v60 x0 85) - 1).toNatClampNeg) y105) v109 ((pm_I (pm_setI v60 v103 (((pm_I v60 x0 85) - 1).toNatClampNeg) y105) x0 85).toNatClampNeg) x1) v113 ((pm_I (pm_setI (pm_setI v60 v103 (((pm_I v60 x0 85) - 1).toNatClampNeg) y105) v109 ((pm_I (pm_setI v60 v103 (((pm_I v60 x0 85) - 1).toNatClampNeg) y105) x0 85).toNatClampNeg) x1) x0 85).toNatClampNeg) y115) v119 ((pm_I (pm_setI (pm_setI (pm_setI v60 v103 (((pm_I v60 x0 85) - 1).toNatClampNeg) y105) v109 ((pm_I (pm_setI v60 v103 (((pm_I v60 x0 85) - 1).toNatClampNeg) y105) x0 85).toNatClampNeg) x1) v113 ((pm_I (pm_setI (pm_setI v60 v103 (((pm_I v60 x0 85) - 1).toNatClampNeg) y105) v109 ((pm_I (pm_setI v60 v103 (((pm_I v60 x0 85) - 1).toNatClampNeg) y105) x0 85).toNatClampNeg) x1) x0 85).toNatClampNeg) y115) x0 85).toNatClampNeg) s0) x0 85).toNatClampNeg) y130) v134 ((pm_I (pm_setI (pm_setI (pm_setI (pm_setI (pm_setI v60 v103 (((pm_I v60 x0 85) - 1).toNatClampNeg) y105) v109 ((pm_I (pm_setI v60 v103 (((pm_I v60 x0 85) - 1).toNatClampNeg) y105) x0 85).toNatClampNeg) x1) v113 ((pm_I (pm_setI (pm_setI v60 v103 (((pm_I v60 x0 85) - 1).toNatClampNeg) y105) v109 ((pm_I (pm_setI v60 v103 (((pm_I v60 x0 85) - 1).toNatClampNeg) y105) x0 85).toNatClampNeg) x1) x0 85).toNatClampNeg) y115) v119 ((pm_I (pm_setI (pm_setI (pm_setI v60 v103 (((pm_I v60 x0 85) - 1).toNatClampNeg) y105) v109 ((pm_I (pm_setI v60 v103 (((pm_I v60 x0 85) - 1).toNatClampNeg) y105) x0 85).toNatClampNeg) x1) v113 ((pm_I (pm_setI (pm_setI v60 v103 (((pm_I v60 x0 85) - 1).toNatClampNeg) y105) v109 ((pm_I (pm_setI v60 v103 (((pm_I v60 x0 85) - 1).toNatClampNeg) y105) x0 85).toNatClampNeg) x1) x0 85).toNatClampNeg) y115) x0 85).toNatClampNeg) s0) v123 ((pm_I (pm_setI (pm_setI (pm_setI (pm_setI v60 v103 (((pm_I v60 x0 85) - 1).toNatClampNeg) y105) v109 ((pm_I (pm_setI v60 v103 (((pm_I v60 x0 85) - 1).toNatClampNeg) y105) x0 85).toNatClampNeg) x1) v113 ((pm_I (pm_setI (pm_setI v60 v103 (((pm_I v60 x0 85) - 1).toNatClampNeg) y105) v109 ((pm_I (pm_setI v60 v103 (((pm_I v60 x0 85) - 1).toNatClampNeg) y105) x0 85).toNatClampNeg) x1) x0 85).toNatClampNeg) y115) v119 ((pm_I (pm_setI (pm_setI (pm_setI v60 v103 (((pm_I v60 x0 85) - 1).toNatClampNeg) y105) v109 ((pm_I (pm_setI v60 v103 (((pm_I v60 x0 85) - 1).toNatClampNeg) y105) x0 85).toNatClampNeg) x1) v113 ((pm_I (pm_setI (pm_setI v60 v103 (((pm_I v60 x0 85) - 1).toNatClampNeg) y105) v109 ((pm_I (pm_setI v60 v103 (((pm_I v60 x0 85) - 1).toNatClampNeg) y105) x0 85).toNatClampNeg) x1) x0 85).toNatClampNeg) y115) x0 85).toNatClampNeg) s0) x0 85).toNatClampNeg) y130) x0 85).toNatClampNeg) y136) x0 85 y140) x0 10 (some x2)) v142 x1.toNatClampNeg) fun y146 => some (.inl (.inr (.inl ((x0, x1, x2, x3, x4, s0, 0, pm_setI (pm_setR (pm_setI (pm_setI (pm_setI (pm_setI (pm_setI (pm_setI (pm_setI v60 v103 (((pm_I v60 x0 85) - 1).toNatClampNeg) y105) v109 ((pm_I (pm_setI v60 v103 (((pm_I v60 x0 85) - 1).toNatClampNeg) y105) x0 85).toNatClampNeg) x1) v113 ((pm_I (pm_setI (pm_setI v60 v103 (((pm_I v60 x0 85) - 1).toNatClampNeg) y105) v109 ((pm_I (pm_setI v60 v103 (((pm_I v60 x0 85) - 1).toNatClampNeg) y105) x0 85).toNatClampNeg) x1) x0 85).toNatClampNeg) y115) v119 ((pm_I (pm_setI (pm_setI (pm_setI v60 v103 (((pm_I v60 x0 85) - 1).toNatClampNeg) y105) v109 ((pm_I (pm_setI v60 v103 (((pm_I v60 x0 85) - 1).toNatClampNeg) y105) x0 85).toNatClampNeg) x1) v113 ((pm_I (pm_setI (pm_setI v60 v103 (((pm_I v60 x0 85) - 1).toNatClampNeg) y105) v109 ((pm_I (pm_setI v60 v103 (((pm_I v60 x0 85) - 1).toNatClampNeg) y105) x0 85).toNatClampNeg) x1) x0 85).toNatClampNeg) y115) x0 85).toNatClampNeg) s0) v123 ((pm_I (pm_setI (pm_setI (pm_setI (pm_setI v60 v103 (((pm_I v60 x0 85) - 1).toNatClampNeg) y105) v109 ((pm_I (pm_setI v60 v103 (((pm_I v60 x0 85) - 1).toNatClampNeg) y105) x0 85).toNatClampNeg) x1) v113 ((pm_I (pm_setI (pm_setI v60 v103 (((pm_I v60 x0 85) - 1).toNatClampNeg) y105) v109 ((pm_I (pm_setI v60 v103 (((pm_I v60 x0 85) - 1).toNatClampNeg) y105) x0 85).toNatClampNeg) x1) x0 85).toNatClampNeg) y115) v119 ((pm_I (pm_setI (pm_setI (pm_setI v60 v103 (((pm_I v60 x0 85) - 1).toNatClampNeg) y105) v109 ((pm_I (pm_setI v60 v103 (((pm_I v60 x0 85) - 1).toNatClampNeg) y105) x0 85).toNatClampNeg) x1) v113 ((pm_I (pm_setI (pm_setI v60 v103 (((pm_I v60 x0 85) - 1).toNatClampNeg) y105) v109 ((pm_I (pm_setI v60 v103 (((pm_I v60 x0 85) - 1).toNatClampNeg) y105) x0 85).toNatClampNeg) x1) x0 85).toNatClampNeg) y115) x0 85).toNatClampNeg) s0) x0 85).toNatClampNeg) y130) v134 ((pm_I (pm_setI (pm_setI (pm_setI (pm_setI (pm_setI v60 v103 (((pm_I v60 x0 85) - 1).toNatClampNeg) y105) v109 ((pm_I (pm_setI v60 v103 (((pm_I v60 x0 85) - 1).toNatClampNeg) y105) x0 85).toNatClampNeg) x1) v113 ((pm_I (pm_setI (pm_setI v60 v103 (((pm_I v60 x0 85) - 1).toNatClampNeg) y105) v109 ((pm_I (pm_setI v60 v103 (((pm_I v60 x0 85) - 1).toNatClampNeg) y105) x0 85).toNatClampNeg) x1) x0 85).toNatClampNeg) y115) v119 ((pm_I (pm_setI (pm_setI (pm_setI v60 v103 (((pm_I v60 x0 85) - 1).toNatClampNeg) y105) v109 ((pm_I (pm_setI v60 v103 (((pm_I v60 x0 85) - 1).toNatClampNeg) y105) x0 85).toNatClampNeg) x1) v113 ((pm_I (pm_setI (pm_setI v60 v103 (((pm_I v60 x0 85) - 1).toNatClampNeg) y105) v109 ((pm_I (pm_setI v60 v103 (((pm_I v60 x0 85) - 1).toNatClampNeg) y105) x0 85).toNatClampNeg) x1) x0 85).toNatClampNeg) y115) x0 85).toNatClampNeg) s0) v123 ((pm_I (pm_setI (pm_setI (pm_setI (pm_setI v60 v103 (((pm_I v60 x0 85) - 1).toNatClampNeg) y105) v109 ((pm_I (pm_setI v60 v103 (((pm_I v60 x0 85) - 1).toNatClampNeg) y105) x0 85).toNatClampNeg) x1) v113 ((pm_I (pm_setI (pm_setI v60 v103 (((pm_I v60 x0 85) - 1).toNatClampNeg) y105) v109 ((pm_I (pm_setI v60 v103 (((pm_I v60 x0 85) - 1).toNatClampNeg) y105) x0 85).toNatClampNeg) x1) x0 85).toNatClampNeg) y115) v119 ((pm_I (pm_setI (pm_setI (pm_setI v60 v103 (((pm_I v60 x0 85) - 1).toNatClampNeg) y105) v109 ((pm_I (pm_setI v60 v103 (((pm_I v60 x0 85) - 1).toNatClampNeg) y105) x0 85).toNatClampNeg) x1) v113 ((pm_I (pm_setI (pm_setI v60 v103 (((pm_I v60 x0 85) - 1).toNatClampNeg) y105) v109 ((pm_I (pm_setI v60 v103 (((pm_I v60 x0 85) - 1).toNatClampNeg) y105) x0 85).toNatClampNeg) x1) x0 85).toNatClampNeg) y115) x0 85).toNatClampNeg) s0) x0 85).toNatClampNeg) y130) x0 85).toNatClampNeg) y136) x0 85 y140) x0 10 (some x2)) x0 95 y146))))) else none else none else none else none else none else none else none else none else none else none else none else none else none else none else none else none else none) else none) else (some (.inr (pm_setI h x0 76 4))) else none else none else none) else none
noncomputable def tX16_enters_267 (x0 : Nat) (x1 : Int32) (x2 : Nat) (x3 : Int32) (x4 : Int32) (x6 : Int32) (x7 : Int32) (h : pm_H) : Option (((Nat × Int32 × Nat × Int32 × Int32 × Int32 × Int32 × pm_H) ⊕ (Nat × Int32 × Nat × Int32 × Int32 × Int32 × Int32 × pm_H) ⊕ (Nat × Int32 × Nat × Int32 × Int64 × pm_H) ⊕ (Nat × Int32 × Nat × Int32 × Int64 × Int64 × Int64 × pm_H)) ⊕ pm_H) := if x4 ≤ x7 then (pm_let (x6 + x4) fun y149 => if pm_kd h x0 = 16 then if pm_kd (pm_setI h x0 93 y149) x2 = 14 then (pm_R (pm_setI h x0 93 y149) x2 51).bind fun v153 => if pm_kd (pm_setI h x0 93 y149) v153 = 34 then if pm_in x3 (pm_ln (pm_setI h x0 93 y149) v153) then pm_let (pm_I (pm_setI h x0 93 y149) v153 x3.toNatClampNeg) fun y157 => (fX16_word (pm_setI (pm_setI h x0 93 y149) x0 19 y157) x0).bind fun v159 => some (.inl (.inr (.inr (.inl ((x0, x1, x2, x3, v159.1, v159.2)))))) else none else none else none else none) else (if pm_kd h x0 = 16 then (pm_R h x0 92).bind fun v162 => (pm_R h x0 84).bind fun v164 => if pm_kd h v164 = 35 then if pm_in x7 (pm_ln h v164) then pm_let (pm_L h v164 x7.toNatClampNeg) fun y168 => if pm_kd h v162 = 35 then if pm_in (x6 + x7) (pm_ln h v162) then pm_let (x7 + 1) fun y172 => some (.inl (.inr (.inl ((x0, x1, x2, x3, x4, x6, y172, pm_setL h v162 ((x6 + x7).toNatClampNeg) y168))))) else none else none else none else none else none)
noncomputable def tX16_enters_322 (x0 : Nat) (x1 : Int32) (x2 : Nat) (x3 : Int32) (x7 : Int64) (h : pm_H) : Option (((Nat × Int32 × Nat × Int32 × Int32 × Int32 × Int32 × pm_H) ⊕ (Nat × Int32 × Nat × Int32 × Int32 × Int32 × Int32 × pm_H) ⊕ (Nat × Int32 × Nat × Int32 × Int64 × pm_H) ⊕ (Nat × Int32 × Nat × Int32 × Int64 × Int64 × Int64 × pm_H)) ⊕ pm_H) := if x7 ≤ 0 then (if pm_kd h x2 = 14 then (pm_R h x2 53).bind fun v176 => if pm_kd h v176 = 34 then if pm_in x3 (pm_ln h v176) then pm_let (pm_I h v176 x3.toNatClampNeg) fun y180 => if pm_kd h x0 = 16 then (pm_R (pm_setI h x0 94 y180) x2 54).bind fun v183 => if pm_kd (pm_setI h x0 94 y180) v183 = 34 then if pm_in x3 (pm_ln (pm_setI h x0 94 y180) v183) then (pm_R (pm_setI h x0 94 y180) x2 6).bind fun v187 => (pm_R (pm_setI h x0 94 y180) x0 38).bind fun v189 => if pm_kd (pm_setI h x0 94 y180) v189 = 34 then if pm_in x1 (pm_ln (pm_setI h x0 94 y180) v189) then pm_let (pm_I (pm_setI h x0 94 y180) v189 x1.toNatClampNeg) fun y193 => if pm_kd (pm_setI h x0 94 y180) v187 = 34 then if pm_in y193 (pm_ln (pm_setI h x0 94 y180) v187) then (fX16_opens (pm_setI h x0 94 y180) x0 (pm_I (pm_setI h x0 94 y180) v183 x3.toNatClampNeg) (pm_I (pm_setI h x0 94 y180) v187 y193.toNatClampNeg) 0 1).bind fun v197 => some (.inr (v197)) else none else none else none else none else none else none else none else none else none else none) else (if pm_kd h x0 = 16 then (fX16_word h x0).bind fun v200 => if pm_kd v200.2 x0 = 16 then if pm_kd v200.2 x2 = 14 then (fX14_at v200.2 x2 (pm_I v200.2 x0 19)).bind fun v204 => pm_let (fX16_isReference v204) fun v206 => if v206 = 0 then (pm_let ((pm_I v200.2 x0 19) + 1) fun y209 => some (.inl (.inr (.inr (.inr ((x0, x1, x2, x3, x7, v200.1, 0, pm_setI v200.2 x0 19 y209))))))) else (pm_let ((pm_I v200.2 x0 19) + 1) fun y211 => some (.inl (.inr (.inr (.inr ((x0, x1, x2, x3, x7, v200.1, (-1), pm_setI v200.2 x0 19 y211))))))) else none else none else none)
noncomputable def tX16_enters_368 (x0 : Nat) (x1 : Int32) (x2 : Nat) (x3 : Int32) (x7 : Int64) (x9 : Int64) (x11 : Int64) (h : pm_H) : Option (((Nat × Int32 × Nat × Int32 × Int32 × Int32 × Int32 × pm_H) ⊕ (Nat × Int32 × Nat × Int32 × Int32 × Int32 × Int32 × pm_H) ⊕ (Nat × Int32 × Nat × Int32 × Int64 × pm_H) ⊕ (Nat × Int32 × Nat × Int32 × Int64 × Int64 × Int64 × pm_H)) ⊕ pm_H) := if x9 ≤ 0 then (pm_let (x7 - 1) fun y214 => some (.inl (.inr (.inr (.inl ((x0, x1, x2, x3, y214, h))))))) else (if pm_kd h x0 = 16 then (pm_R h x0 92).bind fun v217 => if pm_kd h v217 = 35 then if pm_in (pm_I h x0 93) (pm_ln h v217) then pm_let ((pm_I (pm_setL h v217 ((pm_I h x0 93).toNatClampNeg) x11) x0 93) + 1) fun y221 => pm_let (x9 - 1) fun y223 => some (.inl (.inr (.inr (.inr ((x0, x1, x2, x3, x7, y223, x11, pm_setI (pm_setL h v217 ((pm_I h x0 93).toNatClampNeg) x11) x0 93 y221)))))) else none else none else none)
noncomputable def sX16_enters : ((Nat × Int32 × Nat × Int32 × Int32 × Int32 × Int32 × pm_H) ⊕ (Nat × Int32 × Nat × Int32 × Int32 × Int32 × Int32 × pm_H) ⊕ (Nat × Int32 × Nat × Int32 × Int64 × pm_H) ⊕ (Nat × Int32 × Nat × Int32 × Int64 × Int64 × Int64 × pm_H)) → Option (((Nat × Int32 × Nat × Int32 × Int32 × Int32 × Int32 × pm_H) ⊕ (Nat × Int32 × Nat × Int32 × Int32 × Int32 × Int32 × pm_H) ⊕ (Nat × Int32 × Nat × Int32 × Int64 × pm_H) ⊕ (Nat × Int32 × Nat × Int32 × Int64 × Int64 × Int64 × pm_H)) ⊕ pm_H) := fun z => match z with
  | .inl (x0, x1, x2, x3, x4, x5, s0, h) => tX16_enters_111 x0 x1 x2 x3 x4 x5 s0 h
  | .inr (.inl (x0, x1, x2, x3, x4, x6, x7, h)) => tX16_enters_267 x0 x1 x2 x3 x4 x6 x7 h
  | .inr (.inr (.inl (x0, x1, x2, x3, x7, h))) => tX16_enters_322 x0 x1 x2 x3 x7 h
  | .inr (.inr (.inr (x0, x1, x2, x3, x7, x9, x11, h))) => tX16_enters_368 x0 x1 x2 x3 x7 x9 x11 h
noncomputable def fX16_enters (h : pm_H) (a0 : Nat) (p1 : Int32) : Option pm_H := if pm_kd h a0 = 16 then (pm_R h a0 41).bind fun v2 => if pm_kd h v2 = 34 then if pm_in p1 (pm_ln h v2) then if (pm_I h v2 p1.toNatClampNeg) < 0 then ((fX16_planOf h a0 p1).bind fun v7 => (pm_R h a0 40).bind fun v9 => if pm_kd h v9 = 34 then if pm_in p1 (pm_ln h v9) then pm_let (pm_I h v9 p1.toNatClampNeg) fun y13 => if pm_kd h v7 = 14 then (pm_R h v7 5).bind fun v16 => (pm_R h a0 38).bind fun v18 => if pm_kd h v18 = 34 then if pm_in p1 (pm_ln h v18) then pm_let (pm_I h v18 p1.toNatClampNeg) fun y22 => if pm_kd h v16 = 34 then if pm_in y22 (pm_ln h v16) then pm_let (pm_I h v16 y22.toNatClampNeg) fun y26 => (pm_R h v7 52).bind fun v28 => if pm_kd h v28 = 35 then if pm_in y13 (pm_ln h v28) then pm_let (y26 + ((pm_L h v28 y13.toNatClampNeg).toInt32)) fun y32 => if (pm_I h a0 85) = 0 then (pm_lim sX16_enters (.inl ((a0, p1, v7, y13, y26, y32, 0, h)))) else ((pm_R h a0 88).bind fun v35 => pm_let ((pm_I h a0 85) - 1) fun y37 => if pm_kd h v35 = 34 then if pm_in y37 (pm_ln h v35) then (pm_R h a0 89).bind fun v41 => pm_let ((pm_I h a0 85) - 1) fun y43 => if pm_kd h v41 = 34 then if pm_in y43 (pm_ln h v41) then pm_lim sX16_enters (.inl ((a0, p1, v7, y13, y26, y32, (pm_I h v35 y37.toNatClampNeg) + (pm_I h v41 y43.toNatClampNeg), h))) else none else none else none else none) else none else none else none else none else none else none else none else none else none) else (if pm_in p1 (pm_ln (pm_setI h a0 76 5) v2) then pm_let (pm_I (pm_setI h a0 76 5) v2 p1.toNatClampNeg) fun y48 => (fX16_parametersIn (pm_setI (pm_setI (pm_setI h a0 76 5) a0 79 y48) a0 80 p1) a0 p1).bind fun v50 => some (pm_setI (pm_setI (pm_setI (pm_setI h a0 76 5) a0 79 y48) a0 80 p1) a0 83 v50) else none) else none else none else none
set_option maxHeartbeats 4000000 in
set_option maxRecDepth 100000 in
theorem lpX16_enters {g : pm_Gm} {l : Launch} {G : pm_Gl} {Qr : Option Value → pm_H → Prop} (C : pm_C g cX16_enters RX16) (X : pm_X g l G mX16_enters 0 0 Qr) {r : pm_H} (q : Qr none r) : ∀ n : Nat, (∀ (x0 : Nat) (x1 : Int32) (x2 : Nat) (x3 : Int32) (x4 : Int32) (x5 : Int32) (s0 : Int32) (h : pm_H), pm_iter sX16_enters n (.inl (x0, x1, x2, x3, x4, x5, s0, h)) = some r → pm_G g 111 [(0, .ref x0), (1, .int x1), (2, .ref x2), (3, .int x3), (4, .int x4), (5, .int x5)] [.int s0] h 0 0) ∧ (∀ (x0 : Nat) (x1 : Int32) (x2 : Nat) (x3 : Int32) (x4 : Int32) (x6 : Int32) (x7 : Int32) (h : pm_H), pm_iter sX16_enters n (.inr (.inl (x0, x1, x2, x3, x4, x6, x7, h))) = some r → pm_G g 267 [(0, .ref x0), (1, .int x1), (2, .ref x2), (3, .int x3), (4, .int x4), (6, .int x6), (7, .int x7)] [] h 0 0) ∧ (∀ (x0 : Nat) (x1 : Int32) (x2 : Nat) (x3 : Int32) (x7 : Int64) (h : pm_H), pm_iter sX16_enters n (.inr (.inr (.inl (x0, x1, x2, x3, x7, h)))) = some r → pm_G g 322 [(0, .ref x0), (1, .int x1), (2, .ref x2), (3, .int x3), (7, .long x7)] [] h 0 0) ∧ (∀ (x0 : Nat) (x1 : Int32) (x2 : Nat) (x3 : Int32) (x7 : Int64) (x9 : Int64) (x11 : Int64) (h : pm_H), pm_iter sX16_enters n (.inr (.inr (.inr (x0, x1, x2, x3, x7, x9, x11, h)))) = some r → pm_G g 368 [(0, .ref x0), (1, .int x1), (2, .ref x2), (3, .int x3), (7, .long x7), (9, .long x9), (11, .long x11)] [] h 0 0) := by
  intro n
  induction n with
  | zero => exact ⟨fun _ _ _ _ _ _ _ _ hf => (by cases hf), fun _ _ _ _ _ _ _ _ hf => (by cases hf), fun _ _ _ _ _ _ hf => (by cases hf), fun _ _ _ _ _ _ _ _ hf => (by cases hf)⟩
  | succ n ih =>
    refine ⟨fun x0 x1 x2 x3 x4 x5 s0 h hf => ?_, ?_⟩
    · obtain ⟨y, hf, hi⟩ := pm_iter_s hf
      have hf : tX16_enters_111 x0 x1 x2 x3 x4 x5 s0 h = some y := hf
      unfold tX16_enters_111 at hf
      refine pm_istore (lv' := [(6, .int s0), (0, .ref x0), (1, .int x1), (2, .ref x2), (3, .int x3), (4, .int x4), (5, .int x5)]) C dX16_enters_111 (pm_nl X (by decide)) rfl ?_
      refine pm_aload_n C dX16_enters_113 rfl rfl ?_
      obtain ⟨k52, hf⟩ := pm_if hf
      refine pm_getI C dX16_enters_114 flX16_1052 rfl k52 rfl ?_
      refine pm_sipush (v := 200) C dX16_enters_117 (by decide) ?_
      refine pm_icmp_eq (tgt := 141) C dX16_enters_120 (by decide) (fun c53 => ?_) (fun c53 => ?_)
      · have hf := pm_it hf c53
        refine pm_aload_n C dX16_enters_141 rfl rfl ?_
        refine pm_iconst (v := 4) C dX16_enters_142 (by decide) ?_
        refine pm_putI C dX16_enters_143 flX16_970 rfl rfl k52 rfl rfl ?_
        cases hf
        cases hi
        exact pm_vret C X dX16_enters_146 rfl (Nat.le_refl _) (Nat.le_refl _) q
      · have hf := pm_ie hf c53
        refine pm_iload C dX16_enters_123 rfl ?_
        refine pm_iload C dX16_enters_125 rfl ?_
        refine pm_iadd C dX16_enters_127 ?_
        refine pm_aload_n C dX16_enters_128 rfl rfl ?_
        obtain ⟨k54, hf⟩ := pm_if hf
        obtain ⟨v55, e56, hf⟩ := pm_bd hf
        refine pm_getR C dX16_enters_129 flX16_726 rfl k54 e56 ?_
        refine pm_iload_n C dX16_enters_132 rfl rfl ?_
        obtain ⟨k57, hf⟩ := pm_if hf
        obtain ⟨u58, hf⟩ := pm_if hf
        refine pm_iald C dX16_enters_133 k57 u58 rfl ?_
        refine pm_iadd C dX16_enters_134 ?_
        refine pm_sipush (v := 4096) C dX16_enters_135 (by decide) ?_
        refine pm_icmp_le (tgt := 147) C dX16_enters_138 (by decide) (fun c59 => ?_) (fun c59 => ?_)
        · have hf := pm_it hf c59
          refine pm_aload_n C dX16_enters_147 rfl rfl ?_
          refine pm_iload_n C dX16_enters_148 rfl rfl ?_
          obtain ⟨v60, e61, hf⟩ := pm_bd hf
          refine pm_callV (as := [.int x1]) (st := []) C X dX16_enters_149 lnX16_1101 myX16_counts viX16_counts ⟨by decide, by decide⟩ rfl rfl k52 (Nat.le_of_ble_eq_true rfl) (Nat.le_refl _) (Nat.le_refl _) (ctX16_counts e61 ?_)
          show pm_G g 152 [(6, .int s0), (0, .ref x0), (1, .int x1), (2, .ref x2), (3, .int x3), (4, .int x4), (5, .int x5)] [] v60 0 0
          refine pm_aload_n C dX16_enters_152 rfl rfl ?_
          obtain ⟨k62, hf⟩ := pm_if hf
          refine pm_getI C dX16_enters_153 flX16_1052 rfl k62 rfl ?_
          refine pm_if_le (tgt := 174) C dX16_enters_156 (by decide) (fun c63 => ?_) (fun c63 => ?_)
          · have hf := pm_it hf c63
            refine pm_aload_n C dX16_enters_174 rfl rfl ?_
            obtain ⟨v64, e65, hf⟩ := pm_bd hf
            refine pm_getR C dX16_enters_175 flX16_173 rfl k62 e65 ?_
            refine pm_aload_n C dX16_enters_178 rfl rfl ?_
            refine pm_getI C dX16_enters_179 flX16_1052 rfl k62 rfl ?_
            refine pm_iload_n C dX16_enters_182 rfl rfl ?_
            obtain ⟨k66, hf⟩ := pm_if hf
            obtain ⟨u67, hf⟩ := pm_if hf
            refine pm_iast C dX16_enters_183 k66 u67 ?_
            refine pm_aload_n C dX16_enters_184 rfl rfl ?_
            obtain ⟨v68, e69, hf⟩ := pm_bd hf
            refine pm_getR C dX16_enters_185 flX16_176 rfl k62 e69 ?_
            refine pm_aload_n C dX16_enters_188 rfl rfl ?_
            refine pm_getI C dX16_enters_189 flX16_1052 rfl k62 rfl ?_
            refine pm_aload_n C dX16_enters_192 rfl rfl ?_
            refine pm_getI C dX16_enters_193 flX16_1107 rfl k62 rfl ?_
            obtain ⟨y70, e71, hf⟩ := pm_lt hf
            refine pm_topI e71 ?_
            obtain ⟨k72, hf⟩ := pm_if hf
            obtain ⟨u73, hf⟩ := pm_if hf
            refine pm_iast C dX16_enters_196 k72 u73 ?_
            refine pm_aload_n C dX16_enters_197 rfl rfl ?_
            obtain ⟨v74, e75, hf⟩ := pm_bd hf
            refine pm_getR C dX16_enters_198 flX16_179 rfl k62 e75 ?_
            refine pm_aload_n C dX16_enters_201 rfl rfl ?_
            refine pm_getI C dX16_enters_202 flX16_1052 rfl k62 rfl ?_
            refine pm_iload C dX16_enters_205 rfl ?_
            obtain ⟨k76, hf⟩ := pm_if hf
            obtain ⟨u77, hf⟩ := pm_if hf
            refine pm_iast C dX16_enters_207 k76 u77 ?_
            refine pm_aload_n C dX16_enters_208 rfl rfl ?_
            obtain ⟨v78, e79, hf⟩ := pm_bd hf
            refine pm_getR C dX16_enters_209 flX16_182 rfl k62 e79 ?_
            refine pm_aload_n C dX16_enters_212 rfl rfl ?_
            refine pm_getI C dX16_enters_213 flX16_1052 rfl k62 rfl ?_
            refine pm_iload C dX16_enters_216 rfl ?_
            refine pm_aload_n C dX16_enters_218 rfl rfl ?_
            obtain ⟨k80, hf⟩ := pm_if hf
            obtain ⟨v81, e82, hf⟩ := pm_bd hf
            refine pm_getR C dX16_enters_219 flX16_726 rfl k80 e82 ?_
            refine pm_iload_n C dX16_enters_222 rfl rfl ?_
            obtain ⟨k83, hf⟩ := pm_if hf
            obtain ⟨u84, hf⟩ := pm_if hf
            refine pm_iald C dX16_enters_223 k83 u84 rfl ?_
            refine pm_iadd C dX16_enters_224 ?_
            obtain ⟨y85, e86, hf⟩ := pm_lt hf
            refine pm_topI e86 ?_
            obtain ⟨k87, hf⟩ := pm_if hf
            obtain ⟨u88, hf⟩ := pm_if hf
            refine pm_iast C dX16_enters_225 k87 u88 ?_
            refine pm_aload_n C dX16_enters_226 rfl rfl ?_
            obtain ⟨v89, e90, hf⟩ := pm_bd hf
            refine pm_getR C dX16_enters_227 flX16_188 rfl k62 e90 ?_
            refine pm_aload_n C dX16_enters_230 rfl rfl ?_
            refine pm_getI C dX16_enters_231 flX16_1052 rfl k62 rfl ?_
            refine pm_aload_n C dX16_enters_234 rfl rfl ?_
            refine pm_getI C dX16_enters_235 flX16_1086 rfl k62 rfl ?_
            obtain ⟨y91, e92, hf⟩ := pm_lt hf
            refine pm_topI e92 ?_
            obtain ⟨k93, hf⟩ := pm_if hf
            obtain ⟨u94, hf⟩ := pm_if hf
            refine pm_iast C dX16_enters_238 k93 u94 ?_
            refine pm_aload_n C dX16_enters_239 rfl rfl ?_
            refine pm_dup C dX16_enters_240 rfl ?_
            refine pm_getI C dX16_enters_241 flX16_1052 rfl k62 rfl ?_
            refine pm_iconst (v := 1) C dX16_enters_244 (by decide) ?_
            refine pm_iadd C dX16_enters_245 ?_
            obtain ⟨y95, e96, hf⟩ := pm_lt hf
            refine pm_topI e96 ?_
            refine pm_putI C dX16_enters_246 flX16_1052 rfl rfl k62 rfl rfl ?_
            refine pm_aload_n C dX16_enters_249 rfl rfl ?_
            refine pm_aload_n C dX16_enters_250 rfl rfl ?_
            refine pm_putR C dX16_enters_251 flX16_221 rfl rfl k62 ?_
            refine pm_aload_n C dX16_enters_254 rfl rfl ?_
            refine pm_aload_n C dX16_enters_255 rfl rfl ?_
            obtain ⟨v97, e98, hf⟩ := pm_bd hf
            refine pm_getR C dX16_enters_256 flX16_74 rfl k62 e98 ?_
            refine pm_iload_n C dX16_enters_259 rfl rfl ?_
            obtain ⟨k99, hf⟩ := pm_if hf
            obtain ⟨u100, hf⟩ := pm_if hf
            refine pm_iald C dX16_enters_260 k99 u100 rfl ?_
            obtain ⟨y101, e102, hf⟩ := pm_lt hf
            refine pm_topI e102 ?_
            refine pm_putI C dX16_enters_261 flX16_1110 rfl rfl k62 rfl rfl ?_
            refine pm_iconst (v := 0) C dX16_enters_264 (by decide) ?_
            refine pm_istore (lv' := [(7, .int 0), (6, .int s0), (0, .ref x0), (1, .int x1), (2, .ref x2), (3, .int x3), (4, .int x4), (5, .int x5)]) C dX16_enters_265 (pm_nl X (by decide)) rfl ?_
            cases hf
            exact pm_sub [2, 3, 4, 5, 6, 1, 0] rfl (ih.2.1 x0 x1 x2 x3 x4 s0 0 (pm_setI (pm_setR (pm_setI (pm_setI (pm_setI (pm_setI (pm_setI (pm_setI v60 v64 ((pm_I v60 x0 85).toNatClampNeg) x1) v68 ((pm_I (pm_setI v60 v64 ((pm_I v60 x0 85).toNatClampNeg) x1) x0 85).toNatClampNeg) y70) v74 ((pm_I (pm_setI (pm_setI v60 v64 ((pm_I v60 x0 85).toNatClampNeg) x1) v68 ((pm_I (pm_setI v60 v64 ((pm_I v60 x0 85).toNatClampNeg) x1) x0 85).toNatClampNeg) y70) x0 85).toNatClampNeg) s0) v78 ((pm_I (pm_setI (pm_setI (pm_setI v60 v64 ((pm_I v60 x0 85).toNatClampNeg) x1) v68 ((pm_I (pm_setI v60 v64 ((pm_I v60 x0 85).toNatClampNeg) x1) x0 85).toNatClampNeg) y70) v74 ((pm_I (pm_setI (pm_setI v60 v64 ((pm_I v60 x0 85).toNatClampNeg) x1) v68 ((pm_I (pm_setI v60 v64 ((pm_I v60 x0 85).toNatClampNeg) x1) x0 85).toNatClampNeg) y70) x0 85).toNatClampNeg) s0) x0 85).toNatClampNeg) y85) v89 ((pm_I (pm_setI (pm_setI (pm_setI (pm_setI v60 v64 ((pm_I v60 x0 85).toNatClampNeg) x1) v68 ((pm_I (pm_setI v60 v64 ((pm_I v60 x0 85).toNatClampNeg) x1) x0 85).toNatClampNeg) y70) v74 ((pm_I (pm_setI (pm_setI v60 v64 ((pm_I v60 x0 85).toNatClampNeg) x1) v68 ((pm_I (pm_setI v60 v64 ((pm_I v60 x0 85).toNatClampNeg) x1) x0 85).toNatClampNeg) y70) x0 85).toNatClampNeg) s0) v78 ((pm_I (pm_setI (pm_setI (pm_setI v60 v64 ((pm_I v60 x0 85).toNatClampNeg) x1) v68 ((pm_I (pm_setI v60 v64 ((pm_I v60 x0 85).toNatClampNeg) x1) x0 85).toNatClampNeg) y70) v74 ((pm_I (pm_setI (pm_setI v60 v64 ((pm_I v60 x0 85).toNatClampNeg) x1) v68 ((pm_I (pm_setI v60 v64 ((pm_I v60 x0 85).toNatClampNeg) x1) x0 85).toNatClampNeg) y70) x0 85).toNatClampNeg) s0) x0 85).toNatClampNeg) y85) x0 85).toNatClampNeg) y91) x0 85 y95) x0 10 (some x2)) x0 95 y101) hi)
          · have hf := pm_ie hf c63
            refine pm_aload_n C dX16_enters_159 rfl rfl ?_
            obtain ⟨v103, e104, hf⟩ := pm_bd hf
            refine pm_getR C dX16_enters_160 flX16_185 rfl k62 e104 ?_
            refine pm_aload_n C dX16_enters_163 rfl rfl ?_
            refine pm_getI C dX16_enters_164 flX16_1052 rfl k62 rfl ?_
            refine pm_iconst (v := 1) C dX16_enters_167 (by decide) ?_
            refine pm_isub C dX16_enters_168 ?_
            refine pm_aload_n C dX16_enters_169 rfl rfl ?_
            refine pm_getI C dX16_enters_170 flX16_1104 rfl k62 rfl ?_
            obtain ⟨y105, e106, hf⟩ := pm_lt hf
            refine pm_topI e106 ?_
            obtain ⟨k107, hf⟩ := pm_if hf
            obtain ⟨u108, hf⟩ := pm_if hf
            refine pm_iast C dX16_enters_173 k107 u108 ?_
            refine pm_aload_n C dX16_enters_174 rfl rfl ?_
            obtain ⟨v109, e110, hf⟩ := pm_bd hf
            refine pm_getR C dX16_enters_175 flX16_173 rfl k62 e110 ?_
            refine pm_aload_n C dX16_enters_178 rfl rfl ?_
            refine pm_getI C dX16_enters_179 flX16_1052 rfl k62 rfl ?_
            refine pm_iload_n C dX16_enters_182 rfl rfl ?_
            obtain ⟨k111, hf⟩ := pm_if hf
            obtain ⟨u112, hf⟩ := pm_if hf
            refine pm_iast C dX16_enters_183 k111 u112 ?_
            refine pm_aload_n C dX16_enters_184 rfl rfl ?_
            obtain ⟨v113, e114, hf⟩ := pm_bd hf
            refine pm_getR C dX16_enters_185 flX16_176 rfl k62 e114 ?_
            refine pm_aload_n C dX16_enters_188 rfl rfl ?_
            refine pm_getI C dX16_enters_189 flX16_1052 rfl k62 rfl ?_
            refine pm_aload_n C dX16_enters_192 rfl rfl ?_
            refine pm_getI C dX16_enters_193 flX16_1107 rfl k62 rfl ?_
            obtain ⟨y115, e116, hf⟩ := pm_lt hf
            refine pm_topI e116 ?_
            obtain ⟨k117, hf⟩ := pm_if hf
            obtain ⟨u118, hf⟩ := pm_if hf
            refine pm_iast C dX16_enters_196 k117 u118 ?_
            refine pm_aload_n C dX16_enters_197 rfl rfl ?_
            obtain ⟨v119, e120, hf⟩ := pm_bd hf
            refine pm_getR C dX16_enters_198 flX16_179 rfl k62 e120 ?_
            refine pm_aload_n C dX16_enters_201 rfl rfl ?_
            refine pm_getI C dX16_enters_202 flX16_1052 rfl k62 rfl ?_
            refine pm_iload C dX16_enters_205 rfl ?_
            obtain ⟨k121, hf⟩ := pm_if hf
            obtain ⟨u122, hf⟩ := pm_if hf
            refine pm_iast C dX16_enters_207 k121 u122 ?_
            refine pm_aload_n C dX16_enters_208 rfl rfl ?_
            obtain ⟨v123, e124, hf⟩ := pm_bd hf
            refine pm_getR C dX16_enters_209 flX16_182 rfl k62 e124 ?_
            refine pm_aload_n C dX16_enters_212 rfl rfl ?_
            refine pm_getI C dX16_enters_213 flX16_1052 rfl k62 rfl ?_
            refine pm_iload C dX16_enters_216 rfl ?_
            refine pm_aload_n C dX16_enters_218 rfl rfl ?_
            obtain ⟨k125, hf⟩ := pm_if hf
            obtain ⟨v126, e127, hf⟩ := pm_bd hf
            refine pm_getR C dX16_enters_219 flX16_726 rfl k125 e127 ?_
            refine pm_iload_n C dX16_enters_222 rfl rfl ?_
            obtain ⟨k128, hf⟩ := pm_if hf
            obtain ⟨u129, hf⟩ := pm_if hf
            refine pm_iald C dX16_enters_223 k128 u129 rfl ?_
            refine pm_iadd C dX16_enters_224 ?_
            obtain ⟨y130, e131, hf⟩ := pm_lt hf
            refine pm_topI e131 ?_
            obtain ⟨k132, hf⟩ := pm_if hf
            obtain ⟨u133, hf⟩ := pm_if hf
            refine pm_iast C dX16_enters_225 k132 u133 ?_
            refine pm_aload_n C dX16_enters_226 rfl rfl ?_
            obtain ⟨v134, e135, hf⟩ := pm_bd hf
            refine pm_getR C dX16_enters_227 flX16_188 rfl k62 e135 ?_
            refine pm_aload_n C dX16_enters_230 rfl rfl ?_
            refine pm_getI C dX16_enters_231 flX16_1052 rfl k62 rfl ?_
            refine pm_aload_n C dX16_enters_234 rfl rfl ?_
            refine pm_getI C dX16_enters_235 flX16_1086 rfl k62 rfl ?_
            obtain ⟨y136, e137, hf⟩ := pm_lt hf
            refine pm_topI e137 ?_
            obtain ⟨k138, hf⟩ := pm_if hf
            obtain ⟨u139, hf⟩ := pm_if hf
            refine pm_iast C dX16_enters_238 k138 u139 ?_
            refine pm_aload_n C dX16_enters_239 rfl rfl ?_
            refine pm_dup C dX16_enters_240 rfl ?_
            refine pm_getI C dX16_enters_241 flX16_1052 rfl k62 rfl ?_
            refine pm_iconst (v := 1) C dX16_enters_244 (by decide) ?_
            refine pm_iadd C dX16_enters_245 ?_
            obtain ⟨y140, e141, hf⟩ := pm_lt hf
            refine pm_topI e141 ?_
            refine pm_putI C dX16_enters_246 flX16_1052 rfl rfl k62 rfl rfl ?_
            refine pm_aload_n C dX16_enters_249 rfl rfl ?_
            refine pm_aload_n C dX16_enters_250 rfl rfl ?_
            refine pm_putR C dX16_enters_251 flX16_221 rfl rfl k62 ?_
            refine pm_aload_n C dX16_enters_254 rfl rfl ?_
            refine pm_aload_n C dX16_enters_255 rfl rfl ?_
            obtain ⟨v142, e143, hf⟩ := pm_bd hf
            refine pm_getR C dX16_enters_256 flX16_74 rfl k62 e143 ?_
            refine pm_iload_n C dX16_enters_259 rfl rfl ?_
            obtain ⟨k144, hf⟩ := pm_if hf
            obtain ⟨u145, hf⟩ := pm_if hf
            refine pm_iald C dX16_enters_260 k144 u145 rfl ?_
            obtain ⟨y146, e147, hf⟩ := pm_lt hf
            refine pm_topI e147 ?_
            refine pm_putI C dX16_enters_261 flX16_1110 rfl rfl k62 rfl rfl ?_
            refine pm_iconst (v := 0) C dX16_enters_264 (by decide) ?_
            refine pm_istore (lv' := [(7, .int 0), (6, .int s0), (0, .ref x0), (1, .int x1), (2, .ref x2), (3, .int x3), (4, .int x4), (5, .int x5)]) C dX16_enters_265 (pm_nl X (by decide)) rfl ?_
            cases hf
            exact pm_sub [2, 3, 4, 5, 6, 1, 0] rfl (ih.2.1 x0 x1 x2 x3 x4 s0 0 (pm_setI (pm_setR (pm_setI (pm_setI (pm_setI (pm_setI (pm_setI (pm_setI (pm_setI v60 v103 (((pm_I v60 x0 85) - 1).toNatClampNeg) y105) v109 ((pm_I (pm_setI v60 v103 (((pm_I v60 x0 85) - 1).toNatClampNeg) y105) x0 85).toNatClampNeg) x1) v113 ((pm_I (pm_setI (pm_setI v60 v103 (((pm_I v60 x0 85) - 1).toNatClampNeg) y105) v109 ((pm_I (pm_setI v60 v103 (((pm_I v60 x0 85) - 1).toNatClampNeg) y105) x0 85).toNatClampNeg) x1) x0 85).toNatClampNeg) y115) v119 ((pm_I (pm_setI (pm_setI (pm_setI v60 v103 (((pm_I v60 x0 85) - 1).toNatClampNeg) y105) v109 ((pm_I (pm_setI v60 v103 (((pm_I v60 x0 85) - 1).toNatClampNeg) y105) x0 85).toNatClampNeg) x1) v113 ((pm_I (pm_setI (pm_setI v60 v103 (((pm_I v60 x0 85) - 1).toNatClampNeg) y105) v109 ((pm_I (pm_setI v60 v103 (((pm_I v60 x0 85) - 1).toNatClampNeg) y105) x0 85).toNatClampNeg) x1) x0 85).toNatClampNeg) y115) x0 85).toNatClampNeg) s0) v123 ((pm_I (pm_setI (pm_setI (pm_setI (pm_setI v60 v103 (((pm_I v60 x0 85) - 1).toNatClampNeg) y105) v109 ((pm_I (pm_setI v60 v103 (((pm_I v60 x0 85) - 1).toNatClampNeg) y105) x0 85).toNatClampNeg) x1) v113 ((pm_I (pm_setI (pm_setI v60 v103 (((pm_I v60 x0 85) - 1).toNatClampNeg) y105) v109 ((pm_I (pm_setI v60 v103 (((pm_I v60 x0 85) - 1).toNatClampNeg) y105) x0 85).toNatClampNeg) x1) x0 85).toNatClampNeg) y115) v119 ((pm_I (pm_setI (pm_setI (pm_setI v60 v103 (((pm_I v60 x0 85) - 1).toNatClampNeg) y105) v109 ((pm_I (pm_setI v60 v103 (((pm_I v60 x0 85) - 1).toNatClampNeg) y105) x0 85).toNatClampNeg) x1) v113 ((pm_I (pm_setI (pm_setI v60 v103 (((pm_I v60 x0 85) - 1).toNatClampNeg) y105) v109 ((pm_I (pm_setI v60 v103 (((pm_I v60 x0 85) - 1).toNatClampNeg) y105) x0 85).toNatClampNeg) x1) x0 85).toNatClampNeg) y115) x0 85).toNatClampNeg) s0) x0 85).toNatClampNeg) y130) v134 ((pm_I (pm_setI (pm_setI (pm_setI (pm_setI (pm_setI v60 v103 (((pm_I v60 x0 85) - 1).toNatClampNeg) y105) v109 ((pm_I (pm_setI v60 v103 (((pm_I v60 x0 85) - 1).toNatClampNeg) y105) x0 85).toNatClampNeg) x1) v113 ((pm_I (pm_setI (pm_setI v60 v103 (((pm_I v60 x0 85) - 1).toNatClampNeg) y105) v109 ((pm_I (pm_setI v60 v103 (((pm_I v60 x0 85) - 1).toNatClampNeg) y105) x0 85).toNatClampNeg) x1) x0 85).toNatClampNeg) y115) v119 ((pm_I (pm_setI (pm_setI (pm_setI v60 v103 (((pm_I v60 x0 85) - 1).toNatClampNeg) y105) v109 ((pm_I (pm_setI v60 v103 (((pm_I v60 x0 85) - 1).toNatClampNeg) y105) x0 85).toNatClampNeg) x1) v113 ((pm_I (pm_setI (pm_setI v60 v103 (((pm_I v60 x0 85) - 1).toNatClampNeg) y105) v109 ((pm_I (pm_setI v60 v103 (((pm_I v60 x0 85) - 1).toNatClampNeg) y105) x0 85).toNatClampNeg) x1) x0 85).toNatClampNeg) y115) x0 85).toNatClampNeg) s0) v123 ((pm_I (pm_setI (pm_setI (pm_setI (pm_setI v60 v103 (((pm_I v60 x0 85) - 1).toNatClampNeg) y105) v109 ((pm_I (pm_setI v60 v103 (((pm_I v60 x0 85) - 1).toNatClampNeg) y105) x0 85).toNatClampNeg) x1) v113 ((pm_I (pm_setI (pm_setI v60 v103 (((pm_I v60 x0 85) - 1).toNatClampNeg) y105) v109 ((pm_I (pm_setI v60 v103 (((pm_I v60 x0 85) - 1).toNatClampNeg) y105) x0 85).toNatClampNeg) x1) x0 85).toNatClampNeg) y115) v119 ((pm_I (pm_setI (pm_setI (pm_setI v60 v103 (((pm_I v60 x0 85) - 1).toNatClampNeg) y105) v109 ((pm_I (pm_setI v60 v103 (((pm_I v60 x0 85) - 1).toNatClampNeg) y105) x0 85).toNatClampNeg) x1) v113 ((pm_I (pm_setI (pm_setI v60 v103 (((pm_I v60 x0 85) - 1).toNatClampNeg) y105) v109 ((pm_I (pm_setI v60 v103 (((pm_I v60 x0 85) - 1).toNatClampNeg) y105) x0 85).toNatClampNeg) x1) x0 85).toNatClampNeg) y115) x0 85).toNatClampNeg) s0) x0 85).toNatClampNeg) y130) x0 85).toNatClampNeg) y136) x0 85 y140) x0 10 (some x2)) x0 95 y146) hi)
        · have hf := pm_ie hf c59
          refine pm_aload_n C dX16_enters_141 rfl rfl ?_
          refine pm_iconst (v := 4) C dX16_enters_142 (by decide) ?_
          refine pm_putI C dX16_enters_143 flX16_970 rfl rfl k52 rfl rfl ?_
          cases hf
          cases hi
          exact pm_vret C X dX16_enters_146 rfl (Nat.le_refl _) (Nat.le_refl _) q
    refine ⟨fun x0 x1 x2 x3 x4 x6 x7 h hf => ?_, ?_⟩
    · obtain ⟨y, hf, hi⟩ := pm_iter_s hf
      have hf : tX16_enters_267 x0 x1 x2 x3 x4 x6 x7 h = some y := hf
      unfold tX16_enters_267 at hf
      refine pm_iload C dX16_enters_267 rfl ?_
      refine pm_iload C dX16_enters_269 rfl ?_
      refine pm_icmp_ge (tgt := 297) C dX16_enters_271 (by decide) (fun c148 => ?_) (fun c148 => ?_)
      · have hf := pm_it hf c148
        refine pm_aload_n C dX16_enters_297 rfl rfl ?_
        refine pm_iload C dX16_enters_298 rfl ?_
        refine pm_iload C dX16_enters_300 rfl ?_
        refine pm_iadd C dX16_enters_302 ?_
        obtain ⟨y149, e150, hf⟩ := pm_lt hf
        refine pm_topI e150 ?_
        obtain ⟨k151, hf⟩ := pm_if hf
        refine pm_putI C dX16_enters_303 flX16_1104 rfl rfl k151 rfl rfl ?_
        refine pm_aload_n C dX16_enters_306 rfl rfl ?_
        refine pm_aload_n C dX16_enters_307 rfl rfl ?_
        obtain ⟨k152, hf⟩ := pm_if hf
        obtain ⟨v153, e154, hf⟩ := pm_bd hf
        refine pm_getR C dX16_enters_308 flX16_517 rfl k152 e154 ?_
        refine pm_iload_n C dX16_enters_311 rfl rfl ?_
        obtain ⟨k155, hf⟩ := pm_if hf
        obtain ⟨u156, hf⟩ := pm_if hf
        refine pm_iald C dX16_enters_312 k155 u156 rfl ?_
        obtain ⟨y157, e158, hf⟩ := pm_lt hf
        refine pm_topI e158 ?_
        refine pm_putI C dX16_enters_313 flX16_594 rfl rfl k151 rfl rfl ?_
        refine pm_aload_n C dX16_enters_316 rfl rfl ?_
        obtain ⟨v159, e160, hf⟩ := pm_bd hf
        refine pm_callV (as := []) (st := []) C X dX16_enters_317 lnX16_603 myX16_word viX16_word ⟨by decide, by decide⟩ rfl rfl k151 (Nat.le_of_ble_eq_true rfl) (Nat.le_refl _) (Nat.le_refl _) (ctX16_word e160 ?_)
        show pm_G g 320 [(0, .ref x0), (1, .int x1), (2, .ref x2), (3, .int x3), (4, .int x4), (6, .int x6), (7, .int x7)] [.long v159.1] v159.2 0 0
        refine pm_lstore (lv' := [(7, .long v159.1), (0, .ref x0), (1, .int x1), (2, .ref x2), (3, .int x3), (4, .int x4), (6, .int x6)]) C dX16_enters_320 (pm_nl X (by decide)) rfl ?_
        cases hf
        exact pm_sub [1, 2, 3, 4, 0] rfl (ih.2.2.1 x0 x1 x2 x3 v159.1 v159.2 hi)
      · have hf := pm_ie hf c148
        refine pm_aload_n C dX16_enters_274 rfl rfl ?_
        obtain ⟨k161, hf⟩ := pm_if hf
        obtain ⟨v162, e163, hf⟩ := pm_bd hf
        refine pm_getR C dX16_enters_275 flX16_191 rfl k161 e163 ?_
        refine pm_iload C dX16_enters_278 rfl ?_
        refine pm_iload C dX16_enters_280 rfl ?_
        refine pm_iadd C dX16_enters_282 ?_
        refine pm_aload_n C dX16_enters_283 rfl rfl ?_
        obtain ⟨v164, e165, hf⟩ := pm_bd hf
        refine pm_getR C dX16_enters_284 flX16_170 rfl k161 e165 ?_
        refine pm_iload C dX16_enters_287 rfl ?_
        obtain ⟨k166, hf⟩ := pm_if hf
        obtain ⟨u167, hf⟩ := pm_if hf
        refine pm_lald C dX16_enters_289 k166 u167 rfl ?_
        obtain ⟨y168, e169, hf⟩ := pm_lt hf
        refine pm_topL e169 ?_
        obtain ⟨k170, hf⟩ := pm_if hf
        obtain ⟨u171, hf⟩ := pm_if hf
        refine pm_last C dX16_enters_290 k170 u171 ?_
        obtain ⟨y172, e173, hf⟩ := pm_lt hf
        refine pm_iinc (v := y172) (lv' := [(7, .int y172), (0, .ref x0), (1, .int x1), (2, .ref x2), (3, .int x3), (4, .int x4), (6, .int x6)]) C dX16_enters_291 rfl ((congrArg (x7 + ·) (by decide : Int32.ofInt 1 = 1)).trans e173) (pm_nl X (by decide)) rfl ?_
        refine pm_goto (tgt := 267) C dX16_enters_294 (by decide) ?_
        cases hf
        exact pm_sub [1, 2, 3, 4, 5, 6, 0] rfl (ih.2.1 x0 x1 x2 x3 x4 x6 y172 (pm_setL h v162 ((x6 + x7).toNatClampNeg) y168) hi)
    refine ⟨fun x0 x1 x2 x3 x7 h hf => ?_, ?_⟩
    · obtain ⟨y, hf, hi⟩ := pm_iter_s hf
      have hf : tX16_enters_322 x0 x1 x2 x3 x7 h = some y := hf
      unfold tX16_enters_322 at hf
      refine pm_lload C dX16_enters_322 rfl ?_
      refine pm_lconst (v := 0) C dX16_enters_324 (by decide) ?_
      refine pm_lcmp C dX16_enters_325 ?_
      refine pm_if_le (tgt := 414) C dX16_enters_326 (by decide) (fun c174 => ?_) (fun c174 => ?_)
      · have hf := pm_it hf ((pm_lg_le _ _).mp c174)
        refine pm_aload_n C dX16_enters_414 rfl rfl ?_
        refine pm_aload_n C dX16_enters_415 rfl rfl ?_
        obtain ⟨k175, hf⟩ := pm_if hf
        obtain ⟨v176, e177, hf⟩ := pm_bd hf
        refine pm_getR C dX16_enters_416 flX16_523 rfl k175 e177 ?_
        refine pm_iload_n C dX16_enters_419 rfl rfl ?_
        obtain ⟨k178, hf⟩ := pm_if hf
        obtain ⟨u179, hf⟩ := pm_if hf
        refine pm_iald C dX16_enters_420 k178 u179 rfl ?_
        obtain ⟨y180, e181, hf⟩ := pm_lt hf
        refine pm_topI e181 ?_
        obtain ⟨k182, hf⟩ := pm_if hf
        refine pm_putI C dX16_enters_421 flX16_1107 rfl rfl k182 rfl rfl ?_
        refine pm_aload_n C dX16_enters_424 rfl rfl ?_
        refine pm_aload_n C dX16_enters_425 rfl rfl ?_
        obtain ⟨v183, e184, hf⟩ := pm_bd hf
        refine pm_getR C dX16_enters_426 flX16_526 rfl k175 e184 ?_
        refine pm_iload_n C dX16_enters_429 rfl rfl ?_
        obtain ⟨k185, hf⟩ := pm_if hf
        obtain ⟨u186, hf⟩ := pm_if hf
        refine pm_iald C dX16_enters_430 k185 u186 rfl ?_
        refine pm_aload_n C dX16_enters_431 rfl rfl ?_
        obtain ⟨v187, e188, hf⟩ := pm_bd hf
        refine pm_getR C dX16_enters_432 flX16_390 rfl k175 e188 ?_
        refine pm_aload_n C dX16_enters_435 rfl rfl ?_
        obtain ⟨v189, e190, hf⟩ := pm_bd hf
        refine pm_getR C dX16_enters_436 flX16_71 rfl k182 e190 ?_
        refine pm_iload_n C dX16_enters_439 rfl rfl ?_
        obtain ⟨k191, hf⟩ := pm_if hf
        obtain ⟨u192, hf⟩ := pm_if hf
        refine pm_iald C dX16_enters_440 k191 u192 rfl ?_
        obtain ⟨y193, e194, hf⟩ := pm_lt hf
        refine pm_topI e194 ?_
        obtain ⟨k195, hf⟩ := pm_if hf
        obtain ⟨u196, hf⟩ := pm_if hf
        refine pm_iald C dX16_enters_441 k195 u196 rfl ?_
        refine pm_iconst (v := 0) C dX16_enters_442 (by decide) ?_
        refine pm_iconst (v := 1) C dX16_enters_443 (by decide) ?_
        obtain ⟨v197, e198, hf⟩ := pm_bd hf
        refine pm_callV (as := [.int (pm_I (pm_setI h x0 94 y180) v183 x3.toNatClampNeg), .int (pm_I (pm_setI h x0 94 y180) v187 y193.toNatClampNeg), .int 0, .int 1]) (st := []) C X dX16_enters_444 lnX16_1113 myX16_opens viX16_opens ⟨by decide, by decide⟩ rfl rfl k182 (Nat.le_of_ble_eq_true rfl) (Nat.le_refl _) (Nat.le_refl _) (ctX16_opens e198 ?_)
        show pm_G g 447 [(0, .ref x0), (1, .int x1), (2, .ref x2), (3, .int x3), (7, .long x7)] [] v197 0 0
        cases hf
        cases hi
        exact pm_vret C X dX16_enters_447 rfl (Nat.le_refl _) (Nat.le_refl _) q
      · have hf := pm_ie hf ((fun z => c174 ((pm_lg_le _ _).mpr z)))
        refine pm_aload_n C dX16_enters_329 rfl rfl ?_
        obtain ⟨k199, hf⟩ := pm_if hf
        obtain ⟨v200, e201, hf⟩ := pm_bd hf
        refine pm_callV (as := []) (st := []) C X dX16_enters_330 lnX16_603 myX16_word viX16_word ⟨by decide, by decide⟩ rfl rfl k199 (Nat.le_of_ble_eq_true rfl) (Nat.le_refl _) (Nat.le_refl _) (ctX16_word e201 ?_)
        show pm_G g 333 [(0, .ref x0), (1, .int x1), (2, .ref x2), (3, .int x3), (7, .long x7)] [.long v200.1] v200.2 0 0
        refine pm_lstore (lv' := [(9, .long v200.1), (0, .ref x0), (1, .int x1), (2, .ref x2), (3, .int x3), (7, .long x7)]) C dX16_enters_333 (pm_nl X (by decide)) rfl ?_
        refine pm_aload_n C dX16_enters_335 rfl rfl ?_
        refine pm_aload_n C dX16_enters_336 rfl rfl ?_
        obtain ⟨k202, hf⟩ := pm_if hf
        refine pm_getI C dX16_enters_337 flX16_594 rfl k202 rfl ?_
        obtain ⟨k203, hf⟩ := pm_if hf
        obtain ⟨v204, e205, hf⟩ := pm_bd hf
        refine pm_callV (as := [.int (pm_I v200.2 x0 19)]) (st := []) C X dX16_enters_340 lnX16_261 myX14_at viX14_at ⟨by decide, by decide⟩ rfl rfl k203 (Nat.le_of_ble_eq_true rfl) (Nat.le_refl _) (Nat.le_refl _) (ctX14_at e205 ?_)
        show pm_G g 343 [(9, .long v200.1), (0, .ref x0), (1, .int x1), (2, .ref x2), (3, .int x3), (7, .long x7)] [.int v204] v200.2 0 0
        obtain ⟨v206, e207, hf⟩ := pm_lt hf
        refine pm_callS (as := [.int v204]) (st := []) C X dX16_enters_343 lnX16_270 myX16_isReference stX16_isReference ⟨by decide, by decide⟩ rfl rfl (Nat.le_of_ble_eq_true rfl) (Nat.le_refl _) (Nat.le_refl _) (ctX16_isReference e207 ?_)
        show pm_G g 346 [(9, .long v200.1), (0, .ref x0), (1, .int x1), (2, .ref x2), (3, .int x3), (7, .long x7)] [.int v206] v200.2 0 0
        refine pm_if_eq (tgt := 355) C dX16_enters_346 (by decide) (fun c208 => ?_) (fun c208 => ?_)
        · have hf := pm_it hf c208
          refine pm_lconst (v := 0) C dX16_enters_355 (by decide) ?_
          refine pm_lstore (lv' := [(11, .long 0), (9, .long v200.1), (0, .ref x0), (1, .int x1), (2, .ref x2), (3, .int x3), (7, .long x7)]) C dX16_enters_356 (pm_nl X (by decide)) rfl ?_
          refine pm_aload_n C dX16_enters_358 rfl rfl ?_
          refine pm_dup C dX16_enters_359 rfl ?_
          refine pm_getI C dX16_enters_360 flX16_594 rfl k202 rfl ?_
          refine pm_iconst (v := 1) C dX16_enters_363 (by decide) ?_
          refine pm_iadd C dX16_enters_364 ?_
          obtain ⟨y209, e210, hf⟩ := pm_lt hf
          refine pm_topI e210 ?_
          refine pm_putI C dX16_enters_365 flX16_594 rfl rfl k202 rfl rfl ?_
          cases hf
          exact pm_sub [2, 3, 4, 5, 6, 1, 0] rfl (ih.2.2.2 x0 x1 x2 x3 x7 v200.1 0 (pm_setI v200.2 x0 19 y209) hi)
        · have hf := pm_ie hf c208
          refine pm_ldc2 C dX16_enters_349 cnX16_268 ?_
          refine pm_goto (tgt := 356) C dX16_enters_352 (by decide) ?_
          refine pm_lstore (lv' := [(11, .long (-1)), (9, .long v200.1), (0, .ref x0), (1, .int x1), (2, .ref x2), (3, .int x3), (7, .long x7)]) C dX16_enters_356 (pm_nl X (by decide)) rfl ?_
          refine pm_aload_n C dX16_enters_358 rfl rfl ?_
          refine pm_dup C dX16_enters_359 rfl ?_
          refine pm_getI C dX16_enters_360 flX16_594 rfl k202 rfl ?_
          refine pm_iconst (v := 1) C dX16_enters_363 (by decide) ?_
          refine pm_iadd C dX16_enters_364 ?_
          obtain ⟨y211, e212, hf⟩ := pm_lt hf
          refine pm_topI e212 ?_
          refine pm_putI C dX16_enters_365 flX16_594 rfl rfl k202 rfl rfl ?_
          cases hf
          exact pm_sub [2, 3, 4, 5, 6, 1, 0] rfl (ih.2.2.2 x0 x1 x2 x3 x7 v200.1 (-1) (pm_setI v200.2 x0 19 y211) hi)
    refine fun x0 x1 x2 x3 x7 x9 x11 h hf => ?_
    obtain ⟨y, hf, hi⟩ := pm_iter_s hf
    have hf : tX16_enters_368 x0 x1 x2 x3 x7 x9 x11 h = some y := hf
    unfold tX16_enters_368 at hf
    refine pm_lload C dX16_enters_368 rfl ?_
    refine pm_lconst (v := 0) C dX16_enters_370 (by decide) ?_
    refine pm_lcmp C dX16_enters_371 ?_
    refine pm_if_le (tgt := 405) C dX16_enters_372 (by decide) (fun c213 => ?_) (fun c213 => ?_)
    · have hf := pm_it hf ((pm_lg_le _ _).mp c213)
      refine pm_lload C dX16_enters_405 rfl ?_
      refine pm_lconst (v := 1) C dX16_enters_407 (by decide) ?_
      refine pm_lsub C dX16_enters_408 ?_
      obtain ⟨y214, e215, hf⟩ := pm_lt hf
      refine pm_topL e215 ?_
      refine pm_lstore (lv' := [(7, .long y214), (0, .ref x0), (1, .int x1), (2, .ref x2), (3, .int x3), (9, .long x9), (11, .long x11)]) C dX16_enters_409 (pm_nl X (by decide)) rfl ?_
      refine pm_goto (tgt := 322) C dX16_enters_411 (by decide) ?_
      cases hf
      exact pm_sub [1, 2, 3, 4, 0] rfl (ih.2.2.1 x0 x1 x2 x3 y214 h hi)
    · have hf := pm_ie hf ((fun z => c213 ((pm_lg_le _ _).mpr z)))
      refine pm_aload_n C dX16_enters_375 rfl rfl ?_
      obtain ⟨k216, hf⟩ := pm_if hf
      obtain ⟨v217, e218, hf⟩ := pm_bd hf
      refine pm_getR C dX16_enters_376 flX16_191 rfl k216 e218 ?_
      refine pm_aload_n C dX16_enters_379 rfl rfl ?_
      refine pm_getI C dX16_enters_380 flX16_1104 rfl k216 rfl ?_
      refine pm_lload C dX16_enters_383 rfl ?_
      obtain ⟨k219, hf⟩ := pm_if hf
      obtain ⟨u220, hf⟩ := pm_if hf
      refine pm_last C dX16_enters_385 k219 u220 ?_
      refine pm_aload_n C dX16_enters_386 rfl rfl ?_
      refine pm_dup C dX16_enters_387 rfl ?_
      refine pm_getI C dX16_enters_388 flX16_1104 rfl k216 rfl ?_
      refine pm_iconst (v := 1) C dX16_enters_391 (by decide) ?_
      refine pm_iadd C dX16_enters_392 ?_
      obtain ⟨y221, e222, hf⟩ := pm_lt hf
      refine pm_topI e222 ?_
      refine pm_putI C dX16_enters_393 flX16_1104 rfl rfl k216 rfl rfl ?_
      refine pm_lload C dX16_enters_396 rfl ?_
      refine pm_lconst (v := 1) C dX16_enters_398 (by decide) ?_
      refine pm_lsub C dX16_enters_399 ?_
      obtain ⟨y223, e224, hf⟩ := pm_lt hf
      refine pm_topL e224 ?_
      refine pm_lstore (lv' := [(9, .long y223), (0, .ref x0), (1, .int x1), (2, .ref x2), (3, .int x3), (7, .long x7), (11, .long x11)]) C dX16_enters_400 (pm_nl X (by decide)) rfl ?_
      refine pm_goto (tgt := 368) C dX16_enters_402 (by decide) ?_
      cases hf
      exact pm_sub [1, 2, 3, 4, 5, 0, 6] rfl (ih.2.2.2 x0 x1 x2 x3 x7 y223 x11 (pm_setI (pm_setL h v217 ((pm_I h x0 93).toNatClampNeg) x11) x0 93 y221) hi)
set_option maxHeartbeats 4000000 in
set_option maxRecDepth 100000 in
theorem ctX16_enters {l : Launch} {G : pm_Gl} {h : pm_H} {a0 : Nat} {p1 : Int32} {r : pm_H} {Qr : Option Value → pm_H → Prop} (hf : fX16_enters h a0 p1 = some r) (q : Qr none r) : pm_Ct l G mX16_enters [.ref a0, .int p1] h 0 0 Qr := by
  refine pm_body pnX16 (Nat.le_of_ble_eq_true rfl) (fun g C X => ?_)
  have C : pm_C g cX16_enters RX16 := C
  show pm_G g 0 [(0, .ref a0), (1, .int p1)] [] h 0 0
  unfold fX16_enters at hf
  refine pm_aload_n C dX16_enters_0 rfl rfl ?_
  obtain ⟨k1, hf⟩ := pm_if hf
  obtain ⟨v2, e3, hf⟩ := pm_bd hf
  refine pm_getR C dX16_enters_1 flX16_80 rfl k1 e3 ?_
  refine pm_iload_n C dX16_enters_4 rfl rfl ?_
  obtain ⟨k4, hf⟩ := pm_if hf
  obtain ⟨u5, hf⟩ := pm_if hf
  refine pm_iald C dX16_enters_5 k4 u5 rfl ?_
  refine pm_if_lt (tgt := 39) C dX16_enters_6 (by decide) (fun c6 => ?_) (fun c6 => ?_)
  · have hf := pm_it hf c6
    refine pm_aload_n C dX16_enters_39 rfl rfl ?_
    refine pm_iload_n C dX16_enters_40 rfl rfl ?_
    obtain ⟨v7, e8, hf⟩ := pm_bd hf
    refine pm_callV (as := [.int p1]) (st := []) C X dX16_enters_41 lnX16_1065 myX16_planOf viX16_planOf ⟨by decide, by decide⟩ rfl rfl k1 (Nat.le_of_ble_eq_true rfl) (Nat.le_refl _) (Nat.le_refl _) (ctX16_planOf e8 ?_)
    show pm_G g 44 [(0, .ref a0), (1, .int p1)] [.ref v7] h 0 0
    refine pm_astore_n (lv' := [(2, .ref v7), (0, .ref a0), (1, .int p1)]) C dX16_enters_44 rfl (pm_nl X (by decide)) rfl ?_
    refine pm_aload_n C dX16_enters_45 rfl rfl ?_
    obtain ⟨v9, e10, hf⟩ := pm_bd hf
    refine pm_getR C dX16_enters_46 flX16_77 rfl k1 e10 ?_
    refine pm_iload_n C dX16_enters_49 rfl rfl ?_
    obtain ⟨k11, hf⟩ := pm_if hf
    obtain ⟨u12, hf⟩ := pm_if hf
    refine pm_iald C dX16_enters_50 k11 u12 rfl ?_
    obtain ⟨y13, e14, hf⟩ := pm_lt hf
    refine pm_topI e14 ?_
    refine pm_istore_n (lv' := [(3, .int y13), (2, .ref v7), (0, .ref a0), (1, .int p1)]) C dX16_enters_51 rfl (pm_nl X (by decide)) rfl ?_
    refine pm_aload_n C dX16_enters_52 rfl rfl ?_
    obtain ⟨k15, hf⟩ := pm_if hf
    obtain ⟨v16, e17, hf⟩ := pm_bd hf
    refine pm_getR C dX16_enters_53 flX16_387 rfl k15 e17 ?_
    refine pm_aload_n C dX16_enters_56 rfl rfl ?_
    obtain ⟨v18, e19, hf⟩ := pm_bd hf
    refine pm_getR C dX16_enters_57 flX16_71 rfl k1 e19 ?_
    refine pm_iload_n C dX16_enters_60 rfl rfl ?_
    obtain ⟨k20, hf⟩ := pm_if hf
    obtain ⟨u21, hf⟩ := pm_if hf
    refine pm_iald C dX16_enters_61 k20 u21 rfl ?_
    obtain ⟨y22, e23, hf⟩ := pm_lt hf
    refine pm_topI e23 ?_
    obtain ⟨k24, hf⟩ := pm_if hf
    obtain ⟨u25, hf⟩ := pm_if hf
    refine pm_iald C dX16_enters_62 k24 u25 rfl ?_
    obtain ⟨y26, e27, hf⟩ := pm_lt hf
    refine pm_topI e27 ?_
    refine pm_istore (lv' := [(4, .int y26), (3, .int y13), (2, .ref v7), (0, .ref a0), (1, .int p1)]) C dX16_enters_63 (pm_nl X (by decide)) rfl ?_
    refine pm_iload C dX16_enters_65 rfl ?_
    refine pm_aload_n C dX16_enters_67 rfl rfl ?_
    obtain ⟨v28, e29, hf⟩ := pm_bd hf
    refine pm_getR C dX16_enters_68 flX16_520 rfl k15 e29 ?_
    refine pm_iload_n C dX16_enters_71 rfl rfl ?_
    obtain ⟨k30, hf⟩ := pm_if hf
    obtain ⟨u31, hf⟩ := pm_if hf
    refine pm_lald C dX16_enters_72 k30 u31 rfl ?_
    refine pm_l2i C dX16_enters_73 ?_
    refine pm_iadd C dX16_enters_74 ?_
    obtain ⟨y32, e33, hf⟩ := pm_lt hf
    refine pm_topI e33 ?_
    refine pm_istore (lv' := [(5, .int y32), (4, .int y26), (3, .int y13), (2, .ref v7), (0, .ref a0), (1, .int p1)]) C dX16_enters_75 (pm_nl X (by decide)) rfl ?_
    refine pm_aload_n C dX16_enters_77 rfl rfl ?_
    refine pm_getI C dX16_enters_78 flX16_1052 rfl k1 rfl ?_
    refine pm_if_ne (tgt := 88) C dX16_enters_81 (by decide) (fun c34 => ?_) (fun c34 => ?_)
    · have hf := pm_ie hf c34
      refine pm_aload_n C dX16_enters_88 rfl rfl ?_
      obtain ⟨v35, e36, hf⟩ := pm_bd hf
      refine pm_getR C dX16_enters_89 flX16_179 rfl k1 e36 ?_
      refine pm_aload_n C dX16_enters_92 rfl rfl ?_
      refine pm_getI C dX16_enters_93 flX16_1052 rfl k1 rfl ?_
      refine pm_iconst (v := 1) C dX16_enters_96 (by decide) ?_
      refine pm_isub C dX16_enters_97 ?_
      obtain ⟨y37, e38, hf⟩ := pm_lt hf
      refine pm_topI e38 ?_
      obtain ⟨k39, hf⟩ := pm_if hf
      obtain ⟨u40, hf⟩ := pm_if hf
      refine pm_iald C dX16_enters_98 k39 u40 rfl ?_
      refine pm_aload_n C dX16_enters_99 rfl rfl ?_
      obtain ⟨v41, e42, hf⟩ := pm_bd hf
      refine pm_getR C dX16_enters_100 flX16_182 rfl k1 e42 ?_
      refine pm_aload_n C dX16_enters_103 rfl rfl ?_
      refine pm_getI C dX16_enters_104 flX16_1052 rfl k1 rfl ?_
      refine pm_iconst (v := 1) C dX16_enters_107 (by decide) ?_
      refine pm_isub C dX16_enters_108 ?_
      obtain ⟨y43, e44, hf⟩ := pm_lt hf
      refine pm_topI e44 ?_
      obtain ⟨k45, hf⟩ := pm_if hf
      obtain ⟨u46, hf⟩ := pm_if hf
      refine pm_iald C dX16_enters_109 k45 u46 rfl ?_
      refine pm_iadd C dX16_enters_110 ?_
      obtain ⟨n, hn⟩ := pm_lim_iter hf
      exact pm_sub [4, 5, 3, 2, 1, 0] rfl ((lpX16_enters C X q n).1 a0 p1 v7 y13 y26 y32 ((pm_I h v35 y37.toNatClampNeg) + (pm_I h v41 y43.toNatClampNeg)) h hn)
    · have hf := pm_it hf c34
      refine pm_iconst (v := 0) C dX16_enters_84 (by decide) ?_
      refine pm_goto (tgt := 111) C dX16_enters_85 (by decide) ?_
      obtain ⟨n, hn⟩ := pm_lim_iter hf
      exact pm_sub [4, 5, 3, 2, 1, 0] rfl ((lpX16_enters C X q n).1 a0 p1 v7 y13 y26 y32 0 h hn)
  · have hf := pm_ie hf c6
    refine pm_aload_n C dX16_enters_9 rfl rfl ?_
    refine pm_iconst (v := 5) C dX16_enters_10 (by decide) ?_
    refine pm_putI C dX16_enters_11 flX16_970 rfl rfl k1 rfl rfl ?_
    refine pm_aload_n C dX16_enters_14 rfl rfl ?_
    refine pm_aload_n C dX16_enters_15 rfl rfl ?_
    refine pm_getR C dX16_enters_16 flX16_80 rfl k1 e3 ?_
    refine pm_iload_n C dX16_enters_19 rfl rfl ?_
    obtain ⟨u47, hf⟩ := pm_if hf
    refine pm_iald C dX16_enters_20 k4 u47 rfl ?_
    obtain ⟨y48, e49, hf⟩ := pm_lt hf
    refine pm_topI e49 ?_
    refine pm_putI C dX16_enters_21 flX16_164 rfl rfl k1 rfl rfl ?_
    refine pm_aload_n C dX16_enters_24 rfl rfl ?_
    refine pm_iload_n C dX16_enters_25 rfl rfl ?_
    refine pm_putI C dX16_enters_26 flX16_1095 rfl rfl k1 rfl rfl ?_
    refine pm_aload_n C dX16_enters_29 rfl rfl ?_
    refine pm_aload_n C dX16_enters_30 rfl rfl ?_
    refine pm_iload_n C dX16_enters_31 rfl rfl ?_
    obtain ⟨v50, e51, hf⟩ := pm_bd hf
    refine pm_callV (as := [.int p1]) (st := [.ref a0]) C X dX16_enters_32 lnX16_1077 myX16_parametersIn viX16_parametersIn ⟨by decide, by decide⟩ rfl rfl k1 (Nat.le_of_ble_eq_true rfl) (Nat.le_refl _) (Nat.le_refl _) (ctX16_parametersIn e51 ?_)
    show pm_G g 35 [(0, .ref a0), (1, .int p1)] [.int v50, .ref a0] (pm_setI (pm_setI (pm_setI h a0 76 5) a0 79 y48) a0 80 p1) 0 0
    refine pm_putI C dX16_enters_35 flX16_1098 rfl rfl k1 rfl rfl ?_
    cases hf
    exact pm_vret C X dX16_enters_38 rfl (Nat.le_refl _) (Nat.le_refl _) q
theorem dX16_export_0 : decode cX16_export 0 = .ok (.aload_n 0, 1) := by decide +kernel
theorem dX16_export_1 : decode cX16_export 1 = .ok (.iload_n 1, 1) := by decide +kernel
theorem dX16_export_2 : decode cX16_export 2 = .ok (.iload_n 2, 1) := by decide +kernel
theorem dX16_export_3 : decode cX16_export 3 = .ok (.invokevirtual 961, 3) := by decide +kernel
theorem dX16_export_6 : decode cX16_export 6 = .ok (.ifCond .ne 5, 3) := by decide +kernel
theorem dX16_export_9 : decode cX16_export 9 = .ok (.iconst (-1), 1) := by decide +kernel
theorem dX16_export_10 : decode cX16_export 10 = .ok (.ireturn, 1) := by decide +kernel
theorem dX16_export_11 : decode cX16_export 11 = .ok (.aload_n 0, 1) := by decide +kernel
theorem dX16_export_12 : decode cX16_export 12 = .ok (.iload_n 1, 1) := by decide +kernel
theorem dX16_export_13 : decode cX16_export 13 = .ok (.iload_n 2, 1) := by decide +kernel
theorem dX16_export_14 : decode cX16_export 14 = .ok (.invokevirtual 955, 3) := by decide +kernel
theorem dX16_export_17 : decode cX16_export 17 = .ok (.istore 4, 2) := by decide +kernel
theorem dX16_export_19 : decode cX16_export 19 = .ok (.aload_n 0, 1) := by decide +kernel
theorem dX16_export_20 : decode cX16_export 20 = .ok (.iload_n 1, 1) := by decide +kernel
theorem dX16_export_21 : decode cX16_export 21 = .ok (.iload_n 2, 1) := by decide +kernel
theorem dX16_export_22 : decode cX16_export 22 = .ok (.invokevirtual 964, 3) := by decide +kernel
theorem dX16_export_25 : decode cX16_export 25 = .ok (.istore 5, 2) := by decide +kernel
theorem dX16_export_27 : decode cX16_export 27 = .ok (.iload_n 3, 1) := by decide +kernel
theorem dX16_export_28 : decode cX16_export 28 = .ok (.tableswitch 130 0 5 #[40, 43, 46, 62, 78, 112], 40) := by decide +kernel
theorem dX16_export_68 : decode cX16_export 68 = .ok (.iload 4, 2) := by decide +kernel
theorem dX16_export_70 : decode cX16_export 70 = .ok (.ireturn, 1) := by decide +kernel
theorem dX16_export_71 : decode cX16_export 71 = .ok (.iload 5, 2) := by decide +kernel
theorem dX16_export_73 : decode cX16_export 73 = .ok (.ireturn, 1) := by decide +kernel
theorem dX16_export_74 : decode cX16_export 74 = .ok (.iload 4, 2) := by decide +kernel
theorem dX16_export_76 : decode cX16_export 76 = .ok (.ifCond .ne 12, 3) := by decide +kernel
theorem dX16_export_79 : decode cX16_export 79 = .ok (.aload_n 0, 1) := by decide +kernel
theorem dX16_export_80 : decode cX16_export 80 = .ok (.iload 5, 2) := by decide +kernel
theorem dX16_export_82 : decode cX16_export 82 = .ok (.invokevirtual 1077, 3) := by decide +kernel
theorem dX16_export_85 : decode cX16_export 85 = .ok (.goto 4, 3) := by decide +kernel
theorem dX16_export_88 : decode cX16_export 88 = .ok (.iconst (-1), 1) := by decide +kernel
theorem dX16_export_89 : decode cX16_export 89 = .ok (.ireturn, 1) := by decide +kernel
theorem dX16_export_90 : decode cX16_export 90 = .ok (.iload 4, 2) := by decide +kernel
theorem dX16_export_92 : decode cX16_export 92 = .ok (.ifCond .ne 12, 3) := by decide +kernel
theorem dX16_export_95 : decode cX16_export 95 = .ok (.aload_n 0, 1) := by decide +kernel
theorem dX16_export_96 : decode cX16_export 96 = .ok (.iload 5, 2) := by decide +kernel
theorem dX16_export_98 : decode cX16_export 98 = .ok (.invokevirtual 1129, 3) := by decide +kernel
theorem dX16_export_101 : decode cX16_export 101 = .ok (.goto 4, 3) := by decide +kernel
theorem dX16_export_104 : decode cX16_export 104 = .ok (.iconst (-1), 1) := by decide +kernel
theorem dX16_export_105 : decode cX16_export 105 = .ok (.ireturn, 1) := by decide +kernel
theorem dX16_export_106 : decode cX16_export 106 = .ok (.iload 4, 2) := by decide +kernel
theorem dX16_export_108 : decode cX16_export 108 = .ok (.iconst 1, 1) := by decide +kernel
theorem dX16_export_109 : decode cX16_export 109 = .ok (.if_icmp .ne 13, 3) := by decide +kernel
theorem dX16_export_112 : decode cX16_export 112 = .ok (.aload_n 0, 1) := by decide +kernel
theorem dX16_export_113 : decode cX16_export 113 = .ok (.getfield 96, 3) := by decide +kernel
theorem dX16_export_116 : decode cX16_export 116 = .ok (.iload 5, 2) := by decide +kernel
theorem dX16_export_118 : decode cX16_export 118 = .ok (.iaload, 1) := by decide +kernel
theorem dX16_export_119 : decode cX16_export 119 = .ok (.goto 20, 3) := by decide +kernel
theorem dX16_export_122 : decode cX16_export 122 = .ok (.iload 4, 2) := by decide +kernel
theorem dX16_export_124 : decode cX16_export 124 = .ok (.iconst 2, 1) := by decide +kernel
theorem dX16_export_125 : decode cX16_export 125 = .ok (.if_icmp .ne 13, 3) := by decide +kernel
theorem dX16_export_128 : decode cX16_export 128 = .ok (.aload_n 0, 1) := by decide +kernel
theorem dX16_export_129 : decode cX16_export 129 = .ok (.getfield 109, 3) := by decide +kernel
theorem dX16_export_132 : decode cX16_export 132 = .ok (.iload 5, 2) := by decide +kernel
theorem dX16_export_134 : decode cX16_export 134 = .ok (.iaload, 1) := by decide +kernel
theorem dX16_export_135 : decode cX16_export 135 = .ok (.goto 4, 3) := by decide +kernel
theorem dX16_export_138 : decode cX16_export 138 = .ok (.iconst (-1), 1) := by decide +kernel
theorem dX16_export_139 : decode cX16_export 139 = .ok (.ireturn, 1) := by decide +kernel
theorem dX16_export_140 : decode cX16_export 140 = .ok (.iload 4, 2) := by decide +kernel
theorem dX16_export_142 : decode cX16_export 142 = .ok (.iconst 3, 1) := by decide +kernel
theorem dX16_export_143 : decode cX16_export 143 = .ok (.if_icmp .ne 13, 3) := by decide +kernel
theorem dX16_export_146 : decode cX16_export 146 = .ok (.aload_n 0, 1) := by decide +kernel
theorem dX16_export_147 : decode cX16_export 147 = .ok (.getfield 122, 3) := by decide +kernel
theorem dX16_export_150 : decode cX16_export 150 = .ok (.iload 5, 2) := by decide +kernel
theorem dX16_export_152 : decode cX16_export 152 = .ok (.iaload, 1) := by decide +kernel
theorem dX16_export_153 : decode cX16_export 153 = .ok (.goto 4, 3) := by decide +kernel
theorem dX16_export_156 : decode cX16_export 156 = .ok (.iconst (-1), 1) := by decide +kernel
theorem dX16_export_157 : decode cX16_export 157 = .ok (.ireturn, 1) := by decide +kernel
theorem dX16_export_158 : decode cX16_export 158 = .ok (.iconst (-1), 1) := by decide +kernel
theorem dX16_export_159 : decode cX16_export 159 = .ok (.ireturn, 1) := by decide +kernel
def fX16_export (h : pm_H) (a0 : Nat) (p1 : Int32) (p2 : Int32) (p3 : Int32) : Option Int32 := if pm_kd h a0 = 16 then (fX16_isExport h a0 p1 p2).bind fun v2 => if v2 = 0 then (some ((-1))) else ((fX16_exportKind h a0 p1 p2).bind fun v5 => (fX16_exported h a0 p1 p2).bind fun v7 => if p3 = 0 then (some v5) else (if p3 = 1 then (some v7) else (if p3 = 2 then (if v5 = 0 then ((fX16_parametersIn h a0 v7).bind fun v13 => some v13) else (some ((-1)))) else (if p3 = 3 then (if v5 = 0 then ((fX16_resultsIn h a0 v7).bind fun v17 => some v17) else (some ((-1)))) else (if p3 = 4 then (if v5 = 1 then ((pm_R h a0 49).bind fun v26 => if pm_kd h v26 = 34 then if pm_in v7 (pm_ln h v26) then some (pm_I h v26 v7.toNatClampNeg) else none else none) else (if v5 = 2 then ((pm_R h a0 54).bind fun v22 => if pm_kd h v22 = 34 then if pm_in v7 (pm_ln h v22) then some (pm_I h v22 v7.toNatClampNeg) else none else none) else (some ((-1))))) else (if p3 = 5 then (if v5 = 3 then ((pm_R h a0 59).bind fun v32 => if pm_kd h v32 = 34 then if pm_in v7 (pm_ln h v32) then some (pm_I h v32 v7.toNatClampNeg) else none else none) else (some ((-1)))) else (some ((-1))))))))) else none
set_option maxHeartbeats 4000000 in
set_option maxRecDepth 100000 in
theorem ctX16_export {l : Launch} {G : pm_Gl} {h : pm_H} {a0 : Nat} {p1 : Int32} {p2 : Int32} {p3 : Int32} {r : Int32} {Qr : Option Value → pm_H → Prop} (hf : fX16_export h a0 p1 p2 p3 = some r) (q : Qr (some (.int r)) h) : pm_Ct l G mX16_export [.ref a0, .int p1, .int p2, .int p3] h 0 0 Qr := by
  refine pm_body pnX16 (Nat.le_of_ble_eq_true rfl) (fun g C X => ?_)
  have C : pm_C g cX16_export RX16 := C
  show pm_G g 0 [(0, .ref a0), (1, .int p1), (2, .int p2), (3, .int p3)] [] h 0 0
  unfold fX16_export at hf
  refine pm_aload_n C dX16_export_0 rfl rfl ?_
  refine pm_iload_n C dX16_export_1 rfl rfl ?_
  refine pm_iload_n C dX16_export_2 rfl rfl ?_
  obtain ⟨k1, hf⟩ := pm_if hf
  obtain ⟨v2, e3, hf⟩ := pm_bd hf
  refine pm_callV (as := [.int p1, .int p2]) (st := []) C X dX16_export_3 lnX16_961 myX16_isExport viX16_isExport ⟨by decide, by decide⟩ rfl rfl k1 (Nat.le_of_ble_eq_true rfl) (Nat.le_refl _) (Nat.le_refl _) (ctX16_isExport e3 ?_)
  show pm_G g 6 [(0, .ref a0), (1, .int p1), (2, .int p2), (3, .int p3)] [.int v2] h 0 0
  refine pm_if_ne (tgt := 11) C dX16_export_6 (by decide) (fun c4 => ?_) (fun c4 => ?_)
  · have hf := pm_ie hf c4
    refine pm_aload_n C dX16_export_11 rfl rfl ?_
    refine pm_iload_n C dX16_export_12 rfl rfl ?_
    refine pm_iload_n C dX16_export_13 rfl rfl ?_
    obtain ⟨v5, e6, hf⟩ := pm_bd hf
    refine pm_callV (as := [.int p1, .int p2]) (st := []) C X dX16_export_14 lnX16_955 myX16_exportKind viX16_exportKind ⟨by decide, by decide⟩ rfl rfl k1 (Nat.le_of_ble_eq_true rfl) (Nat.le_refl _) (Nat.le_refl _) (ctX16_exportKind e6 ?_)
    show pm_G g 17 [(0, .ref a0), (1, .int p1), (2, .int p2), (3, .int p3)] [.int v5] h 0 0
    refine pm_istore (lv' := [(4, .int v5), (0, .ref a0), (1, .int p1), (2, .int p2), (3, .int p3)]) C dX16_export_17 (pm_nl X (by decide)) rfl ?_
    refine pm_aload_n C dX16_export_19 rfl rfl ?_
    refine pm_iload_n C dX16_export_20 rfl rfl ?_
    refine pm_iload_n C dX16_export_21 rfl rfl ?_
    obtain ⟨v7, e8, hf⟩ := pm_bd hf
    refine pm_callV (as := [.int p1, .int p2]) (st := []) C X dX16_export_22 lnX16_964 myX16_exported viX16_exported ⟨by decide, by decide⟩ rfl rfl k1 (Nat.le_of_ble_eq_true rfl) (Nat.le_refl _) (Nat.le_refl _) (ctX16_exported e8 ?_)
    show pm_G g 25 [(4, .int v5), (0, .ref a0), (1, .int p1), (2, .int p2), (3, .int p3)] [.int v7] h 0 0
    refine pm_istore (lv' := [(5, .int v7), (4, .int v5), (0, .ref a0), (1, .int p1), (2, .int p2), (3, .int p3)]) C dX16_export_25 (pm_nl X (by decide)) rfl ?_
    refine pm_iload_n C dX16_export_27 rfl rfl ?_
    by_cases c9 : p3 = 0
    · have hf := pm_it hf c9
      refine pm_tableIn (tgt := 68) C dX16_export_28 (by rw [c9]; decide) (by rw [c9]; decide) (by rw [c9]; rfl) (by decide) ?_
      refine pm_iload C dX16_export_68 rfl ?_
      cases hf
      exact pm_iret C X dX16_export_70 rfl (Nat.le_refl _) (Nat.le_refl _) q
    have hf := pm_ie hf c9
    by_cases c10 : p3 = 1
    · have hf := pm_it hf c10
      refine pm_tableIn (tgt := 71) C dX16_export_28 (by rw [c10]; decide) (by rw [c10]; decide) (by rw [c10]; rfl) (by decide) ?_
      refine pm_iload C dX16_export_71 rfl ?_
      cases hf
      exact pm_iret C X dX16_export_73 rfl (Nat.le_refl _) (Nat.le_refl _) q
    have hf := pm_ie hf c10
    by_cases c11 : p3 = 2
    · have hf := pm_it hf c11
      refine pm_tableIn (tgt := 74) C dX16_export_28 (by rw [c11]; decide) (by rw [c11]; decide) (by rw [c11]; rfl) (by decide) ?_
      refine pm_iload C dX16_export_74 rfl ?_
      refine pm_if_ne (tgt := 88) C dX16_export_76 (by decide) (fun c12 => ?_) (fun c12 => ?_)
      · have hf := pm_ie hf c12
        refine pm_iconst (v := (-1)) C dX16_export_88 (by decide) ?_
        cases hf
        exact pm_iret C X dX16_export_89 rfl (Nat.le_refl _) (Nat.le_refl _) q
      · have hf := pm_it hf c12
        refine pm_aload_n C dX16_export_79 rfl rfl ?_
        refine pm_iload C dX16_export_80 rfl ?_
        obtain ⟨v13, e14, hf⟩ := pm_bd hf
        refine pm_callV (as := [.int v7]) (st := []) C X dX16_export_82 lnX16_1077 myX16_parametersIn viX16_parametersIn ⟨by decide, by decide⟩ rfl rfl k1 (Nat.le_of_ble_eq_true rfl) (Nat.le_refl _) (Nat.le_refl _) (ctX16_parametersIn e14 ?_)
        show pm_G g 85 [(5, .int v7), (4, .int v5), (0, .ref a0), (1, .int p1), (2, .int p2), (3, .int p3)] [.int v13] h 0 0
        refine pm_goto (tgt := 89) C dX16_export_85 (by decide) ?_
        cases hf
        exact pm_iret C X dX16_export_89 rfl (Nat.le_refl _) (Nat.le_refl _) q
    have hf := pm_ie hf c11
    by_cases c15 : p3 = 3
    · have hf := pm_it hf c15
      refine pm_tableIn (tgt := 90) C dX16_export_28 (by rw [c15]; decide) (by rw [c15]; decide) (by rw [c15]; rfl) (by decide) ?_
      refine pm_iload C dX16_export_90 rfl ?_
      refine pm_if_ne (tgt := 104) C dX16_export_92 (by decide) (fun c16 => ?_) (fun c16 => ?_)
      · have hf := pm_ie hf c16
        refine pm_iconst (v := (-1)) C dX16_export_104 (by decide) ?_
        cases hf
        exact pm_iret C X dX16_export_105 rfl (Nat.le_refl _) (Nat.le_refl _) q
      · have hf := pm_it hf c16
        refine pm_aload_n C dX16_export_95 rfl rfl ?_
        refine pm_iload C dX16_export_96 rfl ?_
        obtain ⟨v17, e18, hf⟩ := pm_bd hf
        refine pm_callV (as := [.int v7]) (st := []) C X dX16_export_98 lnX16_1129 myX16_resultsIn viX16_resultsIn ⟨by decide, by decide⟩ rfl rfl k1 (Nat.le_of_ble_eq_true rfl) (Nat.le_refl _) (Nat.le_refl _) (ctX16_resultsIn e18 ?_)
        show pm_G g 101 [(5, .int v7), (4, .int v5), (0, .ref a0), (1, .int p1), (2, .int p2), (3, .int p3)] [.int v17] h 0 0
        refine pm_goto (tgt := 105) C dX16_export_101 (by decide) ?_
        cases hf
        exact pm_iret C X dX16_export_105 rfl (Nat.le_refl _) (Nat.le_refl _) q
    have hf := pm_ie hf c15
    by_cases c19 : p3 = 4
    · have hf := pm_it hf c19
      refine pm_tableIn (tgt := 106) C dX16_export_28 (by rw [c19]; decide) (by rw [c19]; decide) (by rw [c19]; rfl) (by decide) ?_
      refine pm_iload C dX16_export_106 rfl ?_
      refine pm_iconst (v := 1) C dX16_export_108 (by decide) ?_
      refine pm_icmp_ne (tgt := 122) C dX16_export_109 (by decide) (fun c20 => ?_) (fun c20 => ?_)
      · have hf := pm_ie hf c20
        refine pm_iload C dX16_export_122 rfl ?_
        refine pm_iconst (v := 2) C dX16_export_124 (by decide) ?_
        refine pm_icmp_ne (tgt := 138) C dX16_export_125 (by decide) (fun c21 => ?_) (fun c21 => ?_)
        · have hf := pm_ie hf c21
          refine pm_iconst (v := (-1)) C dX16_export_138 (by decide) ?_
          cases hf
          exact pm_iret C X dX16_export_139 rfl (Nat.le_refl _) (Nat.le_refl _) q
        · have hf := pm_it hf c21
          refine pm_aload_n C dX16_export_128 rfl rfl ?_
          obtain ⟨v22, e23, hf⟩ := pm_bd hf
          refine pm_getR C dX16_export_129 flX16_109 rfl k1 e23 ?_
          refine pm_iload C dX16_export_132 rfl ?_
          obtain ⟨k24, hf⟩ := pm_if hf
          obtain ⟨u25, hf⟩ := pm_if hf
          refine pm_iald C dX16_export_134 k24 u25 rfl ?_
          refine pm_goto (tgt := 139) C dX16_export_135 (by decide) ?_
          cases hf
          exact pm_iret C X dX16_export_139 rfl (Nat.le_refl _) (Nat.le_refl _) q
      · have hf := pm_it hf c20
        refine pm_aload_n C dX16_export_112 rfl rfl ?_
        obtain ⟨v26, e27, hf⟩ := pm_bd hf
        refine pm_getR C dX16_export_113 flX16_96 rfl k1 e27 ?_
        refine pm_iload C dX16_export_116 rfl ?_
        obtain ⟨k28, hf⟩ := pm_if hf
        obtain ⟨u29, hf⟩ := pm_if hf
        refine pm_iald C dX16_export_118 k28 u29 rfl ?_
        refine pm_goto (tgt := 139) C dX16_export_119 (by decide) ?_
        cases hf
        exact pm_iret C X dX16_export_139 rfl (Nat.le_refl _) (Nat.le_refl _) q
    have hf := pm_ie hf c19
    by_cases c30 : p3 = 5
    · have hf := pm_it hf c30
      refine pm_tableIn (tgt := 140) C dX16_export_28 (by rw [c30]; decide) (by rw [c30]; decide) (by rw [c30]; rfl) (by decide) ?_
      refine pm_iload C dX16_export_140 rfl ?_
      refine pm_iconst (v := 3) C dX16_export_142 (by decide) ?_
      refine pm_icmp_ne (tgt := 156) C dX16_export_143 (by decide) (fun c31 => ?_) (fun c31 => ?_)
      · have hf := pm_ie hf c31
        refine pm_iconst (v := (-1)) C dX16_export_156 (by decide) ?_
        cases hf
        exact pm_iret C X dX16_export_157 rfl (Nat.le_refl _) (Nat.le_refl _) q
      · have hf := pm_it hf c31
        refine pm_aload_n C dX16_export_146 rfl rfl ?_
        obtain ⟨v32, e33, hf⟩ := pm_bd hf
        refine pm_getR C dX16_export_147 flX16_122 rfl k1 e33 ?_
        refine pm_iload C dX16_export_150 rfl ?_
        obtain ⟨k34, hf⟩ := pm_if hf
        obtain ⟨u35, hf⟩ := pm_if hf
        refine pm_iald C dX16_export_152 k34 u35 rfl ?_
        refine pm_goto (tgt := 157) C dX16_export_153 (by decide) ?_
        cases hf
        exact pm_iret C X dX16_export_157 rfl (Nat.le_refl _) (Nat.le_refl _) q
    have hf := pm_ie hf c30
    have nc9 := lv_neT c9 (by decide : (0 : Int32).toInt = 0)
    have nc10 := lv_neT c10 (by decide : (1 : Int32).toInt = 1)
    have nc11 := lv_neT c11 (by decide : (2 : Int32).toInt = 2)
    have nc15 := lv_neT c15 (by decide : (3 : Int32).toInt = 3)
    have nc19 := lv_neT c19 (by decide : (4 : Int32).toInt = 4)
    have nc30 := lv_neT c30 (by decide : (5 : Int32).toInt = 5)
    refine pm_tableOut (tgt := 158) C dX16_export_28 (by omega) (by decide) ?_
    refine pm_iconst (v := (-1)) C dX16_export_158 (by decide) ?_
    cases hf
    exact pm_iret C X dX16_export_159 rfl (Nat.le_refl _) (Nat.le_refl _) q
  · have hf := pm_it hf c4
    refine pm_iconst (v := (-1)) C dX16_export_9 (by decide) ?_
    cases hf
    exact pm_iret C X dX16_export_10 rfl (Nat.le_refl _) (Nat.le_refl _) q
theorem dX16_exportedAs_0 : decode cX16_exportedAs 0 = .ok (.aload_n 0, 1) := by decide +kernel
theorem dX16_exportedAs_1 : decode cX16_exportedAs 1 = .ok (.iload_n 2, 1) := by decide +kernel
theorem dX16_exportedAs_2 : decode cX16_exportedAs 2 = .ok (.iload_n 3, 1) := by decide +kernel
theorem dX16_exportedAs_3 : decode cX16_exportedAs 3 = .ok (.invokevirtual 961, 3) := by decide +kernel
theorem dX16_exportedAs_6 : decode cX16_exportedAs 6 = .ok (.ifCond .eq 22, 3) := by decide +kernel
theorem dX16_exportedAs_9 : decode cX16_exportedAs 9 = .ok (.aload_n 0, 1) := by decide +kernel
theorem dX16_exportedAs_10 : decode cX16_exportedAs 10 = .ok (.iload_n 2, 1) := by decide +kernel
theorem dX16_exportedAs_11 : decode cX16_exportedAs 11 = .ok (.iload_n 3, 1) := by decide +kernel
theorem dX16_exportedAs_12 : decode cX16_exportedAs 12 = .ok (.invokevirtual 955, 3) := by decide +kernel
theorem dX16_exportedAs_15 : decode cX16_exportedAs 15 = .ok (.iload_n 1, 1) := by decide +kernel
theorem dX16_exportedAs_16 : decode cX16_exportedAs 16 = .ok (.if_icmp .ne 12, 3) := by decide +kernel
theorem dX16_exportedAs_19 : decode cX16_exportedAs 19 = .ok (.aload_n 0, 1) := by decide +kernel
theorem dX16_exportedAs_20 : decode cX16_exportedAs 20 = .ok (.iload_n 2, 1) := by decide +kernel
theorem dX16_exportedAs_21 : decode cX16_exportedAs 21 = .ok (.iload_n 3, 1) := by decide +kernel
theorem dX16_exportedAs_22 : decode cX16_exportedAs 22 = .ok (.invokevirtual 964, 3) := by decide +kernel
theorem dX16_exportedAs_25 : decode cX16_exportedAs 25 = .ok (.goto 4, 3) := by decide +kernel
theorem dX16_exportedAs_28 : decode cX16_exportedAs 28 = .ok (.iconst (-1), 1) := by decide +kernel
theorem dX16_exportedAs_29 : decode cX16_exportedAs 29 = .ok (.ireturn, 1) := by decide +kernel
def fX16_exportedAs (h : pm_H) (a0 : Nat) (p1 : Int32) (p2 : Int32) (p3 : Int32) : Option Int32 := if pm_kd h a0 = 16 then (fX16_isExport h a0 p2 p3).bind fun v2 => if v2 = 0 then (some ((-1))) else ((fX16_exportKind h a0 p2 p3).bind fun v5 => if v5 = p1 then ((fX16_exported h a0 p2 p3).bind fun v8 => some v8) else (some ((-1)))) else none
set_option maxHeartbeats 4000000 in
set_option maxRecDepth 100000 in
theorem ctX16_exportedAs {l : Launch} {G : pm_Gl} {h : pm_H} {a0 : Nat} {p1 : Int32} {p2 : Int32} {p3 : Int32} {r : Int32} {Qr : Option Value → pm_H → Prop} (hf : fX16_exportedAs h a0 p1 p2 p3 = some r) (q : Qr (some (.int r)) h) : pm_Ct l G mX16_exportedAs [.ref a0, .int p1, .int p2, .int p3] h 0 0 Qr := by
  refine pm_body pnX16 (Nat.le_of_ble_eq_true rfl) (fun g C X => ?_)
  have C : pm_C g cX16_exportedAs RX16 := C
  show pm_G g 0 [(0, .ref a0), (1, .int p1), (2, .int p2), (3, .int p3)] [] h 0 0
  unfold fX16_exportedAs at hf
  refine pm_aload_n C dX16_exportedAs_0 rfl rfl ?_
  refine pm_iload_n C dX16_exportedAs_1 rfl rfl ?_
  refine pm_iload_n C dX16_exportedAs_2 rfl rfl ?_
  obtain ⟨k1, hf⟩ := pm_if hf
  obtain ⟨v2, e3, hf⟩ := pm_bd hf
  refine pm_callV (as := [.int p2, .int p3]) (st := []) C X dX16_exportedAs_3 lnX16_961 myX16_isExport viX16_isExport ⟨by decide, by decide⟩ rfl rfl k1 (Nat.le_of_ble_eq_true rfl) (Nat.le_refl _) (Nat.le_refl _) (ctX16_isExport e3 ?_)
  show pm_G g 6 [(0, .ref a0), (1, .int p1), (2, .int p2), (3, .int p3)] [.int v2] h 0 0
  refine pm_if_eq (tgt := 28) C dX16_exportedAs_6 (by decide) (fun c4 => ?_) (fun c4 => ?_)
  · have hf := pm_it hf c4
    refine pm_iconst (v := (-1)) C dX16_exportedAs_28 (by decide) ?_
    cases hf
    exact pm_iret C X dX16_exportedAs_29 rfl (Nat.le_refl _) (Nat.le_refl _) q
  · have hf := pm_ie hf c4
    refine pm_aload_n C dX16_exportedAs_9 rfl rfl ?_
    refine pm_iload_n C dX16_exportedAs_10 rfl rfl ?_
    refine pm_iload_n C dX16_exportedAs_11 rfl rfl ?_
    obtain ⟨v5, e6, hf⟩ := pm_bd hf
    refine pm_callV (as := [.int p2, .int p3]) (st := []) C X dX16_exportedAs_12 lnX16_955 myX16_exportKind viX16_exportKind ⟨by decide, by decide⟩ rfl rfl k1 (Nat.le_of_ble_eq_true rfl) (Nat.le_refl _) (Nat.le_refl _) (ctX16_exportKind e6 ?_)
    show pm_G g 15 [(0, .ref a0), (1, .int p1), (2, .int p2), (3, .int p3)] [.int v5] h 0 0
    refine pm_iload_n C dX16_exportedAs_15 rfl rfl ?_
    refine pm_icmp_ne (tgt := 28) C dX16_exportedAs_16 (by decide) (fun c7 => ?_) (fun c7 => ?_)
    · have hf := pm_ie hf c7
      refine pm_iconst (v := (-1)) C dX16_exportedAs_28 (by decide) ?_
      cases hf
      exact pm_iret C X dX16_exportedAs_29 rfl (Nat.le_refl _) (Nat.le_refl _) q
    · have hf := pm_it hf c7
      refine pm_aload_n C dX16_exportedAs_19 rfl rfl ?_
      refine pm_iload_n C dX16_exportedAs_20 rfl rfl ?_
      refine pm_iload_n C dX16_exportedAs_21 rfl rfl ?_
      obtain ⟨v8, e9, hf⟩ := pm_bd hf
      refine pm_callV (as := [.int p2, .int p3]) (st := []) C X dX16_exportedAs_22 lnX16_964 myX16_exported viX16_exported ⟨by decide, by decide⟩ rfl rfl k1 (Nat.le_of_ble_eq_true rfl) (Nat.le_refl _) (Nat.le_refl _) (ctX16_exported e9 ?_)
      show pm_G g 25 [(0, .ref a0), (1, .int p1), (2, .int p2), (3, .int p3)] [.int v8] h 0 0
      refine pm_goto (tgt := 29) C dX16_exportedAs_25 (by decide) ?_
      cases hf
      exact pm_iret C X dX16_exportedAs_29 rfl (Nat.le_refl _) (Nat.le_refl _) q
theorem dX16_extreme_0 : decode cX16_extreme 0 = .ok (.aload_n 0, 1) := by decide +kernel
theorem dX16_extreme_1 : decode cX16_extreme 1 = .ok (.getfield 61, 3) := by decide +kernel
theorem dX16_extreme_4 : decode cX16_extreme 4 = .ok (.iload_n 1, 1) := by decide +kernel
theorem dX16_extreme_5 : decode cX16_extreme 5 = .ok (.lload_n 2, 1) := by decide +kernel
theorem dX16_extreme_6 : decode cX16_extreme 6 = .ok (.invokevirtual 868, 3) := by decide +kernel
theorem dX16_extreme_9 : decode cX16_extreme 9 = .ok (.aload_n 0, 1) := by decide +kernel
theorem dX16_extreme_10 : decode cX16_extreme 10 = .ok (.getfield 65, 3) := by decide +kernel
theorem dX16_extreme_13 : decode cX16_extreme 13 = .ok (.iload_n 1, 1) := by decide +kernel
theorem dX16_extreme_14 : decode cX16_extreme 14 = .ok (.lload 4, 2) := by decide +kernel
theorem dX16_extreme_16 : decode cX16_extreme 16 = .ok (.invokevirtual 868, 3) := by decide +kernel
theorem dX16_extreme_19 : decode cX16_extreme 19 = .ok (.aload_n 0, 1) := by decide +kernel
theorem dX16_extreme_20 : decode cX16_extreme 20 = .ok (.getfield 61, 3) := by decide +kernel
theorem dX16_extreme_23 : decode cX16_extreme 23 = .ok (.getfield 871, 3) := by decide +kernel
theorem dX16_extreme_26 : decode cX16_extreme 26 = .ok (.iconst 3, 1) := by decide +kernel
theorem dX16_extreme_27 : decode cX16_extreme 27 = .ok (.if_icmp .eq 14, 3) := by decide +kernel
theorem dX16_extreme_30 : decode cX16_extreme 30 = .ok (.aload_n 0, 1) := by decide +kernel
theorem dX16_extreme_31 : decode cX16_extreme 31 = .ok (.getfield 65, 3) := by decide +kernel
theorem dX16_extreme_34 : decode cX16_extreme 34 = .ok (.getfield 871, 3) := by decide +kernel
theorem dX16_extreme_37 : decode cX16_extreme 37 = .ok (.iconst 3, 1) := by decide +kernel
theorem dX16_extreme_38 : decode cX16_extreme 38 = .ok (.if_icmp .ne 8, 3) := by decide +kernel
theorem dX16_extreme_41 : decode cX16_extreme 41 = .ok (.iload_n 1, 1) := by decide +kernel
theorem dX16_extreme_42 : decode cX16_extreme 42 = .ok (.invokestatic 910, 3) := by decide +kernel
theorem dX16_extreme_45 : decode cX16_extreme 45 = .ok (.lreturn, 1) := by decide +kernel
theorem dX16_extreme_46 : decode cX16_extreme 46 = .ok (.aload_n 0, 1) := by decide +kernel
theorem dX16_extreme_47 : decode cX16_extreme 47 = .ok (.getfield 61, 3) := by decide +kernel
theorem dX16_extreme_50 : decode cX16_extreme 50 = .ok (.getfield 871, 3) := by decide +kernel
theorem dX16_extreme_53 : decode cX16_extreme 53 = .ok (.iconst 1, 1) := by decide +kernel
theorem dX16_extreme_54 : decode cX16_extreme 54 = .ok (.if_icmp .ne 78, 3) := by decide +kernel
theorem dX16_extreme_57 : decode cX16_extreme 57 = .ok (.aload_n 0, 1) := by decide +kernel
theorem dX16_extreme_58 : decode cX16_extreme 58 = .ok (.getfield 65, 3) := by decide +kernel
theorem dX16_extreme_61 : decode cX16_extreme 61 = .ok (.getfield 871, 3) := by decide +kernel
theorem dX16_extreme_64 : decode cX16_extreme 64 = .ok (.iconst 1, 1) := by decide +kernel
theorem dX16_extreme_65 : decode cX16_extreme 65 = .ok (.if_icmp .ne 67, 3) := by decide +kernel
theorem dX16_extreme_68 : decode cX16_extreme 68 = .ok (.iload_n 1, 1) := by decide +kernel
theorem dX16_extreme_69 : decode cX16_extreme 69 = .ok (.iload 6, 2) := by decide +kernel
theorem dX16_extreme_71 : decode cX16_extreme 71 = .ok (.ifCond .eq 31, 3) := by decide +kernel
theorem dX16_extreme_74 : decode cX16_extreme 74 = .ok (.aload_n 0, 1) := by decide +kernel
theorem dX16_extreme_75 : decode cX16_extreme 75 = .ok (.getfield 61, 3) := by decide +kernel
theorem dX16_extreme_78 : decode cX16_extreme 78 = .ok (.getfield 921, 3) := by decide +kernel
theorem dX16_extreme_81 : decode cX16_extreme 81 = .ok (.ifCond .ne 13, 3) := by decide +kernel
theorem dX16_extreme_84 : decode cX16_extreme 84 = .ok (.aload_n 0, 1) := by decide +kernel
theorem dX16_extreme_85 : decode cX16_extreme 85 = .ok (.getfield 65, 3) := by decide +kernel
theorem dX16_extreme_88 : decode cX16_extreme 88 = .ok (.getfield 921, 3) := by decide +kernel
theorem dX16_extreme_91 : decode cX16_extreme 91 = .ok (.ifCond .eq 7, 3) := by decide +kernel
theorem dX16_extreme_94 : decode cX16_extreme 94 = .ok (.iconst 1, 1) := by decide +kernel
theorem dX16_extreme_95 : decode cX16_extreme 95 = .ok (.goto 32, 3) := by decide +kernel
theorem dX16_extreme_98 : decode cX16_extreme 98 = .ok (.iconst 0, 1) := by decide +kernel
theorem dX16_extreme_99 : decode cX16_extreme 99 = .ok (.goto 28, 3) := by decide +kernel
theorem dX16_extreme_102 : decode cX16_extreme 102 = .ok (.aload_n 0, 1) := by decide +kernel
theorem dX16_extreme_103 : decode cX16_extreme 103 = .ok (.getfield 61, 3) := by decide +kernel
theorem dX16_extreme_106 : decode cX16_extreme 106 = .ok (.getfield 921, 3) := by decide +kernel
theorem dX16_extreme_109 : decode cX16_extreme 109 = .ok (.ifCond .eq 17, 3) := by decide +kernel
theorem dX16_extreme_112 : decode cX16_extreme 112 = .ok (.aload_n 0, 1) := by decide +kernel
theorem dX16_extreme_113 : decode cX16_extreme 113 = .ok (.getfield 65, 3) := by decide +kernel
theorem dX16_extreme_116 : decode cX16_extreme 116 = .ok (.getfield 921, 3) := by decide +kernel
theorem dX16_extreme_119 : decode cX16_extreme 119 = .ok (.ifCond .eq 7, 3) := by decide +kernel
theorem dX16_extreme_122 : decode cX16_extreme 122 = .ok (.iconst 1, 1) := by decide +kernel
theorem dX16_extreme_123 : decode cX16_extreme 123 = .ok (.goto 4, 3) := by decide +kernel
theorem dX16_extreme_126 : decode cX16_extreme 126 = .ok (.iconst 0, 1) := by decide +kernel
theorem dX16_extreme_127 : decode cX16_extreme 127 = .ok (.lconst 0, 1) := by decide +kernel
theorem dX16_extreme_128 : decode cX16_extreme 128 = .ok (.invokestatic 882, 3) := by decide +kernel
theorem dX16_extreme_131 : decode cX16_extreme 131 = .ok (.lreturn, 1) := by decide +kernel
theorem dX16_extreme_132 : decode cX16_extreme 132 = .ok (.iload_n 1, 1) := by decide +kernel
theorem dX16_extreme_133 : decode cX16_extreme 133 = .ok (.lload_n 2, 1) := by decide +kernel
theorem dX16_extreme_134 : decode cX16_extreme 134 = .ok (.invokestatic 874, 3) := by decide +kernel
theorem dX16_extreme_137 : decode cX16_extreme 137 = .ok (.iload_n 1, 1) := by decide +kernel
theorem dX16_extreme_138 : decode cX16_extreme 138 = .ok (.lload 4, 2) := by decide +kernel
theorem dX16_extreme_140 : decode cX16_extreme 140 = .ok (.invokestatic 874, 3) := by decide +kernel
theorem dX16_extreme_143 : decode cX16_extreme 143 = .ok (.lcmp, 1) := by decide +kernel
theorem dX16_extreme_144 : decode cX16_extreme 144 = .ok (.ifCond .ge 7, 3) := by decide +kernel
theorem dX16_extreme_147 : decode cX16_extreme 147 = .ok (.iconst 1, 1) := by decide +kernel
theorem dX16_extreme_148 : decode cX16_extreme 148 = .ok (.goto 4, 3) := by decide +kernel
theorem dX16_extreme_151 : decode cX16_extreme 151 = .ok (.iconst 0, 1) := by decide +kernel
theorem dX16_extreme_152 : decode cX16_extreme 152 = .ok (.iload 6, 2) := by decide +kernel
theorem dX16_extreme_154 : decode cX16_extreme 154 = .ok (.if_icmp .ne 7, 3) := by decide +kernel
theorem dX16_extreme_157 : decode cX16_extreme 157 = .ok (.lload_n 2, 1) := by decide +kernel
theorem dX16_extreme_158 : decode cX16_extreme 158 = .ok (.goto 5, 3) := by decide +kernel
theorem dX16_extreme_161 : decode cX16_extreme 161 = .ok (.lload 4, 2) := by decide +kernel
theorem dX16_extreme_163 : decode cX16_extreme 163 = .ok (.lreturn, 1) := by decide +kernel
def fX16_extreme_b132 (h : pm_H) (x1 : Int32) (x2 : Int64) (x4 : Int64) (x6 : Int32) : Option (Int64 × pm_H) := pm_let (fX16_order x1 x2) fun v45 => pm_let (fX16_order x1 x4) fun v47 => if v47 ≤ v45 then (if 0 = x6 then (some ((x2, h))) else (some ((x4, h)))) else (if 1 = x6 then (some ((x2, h))) else (some ((x4, h))))
def fX16_extreme (h : pm_H) (a0 : Nat) (p1 : Int32) (p2 : Int64) (p3 : Int64) (p4 : Int32) : Option (Int64 × pm_H) := if pm_kd h a0 = 16 then (pm_R h a0 34).bind fun v2 => if pm_kd h v2 = 15 then (fX15_read h v2 p1 p2).bind fun v5 => if pm_kd v5 a0 = 16 then (pm_R v5 a0 35).bind fun v8 => if pm_kd v5 v8 = 15 then (fX15_read v5 v8 p1 p3).bind fun v11 => if pm_kd v11 a0 = 16 then (pm_R v11 a0 34).bind fun v14 => if pm_kd v11 v14 = 15 then if (pm_I v11 v14 1) = 3 then (pm_let (fX16_noneOf p1) fun v18 => some ((v18, v11))) else ((pm_R v11 a0 35).bind fun v20 => if pm_kd v11 v20 = 15 then if (pm_I v11 v20 1) = 3 then (pm_let (fX16_noneOf p1) fun v43 => some ((v43, v11))) else (if (pm_I v11 v14 1) = 1 then (if (pm_I v11 v20 1) = 1 then (if p4 = 0 then (if (pm_I v11 v14 0) = 0 then (pm_let (fX16_withSign p1 0 0) fun v28 => some ((v28, v11))) else (if (pm_I v11 v20 0) = 0 then (pm_let (fX16_withSign p1 0 0) fun v31 => some ((v31, v11))) else (pm_let (fX16_withSign p1 1 0) fun v33 => some ((v33, v11))))) else (if (pm_I v11 v14 0) = 0 then (if (pm_I v11 v20 0) = 0 then (pm_let (fX16_withSign p1 0 0) fun v39 => some ((v39, v11))) else (pm_let (fX16_withSign p1 1 0) fun v41 => some ((v41, v11)))) else (pm_let (fX16_withSign p1 1 0) fun v36 => some ((v36, v11))))) else (fX16_extreme_b132 v11 p1 p2 p3 p4)) else (fX16_extreme_b132 v11 p1 p2 p3 p4)) else none) else none else none else none else none else none else none
set_option maxHeartbeats 4000000 in
set_option maxRecDepth 100000 in
theorem bX16_extreme_132 {g : pm_Gm} {l : Launch} {G : pm_Gl} {Qr : Option Value → pm_H → Prop} (C : pm_C g cX16_extreme RX16) (X : pm_X g l G mX16_extreme 0 0 Qr) {h : pm_H} {x1 : Int32} {x2 : Int64} {x4 : Int64} {x6 : Int32} {r : (Int64 × pm_H)} (hf : fX16_extreme_b132 h x1 x2 x4 x6 = some r) (q : Qr (some (.long r.1)) r.2) : pm_G g 132 [(1, .int x1), (2, .long x2), (4, .long x4), (6, .int x6)] [] h 0 0 := by
  unfold fX16_extreme_b132 at hf
  refine pm_iload_n C dX16_extreme_132 rfl rfl ?_
  refine pm_lload_n C dX16_extreme_133 rfl rfl ?_
  obtain ⟨v45, e46, hf⟩ := pm_lt hf
  refine pm_callS (as := [.int x1, .long x2]) (st := []) C X dX16_extreme_134 lnX16_874 myX16_order stX16_order ⟨by decide, by decide⟩ rfl rfl (Nat.le_of_ble_eq_true rfl) (Nat.le_refl _) (Nat.le_refl _) (ctX16_order e46 ?_)
  show pm_G g 137 [(1, .int x1), (2, .long x2), (4, .long x4), (6, .int x6)] [.long v45] h 0 0
  refine pm_iload_n C dX16_extreme_137 rfl rfl ?_
  refine pm_lload C dX16_extreme_138 rfl ?_
  obtain ⟨v47, e48, hf⟩ := pm_lt hf
  refine pm_callS (as := [.int x1, .long x4]) (st := [.long v45]) C X dX16_extreme_140 lnX16_874 myX16_order stX16_order ⟨by decide, by decide⟩ rfl rfl (Nat.le_of_ble_eq_true rfl) (Nat.le_refl _) (Nat.le_refl _) (ctX16_order e48 ?_)
  show pm_G g 143 [(1, .int x1), (2, .long x2), (4, .long x4), (6, .int x6)] [.long v47, .long v45] h 0 0
  refine pm_lcmp C dX16_extreme_143 ?_
  refine pm_if_ge (tgt := 151) C dX16_extreme_144 (by decide) (fun c49 => ?_) (fun c49 => ?_)
  · have hf := pm_it hf ((pm_lg_ge _ _).mp c49)
    refine pm_iconst (v := 0) C dX16_extreme_151 (by decide) ?_
    refine pm_iload C dX16_extreme_152 rfl ?_
    refine pm_icmp_ne (tgt := 161) C dX16_extreme_154 (by decide) (fun c50 => ?_) (fun c50 => ?_)
    · have hf := pm_ie hf c50
      refine pm_lload C dX16_extreme_161 rfl ?_
      cases hf
      exact pm_lret C X dX16_extreme_163 rfl (Nat.le_refl _) (Nat.le_refl _) q
    · have hf := pm_it hf c50
      refine pm_lload_n C dX16_extreme_157 rfl rfl ?_
      refine pm_goto (tgt := 163) C dX16_extreme_158 (by decide) ?_
      cases hf
      exact pm_lret C X dX16_extreme_163 rfl (Nat.le_refl _) (Nat.le_refl _) q
  · have hf := pm_ie hf ((fun z => c49 ((pm_lg_ge _ _).mpr z)))
    refine pm_iconst (v := 1) C dX16_extreme_147 (by decide) ?_
    refine pm_goto (tgt := 152) C dX16_extreme_148 (by decide) ?_
    refine pm_iload C dX16_extreme_152 rfl ?_
    refine pm_icmp_ne (tgt := 161) C dX16_extreme_154 (by decide) (fun c51 => ?_) (fun c51 => ?_)
    · have hf := pm_ie hf c51
      refine pm_lload C dX16_extreme_161 rfl ?_
      cases hf
      exact pm_lret C X dX16_extreme_163 rfl (Nat.le_refl _) (Nat.le_refl _) q
    · have hf := pm_it hf c51
      refine pm_lload_n C dX16_extreme_157 rfl rfl ?_
      refine pm_goto (tgt := 163) C dX16_extreme_158 (by decide) ?_
      cases hf
      exact pm_lret C X dX16_extreme_163 rfl (Nat.le_refl _) (Nat.le_refl _) q
set_option maxHeartbeats 4000000 in
set_option maxRecDepth 100000 in
theorem ctX16_extreme {l : Launch} {G : pm_Gl} {h : pm_H} {a0 : Nat} {p1 : Int32} {p2 : Int64} {p3 : Int64} {p4 : Int32} {r : (Int64 × pm_H)} {Qr : Option Value → pm_H → Prop} (hf : fX16_extreme h a0 p1 p2 p3 p4 = some r) (q : Qr (some (.long r.1)) r.2) : pm_Ct l G mX16_extreme [.ref a0, .int p1, .long p2, .long p3, .int p4] h 0 0 Qr := by
  refine pm_body pnX16 (Nat.le_of_ble_eq_true rfl) (fun g C X => ?_)
  have C : pm_C g cX16_extreme RX16 := C
  show pm_G g 0 [(0, .ref a0), (1, .int p1), (2, .long p2), (4, .long p3), (6, .int p4)] [] h 0 0
  unfold fX16_extreme at hf
  refine pm_aload_n C dX16_extreme_0 rfl rfl ?_
  obtain ⟨k1, hf⟩ := pm_if hf
  obtain ⟨v2, e3, hf⟩ := pm_bd hf
  refine pm_getR C dX16_extreme_1 flX16_61 rfl k1 e3 ?_
  refine pm_iload_n C dX16_extreme_4 rfl rfl ?_
  refine pm_lload_n C dX16_extreme_5 rfl rfl ?_
  obtain ⟨k4, hf⟩ := pm_if hf
  obtain ⟨v5, e6, hf⟩ := pm_bd hf
  refine pm_callV (as := [.int p1, .long p2]) (st := []) C X dX16_extreme_6 lnX16_868 myX15_read viX15_read ⟨by decide, by decide⟩ rfl rfl k4 (Nat.le_of_ble_eq_true rfl) (Nat.le_refl _) (Nat.le_refl _) (ctX15_read e6 ?_)
  show pm_G g 9 [(0, .ref a0), (1, .int p1), (2, .long p2), (4, .long p3), (6, .int p4)] [] v5 0 0
  refine pm_aload_n C dX16_extreme_9 rfl rfl ?_
  obtain ⟨k7, hf⟩ := pm_if hf
  obtain ⟨v8, e9, hf⟩ := pm_bd hf
  refine pm_getR C dX16_extreme_10 flX16_65 rfl k7 e9 ?_
  refine pm_iload_n C dX16_extreme_13 rfl rfl ?_
  refine pm_lload C dX16_extreme_14 rfl ?_
  obtain ⟨k10, hf⟩ := pm_if hf
  obtain ⟨v11, e12, hf⟩ := pm_bd hf
  refine pm_callV (as := [.int p1, .long p3]) (st := []) C X dX16_extreme_16 lnX16_868 myX15_read viX15_read ⟨by decide, by decide⟩ rfl rfl k10 (Nat.le_of_ble_eq_true rfl) (Nat.le_refl _) (Nat.le_refl _) (ctX15_read e12 ?_)
  show pm_G g 19 [(0, .ref a0), (1, .int p1), (2, .long p2), (4, .long p3), (6, .int p4)] [] v11 0 0
  refine pm_aload_n C dX16_extreme_19 rfl rfl ?_
  obtain ⟨k13, hf⟩ := pm_if hf
  obtain ⟨v14, e15, hf⟩ := pm_bd hf
  refine pm_getR C dX16_extreme_20 flX16_61 rfl k13 e15 ?_
  obtain ⟨k16, hf⟩ := pm_if hf
  refine pm_getI C dX16_extreme_23 flX16_871 rfl k16 rfl ?_
  refine pm_iconst (v := 3) C dX16_extreme_26 (by decide) ?_
  refine pm_icmp_eq (tgt := 41) C dX16_extreme_27 (by decide) (fun c17 => ?_) (fun c17 => ?_)
  · have hf := pm_it hf c17
    refine pm_iload_n C dX16_extreme_41 rfl rfl ?_
    obtain ⟨v18, e19, hf⟩ := pm_lt hf
    refine pm_callS (as := [.int p1]) (st := []) C X dX16_extreme_42 lnX16_910 myX16_noneOf stX16_noneOf ⟨by decide, by decide⟩ rfl rfl (Nat.le_of_ble_eq_true rfl) (Nat.le_refl _) (Nat.le_refl _) (ctX16_noneOf e19 ?_)
    show pm_G g 45 [(0, .ref a0), (1, .int p1), (2, .long p2), (4, .long p3), (6, .int p4)] [.long v18] v11 0 0
    cases hf
    exact pm_lret C X dX16_extreme_45 rfl (Nat.le_refl _) (Nat.le_refl _) q
  · have hf := pm_ie hf c17
    refine pm_aload_n C dX16_extreme_30 rfl rfl ?_
    obtain ⟨v20, e21, hf⟩ := pm_bd hf
    refine pm_getR C dX16_extreme_31 flX16_65 rfl k13 e21 ?_
    obtain ⟨k22, hf⟩ := pm_if hf
    refine pm_getI C dX16_extreme_34 flX16_871 rfl k22 rfl ?_
    refine pm_iconst (v := 3) C dX16_extreme_37 (by decide) ?_
    refine pm_icmp_ne (tgt := 46) C dX16_extreme_38 (by decide) (fun c23 => ?_) (fun c23 => ?_)
    · have hf := pm_ie hf c23
      refine pm_aload_n C dX16_extreme_46 rfl rfl ?_
      refine pm_getR C dX16_extreme_47 flX16_61 rfl k13 e15 ?_
      refine pm_getI C dX16_extreme_50 flX16_871 rfl k16 rfl ?_
      refine pm_iconst (v := 1) C dX16_extreme_53 (by decide) ?_
      refine pm_icmp_ne (tgt := 132) C dX16_extreme_54 (by decide) (fun c24 => ?_) (fun c24 => ?_)
      · have hf := pm_ie hf c24
        exact pm_sub [1, 2, 3, 4] rfl (bX16_extreme_132 C X hf q)
      · have hf := pm_it hf c24
        refine pm_aload_n C dX16_extreme_57 rfl rfl ?_
        refine pm_getR C dX16_extreme_58 flX16_65 rfl k13 e21 ?_
        refine pm_getI C dX16_extreme_61 flX16_871 rfl k22 rfl ?_
        refine pm_iconst (v := 1) C dX16_extreme_64 (by decide) ?_
        refine pm_icmp_ne (tgt := 132) C dX16_extreme_65 (by decide) (fun c25 => ?_) (fun c25 => ?_)
        · have hf := pm_ie hf c25
          exact pm_sub [1, 2, 3, 4] rfl (bX16_extreme_132 C X hf q)
        · have hf := pm_it hf c25
          refine pm_iload_n C dX16_extreme_68 rfl rfl ?_
          refine pm_iload C dX16_extreme_69 rfl ?_
          refine pm_if_eq (tgt := 102) C dX16_extreme_71 (by decide) (fun c26 => ?_) (fun c26 => ?_)
          · have hf := pm_it hf c26
            refine pm_aload_n C dX16_extreme_102 rfl rfl ?_
            refine pm_getR C dX16_extreme_103 flX16_61 rfl k13 e15 ?_
            refine pm_getI C dX16_extreme_106 flX16_921 rfl k16 rfl ?_
            refine pm_if_eq (tgt := 126) C dX16_extreme_109 (by decide) (fun c27 => ?_) (fun c27 => ?_)
            · have hf := pm_it hf c27
              refine pm_iconst (v := 0) C dX16_extreme_126 (by decide) ?_
              refine pm_lconst (v := 0) C dX16_extreme_127 (by decide) ?_
              obtain ⟨v28, e29, hf⟩ := pm_lt hf
              refine pm_callS (as := [.int p1, .int 0, .long 0]) (st := []) C X dX16_extreme_128 lnX16_882 myX16_withSign stX16_withSign ⟨by decide, by decide⟩ rfl rfl (Nat.le_of_ble_eq_true rfl) (Nat.le_refl _) (Nat.le_refl _) (ctX16_withSign e29 ?_)
              show pm_G g 131 [(0, .ref a0), (1, .int p1), (2, .long p2), (4, .long p3), (6, .int p4)] [.long v28] v11 0 0
              cases hf
              exact pm_lret C X dX16_extreme_131 rfl (Nat.le_refl _) (Nat.le_refl _) q
            · have hf := pm_ie hf c27
              refine pm_aload_n C dX16_extreme_112 rfl rfl ?_
              refine pm_getR C dX16_extreme_113 flX16_65 rfl k13 e21 ?_
              refine pm_getI C dX16_extreme_116 flX16_921 rfl k22 rfl ?_
              refine pm_if_eq (tgt := 126) C dX16_extreme_119 (by decide) (fun c30 => ?_) (fun c30 => ?_)
              · have hf := pm_it hf c30
                refine pm_iconst (v := 0) C dX16_extreme_126 (by decide) ?_
                refine pm_lconst (v := 0) C dX16_extreme_127 (by decide) ?_
                obtain ⟨v31, e32, hf⟩ := pm_lt hf
                refine pm_callS (as := [.int p1, .int 0, .long 0]) (st := []) C X dX16_extreme_128 lnX16_882 myX16_withSign stX16_withSign ⟨by decide, by decide⟩ rfl rfl (Nat.le_of_ble_eq_true rfl) (Nat.le_refl _) (Nat.le_refl _) (ctX16_withSign e32 ?_)
                show pm_G g 131 [(0, .ref a0), (1, .int p1), (2, .long p2), (4, .long p3), (6, .int p4)] [.long v31] v11 0 0
                cases hf
                exact pm_lret C X dX16_extreme_131 rfl (Nat.le_refl _) (Nat.le_refl _) q
              · have hf := pm_ie hf c30
                refine pm_iconst (v := 1) C dX16_extreme_122 (by decide) ?_
                refine pm_goto (tgt := 127) C dX16_extreme_123 (by decide) ?_
                refine pm_lconst (v := 0) C dX16_extreme_127 (by decide) ?_
                obtain ⟨v33, e34, hf⟩ := pm_lt hf
                refine pm_callS (as := [.int p1, .int 1, .long 0]) (st := []) C X dX16_extreme_128 lnX16_882 myX16_withSign stX16_withSign ⟨by decide, by decide⟩ rfl rfl (Nat.le_of_ble_eq_true rfl) (Nat.le_refl _) (Nat.le_refl _) (ctX16_withSign e34 ?_)
                show pm_G g 131 [(0, .ref a0), (1, .int p1), (2, .long p2), (4, .long p3), (6, .int p4)] [.long v33] v11 0 0
                cases hf
                exact pm_lret C X dX16_extreme_131 rfl (Nat.le_refl _) (Nat.le_refl _) q
          · have hf := pm_ie hf c26
            refine pm_aload_n C dX16_extreme_74 rfl rfl ?_
            refine pm_getR C dX16_extreme_75 flX16_61 rfl k13 e15 ?_
            refine pm_getI C dX16_extreme_78 flX16_921 rfl k16 rfl ?_
            refine pm_if_ne (tgt := 94) C dX16_extreme_81 (by decide) (fun c35 => ?_) (fun c35 => ?_)
            · have hf := pm_ie hf c35
              refine pm_iconst (v := 1) C dX16_extreme_94 (by decide) ?_
              refine pm_goto (tgt := 127) C dX16_extreme_95 (by decide) ?_
              refine pm_lconst (v := 0) C dX16_extreme_127 (by decide) ?_
              obtain ⟨v36, e37, hf⟩ := pm_lt hf
              refine pm_callS (as := [.int p1, .int 1, .long 0]) (st := []) C X dX16_extreme_128 lnX16_882 myX16_withSign stX16_withSign ⟨by decide, by decide⟩ rfl rfl (Nat.le_of_ble_eq_true rfl) (Nat.le_refl _) (Nat.le_refl _) (ctX16_withSign e37 ?_)
              show pm_G g 131 [(0, .ref a0), (1, .int p1), (2, .long p2), (4, .long p3), (6, .int p4)] [.long v36] v11 0 0
              cases hf
              exact pm_lret C X dX16_extreme_131 rfl (Nat.le_refl _) (Nat.le_refl _) q
            · have hf := pm_it hf c35
              refine pm_aload_n C dX16_extreme_84 rfl rfl ?_
              refine pm_getR C dX16_extreme_85 flX16_65 rfl k13 e21 ?_
              refine pm_getI C dX16_extreme_88 flX16_921 rfl k22 rfl ?_
              refine pm_if_eq (tgt := 98) C dX16_extreme_91 (by decide) (fun c38 => ?_) (fun c38 => ?_)
              · have hf := pm_it hf c38
                refine pm_iconst (v := 0) C dX16_extreme_98 (by decide) ?_
                refine pm_goto (tgt := 127) C dX16_extreme_99 (by decide) ?_
                refine pm_lconst (v := 0) C dX16_extreme_127 (by decide) ?_
                obtain ⟨v39, e40, hf⟩ := pm_lt hf
                refine pm_callS (as := [.int p1, .int 0, .long 0]) (st := []) C X dX16_extreme_128 lnX16_882 myX16_withSign stX16_withSign ⟨by decide, by decide⟩ rfl rfl (Nat.le_of_ble_eq_true rfl) (Nat.le_refl _) (Nat.le_refl _) (ctX16_withSign e40 ?_)
                show pm_G g 131 [(0, .ref a0), (1, .int p1), (2, .long p2), (4, .long p3), (6, .int p4)] [.long v39] v11 0 0
                cases hf
                exact pm_lret C X dX16_extreme_131 rfl (Nat.le_refl _) (Nat.le_refl _) q
              · have hf := pm_ie hf c38
                refine pm_iconst (v := 1) C dX16_extreme_94 (by decide) ?_
                refine pm_goto (tgt := 127) C dX16_extreme_95 (by decide) ?_
                refine pm_lconst (v := 0) C dX16_extreme_127 (by decide) ?_
                obtain ⟨v41, e42, hf⟩ := pm_lt hf
                refine pm_callS (as := [.int p1, .int 1, .long 0]) (st := []) C X dX16_extreme_128 lnX16_882 myX16_withSign stX16_withSign ⟨by decide, by decide⟩ rfl rfl (Nat.le_of_ble_eq_true rfl) (Nat.le_refl _) (Nat.le_refl _) (ctX16_withSign e42 ?_)
                show pm_G g 131 [(0, .ref a0), (1, .int p1), (2, .long p2), (4, .long p3), (6, .int p4)] [.long v41] v11 0 0
                cases hf
                exact pm_lret C X dX16_extreme_131 rfl (Nat.le_refl _) (Nat.le_refl _) q
    · have hf := pm_it hf c23
      refine pm_iload_n C dX16_extreme_41 rfl rfl ?_
      obtain ⟨v43, e44, hf⟩ := pm_lt hf
      refine pm_callS (as := [.int p1]) (st := []) C X dX16_extreme_42 lnX16_910 myX16_noneOf stX16_noneOf ⟨by decide, by decide⟩ rfl rfl (Nat.le_of_ble_eq_true rfl) (Nat.le_refl _) (Nat.le_refl _) (ctX16_noneOf e44 ?_)
      show pm_G g 45 [(0, .ref a0), (1, .int p1), (2, .long p2), (4, .long p3), (6, .int p4)] [.long v43] v11 0 0
      cases hf
      exact pm_lret C X dX16_extreme_45 rfl (Nat.le_refl _) (Nat.le_refl _) q
theorem dX16_global_0 : decode cX16_global 0 = .ok (.aload_n 0, 1) := by decide +kernel
theorem dX16_global_1 : decode cX16_global 1 = .ok (.iconst 3, 1) := by decide +kernel
theorem dX16_global_2 : decode cX16_global 2 = .ok (.iload_n 1, 1) := by decide +kernel
theorem dX16_global_3 : decode cX16_global 3 = .ok (.iload_n 2, 1) := by decide +kernel
theorem dX16_global_4 : decode cX16_global 4 = .ok (.invokevirtual 1074, 3) := by decide +kernel
theorem dX16_global_7 : decode cX16_global 7 = .ok (.istore_n 3, 1) := by decide +kernel
theorem dX16_global_8 : decode cX16_global 8 = .ok (.iload_n 3, 1) := by decide +kernel
theorem dX16_global_9 : decode cX16_global 9 = .ok (.ifCond .ge 7, 3) := by decide +kernel
theorem dX16_global_12 : decode cX16_global 12 = .ok (.lconst 0, 1) := by decide +kernel
theorem dX16_global_13 : decode cX16_global 13 = .ok (.goto 9, 3) := by decide +kernel
theorem dX16_global_16 : decode cX16_global 16 = .ok (.aload_n 0, 1) := by decide +kernel
theorem dX16_global_17 : decode cX16_global 17 = .ok (.getfield 128, 3) := by decide +kernel
theorem dX16_global_20 : decode cX16_global 20 = .ok (.iload_n 3, 1) := by decide +kernel
theorem dX16_global_21 : decode cX16_global 21 = .ok (.laload, 1) := by decide +kernel
theorem dX16_global_22 : decode cX16_global 22 = .ok (.lreturn, 1) := by decide +kernel
def fX16_global (h : pm_H) (a0 : Nat) (p1 : Int32) (p2 : Int32) : Option Int64 := if pm_kd h a0 = 16 then (fX16_exportedAs h a0 3 p1 p2).bind fun v2 => if 0 ≤ v2 then ((pm_R h a0 61).bind fun v5 => if pm_kd h v5 = 35 then if pm_in v2 (pm_ln h v5) then some (pm_L h v5 v2.toNatClampNeg) else none else none) else (some 0) else none
set_option maxHeartbeats 4000000 in
set_option maxRecDepth 100000 in
theorem ctX16_global {l : Launch} {G : pm_Gl} {h : pm_H} {a0 : Nat} {p1 : Int32} {p2 : Int32} {r : Int64} {Qr : Option Value → pm_H → Prop} (hf : fX16_global h a0 p1 p2 = some r) (q : Qr (some (.long r)) h) : pm_Ct l G mX16_global [.ref a0, .int p1, .int p2] h 0 0 Qr := by
  refine pm_body pnX16 (Nat.le_of_ble_eq_true rfl) (fun g C X => ?_)
  have C : pm_C g cX16_global RX16 := C
  show pm_G g 0 [(0, .ref a0), (1, .int p1), (2, .int p2)] [] h 0 0
  unfold fX16_global at hf
  refine pm_aload_n C dX16_global_0 rfl rfl ?_
  refine pm_iconst (v := 3) C dX16_global_1 (by decide) ?_
  refine pm_iload_n C dX16_global_2 rfl rfl ?_
  refine pm_iload_n C dX16_global_3 rfl rfl ?_
  obtain ⟨k1, hf⟩ := pm_if hf
  obtain ⟨v2, e3, hf⟩ := pm_bd hf
  refine pm_callV (as := [.int 3, .int p1, .int p2]) (st := []) C X dX16_global_4 lnX16_1074 myX16_exportedAs viX16_exportedAs ⟨by decide, by decide⟩ rfl rfl k1 (Nat.le_of_ble_eq_true rfl) (Nat.le_refl _) (Nat.le_refl _) (ctX16_exportedAs e3 ?_)
  show pm_G g 7 [(0, .ref a0), (1, .int p1), (2, .int p2)] [.int v2] h 0 0
  refine pm_istore_n (lv' := [(3, .int v2), (0, .ref a0), (1, .int p1), (2, .int p2)]) C dX16_global_7 rfl (pm_nl X (by decide)) rfl ?_
  refine pm_iload_n C dX16_global_8 rfl rfl ?_
  refine pm_if_ge (tgt := 16) C dX16_global_9 (by decide) (fun c4 => ?_) (fun c4 => ?_)
  · have hf := pm_it hf c4
    refine pm_aload_n C dX16_global_16 rfl rfl ?_
    obtain ⟨v5, e6, hf⟩ := pm_bd hf
    refine pm_getR C dX16_global_17 flX16_128 rfl k1 e6 ?_
    refine pm_iload_n C dX16_global_20 rfl rfl ?_
    obtain ⟨k7, hf⟩ := pm_if hf
    obtain ⟨u8, hf⟩ := pm_if hf
    refine pm_lald C dX16_global_21 k7 u8 rfl ?_
    cases hf
    exact pm_lret C X dX16_global_22 rfl (Nat.le_refl _) (Nat.le_refl _) q
  · have hf := pm_ie hf c4
    refine pm_lconst (v := 0) C dX16_global_12 (by decide) ?_
    refine pm_goto (tgt := 22) C dX16_global_13 (by decide) ?_
    cases hf
    exact pm_lret C X dX16_global_22 rfl (Nat.le_refl _) (Nat.le_refl _) q
