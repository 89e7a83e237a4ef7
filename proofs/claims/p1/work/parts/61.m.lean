theorem dX16_checksAll_0 : decode cX16_checksAll 0 = .ok (.aload_n 0, 1) := by decide +kernel
theorem dX16_checksAll_1 : decode cX16_checksAll 1 = .ok (.getfield 221, 3) := by decide +kernel
theorem dX16_checksAll_4 : decode cX16_checksAll 4 = .ok (.getfield 360, 3) := by decide +kernel
theorem dX16_checksAll_7 : decode cX16_checksAll 7 = .ok (.ifCond .lt 16, 3) := by decide +kernel
theorem dX16_checksAll_10 : decode cX16_checksAll 10 = .ok (.aload_n 0, 1) := by decide +kernel
theorem dX16_checksAll_11 : decode cX16_checksAll 11 = .ok (.bipush 40, 2) := by decide +kernel
theorem dX16_checksAll_13 : decode cX16_checksAll 13 = .ok (.aload_n 0, 1) := by decide +kernel
theorem dX16_checksAll_14 : decode cX16_checksAll 14 = .ok (.getfield 221, 3) := by decide +kernel
theorem dX16_checksAll_17 : decode cX16_checksAll 17 = .ok (.getfield 360, 3) := by decide +kernel
theorem dX16_checksAll_20 : decode cX16_checksAll 20 = .ok (.invokevirtual 257, 3) := by decide +kernel
theorem dX16_checksAll_23 : decode cX16_checksAll 23 = .ok (.aload_n 0, 1) := by decide +kernel
theorem dX16_checksAll_24 : decode cX16_checksAll 24 = .ok (.invokevirtual 609, 3) := by decide +kernel
theorem dX16_checksAll_27 : decode cX16_checksAll 27 = .ok (.aload_n 0, 1) := by decide +kernel
theorem dX16_checksAll_28 : decode cX16_checksAll 28 = .ok (.invokevirtual 612, 3) := by decide +kernel
theorem dX16_checksAll_31 : decode cX16_checksAll 31 = .ok (.aload_n 0, 1) := by decide +kernel
theorem dX16_checksAll_32 : decode cX16_checksAll 32 = .ok (.getfield 221, 3) := by decide +kernel
theorem dX16_checksAll_35 : decode cX16_checksAll 35 = .ok (.iconst 2, 1) := by decide +kernel
theorem dX16_checksAll_36 : decode cX16_checksAll 36 = .ok (.invokevirtual 615, 3) := by decide +kernel
theorem dX16_checksAll_39 : decode cX16_checksAll 39 = .ok (.iconst 1, 1) := by decide +kernel
theorem dX16_checksAll_40 : decode cX16_checksAll 40 = .ok (.if_icmp .le 42, 3) := by decide +kernel
theorem dX16_checksAll_43 : decode cX16_checksAll 43 = .ok (.aload_n 0, 1) := by decide +kernel
theorem dX16_checksAll_44 : decode cX16_checksAll 44 = .ok (.bipush 22, 2) := by decide +kernel
theorem dX16_checksAll_46 : decode cX16_checksAll 46 = .ok (.aload_n 0, 1) := by decide +kernel
theorem dX16_checksAll_47 : decode cX16_checksAll 47 = .ok (.getfield 221, 3) := by decide +kernel
theorem dX16_checksAll_50 : decode cX16_checksAll 50 = .ok (.getfield 302, 3) := by decide +kernel
theorem dX16_checksAll_53 : decode cX16_checksAll 53 = .ok (.iconst 5, 1) := by decide +kernel
theorem dX16_checksAll_54 : decode cX16_checksAll 54 = .ok (.iaload, 1) := by decide +kernel
theorem dX16_checksAll_55 : decode cX16_checksAll 55 = .ok (.ifCond .lt 15, 3) := by decide +kernel
theorem dX16_checksAll_58 : decode cX16_checksAll 58 = .ok (.aload_n 0, 1) := by decide +kernel
theorem dX16_checksAll_59 : decode cX16_checksAll 59 = .ok (.getfield 221, 3) := by decide +kernel
theorem dX16_checksAll_62 : decode cX16_checksAll 62 = .ok (.getfield 302, 3) := by decide +kernel
theorem dX16_checksAll_65 : decode cX16_checksAll 65 = .ok (.iconst 5, 1) := by decide +kernel
theorem dX16_checksAll_66 : decode cX16_checksAll 66 = .ok (.iaload, 1) := by decide +kernel
theorem dX16_checksAll_67 : decode cX16_checksAll 67 = .ok (.goto 12, 3) := by decide +kernel
theorem dX16_checksAll_70 : decode cX16_checksAll 70 = .ok (.aload_n 0, 1) := by decide +kernel
theorem dX16_checksAll_71 : decode cX16_checksAll 71 = .ok (.getfield 221, 3) := by decide +kernel
theorem dX16_checksAll_74 : decode cX16_checksAll 74 = .ok (.getfield 302, 3) := by decide +kernel
theorem dX16_checksAll_77 : decode cX16_checksAll 77 = .ok (.iconst 2, 1) := by decide +kernel
theorem dX16_checksAll_78 : decode cX16_checksAll 78 = .ok (.iaload, 1) := by decide +kernel
theorem dX16_checksAll_79 : decode cX16_checksAll 79 = .ok (.invokevirtual 257, 3) := by decide +kernel
theorem dX16_checksAll_82 : decode cX16_checksAll 82 = .ok (.aload_n 0, 1) := by decide +kernel
theorem dX16_checksAll_83 : decode cX16_checksAll 83 = .ok (.invokevirtual 618, 3) := by decide +kernel
theorem dX16_checksAll_86 : decode cX16_checksAll 86 = .ok (.aload_n 0, 1) := by decide +kernel
theorem dX16_checksAll_87 : decode cX16_checksAll 87 = .ok (.getfield 221, 3) := by decide +kernel
theorem dX16_checksAll_90 : decode cX16_checksAll 90 = .ok (.getfield 348, 3) := by decide +kernel
theorem dX16_checksAll_93 : decode cX16_checksAll 93 = .ok (.lconst 0, 1) := by decide +kernel
theorem dX16_checksAll_94 : decode cX16_checksAll 94 = .ok (.lcmp, 1) := by decide +kernel
theorem dX16_checksAll_95 : decode cX16_checksAll 95 = .ok (.ifCond .lt 95, 3) := by decide +kernel
theorem dX16_checksAll_98 : decode cX16_checksAll 98 = .ok (.aload_n 0, 1) := by decide +kernel
theorem dX16_checksAll_99 : decode cX16_checksAll 99 = .ok (.getfield 221, 3) := by decide +kernel
theorem dX16_checksAll_102 : decode cX16_checksAll 102 = .ok (.getfield 348, 3) := by decide +kernel
theorem dX16_checksAll_105 : decode cX16_checksAll 105 = .ok (.aload_n 0, 1) := by decide +kernel
theorem dX16_checksAll_106 : decode cX16_checksAll 106 = .ok (.getfield 221, 3) := by decide +kernel
theorem dX16_checksAll_109 : decode cX16_checksAll 109 = .ok (.iconst 0, 1) := by decide +kernel
theorem dX16_checksAll_110 : decode cX16_checksAll 110 = .ok (.invokevirtual 615, 3) := by decide +kernel
theorem dX16_checksAll_113 : decode cX16_checksAll 113 = .ok (.i2l, 1) := by decide +kernel
theorem dX16_checksAll_114 : decode cX16_checksAll 114 = .ok (.lcmp, 1) := by decide +kernel
theorem dX16_checksAll_115 : decode cX16_checksAll 115 = .ok (.ifCond .ge 7, 3) := by decide +kernel
theorem dX16_checksAll_118 : decode cX16_checksAll 118 = .ok (.iconst 1, 1) := by decide +kernel
theorem dX16_checksAll_119 : decode cX16_checksAll 119 = .ok (.goto 4, 3) := by decide +kernel
theorem dX16_checksAll_122 : decode cX16_checksAll 122 = .ok (.iconst 0, 1) := by decide +kernel
theorem dX16_checksAll_123 : decode cX16_checksAll 123 = .ok (.istore_n 1, 1) := by decide +kernel
theorem dX16_checksAll_124 : decode cX16_checksAll 124 = .ok (.iload_n 1, 1) := by decide +kernel
theorem dX16_checksAll_125 : decode cX16_checksAll 125 = .ok (.ifCond .eq 21, 3) := by decide +kernel
theorem dX16_checksAll_128 : decode cX16_checksAll 128 = .ok (.aload_n 0, 1) := by decide +kernel
theorem dX16_checksAll_129 : decode cX16_checksAll 129 = .ok (.getfield 221, 3) := by decide +kernel
theorem dX16_checksAll_132 : decode cX16_checksAll 132 = .ok (.aload_n 0, 1) := by decide +kernel
theorem dX16_checksAll_133 : decode cX16_checksAll 133 = .ok (.getfield 221, 3) := by decide +kernel
theorem dX16_checksAll_136 : decode cX16_checksAll 136 = .ok (.getfield 348, 3) := by decide +kernel
theorem dX16_checksAll_139 : decode cX16_checksAll 139 = .ok (.l2i, 1) := by decide +kernel
theorem dX16_checksAll_140 : decode cX16_checksAll 140 = .ok (.invokevirtual 621, 3) := by decide +kernel
theorem dX16_checksAll_143 : decode cX16_checksAll 143 = .ok (.goto 4, 3) := by decide +kernel
theorem dX16_checksAll_146 : decode cX16_checksAll 146 = .ok (.iconst 0, 1) := by decide +kernel
theorem dX16_checksAll_147 : decode cX16_checksAll 147 = .ok (.istore_n 2, 1) := by decide +kernel
theorem dX16_checksAll_148 : decode cX16_checksAll 148 = .ok (.iload_n 1, 1) := by decide +kernel
theorem dX16_checksAll_149 : decode cX16_checksAll 149 = .ok (.ifCond .eq 25, 3) := by decide +kernel
theorem dX16_checksAll_152 : decode cX16_checksAll 152 = .ok (.aload_n 0, 1) := by decide +kernel
theorem dX16_checksAll_153 : decode cX16_checksAll 153 = .ok (.getfield 221, 3) := by decide +kernel
theorem dX16_checksAll_156 : decode cX16_checksAll 156 = .ok (.getfield 387, 3) := by decide +kernel
theorem dX16_checksAll_159 : decode cX16_checksAll 159 = .ok (.iload_n 2, 1) := by decide +kernel
theorem dX16_checksAll_160 : decode cX16_checksAll 160 = .ok (.iaload, 1) := by decide +kernel
theorem dX16_checksAll_161 : decode cX16_checksAll 161 = .ok (.aload_n 0, 1) := by decide +kernel
theorem dX16_checksAll_162 : decode cX16_checksAll 162 = .ok (.getfield 221, 3) := by decide +kernel
theorem dX16_checksAll_165 : decode cX16_checksAll 165 = .ok (.getfield 390, 3) := by decide +kernel
theorem dX16_checksAll_168 : decode cX16_checksAll 168 = .ok (.iload_n 2, 1) := by decide +kernel
theorem dX16_checksAll_169 : decode cX16_checksAll 169 = .ok (.iaload, 1) := by decide +kernel
theorem dX16_checksAll_170 : decode cX16_checksAll 170 = .ok (.iadd, 1) := by decide +kernel
theorem dX16_checksAll_171 : decode cX16_checksAll 171 = .ok (.ifCond .le 19, 3) := by decide +kernel
theorem dX16_checksAll_174 : decode cX16_checksAll 174 = .ok (.aload_n 0, 1) := by decide +kernel
theorem dX16_checksAll_175 : decode cX16_checksAll 175 = .ok (.bipush 25, 2) := by decide +kernel
theorem dX16_checksAll_177 : decode cX16_checksAll 177 = .ok (.aload_n 0, 1) := by decide +kernel
theorem dX16_checksAll_178 : decode cX16_checksAll 178 = .ok (.getfield 221, 3) := by decide +kernel
theorem dX16_checksAll_181 : decode cX16_checksAll 181 = .ok (.getfield 302, 3) := by decide +kernel
theorem dX16_checksAll_184 : decode cX16_checksAll 184 = .ok (.bipush 8, 2) := by decide +kernel
theorem dX16_checksAll_186 : decode cX16_checksAll 186 = .ok (.iaload, 1) := by decide +kernel
theorem dX16_checksAll_187 : decode cX16_checksAll 187 = .ok (.invokevirtual 257, 3) := by decide +kernel
theorem dX16_checksAll_190 : decode cX16_checksAll 190 = .ok (.aload_n 0, 1) := by decide +kernel
theorem dX16_checksAll_191 : decode cX16_checksAll 191 = .ok (.invokevirtual 624, 3) := by decide +kernel
theorem dX16_checksAll_194 : decode cX16_checksAll 194 = .ok (.iconst 0, 1) := by decide +kernel
theorem dX16_checksAll_195 : decode cX16_checksAll 195 = .ok (.istore_n 1, 1) := by decide +kernel
theorem dX16_checksAll_196 : decode cX16_checksAll 196 = .ok (.iload_n 1, 1) := by decide +kernel
theorem dX16_checksAll_197 : decode cX16_checksAll 197 = .ok (.aload_n 0, 1) := by decide +kernel
theorem dX16_checksAll_198 : decode cX16_checksAll 198 = .ok (.getfield 221, 3) := by decide +kernel
theorem dX16_checksAll_201 : decode cX16_checksAll 201 = .ok (.getfield 453, 3) := by decide +kernel
theorem dX16_checksAll_204 : decode cX16_checksAll 204 = .ok (.if_icmp .ge 31, 3) := by decide +kernel
theorem dX16_checksAll_207 : decode cX16_checksAll 207 = .ok (.aload_n 0, 1) := by decide +kernel
theorem dX16_checksAll_208 : decode cX16_checksAll 208 = .ok (.aload_n 0, 1) := by decide +kernel
theorem dX16_checksAll_209 : decode cX16_checksAll 209 = .ok (.getfield 221, 3) := by decide +kernel
theorem dX16_checksAll_212 : decode cX16_checksAll 212 = .ok (.getfield 463, 3) := by decide +kernel
theorem dX16_checksAll_215 : decode cX16_checksAll 215 = .ok (.iload_n 1, 1) := by decide +kernel
theorem dX16_checksAll_216 : decode cX16_checksAll 216 = .ok (.iaload, 1) := by decide +kernel
theorem dX16_checksAll_217 : decode cX16_checksAll 217 = .ok (.aload_n 0, 1) := by decide +kernel
theorem dX16_checksAll_218 : decode cX16_checksAll 218 = .ok (.getfield 221, 3) := by decide +kernel
theorem dX16_checksAll_221 : decode cX16_checksAll 221 = .ok (.getfield 459, 3) := by decide +kernel
theorem dX16_checksAll_224 : decode cX16_checksAll 224 = .ok (.iload_n 1, 1) := by decide +kernel
theorem dX16_checksAll_225 : decode cX16_checksAll 225 = .ok (.iaload, 1) := by decide +kernel
theorem dX16_checksAll_226 : decode cX16_checksAll 226 = .ok (.invokevirtual 627, 3) := by decide +kernel
theorem dX16_checksAll_229 : decode cX16_checksAll 229 = .ok (.iinc 1 1, 3) := by decide +kernel
theorem dX16_checksAll_232 : decode cX16_checksAll 232 = .ok (.goto (-36), 3) := by decide +kernel
theorem dX16_checksAll_235 : decode cX16_checksAll 235 = .ok (.iconst 0, 1) := by decide +kernel
theorem dX16_checksAll_236 : decode cX16_checksAll 236 = .ok (.istore_n 1, 1) := by decide +kernel
theorem dX16_checksAll_237 : decode cX16_checksAll 237 = .ok (.iload_n 1, 1) := by decide +kernel
theorem dX16_checksAll_238 : decode cX16_checksAll 238 = .ok (.aload_n 0, 1) := by decide +kernel
theorem dX16_checksAll_239 : decode cX16_checksAll 239 = .ok (.getfield 221, 3) := by decide +kernel
theorem dX16_checksAll_242 : decode cX16_checksAll 242 = .ok (.getfield 481, 3) := by decide +kernel
theorem dX16_checksAll_245 : decode cX16_checksAll 245 = .ok (.if_icmp .ge 14, 3) := by decide +kernel
theorem dX16_checksAll_248 : decode cX16_checksAll 248 = .ok (.aload_n 0, 1) := by decide +kernel
theorem dX16_checksAll_249 : decode cX16_checksAll 249 = .ok (.iload_n 1, 1) := by decide +kernel
theorem dX16_checksAll_250 : decode cX16_checksAll 250 = .ok (.invokevirtual 630, 3) := by decide +kernel
theorem dX16_checksAll_253 : decode cX16_checksAll 253 = .ok (.iinc 1 1, 3) := by decide +kernel
theorem dX16_checksAll_256 : decode cX16_checksAll 256 = .ok (.goto (-19), 3) := by decide +kernel
theorem dX16_checksAll_259 : decode cX16_checksAll 259 = .ok (.iconst 0, 1) := by decide +kernel
theorem dX16_checksAll_260 : decode cX16_checksAll 260 = .ok (.istore_n 1, 1) := by decide +kernel
theorem dX16_checksAll_261 : decode cX16_checksAll 261 = .ok (.iload_n 1, 1) := by decide +kernel
theorem dX16_checksAll_262 : decode cX16_checksAll 262 = .ok (.aload_n 0, 1) := by decide +kernel
theorem dX16_checksAll_263 : decode cX16_checksAll 263 = .ok (.getfield 221, 3) := by decide +kernel
theorem dX16_checksAll_266 : decode cX16_checksAll 266 = .ok (.getfield 529, 3) := by decide +kernel
theorem dX16_checksAll_269 : decode cX16_checksAll 269 = .ok (.if_icmp .ge 86, 3) := by decide +kernel
theorem dX16_checksAll_272 : decode cX16_checksAll 272 = .ok (.aload_n 0, 1) := by decide +kernel
theorem dX16_checksAll_273 : decode cX16_checksAll 273 = .ok (.getfield 221, 3) := by decide +kernel
theorem dX16_checksAll_276 : decode cX16_checksAll 276 = .ok (.getfield 534, 3) := by decide +kernel
theorem dX16_checksAll_279 : decode cX16_checksAll 279 = .ok (.iload_n 1, 1) := by decide +kernel
theorem dX16_checksAll_280 : decode cX16_checksAll 280 = .ok (.baload, 1) := by decide +kernel
theorem dX16_checksAll_281 : decode cX16_checksAll 281 = .ok (.ifCond .eq 41, 3) := by decide +kernel
theorem dX16_checksAll_284 : decode cX16_checksAll 284 = .ok (.aload_n 0, 1) := by decide +kernel
theorem dX16_checksAll_285 : decode cX16_checksAll 285 = .ok (.getfield 221, 3) := by decide +kernel
theorem dX16_checksAll_288 : decode cX16_checksAll 288 = .ok (.getfield 537, 3) := by decide +kernel
theorem dX16_checksAll_291 : decode cX16_checksAll 291 = .ok (.iload_n 1, 1) := by decide +kernel
theorem dX16_checksAll_292 : decode cX16_checksAll 292 = .ok (.laload, 1) := by decide +kernel
theorem dX16_checksAll_293 : decode cX16_checksAll 293 = .ok (.aload_n 0, 1) := by decide +kernel
theorem dX16_checksAll_294 : decode cX16_checksAll 294 = .ok (.getfield 221, 3) := by decide +kernel
theorem dX16_checksAll_297 : decode cX16_checksAll 297 = .ok (.iconst 2, 1) := by decide +kernel
theorem dX16_checksAll_298 : decode cX16_checksAll 298 = .ok (.invokevirtual 615, 3) := by decide +kernel
theorem dX16_checksAll_301 : decode cX16_checksAll 301 = .ok (.i2l, 1) := by decide +kernel
theorem dX16_checksAll_302 : decode cX16_checksAll 302 = .ok (.lcmp, 1) := by decide +kernel
theorem dX16_checksAll_303 : decode cX16_checksAll 303 = .ok (.ifCond .lt 19, 3) := by decide +kernel
theorem dX16_checksAll_306 : decode cX16_checksAll 306 = .ok (.aload_n 0, 1) := by decide +kernel
theorem dX16_checksAll_307 : decode cX16_checksAll 307 = .ok (.bipush 28, 2) := by decide +kernel
theorem dX16_checksAll_309 : decode cX16_checksAll 309 = .ok (.aload_n 0, 1) := by decide +kernel
theorem dX16_checksAll_310 : decode cX16_checksAll 310 = .ok (.getfield 221, 3) := by decide +kernel
theorem dX16_checksAll_313 : decode cX16_checksAll 313 = .ok (.getfield 302, 3) := by decide +kernel
theorem dX16_checksAll_316 : decode cX16_checksAll 316 = .ok (.bipush 11, 2) := by decide +kernel
theorem dX16_checksAll_318 : decode cX16_checksAll 318 = .ok (.iaload, 1) := by decide +kernel
theorem dX16_checksAll_319 : decode cX16_checksAll 319 = .ok (.invokevirtual 257, 3) := by decide +kernel
theorem dX16_checksAll_322 : decode cX16_checksAll 322 = .ok (.aload_n 0, 1) := by decide +kernel
theorem dX16_checksAll_323 : decode cX16_checksAll 323 = .ok (.getfield 221, 3) := by decide +kernel
theorem dX16_checksAll_326 : decode cX16_checksAll 326 = .ok (.getfield 534, 3) := by decide +kernel
theorem dX16_checksAll_329 : decode cX16_checksAll 329 = .ok (.iload_n 1, 1) := by decide +kernel
theorem dX16_checksAll_330 : decode cX16_checksAll 330 = .ok (.baload, 1) := by decide +kernel
theorem dX16_checksAll_331 : decode cX16_checksAll 331 = .ok (.ifCond .eq 18, 3) := by decide +kernel
theorem dX16_checksAll_334 : decode cX16_checksAll 334 = .ok (.aload_n 0, 1) := by decide +kernel
theorem dX16_checksAll_335 : decode cX16_checksAll 335 = .ok (.aload_n 0, 1) := by decide +kernel
theorem dX16_checksAll_336 : decode cX16_checksAll 336 = .ok (.getfield 221, 3) := by decide +kernel
theorem dX16_checksAll_339 : decode cX16_checksAll 339 = .ok (.getfield 540, 3) := by decide +kernel
theorem dX16_checksAll_342 : decode cX16_checksAll 342 = .ok (.iload_n 1, 1) := by decide +kernel
theorem dX16_checksAll_343 : decode cX16_checksAll 343 = .ok (.iaload, 1) := by decide +kernel
theorem dX16_checksAll_344 : decode cX16_checksAll 344 = .ok (.bipush 127, 2) := by decide +kernel
theorem dX16_checksAll_346 : decode cX16_checksAll 346 = .ok (.invokevirtual 627, 3) := by decide +kernel
theorem dX16_checksAll_349 : decode cX16_checksAll 349 = .ok (.iinc 1 1, 3) := by decide +kernel
theorem dX16_checksAll_352 : decode cX16_checksAll 352 = .ok (.goto (-91), 3) := by decide +kernel
theorem dX16_checksAll_355 : decode cX16_checksAll 355 = .ok (.iconst 0, 1) := by decide +kernel
theorem dX16_checksAll_356 : decode cX16_checksAll 356 = .ok (.istore_n 1, 1) := by decide +kernel
theorem dX16_checksAll_357 : decode cX16_checksAll 357 = .ok (.iload_n 1, 1) := by decide +kernel
theorem dX16_checksAll_358 : decode cX16_checksAll 358 = .ok (.aload_n 0, 1) := by decide +kernel
theorem dX16_checksAll_359 : decode cX16_checksAll 359 = .ok (.getfield 221, 3) := by decide +kernel
theorem dX16_checksAll_362 : decode cX16_checksAll 362 = .ok (.getfield 426, 3) := by decide +kernel
theorem dX16_checksAll_365 : decode cX16_checksAll 365 = .ok (.if_icmp .ge 14, 3) := by decide +kernel
theorem dX16_checksAll_368 : decode cX16_checksAll 368 = .ok (.aload_n 0, 1) := by decide +kernel
theorem dX16_checksAll_369 : decode cX16_checksAll 369 = .ok (.iload_n 1, 1) := by decide +kernel
theorem dX16_checksAll_370 : decode cX16_checksAll 370 = .ok (.invokevirtual 633, 3) := by decide +kernel
theorem dX16_checksAll_373 : decode cX16_checksAll 373 = .ok (.iinc 1 1, 3) := by decide +kernel
theorem dX16_checksAll_376 : decode cX16_checksAll 376 = .ok (.goto (-19), 3) := by decide +kernel
theorem dX16_checksAll_379 : decode cX16_checksAll 379 = .ok (.return_, 1) := by decide +kernel
noncomputable def tX16_checksAll_23 (x0 : Nat) (h : pm_H) : Option (((Nat × pm_H) ⊕ (Nat × pm_H) ⊕ (Nat × Int32 × Int32 × Nat × pm_H) ⊕ (Nat × Int32 × pm_H) ⊕ (Nat × Int32 × pm_H) ⊕ (Nat × Int32 × pm_H) ⊕ (Nat × Int32 × Int32 × pm_H) ⊕ (Nat × Int32 × pm_H) ⊕ (Nat × Int32 × pm_H)) ⊕ ((Nat × pm_H) ⊕ pm_H)) := if pm_kd h x0 = 16 then (fX16_checksTypes h x0).bind fun v11 => pt_s v11 fun w13 => if pm_kd w13 x0 = 16 then (fX16_checksLimits w13 x0).bind fun v16 => pt_s v16 fun w18 => if pm_kd w18 x0 = 16 then (pm_R w18 x0 10).bind fun v21 => if pm_kd w18 v21 = 14 then (fX14_all w18 v21 2).bind fun v24 => if v24 ≤ 1 then (some (.inl (.inr (.inl ((x0, w18)))))) else ((pm_R w18 v21 2).bind fun v27 => if pm_kd w18 v27 = 34 then if pm_in 5 (pm_ln w18 v27) then if (pm_I w18 v27 (5 : Int32).toNatClampNeg) < 0 then (if pm_in 2 (pm_ln w18 v27) then some (.inl (.inr (.inr (.inl ((x0, pm_I w18 v27 (2 : Int32).toNatClampNeg, 22, x0, w18)))))) else none) else (if pm_in 5 (pm_ln w18 v27) then some (.inl (.inr (.inr (.inl ((x0, pm_I w18 v27 (5 : Int32).toNatClampNeg, 22, x0, w18)))))) else none) else none else none) else none else none else none else none
noncomputable def tX16_checksAll_82 (x0 : Nat) (h : pm_H) : Option (((Nat × pm_H) ⊕ (Nat × pm_H) ⊕ (Nat × Int32 × Int32 × Nat × pm_H) ⊕ (Nat × Int32 × pm_H) ⊕ (Nat × Int32 × pm_H) ⊕ (Nat × Int32 × pm_H) ⊕ (Nat × Int32 × Int32 × pm_H) ⊕ (Nat × Int32 × pm_H) ⊕ (Nat × Int32 × pm_H)) ⊕ ((Nat × pm_H) ⊕ pm_H)) := if pm_kd h x0 = 16 then (fX16_checksExports h x0).bind fun v35 => pt_s v35 fun w37 => if pm_kd w37 x0 = 16 then (pm_R w37 x0 10).bind fun v40 => if pm_kd w37 v40 = 14 then if (pm_L w37 v40 33) < 0 then ((fX16_declares w37 x0).bind fun v44 => some (.inl (.inr (.inr (.inr (.inl ((x0, 0, v44)))))))) else ((fX14_all w37 v40 0).bind fun v46 => if v46.toInt64 ≤ (pm_L w37 v40 33) then (some (.inl (.inr (.inr (.inr (.inr (.inl ((x0, 0, w37))))))))) else (some (.inl (.inr (.inr (.inr (.inr (.inl ((x0, 1, w37)))))))))) else none else none else none
noncomputable def tX16_checksAll_79 (x0 : Nat) (s0 : Int32) (s1 : Int32) (s2 : Nat) (h : pm_H) : Option (((Nat × pm_H) ⊕ (Nat × pm_H) ⊕ (Nat × Int32 × Int32 × Nat × pm_H) ⊕ (Nat × Int32 × pm_H) ⊕ (Nat × Int32 × pm_H) ⊕ (Nat × Int32 × pm_H) ⊕ (Nat × Int32 × Int32 × pm_H) ⊕ (Nat × Int32 × pm_H) ⊕ (Nat × Int32 × pm_H)) ⊕ ((Nat × pm_H) ⊕ pm_H)) := if pm_kd h s2 = 16 then (fX16_stops h s2 s1 s0).bind fun v50 => pt_s v50 fun w52 => some (.inl (.inr (.inl ((x0, w52))))) else none
noncomputable def tX16_checksAll_196 (x0 : Nat) (x1 : Int32) (h : pm_H) : Option (((Nat × pm_H) ⊕ (Nat × pm_H) ⊕ (Nat × Int32 × Int32 × Nat × pm_H) ⊕ (Nat × Int32 × pm_H) ⊕ (Nat × Int32 × pm_H) ⊕ (Nat × Int32 × pm_H) ⊕ (Nat × Int32 × Int32 × pm_H) ⊕ (Nat × Int32 × pm_H) ⊕ (Nat × Int32 × pm_H)) ⊕ ((Nat × pm_H) ⊕ pm_H)) := if pm_kd h x0 = 16 then (pm_R h x0 10).bind fun v55 => if pm_kd h v55 = 14 then if (pm_I h v55 24) ≤ x1 then (some (.inl (.inr (.inr (.inr (.inr (.inr (.inl ((x0, 0, h)))))))))) else ((pm_R h v55 27).bind fun v59 => if pm_kd h v59 = 34 then if pm_in x1 (pm_ln h v59) then (pm_R h v55 25).bind fun v63 => if pm_kd h v63 = 34 then if pm_in x1 (pm_ln h v63) then (fX16_constantly h x0 (pm_I h v59 x1.toNatClampNeg) (pm_I h v63 x1.toNatClampNeg)).bind fun v67 => pt_s v67 fun w69 => pm_let (x1 + 1) fun y71 => some (.inl (.inr (.inr (.inr (.inl ((x0, y71, w69))))))) else none else none else none else none) else none else none
noncomputable def tX16_checksAll_123 (x0 : Nat) (s0 : Int32) (h : pm_H) : Option (((Nat × pm_H) ⊕ (Nat × pm_H) ⊕ (Nat × Int32 × Int32 × Nat × pm_H) ⊕ (Nat × Int32 × pm_H) ⊕ (Nat × Int32 × pm_H) ⊕ (Nat × Int32 × pm_H) ⊕ (Nat × Int32 × Int32 × pm_H) ⊕ (Nat × Int32 × pm_H) ⊕ (Nat × Int32 × pm_H)) ⊕ ((Nat × pm_H) ⊕ pm_H)) := if s0 = 0 then (some (.inl (.inr (.inr (.inr (.inr (.inr (.inr (.inl ((x0, s0, 0, h))))))))))) else (if pm_kd h x0 = 16 then (pm_R h x0 10).bind fun v75 => if pm_kd h v75 = 14 then (fX14_typeOfFunction h v75 ((pm_L h v75 33).toInt32)).bind fun v78 => some (.inl (.inr (.inr (.inr (.inr (.inr (.inr (.inl ((x0, s0, v78, h)))))))))) else none else none)
noncomputable def tX16_checksAll_237 (x0 : Nat) (x1 : Int32) (h : pm_H) : Option (((Nat × pm_H) ⊕ (Nat × pm_H) ⊕ (Nat × Int32 × Int32 × Nat × pm_H) ⊕ (Nat × Int32 × pm_H) ⊕ (Nat × Int32 × pm_H) ⊕ (Nat × Int32 × pm_H) ⊕ (Nat × Int32 × Int32 × pm_H) ⊕ (Nat × Int32 × pm_H) ⊕ (Nat × Int32 × pm_H)) ⊕ ((Nat × pm_H) ⊕ pm_H)) := if pm_kd h x0 = 16 then (pm_R h x0 10).bind fun v81 => if pm_kd h v81 = 14 then if (pm_I h v81 34) ≤ x1 then (some (.inl (.inr (.inr (.inr (.inr (.inr (.inr (.inr (.inl ((x0, 0, h)))))))))))) else ((fX16_checksElement h x0 x1).bind fun v85 => pt_s v85 fun w87 => pm_let (x1 + 1) fun y89 => some (.inl (.inr (.inr (.inr (.inr (.inr (.inl ((x0, y89, w87)))))))))) else none else none
noncomputable def tX16_checksAll_147 (x0 : Nat) (x1 : Int32) (s0 : Int32) (h : pm_H) : Option (((Nat × pm_H) ⊕ (Nat × pm_H) ⊕ (Nat × Int32 × Int32 × Nat × pm_H) ⊕ (Nat × Int32 × pm_H) ⊕ (Nat × Int32 × pm_H) ⊕ (Nat × Int32 × pm_H) ⊕ (Nat × Int32 × Int32 × pm_H) ⊕ (Nat × Int32 × pm_H) ⊕ (Nat × Int32 × pm_H)) ⊕ ((Nat × pm_H) ⊕ pm_H)) := if x1 = 0 then (if pm_kd h x0 = 16 then (pm_R h x0 10).bind fun v93 => if pm_kd h v93 = 14 then (pm_R h v93 2).bind fun v96 => if pm_kd h v96 = 34 then if pm_in 8 (pm_ln h v96) then (fX16_stops h x0 25 (pm_I h v96 (8 : Int32).toNatClampNeg)).bind fun v100 => pt_s v100 fun w102 => if pm_kd w102 x0 = 16 then (fX16_declares w102 x0).bind fun v105 => some (.inl (.inr (.inr (.inr (.inl ((x0, 0, v105))))))) else none else none else none else none else none) else (if pm_kd h x0 = 16 then (pm_R h x0 10).bind fun v108 => if pm_kd h v108 = 14 then (pm_R h v108 5).bind fun v111 => if pm_kd h v111 = 34 then if pm_in s0 (pm_ln h v111) then (pm_R h v108 6).bind fun v115 => if pm_kd h v115 = 34 then if pm_in s0 (pm_ln h v115) then if ((pm_I h v111 s0.toNatClampNeg) + (pm_I h v115 s0.toNatClampNeg)) ≤ 0 then ((fX16_declares h x0).bind fun v120 => some (.inl (.inr (.inr (.inr (.inl ((x0, 0, v120)))))))) else ((pm_R h v108 2).bind fun v122 => if pm_kd h v122 = 34 then if pm_in 8 (pm_ln h v122) then (fX16_stops h x0 25 (pm_I h v122 (8 : Int32).toNatClampNeg)).bind fun v126 => pt_s v126 fun w128 => if pm_kd w128 x0 = 16 then (fX16_declares w128 x0).bind fun v131 => some (.inl (.inr (.inr (.inr (.inl ((x0, 0, v131))))))) else none else none else none) else none else none else none else none else none else none)
noncomputable def tX16_checksAll_261 (x0 : Nat) (x1 : Int32) (h : pm_H) : Option (((Nat × pm_H) ⊕ (Nat × pm_H) ⊕ (Nat × Int32 × Int32 × Nat × pm_H) ⊕ (Nat × Int32 × pm_H) ⊕ (Nat × Int32 × pm_H) ⊕ (Nat × Int32 × pm_H) ⊕ (Nat × Int32 × Int32 × pm_H) ⊕ (Nat × Int32 × pm_H) ⊕ (Nat × Int32 × pm_H)) ⊕ ((Nat × pm_H) ⊕ pm_H)) := if pm_kd h x0 = 16 then (pm_R h x0 10).bind fun v134 => if pm_kd h v134 = 14 then if (pm_I h v134 44) ≤ x1 then (some (.inl (.inr (.inr (.inr (.inr (.inr (.inr (.inr (.inr ((x0, 0, h)))))))))))) else ((pm_R h v134 45).bind fun v138 => if pm_kd h v138 = 32 then if pm_in x1 (pm_ln h v138) then if (pm_I h v138 x1.toNatClampNeg) = 0 then (if pm_in x1 (pm_ln h v138) then if (pm_I h v138 x1.toNatClampNeg) = 0 then (pm_let (x1 + 1) fun y145 => some (.inl (.inr (.inr (.inr (.inr (.inr (.inr (.inr (.inl ((x0, y145, h)))))))))))) else ((pm_R h v134 47).bind fun v147 => if pm_kd h v147 = 34 then if pm_in x1 (pm_ln h v147) then (fX16_constantly h x0 (pm_I h v147 x1.toNatClampNeg) 127).bind fun v151 => pt_s v151 fun w153 => pm_let (x1 + 1) fun y155 => some (.inl (.inr (.inr (.inr (.inr (.inr (.inr (.inr (.inl ((x0, y155, w153))))))))))) else none else none) else none) else ((pm_R h v134 46).bind fun v157 => if pm_kd h v157 = 35 then if pm_in x1 (pm_ln h v157) then (fX14_all h v134 2).bind fun v161 => if (pm_L h v157 x1.toNatClampNeg) < v161.toInt64 then (if pm_in x1 (pm_ln h v138) then if (pm_I h v138 x1.toNatClampNeg) = 0 then (pm_let (x1 + 1) fun y166 => some (.inl (.inr (.inr (.inr (.inr (.inr (.inr (.inr (.inl ((x0, y166, h)))))))))))) else ((pm_R h v134 47).bind fun v168 => if pm_kd h v168 = 34 then if pm_in x1 (pm_ln h v168) then (fX16_constantly h x0 (pm_I h v168 x1.toNatClampNeg) 127).bind fun v172 => pt_s v172 fun w174 => pm_let (x1 + 1) fun y176 => some (.inl (.inr (.inr (.inr (.inr (.inr (.inr (.inr (.inl ((x0, y176, w174))))))))))) else none else none) else none) else ((pm_R h v134 2).bind fun v178 => if pm_kd h v178 = 34 then if pm_in 11 (pm_ln h v178) then (fX16_stops h x0 28 (pm_I h v178 (11 : Int32).toNatClampNeg)).bind fun v182 => pt_s v182 fun w184 => if pm_kd w184 x0 = 16 then (pm_R w184 x0 10).bind fun v187 => if pm_kd w184 v187 = 14 then (pm_R w184 v187 45).bind fun v190 => if pm_kd w184 v190 = 32 then if pm_in x1 (pm_ln w184 v190) then if (pm_I w184 v190 x1.toNatClampNeg) = 0 then (pm_let (x1 + 1) fun y195 => some (.inl (.inr (.inr (.inr (.inr (.inr (.inr (.inr (.inl ((x0, y195, w184)))))))))))) else ((pm_R w184 v187 47).bind fun v197 => if pm_kd w184 v197 = 34 then if pm_in x1 (pm_ln w184 v197) then (fX16_constantly w184 x0 (pm_I w184 v197 x1.toNatClampNeg) 127).bind fun v201 => pt_s v201 fun w203 => pm_let (x1 + 1) fun y205 => some (.inl (.inr (.inr (.inr (.inr (.inr (.inr (.inr (.inl ((x0, y205, w203))))))))))) else none else none) else none else none else none else none else none else none) else none else none) else none else none) else none else none
noncomputable def tX16_checksAll_357 (x0 : Nat) (x1 : Int32) (h : pm_H) : Option (((Nat × pm_H) ⊕ (Nat × pm_H) ⊕ (Nat × Int32 × Int32 × Nat × pm_H) ⊕ (Nat × Int32 × pm_H) ⊕ (Nat × Int32 × pm_H) ⊕ (Nat × Int32 × pm_H) ⊕ (Nat × Int32 × Int32 × pm_H) ⊕ (Nat × Int32 × pm_H) ⊕ (Nat × Int32 × pm_H)) ⊕ ((Nat × pm_H) ⊕ pm_H)) := if pm_kd h x0 = 16 then (pm_R h x0 10).bind fun v208 => if pm_kd h v208 = 14 then if (pm_I h v208 15) ≤ x1 then (some (.inr (.inr (h)))) else ((fX16_checksBody h x0 x1).bind fun v212 => pt_s v212 fun w214 => pm_let (x1 + 1) fun y216 => some (.inl (.inr (.inr (.inr (.inr (.inr (.inr (.inr (.inr ((x0, y216, w214)))))))))))) else none else none
noncomputable def sX16_checksAll : ((Nat × pm_H) ⊕ (Nat × pm_H) ⊕ (Nat × Int32 × Int32 × Nat × pm_H) ⊕ (Nat × Int32 × pm_H) ⊕ (Nat × Int32 × pm_H) ⊕ (Nat × Int32 × pm_H) ⊕ (Nat × Int32 × Int32 × pm_H) ⊕ (Nat × Int32 × pm_H) ⊕ (Nat × Int32 × pm_H)) → Option (((Nat × pm_H) ⊕ (Nat × pm_H) ⊕ (Nat × Int32 × Int32 × Nat × pm_H) ⊕ (Nat × Int32 × pm_H) ⊕ (Nat × Int32 × pm_H) ⊕ (Nat × Int32 × pm_H) ⊕ (Nat × Int32 × Int32 × pm_H) ⊕ (Nat × Int32 × pm_H) ⊕ (Nat × Int32 × pm_H)) ⊕ ((Nat × pm_H) ⊕ pm_H)) := fun z => match z with
  | .inl (x0, h) => tX16_checksAll_23 x0 h
  | .inr (.inl (x0, h)) => tX16_checksAll_82 x0 h
  | .inr (.inr (.inl (x0, s0, s1, s2, h))) => tX16_checksAll_79 x0 s0 s1 s2 h
  | .inr (.inr (.inr (.inl (x0, x1, h)))) => tX16_checksAll_196 x0 x1 h
  | .inr (.inr (.inr (.inr (.inl (x0, s0, h))))) => tX16_checksAll_123 x0 s0 h
  | .inr (.inr (.inr (.inr (.inr (.inl (x0, x1, h)))))) => tX16_checksAll_237 x0 x1 h
  | .inr (.inr (.inr (.inr (.inr (.inr (.inl (x0, x1, s0, h))))))) => tX16_checksAll_147 x0 x1 s0 h
  | .inr (.inr (.inr (.inr (.inr (.inr (.inr (.inl (x0, x1, h)))))))) => tX16_checksAll_261 x0 x1 h
  | .inr (.inr (.inr (.inr (.inr (.inr (.inr (.inr (x0, x1, h)))))))) => tX16_checksAll_357 x0 x1 h
noncomputable def fX16_checksAll (h : pm_H) (a0 : Nat) : Option ((Nat × pm_H) ⊕ pm_H) := if pm_kd h a0 = 16 then (pm_R h a0 10).bind fun v2 => if pm_kd h v2 = 14 then if (pm_I h v2 3) < 0 then (pm_lim sX16_checksAll (.inl ((a0, h)))) else ((fX16_stops h a0 40 (pm_I h v2 3)).bind fun v6 => pt_k v6 fun w8 => pm_lim sX16_checksAll (.inl ((a0, w8)))) else none else none
set_option maxHeartbeats 4000000 in
set_option maxRecDepth 100000 in
theorem lpX16_checksAll {g : pm_Gm} {l : Launch} {G : pm_Gl} {Qr : Option Value → pm_H → Prop} {Qt : Nat → pm_H → Prop} (C : pm_C g cX16_checksAll RX16) (X : pm_XT g l G mX16_checksAll 0 0 Qr Qt) {r : ((Nat × pm_H) ⊕ pm_H)} (q : pt_eV Qr Qt r) : ∀ n : Nat, (∀ (x0 : Nat) (h : pm_H), pm_iter sX16_checksAll n (.inl (x0, h)) = some r → pm_G g 23 [(0, .ref x0)] [] h 0 0) ∧ (∀ (x0 : Nat) (h : pm_H), pm_iter sX16_checksAll n (.inr (.inl (x0, h))) = some r → pm_G g 82 [(0, .ref x0)] [] h 0 0) ∧ (∀ (x0 : Nat) (s0 : Int32) (s1 : Int32) (s2 : Nat) (h : pm_H), pm_iter sX16_checksAll n (.inr (.inr (.inl (x0, s0, s1, s2, h)))) = some r → pm_G g 79 [(0, .ref x0)] [.int s0, .int s1, .ref s2] h 0 0) ∧ (∀ (x0 : Nat) (x1 : Int32) (h : pm_H), pm_iter sX16_checksAll n (.inr (.inr (.inr (.inl (x0, x1, h))))) = some r → pm_G g 196 [(0, .ref x0), (1, .int x1)] [] h 0 0) ∧ (∀ (x0 : Nat) (s0 : Int32) (h : pm_H), pm_iter sX16_checksAll n (.inr (.inr (.inr (.inr (.inl (x0, s0, h)))))) = some r → pm_G g 123 [(0, .ref x0)] [.int s0] h 0 0) ∧ (∀ (x0 : Nat) (x1 : Int32) (h : pm_H), pm_iter sX16_checksAll n (.inr (.inr (.inr (.inr (.inr (.inl (x0, x1, h))))))) = some r → pm_G g 237 [(0, .ref x0), (1, .int x1)] [] h 0 0) ∧ (∀ (x0 : Nat) (x1 : Int32) (s0 : Int32) (h : pm_H), pm_iter sX16_checksAll n (.inr (.inr (.inr (.inr (.inr (.inr (.inl (x0, x1, s0, h)))))))) = some r → pm_G g 147 [(0, .ref x0), (1, .int x1)] [.int s0] h 0 0) ∧ (∀ (x0 : Nat) (x1 : Int32) (h : pm_H), pm_iter sX16_checksAll n (.inr (.inr (.inr (.inr (.inr (.inr (.inr (.inl (x0, x1, h))))))))) = some r → pm_G g 261 [(0, .ref x0), (1, .int x1)] [] h 0 0) ∧ (∀ (x0 : Nat) (x1 : Int32) (h : pm_H), pm_iter sX16_checksAll n (.inr (.inr (.inr (.inr (.inr (.inr (.inr (.inr (x0, x1, h))))))))) = some r → pm_G g 357 [(0, .ref x0), (1, .int x1)] [] h 0 0) := by
  intro n
  induction n with
  | zero => exact ⟨fun _ _ hf => (by cases hf), fun _ _ hf => (by cases hf), fun _ _ _ _ _ hf => (by cases hf), fun _ _ _ hf => (by cases hf), fun _ _ _ hf => (by cases hf), fun _ _ _ hf => (by cases hf), fun _ _ _ _ hf => (by cases hf), fun _ _ _ hf => (by cases hf), fun _ _ _ hf => (by cases hf)⟩
  | succ n ih =>
    refine ⟨fun x0 h hf => ?_, ?_⟩
    · obtain ⟨y, hf, hi⟩ := pm_iter_s hf
      have hf : tX16_checksAll_23 x0 h = some y := hf
      unfold tX16_checksAll_23 at hf
      refine pm_aload_n C dX16_checksAll_23 rfl rfl ?_
      obtain ⟨k10, hf⟩ := pm_if hf
      obtain ⟨v11, e12, hf⟩ := pm_bd hf
      refine pt_callVT (as := []) (st := []) C X dX16_checksAll_24 ltX16_609 myX16_checksTypes viX16_checksTypes ⟨by decide, by decide⟩ rfl rfl k10 (Nat.le_of_ble_eq_true rfl) (Nat.le_refl _) (Nat.le_refl _) (ctX16_checksTypes e12 ?_)
      rcases v11 with z14 | w13
      · have hf := pt_sl hf
        cases hf
        cases hi
        exact q
      have hf := pt_sr hf
      show pm_G g 27 [(0, .ref x0)] [] w13 0 0
      refine pm_aload_n C dX16_checksAll_27 rfl rfl ?_
      obtain ⟨k15, hf⟩ := pm_if hf
      obtain ⟨v16, e17, hf⟩ := pm_bd hf
      refine pt_callVT (as := []) (st := []) C X dX16_checksAll_28 ltX16_612 myX16_checksLimits viX16_checksLimits ⟨by decide, by decide⟩ rfl rfl k15 (Nat.le_of_ble_eq_true rfl) (Nat.le_refl _) (Nat.le_refl _) (ctX16_checksLimits e17 ?_)
      rcases v16 with z19 | w18
      · have hf := pt_sl hf
        cases hf
        cases hi
        exact q
      have hf := pt_sr hf
      show pm_G g 31 [(0, .ref x0)] [] w18 0 0
      refine pm_aload_n C dX16_checksAll_31 rfl rfl ?_
      obtain ⟨k20, hf⟩ := pm_if hf
      obtain ⟨v21, e22, hf⟩ := pm_bd hf
      refine pm_getR C dX16_checksAll_32 flX16_221 rfl k20 e22 ?_
      refine pm_iconst (v := 2) C dX16_checksAll_35 (by decide) ?_
      obtain ⟨k23, hf⟩ := pm_if hf
      obtain ⟨v24, e25, hf⟩ := pm_bd hf
      refine pt_callV (as := [.int 2]) (st := []) C X dX16_checksAll_36 lnX16_615 myX14_all viX14_all ⟨by decide, by decide⟩ rfl rfl k23 (Nat.le_of_ble_eq_true rfl) (Nat.le_refl _) (Nat.le_refl _) (ctX14_all e25 ?_)
      show pm_G g 39 [(0, .ref x0)] [.int v24] w18 0 0
      refine pm_iconst (v := 1) C dX16_checksAll_39 (by decide) ?_
      refine pm_icmp_le (tgt := 82) C dX16_checksAll_40 (by decide) (fun c26 => ?_) (fun c26 => ?_)
      · have hf := pm_it hf c26
        cases hf
        exact pm_sub [0] rfl (ih.2.1 x0 w18 hi)
      · have hf := pm_ie hf c26
        refine pm_aload_n C dX16_checksAll_43 rfl rfl ?_
        refine pm_bipush (v := 22) C dX16_checksAll_44 (by decide) ?_
        refine pm_aload_n C dX16_checksAll_46 rfl rfl ?_
        refine pm_getR C dX16_checksAll_47 flX16_221 rfl k20 e22 ?_
        obtain ⟨v27, e28, hf⟩ := pm_bd hf
        refine pm_getR C dX16_checksAll_50 flX16_302 rfl k23 e28 ?_
        refine pm_iconst (v := 5) C dX16_checksAll_53 (by decide) ?_
        obtain ⟨k29, hf⟩ := pm_if hf
        obtain ⟨u30, hf⟩ := pm_if hf
        refine pm_iald C dX16_checksAll_54 k29 u30 rfl ?_
        refine pm_if_lt (tgt := 70) C dX16_checksAll_55 (by decide) (fun c31 => ?_) (fun c31 => ?_)
        · have hf := pm_it hf c31
          refine pm_aload_n C dX16_checksAll_70 rfl rfl ?_
          refine pm_getR C dX16_checksAll_71 flX16_221 rfl k20 e22 ?_
          refine pm_getR C dX16_checksAll_74 flX16_302 rfl k23 e28 ?_
          refine pm_iconst (v := 2) C dX16_checksAll_77 (by decide) ?_
          obtain ⟨u32, hf⟩ := pm_if hf
          refine pm_iald C dX16_checksAll_78 k29 u32 rfl ?_
          cases hf
          exact pm_sub [0] rfl (ih.2.2.1 x0 (pm_I w18 v27 (2 : Int32).toNatClampNeg) 22 x0 w18 hi)
        · have hf := pm_ie hf c31
          refine pm_aload_n C dX16_checksAll_58 rfl rfl ?_
          refine pm_getR C dX16_checksAll_59 flX16_221 rfl k20 e22 ?_
          refine pm_getR C dX16_checksAll_62 flX16_302 rfl k23 e28 ?_
          refine pm_iconst (v := 5) C dX16_checksAll_65 (by decide) ?_
          obtain ⟨u33, hf⟩ := pm_if hf
          refine pm_iald C dX16_checksAll_66 k29 u33 rfl ?_
          refine pm_goto (tgt := 79) C dX16_checksAll_67 (by decide) ?_
          cases hf
          exact pm_sub [0] rfl (ih.2.2.1 x0 (pm_I w18 v27 (5 : Int32).toNatClampNeg) 22 x0 w18 hi)
    refine ⟨fun x0 h hf => ?_, ?_⟩
    · obtain ⟨y, hf, hi⟩ := pm_iter_s hf
      have hf : tX16_checksAll_82 x0 h = some y := hf
      unfold tX16_checksAll_82 at hf
      refine pm_aload_n C dX16_checksAll_82 rfl rfl ?_
      obtain ⟨k34, hf⟩ := pm_if hf
      obtain ⟨v35, e36, hf⟩ := pm_bd hf
      refine pt_callVT (as := []) (st := []) C X dX16_checksAll_83 ltX16_618 myX16_checksExports viX16_checksExports ⟨by decide, by decide⟩ rfl rfl k34 (Nat.le_of_ble_eq_true rfl) (Nat.le_refl _) (Nat.le_refl _) (ctX16_checksExports e36 ?_)
      rcases v35 with z38 | w37
      · have hf := pt_sl hf
        cases hf
        cases hi
        exact q
      have hf := pt_sr hf
      show pm_G g 86 [(0, .ref x0)] [] w37 0 0
      refine pm_aload_n C dX16_checksAll_86 rfl rfl ?_
      obtain ⟨k39, hf⟩ := pm_if hf
      obtain ⟨v40, e41, hf⟩ := pm_bd hf
      refine pm_getR C dX16_checksAll_87 flX16_221 rfl k39 e41 ?_
      obtain ⟨k42, hf⟩ := pm_if hf
      refine pm_getL C dX16_checksAll_90 flX16_348 rfl k42 rfl ?_
      refine pm_lconst (v := 0) C dX16_checksAll_93 (by decide) ?_
      refine pm_lcmp C dX16_checksAll_94 ?_
      refine pm_if_lt (tgt := 190) C dX16_checksAll_95 (by decide) (fun c43 => ?_) (fun c43 => ?_)
      · have hf := pm_it hf ((pm_lg_lt _ _).mp c43)
        refine pm_aload_n C dX16_checksAll_190 rfl rfl ?_
        obtain ⟨v44, e45, hf⟩ := pm_bd hf
        refine pt_callV (as := []) (st := []) C X dX16_checksAll_191 lnX16_624 myX16_declares viX16_declares ⟨by decide, by decide⟩ rfl rfl k39 (Nat.le_of_ble_eq_true rfl) (Nat.le_refl _) (Nat.le_refl _) (ctX16_declares e45 ?_)
        show pm_G g 194 [(0, .ref x0)] [] v44 0 0
        refine pm_iconst (v := 0) C dX16_checksAll_194 (by decide) ?_
        refine pm_istore_n (lv' := [(1, .int 0), (0, .ref x0)]) C dX16_checksAll_195 rfl (pt_nl X (by decide)) rfl ?_
        cases hf
        exact pm_sub [1, 0] rfl (ih.2.2.2.1 x0 0 v44 hi)
      · have hf := pm_ie hf ((fun z => c43 ((pm_lg_lt _ _).mpr z)))
        refine pm_aload_n C dX16_checksAll_98 rfl rfl ?_
        refine pm_getR C dX16_checksAll_99 flX16_221 rfl k39 e41 ?_
        refine pm_getL C dX16_checksAll_102 flX16_348 rfl k42 rfl ?_
        refine pm_aload_n C dX16_checksAll_105 rfl rfl ?_
        refine pm_getR C dX16_checksAll_106 flX16_221 rfl k39 e41 ?_
        refine pm_iconst (v := 0) C dX16_checksAll_109 (by decide) ?_
        obtain ⟨v46, e47, hf⟩ := pm_bd hf
        refine pt_callV (as := [.int 0]) (st := [.long (pm_L w37 v40 33)]) C X dX16_checksAll_110 lnX16_615 myX14_all viX14_all ⟨by decide, by decide⟩ rfl rfl k42 (Nat.le_of_ble_eq_true rfl) (Nat.le_refl _) (Nat.le_refl _) (ctX14_all e47 ?_)
        show pm_G g 113 [(0, .ref x0)] [.int v46, .long (pm_L w37 v40 33)] w37 0 0
        refine pm_i2l C dX16_checksAll_113 ?_
        refine pm_lcmp C dX16_checksAll_114 ?_
        refine pm_if_ge (tgt := 122) C dX16_checksAll_115 (by decide) (fun c48 => ?_) (fun c48 => ?_)
        · have hf := pm_it hf ((pm_lg_ge _ _).mp c48)
          refine pm_iconst (v := 0) C dX16_checksAll_122 (by decide) ?_
          cases hf
          exact pm_sub [0] rfl (ih.2.2.2.2.1 x0 0 w37 hi)
        · have hf := pm_ie hf ((fun z => c48 ((pm_lg_ge _ _).mpr z)))
          refine pm_iconst (v := 1) C dX16_checksAll_118 (by decide) ?_
          refine pm_goto (tgt := 123) C dX16_checksAll_119 (by decide) ?_
          cases hf
          exact pm_sub [0] rfl (ih.2.2.2.2.1 x0 1 w37 hi)
    refine ⟨fun x0 s0 s1 s2 h hf => ?_, ?_⟩
    · obtain ⟨y, hf, hi⟩ := pm_iter_s hf
      have hf : tX16_checksAll_79 x0 s0 s1 s2 h = some y := hf
      unfold tX16_checksAll_79 at hf
      obtain ⟨k49, hf⟩ := pm_if hf
      obtain ⟨v50, e51, hf⟩ := pm_bd hf
      refine pt_callVT (as := [.int s1, .int s0]) (st := []) C X dX16_checksAll_79 ltX16_257 myX16_stops viX16_stops ⟨by decide, by decide⟩ rfl rfl k49 (Nat.le_of_ble_eq_true rfl) (Nat.le_refl _) (Nat.le_refl _) (ctX16_stops e51 ?_)
      rcases v50 with z53 | w52
      · have hf := pt_sl hf
        cases hf
        cases hi
        exact q
      have hf := pt_sr hf
      show pm_G g 82 [(0, .ref x0)] [] w52 0 0
      cases hf
      exact pm_sub [0] rfl (ih.2.1 x0 w52 hi)
    refine ⟨fun x0 x1 h hf => ?_, ?_⟩
    · obtain ⟨y, hf, hi⟩ := pm_iter_s hf
      have hf : tX16_checksAll_196 x0 x1 h = some y := hf
      unfold tX16_checksAll_196 at hf
      refine pm_iload_n C dX16_checksAll_196 rfl rfl ?_
      refine pm_aload_n C dX16_checksAll_197 rfl rfl ?_
      obtain ⟨k54, hf⟩ := pm_if hf
      obtain ⟨v55, e56, hf⟩ := pm_bd hf
      refine pm_getR C dX16_checksAll_198 flX16_221 rfl k54 e56 ?_
      obtain ⟨k57, hf⟩ := pm_if hf
      refine pm_getI C dX16_checksAll_201 flX16_453 rfl k57 rfl ?_
      refine pm_icmp_ge (tgt := 235) C dX16_checksAll_204 (by decide) (fun c58 => ?_) (fun c58 => ?_)
      · have hf := pm_it hf c58
        refine pm_iconst (v := 0) C dX16_checksAll_235 (by decide) ?_
        refine pm_istore_n (lv' := [(1, .int 0), (0, .ref x0)]) C dX16_checksAll_236 rfl (pt_nl X (by decide)) rfl ?_
        cases hf
        exact pm_sub [1, 0] rfl (ih.2.2.2.2.2.1 x0 0 h hi)
      · have hf := pm_ie hf c58
        refine pm_aload_n C dX16_checksAll_207 rfl rfl ?_
        refine pm_aload_n C dX16_checksAll_208 rfl rfl ?_
        refine pm_getR C dX16_checksAll_209 flX16_221 rfl k54 e56 ?_
        obtain ⟨v59, e60, hf⟩ := pm_bd hf
        refine pm_getR C dX16_checksAll_212 flX16_463 rfl k57 e60 ?_
        refine pm_iload_n C dX16_checksAll_215 rfl rfl ?_
        obtain ⟨k61, hf⟩ := pm_if hf
        obtain ⟨u62, hf⟩ := pm_if hf
        refine pm_iald C dX16_checksAll_216 k61 u62 rfl ?_
        refine pm_aload_n C dX16_checksAll_217 rfl rfl ?_
        refine pm_getR C dX16_checksAll_218 flX16_221 rfl k54 e56 ?_
        obtain ⟨v63, e64, hf⟩ := pm_bd hf
        refine pm_getR C dX16_checksAll_221 flX16_459 rfl k57 e64 ?_
        refine pm_iload_n C dX16_checksAll_224 rfl rfl ?_
        obtain ⟨k65, hf⟩ := pm_if hf
        obtain ⟨u66, hf⟩ := pm_if hf
        refine pm_iald C dX16_checksAll_225 k65 u66 rfl ?_
        obtain ⟨v67, e68, hf⟩ := pm_bd hf
        refine pt_callVT (as := [.int (pm_I h v59 x1.toNatClampNeg), .int (pm_I h v63 x1.toNatClampNeg)]) (st := []) C X dX16_checksAll_226 ltX16_627 myX16_constantly viX16_constantly ⟨by decide, by decide⟩ rfl rfl k54 (Nat.le_of_ble_eq_true rfl) (Nat.le_refl _) (Nat.le_refl _) (ctX16_constantly e68 ?_)
        rcases v67 with z70 | w69
        · have hf := pt_sl hf
          cases hf
          cases hi
          exact q
        have hf := pt_sr hf
        show pm_G g 229 [(0, .ref x0), (1, .int x1)] [] w69 0 0
        obtain ⟨y71, e72, hf⟩ := pm_lt hf
        refine pm_iinc (v := y71) (lv' := [(1, .int y71), (0, .ref x0)]) C dX16_checksAll_229 rfl ((congrArg (x1 + ·) (by decide : Int32.ofInt 1 = 1)).trans e72) (pt_nl X (by decide)) rfl ?_
        refine pm_goto (tgt := 196) C dX16_checksAll_232 (by decide) ?_
        cases hf
        exact pm_sub [1, 0] rfl (ih.2.2.2.1 x0 y71 w69 hi)
    refine ⟨fun x0 s0 h hf => ?_, ?_⟩
    · obtain ⟨y, hf, hi⟩ := pm_iter_s hf
      have hf : tX16_checksAll_123 x0 s0 h = some y := hf
      unfold tX16_checksAll_123 at hf
      refine pm_istore_n (lv' := [(1, .int s0), (0, .ref x0)]) C dX16_checksAll_123 rfl (pt_nl X (by decide)) rfl ?_
      refine pm_iload_n C dX16_checksAll_124 rfl rfl ?_
      refine pm_if_eq (tgt := 146) C dX16_checksAll_125 (by decide) (fun c73 => ?_) (fun c73 => ?_)
      · have hf := pm_it hf c73
        refine pm_iconst (v := 0) C dX16_checksAll_146 (by decide) ?_
        cases hf
        exact pm_sub [1, 0] rfl (ih.2.2.2.2.2.2.1 x0 s0 0 h hi)
      · have hf := pm_ie hf c73
        refine pm_aload_n C dX16_checksAll_128 rfl rfl ?_
        obtain ⟨k74, hf⟩ := pm_if hf
        obtain ⟨v75, e76, hf⟩ := pm_bd hf
        refine pm_getR C dX16_checksAll_129 flX16_221 rfl k74 e76 ?_
        refine pm_aload_n C dX16_checksAll_132 rfl rfl ?_
        refine pm_getR C dX16_checksAll_133 flX16_221 rfl k74 e76 ?_
        obtain ⟨k77, hf⟩ := pm_if hf
        refine pm_getL C dX16_checksAll_136 flX16_348 rfl k77 rfl ?_
        refine pm_l2i C dX16_checksAll_139 ?_
        obtain ⟨v78, e79, hf⟩ := pm_bd hf
        refine pt_callV (as := [.int ((pm_L h v75 33).toInt32)]) (st := []) C X dX16_checksAll_140 lnX16_621 myX14_typeOfFunction viX14_typeOfFunction ⟨by decide, by decide⟩ rfl rfl k77 (Nat.le_of_ble_eq_true rfl) (Nat.le_refl _) (Nat.le_refl _) (ctX14_typeOfFunction e79 ?_)
        show pm_G g 143 [(1, .int s0), (0, .ref x0)] [.int v78] h 0 0
        refine pm_goto (tgt := 147) C dX16_checksAll_143 (by decide) ?_
        cases hf
        exact pm_sub [1, 0] rfl (ih.2.2.2.2.2.2.1 x0 s0 v78 h hi)
    refine ⟨fun x0 x1 h hf => ?_, ?_⟩
    · obtain ⟨y, hf, hi⟩ := pm_iter_s hf
      have hf : tX16_checksAll_237 x0 x1 h = some y := hf
      unfold tX16_checksAll_237 at hf
      refine pm_iload_n C dX16_checksAll_237 rfl rfl ?_
      refine pm_aload_n C dX16_checksAll_238 rfl rfl ?_
      obtain ⟨k80, hf⟩ := pm_if hf
      obtain ⟨v81, e82, hf⟩ := pm_bd hf
      refine pm_getR C dX16_checksAll_239 flX16_221 rfl k80 e82 ?_
      obtain ⟨k83, hf⟩ := pm_if hf
      refine pm_getI C dX16_checksAll_242 flX16_481 rfl k83 rfl ?_
      refine pm_icmp_ge (tgt := 259) C dX16_checksAll_245 (by decide) (fun c84 => ?_) (fun c84 => ?_)
      · have hf := pm_it hf c84
        refine pm_iconst (v := 0) C dX16_checksAll_259 (by decide) ?_
        refine pm_istore_n (lv' := [(1, .int 0), (0, .ref x0)]) C dX16_checksAll_260 rfl (pt_nl X (by decide)) rfl ?_
        cases hf
        exact pm_sub [1, 0] rfl (ih.2.2.2.2.2.2.2.1 x0 0 h hi)
      · have hf := pm_ie hf c84
        refine pm_aload_n C dX16_checksAll_248 rfl rfl ?_
        refine pm_iload_n C dX16_checksAll_249 rfl rfl ?_
        obtain ⟨v85, e86, hf⟩ := pm_bd hf
        refine pt_callVT (as := [.int x1]) (st := []) C X dX16_checksAll_250 ltX16_630 myX16_checksElement viX16_checksElement ⟨by decide, by decide⟩ rfl rfl k80 (Nat.le_of_ble_eq_true rfl) (Nat.le_refl _) (Nat.le_refl _) (ctX16_checksElement e86 ?_)
        rcases v85 with z88 | w87
        · have hf := pt_sl hf
          cases hf
          cases hi
          exact q
        have hf := pt_sr hf
        show pm_G g 253 [(0, .ref x0), (1, .int x1)] [] w87 0 0
        obtain ⟨y89, e90, hf⟩ := pm_lt hf
        refine pm_iinc (v := y89) (lv' := [(1, .int y89), (0, .ref x0)]) C dX16_checksAll_253 rfl ((congrArg (x1 + ·) (by decide : Int32.ofInt 1 = 1)).trans e90) (pt_nl X (by decide)) rfl ?_
        refine pm_goto (tgt := 237) C dX16_checksAll_256 (by decide) ?_
        cases hf
        exact pm_sub [1, 0] rfl (ih.2.2.2.2.2.1 x0 y89 w87 hi)
    refine ⟨fun x0 x1 s0 h hf => ?_, ?_⟩
    · obtain ⟨y, hf, hi⟩ := pm_iter_s hf
      have hf : tX16_checksAll_147 x0 x1 s0 h = some y := hf
      unfold tX16_checksAll_147 at hf
      refine pm_istore_n (lv' := [(2, .int s0), (0, .ref x0), (1, .int x1)]) C dX16_checksAll_147 rfl (pt_nl X (by decide)) rfl ?_
      refine pm_iload_n C dX16_checksAll_148 rfl rfl ?_
      refine pm_if_eq (tgt := 174) C dX16_checksAll_149 (by decide) (fun c91 => ?_) (fun c91 => ?_)
      · have hf := pm_it hf c91
        refine pm_aload_n C dX16_checksAll_174 rfl rfl ?_
        refine pm_bipush (v := 25) C dX16_checksAll_175 (by decide) ?_
        refine pm_aload_n C dX16_checksAll_177 rfl rfl ?_
        obtain ⟨k92, hf⟩ := pm_if hf
        obtain ⟨v93, e94, hf⟩ := pm_bd hf
        refine pm_getR C dX16_checksAll_178 flX16_221 rfl k92 e94 ?_
        obtain ⟨k95, hf⟩ := pm_if hf
        obtain ⟨v96, e97, hf⟩ := pm_bd hf
        refine pm_getR C dX16_checksAll_181 flX16_302 rfl k95 e97 ?_
        refine pm_bipush (v := 8) C dX16_checksAll_184 (by decide) ?_
        obtain ⟨k98, hf⟩ := pm_if hf
        obtain ⟨u99, hf⟩ := pm_if hf
        refine pm_iald C dX16_checksAll_186 k98 u99 rfl ?_
        obtain ⟨v100, e101, hf⟩ := pm_bd hf
        refine pt_callVT (as := [.int 25, .int (pm_I h v96 (8 : Int32).toNatClampNeg)]) (st := []) C X dX16_checksAll_187 ltX16_257 myX16_stops viX16_stops ⟨by decide, by decide⟩ rfl rfl k92 (Nat.le_of_ble_eq_true rfl) (Nat.le_refl _) (Nat.le_refl _) (ctX16_stops e101 ?_)
        rcases v100 with z103 | w102
        · have hf := pt_sl hf
          cases hf
          cases hi
          exact q
        have hf := pt_sr hf
        show pm_G g 190 [(2, .int s0), (0, .ref x0), (1, .int x1)] [] w102 0 0
        refine pm_aload_n C dX16_checksAll_190 rfl rfl ?_
        obtain ⟨k104, hf⟩ := pm_if hf
        obtain ⟨v105, e106, hf⟩ := pm_bd hf
        refine pt_callV (as := []) (st := []) C X dX16_checksAll_191 lnX16_624 myX16_declares viX16_declares ⟨by decide, by decide⟩ rfl rfl k104 (Nat.le_of_ble_eq_true rfl) (Nat.le_refl _) (Nat.le_refl _) (ctX16_declares e106 ?_)
        show pm_G g 194 [(2, .int s0), (0, .ref x0), (1, .int x1)] [] v105 0 0
        refine pm_iconst (v := 0) C dX16_checksAll_194 (by decide) ?_
        refine pm_istore_n (lv' := [(1, .int 0), (2, .int s0), (0, .ref x0)]) C dX16_checksAll_195 rfl (pt_nl X (by decide)) rfl ?_
        cases hf
        exact pm_sub [2, 0] rfl (ih.2.2.2.1 x0 0 v105 hi)
      · have hf := pm_ie hf c91
        refine pm_aload_n C dX16_checksAll_152 rfl rfl ?_
        obtain ⟨k107, hf⟩ := pm_if hf
        obtain ⟨v108, e109, hf⟩ := pm_bd hf
        refine pm_getR C dX16_checksAll_153 flX16_221 rfl k107 e109 ?_
        obtain ⟨k110, hf⟩ := pm_if hf
        obtain ⟨v111, e112, hf⟩ := pm_bd hf
        refine pm_getR C dX16_checksAll_156 flX16_387 rfl k110 e112 ?_
        refine pm_iload_n C dX16_checksAll_159 rfl rfl ?_
        obtain ⟨k113, hf⟩ := pm_if hf
        obtain ⟨u114, hf⟩ := pm_if hf
        refine pm_iald C dX16_checksAll_160 k113 u114 rfl ?_
        refine pm_aload_n C dX16_checksAll_161 rfl rfl ?_
        refine pm_getR C dX16_checksAll_162 flX16_221 rfl k107 e109 ?_
        obtain ⟨v115, e116, hf⟩ := pm_bd hf
        refine pm_getR C dX16_checksAll_165 flX16_390 rfl k110 e116 ?_
        refine pm_iload_n C dX16_checksAll_168 rfl rfl ?_
        obtain ⟨k117, hf⟩ := pm_if hf
        obtain ⟨u118, hf⟩ := pm_if hf
        refine pm_iald C dX16_checksAll_169 k117 u118 rfl ?_
        refine pm_iadd C dX16_checksAll_170 ?_
        refine pm_if_le (tgt := 190) C dX16_checksAll_171 (by decide) (fun c119 => ?_) (fun c119 => ?_)
        · have hf := pm_it hf c119
          refine pm_aload_n C dX16_checksAll_190 rfl rfl ?_
          obtain ⟨v120, e121, hf⟩ := pm_bd hf
          refine pt_callV (as := []) (st := []) C X dX16_checksAll_191 lnX16_624 myX16_declares viX16_declares ⟨by decide, by decide⟩ rfl rfl k107 (Nat.le_of_ble_eq_true rfl) (Nat.le_refl _) (Nat.le_refl _) (ctX16_declares e121 ?_)
          show pm_G g 194 [(2, .int s0), (0, .ref x0), (1, .int x1)] [] v120 0 0
          refine pm_iconst (v := 0) C dX16_checksAll_194 (by decide) ?_
          refine pm_istore_n (lv' := [(1, .int 0), (2, .int s0), (0, .ref x0)]) C dX16_checksAll_195 rfl (pt_nl X (by decide)) rfl ?_
          cases hf
          exact pm_sub [2, 0] rfl (ih.2.2.2.1 x0 0 v120 hi)
        · have hf := pm_ie hf c119
          refine pm_aload_n C dX16_checksAll_174 rfl rfl ?_
          refine pm_bipush (v := 25) C dX16_checksAll_175 (by decide) ?_
          refine pm_aload_n C dX16_checksAll_177 rfl rfl ?_
          refine pm_getR C dX16_checksAll_178 flX16_221 rfl k107 e109 ?_
          obtain ⟨v122, e123, hf⟩ := pm_bd hf
          refine pm_getR C dX16_checksAll_181 flX16_302 rfl k110 e123 ?_
          refine pm_bipush (v := 8) C dX16_checksAll_184 (by decide) ?_
          obtain ⟨k124, hf⟩ := pm_if hf
          obtain ⟨u125, hf⟩ := pm_if hf
          refine pm_iald C dX16_checksAll_186 k124 u125 rfl ?_
          obtain ⟨v126, e127, hf⟩ := pm_bd hf
          refine pt_callVT (as := [.int 25, .int (pm_I h v122 (8 : Int32).toNatClampNeg)]) (st := []) C X dX16_checksAll_187 ltX16_257 myX16_stops viX16_stops ⟨by decide, by decide⟩ rfl rfl k107 (Nat.le_of_ble_eq_true rfl) (Nat.le_refl _) (Nat.le_refl _) (ctX16_stops e127 ?_)
          rcases v126 with z129 | w128
          · have hf := pt_sl hf
            cases hf
            cases hi
            exact q
          have hf := pt_sr hf
          show pm_G g 190 [(2, .int s0), (0, .ref x0), (1, .int x1)] [] w128 0 0
          refine pm_aload_n C dX16_checksAll_190 rfl rfl ?_
          obtain ⟨k130, hf⟩ := pm_if hf
          obtain ⟨v131, e132, hf⟩ := pm_bd hf
          refine pt_callV (as := []) (st := []) C X dX16_checksAll_191 lnX16_624 myX16_declares viX16_declares ⟨by decide, by decide⟩ rfl rfl k130 (Nat.le_of_ble_eq_true rfl) (Nat.le_refl _) (Nat.le_refl _) (ctX16_declares e132 ?_)
          show pm_G g 194 [(2, .int s0), (0, .ref x0), (1, .int x1)] [] v131 0 0
          refine pm_iconst (v := 0) C dX16_checksAll_194 (by decide) ?_
          refine pm_istore_n (lv' := [(1, .int 0), (2, .int s0), (0, .ref x0)]) C dX16_checksAll_195 rfl (pt_nl X (by decide)) rfl ?_
          cases hf
          exact pm_sub [2, 0] rfl (ih.2.2.2.1 x0 0 v131 hi)
    refine ⟨fun x0 x1 h hf => ?_, ?_⟩
    · obtain ⟨y, hf, hi⟩ := pm_iter_s hf
      have hf : tX16_checksAll_261 x0 x1 h = some y := hf
      unfold tX16_checksAll_261 at hf
      refine pm_iload_n C dX16_checksAll_261 rfl rfl ?_
      refine pm_aload_n C dX16_checksAll_262 rfl rfl ?_
      obtain ⟨k133, hf⟩ := pm_if hf
      obtain ⟨v134, e135, hf⟩ := pm_bd hf
      refine pm_getR C dX16_checksAll_263 flX16_221 rfl k133 e135 ?_
      obtain ⟨k136, hf⟩ := pm_if hf
      refine pm_getI C dX16_checksAll_266 flX16_529 rfl k136 rfl ?_
      refine pm_icmp_ge (tgt := 355) C dX16_checksAll_269 (by decide) (fun c137 => ?_) (fun c137 => ?_)
      · have hf := pm_it hf c137
        refine pm_iconst (v := 0) C dX16_checksAll_355 (by decide) ?_
        refine pm_istore_n (lv' := [(1, .int 0), (0, .ref x0)]) C dX16_checksAll_356 rfl (pt_nl X (by decide)) rfl ?_
        cases hf
        exact pm_sub [1, 0] rfl (ih.2.2.2.2.2.2.2.2 x0 0 h hi)
      · have hf := pm_ie hf c137
        refine pm_aload_n C dX16_checksAll_272 rfl rfl ?_
        refine pm_getR C dX16_checksAll_273 flX16_221 rfl k133 e135 ?_
        obtain ⟨v138, e139, hf⟩ := pm_bd hf
        refine pm_getR C dX16_checksAll_276 flX16_534 rfl k136 e139 ?_
        refine pm_iload_n C dX16_checksAll_279 rfl rfl ?_
        obtain ⟨k140, hf⟩ := pm_if hf
        obtain ⟨u141, hf⟩ := pm_if hf
        refine pm_zald C dX16_checksAll_280 k140 u141 rfl ?_
        refine pm_if_eq (tgt := 322) C dX16_checksAll_281 (by decide) (fun c142 => ?_) (fun c142 => ?_)
        · have hf := pm_it hf c142
          refine pm_aload_n C dX16_checksAll_322 rfl rfl ?_
          refine pm_getR C dX16_checksAll_323 flX16_221 rfl k133 e135 ?_
          refine pm_getR C dX16_checksAll_326 flX16_534 rfl k136 e139 ?_
          refine pm_iload_n C dX16_checksAll_329 rfl rfl ?_
          obtain ⟨u143, hf⟩ := pm_if hf
          refine pm_zald C dX16_checksAll_330 k140 u143 rfl ?_
          refine pm_if_eq (tgt := 349) C dX16_checksAll_331 (by decide) (fun c144 => ?_) (fun c144 => ?_)
          · have hf := pm_it hf c144
            obtain ⟨y145, e146, hf⟩ := pm_lt hf
            refine pm_iinc (v := y145) (lv' := [(1, .int y145), (0, .ref x0)]) C dX16_checksAll_349 rfl ((congrArg (x1 + ·) (by decide : Int32.ofInt 1 = 1)).trans e146) (pt_nl X (by decide)) rfl ?_
            refine pm_goto (tgt := 261) C dX16_checksAll_352 (by decide) ?_
            cases hf
            exact pm_sub [1, 0] rfl (ih.2.2.2.2.2.2.2.1 x0 y145 h hi)
          · have hf := pm_ie hf c144
            refine pm_aload_n C dX16_checksAll_334 rfl rfl ?_
            refine pm_aload_n C dX16_checksAll_335 rfl rfl ?_
            refine pm_getR C dX16_checksAll_336 flX16_221 rfl k133 e135 ?_
            obtain ⟨v147, e148, hf⟩ := pm_bd hf
            refine pm_getR C dX16_checksAll_339 flX16_540 rfl k136 e148 ?_
            refine pm_iload_n C dX16_checksAll_342 rfl rfl ?_
            obtain ⟨k149, hf⟩ := pm_if hf
            obtain ⟨u150, hf⟩ := pm_if hf
            refine pm_iald C dX16_checksAll_343 k149 u150 rfl ?_
            refine pm_bipush (v := 127) C dX16_checksAll_344 (by decide) ?_
            obtain ⟨v151, e152, hf⟩ := pm_bd hf
            refine pt_callVT (as := [.int (pm_I h v147 x1.toNatClampNeg), .int 127]) (st := []) C X dX16_checksAll_346 ltX16_627 myX16_constantly viX16_constantly ⟨by decide, by decide⟩ rfl rfl k133 (Nat.le_of_ble_eq_true rfl) (Nat.le_refl _) (Nat.le_refl _) (ctX16_constantly e152 ?_)
            rcases v151 with z154 | w153
            · have hf := pt_sl hf
              cases hf
              cases hi
              exact q
            have hf := pt_sr hf
            show pm_G g 349 [(0, .ref x0), (1, .int x1)] [] w153 0 0
            obtain ⟨y155, e156, hf⟩ := pm_lt hf
            refine pm_iinc (v := y155) (lv' := [(1, .int y155), (0, .ref x0)]) C dX16_checksAll_349 rfl ((congrArg (x1 + ·) (by decide : Int32.ofInt 1 = 1)).trans e156) (pt_nl X (by decide)) rfl ?_
            refine pm_goto (tgt := 261) C dX16_checksAll_352 (by decide) ?_
            cases hf
            exact pm_sub [1, 0] rfl (ih.2.2.2.2.2.2.2.1 x0 y155 w153 hi)
        · have hf := pm_ie hf c142
          refine pm_aload_n C dX16_checksAll_284 rfl rfl ?_
          refine pm_getR C dX16_checksAll_285 flX16_221 rfl k133 e135 ?_
          obtain ⟨v157, e158, hf⟩ := pm_bd hf
          refine pm_getR C dX16_checksAll_288 flX16_537 rfl k136 e158 ?_
          refine pm_iload_n C dX16_checksAll_291 rfl rfl ?_
          obtain ⟨k159, hf⟩ := pm_if hf
          obtain ⟨u160, hf⟩ := pm_if hf
          refine pm_lald C dX16_checksAll_292 k159 u160 rfl ?_
          refine pm_aload_n C dX16_checksAll_293 rfl rfl ?_
          refine pm_getR C dX16_checksAll_294 flX16_221 rfl k133 e135 ?_
          refine pm_iconst (v := 2) C dX16_checksAll_297 (by decide) ?_
          obtain ⟨v161, e162, hf⟩ := pm_bd hf
          refine pt_callV (as := [.int 2]) (st := [.long (pm_L h v157 x1.toNatClampNeg)]) C X dX16_checksAll_298 lnX16_615 myX14_all viX14_all ⟨by decide, by decide⟩ rfl rfl k136 (Nat.le_of_ble_eq_true rfl) (Nat.le_refl _) (Nat.le_refl _) (ctX14_all e162 ?_)
          show pm_G g 301 [(0, .ref x0), (1, .int x1)] [.int v161, .long (pm_L h v157 x1.toNatClampNeg)] h 0 0
          refine pm_i2l C dX16_checksAll_301 ?_
          refine pm_lcmp C dX16_checksAll_302 ?_
          refine pm_if_lt (tgt := 322) C dX16_checksAll_303 (by decide) (fun c163 => ?_) (fun c163 => ?_)
          · have hf := pm_it hf ((pm_lg_lt _ _).mp c163)
            refine pm_aload_n C dX16_checksAll_322 rfl rfl ?_
            refine pm_getR C dX16_checksAll_323 flX16_221 rfl k133 e135 ?_
            refine pm_getR C dX16_checksAll_326 flX16_534 rfl k136 e139 ?_
            refine pm_iload_n C dX16_checksAll_329 rfl rfl ?_
            obtain ⟨u164, hf⟩ := pm_if hf
            refine pm_zald C dX16_checksAll_330 k140 u164 rfl ?_
            refine pm_if_eq (tgt := 349) C dX16_checksAll_331 (by decide) (fun c165 => ?_) (fun c165 => ?_)
            · have hf := pm_it hf c165
              obtain ⟨y166, e167, hf⟩ := pm_lt hf
              refine pm_iinc (v := y166) (lv' := [(1, .int y166), (0, .ref x0)]) C dX16_checksAll_349 rfl ((congrArg (x1 + ·) (by decide : Int32.ofInt 1 = 1)).trans e167) (pt_nl X (by decide)) rfl ?_
              refine pm_goto (tgt := 261) C dX16_checksAll_352 (by decide) ?_
              cases hf
              exact pm_sub [1, 0] rfl (ih.2.2.2.2.2.2.2.1 x0 y166 h hi)
            · have hf := pm_ie hf c165
              refine pm_aload_n C dX16_checksAll_334 rfl rfl ?_
              refine pm_aload_n C dX16_checksAll_335 rfl rfl ?_
              refine pm_getR C dX16_checksAll_336 flX16_221 rfl k133 e135 ?_
              obtain ⟨v168, e169, hf⟩ := pm_bd hf
              refine pm_getR C dX16_checksAll_339 flX16_540 rfl k136 e169 ?_
              refine pm_iload_n C dX16_checksAll_342 rfl rfl ?_
              obtain ⟨k170, hf⟩ := pm_if hf
              obtain ⟨u171, hf⟩ := pm_if hf
              refine pm_iald C dX16_checksAll_343 k170 u171 rfl ?_
              refine pm_bipush (v := 127) C dX16_checksAll_344 (by decide) ?_
              obtain ⟨v172, e173, hf⟩ := pm_bd hf
              refine pt_callVT (as := [.int (pm_I h v168 x1.toNatClampNeg), .int 127]) (st := []) C X dX16_checksAll_346 ltX16_627 myX16_constantly viX16_constantly ⟨by decide, by decide⟩ rfl rfl k133 (Nat.le_of_ble_eq_true rfl) (Nat.le_refl _) (Nat.le_refl _) (ctX16_constantly e173 ?_)
              rcases v172 with z175 | w174
              · have hf := pt_sl hf
                cases hf
                cases hi
                exact q
              have hf := pt_sr hf
              show pm_G g 349 [(0, .ref x0), (1, .int x1)] [] w174 0 0
              obtain ⟨y176, e177, hf⟩ := pm_lt hf
              refine pm_iinc (v := y176) (lv' := [(1, .int y176), (0, .ref x0)]) C dX16_checksAll_349 rfl ((congrArg (x1 + ·) (by decide : Int32.ofInt 1 = 1)).trans e177) (pt_nl X (by decide)) rfl ?_
              refine pm_goto (tgt := 261) C dX16_checksAll_352 (by decide) ?_
              cases hf
              exact pm_sub [1, 0] rfl (ih.2.2.2.2.2.2.2.1 x0 y176 w174 hi)
          · have hf := pm_ie hf ((fun z => c163 ((pm_lg_lt _ _).mpr z)))
            refine pm_aload_n C dX16_checksAll_306 rfl rfl ?_
            refine pm_bipush (v := 28) C dX16_checksAll_307 (by decide) ?_
            refine pm_aload_n C dX16_checksAll_309 rfl rfl ?_
            refine pm_getR C dX16_checksAll_310 flX16_221 rfl k133 e135 ?_
            obtain ⟨v178, e179, hf⟩ := pm_bd hf
            refine pm_getR C dX16_checksAll_313 flX16_302 rfl k136 e179 ?_
            refine pm_bipush (v := 11) C dX16_checksAll_316 (by decide) ?_
            obtain ⟨k180, hf⟩ := pm_if hf
            obtain ⟨u181, hf⟩ := pm_if hf
            refine pm_iald C dX16_checksAll_318 k180 u181 rfl ?_
            obtain ⟨v182, e183, hf⟩ := pm_bd hf
            refine pt_callVT (as := [.int 28, .int (pm_I h v178 (11 : Int32).toNatClampNeg)]) (st := []) C X dX16_checksAll_319 ltX16_257 myX16_stops viX16_stops ⟨by decide, by decide⟩ rfl rfl k133 (Nat.le_of_ble_eq_true rfl) (Nat.le_refl _) (Nat.le_refl _) (ctX16_stops e183 ?_)
            rcases v182 with z185 | w184
            · have hf := pt_sl hf
              cases hf
              cases hi
              exact q
            have hf := pt_sr hf
            show pm_G g 322 [(0, .ref x0), (1, .int x1)] [] w184 0 0
            refine pm_aload_n C dX16_checksAll_322 rfl rfl ?_
            obtain ⟨k186, hf⟩ := pm_if hf
            obtain ⟨v187, e188, hf⟩ := pm_bd hf
            refine pm_getR C dX16_checksAll_323 flX16_221 rfl k186 e188 ?_
            obtain ⟨k189, hf⟩ := pm_if hf
            obtain ⟨v190, e191, hf⟩ := pm_bd hf
            refine pm_getR C dX16_checksAll_326 flX16_534 rfl k189 e191 ?_
            refine pm_iload_n C dX16_checksAll_329 rfl rfl ?_
            obtain ⟨k192, hf⟩ := pm_if hf
            obtain ⟨u193, hf⟩ := pm_if hf
            refine pm_zald C dX16_checksAll_330 k192 u193 rfl ?_
            refine pm_if_eq (tgt := 349) C dX16_checksAll_331 (by decide) (fun c194 => ?_) (fun c194 => ?_)
            · have hf := pm_it hf c194
              obtain ⟨y195, e196, hf⟩ := pm_lt hf
              refine pm_iinc (v := y195) (lv' := [(1, .int y195), (0, .ref x0)]) C dX16_checksAll_349 rfl ((congrArg (x1 + ·) (by decide : Int32.ofInt 1 = 1)).trans e196) (pt_nl X (by decide)) rfl ?_
              refine pm_goto (tgt := 261) C dX16_checksAll_352 (by decide) ?_
              cases hf
              exact pm_sub [1, 0] rfl (ih.2.2.2.2.2.2.2.1 x0 y195 w184 hi)
            · have hf := pm_ie hf c194
              refine pm_aload_n C dX16_checksAll_334 rfl rfl ?_
              refine pm_aload_n C dX16_checksAll_335 rfl rfl ?_
              refine pm_getR C dX16_checksAll_336 flX16_221 rfl k186 e188 ?_
              obtain ⟨v197, e198, hf⟩ := pm_bd hf
              refine pm_getR C dX16_checksAll_339 flX16_540 rfl k189 e198 ?_
              refine pm_iload_n C dX16_checksAll_342 rfl rfl ?_
              obtain ⟨k199, hf⟩ := pm_if hf
              obtain ⟨u200, hf⟩ := pm_if hf
              refine pm_iald C dX16_checksAll_343 k199 u200 rfl ?_
              refine pm_bipush (v := 127) C dX16_checksAll_344 (by decide) ?_
              obtain ⟨v201, e202, hf⟩ := pm_bd hf
              refine pt_callVT (as := [.int (pm_I w184 v197 x1.toNatClampNeg), .int 127]) (st := []) C X dX16_checksAll_346 ltX16_627 myX16_constantly viX16_constantly ⟨by decide, by decide⟩ rfl rfl k186 (Nat.le_of_ble_eq_true rfl) (Nat.le_refl _) (Nat.le_refl _) (ctX16_constantly e202 ?_)
              rcases v201 with z204 | w203
              · have hf := pt_sl hf
                cases hf
                cases hi
                exact q
              have hf := pt_sr hf
              show pm_G g 349 [(0, .ref x0), (1, .int x1)] [] w203 0 0
              obtain ⟨y205, e206, hf⟩ := pm_lt hf
              refine pm_iinc (v := y205) (lv' := [(1, .int y205), (0, .ref x0)]) C dX16_checksAll_349 rfl ((congrArg (x1 + ·) (by decide : Int32.ofInt 1 = 1)).trans e206) (pt_nl X (by decide)) rfl ?_
              refine pm_goto (tgt := 261) C dX16_checksAll_352 (by decide) ?_
              cases hf
              exact pm_sub [1, 0] rfl (ih.2.2.2.2.2.2.2.1 x0 y205 w203 hi)
    refine fun x0 x1 h hf => ?_
    obtain ⟨y, hf, hi⟩ := pm_iter_s hf
    have hf : tX16_checksAll_357 x0 x1 h = some y := hf
    unfold tX16_checksAll_357 at hf
    refine pm_iload_n C dX16_checksAll_357 rfl rfl ?_
    refine pm_aload_n C dX16_checksAll_358 rfl rfl ?_
    obtain ⟨k207, hf⟩ := pm_if hf
    obtain ⟨v208, e209, hf⟩ := pm_bd hf
    refine pm_getR C dX16_checksAll_359 flX16_221 rfl k207 e209 ?_
    obtain ⟨k210, hf⟩ := pm_if hf
    refine pm_getI C dX16_checksAll_362 flX16_426 rfl k210 rfl ?_
    refine pm_icmp_ge (tgt := 379) C dX16_checksAll_365 (by decide) (fun c211 => ?_) (fun c211 => ?_)
    · have hf := pm_it hf c211
      cases hf
      cases hi
      exact pt_vret C X dX16_checksAll_379 rfl (Nat.le_refl _) (Nat.le_refl _) q
    · have hf := pm_ie hf c211
      refine pm_aload_n C dX16_checksAll_368 rfl rfl ?_
      refine pm_iload_n C dX16_checksAll_369 rfl rfl ?_
      obtain ⟨v212, e213, hf⟩ := pm_bd hf
      refine pt_callVT (as := [.int x1]) (st := []) C X dX16_checksAll_370 ltX16_633 myX16_checksBody viX16_checksBody ⟨by decide, by decide⟩ rfl rfl k207 (Nat.le_of_ble_eq_true rfl) (Nat.le_refl _) (Nat.le_refl _) (ctX16_checksBody e213 ?_)
      rcases v212 with z215 | w214
      · have hf := pt_sl hf
        cases hf
        cases hi
        exact q
      have hf := pt_sr hf
      show pm_G g 373 [(0, .ref x0), (1, .int x1)] [] w214 0 0
      obtain ⟨y216, e217, hf⟩ := pm_lt hf
      refine pm_iinc (v := y216) (lv' := [(1, .int y216), (0, .ref x0)]) C dX16_checksAll_373 rfl ((congrArg (x1 + ·) (by decide : Int32.ofInt 1 = 1)).trans e217) (pt_nl X (by decide)) rfl ?_
      refine pm_goto (tgt := 357) C dX16_checksAll_376 (by decide) ?_
      cases hf
      exact pm_sub [1, 0] rfl (ih.2.2.2.2.2.2.2.2 x0 y216 w214 hi)
set_option maxHeartbeats 4000000 in
set_option maxRecDepth 100000 in
theorem ctX16_checksAll {l : Launch} {G : pm_Gl} {h : pm_H} {a0 : Nat} {r : ((Nat × pm_H) ⊕ pm_H)} {Qr : Option Value → pm_H → Prop} {Qt : Nat → pm_H → Prop} (hf : fX16_checksAll h a0 = some r) (q : pt_eV Qr Qt r) : pm_Ctt l G mX16_checksAll [.ref a0] h 0 0 Qr Qt := by
  refine pm_bodyT pnX16 (Nat.le_of_ble_eq_true rfl) (fun g C X => ?_)
  have C : pm_C g cX16_checksAll RX16 := C
  show pm_G g 0 [(0, .ref a0)] [] h 0 0
  unfold fX16_checksAll at hf
  refine pm_aload_n C dX16_checksAll_0 rfl rfl ?_
  obtain ⟨k1, hf⟩ := pm_if hf
  obtain ⟨v2, e3, hf⟩ := pm_bd hf
  refine pm_getR C dX16_checksAll_1 flX16_221 rfl k1 e3 ?_
  obtain ⟨k4, hf⟩ := pm_if hf
  refine pm_getI C dX16_checksAll_4 flX16_360 rfl k4 rfl ?_
  refine pm_if_lt (tgt := 23) C dX16_checksAll_7 (by decide) (fun c5 => ?_) (fun c5 => ?_)
  · have hf := pm_it hf c5
    obtain ⟨n, hn⟩ := pm_lim_iter hf
    exact pm_sub [0] rfl ((lpX16_checksAll C X q n).1 a0 h hn)
  · have hf := pm_ie hf c5
    refine pm_aload_n C dX16_checksAll_10 rfl rfl ?_
    refine pm_bipush (v := 40) C dX16_checksAll_11 (by decide) ?_
    refine pm_aload_n C dX16_checksAll_13 rfl rfl ?_
    refine pm_getR C dX16_checksAll_14 flX16_221 rfl k1 e3 ?_
    refine pm_getI C dX16_checksAll_17 flX16_360 rfl k4 rfl ?_
    obtain ⟨v6, e7, hf⟩ := pm_bd hf
    refine pt_callVT (as := [.int 40, .int (pm_I h v2 3)]) (st := []) C X dX16_checksAll_20 ltX16_257 myX16_stops viX16_stops ⟨by decide, by decide⟩ rfl rfl k1 (Nat.le_of_ble_eq_true rfl) (Nat.le_refl _) (Nat.le_refl _) (ctX16_stops e7 ?_)
    rcases v6 with z9 | w8
    · have hf := pt_kl hf
      cases hf
      exact q
    have hf := pt_kr hf
    show pm_G g 23 [(0, .ref a0)] [] w8 0 0
    obtain ⟨n, hn⟩ := pm_lim_iter hf
    exact pm_sub [0] rfl ((lpX16_checksAll C X q n).1 a0 w8 hn)
theorem dX16_readsAll_0 : decode cX16_readsAll 0 = .ok (.aload_n 0, 1) := by decide +kernel
theorem dX16_readsAll_1 : decode cX16_readsAll 1 = .ok (.iconst 0, 1) := by decide +kernel
theorem dX16_readsAll_2 : decode cX16_readsAll 2 = .ok (.putfield 251, 3) := by decide +kernel
theorem dX16_readsAll_5 : decode cX16_readsAll 5 = .ok (.aload_n 0, 1) := by decide +kernel
theorem dX16_readsAll_6 : decode cX16_readsAll 6 = .ok (.aload_n 0, 1) := by decide +kernel
theorem dX16_readsAll_7 : decode cX16_readsAll 7 = .ok (.getfield 221, 3) := by decide +kernel
theorem dX16_readsAll_10 : decode cX16_readsAll 10 = .ok (.getfield 292, 3) := by decide +kernel
theorem dX16_readsAll_13 : decode cX16_readsAll 13 = .ok (.putfield 254, 3) := by decide +kernel
theorem dX16_readsAll_16 : decode cX16_readsAll 16 = .ok (.bipush 56, 2) := by decide +kernel
theorem dX16_readsAll_18 : decode cX16_readsAll 18 = .ok (.istore_n 1, 1) := by decide +kernel
theorem dX16_readsAll_19 : decode cX16_readsAll 19 = .ok (.iload_n 1, 1) := by decide +kernel
theorem dX16_readsAll_20 : decode cX16_readsAll 20 = .ok (.ifCond .lt 39, 3) := by decide +kernel
theorem dX16_readsAll_23 : decode cX16_readsAll 23 = .ok (.aload_n 0, 1) := by decide +kernel
theorem dX16_readsAll_24 : decode cX16_readsAll 24 = .ok (.invokevirtual 264, 3) := by decide +kernel
theorem dX16_readsAll_27 : decode cX16_readsAll 27 = .ok (.istore_n 2, 1) := by decide +kernel
theorem dX16_readsAll_28 : decode cX16_readsAll 28 = .ok (.iload_n 2, 1) := by decide +kernel
theorem dX16_readsAll_29 : decode cX16_readsAll 29 = .ok (.ldc2_w 295, 3) := by decide +kernel
theorem dX16_readsAll_32 : decode cX16_readsAll 32 = .ok (.iload_n 1, 1) := by decide +kernel
theorem dX16_readsAll_33 : decode cX16_readsAll 33 = .ok (.lshr, 1) := by decide +kernel
theorem dX16_readsAll_34 : decode cX16_readsAll 34 = .ok (.ldc2_w 297, 3) := by decide +kernel
theorem dX16_readsAll_37 : decode cX16_readsAll 37 = .ok (.land, 1) := by decide +kernel
theorem dX16_readsAll_38 : decode cX16_readsAll 38 = .ok (.l2i, 1) := by decide +kernel
theorem dX16_readsAll_39 : decode cX16_readsAll 39 = .ok (.if_icmp .eq 14, 3) := by decide +kernel
theorem dX16_readsAll_42 : decode cX16_readsAll 42 = .ok (.aload_n 0, 1) := by decide +kernel
theorem dX16_readsAll_43 : decode cX16_readsAll 43 = .ok (.iconst 5, 1) := by decide +kernel
theorem dX16_readsAll_44 : decode cX16_readsAll 44 = .ok (.aload_n 0, 1) := by decide +kernel
theorem dX16_readsAll_45 : decode cX16_readsAll 45 = .ok (.getfield 251, 3) := by decide +kernel
theorem dX16_readsAll_48 : decode cX16_readsAll 48 = .ok (.iconst 1, 1) := by decide +kernel
theorem dX16_readsAll_49 : decode cX16_readsAll 49 = .ok (.isub, 1) := by decide +kernel
theorem dX16_readsAll_50 : decode cX16_readsAll 50 = .ok (.invokevirtual 257, 3) := by decide +kernel
theorem dX16_readsAll_53 : decode cX16_readsAll 53 = .ok (.iinc 1 (-8), 3) := by decide +kernel
theorem dX16_readsAll_56 : decode cX16_readsAll 56 = .ok (.goto (-37), 3) := by decide +kernel
theorem dX16_readsAll_59 : decode cX16_readsAll 59 = .ok (.iconst 0, 1) := by decide +kernel
theorem dX16_readsAll_60 : decode cX16_readsAll 60 = .ok (.istore_n 1, 1) := by decide +kernel
theorem dX16_readsAll_61 : decode cX16_readsAll 61 = .ok (.aload_n 0, 1) := by decide +kernel
theorem dX16_readsAll_62 : decode cX16_readsAll 62 = .ok (.getfield 251, 3) := by decide +kernel
theorem dX16_readsAll_65 : decode cX16_readsAll 65 = .ok (.aload_n 0, 1) := by decide +kernel
theorem dX16_readsAll_66 : decode cX16_readsAll 66 = .ok (.getfield 221, 3) := by decide +kernel
theorem dX16_readsAll_69 : decode cX16_readsAll 69 = .ok (.getfield 292, 3) := by decide +kernel
theorem dX16_readsAll_72 : decode cX16_readsAll 72 = .ok (.if_icmp .ge 151, 3) := by decide +kernel
theorem dX16_readsAll_75 : decode cX16_readsAll 75 = .ok (.aload_n 0, 1) := by decide +kernel
theorem dX16_readsAll_76 : decode cX16_readsAll 76 = .ok (.getfield 251, 3) := by decide +kernel
theorem dX16_readsAll_79 : decode cX16_readsAll 79 = .ok (.istore_n 2, 1) := by decide +kernel
theorem dX16_readsAll_80 : decode cX16_readsAll 80 = .ok (.aload_n 0, 1) := by decide +kernel
theorem dX16_readsAll_81 : decode cX16_readsAll 81 = .ok (.invokevirtual 264, 3) := by decide +kernel
theorem dX16_readsAll_84 : decode cX16_readsAll 84 = .ok (.istore_n 3, 1) := by decide +kernel
theorem dX16_readsAll_85 : decode cX16_readsAll 85 = .ok (.iload_n 3, 1) := by decide +kernel
theorem dX16_readsAll_86 : decode cX16_readsAll 86 = .ok (.bipush 12, 2) := by decide +kernel
theorem dX16_readsAll_88 : decode cX16_readsAll 88 = .ok (.if_icmp .gt 15, 3) := by decide +kernel
theorem dX16_readsAll_91 : decode cX16_readsAll 91 = .ok (.iload_n 3, 1) := by decide +kernel
theorem dX16_readsAll_92 : decode cX16_readsAll 92 = .ok (.ifCond .le 18, 3) := by decide +kernel
theorem dX16_readsAll_95 : decode cX16_readsAll 95 = .ok (.iload_n 3, 1) := by decide +kernel
theorem dX16_readsAll_96 : decode cX16_readsAll 96 = .ok (.invokestatic 299, 3) := by decide +kernel
theorem dX16_readsAll_99 : decode cX16_readsAll 99 = .ok (.iload_n 1, 1) := by decide +kernel
theorem dX16_readsAll_100 : decode cX16_readsAll 100 = .ok (.if_icmp .gt 10, 3) := by decide +kernel
theorem dX16_readsAll_103 : decode cX16_readsAll 103 = .ok (.aload_n 0, 1) := by decide +kernel
theorem dX16_readsAll_104 : decode cX16_readsAll 104 = .ok (.bipush 6, 2) := by decide +kernel
theorem dX16_readsAll_106 : decode cX16_readsAll 106 = .ok (.iload_n 2, 1) := by decide +kernel
theorem dX16_readsAll_107 : decode cX16_readsAll 107 = .ok (.invokevirtual 257, 3) := by decide +kernel
theorem dX16_readsAll_110 : decode cX16_readsAll 110 = .ok (.iload_n 3, 1) := by decide +kernel
theorem dX16_readsAll_111 : decode cX16_readsAll 111 = .ok (.ifCond .le 18, 3) := by decide +kernel
theorem dX16_readsAll_114 : decode cX16_readsAll 114 = .ok (.iload_n 3, 1) := by decide +kernel
theorem dX16_readsAll_115 : decode cX16_readsAll 115 = .ok (.invokestatic 299, 3) := by decide +kernel
theorem dX16_readsAll_118 : decode cX16_readsAll 118 = .ok (.istore_n 1, 1) := by decide +kernel
theorem dX16_readsAll_119 : decode cX16_readsAll 119 = .ok (.aload_n 0, 1) := by decide +kernel
theorem dX16_readsAll_120 : decode cX16_readsAll 120 = .ok (.getfield 221, 3) := by decide +kernel
theorem dX16_readsAll_123 : decode cX16_readsAll 123 = .ok (.getfield 302, 3) := by decide +kernel
theorem dX16_readsAll_126 : decode cX16_readsAll 126 = .ok (.iload_n 3, 1) := by decide +kernel
theorem dX16_readsAll_127 : decode cX16_readsAll 127 = .ok (.iload_n 2, 1) := by decide +kernel
theorem dX16_readsAll_128 : decode cX16_readsAll 128 = .ok (.iastore, 1) := by decide +kernel
theorem dX16_readsAll_129 : decode cX16_readsAll 129 = .ok (.aload_n 0, 1) := by decide +kernel
theorem dX16_readsAll_130 : decode cX16_readsAll 130 = .ok (.iload_n 2, 1) := by decide +kernel
theorem dX16_readsAll_131 : decode cX16_readsAll 131 = .ok (.putfield 305, 3) := by decide +kernel
theorem dX16_readsAll_134 : decode cX16_readsAll 134 = .ok (.aload_n 0, 1) := by decide +kernel
theorem dX16_readsAll_135 : decode cX16_readsAll 135 = .ok (.getfield 251, 3) := by decide +kernel
theorem dX16_readsAll_138 : decode cX16_readsAll 138 = .ok (.istore 4, 2) := by decide +kernel
theorem dX16_readsAll_140 : decode cX16_readsAll 140 = .ok (.aload_n 0, 1) := by decide +kernel
theorem dX16_readsAll_141 : decode cX16_readsAll 141 = .ok (.invokevirtual 277, 3) := by decide +kernel
theorem dX16_readsAll_144 : decode cX16_readsAll 144 = .ok (.lstore 5, 2) := by decide +kernel
theorem dX16_readsAll_146 : decode cX16_readsAll 146 = .ok (.lload 5, 2) := by decide +kernel
theorem dX16_readsAll_148 : decode cX16_readsAll 148 = .ok (.aload_n 0, 1) := by decide +kernel
theorem dX16_readsAll_149 : decode cX16_readsAll 149 = .ok (.getfield 221, 3) := by decide +kernel
theorem dX16_readsAll_152 : decode cX16_readsAll 152 = .ok (.getfield 292, 3) := by decide +kernel
theorem dX16_readsAll_155 : decode cX16_readsAll 155 = .ok (.aload_n 0, 1) := by decide +kernel
theorem dX16_readsAll_156 : decode cX16_readsAll 156 = .ok (.getfield 251, 3) := by decide +kernel
theorem dX16_readsAll_159 : decode cX16_readsAll 159 = .ok (.isub, 1) := by decide +kernel
theorem dX16_readsAll_160 : decode cX16_readsAll 160 = .ok (.i2l, 1) := by decide +kernel
theorem dX16_readsAll_161 : decode cX16_readsAll 161 = .ok (.lcmp, 1) := by decide +kernel
theorem dX16_readsAll_162 : decode cX16_readsAll 162 = .ok (.ifCond .le 10, 3) := by decide +kernel
theorem dX16_readsAll_165 : decode cX16_readsAll 165 = .ok (.aload_n 0, 1) := by decide +kernel
theorem dX16_readsAll_166 : decode cX16_readsAll 166 = .ok (.iconst 2, 1) := by decide +kernel
theorem dX16_readsAll_167 : decode cX16_readsAll 167 = .ok (.iload 4, 2) := by decide +kernel
theorem dX16_readsAll_169 : decode cX16_readsAll 169 = .ok (.invokevirtual 257, 3) := by decide +kernel
theorem dX16_readsAll_172 : decode cX16_readsAll 172 = .ok (.aload_n 0, 1) := by decide +kernel
theorem dX16_readsAll_173 : decode cX16_readsAll 173 = .ok (.aload_n 0, 1) := by decide +kernel
theorem dX16_readsAll_174 : decode cX16_readsAll 174 = .ok (.getfield 251, 3) := by decide +kernel
theorem dX16_readsAll_177 : decode cX16_readsAll 177 = .ok (.lload 5, 2) := by decide +kernel
theorem dX16_readsAll_179 : decode cX16_readsAll 179 = .ok (.l2i, 1) := by decide +kernel
theorem dX16_readsAll_180 : decode cX16_readsAll 180 = .ok (.iadd, 1) := by decide +kernel
theorem dX16_readsAll_181 : decode cX16_readsAll 181 = .ok (.putfield 254, 3) := by decide +kernel
theorem dX16_readsAll_184 : decode cX16_readsAll 184 = .ok (.aload_n 0, 1) := by decide +kernel
theorem dX16_readsAll_185 : decode cX16_readsAll 185 = .ok (.iload_n 3, 1) := by decide +kernel
theorem dX16_readsAll_186 : decode cX16_readsAll 186 = .ok (.invokevirtual 308, 3) := by decide +kernel
theorem dX16_readsAll_189 : decode cX16_readsAll 189 = .ok (.aload_n 0, 1) := by decide +kernel
theorem dX16_readsAll_190 : decode cX16_readsAll 190 = .ok (.getfield 251, 3) := by decide +kernel
theorem dX16_readsAll_193 : decode cX16_readsAll 193 = .ok (.aload_n 0, 1) := by decide +kernel
theorem dX16_readsAll_194 : decode cX16_readsAll 194 = .ok (.getfield 254, 3) := by decide +kernel
theorem dX16_readsAll_197 : decode cX16_readsAll 197 = .ok (.if_icmp .ge 12, 3) := by decide +kernel
theorem dX16_readsAll_200 : decode cX16_readsAll 200 = .ok (.aload_n 0, 1) := by decide +kernel
theorem dX16_readsAll_201 : decode cX16_readsAll 201 = .ok (.iconst 3, 1) := by decide +kernel
theorem dX16_readsAll_202 : decode cX16_readsAll 202 = .ok (.aload_n 0, 1) := by decide +kernel
theorem dX16_readsAll_203 : decode cX16_readsAll 203 = .ok (.getfield 251, 3) := by decide +kernel
theorem dX16_readsAll_206 : decode cX16_readsAll 206 = .ok (.invokevirtual 257, 3) := by decide +kernel
theorem dX16_readsAll_209 : decode cX16_readsAll 209 = .ok (.aload_n 0, 1) := by decide +kernel
theorem dX16_readsAll_210 : decode cX16_readsAll 210 = .ok (.aload_n 0, 1) := by decide +kernel
theorem dX16_readsAll_211 : decode cX16_readsAll 211 = .ok (.getfield 221, 3) := by decide +kernel
theorem dX16_readsAll_214 : decode cX16_readsAll 214 = .ok (.getfield 292, 3) := by decide +kernel
theorem dX16_readsAll_217 : decode cX16_readsAll 217 = .ok (.putfield 254, 3) := by decide +kernel
theorem dX16_readsAll_220 : decode cX16_readsAll 220 = .ok (.goto (-159), 3) := by decide +kernel
theorem dX16_readsAll_223 : decode cX16_readsAll 223 = .ok (.aload_n 0, 1) := by decide +kernel
theorem dX16_readsAll_224 : decode cX16_readsAll 224 = .ok (.getfield 221, 3) := by decide +kernel
theorem dX16_readsAll_227 : decode cX16_readsAll 227 = .ok (.getfield 311, 3) := by decide +kernel
theorem dX16_readsAll_230 : decode cX16_readsAll 230 = .ok (.aload_n 0, 1) := by decide +kernel
theorem dX16_readsAll_231 : decode cX16_readsAll 231 = .ok (.getfield 221, 3) := by decide +kernel
theorem dX16_readsAll_234 : decode cX16_readsAll 234 = .ok (.getfield 315, 3) := by decide +kernel
theorem dX16_readsAll_237 : decode cX16_readsAll 237 = .ok (.lcmp, 1) := by decide +kernel
theorem dX16_readsAll_238 : decode cX16_readsAll 238 = .ok (.ifCond .eq 16, 3) := by decide +kernel
theorem dX16_readsAll_241 : decode cX16_readsAll 241 = .ok (.aload_n 0, 1) := by decide +kernel
theorem dX16_readsAll_242 : decode cX16_readsAll 242 = .ok (.bipush 13, 2) := by decide +kernel
theorem dX16_readsAll_244 : decode cX16_readsAll 244 = .ok (.aload_n 0, 1) := by decide +kernel
theorem dX16_readsAll_245 : decode cX16_readsAll 245 = .ok (.getfield 221, 3) := by decide +kernel
theorem dX16_readsAll_248 : decode cX16_readsAll 248 = .ok (.getfield 292, 3) := by decide +kernel
theorem dX16_readsAll_251 : decode cX16_readsAll 251 = .ok (.invokevirtual 257, 3) := by decide +kernel
theorem dX16_readsAll_254 : decode cX16_readsAll 254 = .ok (.aload_n 0, 1) := by decide +kernel
theorem dX16_readsAll_255 : decode cX16_readsAll 255 = .ok (.getfield 221, 3) := by decide +kernel
theorem dX16_readsAll_258 : decode cX16_readsAll 258 = .ok (.getfield 318, 3) := by decide +kernel
theorem dX16_readsAll_261 : decode cX16_readsAll 261 = .ok (.lconst 0, 1) := by decide +kernel
theorem dX16_readsAll_262 : decode cX16_readsAll 262 = .ok (.lcmp, 1) := by decide +kernel
theorem dX16_readsAll_263 : decode cX16_readsAll 263 = .ok (.ifCond .lt 34, 3) := by decide +kernel
theorem dX16_readsAll_266 : decode cX16_readsAll 266 = .ok (.aload_n 0, 1) := by decide +kernel
theorem dX16_readsAll_267 : decode cX16_readsAll 267 = .ok (.getfield 221, 3) := by decide +kernel
theorem dX16_readsAll_270 : decode cX16_readsAll 270 = .ok (.getfield 318, 3) := by decide +kernel
theorem dX16_readsAll_273 : decode cX16_readsAll 273 = .ok (.aload_n 0, 1) := by decide +kernel
theorem dX16_readsAll_274 : decode cX16_readsAll 274 = .ok (.getfield 221, 3) := by decide +kernel
theorem dX16_readsAll_277 : decode cX16_readsAll 277 = .ok (.getfield 321, 3) := by decide +kernel
theorem dX16_readsAll_280 : decode cX16_readsAll 280 = .ok (.lcmp, 1) := by decide +kernel
theorem dX16_readsAll_281 : decode cX16_readsAll 281 = .ok (.ifCond .eq 16, 3) := by decide +kernel
theorem dX16_readsAll_284 : decode cX16_readsAll 284 = .ok (.aload_n 0, 1) := by decide +kernel
theorem dX16_readsAll_285 : decode cX16_readsAll 285 = .ok (.bipush 14, 2) := by decide +kernel
theorem dX16_readsAll_287 : decode cX16_readsAll 287 = .ok (.aload_n 0, 1) := by decide +kernel
theorem dX16_readsAll_288 : decode cX16_readsAll 288 = .ok (.getfield 221, 3) := by decide +kernel
theorem dX16_readsAll_291 : decode cX16_readsAll 291 = .ok (.getfield 292, 3) := by decide +kernel
theorem dX16_readsAll_294 : decode cX16_readsAll 294 = .ok (.invokevirtual 257, 3) := by decide +kernel
theorem dX16_readsAll_297 : decode cX16_readsAll 297 = .ok (.return_, 1) := by decide +kernel
noncomputable def tX16_readsAll_19 (x0 : Nat) (x1 : Int32) (h : pm_H) : Option (((Nat × Int32 × pm_H) ⊕ (Nat × Int32 × pm_H) ⊕ (Nat × Int32 × Int32 × Int32 × pm_H) ⊕ (Nat × Int32 × Int32 × Int32 × pm_H)) ⊕ ((Nat × pm_H) ⊕ pm_H)) := if x1 < 0 then (some (.inl (.inr (.inl ((x0, 0, h)))))) else (if pm_kd h x0 = 16 then (fX16_next h x0).bind fun v9 => pt_s v9 fun w11 => if w11.1 = ((((27429984746340352 : Int64) >>> (x1.toInt64 &&& 63)) &&& 255).toInt32) then (pm_let (x1 + (-8)) fun y14 => some (.inl (.inl ((x0, y14, w11.2))))) else (if pm_kd w11.2 x0 = 16 then (fX16_stops w11.2 x0 5 ((pm_I w11.2 x0 11) - 1)).bind fun v17 => pt_s v17 fun w19 => pm_let (x1 + (-8)) fun y21 => some (.inl (.inl ((x0, y21, w19)))) else none) else none)
noncomputable def tX16_readsAll_61 (x0 : Nat) (x1 : Int32) (h : pm_H) : Option (((Nat × Int32 × pm_H) ⊕ (Nat × Int32 × pm_H) ⊕ (Nat × Int32 × Int32 × Int32 × pm_H) ⊕ (Nat × Int32 × Int32 × Int32 × pm_H)) ⊕ ((Nat × pm_H) ⊕ pm_H)) := if pm_kd h x0 = 16 then (pm_R h x0 10).bind fun v24 => if pm_kd h v24 = 14 then if (pm_I h v24 1) ≤ (pm_I h x0 11) then (if (pm_L h v24 14) = (pm_L h v24 50) then (if (pm_L h v24 42) < 0 then (some (.inr (.inr (h)))) else (if (pm_L h v24 42) = (pm_L h v24 43) then (some (.inr (.inr (h)))) else ((fX16_stops h x0 14 (pm_I h v24 1)).bind fun v31 => pt_s v31 fun w33 => some (.inr (.inr (w33)))))) else ((fX16_stops h x0 13 (pm_I h v24 1)).bind fun v35 => pt_s v35 fun w37 => if pm_kd w37 x0 = 16 then (pm_R w37 x0 10).bind fun v40 => if pm_kd w37 v40 = 14 then if (pm_L w37 v40 42) < 0 then (some (.inr (.inr (w37)))) else (if (pm_L w37 v40 42) = (pm_L w37 v40 43) then (some (.inr (.inr (w37)))) else ((fX16_stops w37 x0 14 (pm_I w37 v40 1)).bind fun v45 => pt_s v45 fun w47 => some (.inr (.inr (w47))))) else none else none)) else (pm_let (pm_I h x0 11) fun y49 => (fX16_next h x0).bind fun v51 => pt_s v51 fun w53 => if 12 < w53.1 then (if pm_kd w53.2 x0 = 16 then (fX16_stops w53.2 x0 6 y49).bind fun v57 => pt_s v57 fun w59 => some (.inl (.inr (.inr (.inl ((x0, x1, y49, w53.1, w59)))))) else none) else (if w53.1 ≤ 0 then (some (.inl (.inr (.inr (.inl ((x0, x1, y49, w53.1, w53.2))))))) else (pm_let (fX16_rank w53.1) fun v62 => if x1 < v62 then (some (.inl (.inr (.inr (.inl ((x0, x1, y49, w53.1, w53.2))))))) else (if pm_kd w53.2 x0 = 16 then (fX16_stops w53.2 x0 6 y49).bind fun v66 => pt_s v66 fun w68 => some (.inl (.inr (.inr (.inl ((x0, x1, y49, w53.1, w68)))))) else none)))) else none else none
noncomputable def tX16_readsAll_110 (x0 : Nat) (x1 : Int32) (x2 : Int32) (x3 : Int32) (h : pm_H) : Option (((Nat × Int32 × pm_H) ⊕ (Nat × Int32 × pm_H) ⊕ (Nat × Int32 × Int32 × Int32 × pm_H) ⊕ (Nat × Int32 × Int32 × Int32 × pm_H)) ⊕ ((Nat × pm_H) ⊕ pm_H)) := if x3 ≤ 0 then (some (.inl (.inr (.inr (.inr ((x0, x1, x2, x3, h))))))) else (pm_let (fX16_rank x3) fun v71 => if pm_kd h x0 = 16 then (pm_R h x0 10).bind fun v74 => if pm_kd h v74 = 14 then (pm_R h v74 2).bind fun v77 => if pm_kd h v77 = 34 then if pm_in x3 (pm_ln h v77) then some (.inl (.inr (.inr (.inr ((x0, v71, x2, x3, pm_setI h v77 x3.toNatClampNeg x2)))))) else none else none else none else none)
noncomputable def tX16_readsAll_129 (x0 : Nat) (x1 : Int32) (x2 : Int32) (x3 : Int32) (h : pm_H) : Option (((Nat × Int32 × pm_H) ⊕ (Nat × Int32 × pm_H) ⊕ (Nat × Int32 × Int32 × Int32 × pm_H) ⊕ (Nat × Int32 × Int32 × Int32 × pm_H)) ⊕ ((Nat × pm_H) ⊕ pm_H)) := if pm_kd h x0 = 16 then pm_let (pm_I (pm_setI h x0 13 x2) x0 11) fun y82 => (fX16_number (pm_setI h x0 13 x2) x0).bind fun v84 => pt_s v84 fun w86 => if pm_kd w86.2 x0 = 16 then (pm_R w86.2 x0 10).bind fun v89 => if pm_kd w86.2 v89 = 14 then if w86.1 ≤ (((pm_I w86.2 v89 1) - (pm_I w86.2 x0 11)).toInt64) then (pm_let ((pm_I w86.2 x0 11) + w86.1.toInt32) fun y93 => (fX16_readsSection (pm_setI w86.2 x0 12 y93) x0 x3).bind fun v95 => pt_s v95 fun w97 => if pm_kd w97 x0 = 16 then if (pm_I w97 x0 12) ≤ (pm_I w97 x0 11) then ((pm_R w97 x0 10).bind fun v101 => if pm_kd w97 v101 = 14 then pm_let (pm_I w97 v101 1) fun y104 => some (.inl (.inr (.inl ((x0, x1, pm_setI w97 x0 12 y104))))) else none) else ((fX16_stops w97 x0 3 (pm_I w97 x0 11)).bind fun v106 => pt_s v106 fun w108 => if pm_kd w108 x0 = 16 then (pm_R w108 x0 10).bind fun v111 => if pm_kd w108 v111 = 14 then pm_let (pm_I w108 v111 1) fun y114 => some (.inl (.inr (.inl ((x0, x1, pm_setI w108 x0 12 y114))))) else none else none) else none) else ((fX16_stops w86.2 x0 2 y82).bind fun v116 => pt_s v116 fun w118 => if pm_kd w118 x0 = 16 then pm_let ((pm_I w118 x0 11) + w86.1.toInt32) fun y121 => (fX16_readsSection (pm_setI w118 x0 12 y121) x0 x3).bind fun v123 => pt_s v123 fun w125 => if pm_kd w125 x0 = 16 then if (pm_I w125 x0 12) ≤ (pm_I w125 x0 11) then ((pm_R w125 x0 10).bind fun v129 => if pm_kd w125 v129 = 14 then pm_let (pm_I w125 v129 1) fun y132 => some (.inl (.inr (.inl ((x0, x1, pm_setI w125 x0 12 y132))))) else none) else ((fX16_stops w125 x0 3 (pm_I w125 x0 11)).bind fun v134 => pt_s v134 fun w136 => if pm_kd w136 x0 = 16 then (pm_R w136 x0 10).bind fun v139 => if pm_kd w136 v139 = 14 then pm_let (pm_I w136 v139 1) fun y142 => some (.inl (.inr (.inl ((x0, x1, pm_setI w136 x0 12 y142))))) else none else none) else none else none) else none else none else none
noncomputable def sX16_readsAll : ((Nat × Int32 × pm_H) ⊕ (Nat × Int32 × pm_H) ⊕ (Nat × Int32 × Int32 × Int32 × pm_H) ⊕ (Nat × Int32 × Int32 × Int32 × pm_H)) → Option (((Nat × Int32 × pm_H) ⊕ (Nat × Int32 × pm_H) ⊕ (Nat × Int32 × Int32 × Int32 × pm_H) ⊕ (Nat × Int32 × Int32 × Int32 × pm_H)) ⊕ ((Nat × pm_H) ⊕ pm_H)) := fun z => match z with
  | .inl (x0, x1, h) => tX16_readsAll_19 x0 x1 h
  | .inr (.inl (x0, x1, h)) => tX16_readsAll_61 x0 x1 h
  | .inr (.inr (.inl (x0, x1, x2, x3, h))) => tX16_readsAll_110 x0 x1 x2 x3 h
  | .inr (.inr (.inr (x0, x1, x2, x3, h))) => tX16_readsAll_129 x0 x1 x2 x3 h
noncomputable def fX16_readsAll (h : pm_H) (a0 : Nat) : Option ((Nat × pm_H) ⊕ pm_H) := if pm_kd h a0 = 16 then (pm_R (pm_setI h a0 11 0) a0 10).bind fun v2 => if pm_kd (pm_setI h a0 11 0) v2 = 14 then pm_let (pm_I (pm_setI h a0 11 0) v2 1) fun y5 => pm_lim sX16_readsAll (.inl ((a0, 56, pm_setI (pm_setI h a0 11 0) a0 12 y5))) else none else none
set_option maxHeartbeats 4000000 in
set_option maxRecDepth 100000 in
theorem lpX16_readsAll {g : pm_Gm} {l : Launch} {G : pm_Gl} {Qr : Option Value → pm_H → Prop} {Qt : Nat → pm_H → Prop} (C : pm_C g cX16_readsAll RX16) (X : pm_XT g l G mX16_readsAll 0 0 Qr Qt) {r : ((Nat × pm_H) ⊕ pm_H)} (q : pt_eV Qr Qt r) : ∀ n : Nat, (∀ (x0 : Nat) (x1 : Int32) (h : pm_H), pm_iter sX16_readsAll n (.inl (x0, x1, h)) = some r → pm_G g 19 [(0, .ref x0), (1, .int x1)] [] h 0 0) ∧ (∀ (x0 : Nat) (x1 : Int32) (h : pm_H), pm_iter sX16_readsAll n (.inr (.inl (x0, x1, h))) = some r → pm_G g 61 [(0, .ref x0), (1, .int x1)] [] h 0 0) ∧ (∀ (x0 : Nat) (x1 : Int32) (x2 : Int32) (x3 : Int32) (h : pm_H), pm_iter sX16_readsAll n (.inr (.inr (.inl (x0, x1, x2, x3, h)))) = some r → pm_G g 110 [(0, .ref x0), (1, .int x1), (2, .int x2), (3, .int x3)] [] h 0 0) ∧ (∀ (x0 : Nat) (x1 : Int32) (x2 : Int32) (x3 : Int32) (h : pm_H), pm_iter sX16_readsAll n (.inr (.inr (.inr (x0, x1, x2, x3, h)))) = some r → pm_G g 129 [(0, .ref x0), (1, .int x1), (2, .int x2), (3, .int x3)] [] h 0 0) := by
  intro n
  induction n with
  | zero => exact ⟨fun _ _ _ hf => (by cases hf), fun _ _ _ hf => (by cases hf), fun _ _ _ _ _ hf => (by cases hf), fun _ _ _ _ _ hf => (by cases hf)⟩
  | succ n ih =>
    refine ⟨fun x0 x1 h hf => ?_, ?_⟩
    · obtain ⟨y, hf, hi⟩ := pm_iter_s hf
      have hf : tX16_readsAll_19 x0 x1 h = some y := hf
      unfold tX16_readsAll_19 at hf
      refine pm_iload_n C dX16_readsAll_19 rfl rfl ?_
      refine pm_if_lt (tgt := 59) C dX16_readsAll_20 (by decide) (fun c7 => ?_) (fun c7 => ?_)
      · have hf := pm_it hf c7
        refine pm_iconst (v := 0) C dX16_readsAll_59 (by decide) ?_
        refine pm_istore_n (lv' := [(1, .int 0), (0, .ref x0)]) C dX16_readsAll_60 rfl (pt_nl X (by decide)) rfl ?_
        cases hf
        exact pm_sub [1, 0] rfl (ih.2.1 x0 0 h hi)
      · have hf := pm_ie hf c7
        refine pm_aload_n C dX16_readsAll_23 rfl rfl ?_
        obtain ⟨k8, hf⟩ := pm_if hf
        obtain ⟨v9, e10, hf⟩ := pm_bd hf
        refine pt_callVT (as := []) (st := []) C X dX16_readsAll_24 ltX16_264 myX16_next viX16_next ⟨by decide, by decide⟩ rfl rfl k8 (Nat.le_of_ble_eq_true rfl) (Nat.le_refl _) (Nat.le_refl _) (ctX16_next e10 ?_)
        rcases v9 with z12 | w11
        · have hf := pt_sl hf
          cases hf
          cases hi
          exact q
        have hf := pt_sr hf
        show pm_G g 27 [(0, .ref x0), (1, .int x1)] [.int w11.1] w11.2 0 0
        refine pm_istore_n (lv' := [(2, .int w11.1), (0, .ref x0), (1, .int x1)]) C dX16_readsAll_27 rfl (pt_nl X (by decide)) rfl ?_
        refine pm_iload_n C dX16_readsAll_28 rfl rfl ?_
        refine pm_ldc2 C dX16_readsAll_29 cnX16_295 ?_
        refine pm_iload_n C dX16_readsAll_32 rfl rfl ?_
        refine pm_lshr C dX16_readsAll_33 ?_
        refine pm_ldc2 C dX16_readsAll_34 cnX16_297 ?_
        refine pm_land C dX16_readsAll_37 ?_
        refine pm_l2i C dX16_readsAll_38 ?_
        refine pm_icmp_eq (tgt := 53) C dX16_readsAll_39 (by decide) (fun c13 => ?_) (fun c13 => ?_)
        · have hf := pm_it hf c13
          obtain ⟨y14, e15, hf⟩ := pm_lt hf
          refine pm_iinc (v := y14) (lv' := [(1, .int y14), (2, .int w11.1), (0, .ref x0)]) C dX16_readsAll_53 rfl ((congrArg (x1 + ·) (by decide : Int32.ofInt (-8) = (-8))).trans e15) (pt_nl X (by decide)) rfl ?_
          refine pm_goto (tgt := 19) C dX16_readsAll_56 (by decide) ?_
          cases hf
          exact pm_sub [2, 0] rfl (ih.1 x0 y14 w11.2 hi)
        · have hf := pm_ie hf c13
          refine pm_aload_n C dX16_readsAll_42 rfl rfl ?_
          refine pm_iconst (v := 5) C dX16_readsAll_43 (by decide) ?_
          refine pm_aload_n C dX16_readsAll_44 rfl rfl ?_
          obtain ⟨k16, hf⟩ := pm_if hf
          refine pm_getI C dX16_readsAll_45 flX16_251 rfl k16 rfl ?_
          refine pm_iconst (v := 1) C dX16_readsAll_48 (by decide) ?_
          refine pm_isub C dX16_readsAll_49 ?_
          obtain ⟨v17, e18, hf⟩ := pm_bd hf
          refine pt_callVT (as := [.int 5, .int ((pm_I w11.2 x0 11) - 1)]) (st := []) C X dX16_readsAll_50 ltX16_257 myX16_stops viX16_stops ⟨by decide, by decide⟩ rfl rfl k16 (Nat.le_of_ble_eq_true rfl) (Nat.le_refl _) (Nat.le_refl _) (ctX16_stops e18 ?_)
          rcases v17 with z20 | w19
          · have hf := pt_sl hf
            cases hf
            cases hi
            exact q
          have hf := pt_sr hf
          show pm_G g 53 [(2, .int w11.1), (0, .ref x0), (1, .int x1)] [] w19 0 0
          obtain ⟨y21, e22, hf⟩ := pm_lt hf
          refine pm_iinc (v := y21) (lv' := [(1, .int y21), (2, .int w11.1), (0, .ref x0)]) C dX16_readsAll_53 rfl ((congrArg (x1 + ·) (by decide : Int32.ofInt (-8) = (-8))).trans e22) (pt_nl X (by decide)) rfl ?_
          refine pm_goto (tgt := 19) C dX16_readsAll_56 (by decide) ?_
          cases hf
          exact pm_sub [2, 0] rfl (ih.1 x0 y21 w19 hi)
    refine ⟨fun x0 x1 h hf => ?_, ?_⟩
    · obtain ⟨y, hf, hi⟩ := pm_iter_s hf
      have hf : tX16_readsAll_61 x0 x1 h = some y := hf
      unfold tX16_readsAll_61 at hf
      refine pm_aload_n C dX16_readsAll_61 rfl rfl ?_
      obtain ⟨k23, hf⟩ := pm_if hf
      refine pm_getI C dX16_readsAll_62 flX16_251 rfl k23 rfl ?_
      refine pm_aload_n C dX16_readsAll_65 rfl rfl ?_
      obtain ⟨v24, e25, hf⟩ := pm_bd hf
      refine pm_getR C dX16_readsAll_66 flX16_221 rfl k23 e25 ?_
      obtain ⟨k26, hf⟩ := pm_if hf
      refine pm_getI C dX16_readsAll_69 flX16_292 rfl k26 rfl ?_
      refine pm_icmp_ge (tgt := 223) C dX16_readsAll_72 (by decide) (fun c27 => ?_) (fun c27 => ?_)
      · have hf := pm_it hf c27
        refine pm_aload_n C dX16_readsAll_223 rfl rfl ?_
        refine pm_getR C dX16_readsAll_224 flX16_221 rfl k23 e25 ?_
        refine pm_getL C dX16_readsAll_227 flX16_311 rfl k26 rfl ?_
        refine pm_aload_n C dX16_readsAll_230 rfl rfl ?_
        refine pm_getR C dX16_readsAll_231 flX16_221 rfl k23 e25 ?_
        refine pm_getL C dX16_readsAll_234 flX16_315 rfl k26 rfl ?_
        refine pm_lcmp C dX16_readsAll_237 ?_
        refine pm_if_eq (tgt := 254) C dX16_readsAll_238 (by decide) (fun c28 => ?_) (fun c28 => ?_)
        · have hf := pm_it hf ((pm_lg_eq _ _).mp c28)
          refine pm_aload_n C dX16_readsAll_254 rfl rfl ?_
          refine pm_getR C dX16_readsAll_255 flX16_221 rfl k23 e25 ?_
          refine pm_getL C dX16_readsAll_258 flX16_318 rfl k26 rfl ?_
          refine pm_lconst (v := 0) C dX16_readsAll_261 (by decide) ?_
          refine pm_lcmp C dX16_readsAll_262 ?_
          refine pm_if_lt (tgt := 297) C dX16_readsAll_263 (by decide) (fun c29 => ?_) (fun c29 => ?_)
          · have hf := pm_it hf ((pm_lg_lt _ _).mp c29)
            cases hf
            cases hi
            exact pt_vret C X dX16_readsAll_297 rfl (Nat.le_refl _) (Nat.le_refl _) q
          · have hf := pm_ie hf ((fun z => c29 ((pm_lg_lt _ _).mpr z)))
            refine pm_aload_n C dX16_readsAll_266 rfl rfl ?_
            refine pm_getR C dX16_readsAll_267 flX16_221 rfl k23 e25 ?_
            refine pm_getL C dX16_readsAll_270 flX16_318 rfl k26 rfl ?_
            refine pm_aload_n C dX16_readsAll_273 rfl rfl ?_
            refine pm_getR C dX16_readsAll_274 flX16_221 rfl k23 e25 ?_
            refine pm_getL C dX16_readsAll_277 flX16_321 rfl k26 rfl ?_
            refine pm_lcmp C dX16_readsAll_280 ?_
            refine pm_if_eq (tgt := 297) C dX16_readsAll_281 (by decide) (fun c30 => ?_) (fun c30 => ?_)
            · have hf := pm_it hf ((pm_lg_eq _ _).mp c30)
              cases hf
              cases hi
              exact pt_vret C X dX16_readsAll_297 rfl (Nat.le_refl _) (Nat.le_refl _) q
            · have hf := pm_ie hf ((fun z => c30 ((pm_lg_eq _ _).mpr z)))
              refine pm_aload_n C dX16_readsAll_284 rfl rfl ?_
              refine pm_bipush (v := 14) C dX16_readsAll_285 (by decide) ?_
              refine pm_aload_n C dX16_readsAll_287 rfl rfl ?_
              refine pm_getR C dX16_readsAll_288 flX16_221 rfl k23 e25 ?_
              refine pm_getI C dX16_readsAll_291 flX16_292 rfl k26 rfl ?_
              obtain ⟨v31, e32, hf⟩ := pm_bd hf
              refine pt_callVT (as := [.int 14, .int (pm_I h v24 1)]) (st := []) C X dX16_readsAll_294 ltX16_257 myX16_stops viX16_stops ⟨by decide, by decide⟩ rfl rfl k23 (Nat.le_of_ble_eq_true rfl) (Nat.le_refl _) (Nat.le_refl _) (ctX16_stops e32 ?_)
              rcases v31 with z34 | w33
              · have hf := pt_sl hf
                cases hf
                cases hi
                exact q
              have hf := pt_sr hf
              show pm_G g 297 [(0, .ref x0), (1, .int x1)] [] w33 0 0
              cases hf
              cases hi
              exact pt_vret C X dX16_readsAll_297 rfl (Nat.le_refl _) (Nat.le_refl _) q
        · have hf := pm_ie hf ((fun z => c28 ((pm_lg_eq _ _).mpr z)))
          refine pm_aload_n C dX16_readsAll_241 rfl rfl ?_
          refine pm_bipush (v := 13) C dX16_readsAll_242 (by decide) ?_
          refine pm_aload_n C dX16_readsAll_244 rfl rfl ?_
          refine pm_getR C dX16_readsAll_245 flX16_221 rfl k23 e25 ?_
          refine pm_getI C dX16_readsAll_248 flX16_292 rfl k26 rfl ?_
          obtain ⟨v35, e36, hf⟩ := pm_bd hf
          refine pt_callVT (as := [.int 13, .int (pm_I h v24 1)]) (st := []) C X dX16_readsAll_251 ltX16_257 myX16_stops viX16_stops ⟨by decide, by decide⟩ rfl rfl k23 (Nat.le_of_ble_eq_true rfl) (Nat.le_refl _) (Nat.le_refl _) (ctX16_stops e36 ?_)
          rcases v35 with z38 | w37
          · have hf := pt_sl hf
            cases hf
            cases hi
            exact q
          have hf := pt_sr hf
          show pm_G g 254 [(0, .ref x0), (1, .int x1)] [] w37 0 0
          refine pm_aload_n C dX16_readsAll_254 rfl rfl ?_
          obtain ⟨k39, hf⟩ := pm_if hf
          obtain ⟨v40, e41, hf⟩ := pm_bd hf
          refine pm_getR C dX16_readsAll_255 flX16_221 rfl k39 e41 ?_
          obtain ⟨k42, hf⟩ := pm_if hf
          refine pm_getL C dX16_readsAll_258 flX16_318 rfl k42 rfl ?_
          refine pm_lconst (v := 0) C dX16_readsAll_261 (by decide) ?_
          refine pm_lcmp C dX16_readsAll_262 ?_
          refine pm_if_lt (tgt := 297) C dX16_readsAll_263 (by decide) (fun c43 => ?_) (fun c43 => ?_)
          · have hf := pm_it hf ((pm_lg_lt _ _).mp c43)
            cases hf
            cases hi
            exact pt_vret C X dX16_readsAll_297 rfl (Nat.le_refl _) (Nat.le_refl _) q
          · have hf := pm_ie hf ((fun z => c43 ((pm_lg_lt _ _).mpr z)))
            refine pm_aload_n C dX16_readsAll_266 rfl rfl ?_
            refine pm_getR C dX16_readsAll_267 flX16_221 rfl k39 e41 ?_
            refine pm_getL C dX16_readsAll_270 flX16_318 rfl k42 rfl ?_
            refine pm_aload_n C dX16_readsAll_273 rfl rfl ?_
            refine pm_getR C dX16_readsAll_274 flX16_221 rfl k39 e41 ?_
            refine pm_getL C dX16_readsAll_277 flX16_321 rfl k42 rfl ?_
            refine pm_lcmp C dX16_readsAll_280 ?_
            refine pm_if_eq (tgt := 297) C dX16_readsAll_281 (by decide) (fun c44 => ?_) (fun c44 => ?_)
            · have hf := pm_it hf ((pm_lg_eq _ _).mp c44)
              cases hf
              cases hi
              exact pt_vret C X dX16_readsAll_297 rfl (Nat.le_refl _) (Nat.le_refl _) q
            · have hf := pm_ie hf ((fun z => c44 ((pm_lg_eq _ _).mpr z)))
              refine pm_aload_n C dX16_readsAll_284 rfl rfl ?_
              refine pm_bipush (v := 14) C dX16_readsAll_285 (by decide) ?_
              refine pm_aload_n C dX16_readsAll_287 rfl rfl ?_
              refine pm_getR C dX16_readsAll_288 flX16_221 rfl k39 e41 ?_
              refine pm_getI C dX16_readsAll_291 flX16_292 rfl k42 rfl ?_
              obtain ⟨v45, e46, hf⟩ := pm_bd hf
              refine pt_callVT (as := [.int 14, .int (pm_I w37 v40 1)]) (st := []) C X dX16_readsAll_294 ltX16_257 myX16_stops viX16_stops ⟨by decide, by decide⟩ rfl rfl k39 (Nat.le_of_ble_eq_true rfl) (Nat.le_refl _) (Nat.le_refl _) (ctX16_stops e46 ?_)
              rcases v45 with z48 | w47
              · have hf := pt_sl hf
                cases hf
                cases hi
                exact q
              have hf := pt_sr hf
              show pm_G g 297 [(0, .ref x0), (1, .int x1)] [] w47 0 0
              cases hf
              cases hi
              exact pt_vret C X dX16_readsAll_297 rfl (Nat.le_refl _) (Nat.le_refl _) q
      · have hf := pm_ie hf c27
        refine pm_aload_n C dX16_readsAll_75 rfl rfl ?_
        refine pm_getI C dX16_readsAll_76 flX16_251 rfl k23 rfl ?_
        obtain ⟨y49, e50, hf⟩ := pm_lt hf
        refine pm_topI e50 ?_
        refine pm_istore_n (lv' := [(2, .int y49), (0, .ref x0), (1, .int x1)]) C dX16_readsAll_79 rfl (pt_nl X (by decide)) rfl ?_
        refine pm_aload_n C dX16_readsAll_80 rfl rfl ?_
        obtain ⟨v51, e52, hf⟩ := pm_bd hf
        refine pt_callVT (as := []) (st := []) C X dX16_readsAll_81 ltX16_264 myX16_next viX16_next ⟨by decide, by decide⟩ rfl rfl k23 (Nat.le_of_ble_eq_true rfl) (Nat.le_refl _) (Nat.le_refl _) (ctX16_next e52 ?_)
        rcases v51 with z54 | w53
        · have hf := pt_sl hf
          cases hf
          cases hi
          exact q
        have hf := pt_sr hf
        show pm_G g 84 [(2, .int y49), (0, .ref x0), (1, .int x1)] [.int w53.1] w53.2 0 0
        refine pm_istore_n (lv' := [(3, .int w53.1), (2, .int y49), (0, .ref x0), (1, .int x1)]) C dX16_readsAll_84 rfl (pt_nl X (by decide)) rfl ?_
        refine pm_iload_n C dX16_readsAll_85 rfl rfl ?_
        refine pm_bipush (v := 12) C dX16_readsAll_86 (by decide) ?_
        refine pm_icmp_gt (tgt := 103) C dX16_readsAll_88 (by decide) (fun c55 => ?_) (fun c55 => ?_)
        · have hf := pm_it hf c55
          refine pm_aload_n C dX16_readsAll_103 rfl rfl ?_
          refine pm_bipush (v := 6) C dX16_readsAll_104 (by decide) ?_
          refine pm_iload_n C dX16_readsAll_106 rfl rfl ?_
          obtain ⟨k56, hf⟩ := pm_if hf
          obtain ⟨v57, e58, hf⟩ := pm_bd hf
          refine pt_callVT (as := [.int 6, .int y49]) (st := []) C X dX16_readsAll_107 ltX16_257 myX16_stops viX16_stops ⟨by decide, by decide⟩ rfl rfl k56 (Nat.le_of_ble_eq_true rfl) (Nat.le_refl _) (Nat.le_refl _) (ctX16_stops e58 ?_)
          rcases v57 with z60 | w59
          · have hf := pt_sl hf
            cases hf
            cases hi
            exact q
          have hf := pt_sr hf
          show pm_G g 110 [(3, .int w53.1), (2, .int y49), (0, .ref x0), (1, .int x1)] [] w59 0 0
          cases hf
          exact pm_sub [2, 3, 1, 0] rfl (ih.2.2.1 x0 x1 y49 w53.1 w59 hi)
        · have hf := pm_ie hf c55
          refine pm_iload_n C dX16_readsAll_91 rfl rfl ?_
          refine pm_if_le (tgt := 110) C dX16_readsAll_92 (by decide) (fun c61 => ?_) (fun c61 => ?_)
          · have hf := pm_it hf c61
            cases hf
            exact pm_sub [2, 3, 1, 0] rfl (ih.2.2.1 x0 x1 y49 w53.1 w53.2 hi)
          · have hf := pm_ie hf c61
            refine pm_iload_n C dX16_readsAll_95 rfl rfl ?_
            obtain ⟨v62, e63, hf⟩ := pm_lt hf
            refine pt_callS (as := [.int w53.1]) (st := []) C X dX16_readsAll_96 lnX16_299 myX16_rank stX16_rank ⟨by decide, by decide⟩ rfl rfl (Nat.le_of_ble_eq_true rfl) (Nat.le_refl _) (Nat.le_refl _) (ctX16_rank e63 ?_)
            show pm_G g 99 [(3, .int w53.1), (2, .int y49), (0, .ref x0), (1, .int x1)] [.int v62] w53.2 0 0
            refine pm_iload_n C dX16_readsAll_99 rfl rfl ?_
            refine pm_icmp_gt (tgt := 110) C dX16_readsAll_100 (by decide) (fun c64 => ?_) (fun c64 => ?_)
            · have hf := pm_it hf c64
              cases hf
              exact pm_sub [2, 3, 1, 0] rfl (ih.2.2.1 x0 x1 y49 w53.1 w53.2 hi)
            · have hf := pm_ie hf c64
              refine pm_aload_n C dX16_readsAll_103 rfl rfl ?_
              refine pm_bipush (v := 6) C dX16_readsAll_104 (by decide) ?_
              refine pm_iload_n C dX16_readsAll_106 rfl rfl ?_
              obtain ⟨k65, hf⟩ := pm_if hf
              obtain ⟨v66, e67, hf⟩ := pm_bd hf
              refine pt_callVT (as := [.int 6, .int y49]) (st := []) C X dX16_readsAll_107 ltX16_257 myX16_stops viX16_stops ⟨by decide, by decide⟩ rfl rfl k65 (Nat.le_of_ble_eq_true rfl) (Nat.le_refl _) (Nat.le_refl _) (ctX16_stops e67 ?_)
              rcases v66 with z69 | w68
              · have hf := pt_sl hf
                cases hf
                cases hi
                exact q
              have hf := pt_sr hf
              show pm_G g 110 [(3, .int w53.1), (2, .int y49), (0, .ref x0), (1, .int x1)] [] w68 0 0
              cases hf
              exact pm_sub [2, 3, 1, 0] rfl (ih.2.2.1 x0 x1 y49 w53.1 w68 hi)
    refine ⟨fun x0 x1 x2 x3 h hf => ?_, ?_⟩
    · obtain ⟨y, hf, hi⟩ := pm_iter_s hf
      have hf : tX16_readsAll_110 x0 x1 x2 x3 h = some y := hf
      unfold tX16_readsAll_110 at hf
      refine pm_iload_n C dX16_readsAll_110 rfl rfl ?_
      refine pm_if_le (tgt := 129) C dX16_readsAll_111 (by decide) (fun c70 => ?_) (fun c70 => ?_)
      · have hf := pm_it hf c70
        cases hf
        exact pm_sub [0, 1, 2, 3] rfl (ih.2.2.2 x0 x1 x2 x3 h hi)
      · have hf := pm_ie hf c70
        refine pm_iload_n C dX16_readsAll_114 rfl rfl ?_
        obtain ⟨v71, e72, hf⟩ := pm_lt hf
        refine pt_callS (as := [.int x3]) (st := []) C X dX16_readsAll_115 lnX16_299 myX16_rank stX16_rank ⟨by decide, by decide⟩ rfl rfl (Nat.le_of_ble_eq_true rfl) (Nat.le_refl _) (Nat.le_refl _) (ctX16_rank e72 ?_)
        show pm_G g 118 [(0, .ref x0), (1, .int x1), (2, .int x2), (3, .int x3)] [.int v71] h 0 0
        refine pm_istore_n (lv' := [(1, .int v71), (0, .ref x0), (2, .int x2), (3, .int x3)]) C dX16_readsAll_118 rfl (pt_nl X (by decide)) rfl ?_
        refine pm_aload_n C dX16_readsAll_119 rfl rfl ?_
        obtain ⟨k73, hf⟩ := pm_if hf
        obtain ⟨v74, e75, hf⟩ := pm_bd hf
        refine pm_getR C dX16_readsAll_120 flX16_221 rfl k73 e75 ?_
        obtain ⟨k76, hf⟩ := pm_if hf
        obtain ⟨v77, e78, hf⟩ := pm_bd hf
        refine pm_getR C dX16_readsAll_123 flX16_302 rfl k76 e78 ?_
        refine pm_iload_n C dX16_readsAll_126 rfl rfl ?_
        refine pm_iload_n C dX16_readsAll_127 rfl rfl ?_
        obtain ⟨k79, hf⟩ := pm_if hf
        obtain ⟨u80, hf⟩ := pm_if hf
        refine pm_iast C dX16_readsAll_128 k79 u80 ?_
        cases hf
        exact pm_sub [1, 0, 2, 3] rfl (ih.2.2.2 x0 v71 x2 x3 (pm_setI h v77 x3.toNatClampNeg x2) hi)
    refine fun x0 x1 x2 x3 h hf => ?_
    obtain ⟨y, hf, hi⟩ := pm_iter_s hf
    have hf : tX16_readsAll_129 x0 x1 x2 x3 h = some y := hf
    unfold tX16_readsAll_129 at hf
    refine pm_aload_n C dX16_readsAll_129 rfl rfl ?_
    refine pm_iload_n C dX16_readsAll_130 rfl rfl ?_
    obtain ⟨k81, hf⟩ := pm_if hf
    refine pm_putI C dX16_readsAll_131 flX16_305 rfl rfl k81 rfl rfl ?_
    refine pm_aload_n C dX16_readsAll_134 rfl rfl ?_
    refine pm_getI C dX16_readsAll_135 flX16_251 rfl k81 rfl ?_
    obtain ⟨y82, e83, hf⟩ := pm_lt hf
    refine pm_topI e83 ?_
    refine pm_istore (lv' := [(4, .int y82), (0, .ref x0), (1, .int x1), (2, .int x2), (3, .int x3)]) C dX16_readsAll_138 (pt_nl X (by decide)) rfl ?_
    refine pm_aload_n C dX16_readsAll_140 rfl rfl ?_
    obtain ⟨v84, e85, hf⟩ := pm_bd hf
    refine pt_callVT (as := []) (st := []) C X dX16_readsAll_141 ltX16_277 myX16_number viX16_number ⟨by decide, by decide⟩ rfl rfl k81 (Nat.le_of_ble_eq_true rfl) (Nat.le_refl _) (Nat.le_refl _) (ctX16_number e85 ?_)
    rcases v84 with z87 | w86
    · have hf := pt_sl hf
      cases hf
      cases hi
      exact q
    have hf := pt_sr hf
    show pm_G g 144 [(4, .int y82), (0, .ref x0), (1, .int x1), (2, .int x2), (3, .int x3)] [.long w86.1] w86.2 0 0
    refine pm_lstore (lv' := [(5, .long w86.1), (4, .int y82), (0, .ref x0), (1, .int x1), (2, .int x2), (3, .int x3)]) C dX16_readsAll_144 (pt_nl X (by decide)) rfl ?_
    refine pm_lload C dX16_readsAll_146 rfl ?_
    refine pm_aload_n C dX16_readsAll_148 rfl rfl ?_
    obtain ⟨k88, hf⟩ := pm_if hf
    obtain ⟨v89, e90, hf⟩ := pm_bd hf
    refine pm_getR C dX16_readsAll_149 flX16_221 rfl k88 e90 ?_
    obtain ⟨k91, hf⟩ := pm_if hf
    refine pm_getI C dX16_readsAll_152 flX16_292 rfl k91 rfl ?_
    refine pm_aload_n C dX16_readsAll_155 rfl rfl ?_
    refine pm_getI C dX16_readsAll_156 flX16_251 rfl k88 rfl ?_
    refine pm_isub C dX16_readsAll_159 ?_
    refine pm_i2l C dX16_readsAll_160 ?_
    refine pm_lcmp C dX16_readsAll_161 ?_
    refine pm_if_le (tgt := 172) C dX16_readsAll_162 (by decide) (fun c92 => ?_) (fun c92 => ?_)
    · have hf := pm_it hf ((pm_lg_le _ _).mp c92)
      refine pm_aload_n C dX16_readsAll_172 rfl rfl ?_
      refine pm_aload_n C dX16_readsAll_173 rfl rfl ?_
      refine pm_getI C dX16_readsAll_174 flX16_251 rfl k88 rfl ?_
      refine pm_lload C dX16_readsAll_177 rfl ?_
      refine pm_l2i C dX16_readsAll_179 ?_
      refine pm_iadd C dX16_readsAll_180 ?_
      obtain ⟨y93, e94, hf⟩ := pm_lt hf
      refine pm_topI e94 ?_
      refine pm_putI C dX16_readsAll_181 flX16_254 rfl rfl k88 rfl rfl ?_
      refine pm_aload_n C dX16_readsAll_184 rfl rfl ?_
      refine pm_iload_n C dX16_readsAll_185 rfl rfl ?_
      obtain ⟨v95, e96, hf⟩ := pm_bd hf
      refine pt_callVT (as := [.int x3]) (st := []) C X dX16_readsAll_186 ltX16_308 myX16_readsSection viX16_readsSection ⟨by decide, by decide⟩ rfl rfl k88 (Nat.le_of_ble_eq_true rfl) (Nat.le_refl _) (Nat.le_refl _) (ctX16_readsSection e96 ?_)
      rcases v95 with z98 | w97
      · have hf := pt_sl hf
        cases hf
        cases hi
        exact q
      have hf := pt_sr hf
      show pm_G g 189 [(5, .long w86.1), (4, .int y82), (0, .ref x0), (1, .int x1), (2, .int x2), (3, .int x3)] [] w97 0 0
      refine pm_aload_n C dX16_readsAll_189 rfl rfl ?_
      obtain ⟨k99, hf⟩ := pm_if hf
      refine pm_getI C dX16_readsAll_190 flX16_251 rfl k99 rfl ?_
      refine pm_aload_n C dX16_readsAll_193 rfl rfl ?_
      refine pm_getI C dX16_readsAll_194 flX16_254 rfl k99 rfl ?_
      refine pm_icmp_ge (tgt := 209) C dX16_readsAll_197 (by decide) (fun c100 => ?_) (fun c100 => ?_)
      · have hf := pm_it hf c100
        refine pm_aload_n C dX16_readsAll_209 rfl rfl ?_
        refine pm_aload_n C dX16_readsAll_210 rfl rfl ?_
        obtain ⟨v101, e102, hf⟩ := pm_bd hf
        refine pm_getR C dX16_readsAll_211 flX16_221 rfl k99 e102 ?_
        obtain ⟨k103, hf⟩ := pm_if hf
        refine pm_getI C dX16_readsAll_214 flX16_292 rfl k103 rfl ?_
        obtain ⟨y104, e105, hf⟩ := pm_lt hf
        refine pm_topI e105 ?_
        refine pm_putI C dX16_readsAll_217 flX16_254 rfl rfl k99 rfl rfl ?_
        refine pm_goto (tgt := 61) C dX16_readsAll_220 (by decide) ?_
        cases hf
        exact pm_sub [2, 3] rfl (ih.2.1 x0 x1 (pm_setI w97 x0 12 y104) hi)
      · have hf := pm_ie hf c100
        refine pm_aload_n C dX16_readsAll_200 rfl rfl ?_
        refine pm_iconst (v := 3) C dX16_readsAll_201 (by decide) ?_
        refine pm_aload_n C dX16_readsAll_202 rfl rfl ?_
        refine pm_getI C dX16_readsAll_203 flX16_251 rfl k99 rfl ?_
        obtain ⟨v106, e107, hf⟩ := pm_bd hf
        refine pt_callVT (as := [.int 3, .int (pm_I w97 x0 11)]) (st := []) C X dX16_readsAll_206 ltX16_257 myX16_stops viX16_stops ⟨by decide, by decide⟩ rfl rfl k99 (Nat.le_of_ble_eq_true rfl) (Nat.le_refl _) (Nat.le_refl _) (ctX16_stops e107 ?_)
        rcases v106 with z109 | w108
        · have hf := pt_sl hf
          cases hf
          cases hi
          exact q
        have hf := pt_sr hf
        show pm_G g 209 [(5, .long w86.1), (4, .int y82), (0, .ref x0), (1, .int x1), (2, .int x2), (3, .int x3)] [] w108 0 0
        refine pm_aload_n C dX16_readsAll_209 rfl rfl ?_
        refine pm_aload_n C dX16_readsAll_210 rfl rfl ?_
        obtain ⟨k110, hf⟩ := pm_if hf
        obtain ⟨v111, e112, hf⟩ := pm_bd hf
        refine pm_getR C dX16_readsAll_211 flX16_221 rfl k110 e112 ?_
        obtain ⟨k113, hf⟩ := pm_if hf
        refine pm_getI C dX16_readsAll_214 flX16_292 rfl k113 rfl ?_
        obtain ⟨y114, e115, hf⟩ := pm_lt hf
        refine pm_topI e115 ?_
        refine pm_putI C dX16_readsAll_217 flX16_254 rfl rfl k110 rfl rfl ?_
        refine pm_goto (tgt := 61) C dX16_readsAll_220 (by decide) ?_
        cases hf
        exact pm_sub [2, 3] rfl (ih.2.1 x0 x1 (pm_setI w108 x0 12 y114) hi)
    · have hf := pm_ie hf ((fun z => c92 ((pm_lg_le _ _).mpr z)))
      refine pm_aload_n C dX16_readsAll_165 rfl rfl ?_
      refine pm_iconst (v := 2) C dX16_readsAll_166 (by decide) ?_
      refine pm_iload C dX16_readsAll_167 rfl ?_
      obtain ⟨v116, e117, hf⟩ := pm_bd hf
      refine pt_callVT (as := [.int 2, .int y82]) (st := []) C X dX16_readsAll_169 ltX16_257 myX16_stops viX16_stops ⟨by decide, by decide⟩ rfl rfl k88 (Nat.le_of_ble_eq_true rfl) (Nat.le_refl _) (Nat.le_refl _) (ctX16_stops e117 ?_)
      rcases v116 with z119 | w118
      · have hf := pt_sl hf
        cases hf
        cases hi
        exact q
      have hf := pt_sr hf
      show pm_G g 172 [(5, .long w86.1), (4, .int y82), (0, .ref x0), (1, .int x1), (2, .int x2), (3, .int x3)] [] w118 0 0
      refine pm_aload_n C dX16_readsAll_172 rfl rfl ?_
      refine pm_aload_n C dX16_readsAll_173 rfl rfl ?_
      obtain ⟨k120, hf⟩ := pm_if hf
      refine pm_getI C dX16_readsAll_174 flX16_251 rfl k120 rfl ?_
      refine pm_lload C dX16_readsAll_177 rfl ?_
      refine pm_l2i C dX16_readsAll_179 ?_
      refine pm_iadd C dX16_readsAll_180 ?_
      obtain ⟨y121, e122, hf⟩ := pm_lt hf
      refine pm_topI e122 ?_
      refine pm_putI C dX16_readsAll_181 flX16_254 rfl rfl k120 rfl rfl ?_
      refine pm_aload_n C dX16_readsAll_184 rfl rfl ?_
      refine pm_iload_n C dX16_readsAll_185 rfl rfl ?_
      obtain ⟨v123, e124, hf⟩ := pm_bd hf
      refine pt_callVT (as := [.int x3]) (st := []) C X dX16_readsAll_186 ltX16_308 myX16_readsSection viX16_readsSection ⟨by decide, by decide⟩ rfl rfl k120 (Nat.le_of_ble_eq_true rfl) (Nat.le_refl _) (Nat.le_refl _) (ctX16_readsSection e124 ?_)
      rcases v123 with z126 | w125
      · have hf := pt_sl hf
        cases hf
        cases hi
        exact q
      have hf := pt_sr hf
      show pm_G g 189 [(5, .long w86.1), (4, .int y82), (0, .ref x0), (1, .int x1), (2, .int x2), (3, .int x3)] [] w125 0 0
      refine pm_aload_n C dX16_readsAll_189 rfl rfl ?_
      obtain ⟨k127, hf⟩ := pm_if hf
      refine pm_getI C dX16_readsAll_190 flX16_251 rfl k127 rfl ?_
      refine pm_aload_n C dX16_readsAll_193 rfl rfl ?_
      refine pm_getI C dX16_readsAll_194 flX16_254 rfl k127 rfl ?_
      refine pm_icmp_ge (tgt := 209) C dX16_readsAll_197 (by decide) (fun c128 => ?_) (fun c128 => ?_)
      · have hf := pm_it hf c128
        refine pm_aload_n C dX16_readsAll_209 rfl rfl ?_
        refine pm_aload_n C dX16_readsAll_210 rfl rfl ?_
        obtain ⟨v129, e130, hf⟩ := pm_bd hf
        refine pm_getR C dX16_readsAll_211 flX16_221 rfl k127 e130 ?_
        obtain ⟨k131, hf⟩ := pm_if hf
        refine pm_getI C dX16_readsAll_214 flX16_292 rfl k131 rfl ?_
        obtain ⟨y132, e133, hf⟩ := pm_lt hf
        refine pm_topI e133 ?_
        refine pm_putI C dX16_readsAll_217 flX16_254 rfl rfl k127 rfl rfl ?_
        refine pm_goto (tgt := 61) C dX16_readsAll_220 (by decide) ?_
        cases hf
        exact pm_sub [2, 3] rfl (ih.2.1 x0 x1 (pm_setI w125 x0 12 y132) hi)
      · have hf := pm_ie hf c128
        refine pm_aload_n C dX16_readsAll_200 rfl rfl ?_
        refine pm_iconst (v := 3) C dX16_readsAll_201 (by decide) ?_
        refine pm_aload_n C dX16_readsAll_202 rfl rfl ?_
        refine pm_getI C dX16_readsAll_203 flX16_251 rfl k127 rfl ?_
        obtain ⟨v134, e135, hf⟩ := pm_bd hf
        refine pt_callVT (as := [.int 3, .int (pm_I w125 x0 11)]) (st := []) C X dX16_readsAll_206 ltX16_257 myX16_stops viX16_stops ⟨by decide, by decide⟩ rfl rfl k127 (Nat.le_of_ble_eq_true rfl) (Nat.le_refl _) (Nat.le_refl _) (ctX16_stops e135 ?_)
        rcases v134 with z137 | w136
        · have hf := pt_sl hf
          cases hf
          cases hi
          exact q
        have hf := pt_sr hf
        show pm_G g 209 [(5, .long w86.1), (4, .int y82), (0, .ref x0), (1, .int x1), (2, .int x2), (3, .int x3)] [] w136 0 0
        refine pm_aload_n C dX16_readsAll_209 rfl rfl ?_
        refine pm_aload_n C dX16_readsAll_210 rfl rfl ?_
        obtain ⟨k138, hf⟩ := pm_if hf
        obtain ⟨v139, e140, hf⟩ := pm_bd hf
        refine pm_getR C dX16_readsAll_211 flX16_221 rfl k138 e140 ?_
        obtain ⟨k141, hf⟩ := pm_if hf
        refine pm_getI C dX16_readsAll_214 flX16_292 rfl k141 rfl ?_
        obtain ⟨y142, e143, hf⟩ := pm_lt hf
        refine pm_topI e143 ?_
        refine pm_putI C dX16_readsAll_217 flX16_254 rfl rfl k138 rfl rfl ?_
        refine pm_goto (tgt := 61) C dX16_readsAll_220 (by decide) ?_
        cases hf
        exact pm_sub [2, 3] rfl (ih.2.1 x0 x1 (pm_setI w136 x0 12 y142) hi)
set_option maxHeartbeats 4000000 in
set_option maxRecDepth 100000 in
theorem ctX16_readsAll {l : Launch} {G : pm_Gl} {h : pm_H} {a0 : Nat} {r : ((Nat × pm_H) ⊕ pm_H)} {Qr : Option Value → pm_H → Prop} {Qt : Nat → pm_H → Prop} (hf : fX16_readsAll h a0 = some r) (q : pt_eV Qr Qt r) : pm_Ctt l G mX16_readsAll [.ref a0] h 0 0 Qr Qt := by
  refine pm_bodyT pnX16 (Nat.le_of_ble_eq_true rfl) (fun g C X => ?_)
  have C : pm_C g cX16_readsAll RX16 := C
  show pm_G g 0 [(0, .ref a0)] [] h 0 0
  unfold fX16_readsAll at hf
  refine pm_aload_n C dX16_readsAll_0 rfl rfl ?_
  refine pm_iconst (v := 0) C dX16_readsAll_1 (by decide) ?_
  obtain ⟨k1, hf⟩ := pm_if hf
  refine pm_putI C dX16_readsAll_2 flX16_251 rfl rfl k1 rfl rfl ?_
  refine pm_aload_n C dX16_readsAll_5 rfl rfl ?_
  refine pm_aload_n C dX16_readsAll_6 rfl rfl ?_
  obtain ⟨v2, e3, hf⟩ := pm_bd hf
  refine pm_getR C dX16_readsAll_7 flX16_221 rfl k1 e3 ?_
  obtain ⟨k4, hf⟩ := pm_if hf
  refine pm_getI C dX16_readsAll_10 flX16_292 rfl k4 rfl ?_
  obtain ⟨y5, e6, hf⟩ := pm_lt hf
  refine pm_topI e6 ?_
  refine pm_putI C dX16_readsAll_13 flX16_254 rfl rfl k1 rfl rfl ?_
  refine pm_bipush (v := 56) C dX16_readsAll_16 (by decide) ?_
  refine pm_istore_n (lv' := [(1, .int 56), (0, .ref a0)]) C dX16_readsAll_18 rfl (pt_nl X (by decide)) rfl ?_
  obtain ⟨n, hn⟩ := pm_lim_iter hf
  exact pm_sub [1, 0] rfl ((lpX16_readsAll C X q n).1 a0 56 (pm_setI (pm_setI h a0 11 0) a0 12 y5) hn)
