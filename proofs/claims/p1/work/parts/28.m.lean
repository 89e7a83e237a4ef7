theorem dX16_isNamedFurther_0 : decode cX16_isNamedFurther 0 = .ok (.aload_n 0, 1) := by decide +kernel
theorem dX16_isNamedFurther_1 : decode cX16_isNamedFurther 1 = .ok (.invokevirtual 603, 3) := by decide +kernel
theorem dX16_isNamedFurther_4 : decode cX16_isNamedFurther 4 = .ok (.l2i, 1) := by decide +kernel
theorem dX16_isNamedFurther_5 : decode cX16_isNamedFurther 5 = .ok (.istore_n 1, 1) := by decide +kernel
theorem dX16_isNamedFurther_6 : decode cX16_isNamedFurther 6 = .ok (.iload_n 1, 1) := by decide +kernel
theorem dX16_isNamedFurther_7 : decode cX16_isNamedFurther 7 = .ok (.bipush 8, 2) := by decide +kernel
theorem dX16_isNamedFurther_9 : decode cX16_isNamedFurther 9 = .ok (.if_icmp .eq 15, 3) := by decide +kernel
theorem dX16_isNamedFurther_12 : decode cX16_isNamedFurther 12 = .ok (.iload_n 1, 1) := by decide +kernel
theorem dX16_isNamedFurther_13 : decode cX16_isNamedFurther 13 = .ok (.bipush 9, 2) := by decide +kernel
theorem dX16_isNamedFurther_15 : decode cX16_isNamedFurther 15 = .ok (.if_icmp .eq 9, 3) := by decide +kernel
theorem dX16_isNamedFurther_18 : decode cX16_isNamedFurther 18 = .ok (.iload_n 1, 1) := by decide +kernel
theorem dX16_isNamedFurther_19 : decode cX16_isNamedFurther 19 = .ok (.bipush 11, 2) := by decide +kernel
theorem dX16_isNamedFurther_21 : decode cX16_isNamedFurther 21 = .ok (.if_icmp .le 10, 3) := by decide +kernel
theorem dX16_isNamedFurther_24 : decode cX16_isNamedFurther 24 = .ok (.aload_n 0, 1) := by decide +kernel
theorem dX16_isNamedFurther_25 : decode cX16_isNamedFurther 25 = .ok (.invokevirtual 603, 3) := by decide +kernel
theorem dX16_isNamedFurther_28 : decode cX16_isNamedFurther 28 = .ok (.goto 4, 3) := by decide +kernel
theorem dX16_isNamedFurther_31 : decode cX16_isNamedFurther 31 = .ok (.lconst 0, 1) := by decide +kernel
theorem dX16_isNamedFurther_32 : decode cX16_isNamedFurther 32 = .ok (.lstore_n 2, 1) := by decide +kernel
theorem dX16_isNamedFurther_33 : decode cX16_isNamedFurther 33 = .ok (.iload_n 1, 1) := by decide +kernel
theorem dX16_isNamedFurther_34 : decode cX16_isNamedFurther 34 = .ok (.bipush 12, 2) := by decide +kernel
theorem dX16_isNamedFurther_36 : decode cX16_isNamedFurther 36 = .ok (.if_icmp .eq 9, 3) := by decide +kernel
theorem dX16_isNamedFurther_39 : decode cX16_isNamedFurther 39 = .ok (.iload_n 1, 1) := by decide +kernel
theorem dX16_isNamedFurther_40 : decode cX16_isNamedFurther 40 = .ok (.bipush 14, 2) := by decide +kernel
theorem dX16_isNamedFurther_42 : decode cX16_isNamedFurther 42 = .ok (.if_icmp .ne 10, 3) := by decide +kernel
theorem dX16_isNamedFurther_45 : decode cX16_isNamedFurther 45 = .ok (.aload_n 0, 1) := by decide +kernel
theorem dX16_isNamedFurther_46 : decode cX16_isNamedFurther 46 = .ok (.invokevirtual 603, 3) := by decide +kernel
theorem dX16_isNamedFurther_49 : decode cX16_isNamedFurther 49 = .ok (.goto 4, 3) := by decide +kernel
theorem dX16_isNamedFurther_52 : decode cX16_isNamedFurther 52 = .ok (.lconst 0, 1) := by decide +kernel
theorem dX16_isNamedFurther_53 : decode cX16_isNamedFurther 53 = .ok (.lstore 4, 2) := by decide +kernel
theorem dX16_isNamedFurther_55 : decode cX16_isNamedFurther 55 = .ok (.iload_n 1, 1) := by decide +kernel
theorem dX16_isNamedFurther_56 : decode cX16_isNamedFurther 56 = .ok (.tableswitch 275 8 17 #[56, 86, 105, 105, 122, 179, 198, 255, 255, 255], 56) := by decide +kernel
theorem dX16_isNamedFurther_112 : decode cX16_isNamedFurther 112 = .ok (.lload_n 2, 1) := by decide +kernel
theorem dX16_isNamedFurther_113 : decode cX16_isNamedFurther 113 = .ok (.aload_n 0, 1) := by decide +kernel
theorem dX16_isNamedFurther_114 : decode cX16_isNamedFurther 114 = .ok (.getfield 221, 3) := by decide +kernel
theorem dX16_isNamedFurther_117 : decode cX16_isNamedFurther 117 = .ok (.getfield 529, 3) := by decide +kernel
theorem dX16_isNamedFurther_120 : decode cX16_isNamedFurther 120 = .ok (.i2l, 1) := by decide +kernel
theorem dX16_isNamedFurther_121 : decode cX16_isNamedFurther 121 = .ok (.lcmp, 1) := by decide +kernel
theorem dX16_isNamedFurther_122 : decode cX16_isNamedFurther 122 = .ok (.ifCond .ge 18, 3) := by decide +kernel
theorem dX16_isNamedFurther_125 : decode cX16_isNamedFurther 125 = .ok (.aload_n 0, 1) := by decide +kernel
theorem dX16_isNamedFurther_126 : decode cX16_isNamedFurther 126 = .ok (.getfield 221, 3) := by decide +kernel
theorem dX16_isNamedFurther_129 : decode cX16_isNamedFurther 129 = .ok (.iconst 2, 1) := by decide +kernel
theorem dX16_isNamedFurther_130 : decode cX16_isNamedFurther 130 = .ok (.invokevirtual 615, 3) := by decide +kernel
theorem dX16_isNamedFurther_133 : decode cX16_isNamedFurther 133 = .ok (.ifCond .le 7, 3) := by decide +kernel
theorem dX16_isNamedFurther_136 : decode cX16_isNamedFurther 136 = .ok (.iconst 1, 1) := by decide +kernel
theorem dX16_isNamedFurther_137 : decode cX16_isNamedFurther 137 = .ok (.goto 4, 3) := by decide +kernel
theorem dX16_isNamedFurther_140 : decode cX16_isNamedFurther 140 = .ok (.iconst 0, 1) := by decide +kernel
theorem dX16_isNamedFurther_141 : decode cX16_isNamedFurther 141 = .ok (.ireturn, 1) := by decide +kernel
theorem dX16_isNamedFurther_142 : decode cX16_isNamedFurther 142 = .ok (.lload_n 2, 1) := by decide +kernel
theorem dX16_isNamedFurther_143 : decode cX16_isNamedFurther 143 = .ok (.aload_n 0, 1) := by decide +kernel
theorem dX16_isNamedFurther_144 : decode cX16_isNamedFurther 144 = .ok (.getfield 221, 3) := by decide +kernel
theorem dX16_isNamedFurther_147 : decode cX16_isNamedFurther 147 = .ok (.getfield 529, 3) := by decide +kernel
theorem dX16_isNamedFurther_150 : decode cX16_isNamedFurther 150 = .ok (.i2l, 1) := by decide +kernel
theorem dX16_isNamedFurther_151 : decode cX16_isNamedFurther 151 = .ok (.lcmp, 1) := by decide +kernel
theorem dX16_isNamedFurther_152 : decode cX16_isNamedFurther 152 = .ok (.ifCond .ge 7, 3) := by decide +kernel
theorem dX16_isNamedFurther_155 : decode cX16_isNamedFurther 155 = .ok (.iconst 1, 1) := by decide +kernel
theorem dX16_isNamedFurther_156 : decode cX16_isNamedFurther 156 = .ok (.goto 4, 3) := by decide +kernel
theorem dX16_isNamedFurther_159 : decode cX16_isNamedFurther 159 = .ok (.iconst 0, 1) := by decide +kernel
theorem dX16_isNamedFurther_160 : decode cX16_isNamedFurther 160 = .ok (.ireturn, 1) := by decide +kernel
theorem dX16_isNamedFurther_161 : decode cX16_isNamedFurther 161 = .ok (.aload_n 0, 1) := by decide +kernel
theorem dX16_isNamedFurther_162 : decode cX16_isNamedFurther 162 = .ok (.getfield 221, 3) := by decide +kernel
theorem dX16_isNamedFurther_165 : decode cX16_isNamedFurther 165 = .ok (.iconst 2, 1) := by decide +kernel
theorem dX16_isNamedFurther_166 : decode cX16_isNamedFurther 166 = .ok (.invokevirtual 615, 3) := by decide +kernel
theorem dX16_isNamedFurther_169 : decode cX16_isNamedFurther 169 = .ok (.ifCond .le 7, 3) := by decide +kernel
theorem dX16_isNamedFurther_172 : decode cX16_isNamedFurther 172 = .ok (.iconst 1, 1) := by decide +kernel
theorem dX16_isNamedFurther_173 : decode cX16_isNamedFurther 173 = .ok (.goto 4, 3) := by decide +kernel
theorem dX16_isNamedFurther_176 : decode cX16_isNamedFurther 176 = .ok (.iconst 0, 1) := by decide +kernel
theorem dX16_isNamedFurther_177 : decode cX16_isNamedFurther 177 = .ok (.ireturn, 1) := by decide +kernel
theorem dX16_isNamedFurther_178 : decode cX16_isNamedFurther 178 = .ok (.lload_n 2, 1) := by decide +kernel
theorem dX16_isNamedFurther_179 : decode cX16_isNamedFurther 179 = .ok (.aload_n 0, 1) := by decide +kernel
theorem dX16_isNamedFurther_180 : decode cX16_isNamedFurther 180 = .ok (.getfield 221, 3) := by decide +kernel
theorem dX16_isNamedFurther_183 : decode cX16_isNamedFurther 183 = .ok (.getfield 481, 3) := by decide +kernel
theorem dX16_isNamedFurther_186 : decode cX16_isNamedFurther 186 = .ok (.i2l, 1) := by decide +kernel
theorem dX16_isNamedFurther_187 : decode cX16_isNamedFurther 187 = .ok (.lcmp, 1) := by decide +kernel
theorem dX16_isNamedFurther_188 : decode cX16_isNamedFurther 188 = .ok (.ifCond .ge 45, 3) := by decide +kernel
theorem dX16_isNamedFurther_191 : decode cX16_isNamedFurther 191 = .ok (.lload 4, 2) := by decide +kernel
theorem dX16_isNamedFurther_193 : decode cX16_isNamedFurther 193 = .ok (.aload_n 0, 1) := by decide +kernel
theorem dX16_isNamedFurther_194 : decode cX16_isNamedFurther 194 = .ok (.getfield 221, 3) := by decide +kernel
theorem dX16_isNamedFurther_197 : decode cX16_isNamedFurther 197 = .ok (.iconst 1, 1) := by decide +kernel
theorem dX16_isNamedFurther_198 : decode cX16_isNamedFurther 198 = .ok (.invokevirtual 615, 3) := by decide +kernel
theorem dX16_isNamedFurther_201 : decode cX16_isNamedFurther 201 = .ok (.i2l, 1) := by decide +kernel
theorem dX16_isNamedFurther_202 : decode cX16_isNamedFurther 202 = .ok (.lcmp, 1) := by decide +kernel
theorem dX16_isNamedFurther_203 : decode cX16_isNamedFurther 203 = .ok (.ifCond .ge 30, 3) := by decide +kernel
theorem dX16_isNamedFurther_206 : decode cX16_isNamedFurther 206 = .ok (.aload_n 0, 1) := by decide +kernel
theorem dX16_isNamedFurther_207 : decode cX16_isNamedFurther 207 = .ok (.getfield 221, 3) := by decide +kernel
theorem dX16_isNamedFurther_210 : decode cX16_isNamedFurther 210 = .ok (.getfield 501, 3) := by decide +kernel
theorem dX16_isNamedFurther_213 : decode cX16_isNamedFurther 213 = .ok (.lload_n 2, 1) := by decide +kernel
theorem dX16_isNamedFurther_214 : decode cX16_isNamedFurther 214 = .ok (.l2i, 1) := by decide +kernel
theorem dX16_isNamedFurther_215 : decode cX16_isNamedFurther 215 = .ok (.iaload, 1) := by decide +kernel
theorem dX16_isNamedFurther_216 : decode cX16_isNamedFurther 216 = .ok (.aload_n 0, 1) := by decide +kernel
theorem dX16_isNamedFurther_217 : decode cX16_isNamedFurther 217 = .ok (.getfield 221, 3) := by decide +kernel
theorem dX16_isNamedFurther_220 : decode cX16_isNamedFurther 220 = .ok (.lload 4, 2) := by decide +kernel
theorem dX16_isNamedFurther_222 : decode cX16_isNamedFurther 222 = .ok (.l2i, 1) := by decide +kernel
theorem dX16_isNamedFurther_223 : decode cX16_isNamedFurther 223 = .ok (.invokevirtual 661, 3) := by decide +kernel
theorem dX16_isNamedFurther_226 : decode cX16_isNamedFurther 226 = .ok (.if_icmp .ne 7, 3) := by decide +kernel
theorem dX16_isNamedFurther_229 : decode cX16_isNamedFurther 229 = .ok (.iconst 1, 1) := by decide +kernel
theorem dX16_isNamedFurther_230 : decode cX16_isNamedFurther 230 = .ok (.goto 4, 3) := by decide +kernel
theorem dX16_isNamedFurther_233 : decode cX16_isNamedFurther 233 = .ok (.iconst 0, 1) := by decide +kernel
theorem dX16_isNamedFurther_234 : decode cX16_isNamedFurther 234 = .ok (.ireturn, 1) := by decide +kernel
theorem dX16_isNamedFurther_235 : decode cX16_isNamedFurther 235 = .ok (.lload_n 2, 1) := by decide +kernel
theorem dX16_isNamedFurther_236 : decode cX16_isNamedFurther 236 = .ok (.aload_n 0, 1) := by decide +kernel
theorem dX16_isNamedFurther_237 : decode cX16_isNamedFurther 237 = .ok (.getfield 221, 3) := by decide +kernel
theorem dX16_isNamedFurther_240 : decode cX16_isNamedFurther 240 = .ok (.getfield 481, 3) := by decide +kernel
theorem dX16_isNamedFurther_243 : decode cX16_isNamedFurther 243 = .ok (.i2l, 1) := by decide +kernel
theorem dX16_isNamedFurther_244 : decode cX16_isNamedFurther 244 = .ok (.lcmp, 1) := by decide +kernel
theorem dX16_isNamedFurther_245 : decode cX16_isNamedFurther 245 = .ok (.ifCond .ge 7, 3) := by decide +kernel
theorem dX16_isNamedFurther_248 : decode cX16_isNamedFurther 248 = .ok (.iconst 1, 1) := by decide +kernel
theorem dX16_isNamedFurther_249 : decode cX16_isNamedFurther 249 = .ok (.goto 4, 3) := by decide +kernel
theorem dX16_isNamedFurther_252 : decode cX16_isNamedFurther 252 = .ok (.iconst 0, 1) := by decide +kernel
theorem dX16_isNamedFurther_253 : decode cX16_isNamedFurther 253 = .ok (.ireturn, 1) := by decide +kernel
theorem dX16_isNamedFurther_254 : decode cX16_isNamedFurther 254 = .ok (.lload_n 2, 1) := by decide +kernel
theorem dX16_isNamedFurther_255 : decode cX16_isNamedFurther 255 = .ok (.aload_n 0, 1) := by decide +kernel
theorem dX16_isNamedFurther_256 : decode cX16_isNamedFurther 256 = .ok (.getfield 221, 3) := by decide +kernel
theorem dX16_isNamedFurther_259 : decode cX16_isNamedFurther 259 = .ok (.iconst 1, 1) := by decide +kernel
theorem dX16_isNamedFurther_260 : decode cX16_isNamedFurther 260 = .ok (.invokevirtual 615, 3) := by decide +kernel
theorem dX16_isNamedFurther_263 : decode cX16_isNamedFurther 263 = .ok (.i2l, 1) := by decide +kernel
theorem dX16_isNamedFurther_264 : decode cX16_isNamedFurther 264 = .ok (.lcmp, 1) := by decide +kernel
theorem dX16_isNamedFurther_265 : decode cX16_isNamedFurther 265 = .ok (.ifCond .ge 44, 3) := by decide +kernel
theorem dX16_isNamedFurther_268 : decode cX16_isNamedFurther 268 = .ok (.lload 4, 2) := by decide +kernel
theorem dX16_isNamedFurther_270 : decode cX16_isNamedFurther 270 = .ok (.aload_n 0, 1) := by decide +kernel
theorem dX16_isNamedFurther_271 : decode cX16_isNamedFurther 271 = .ok (.getfield 221, 3) := by decide +kernel
theorem dX16_isNamedFurther_274 : decode cX16_isNamedFurther 274 = .ok (.iconst 1, 1) := by decide +kernel
theorem dX16_isNamedFurther_275 : decode cX16_isNamedFurther 275 = .ok (.invokevirtual 615, 3) := by decide +kernel
theorem dX16_isNamedFurther_278 : decode cX16_isNamedFurther 278 = .ok (.i2l, 1) := by decide +kernel
theorem dX16_isNamedFurther_279 : decode cX16_isNamedFurther 279 = .ok (.lcmp, 1) := by decide +kernel
theorem dX16_isNamedFurther_280 : decode cX16_isNamedFurther 280 = .ok (.ifCond .ge 29, 3) := by decide +kernel
theorem dX16_isNamedFurther_283 : decode cX16_isNamedFurther 283 = .ok (.aload_n 0, 1) := by decide +kernel
theorem dX16_isNamedFurther_284 : decode cX16_isNamedFurther 284 = .ok (.getfield 221, 3) := by decide +kernel
theorem dX16_isNamedFurther_287 : decode cX16_isNamedFurther 287 = .ok (.lload_n 2, 1) := by decide +kernel
theorem dX16_isNamedFurther_288 : decode cX16_isNamedFurther 288 = .ok (.l2i, 1) := by decide +kernel
theorem dX16_isNamedFurther_289 : decode cX16_isNamedFurther 289 = .ok (.invokevirtual 661, 3) := by decide +kernel
theorem dX16_isNamedFurther_292 : decode cX16_isNamedFurther 292 = .ok (.aload_n 0, 1) := by decide +kernel
theorem dX16_isNamedFurther_293 : decode cX16_isNamedFurther 293 = .ok (.getfield 221, 3) := by decide +kernel
theorem dX16_isNamedFurther_296 : decode cX16_isNamedFurther 296 = .ok (.lload 4, 2) := by decide +kernel
theorem dX16_isNamedFurther_298 : decode cX16_isNamedFurther 298 = .ok (.l2i, 1) := by decide +kernel
theorem dX16_isNamedFurther_299 : decode cX16_isNamedFurther 299 = .ok (.invokevirtual 661, 3) := by decide +kernel
theorem dX16_isNamedFurther_302 : decode cX16_isNamedFurther 302 = .ok (.if_icmp .ne 7, 3) := by decide +kernel
theorem dX16_isNamedFurther_305 : decode cX16_isNamedFurther 305 = .ok (.iconst 1, 1) := by decide +kernel
theorem dX16_isNamedFurther_306 : decode cX16_isNamedFurther 306 = .ok (.goto 4, 3) := by decide +kernel
theorem dX16_isNamedFurther_309 : decode cX16_isNamedFurther 309 = .ok (.iconst 0, 1) := by decide +kernel
theorem dX16_isNamedFurther_310 : decode cX16_isNamedFurther 310 = .ok (.ireturn, 1) := by decide +kernel
theorem dX16_isNamedFurther_311 : decode cX16_isNamedFurther 311 = .ok (.lload_n 2, 1) := by decide +kernel
theorem dX16_isNamedFurther_312 : decode cX16_isNamedFurther 312 = .ok (.aload_n 0, 1) := by decide +kernel
theorem dX16_isNamedFurther_313 : decode cX16_isNamedFurther 313 = .ok (.getfield 221, 3) := by decide +kernel
theorem dX16_isNamedFurther_316 : decode cX16_isNamedFurther 316 = .ok (.iconst 1, 1) := by decide +kernel
theorem dX16_isNamedFurther_317 : decode cX16_isNamedFurther 317 = .ok (.invokevirtual 615, 3) := by decide +kernel
theorem dX16_isNamedFurther_320 : decode cX16_isNamedFurther 320 = .ok (.i2l, 1) := by decide +kernel
theorem dX16_isNamedFurther_321 : decode cX16_isNamedFurther 321 = .ok (.lcmp, 1) := by decide +kernel
theorem dX16_isNamedFurther_322 : decode cX16_isNamedFurther 322 = .ok (.ifCond .ge 7, 3) := by decide +kernel
theorem dX16_isNamedFurther_325 : decode cX16_isNamedFurther 325 = .ok (.iconst 1, 1) := by decide +kernel
theorem dX16_isNamedFurther_326 : decode cX16_isNamedFurther 326 = .ok (.goto 4, 3) := by decide +kernel
theorem dX16_isNamedFurther_329 : decode cX16_isNamedFurther 329 = .ok (.iconst 0, 1) := by decide +kernel
theorem dX16_isNamedFurther_330 : decode cX16_isNamedFurther 330 = .ok (.ireturn, 1) := by decide +kernel
theorem dX16_isNamedFurther_331 : decode cX16_isNamedFurther 331 = .ok (.iconst 1, 1) := by decide +kernel
theorem dX16_isNamedFurther_332 : decode cX16_isNamedFurther 332 = .ok (.ireturn, 1) := by decide +kernel
noncomputable def fX16_isNamedFurther_b53 (h : pm_H) (x0 : Nat) (x1 : Int32) (x2 : Int64) (s0 : Int64) : Option (Int32 × pm_H) := if x1 = 8 then (if pm_kd h x0 = 16 then (pm_R h x0 10).bind fun v17 => if pm_kd h v17 = 14 then if ((pm_I h v17 44).toInt64) ≤ x2 then (some ((0, h))) else ((fX14_all h v17 2).bind fun v21 => if v21 ≤ 0 then (some ((0, h))) else (some ((1, h)))) else none else none) else (if x1 = 9 then (if pm_kd h x0 = 16 then (pm_R h x0 10).bind fun v26 => if pm_kd h v26 = 14 then if ((pm_I h v26 44).toInt64) ≤ x2 then (some ((0, h))) else (some ((1, h))) else none else none) else (if x1 = 10 then (if pm_kd h x0 = 16 then (pm_R h x0 10).bind fun v32 => if pm_kd h v32 = 14 then (fX14_all h v32 2).bind fun v35 => if v35 ≤ 0 then (some ((0, h))) else (some ((1, h))) else none else none) else (if x1 = 11 then (if pm_kd h x0 = 16 then (pm_R h x0 10).bind fun v40 => if pm_kd h v40 = 14 then (fX14_all h v40 2).bind fun v43 => if v43 ≤ 0 then (some ((0, h))) else (some ((1, h))) else none else none) else (if x1 = 12 then (if pm_kd h x0 = 16 then (pm_R h x0 10).bind fun v48 => if pm_kd h v48 = 14 then if ((pm_I h v48 34).toInt64) ≤ x2 then (some ((0, h))) else ((fX14_all h v48 1).bind fun v52 => if v52.toInt64 ≤ s0 then (some ((0, h))) else ((pm_R h v48 38).bind fun v55 => if pm_kd h v55 = 34 then if pm_in x2.toInt32 (pm_ln h v55) then (fX14_typeOfTable h v48 s0.toInt32).bind fun v59 => if (pm_I h v55 x2.toInt32.toNatClampNeg) = v59 then (some ((1, h))) else (some ((0, h))) else none else none)) else none else none) else (if x1 = 13 then (if pm_kd h x0 = 16 then (pm_R h x0 10).bind fun v64 => if pm_kd h v64 = 14 then if ((pm_I h v64 34).toInt64) ≤ x2 then (some ((0, h))) else (some ((1, h))) else none else none) else (if x1 = 14 then (if pm_kd h x0 = 16 then (pm_R h x0 10).bind fun v70 => if pm_kd h v70 = 14 then (fX14_all h v70 1).bind fun v73 => if v73.toInt64 ≤ x2 then (some ((0, h))) else ((fX14_all h v70 1).bind fun v76 => if v76.toInt64 ≤ s0 then (some ((0, h))) else ((fX14_typeOfTable h v70 x2.toInt32).bind fun v79 => (fX14_typeOfTable h v70 s0.toInt32).bind fun v81 => if v79 = v81 then (some ((1, h))) else (some ((0, h))))) else none else none) else (if x1 = 15 then (if pm_kd h x0 = 16 then (pm_R h x0 10).bind fun v86 => if pm_kd h v86 = 14 then (fX14_all h v86 1).bind fun v89 => if v89.toInt64 ≤ x2 then (some ((0, h))) else (some ((1, h))) else none else none) else (if x1 = 16 then (if pm_kd h x0 = 16 then (pm_R h x0 10).bind fun v94 => if pm_kd h v94 = 14 then (fX14_all h v94 1).bind fun v97 => if v97.toInt64 ≤ x2 then (some ((0, h))) else (some ((1, h))) else none else none) else (if x1 = 17 then (if pm_kd h x0 = 16 then (pm_R h x0 10).bind fun v102 => if pm_kd h v102 = 14 then (fX14_all h v102 1).bind fun v105 => if v105.toInt64 ≤ x2 then (some ((0, h))) else (some ((1, h))) else none else none) else (some ((1, h))))))))))))
noncomputable def fX16_isNamedFurther_b45 (h : pm_H) (x0 : Nat) (x1 : Int32) (x2 : Int64) : Option (Int32 × pm_H) := if pm_kd h x0 = 16 then (fX16_word h x0).bind fun v13 => fX16_isNamedFurther_b53 v13.2 x0 x1 x2 v13.1 else none
noncomputable def fX16_isNamedFurther_b32 (h : pm_H) (x0 : Nat) (x1 : Int32) (s0 : Int64) : Option (Int32 × pm_H) := if x1 = 12 then (fX16_isNamedFurther_b45 h x0 x1 s0) else (if x1 = 14 then (fX16_isNamedFurther_b45 h x0 x1 s0) else (fX16_isNamedFurther_b53 h x0 x1 s0 0))
noncomputable def fX16_isNamedFurther_b24 (h : pm_H) (x0 : Nat) (x1 : Int32) : Option (Int32 × pm_H) := if pm_kd h x0 = 16 then (fX16_word h x0).bind fun v8 => fX16_isNamedFurther_b32 v8.2 x0 x1 v8.1 else none
noncomputable def fX16_isNamedFurther (h : pm_H) (a0 : Nat) : Option (Int32 × pm_H) := if pm_kd h a0 = 16 then (fX16_word h a0).bind fun v2 => if v2.1.toInt32 = 8 then (fX16_isNamedFurther_b24 v2.2 a0 v2.1.toInt32) else (if v2.1.toInt32 = 9 then (fX16_isNamedFurther_b24 v2.2 a0 v2.1.toInt32) else (if v2.1.toInt32 ≤ 11 then (fX16_isNamedFurther_b32 v2.2 a0 v2.1.toInt32 0) else (fX16_isNamedFurther_b24 v2.2 a0 v2.1.toInt32))) else none
set_option maxHeartbeats 4000000 in
set_option maxRecDepth 100000 in
theorem bX16_isNamedFurther_53 {g : pm_Gm} {l : Launch} {G : pm_Gl} {Qr : Option Value → pm_H → Prop} (C : pm_C g cX16_isNamedFurther RX16) (X : pm_X g l G mX16_isNamedFurther 0 0 Qr) {h : pm_H} {x0 : Nat} {x1 : Int32} {x2 : Int64} {s0 : Int64} {r : (Int32 × pm_H)} (hf : fX16_isNamedFurther_b53 h x0 x1 x2 s0 = some r) (q : Qr (some (.int r.1)) r.2) : pm_G g 53 [(0, .ref x0), (1, .int x1), (2, .long x2)] [.long s0] h 0 0 := by
  unfold fX16_isNamedFurther_b53 at hf
  refine pm_lstore (lv' := [(4, .long s0), (0, .ref x0), (1, .int x1), (2, .long x2)]) C dX16_isNamedFurther_53 (pm_nl X (by decide)) rfl ?_
  refine pm_iload_n C dX16_isNamedFurther_55 rfl rfl ?_
  by_cases c15 : x1 = 8
  · have hf := pm_it hf c15
    refine pm_tableIn (tgt := 112) C dX16_isNamedFurther_56 (by rw [c15]; decide) (by rw [c15]; decide) (by rw [c15]; rfl) (by decide) ?_
    refine pm_lload_n C dX16_isNamedFurther_112 rfl rfl ?_
    refine pm_aload_n C dX16_isNamedFurther_113 rfl rfl ?_
    obtain ⟨k16, hf⟩ := pm_if hf
    obtain ⟨v17, e18, hf⟩ := pm_bd hf
    refine pm_getR C dX16_isNamedFurther_114 flX16_221 rfl k16 e18 ?_
    obtain ⟨k19, hf⟩ := pm_if hf
    refine pm_getI C dX16_isNamedFurther_117 flX16_529 rfl k19 rfl ?_
    refine pm_i2l C dX16_isNamedFurther_120 ?_
    refine pm_lcmp C dX16_isNamedFurther_121 ?_
    refine pm_if_ge (tgt := 140) C dX16_isNamedFurther_122 (by decide) (fun c20 => ?_) (fun c20 => ?_)
    · have hf := pm_it hf ((pm_lg_ge _ _).mp c20)
      refine pm_iconst (v := 0) C dX16_isNamedFurther_140 (by decide) ?_
      cases hf
      exact pm_zret C X dX16_isNamedFurther_141 rfl (by decide) (Nat.le_refl _) (Nat.le_refl _) q
    · have hf := pm_ie hf ((fun z => c20 ((pm_lg_ge _ _).mpr z)))
      refine pm_aload_n C dX16_isNamedFurther_125 rfl rfl ?_
      refine pm_getR C dX16_isNamedFurther_126 flX16_221 rfl k16 e18 ?_
      refine pm_iconst (v := 2) C dX16_isNamedFurther_129 (by decide) ?_
      obtain ⟨v21, e22, hf⟩ := pm_bd hf
      refine pm_callV (as := [.int 2]) (st := []) C X dX16_isNamedFurther_130 lnX16_615 myX14_all viX14_all ⟨by decide, by decide⟩ rfl rfl k19 (Nat.le_of_ble_eq_true rfl) (Nat.le_refl _) (Nat.le_refl _) (ctX14_all e22 ?_)
      show pm_G g 133 [(4, .long s0), (0, .ref x0), (1, .int x1), (2, .long x2)] [.int v21] h 0 0
      refine pm_if_le (tgt := 140) C dX16_isNamedFurther_133 (by decide) (fun c23 => ?_) (fun c23 => ?_)
      · have hf := pm_it hf c23
        refine pm_iconst (v := 0) C dX16_isNamedFurther_140 (by decide) ?_
        cases hf
        exact pm_zret C X dX16_isNamedFurther_141 rfl (by decide) (Nat.le_refl _) (Nat.le_refl _) q
      · have hf := pm_ie hf c23
        refine pm_iconst (v := 1) C dX16_isNamedFurther_136 (by decide) ?_
        refine pm_goto (tgt := 141) C dX16_isNamedFurther_137 (by decide) ?_
        cases hf
        exact pm_zret C X dX16_isNamedFurther_141 rfl (by decide) (Nat.le_refl _) (Nat.le_refl _) q
  have hf := pm_ie hf c15
  by_cases c24 : x1 = 9
  · have hf := pm_it hf c24
    refine pm_tableIn (tgt := 142) C dX16_isNamedFurther_56 (by rw [c24]; decide) (by rw [c24]; decide) (by rw [c24]; rfl) (by decide) ?_
    refine pm_lload_n C dX16_isNamedFurther_142 rfl rfl ?_
    refine pm_aload_n C dX16_isNamedFurther_143 rfl rfl ?_
    obtain ⟨k25, hf⟩ := pm_if hf
    obtain ⟨v26, e27, hf⟩ := pm_bd hf
    refine pm_getR C dX16_isNamedFurther_144 flX16_221 rfl k25 e27 ?_
    obtain ⟨k28, hf⟩ := pm_if hf
    refine pm_getI C dX16_isNamedFurther_147 flX16_529 rfl k28 rfl ?_
    refine pm_i2l C dX16_isNamedFurther_150 ?_
    refine pm_lcmp C dX16_isNamedFurther_151 ?_
    refine pm_if_ge (tgt := 159) C dX16_isNamedFurther_152 (by decide) (fun c29 => ?_) (fun c29 => ?_)
    · have hf := pm_it hf ((pm_lg_ge _ _).mp c29)
      refine pm_iconst (v := 0) C dX16_isNamedFurther_159 (by decide) ?_
      cases hf
      exact pm_zret C X dX16_isNamedFurther_160 rfl (by decide) (Nat.le_refl _) (Nat.le_refl _) q
    · have hf := pm_ie hf ((fun z => c29 ((pm_lg_ge _ _).mpr z)))
      refine pm_iconst (v := 1) C dX16_isNamedFurther_155 (by decide) ?_
      refine pm_goto (tgt := 160) C dX16_isNamedFurther_156 (by decide) ?_
      cases hf
      exact pm_zret C X dX16_isNamedFurther_160 rfl (by decide) (Nat.le_refl _) (Nat.le_refl _) q
  have hf := pm_ie hf c24
  by_cases c30 : x1 = 10
  · have hf := pm_it hf c30
    refine pm_tableIn (tgt := 161) C dX16_isNamedFurther_56 (by rw [c30]; decide) (by rw [c30]; decide) (by rw [c30]; rfl) (by decide) ?_
    refine pm_aload_n C dX16_isNamedFurther_161 rfl rfl ?_
    obtain ⟨k31, hf⟩ := pm_if hf
    obtain ⟨v32, e33, hf⟩ := pm_bd hf
    refine pm_getR C dX16_isNamedFurther_162 flX16_221 rfl k31 e33 ?_
    refine pm_iconst (v := 2) C dX16_isNamedFurther_165 (by decide) ?_
    obtain ⟨k34, hf⟩ := pm_if hf
    obtain ⟨v35, e36, hf⟩ := pm_bd hf
    refine pm_callV (as := [.int 2]) (st := []) C X dX16_isNamedFurther_166 lnX16_615 myX14_all viX14_all ⟨by decide, by decide⟩ rfl rfl k34 (Nat.le_of_ble_eq_true rfl) (Nat.le_refl _) (Nat.le_refl _) (ctX14_all e36 ?_)
    show pm_G g 169 [(4, .long s0), (0, .ref x0), (1, .int x1), (2, .long x2)] [.int v35] h 0 0
    refine pm_if_le (tgt := 176) C dX16_isNamedFurther_169 (by decide) (fun c37 => ?_) (fun c37 => ?_)
    · have hf := pm_it hf c37
      refine pm_iconst (v := 0) C dX16_isNamedFurther_176 (by decide) ?_
      cases hf
      exact pm_zret C X dX16_isNamedFurther_177 rfl (by decide) (Nat.le_refl _) (Nat.le_refl _) q
    · have hf := pm_ie hf c37
      refine pm_iconst (v := 1) C dX16_isNamedFurther_172 (by decide) ?_
      refine pm_goto (tgt := 177) C dX16_isNamedFurther_173 (by decide) ?_
      cases hf
      exact pm_zret C X dX16_isNamedFurther_177 rfl (by decide) (Nat.le_refl _) (Nat.le_refl _) q
  have hf := pm_ie hf c30
  by_cases c38 : x1 = 11
  · have hf := pm_it hf c38
    refine pm_tableIn (tgt := 161) C dX16_isNamedFurther_56 (by rw [c38]; decide) (by rw [c38]; decide) (by rw [c38]; rfl) (by decide) ?_
    refine pm_aload_n C dX16_isNamedFurther_161 rfl rfl ?_
    obtain ⟨k39, hf⟩ := pm_if hf
    obtain ⟨v40, e41, hf⟩ := pm_bd hf
    refine pm_getR C dX16_isNamedFurther_162 flX16_221 rfl k39 e41 ?_
    refine pm_iconst (v := 2) C dX16_isNamedFurther_165 (by decide) ?_
    obtain ⟨k42, hf⟩ := pm_if hf
    obtain ⟨v43, e44, hf⟩ := pm_bd hf
    refine pm_callV (as := [.int 2]) (st := []) C X dX16_isNamedFurther_166 lnX16_615 myX14_all viX14_all ⟨by decide, by decide⟩ rfl rfl k42 (Nat.le_of_ble_eq_true rfl) (Nat.le_refl _) (Nat.le_refl _) (ctX14_all e44 ?_)
    show pm_G g 169 [(4, .long s0), (0, .ref x0), (1, .int x1), (2, .long x2)] [.int v43] h 0 0
    refine pm_if_le (tgt := 176) C dX16_isNamedFurther_169 (by decide) (fun c45 => ?_) (fun c45 => ?_)
    · have hf := pm_it hf c45
      refine pm_iconst (v := 0) C dX16_isNamedFurther_176 (by decide) ?_
      cases hf
      exact pm_zret C X dX16_isNamedFurther_177 rfl (by decide) (Nat.le_refl _) (Nat.le_refl _) q
    · have hf := pm_ie hf c45
      refine pm_iconst (v := 1) C dX16_isNamedFurther_172 (by decide) ?_
      refine pm_goto (tgt := 177) C dX16_isNamedFurther_173 (by decide) ?_
      cases hf
      exact pm_zret C X dX16_isNamedFurther_177 rfl (by decide) (Nat.le_refl _) (Nat.le_refl _) q
  have hf := pm_ie hf c38
  by_cases c46 : x1 = 12
  · have hf := pm_it hf c46
    refine pm_tableIn (tgt := 178) C dX16_isNamedFurther_56 (by rw [c46]; decide) (by rw [c46]; decide) (by rw [c46]; rfl) (by decide) ?_
    refine pm_lload_n C dX16_isNamedFurther_178 rfl rfl ?_
    refine pm_aload_n C dX16_isNamedFurther_179 rfl rfl ?_
    obtain ⟨k47, hf⟩ := pm_if hf
    obtain ⟨v48, e49, hf⟩ := pm_bd hf
    refine pm_getR C dX16_isNamedFurther_180 flX16_221 rfl k47 e49 ?_
    obtain ⟨k50, hf⟩ := pm_if hf
    refine pm_getI C dX16_isNamedFurther_183 flX16_481 rfl k50 rfl ?_
    refine pm_i2l C dX16_isNamedFurther_186 ?_
    refine pm_lcmp C dX16_isNamedFurther_187 ?_
    refine pm_if_ge (tgt := 233) C dX16_isNamedFurther_188 (by decide) (fun c51 => ?_) (fun c51 => ?_)
    · have hf := pm_it hf ((pm_lg_ge _ _).mp c51)
      refine pm_iconst (v := 0) C dX16_isNamedFurther_233 (by decide) ?_
      cases hf
      exact pm_zret C X dX16_isNamedFurther_234 rfl (by decide) (Nat.le_refl _) (Nat.le_refl _) q
    · have hf := pm_ie hf ((fun z => c51 ((pm_lg_ge _ _).mpr z)))
      refine pm_lload C dX16_isNamedFurther_191 rfl ?_
      refine pm_aload_n C dX16_isNamedFurther_193 rfl rfl ?_
      refine pm_getR C dX16_isNamedFurther_194 flX16_221 rfl k47 e49 ?_
      refine pm_iconst (v := 1) C dX16_isNamedFurther_197 (by decide) ?_
      obtain ⟨v52, e53, hf⟩ := pm_bd hf
      refine pm_callV (as := [.int 1]) (st := [.long s0]) C X dX16_isNamedFurther_198 lnX16_615 myX14_all viX14_all ⟨by decide, by decide⟩ rfl rfl k50 (Nat.le_of_ble_eq_true rfl) (Nat.le_refl _) (Nat.le_refl _) (ctX14_all e53 ?_)
      show pm_G g 201 [(4, .long s0), (0, .ref x0), (1, .int x1), (2, .long x2)] [.int v52, .long s0] h 0 0
      refine pm_i2l C dX16_isNamedFurther_201 ?_
      refine pm_lcmp C dX16_isNamedFurther_202 ?_
      refine pm_if_ge (tgt := 233) C dX16_isNamedFurther_203 (by decide) (fun c54 => ?_) (fun c54 => ?_)
      · have hf := pm_it hf ((pm_lg_ge _ _).mp c54)
        refine pm_iconst (v := 0) C dX16_isNamedFurther_233 (by decide) ?_
        cases hf
        exact pm_zret C X dX16_isNamedFurther_234 rfl (by decide) (Nat.le_refl _) (Nat.le_refl _) q
      · have hf := pm_ie hf ((fun z => c54 ((pm_lg_ge _ _).mpr z)))
        refine pm_aload_n C dX16_isNamedFurther_206 rfl rfl ?_
        refine pm_getR C dX16_isNamedFurther_207 flX16_221 rfl k47 e49 ?_
        obtain ⟨v55, e56, hf⟩ := pm_bd hf
        refine pm_getR C dX16_isNamedFurther_210 flX16_501 rfl k50 e56 ?_
        refine pm_lload_n C dX16_isNamedFurther_213 rfl rfl ?_
        refine pm_l2i C dX16_isNamedFurther_214 ?_
        obtain ⟨k57, hf⟩ := pm_if hf
        obtain ⟨u58, hf⟩ := pm_if hf
        refine pm_iald C dX16_isNamedFurther_215 k57 u58 rfl ?_
        refine pm_aload_n C dX16_isNamedFurther_216 rfl rfl ?_
        refine pm_getR C dX16_isNamedFurther_217 flX16_221 rfl k47 e49 ?_
        refine pm_lload C dX16_isNamedFurther_220 rfl ?_
        refine pm_l2i C dX16_isNamedFurther_222 ?_
        obtain ⟨v59, e60, hf⟩ := pm_bd hf
        refine pm_callV (as := [.int s0.toInt32]) (st := [.int (pm_I h v55 x2.toInt32.toNatClampNeg)]) C X dX16_isNamedFurther_223 lnX16_661 myX14_typeOfTable viX14_typeOfTable ⟨by decide, by decide⟩ rfl rfl k50 (Nat.le_of_ble_eq_true rfl) (Nat.le_refl _) (Nat.le_refl _) (ctX14_typeOfTable e60 ?_)
        show pm_G g 226 [(4, .long s0), (0, .ref x0), (1, .int x1), (2, .long x2)] [.int v59, .int (pm_I h v55 x2.toInt32.toNatClampNeg)] h 0 0
        refine pm_icmp_ne (tgt := 233) C dX16_isNamedFurther_226 (by decide) (fun c61 => ?_) (fun c61 => ?_)
        · have hf := pm_ie hf c61
          refine pm_iconst (v := 0) C dX16_isNamedFurther_233 (by decide) ?_
          cases hf
          exact pm_zret C X dX16_isNamedFurther_234 rfl (by decide) (Nat.le_refl _) (Nat.le_refl _) q
        · have hf := pm_it hf c61
          refine pm_iconst (v := 1) C dX16_isNamedFurther_229 (by decide) ?_
          refine pm_goto (tgt := 234) C dX16_isNamedFurther_230 (by decide) ?_
          cases hf
          exact pm_zret C X dX16_isNamedFurther_234 rfl (by decide) (Nat.le_refl _) (Nat.le_refl _) q
  have hf := pm_ie hf c46
  by_cases c62 : x1 = 13
  · have hf := pm_it hf c62
    refine pm_tableIn (tgt := 235) C dX16_isNamedFurther_56 (by rw [c62]; decide) (by rw [c62]; decide) (by rw [c62]; rfl) (by decide) ?_
    refine pm_lload_n C dX16_isNamedFurther_235 rfl rfl ?_
    refine pm_aload_n C dX16_isNamedFurther_236 rfl rfl ?_
    obtain ⟨k63, hf⟩ := pm_if hf
    obtain ⟨v64, e65, hf⟩ := pm_bd hf
    refine pm_getR C dX16_isNamedFurther_237 flX16_221 rfl k63 e65 ?_
    obtain ⟨k66, hf⟩ := pm_if hf
    refine pm_getI C dX16_isNamedFurther_240 flX16_481 rfl k66 rfl ?_
    refine pm_i2l C dX16_isNamedFurther_243 ?_
    refine pm_lcmp C dX16_isNamedFurther_244 ?_
    refine pm_if_ge (tgt := 252) C dX16_isNamedFurther_245 (by decide) (fun c67 => ?_) (fun c67 => ?_)
    · have hf := pm_it hf ((pm_lg_ge _ _).mp c67)
      refine pm_iconst (v := 0) C dX16_isNamedFurther_252 (by decide) ?_
      cases hf
      exact pm_zret C X dX16_isNamedFurther_253 rfl (by decide) (Nat.le_refl _) (Nat.le_refl _) q
    · have hf := pm_ie hf ((fun z => c67 ((pm_lg_ge _ _).mpr z)))
      refine pm_iconst (v := 1) C dX16_isNamedFurther_248 (by decide) ?_
      refine pm_goto (tgt := 253) C dX16_isNamedFurther_249 (by decide) ?_
      cases hf
      exact pm_zret C X dX16_isNamedFurther_253 rfl (by decide) (Nat.le_refl _) (Nat.le_refl _) q
  have hf := pm_ie hf c62
  by_cases c68 : x1 = 14
  · have hf := pm_it hf c68
    refine pm_tableIn (tgt := 254) C dX16_isNamedFurther_56 (by rw [c68]; decide) (by rw [c68]; decide) (by rw [c68]; rfl) (by decide) ?_
    refine pm_lload_n C dX16_isNamedFurther_254 rfl rfl ?_
    refine pm_aload_n C dX16_isNamedFurther_255 rfl rfl ?_
    obtain ⟨k69, hf⟩ := pm_if hf
    obtain ⟨v70, e71, hf⟩ := pm_bd hf
    refine pm_getR C dX16_isNamedFurther_256 flX16_221 rfl k69 e71 ?_
    refine pm_iconst (v := 1) C dX16_isNamedFurther_259 (by decide) ?_
    obtain ⟨k72, hf⟩ := pm_if hf
    obtain ⟨v73, e74, hf⟩ := pm_bd hf
    refine pm_callV (as := [.int 1]) (st := [.long x2]) C X dX16_isNamedFurther_260 lnX16_615 myX14_all viX14_all ⟨by decide, by decide⟩ rfl rfl k72 (Nat.le_of_ble_eq_true rfl) (Nat.le_refl _) (Nat.le_refl _) (ctX14_all e74 ?_)
    show pm_G g 263 [(4, .long s0), (0, .ref x0), (1, .int x1), (2, .long x2)] [.int v73, .long x2] h 0 0
    refine pm_i2l C dX16_isNamedFurther_263 ?_
    refine pm_lcmp C dX16_isNamedFurther_264 ?_
    refine pm_if_ge (tgt := 309) C dX16_isNamedFurther_265 (by decide) (fun c75 => ?_) (fun c75 => ?_)
    · have hf := pm_it hf ((pm_lg_ge _ _).mp c75)
      refine pm_iconst (v := 0) C dX16_isNamedFurther_309 (by decide) ?_
      cases hf
      exact pm_zret C X dX16_isNamedFurther_310 rfl (by decide) (Nat.le_refl _) (Nat.le_refl _) q
    · have hf := pm_ie hf ((fun z => c75 ((pm_lg_ge _ _).mpr z)))
      refine pm_lload C dX16_isNamedFurther_268 rfl ?_
      refine pm_aload_n C dX16_isNamedFurther_270 rfl rfl ?_
      refine pm_getR C dX16_isNamedFurther_271 flX16_221 rfl k69 e71 ?_
      refine pm_iconst (v := 1) C dX16_isNamedFurther_274 (by decide) ?_
      obtain ⟨v76, e77, hf⟩ := pm_bd hf
      refine pm_callV (as := [.int 1]) (st := [.long s0]) C X dX16_isNamedFurther_275 lnX16_615 myX14_all viX14_all ⟨by decide, by decide⟩ rfl rfl k72 (Nat.le_of_ble_eq_true rfl) (Nat.le_refl _) (Nat.le_refl _) (ctX14_all e77 ?_)
      show pm_G g 278 [(4, .long s0), (0, .ref x0), (1, .int x1), (2, .long x2)] [.int v76, .long s0] h 0 0
      refine pm_i2l C dX16_isNamedFurther_278 ?_
      refine pm_lcmp C dX16_isNamedFurther_279 ?_
      refine pm_if_ge (tgt := 309) C dX16_isNamedFurther_280 (by decide) (fun c78 => ?_) (fun c78 => ?_)
      · have hf := pm_it hf ((pm_lg_ge _ _).mp c78)
        refine pm_iconst (v := 0) C dX16_isNamedFurther_309 (by decide) ?_
        cases hf
        exact pm_zret C X dX16_isNamedFurther_310 rfl (by decide) (Nat.le_refl _) (Nat.le_refl _) q
      · have hf := pm_ie hf ((fun z => c78 ((pm_lg_ge _ _).mpr z)))
        refine pm_aload_n C dX16_isNamedFurther_283 rfl rfl ?_
        refine pm_getR C dX16_isNamedFurther_284 flX16_221 rfl k69 e71 ?_
        refine pm_lload_n C dX16_isNamedFurther_287 rfl rfl ?_
        refine pm_l2i C dX16_isNamedFurther_288 ?_
        obtain ⟨v79, e80, hf⟩ := pm_bd hf
        refine pm_callV (as := [.int x2.toInt32]) (st := []) C X dX16_isNamedFurther_289 lnX16_661 myX14_typeOfTable viX14_typeOfTable ⟨by decide, by decide⟩ rfl rfl k72 (Nat.le_of_ble_eq_true rfl) (Nat.le_refl _) (Nat.le_refl _) (ctX14_typeOfTable e80 ?_)
        show pm_G g 292 [(4, .long s0), (0, .ref x0), (1, .int x1), (2, .long x2)] [.int v79] h 0 0
        refine pm_aload_n C dX16_isNamedFurther_292 rfl rfl ?_
        refine pm_getR C dX16_isNamedFurther_293 flX16_221 rfl k69 e71 ?_
        refine pm_lload C dX16_isNamedFurther_296 rfl ?_
        refine pm_l2i C dX16_isNamedFurther_298 ?_
        obtain ⟨v81, e82, hf⟩ := pm_bd hf
        refine pm_callV (as := [.int s0.toInt32]) (st := [.int v79]) C X dX16_isNamedFurther_299 lnX16_661 myX14_typeOfTable viX14_typeOfTable ⟨by decide, by decide⟩ rfl rfl k72 (Nat.le_of_ble_eq_true rfl) (Nat.le_refl _) (Nat.le_refl _) (ctX14_typeOfTable e82 ?_)
        show pm_G g 302 [(4, .long s0), (0, .ref x0), (1, .int x1), (2, .long x2)] [.int v81, .int v79] h 0 0
        refine pm_icmp_ne (tgt := 309) C dX16_isNamedFurther_302 (by decide) (fun c83 => ?_) (fun c83 => ?_)
        · have hf := pm_ie hf c83
          refine pm_iconst (v := 0) C dX16_isNamedFurther_309 (by decide) ?_
          cases hf
          exact pm_zret C X dX16_isNamedFurther_310 rfl (by decide) (Nat.le_refl _) (Nat.le_refl _) q
        · have hf := pm_it hf c83
          refine pm_iconst (v := 1) C dX16_isNamedFurther_305 (by decide) ?_
          refine pm_goto (tgt := 310) C dX16_isNamedFurther_306 (by decide) ?_
          cases hf
          exact pm_zret C X dX16_isNamedFurther_310 rfl (by decide) (Nat.le_refl _) (Nat.le_refl _) q
  have hf := pm_ie hf c68
  by_cases c84 : x1 = 15
  · have hf := pm_it hf c84
    refine pm_tableIn (tgt := 311) C dX16_isNamedFurther_56 (by rw [c84]; decide) (by rw [c84]; decide) (by rw [c84]; rfl) (by decide) ?_
    refine pm_lload_n C dX16_isNamedFurther_311 rfl rfl ?_
    refine pm_aload_n C dX16_isNamedFurther_312 rfl rfl ?_
    obtain ⟨k85, hf⟩ := pm_if hf
    obtain ⟨v86, e87, hf⟩ := pm_bd hf
    refine pm_getR C dX16_isNamedFurther_313 flX16_221 rfl k85 e87 ?_
    refine pm_iconst (v := 1) C dX16_isNamedFurther_316 (by decide) ?_
    obtain ⟨k88, hf⟩ := pm_if hf
    obtain ⟨v89, e90, hf⟩ := pm_bd hf
    refine pm_callV (as := [.int 1]) (st := [.long x2]) C X dX16_isNamedFurther_317 lnX16_615 myX14_all viX14_all ⟨by decide, by decide⟩ rfl rfl k88 (Nat.le_of_ble_eq_true rfl) (Nat.le_refl _) (Nat.le_refl _) (ctX14_all e90 ?_)
    show pm_G g 320 [(4, .long s0), (0, .ref x0), (1, .int x1), (2, .long x2)] [.int v89, .long x2] h 0 0
    refine pm_i2l C dX16_isNamedFurther_320 ?_
    refine pm_lcmp C dX16_isNamedFurther_321 ?_
    refine pm_if_ge (tgt := 329) C dX16_isNamedFurther_322 (by decide) (fun c91 => ?_) (fun c91 => ?_)
    · have hf := pm_it hf ((pm_lg_ge _ _).mp c91)
      refine pm_iconst (v := 0) C dX16_isNamedFurther_329 (by decide) ?_
      cases hf
      exact pm_zret C X dX16_isNamedFurther_330 rfl (by decide) (Nat.le_refl _) (Nat.le_refl _) q
    · have hf := pm_ie hf ((fun z => c91 ((pm_lg_ge _ _).mpr z)))
      refine pm_iconst (v := 1) C dX16_isNamedFurther_325 (by decide) ?_
      refine pm_goto (tgt := 330) C dX16_isNamedFurther_326 (by decide) ?_
      cases hf
      exact pm_zret C X dX16_isNamedFurther_330 rfl (by decide) (Nat.le_refl _) (Nat.le_refl _) q
  have hf := pm_ie hf c84
  by_cases c92 : x1 = 16
  · have hf := pm_it hf c92
    refine pm_tableIn (tgt := 311) C dX16_isNamedFurther_56 (by rw [c92]; decide) (by rw [c92]; decide) (by rw [c92]; rfl) (by decide) ?_
    refine pm_lload_n C dX16_isNamedFurther_311 rfl rfl ?_
    refine pm_aload_n C dX16_isNamedFurther_312 rfl rfl ?_
    obtain ⟨k93, hf⟩ := pm_if hf
    obtain ⟨v94, e95, hf⟩ := pm_bd hf
    refine pm_getR C dX16_isNamedFurther_313 flX16_221 rfl k93 e95 ?_
    refine pm_iconst (v := 1) C dX16_isNamedFurther_316 (by decide) ?_
    obtain ⟨k96, hf⟩ := pm_if hf
    obtain ⟨v97, e98, hf⟩ := pm_bd hf
    refine pm_callV (as := [.int 1]) (st := [.long x2]) C X dX16_isNamedFurther_317 lnX16_615 myX14_all viX14_all ⟨by decide, by decide⟩ rfl rfl k96 (Nat.le_of_ble_eq_true rfl) (Nat.le_refl _) (Nat.le_refl _) (ctX14_all e98 ?_)
    show pm_G g 320 [(4, .long s0), (0, .ref x0), (1, .int x1), (2, .long x2)] [.int v97, .long x2] h 0 0
    refine pm_i2l C dX16_isNamedFurther_320 ?_
    refine pm_lcmp C dX16_isNamedFurther_321 ?_
    refine pm_if_ge (tgt := 329) C dX16_isNamedFurther_322 (by decide) (fun c99 => ?_) (fun c99 => ?_)
    · have hf := pm_it hf ((pm_lg_ge _ _).mp c99)
      refine pm_iconst (v := 0) C dX16_isNamedFurther_329 (by decide) ?_
      cases hf
      exact pm_zret C X dX16_isNamedFurther_330 rfl (by decide) (Nat.le_refl _) (Nat.le_refl _) q
    · have hf := pm_ie hf ((fun z => c99 ((pm_lg_ge _ _).mpr z)))
      refine pm_iconst (v := 1) C dX16_isNamedFurther_325 (by decide) ?_
      refine pm_goto (tgt := 330) C dX16_isNamedFurther_326 (by decide) ?_
      cases hf
      exact pm_zret C X dX16_isNamedFurther_330 rfl (by decide) (Nat.le_refl _) (Nat.le_refl _) q
  have hf := pm_ie hf c92
  by_cases c100 : x1 = 17
  · have hf := pm_it hf c100
    refine pm_tableIn (tgt := 311) C dX16_isNamedFurther_56 (by rw [c100]; decide) (by rw [c100]; decide) (by rw [c100]; rfl) (by decide) ?_
    refine pm_lload_n C dX16_isNamedFurther_311 rfl rfl ?_
    refine pm_aload_n C dX16_isNamedFurther_312 rfl rfl ?_
    obtain ⟨k101, hf⟩ := pm_if hf
    obtain ⟨v102, e103, hf⟩ := pm_bd hf
    refine pm_getR C dX16_isNamedFurther_313 flX16_221 rfl k101 e103 ?_
    refine pm_iconst (v := 1) C dX16_isNamedFurther_316 (by decide) ?_
    obtain ⟨k104, hf⟩ := pm_if hf
    obtain ⟨v105, e106, hf⟩ := pm_bd hf
    refine pm_callV (as := [.int 1]) (st := [.long x2]) C X dX16_isNamedFurther_317 lnX16_615 myX14_all viX14_all ⟨by decide, by decide⟩ rfl rfl k104 (Nat.le_of_ble_eq_true rfl) (Nat.le_refl _) (Nat.le_refl _) (ctX14_all e106 ?_)
    show pm_G g 320 [(4, .long s0), (0, .ref x0), (1, .int x1), (2, .long x2)] [.int v105, .long x2] h 0 0
    refine pm_i2l C dX16_isNamedFurther_320 ?_
    refine pm_lcmp C dX16_isNamedFurther_321 ?_
    refine pm_if_ge (tgt := 329) C dX16_isNamedFurther_322 (by decide) (fun c107 => ?_) (fun c107 => ?_)
    · have hf := pm_it hf ((pm_lg_ge _ _).mp c107)
      refine pm_iconst (v := 0) C dX16_isNamedFurther_329 (by decide) ?_
      cases hf
      exact pm_zret C X dX16_isNamedFurther_330 rfl (by decide) (Nat.le_refl _) (Nat.le_refl _) q
    · have hf := pm_ie hf ((fun z => c107 ((pm_lg_ge _ _).mpr z)))
      refine pm_iconst (v := 1) C dX16_isNamedFurther_325 (by decide) ?_
      refine pm_goto (tgt := 330) C dX16_isNamedFurther_326 (by decide) ?_
      cases hf
      exact pm_zret C X dX16_isNamedFurther_330 rfl (by decide) (Nat.le_refl _) (Nat.le_refl _) q
  have hf := pm_ie hf c100
  have nc15 := lv_neT c15 (by decide : (8 : Int32).toInt = 8)
  have nc24 := lv_neT c24 (by decide : (9 : Int32).toInt = 9)
  have nc30 := lv_neT c30 (by decide : (10 : Int32).toInt = 10)
  have nc38 := lv_neT c38 (by decide : (11 : Int32).toInt = 11)
  have nc46 := lv_neT c46 (by decide : (12 : Int32).toInt = 12)
  have nc62 := lv_neT c62 (by decide : (13 : Int32).toInt = 13)
  have nc68 := lv_neT c68 (by decide : (14 : Int32).toInt = 14)
  have nc84 := lv_neT c84 (by decide : (15 : Int32).toInt = 15)
  have nc92 := lv_neT c92 (by decide : (16 : Int32).toInt = 16)
  have nc100 := lv_neT c100 (by decide : (17 : Int32).toInt = 17)
  refine pm_tableOut (tgt := 331) C dX16_isNamedFurther_56 (by omega) (by decide) ?_
  refine pm_iconst (v := 1) C dX16_isNamedFurther_331 (by decide) ?_
  cases hf
  exact pm_zret C X dX16_isNamedFurther_332 rfl (by decide) (Nat.le_refl _) (Nat.le_refl _) q
set_option maxHeartbeats 4000000 in
set_option maxRecDepth 100000 in
theorem bX16_isNamedFurther_45 {g : pm_Gm} {l : Launch} {G : pm_Gl} {Qr : Option Value → pm_H → Prop} (C : pm_C g cX16_isNamedFurther RX16) (X : pm_X g l G mX16_isNamedFurther 0 0 Qr) {h : pm_H} {x0 : Nat} {x1 : Int32} {x2 : Int64} {r : (Int32 × pm_H)} (hf : fX16_isNamedFurther_b45 h x0 x1 x2 = some r) (q : Qr (some (.int r.1)) r.2) : pm_G g 45 [(0, .ref x0), (1, .int x1), (2, .long x2)] [] h 0 0 := by
  unfold fX16_isNamedFurther_b45 at hf
  refine pm_aload_n C dX16_isNamedFurther_45 rfl rfl ?_
  obtain ⟨k12, hf⟩ := pm_if hf
  obtain ⟨v13, e14, hf⟩ := pm_bd hf
  refine pm_callV (as := []) (st := []) C X dX16_isNamedFurther_46 lnX16_603 myX16_word viX16_word ⟨by decide, by decide⟩ rfl rfl k12 (Nat.le_of_ble_eq_true rfl) (Nat.le_refl _) (Nat.le_refl _) (ctX16_word e14 ?_)
  show pm_G g 49 [(0, .ref x0), (1, .int x1), (2, .long x2)] [.long v13.1] v13.2 0 0
  refine pm_goto (tgt := 53) C dX16_isNamedFurther_49 (by decide) ?_
  exact pm_sub [0, 1, 2] rfl (bX16_isNamedFurther_53 C X hf q)
set_option maxHeartbeats 4000000 in
set_option maxRecDepth 100000 in
theorem bX16_isNamedFurther_32 {g : pm_Gm} {l : Launch} {G : pm_Gl} {Qr : Option Value → pm_H → Prop} (C : pm_C g cX16_isNamedFurther RX16) (X : pm_X g l G mX16_isNamedFurther 0 0 Qr) {h : pm_H} {x0 : Nat} {x1 : Int32} {s0 : Int64} {r : (Int32 × pm_H)} (hf : fX16_isNamedFurther_b32 h x0 x1 s0 = some r) (q : Qr (some (.int r.1)) r.2) : pm_G g 32 [(0, .ref x0), (1, .int x1)] [.long s0] h 0 0 := by
  unfold fX16_isNamedFurther_b32 at hf
  refine pm_lstore_n (lv' := [(2, .long s0), (0, .ref x0), (1, .int x1)]) C dX16_isNamedFurther_32 rfl (pm_nl X (by decide)) rfl ?_
  refine pm_iload_n C dX16_isNamedFurther_33 rfl rfl ?_
  refine pm_bipush (v := 12) C dX16_isNamedFurther_34 (by decide) ?_
  refine pm_icmp_eq (tgt := 45) C dX16_isNamedFurther_36 (by decide) (fun c10 => ?_) (fun c10 => ?_)
  · have hf := pm_it hf c10
    exact pm_sub [1, 2, 0] rfl (bX16_isNamedFurther_45 C X hf q)
  · have hf := pm_ie hf c10
    refine pm_iload_n C dX16_isNamedFurther_39 rfl rfl ?_
    refine pm_bipush (v := 14) C dX16_isNamedFurther_40 (by decide) ?_
    refine pm_icmp_ne (tgt := 52) C dX16_isNamedFurther_42 (by decide) (fun c11 => ?_) (fun c11 => ?_)
    · have hf := pm_ie hf c11
      refine pm_lconst (v := 0) C dX16_isNamedFurther_52 (by decide) ?_
      exact pm_sub [1, 2, 0] rfl (bX16_isNamedFurther_53 C X hf q)
    · have hf := pm_it hf c11
      exact pm_sub [1, 2, 0] rfl (bX16_isNamedFurther_45 C X hf q)
set_option maxHeartbeats 4000000 in
set_option maxRecDepth 100000 in
theorem bX16_isNamedFurther_24 {g : pm_Gm} {l : Launch} {G : pm_Gl} {Qr : Option Value → pm_H → Prop} (C : pm_C g cX16_isNamedFurther RX16) (X : pm_X g l G mX16_isNamedFurther 0 0 Qr) {h : pm_H} {x0 : Nat} {x1 : Int32} {r : (Int32 × pm_H)} (hf : fX16_isNamedFurther_b24 h x0 x1 = some r) (q : Qr (some (.int r.1)) r.2) : pm_G g 24 [(0, .ref x0), (1, .int x1)] [] h 0 0 := by
  unfold fX16_isNamedFurther_b24 at hf
  refine pm_aload_n C dX16_isNamedFurther_24 rfl rfl ?_
  obtain ⟨k7, hf⟩ := pm_if hf
  obtain ⟨v8, e9, hf⟩ := pm_bd hf
  refine pm_callV (as := []) (st := []) C X dX16_isNamedFurther_25 lnX16_603 myX16_word viX16_word ⟨by decide, by decide⟩ rfl rfl k7 (Nat.le_of_ble_eq_true rfl) (Nat.le_refl _) (Nat.le_refl _) (ctX16_word e9 ?_)
  show pm_G g 28 [(0, .ref x0), (1, .int x1)] [.long v8.1] v8.2 0 0
  refine pm_goto (tgt := 32) C dX16_isNamedFurther_28 (by decide) ?_
  exact pm_sub [0, 1] rfl (bX16_isNamedFurther_32 C X hf q)
set_option maxHeartbeats 4000000 in
set_option maxRecDepth 100000 in
theorem ctX16_isNamedFurther {l : Launch} {G : pm_Gl} {h : pm_H} {a0 : Nat} {r : (Int32 × pm_H)} {Qr : Option Value → pm_H → Prop} (hf : fX16_isNamedFurther h a0 = some r) (q : Qr (some (.int r.1)) r.2) : pm_Ct l G mX16_isNamedFurther [.ref a0] h 0 0 Qr := by
  refine pm_body pnX16 (Nat.le_of_ble_eq_true rfl) (fun g C X => ?_)
  have C : pm_C g cX16_isNamedFurther RX16 := C
  show pm_G g 0 [(0, .ref a0)] [] h 0 0
  unfold fX16_isNamedFurther at hf
  refine pm_aload_n C dX16_isNamedFurther_0 rfl rfl ?_
  obtain ⟨k1, hf⟩ := pm_if hf
  obtain ⟨v2, e3, hf⟩ := pm_bd hf
  refine pm_callV (as := []) (st := []) C X dX16_isNamedFurther_1 lnX16_603 myX16_word viX16_word ⟨by decide, by decide⟩ rfl rfl k1 (Nat.le_of_ble_eq_true rfl) (Nat.le_refl _) (Nat.le_refl _) (ctX16_word e3 ?_)
  show pm_G g 4 [(0, .ref a0)] [.long v2.1] v2.2 0 0
  refine pm_l2i C dX16_isNamedFurther_4 ?_
  refine pm_istore_n (lv' := [(1, .int v2.1.toInt32), (0, .ref a0)]) C dX16_isNamedFurther_5 rfl (pm_nl X (by decide)) rfl ?_
  refine pm_iload_n C dX16_isNamedFurther_6 rfl rfl ?_
  refine pm_bipush (v := 8) C dX16_isNamedFurther_7 (by decide) ?_
  refine pm_icmp_eq (tgt := 24) C dX16_isNamedFurther_9 (by decide) (fun c4 => ?_) (fun c4 => ?_)
  · have hf := pm_it hf c4
    exact pm_sub [1, 0] rfl (bX16_isNamedFurther_24 C X hf q)
  · have hf := pm_ie hf c4
    refine pm_iload_n C dX16_isNamedFurther_12 rfl rfl ?_
    refine pm_bipush (v := 9) C dX16_isNamedFurther_13 (by decide) ?_
    refine pm_icmp_eq (tgt := 24) C dX16_isNamedFurther_15 (by decide) (fun c5 => ?_) (fun c5 => ?_)
    · have hf := pm_it hf c5
      exact pm_sub [1, 0] rfl (bX16_isNamedFurther_24 C X hf q)
    · have hf := pm_ie hf c5
      refine pm_iload_n C dX16_isNamedFurther_18 rfl rfl ?_
      refine pm_bipush (v := 11) C dX16_isNamedFurther_19 (by decide) ?_
      refine pm_icmp_le (tgt := 31) C dX16_isNamedFurther_21 (by decide) (fun c6 => ?_) (fun c6 => ?_)
      · have hf := pm_it hf c6
        refine pm_lconst (v := 0) C dX16_isNamedFurther_31 (by decide) ?_
        exact pm_sub [1, 0] rfl (bX16_isNamedFurther_32 C X hf q)
      · have hf := pm_ie hf c6
        exact pm_sub [1, 0] rfl (bX16_isNamedFurther_24 C X hf q)
theorem dX16_localType_0 : decode cX16_localType 0 = .ok (.aload_n 0, 1) := by decide +kernel
theorem dX16_localType_1 : decode cX16_localType 1 = .ok (.getfield 221, 3) := by decide +kernel
theorem dX16_localType_4 : decode cX16_localType 4 = .ok (.getfield 387, 3) := by decide +kernel
theorem dX16_localType_7 : decode cX16_localType 7 = .ok (.iload_n 2, 1) := by decide +kernel
theorem dX16_localType_8 : decode cX16_localType 8 = .ok (.iaload, 1) := by decide +kernel
theorem dX16_localType_9 : decode cX16_localType 9 = .ok (.istore 5, 2) := by decide +kernel
theorem dX16_localType_11 : decode cX16_localType 11 = .ok (.lload_n 3, 1) := by decide +kernel
theorem dX16_localType_12 : decode cX16_localType 12 = .ok (.iload 5, 2) := by decide +kernel
theorem dX16_localType_14 : decode cX16_localType 14 = .ok (.i2l, 1) := by decide +kernel
theorem dX16_localType_15 : decode cX16_localType 15 = .ok (.lcmp, 1) := by decide +kernel
theorem dX16_localType_16 : decode cX16_localType 16 = .ok (.ifCond .ge 12, 3) := by decide +kernel
theorem dX16_localType_19 : decode cX16_localType 19 = .ok (.aload_n 0, 1) := by decide +kernel
theorem dX16_localType_20 : decode cX16_localType 20 = .ok (.iload_n 2, 1) := by decide +kernel
theorem dX16_localType_21 : decode cX16_localType 21 = .ok (.i2l, 1) := by decide +kernel
theorem dX16_localType_22 : decode cX16_localType 22 = .ok (.lload_n 3, 1) := by decide +kernel
theorem dX16_localType_23 : decode cX16_localType 23 = .ok (.l2i, 1) := by decide +kernel
theorem dX16_localType_24 : decode cX16_localType 24 = .ok (.invokevirtual 678, 3) := by decide +kernel
theorem dX16_localType_27 : decode cX16_localType 27 = .ok (.ireturn, 1) := by decide +kernel
theorem dX16_localType_28 : decode cX16_localType 28 = .ok (.aload_n 0, 1) := by decide +kernel
theorem dX16_localType_29 : decode cX16_localType 29 = .ok (.aload_n 0, 1) := by decide +kernel
theorem dX16_localType_30 : decode cX16_localType 30 = .ok (.getfield 221, 3) := by decide +kernel
theorem dX16_localType_33 : decode cX16_localType 33 = .ok (.getfield 517, 3) := by decide +kernel
theorem dX16_localType_36 : decode cX16_localType 36 = .ok (.iload_n 1, 1) := by decide +kernel
theorem dX16_localType_37 : decode cX16_localType 37 = .ok (.iaload, 1) := by decide +kernel
theorem dX16_localType_38 : decode cX16_localType 38 = .ok (.putfield 594, 3) := by decide +kernel
theorem dX16_localType_41 : decode cX16_localType 41 = .ok (.aload_n 0, 1) := by decide +kernel
theorem dX16_localType_42 : decode cX16_localType 42 = .ok (.invokevirtual 603, 3) := by decide +kernel
theorem dX16_localType_45 : decode cX16_localType 45 = .ok (.lstore 6, 2) := by decide +kernel
theorem dX16_localType_47 : decode cX16_localType 47 = .ok (.iload 5, 2) := by decide +kernel
theorem dX16_localType_49 : decode cX16_localType 49 = .ok (.i2l, 1) := by decide +kernel
theorem dX16_localType_50 : decode cX16_localType 50 = .ok (.lstore 8, 2) := by decide +kernel
theorem dX16_localType_52 : decode cX16_localType 52 = .ok (.lconst 0, 1) := by decide +kernel
theorem dX16_localType_53 : decode cX16_localType 53 = .ok (.lstore 10, 2) := by decide +kernel
theorem dX16_localType_55 : decode cX16_localType 55 = .ok (.lload 10, 2) := by decide +kernel
theorem dX16_localType_57 : decode cX16_localType 57 = .ok (.lload 6, 2) := by decide +kernel
theorem dX16_localType_59 : decode cX16_localType 59 = .ok (.lcmp, 1) := by decide +kernel
theorem dX16_localType_60 : decode cX16_localType 60 = .ok (.ifCond .ge 61, 3) := by decide +kernel
theorem dX16_localType_63 : decode cX16_localType 63 = .ok (.aload_n 0, 1) := by decide +kernel
theorem dX16_localType_64 : decode cX16_localType 64 = .ok (.invokevirtual 603, 3) := by decide +kernel
theorem dX16_localType_67 : decode cX16_localType 67 = .ok (.lstore 12, 2) := by decide +kernel
theorem dX16_localType_69 : decode cX16_localType 69 = .ok (.aload_n 0, 1) := by decide +kernel
theorem dX16_localType_70 : decode cX16_localType 70 = .ok (.getfield 221, 3) := by decide +kernel
theorem dX16_localType_73 : decode cX16_localType 73 = .ok (.aload_n 0, 1) := by decide +kernel
theorem dX16_localType_74 : decode cX16_localType 74 = .ok (.getfield 594, 3) := by decide +kernel
theorem dX16_localType_77 : decode cX16_localType 77 = .ok (.invokevirtual 261, 3) := by decide +kernel
theorem dX16_localType_80 : decode cX16_localType 80 = .ok (.istore 14, 2) := by decide +kernel
theorem dX16_localType_82 : decode cX16_localType 82 = .ok (.aload_n 0, 1) := by decide +kernel
theorem dX16_localType_83 : decode cX16_localType 83 = .ok (.dup, 1) := by decide +kernel
theorem dX16_localType_84 : decode cX16_localType 84 = .ok (.getfield 594, 3) := by decide +kernel
theorem dX16_localType_87 : decode cX16_localType 87 = .ok (.iconst 1, 1) := by decide +kernel
theorem dX16_localType_88 : decode cX16_localType 88 = .ok (.iadd, 1) := by decide +kernel
theorem dX16_localType_89 : decode cX16_localType 89 = .ok (.putfield 594, 3) := by decide +kernel
theorem dX16_localType_92 : decode cX16_localType 92 = .ok (.lload_n 3, 1) := by decide +kernel
theorem dX16_localType_93 : decode cX16_localType 93 = .ok (.lload 8, 2) := by decide +kernel
theorem dX16_localType_95 : decode cX16_localType 95 = .ok (.lload 12, 2) := by decide +kernel
theorem dX16_localType_97 : decode cX16_localType 97 = .ok (.ladd, 1) := by decide +kernel
theorem dX16_localType_98 : decode cX16_localType 98 = .ok (.lcmp, 1) := by decide +kernel
theorem dX16_localType_99 : decode cX16_localType 99 = .ok (.ifCond .ge 6, 3) := by decide +kernel
theorem dX16_localType_102 : decode cX16_localType 102 = .ok (.iload 14, 2) := by decide +kernel
theorem dX16_localType_104 : decode cX16_localType 104 = .ok (.ireturn, 1) := by decide +kernel
theorem dX16_localType_105 : decode cX16_localType 105 = .ok (.lload 8, 2) := by decide +kernel
theorem dX16_localType_107 : decode cX16_localType 107 = .ok (.lload 12, 2) := by decide +kernel
theorem dX16_localType_109 : decode cX16_localType 109 = .ok (.ladd, 1) := by decide +kernel
theorem dX16_localType_110 : decode cX16_localType 110 = .ok (.lstore 8, 2) := by decide +kernel
theorem dX16_localType_112 : decode cX16_localType 112 = .ok (.lload 10, 2) := by decide +kernel
theorem dX16_localType_114 : decode cX16_localType 114 = .ok (.lconst 1, 1) := by decide +kernel
theorem dX16_localType_115 : decode cX16_localType 115 = .ok (.ladd, 1) := by decide +kernel
theorem dX16_localType_116 : decode cX16_localType 116 = .ok (.lstore 10, 2) := by decide +kernel
theorem dX16_localType_118 : decode cX16_localType 118 = .ok (.goto (-63), 3) := by decide +kernel
theorem dX16_localType_121 : decode cX16_localType 121 = .ok (.iconst 0, 1) := by decide +kernel
theorem dX16_localType_122 : decode cX16_localType 122 = .ok (.ireturn, 1) := by decide +kernel
noncomputable def tX16_localType_55 (x0 : Nat) (x3 : Int64) (x6 : Int64) (x8 : Int64) (x10 : Int64) (h : pm_H) : Option (((Nat × Int64 × Int64 × Int64 × Int64 × pm_H)) ⊕ (Int32 × pm_H)) := if x6 ≤ x10 then (some (.inr ((0, h)))) else (if pm_kd h x0 = 16 then (fX16_word h x0).bind fun v24 => if pm_kd v24.2 x0 = 16 then (pm_R v24.2 x0 10).bind fun v27 => if pm_kd v24.2 v27 = 14 then (fX14_at v24.2 v27 (pm_I v24.2 x0 19)).bind fun v30 => pm_let ((pm_I v24.2 x0 19) + 1) fun y32 => if (x8 + v24.1) ≤ x3 then (pm_let (x8 + v24.1) fun y35 => pm_let (x10 + 1) fun y37 => some (.inl ((x0, x3, x6, y35, y37, pm_setI v24.2 x0 19 y32)))) else (some (.inr ((v30, pm_setI v24.2 x0 19 y32)))) else none else none else none)
noncomputable def sX16_localType : ((Nat × Int64 × Int64 × Int64 × Int64 × pm_H)) → Option (((Nat × Int64 × Int64 × Int64 × Int64 × pm_H)) ⊕ (Int32 × pm_H)) := fun z => match z with
  | (x0, x3, x6, x8, x10, h) => tX16_localType_55 x0 x3 x6 x8 x10 h
noncomputable def fX16_localType (h : pm_H) (a0 : Nat) (p1 : Int32) (p2 : Int32) (p3 : Int64) : Option (Int32 × pm_H) := if pm_kd h a0 = 16 then (pm_R h a0 10).bind fun v2 => if pm_kd h v2 = 14 then (pm_R h v2 5).bind fun v5 => if pm_kd h v5 = 34 then if pm_in p2 (pm_ln h v5) then pm_let (pm_I h v5 p2.toNatClampNeg) fun y9 => if y9.toInt64 ≤ p3 then ((pm_R h v2 51).bind fun v12 => if pm_kd h v12 = 34 then if pm_in p1 (pm_ln h v12) then pm_let (pm_I h v12 p1.toNatClampNeg) fun y16 => (fX16_word (pm_setI h a0 19 y16) a0).bind fun v18 => pm_lim sX16_localType ((a0, p3, v18.1, y9.toInt64, 0, v18.2)) else none else none) else ((fX16_parameterAt h a0 p2.toInt64 p3.toInt32).bind fun v20 => some ((v20, h))) else none else none else none else none
set_option maxHeartbeats 4000000 in
set_option maxRecDepth 100000 in
theorem lpX16_localType {g : pm_Gm} {l : Launch} {G : pm_Gl} {Qr : Option Value → pm_H → Prop} (C : pm_C g cX16_localType RX16) (X : pm_X g l G mX16_localType 0 0 Qr) {r : (Int32 × pm_H)} (q : Qr (some (.int r.1)) r.2) : ∀ n : Nat, (∀ (x0 : Nat) (x3 : Int64) (x6 : Int64) (x8 : Int64) (x10 : Int64) (h : pm_H), pm_iter sX16_localType n (x0, x3, x6, x8, x10, h) = some r → pm_G g 55 [(0, .ref x0), (3, .long x3), (6, .long x6), (8, .long x8), (10, .long x10)] [] h 0 0) := by
  intro n
  induction n with
  | zero => exact fun _ _ _ _ _ _ hf => (by cases hf)
  | succ n ih =>
    refine fun x0 x3 x6 x8 x10 h hf => ?_
    obtain ⟨y, hf, hi⟩ := pm_iter_s hf
    have hf : tX16_localType_55 x0 x3 x6 x8 x10 h = some y := hf
    unfold tX16_localType_55 at hf
    refine pm_lload C dX16_localType_55 rfl ?_
    refine pm_lload C dX16_localType_57 rfl ?_
    refine pm_lcmp C dX16_localType_59 ?_
    refine pm_if_ge (tgt := 121) C dX16_localType_60 (by decide) (fun c22 => ?_) (fun c22 => ?_)
    · have hf := pm_it hf ((pm_lg_ge _ _).mp c22)
      refine pm_iconst (v := 0) C dX16_localType_121 (by decide) ?_
      cases hf
      cases hi
      exact pm_iret C X dX16_localType_122 rfl (Nat.le_refl _) (Nat.le_refl _) q
    · have hf := pm_ie hf ((fun z => c22 ((pm_lg_ge _ _).mpr z)))
      refine pm_aload_n C dX16_localType_63 rfl rfl ?_
      obtain ⟨k23, hf⟩ := pm_if hf
      obtain ⟨v24, e25, hf⟩ := pm_bd hf
      refine pm_callV (as := []) (st := []) C X dX16_localType_64 lnX16_603 myX16_word viX16_word ⟨by decide, by decide⟩ rfl rfl k23 (Nat.le_of_ble_eq_true rfl) (Nat.le_refl _) (Nat.le_refl _) (ctX16_word e25 ?_)
      show pm_G g 67 [(0, .ref x0), (3, .long x3), (6, .long x6), (8, .long x8), (10, .long x10)] [.long v24.1] v24.2 0 0
      refine pm_lstore (lv' := [(12, .long v24.1), (0, .ref x0), (3, .long x3), (6, .long x6), (8, .long x8), (10, .long x10)]) C dX16_localType_67 (pm_nl X (by decide)) rfl ?_
      refine pm_aload_n C dX16_localType_69 rfl rfl ?_
      obtain ⟨k26, hf⟩ := pm_if hf
      obtain ⟨v27, e28, hf⟩ := pm_bd hf
      refine pm_getR C dX16_localType_70 flX16_221 rfl k26 e28 ?_
      refine pm_aload_n C dX16_localType_73 rfl rfl ?_
      refine pm_getI C dX16_localType_74 flX16_594 rfl k26 rfl ?_
      obtain ⟨k29, hf⟩ := pm_if hf
      obtain ⟨v30, e31, hf⟩ := pm_bd hf
      refine pm_callV (as := [.int (pm_I v24.2 x0 19)]) (st := []) C X dX16_localType_77 lnX16_261 myX14_at viX14_at ⟨by decide, by decide⟩ rfl rfl k29 (Nat.le_of_ble_eq_true rfl) (Nat.le_refl _) (Nat.le_refl _) (ctX14_at e31 ?_)
      show pm_G g 80 [(12, .long v24.1), (0, .ref x0), (3, .long x3), (6, .long x6), (8, .long x8), (10, .long x10)] [.int v30] v24.2 0 0
      refine pm_istore (lv' := [(14, .int v30), (12, .long v24.1), (0, .ref x0), (3, .long x3), (6, .long x6), (8, .long x8), (10, .long x10)]) C dX16_localType_80 (pm_nl X (by decide)) rfl ?_
      refine pm_aload_n C dX16_localType_82 rfl rfl ?_
      refine pm_dup C dX16_localType_83 rfl ?_
      refine pm_getI C dX16_localType_84 flX16_594 rfl k26 rfl ?_
      refine pm_iconst (v := 1) C dX16_localType_87 (by decide) ?_
      refine pm_iadd C dX16_localType_88 ?_
      obtain ⟨y32, e33, hf⟩ := pm_lt hf
      refine pm_topI e33 ?_
      refine pm_putI C dX16_localType_89 flX16_594 rfl rfl k26 rfl rfl ?_
      refine pm_lload_n C dX16_localType_92 rfl rfl ?_
      refine pm_lload C dX16_localType_93 rfl ?_
      refine pm_lload C dX16_localType_95 rfl ?_
      refine pm_ladd C dX16_localType_97 ?_
      refine pm_lcmp C dX16_localType_98 ?_
      refine pm_if_ge (tgt := 105) C dX16_localType_99 (by decide) (fun c34 => ?_) (fun c34 => ?_)
      · have hf := pm_it hf ((pm_lg_ge _ _).mp c34)
        refine pm_lload C dX16_localType_105 rfl ?_
        refine pm_lload C dX16_localType_107 rfl ?_
        refine pm_ladd C dX16_localType_109 ?_
        obtain ⟨y35, e36, hf⟩ := pm_lt hf
        refine pm_topL e36 ?_
        refine pm_lstore (lv' := [(8, .long y35), (14, .int v30), (12, .long v24.1), (0, .ref x0), (3, .long x3), (6, .long x6), (10, .long x10)]) C dX16_localType_110 (pm_nl X (by decide)) rfl ?_
        refine pm_lload C dX16_localType_112 rfl ?_
        refine pm_lconst (v := 1) C dX16_localType_114 (by decide) ?_
        refine pm_ladd C dX16_localType_115 ?_
        obtain ⟨y37, e38, hf⟩ := pm_lt hf
        refine pm_topL e38 ?_
        refine pm_lstore (lv' := [(10, .long y37), (8, .long y35), (14, .int v30), (12, .long v24.1), (0, .ref x0), (3, .long x3), (6, .long x6)]) C dX16_localType_116 (pm_nl X (by decide)) rfl ?_
        refine pm_goto (tgt := 55) C dX16_localType_118 (by decide) ?_
        cases hf
        exact pm_sub [4, 5, 6, 1, 0] rfl (ih x0 x3 x6 y35 y37 (pm_setI v24.2 x0 19 y32) hi)
      · have hf := pm_ie hf ((fun z => c34 ((pm_lg_ge _ _).mpr z)))
        refine pm_iload C dX16_localType_102 rfl ?_
        cases hf
        cases hi
        exact pm_iret C X dX16_localType_104 rfl (Nat.le_refl _) (Nat.le_refl _) q
set_option maxHeartbeats 4000000 in
set_option maxRecDepth 100000 in
theorem ctX16_localType {l : Launch} {G : pm_Gl} {h : pm_H} {a0 : Nat} {p1 : Int32} {p2 : Int32} {p3 : Int64} {r : (Int32 × pm_H)} {Qr : Option Value → pm_H → Prop} (hf : fX16_localType h a0 p1 p2 p3 = some r) (q : Qr (some (.int r.1)) r.2) : pm_Ct l G mX16_localType [.ref a0, .int p1, .int p2, .long p3] h 0 0 Qr := by
  refine pm_body pnX16 (Nat.le_of_ble_eq_true rfl) (fun g C X => ?_)
  have C : pm_C g cX16_localType RX16 := C
  show pm_G g 0 [(0, .ref a0), (1, .int p1), (2, .int p2), (3, .long p3)] [] h 0 0
  unfold fX16_localType at hf
  refine pm_aload_n C dX16_localType_0 rfl rfl ?_
  obtain ⟨k1, hf⟩ := pm_if hf
  obtain ⟨v2, e3, hf⟩ := pm_bd hf
  refine pm_getR C dX16_localType_1 flX16_221 rfl k1 e3 ?_
  obtain ⟨k4, hf⟩ := pm_if hf
  obtain ⟨v5, e6, hf⟩ := pm_bd hf
  refine pm_getR C dX16_localType_4 flX16_387 rfl k4 e6 ?_
  refine pm_iload_n C dX16_localType_7 rfl rfl ?_
  obtain ⟨k7, hf⟩ := pm_if hf
  obtain ⟨u8, hf⟩ := pm_if hf
  refine pm_iald C dX16_localType_8 k7 u8 rfl ?_
  obtain ⟨y9, e10, hf⟩ := pm_lt hf
  refine pm_topI e10 ?_
  refine pm_istore (lv' := [(5, .int y9), (0, .ref a0), (1, .int p1), (2, .int p2), (3, .long p3)]) C dX16_localType_9 (pm_nl X (by decide)) rfl ?_
  refine pm_lload_n C dX16_localType_11 rfl rfl ?_
  refine pm_iload C dX16_localType_12 rfl ?_
  refine pm_i2l C dX16_localType_14 ?_
  refine pm_lcmp C dX16_localType_15 ?_
  refine pm_if_ge (tgt := 28) C dX16_localType_16 (by decide) (fun c11 => ?_) (fun c11 => ?_)
  · have hf := pm_it hf ((pm_lg_ge _ _).mp c11)
    refine pm_aload_n C dX16_localType_28 rfl rfl ?_
    refine pm_aload_n C dX16_localType_29 rfl rfl ?_
    refine pm_getR C dX16_localType_30 flX16_221 rfl k1 e3 ?_
    obtain ⟨v12, e13, hf⟩ := pm_bd hf
    refine pm_getR C dX16_localType_33 flX16_517 rfl k4 e13 ?_
    refine pm_iload_n C dX16_localType_36 rfl rfl ?_
    obtain ⟨k14, hf⟩ := pm_if hf
    obtain ⟨u15, hf⟩ := pm_if hf
    refine pm_iald C dX16_localType_37 k14 u15 rfl ?_
    obtain ⟨y16, e17, hf⟩ := pm_lt hf
    refine pm_topI e17 ?_
    refine pm_putI C dX16_localType_38 flX16_594 rfl rfl k1 rfl rfl ?_
    refine pm_aload_n C dX16_localType_41 rfl rfl ?_
    obtain ⟨v18, e19, hf⟩ := pm_bd hf
    refine pm_callV (as := []) (st := []) C X dX16_localType_42 lnX16_603 myX16_word viX16_word ⟨by decide, by decide⟩ rfl rfl k1 (Nat.le_of_ble_eq_true rfl) (Nat.le_refl _) (Nat.le_refl _) (ctX16_word e19 ?_)
    show pm_G g 45 [(5, .int y9), (0, .ref a0), (1, .int p1), (2, .int p2), (3, .long p3)] [.long v18.1] v18.2 0 0
    refine pm_lstore (lv' := [(6, .long v18.1), (5, .int y9), (0, .ref a0), (1, .int p1), (2, .int p2), (3, .long p3)]) C dX16_localType_45 (pm_nl X (by decide)) rfl ?_
    refine pm_iload C dX16_localType_47 rfl ?_
    refine pm_i2l C dX16_localType_49 ?_
    refine pm_lstore (lv' := [(8, .long y9.toInt64), (6, .long v18.1), (5, .int y9), (0, .ref a0), (1, .int p1), (2, .int p2), (3, .long p3)]) C dX16_localType_50 (pm_nl X (by decide)) rfl ?_
    refine pm_lconst (v := 0) C dX16_localType_52 (by decide) ?_
    refine pm_lstore (lv' := [(10, .long 0), (8, .long y9.toInt64), (6, .long v18.1), (5, .int y9), (0, .ref a0), (1, .int p1), (2, .int p2), (3, .long p3)]) C dX16_localType_53 (pm_nl X (by decide)) rfl ?_
    obtain ⟨n, hn⟩ := pm_lim_iter hf
    exact pm_sub [4, 7, 2, 1, 0] rfl ((lpX16_localType C X q n) a0 p3 v18.1 y9.toInt64 0 v18.2 hn)
  · have hf := pm_ie hf ((fun z => c11 ((pm_lg_ge _ _).mpr z)))
    refine pm_aload_n C dX16_localType_19 rfl rfl ?_
    refine pm_iload_n C dX16_localType_20 rfl rfl ?_
    refine pm_i2l C dX16_localType_21 ?_
    refine pm_lload_n C dX16_localType_22 rfl rfl ?_
    refine pm_l2i C dX16_localType_23 ?_
    obtain ⟨v20, e21, hf⟩ := pm_bd hf
    refine pm_callV (as := [.long p2.toInt64, .int p3.toInt32]) (st := []) C X dX16_localType_24 lnX16_678 myX16_parameterAt viX16_parameterAt ⟨by decide, by decide⟩ rfl rfl k1 (Nat.le_of_ble_eq_true rfl) (Nat.le_refl _) (Nat.le_refl _) (ctX16_parameterAt e21 ?_)
    show pm_G g 27 [(5, .int y9), (0, .ref a0), (1, .int p1), (2, .int p2), (3, .long p3)] [.int v20] h 0 0
    cases hf
    exact pm_iret C X dX16_localType_27 rfl (Nat.le_refl _) (Nat.le_refl _) q
theorem dX16_long64_0 : decode cX16_long64 0 = .ok (.lload 4, 2) := by decide +kernel
theorem dX16_long64_2 : decode cX16_long64 2 = .ok (.l2i, 1) := by decide +kernel
theorem dX16_long64_3 : decode cX16_long64 3 = .ok (.bipush 63, 2) := by decide +kernel
theorem dX16_long64_5 : decode cX16_long64 5 = .ok (.iand, 1) := by decide +kernel
theorem dX16_long64_6 : decode cX16_long64 6 = .ok (.istore 6, 2) := by decide +kernel
theorem dX16_long64_8 : decode cX16_long64 8 = .ok (.iload_n 1, 1) := by decide +kernel
theorem dX16_long64_9 : decode cX16_long64 9 = .ok (.tableswitch 185 0 17 #[87, 96, 105, 185, 185, 185, 111, 111, 111, 111, 185, 185, 185, 126, 131, 136, 141, 163], 87) := by decide +kernel
theorem dX16_long64_96 : decode cX16_long64 96 = .ok (.lload_n 2, 1) := by decide +kernel
theorem dX16_long64_97 : decode cX16_long64 97 = .ok (.bipush 64, 2) := by decide +kernel
theorem dX16_long64_99 : decode cX16_long64 99 = .ok (.iconst 1, 1) := by decide +kernel
theorem dX16_long64_100 : decode cX16_long64 100 = .ok (.invokestatic 831, 3) := by decide +kernel
theorem dX16_long64_103 : decode cX16_long64 103 = .ok (.i2l, 1) := by decide +kernel
theorem dX16_long64_104 : decode cX16_long64 104 = .ok (.lreturn, 1) := by decide +kernel
theorem dX16_long64_105 : decode cX16_long64 105 = .ok (.lload_n 2, 1) := by decide +kernel
theorem dX16_long64_106 : decode cX16_long64 106 = .ok (.bipush 64, 2) := by decide +kernel
theorem dX16_long64_108 : decode cX16_long64 108 = .ok (.iconst 0, 1) := by decide +kernel
theorem dX16_long64_109 : decode cX16_long64 109 = .ok (.invokestatic 831, 3) := by decide +kernel
theorem dX16_long64_112 : decode cX16_long64 112 = .ok (.i2l, 1) := by decide +kernel
theorem dX16_long64_113 : decode cX16_long64 113 = .ok (.lreturn, 1) := by decide +kernel
theorem dX16_long64_114 : decode cX16_long64 114 = .ok (.lload_n 2, 1) := by decide +kernel
theorem dX16_long64_115 : decode cX16_long64 115 = .ok (.invokestatic 835, 3) := by decide +kernel
theorem dX16_long64_118 : decode cX16_long64 118 = .ok (.i2l, 1) := by decide +kernel
theorem dX16_long64_119 : decode cX16_long64 119 = .ok (.lreturn, 1) := by decide +kernel
theorem dX16_long64_120 : decode cX16_long64 120 = .ok (.aload_n 0, 1) := by decide +kernel
theorem dX16_long64_121 : decode cX16_long64 121 = .ok (.iload_n 1, 1) := by decide +kernel
theorem dX16_long64_122 : decode cX16_long64 122 = .ok (.bipush 6, 2) := by decide +kernel
theorem dX16_long64_124 : decode cX16_long64 124 = .ok (.isub, 1) := by decide +kernel
theorem dX16_long64_125 : decode cX16_long64 125 = .ok (.lload_n 2, 1) := by decide +kernel
theorem dX16_long64_126 : decode cX16_long64 126 = .ok (.lload 4, 2) := by decide +kernel
theorem dX16_long64_128 : decode cX16_long64 128 = .ok (.ldc2_w 798, 3) := by decide +kernel
theorem dX16_long64_131 : decode cX16_long64 131 = .ok (.invokevirtual 840, 3) := by decide +kernel
theorem dX16_long64_134 : decode cX16_long64 134 = .ok (.lreturn, 1) := by decide +kernel
theorem dX16_long64_135 : decode cX16_long64 135 = .ok (.lload_n 2, 1) := by decide +kernel
theorem dX16_long64_136 : decode cX16_long64 136 = .ok (.iload 6, 2) := by decide +kernel
theorem dX16_long64_138 : decode cX16_long64 138 = .ok (.lshl, 1) := by decide +kernel
theorem dX16_long64_139 : decode cX16_long64 139 = .ok (.lreturn, 1) := by decide +kernel
theorem dX16_long64_140 : decode cX16_long64 140 = .ok (.lload_n 2, 1) := by decide +kernel
theorem dX16_long64_141 : decode cX16_long64 141 = .ok (.iload 6, 2) := by decide +kernel
theorem dX16_long64_143 : decode cX16_long64 143 = .ok (.lshr, 1) := by decide +kernel
theorem dX16_long64_144 : decode cX16_long64 144 = .ok (.lreturn, 1) := by decide +kernel
theorem dX16_long64_145 : decode cX16_long64 145 = .ok (.lload_n 2, 1) := by decide +kernel
theorem dX16_long64_146 : decode cX16_long64 146 = .ok (.iload 6, 2) := by decide +kernel
theorem dX16_long64_148 : decode cX16_long64 148 = .ok (.lushr, 1) := by decide +kernel
theorem dX16_long64_149 : decode cX16_long64 149 = .ok (.lreturn, 1) := by decide +kernel
theorem dX16_long64_150 : decode cX16_long64 150 = .ok (.iload 6, 2) := by decide +kernel
theorem dX16_long64_152 : decode cX16_long64 152 = .ok (.ifCond .ne 7, 3) := by decide +kernel
theorem dX16_long64_155 : decode cX16_long64 155 = .ok (.lload_n 2, 1) := by decide +kernel
theorem dX16_long64_156 : decode cX16_long64 156 = .ok (.goto 15, 3) := by decide +kernel
theorem dX16_long64_159 : decode cX16_long64 159 = .ok (.lload_n 2, 1) := by decide +kernel
theorem dX16_long64_160 : decode cX16_long64 160 = .ok (.iload 6, 2) := by decide +kernel
theorem dX16_long64_162 : decode cX16_long64 162 = .ok (.lshl, 1) := by decide +kernel
theorem dX16_long64_163 : decode cX16_long64 163 = .ok (.lload_n 2, 1) := by decide +kernel
theorem dX16_long64_164 : decode cX16_long64 164 = .ok (.bipush 64, 2) := by decide +kernel
theorem dX16_long64_166 : decode cX16_long64 166 = .ok (.iload 6, 2) := by decide +kernel
theorem dX16_long64_168 : decode cX16_long64 168 = .ok (.isub, 1) := by decide +kernel
theorem dX16_long64_169 : decode cX16_long64 169 = .ok (.lushr, 1) := by decide +kernel
theorem dX16_long64_170 : decode cX16_long64 170 = .ok (.lor, 1) := by decide +kernel
theorem dX16_long64_171 : decode cX16_long64 171 = .ok (.lreturn, 1) := by decide +kernel
theorem dX16_long64_172 : decode cX16_long64 172 = .ok (.iload 6, 2) := by decide +kernel
theorem dX16_long64_174 : decode cX16_long64 174 = .ok (.ifCond .ne 7, 3) := by decide +kernel
theorem dX16_long64_177 : decode cX16_long64 177 = .ok (.lload_n 2, 1) := by decide +kernel
theorem dX16_long64_178 : decode cX16_long64 178 = .ok (.goto 15, 3) := by decide +kernel
theorem dX16_long64_181 : decode cX16_long64 181 = .ok (.lload_n 2, 1) := by decide +kernel
theorem dX16_long64_182 : decode cX16_long64 182 = .ok (.iload 6, 2) := by decide +kernel
theorem dX16_long64_184 : decode cX16_long64 184 = .ok (.lushr, 1) := by decide +kernel
theorem dX16_long64_185 : decode cX16_long64 185 = .ok (.lload_n 2, 1) := by decide +kernel
theorem dX16_long64_186 : decode cX16_long64 186 = .ok (.bipush 64, 2) := by decide +kernel
theorem dX16_long64_188 : decode cX16_long64 188 = .ok (.iload 6, 2) := by decide +kernel
theorem dX16_long64_190 : decode cX16_long64 190 = .ok (.isub, 1) := by decide +kernel
theorem dX16_long64_191 : decode cX16_long64 191 = .ok (.lshl, 1) := by decide +kernel
theorem dX16_long64_192 : decode cX16_long64 192 = .ok (.lor, 1) := by decide +kernel
theorem dX16_long64_193 : decode cX16_long64 193 = .ok (.lreturn, 1) := by decide +kernel
theorem dX16_long64_194 : decode cX16_long64 194 = .ok (.iload_n 1, 1) := by decide +kernel
theorem dX16_long64_195 : decode cX16_long64 195 = .ok (.lload_n 2, 1) := by decide +kernel
theorem dX16_long64_196 : decode cX16_long64 196 = .ok (.lload 4, 2) := by decide +kernel
theorem dX16_long64_198 : decode cX16_long64 198 = .ok (.invokestatic 844, 3) := by decide +kernel
theorem dX16_long64_201 : decode cX16_long64 201 = .ok (.lreturn, 1) := by decide +kernel
noncomputable def fX16_long64 (h : pm_H) (a0 : Nat) (p1 : Int32) (p2 : Int64) (p3 : Int64) : Option (Int64 × pm_H) := pm_let (p3.toInt32 &&& 63) fun y1 => if p1 = 0 then ((fX16_zeros p2 64 1).bind fun v4 => some ((v4.toInt64, h))) else (if p1 = 1 then ((fX16_zeros p2 64 0).bind fun v7 => some ((v7.toInt64, h))) else (if p1 = 2 then ((fX16_ones p2).bind fun v10 => some ((v10.toInt64, h))) else (if p1 = 3 then (pm_let (fX16_plain p1 p2 p3) fun v13 => some ((v13, h))) else (if p1 = 4 then (pm_let (fX16_plain p1 p2 p3) fun v16 => some ((v16, h))) else (if p1 = 5 then (pm_let (fX16_plain p1 p2 p3) fun v19 => some ((v19, h))) else (if p1 = 6 then (if pm_kd h a0 = 16 then (fX16_divided h a0 (p1 - 6) p2 p3 (-9223372036854775808)).bind fun v23 => some ((v23.1, v23.2)) else none) else (if p1 = 7 then (if pm_kd h a0 = 16 then (fX16_divided h a0 (p1 - 6) p2 p3 (-9223372036854775808)).bind fun v27 => some ((v27.1, v27.2)) else none) else (if p1 = 8 then (if pm_kd h a0 = 16 then (fX16_divided h a0 (p1 - 6) p2 p3 (-9223372036854775808)).bind fun v31 => some ((v31.1, v31.2)) else none) else (if p1 = 9 then (if pm_kd h a0 = 16 then (fX16_divided h a0 (p1 - 6) p2 p3 (-9223372036854775808)).bind fun v35 => some ((v35.1, v35.2)) else none) else (if p1 = 10 then (pm_let (fX16_plain p1 p2 p3) fun v38 => some ((v38, h))) else (if p1 = 11 then (pm_let (fX16_plain p1 p2 p3) fun v41 => some ((v41, h))) else (if p1 = 12 then (pm_let (fX16_plain p1 p2 p3) fun v44 => some ((v44, h))) else (if p1 = 13 then (some ((p2 <<< (y1.toInt64 &&& 63), h))) else (if p1 = 14 then (some ((p2 >>> (y1.toInt64 &&& 63), h))) else (if p1 = 15 then (some (((p2.toUInt64 >>> (y1.toInt64.toUInt64 &&& Int64.toUInt64 63)).toInt64, h))) else (if p1 = 16 then (if y1 = 0 then (some ((p2, h))) else (some (((p2 <<< (y1.toInt64 &&& 63)) ||| ((p2.toUInt64 >>> ((64 - y1).toInt64.toUInt64 &&& Int64.toUInt64 63)).toInt64), h)))) else (if p1 = 17 then (if y1 = 0 then (some ((p2, h))) else (some ((((p2.toUInt64 >>> (y1.toInt64.toUInt64 &&& Int64.toUInt64 63)).toInt64) ||| (p2 <<< ((64 - y1).toInt64 &&& 63)), h)))) else (pm_let (fX16_plain p1 p2 p3) fun v53 => some ((v53, h))))))))))))))))))))
set_option maxHeartbeats 4000000 in
set_option maxRecDepth 100000 in
theorem ctX16_long64 {l : Launch} {G : pm_Gl} {h : pm_H} {a0 : Nat} {p1 : Int32} {p2 : Int64} {p3 : Int64} {r : (Int64 × pm_H)} {Qr : Option Value → pm_H → Prop} (hf : fX16_long64 h a0 p1 p2 p3 = some r) (q : Qr (some (.long r.1)) r.2) : pm_Ct l G mX16_long64 [.ref a0, .int p1, .long p2, .long p3] h 0 0 Qr := by
  refine pm_body pnX16 (Nat.le_of_ble_eq_true rfl) (fun g C X => ?_)
  have C : pm_C g cX16_long64 RX16 := C
  show pm_G g 0 [(0, .ref a0), (1, .int p1), (2, .long p2), (4, .long p3)] [] h 0 0
  unfold fX16_long64 at hf
  refine pm_lload C dX16_long64_0 rfl ?_
  refine pm_l2i C dX16_long64_2 ?_
  refine pm_bipush (v := 63) C dX16_long64_3 (by decide) ?_
  refine pm_iand C dX16_long64_5 ?_
  obtain ⟨y1, e2, hf⟩ := pm_lt hf
  refine pm_topI e2 ?_
  refine pm_istore (lv' := [(6, .int y1), (0, .ref a0), (1, .int p1), (2, .long p2), (4, .long p3)]) C dX16_long64_6 (pm_nl X (by decide)) rfl ?_
  refine pm_iload_n C dX16_long64_8 rfl rfl ?_
  by_cases c3 : p1 = 0
  · have hf := pm_it hf c3
    refine pm_tableIn (tgt := 96) C dX16_long64_9 (by rw [c3]; decide) (by rw [c3]; decide) (by rw [c3]; rfl) (by decide) ?_
    refine pm_lload_n C dX16_long64_96 rfl rfl ?_
    refine pm_bipush (v := 64) C dX16_long64_97 (by decide) ?_
    refine pm_iconst (v := 1) C dX16_long64_99 (by decide) ?_
    obtain ⟨v4, e5, hf⟩ := pm_bd hf
    refine pm_callS (as := [.long p2, .int 64, .int 1]) (st := []) C X dX16_long64_100 lnX16_831 myX16_zeros stX16_zeros ⟨by decide, by decide⟩ rfl rfl (Nat.le_of_ble_eq_true rfl) (Nat.le_refl _) (Nat.le_refl _) (ctX16_zeros e5 ?_)
    show pm_G g 103 [(6, .int y1), (0, .ref a0), (1, .int p1), (2, .long p2), (4, .long p3)] [.int v4] h 0 0
    refine pm_i2l C dX16_long64_103 ?_
    cases hf
    exact pm_lret C X dX16_long64_104 rfl (Nat.le_refl _) (Nat.le_refl _) q
  have hf := pm_ie hf c3
  by_cases c6 : p1 = 1
  · have hf := pm_it hf c6
    refine pm_tableIn (tgt := 105) C dX16_long64_9 (by rw [c6]; decide) (by rw [c6]; decide) (by rw [c6]; rfl) (by decide) ?_
    refine pm_lload_n C dX16_long64_105 rfl rfl ?_
    refine pm_bipush (v := 64) C dX16_long64_106 (by decide) ?_
    refine pm_iconst (v := 0) C dX16_long64_108 (by decide) ?_
    obtain ⟨v7, e8, hf⟩ := pm_bd hf
    refine pm_callS (as := [.long p2, .int 64, .int 0]) (st := []) C X dX16_long64_109 lnX16_831 myX16_zeros stX16_zeros ⟨by decide, by decide⟩ rfl rfl (Nat.le_of_ble_eq_true rfl) (Nat.le_refl _) (Nat.le_refl _) (ctX16_zeros e8 ?_)
    show pm_G g 112 [(6, .int y1), (0, .ref a0), (1, .int p1), (2, .long p2), (4, .long p3)] [.int v7] h 0 0
    refine pm_i2l C dX16_long64_112 ?_
    cases hf
    exact pm_lret C X dX16_long64_113 rfl (Nat.le_refl _) (Nat.le_refl _) q
  have hf := pm_ie hf c6
  by_cases c9 : p1 = 2
  · have hf := pm_it hf c9
    refine pm_tableIn (tgt := 114) C dX16_long64_9 (by rw [c9]; decide) (by rw [c9]; decide) (by rw [c9]; rfl) (by decide) ?_
    refine pm_lload_n C dX16_long64_114 rfl rfl ?_
    obtain ⟨v10, e11, hf⟩ := pm_bd hf
    refine pm_callS (as := [.long p2]) (st := []) C X dX16_long64_115 lnX16_835 myX16_ones stX16_ones ⟨by decide, by decide⟩ rfl rfl (Nat.le_of_ble_eq_true rfl) (Nat.le_refl _) (Nat.le_refl _) (ctX16_ones e11 ?_)
    show pm_G g 118 [(6, .int y1), (0, .ref a0), (1, .int p1), (2, .long p2), (4, .long p3)] [.int v10] h 0 0
    refine pm_i2l C dX16_long64_118 ?_
    cases hf
    exact pm_lret C X dX16_long64_119 rfl (Nat.le_refl _) (Nat.le_refl _) q
  have hf := pm_ie hf c9
  by_cases c12 : p1 = 3
  · have hf := pm_it hf c12
    refine pm_tableIn (tgt := 194) C dX16_long64_9 (by rw [c12]; decide) (by rw [c12]; decide) (by rw [c12]; rfl) (by decide) ?_
    refine pm_iload_n C dX16_long64_194 rfl rfl ?_
    refine pm_lload_n C dX16_long64_195 rfl rfl ?_
    refine pm_lload C dX16_long64_196 rfl ?_
    obtain ⟨v13, e14, hf⟩ := pm_lt hf
    refine pm_callS (as := [.int p1, .long p2, .long p3]) (st := []) C X dX16_long64_198 lnX16_844 myX16_plain stX16_plain ⟨by decide, by decide⟩ rfl rfl (Nat.le_of_ble_eq_true rfl) (Nat.le_refl _) (Nat.le_refl _) (ctX16_plain e14 ?_)
    show pm_G g 201 [(6, .int y1), (0, .ref a0), (1, .int p1), (2, .long p2), (4, .long p3)] [.long v13] h 0 0
    cases hf
    exact pm_lret C X dX16_long64_201 rfl (Nat.le_refl _) (Nat.le_refl _) q
  have hf := pm_ie hf c12
  by_cases c15 : p1 = 4
  · have hf := pm_it hf c15
    refine pm_tableIn (tgt := 194) C dX16_long64_9 (by rw [c15]; decide) (by rw [c15]; decide) (by rw [c15]; rfl) (by decide) ?_
    refine pm_iload_n C dX16_long64_194 rfl rfl ?_
    refine pm_lload_n C dX16_long64_195 rfl rfl ?_
    refine pm_lload C dX16_long64_196 rfl ?_
    obtain ⟨v16, e17, hf⟩ := pm_lt hf
    refine pm_callS (as := [.int p1, .long p2, .long p3]) (st := []) C X dX16_long64_198 lnX16_844 myX16_plain stX16_plain ⟨by decide, by decide⟩ rfl rfl (Nat.le_of_ble_eq_true rfl) (Nat.le_refl _) (Nat.le_refl _) (ctX16_plain e17 ?_)
    show pm_G g 201 [(6, .int y1), (0, .ref a0), (1, .int p1), (2, .long p2), (4, .long p3)] [.long v16] h 0 0
    cases hf
    exact pm_lret C X dX16_long64_201 rfl (Nat.le_refl _) (Nat.le_refl _) q
  have hf := pm_ie hf c15
  by_cases c18 : p1 = 5
  · have hf := pm_it hf c18
    refine pm_tableIn (tgt := 194) C dX16_long64_9 (by rw [c18]; decide) (by rw [c18]; decide) (by rw [c18]; rfl) (by decide) ?_
    refine pm_iload_n C dX16_long64_194 rfl rfl ?_
    refine pm_lload_n C dX16_long64_195 rfl rfl ?_
    refine pm_lload C dX16_long64_196 rfl ?_
    obtain ⟨v19, e20, hf⟩ := pm_lt hf
    refine pm_callS (as := [.int p1, .long p2, .long p3]) (st := []) C X dX16_long64_198 lnX16_844 myX16_plain stX16_plain ⟨by decide, by decide⟩ rfl rfl (Nat.le_of_ble_eq_true rfl) (Nat.le_refl _) (Nat.le_refl _) (ctX16_plain e20 ?_)
    show pm_G g 201 [(6, .int y1), (0, .ref a0), (1, .int p1), (2, .long p2), (4, .long p3)] [.long v19] h 0 0
    cases hf
    exact pm_lret C X dX16_long64_201 rfl (Nat.le_refl _) (Nat.le_refl _) q
  have hf := pm_ie hf c18
  by_cases c21 : p1 = 6
  · have hf := pm_it hf c21
    refine pm_tableIn (tgt := 120) C dX16_long64_9 (by rw [c21]; decide) (by rw [c21]; decide) (by rw [c21]; rfl) (by decide) ?_
    refine pm_aload_n C dX16_long64_120 rfl rfl ?_
    refine pm_iload_n C dX16_long64_121 rfl rfl ?_
    refine pm_bipush (v := 6) C dX16_long64_122 (by decide) ?_
    refine pm_isub C dX16_long64_124 ?_
    refine pm_lload_n C dX16_long64_125 rfl rfl ?_
    refine pm_lload C dX16_long64_126 rfl ?_
    refine pm_ldc2 C dX16_long64_128 cnX16_798 ?_
    obtain ⟨k22, hf⟩ := pm_if hf
    obtain ⟨v23, e24, hf⟩ := pm_bd hf
    refine pm_callV (as := [.int (p1 - 6), .long p2, .long p3, .long (-9223372036854775808)]) (st := []) C X dX16_long64_131 lnX16_840 myX16_divided viX16_divided ⟨by decide, by decide⟩ rfl rfl k22 (Nat.le_of_ble_eq_true rfl) (Nat.le_refl _) (Nat.le_refl _) (ctX16_divided e24 ?_)
    show pm_G g 134 [(6, .int y1), (0, .ref a0), (1, .int p1), (2, .long p2), (4, .long p3)] [.long v23.1] v23.2 0 0
    cases hf
    exact pm_lret C X dX16_long64_134 rfl (Nat.le_refl _) (Nat.le_refl _) q
  have hf := pm_ie hf c21
  by_cases c25 : p1 = 7
  · have hf := pm_it hf c25
    refine pm_tableIn (tgt := 120) C dX16_long64_9 (by rw [c25]; decide) (by rw [c25]; decide) (by rw [c25]; rfl) (by decide) ?_
    refine pm_aload_n C dX16_long64_120 rfl rfl ?_
    refine pm_iload_n C dX16_long64_121 rfl rfl ?_
    refine pm_bipush (v := 6) C dX16_long64_122 (by decide) ?_
    refine pm_isub C dX16_long64_124 ?_
    refine pm_lload_n C dX16_long64_125 rfl rfl ?_
    refine pm_lload C dX16_long64_126 rfl ?_
    refine pm_ldc2 C dX16_long64_128 cnX16_798 ?_
    obtain ⟨k26, hf⟩ := pm_if hf
    obtain ⟨v27, e28, hf⟩ := pm_bd hf
    refine pm_callV (as := [.int (p1 - 6), .long p2, .long p3, .long (-9223372036854775808)]) (st := []) C X dX16_long64_131 lnX16_840 myX16_divided viX16_divided ⟨by decide, by decide⟩ rfl rfl k26 (Nat.le_of_ble_eq_true rfl) (Nat.le_refl _) (Nat.le_refl _) (ctX16_divided e28 ?_)
    show pm_G g 134 [(6, .int y1), (0, .ref a0), (1, .int p1), (2, .long p2), (4, .long p3)] [.long v27.1] v27.2 0 0
    cases hf
    exact pm_lret C X dX16_long64_134 rfl (Nat.le_refl _) (Nat.le_refl _) q
  have hf := pm_ie hf c25
  by_cases c29 : p1 = 8
  · have hf := pm_it hf c29
    refine pm_tableIn (tgt := 120) C dX16_long64_9 (by rw [c29]; decide) (by rw [c29]; decide) (by rw [c29]; rfl) (by decide) ?_
    refine pm_aload_n C dX16_long64_120 rfl rfl ?_
    refine pm_iload_n C dX16_long64_121 rfl rfl ?_
    refine pm_bipush (v := 6) C dX16_long64_122 (by decide) ?_
    refine pm_isub C dX16_long64_124 ?_
    refine pm_lload_n C dX16_long64_125 rfl rfl ?_
    refine pm_lload C dX16_long64_126 rfl ?_
    refine pm_ldc2 C dX16_long64_128 cnX16_798 ?_
    obtain ⟨k30, hf⟩ := pm_if hf
    obtain ⟨v31, e32, hf⟩ := pm_bd hf
    refine pm_callV (as := [.int (p1 - 6), .long p2, .long p3, .long (-9223372036854775808)]) (st := []) C X dX16_long64_131 lnX16_840 myX16_divided viX16_divided ⟨by decide, by decide⟩ rfl rfl k30 (Nat.le_of_ble_eq_true rfl) (Nat.le_refl _) (Nat.le_refl _) (ctX16_divided e32 ?_)
    show pm_G g 134 [(6, .int y1), (0, .ref a0), (1, .int p1), (2, .long p2), (4, .long p3)] [.long v31.1] v31.2 0 0
    cases hf
    exact pm_lret C X dX16_long64_134 rfl (Nat.le_refl _) (Nat.le_refl _) q
  have hf := pm_ie hf c29
  by_cases c33 : p1 = 9
  · have hf := pm_it hf c33
    refine pm_tableIn (tgt := 120) C dX16_long64_9 (by rw [c33]; decide) (by rw [c33]; decide) (by rw [c33]; rfl) (by decide) ?_
    refine pm_aload_n C dX16_long64_120 rfl rfl ?_
    refine pm_iload_n C dX16_long64_121 rfl rfl ?_
    refine pm_bipush (v := 6) C dX16_long64_122 (by decide) ?_
    refine pm_isub C dX16_long64_124 ?_
    refine pm_lload_n C dX16_long64_125 rfl rfl ?_
    refine pm_lload C dX16_long64_126 rfl ?_
    refine pm_ldc2 C dX16_long64_128 cnX16_798 ?_
    obtain ⟨k34, hf⟩ := pm_if hf
    obtain ⟨v35, e36, hf⟩ := pm_bd hf
    refine pm_callV (as := [.int (p1 - 6), .long p2, .long p3, .long (-9223372036854775808)]) (st := []) C X dX16_long64_131 lnX16_840 myX16_divided viX16_divided ⟨by decide, by decide⟩ rfl rfl k34 (Nat.le_of_ble_eq_true rfl) (Nat.le_refl _) (Nat.le_refl _) (ctX16_divided e36 ?_)
    show pm_G g 134 [(6, .int y1), (0, .ref a0), (1, .int p1), (2, .long p2), (4, .long p3)] [.long v35.1] v35.2 0 0
    cases hf
    exact pm_lret C X dX16_long64_134 rfl (Nat.le_refl _) (Nat.le_refl _) q
  have hf := pm_ie hf c33
  by_cases c37 : p1 = 10
  · have hf := pm_it hf c37
    refine pm_tableIn (tgt := 194) C dX16_long64_9 (by rw [c37]; decide) (by rw [c37]; decide) (by rw [c37]; rfl) (by decide) ?_
    refine pm_iload_n C dX16_long64_194 rfl rfl ?_
    refine pm_lload_n C dX16_long64_195 rfl rfl ?_
    refine pm_lload C dX16_long64_196 rfl ?_
    obtain ⟨v38, e39, hf⟩ := pm_lt hf
    refine pm_callS (as := [.int p1, .long p2, .long p3]) (st := []) C X dX16_long64_198 lnX16_844 myX16_plain stX16_plain ⟨by decide, by decide⟩ rfl rfl (Nat.le_of_ble_eq_true rfl) (Nat.le_refl _) (Nat.le_refl _) (ctX16_plain e39 ?_)
    show pm_G g 201 [(6, .int y1), (0, .ref a0), (1, .int p1), (2, .long p2), (4, .long p3)] [.long v38] h 0 0
    cases hf
    exact pm_lret C X dX16_long64_201 rfl (Nat.le_refl _) (Nat.le_refl _) q
  have hf := pm_ie hf c37
  by_cases c40 : p1 = 11
  · have hf := pm_it hf c40
    refine pm_tableIn (tgt := 194) C dX16_long64_9 (by rw [c40]; decide) (by rw [c40]; decide) (by rw [c40]; rfl) (by decide) ?_
    refine pm_iload_n C dX16_long64_194 rfl rfl ?_
    refine pm_lload_n C dX16_long64_195 rfl rfl ?_
    refine pm_lload C dX16_long64_196 rfl ?_
    obtain ⟨v41, e42, hf⟩ := pm_lt hf
    refine pm_callS (as := [.int p1, .long p2, .long p3]) (st := []) C X dX16_long64_198 lnX16_844 myX16_plain stX16_plain ⟨by decide, by decide⟩ rfl rfl (Nat.le_of_ble_eq_true rfl) (Nat.le_refl _) (Nat.le_refl _) (ctX16_plain e42 ?_)
    show pm_G g 201 [(6, .int y1), (0, .ref a0), (1, .int p1), (2, .long p2), (4, .long p3)] [.long v41] h 0 0
    cases hf
    exact pm_lret C X dX16_long64_201 rfl (Nat.le_refl _) (Nat.le_refl _) q
  have hf := pm_ie hf c40
  by_cases c43 : p1 = 12
  · have hf := pm_it hf c43
    refine pm_tableIn (tgt := 194) C dX16_long64_9 (by rw [c43]; decide) (by rw [c43]; decide) (by rw [c43]; rfl) (by decide) ?_
    refine pm_iload_n C dX16_long64_194 rfl rfl ?_
    refine pm_lload_n C dX16_long64_195 rfl rfl ?_
    refine pm_lload C dX16_long64_196 rfl ?_
    obtain ⟨v44, e45, hf⟩ := pm_lt hf
    refine pm_callS (as := [.int p1, .long p2, .long p3]) (st := []) C X dX16_long64_198 lnX16_844 myX16_plain stX16_plain ⟨by decide, by decide⟩ rfl rfl (Nat.le_of_ble_eq_true rfl) (Nat.le_refl _) (Nat.le_refl _) (ctX16_plain e45 ?_)
    show pm_G g 201 [(6, .int y1), (0, .ref a0), (1, .int p1), (2, .long p2), (4, .long p3)] [.long v44] h 0 0
    cases hf
    exact pm_lret C X dX16_long64_201 rfl (Nat.le_refl _) (Nat.le_refl _) q
  have hf := pm_ie hf c43
  by_cases c46 : p1 = 13
  · have hf := pm_it hf c46
    refine pm_tableIn (tgt := 135) C dX16_long64_9 (by rw [c46]; decide) (by rw [c46]; decide) (by rw [c46]; rfl) (by decide) ?_
    refine pm_lload_n C dX16_long64_135 rfl rfl ?_
    refine pm_iload C dX16_long64_136 rfl ?_
    refine pm_lshl C dX16_long64_138 ?_
    cases hf
    exact pm_lret C X dX16_long64_139 rfl (Nat.le_refl _) (Nat.le_refl _) q
  have hf := pm_ie hf c46
  by_cases c47 : p1 = 14
  · have hf := pm_it hf c47
    refine pm_tableIn (tgt := 140) C dX16_long64_9 (by rw [c47]; decide) (by rw [c47]; decide) (by rw [c47]; rfl) (by decide) ?_
    refine pm_lload_n C dX16_long64_140 rfl rfl ?_
    refine pm_iload C dX16_long64_141 rfl ?_
    refine pm_lshr C dX16_long64_143 ?_
    cases hf
    exact pm_lret C X dX16_long64_144 rfl (Nat.le_refl _) (Nat.le_refl _) q
  have hf := pm_ie hf c47
  by_cases c48 : p1 = 15
  · have hf := pm_it hf c48
    refine pm_tableIn (tgt := 145) C dX16_long64_9 (by rw [c48]; decide) (by rw [c48]; decide) (by rw [c48]; rfl) (by decide) ?_
    refine pm_lload_n C dX16_long64_145 rfl rfl ?_
    refine pm_iload C dX16_long64_146 rfl ?_
    refine pm_lushr C dX16_long64_148 ?_
    cases hf
    exact pm_lret C X dX16_long64_149 rfl (Nat.le_refl _) (Nat.le_refl _) q
  have hf := pm_ie hf c48
  by_cases c49 : p1 = 16
  · have hf := pm_it hf c49
    refine pm_tableIn (tgt := 150) C dX16_long64_9 (by rw [c49]; decide) (by rw [c49]; decide) (by rw [c49]; rfl) (by decide) ?_
    refine pm_iload C dX16_long64_150 rfl ?_
    refine pm_if_ne (tgt := 159) C dX16_long64_152 (by decide) (fun c50 => ?_) (fun c50 => ?_)
    · have hf := pm_ie hf c50
      refine pm_lload_n C dX16_long64_159 rfl rfl ?_
      refine pm_iload C dX16_long64_160 rfl ?_
      refine pm_lshl C dX16_long64_162 ?_
      refine pm_lload_n C dX16_long64_163 rfl rfl ?_
      refine pm_bipush (v := 64) C dX16_long64_164 (by decide) ?_
      refine pm_iload C dX16_long64_166 rfl ?_
      refine pm_isub C dX16_long64_168 ?_
      refine pm_lushr C dX16_long64_169 ?_
      refine pm_lor C dX16_long64_170 ?_
      cases hf
      exact pm_lret C X dX16_long64_171 rfl (Nat.le_refl _) (Nat.le_refl _) q
    · have hf := pm_it hf c50
      refine pm_lload_n C dX16_long64_155 rfl rfl ?_
      refine pm_goto (tgt := 171) C dX16_long64_156 (by decide) ?_
      cases hf
      exact pm_lret C X dX16_long64_171 rfl (Nat.le_refl _) (Nat.le_refl _) q
  have hf := pm_ie hf c49
  by_cases c51 : p1 = 17
  · have hf := pm_it hf c51
    refine pm_tableIn (tgt := 172) C dX16_long64_9 (by rw [c51]; decide) (by rw [c51]; decide) (by rw [c51]; rfl) (by decide) ?_
    refine pm_iload C dX16_long64_172 rfl ?_
    refine pm_if_ne (tgt := 181) C dX16_long64_174 (by decide) (fun c52 => ?_) (fun c52 => ?_)
    · have hf := pm_ie hf c52
      refine pm_lload_n C dX16_long64_181 rfl rfl ?_
      refine pm_iload C dX16_long64_182 rfl ?_
      refine pm_lushr C dX16_long64_184 ?_
      refine pm_lload_n C dX16_long64_185 rfl rfl ?_
      refine pm_bipush (v := 64) C dX16_long64_186 (by decide) ?_
      refine pm_iload C dX16_long64_188 rfl ?_
      refine pm_isub C dX16_long64_190 ?_
      refine pm_lshl C dX16_long64_191 ?_
      refine pm_lor C dX16_long64_192 ?_
      cases hf
      exact pm_lret C X dX16_long64_193 rfl (Nat.le_refl _) (Nat.le_refl _) q
    · have hf := pm_it hf c52
      refine pm_lload_n C dX16_long64_177 rfl rfl ?_
      refine pm_goto (tgt := 193) C dX16_long64_178 (by decide) ?_
      cases hf
      exact pm_lret C X dX16_long64_193 rfl (Nat.le_refl _) (Nat.le_refl _) q
  have hf := pm_ie hf c51
  have nc3 := lv_neT c3 (by decide : (0 : Int32).toInt = 0)
  have nc6 := lv_neT c6 (by decide : (1 : Int32).toInt = 1)
  have nc9 := lv_neT c9 (by decide : (2 : Int32).toInt = 2)
  have nc12 := lv_neT c12 (by decide : (3 : Int32).toInt = 3)
  have nc15 := lv_neT c15 (by decide : (4 : Int32).toInt = 4)
  have nc18 := lv_neT c18 (by decide : (5 : Int32).toInt = 5)
  have nc21 := lv_neT c21 (by decide : (6 : Int32).toInt = 6)
  have nc25 := lv_neT c25 (by decide : (7 : Int32).toInt = 7)
  have nc29 := lv_neT c29 (by decide : (8 : Int32).toInt = 8)
  have nc33 := lv_neT c33 (by decide : (9 : Int32).toInt = 9)
  have nc37 := lv_neT c37 (by decide : (10 : Int32).toInt = 10)
  have nc40 := lv_neT c40 (by decide : (11 : Int32).toInt = 11)
  have nc43 := lv_neT c43 (by decide : (12 : Int32).toInt = 12)
  have nc46 := lv_neT c46 (by decide : (13 : Int32).toInt = 13)
  have nc47 := lv_neT c47 (by decide : (14 : Int32).toInt = 14)
  have nc48 := lv_neT c48 (by decide : (15 : Int32).toInt = 15)
  have nc49 := lv_neT c49 (by decide : (16 : Int32).toInt = 16)
  have nc51 := lv_neT c51 (by decide : (17 : Int32).toInt = 17)
  refine pm_tableOut (tgt := 194) C dX16_long64_9 (by omega) (by decide) ?_
  refine pm_iload_n C dX16_long64_194 rfl rfl ?_
  refine pm_lload_n C dX16_long64_195 rfl rfl ?_
  refine pm_lload C dX16_long64_196 rfl ?_
  obtain ⟨v53, e54, hf⟩ := pm_lt hf
  refine pm_callS (as := [.int p1, .long p2, .long p3]) (st := []) C X dX16_long64_198 lnX16_844 myX16_plain stX16_plain ⟨by decide, by decide⟩ rfl rfl (Nat.le_of_ble_eq_true rfl) (Nat.le_refl _) (Nat.le_refl _) (ctX16_plain e54 ?_)
  show pm_G g 201 [(6, .int y1), (0, .ref a0), (1, .int p1), (2, .long p2), (4, .long p3)] [.long v53] h 0 0
  cases hf
  exact pm_lret C X dX16_long64_201 rfl (Nat.le_refl _) (Nat.le_refl _) q
theorem dX16_moves_0 : decode cX16_moves 0 = .ok (.aload_n 0, 1) := by decide +kernel
theorem dX16_moves_1 : decode cX16_moves 1 = .ok (.invokevirtual 603, 3) := by decide +kernel
theorem dX16_moves_4 : decode cX16_moves 4 = .ok (.l2i, 1) := by decide +kernel
theorem dX16_moves_5 : decode cX16_moves 5 = .ok (.istore_n 2, 1) := by decide +kernel
theorem dX16_moves_6 : decode cX16_moves 6 = .ok (.aload_n 0, 1) := by decide +kernel
theorem dX16_moves_7 : decode cX16_moves 7 = .ok (.getfield 179, 3) := by decide +kernel
theorem dX16_moves_10 : decode cX16_moves 10 = .ok (.aload_n 0, 1) := by decide +kernel
theorem dX16_moves_11 : decode cX16_moves 11 = .ok (.getfield 1052, 3) := by decide +kernel
theorem dX16_moves_14 : decode cX16_moves 14 = .ok (.iconst 1, 1) := by decide +kernel
theorem dX16_moves_15 : decode cX16_moves 15 = .ok (.isub, 1) := by decide +kernel
theorem dX16_moves_16 : decode cX16_moves 16 = .ok (.iaload, 1) := by decide +kernel
theorem dX16_moves_17 : decode cX16_moves 17 = .ok (.iload_n 2, 1) := by decide +kernel
theorem dX16_moves_18 : decode cX16_moves 18 = .ok (.iadd, 1) := by decide +kernel
theorem dX16_moves_19 : decode cX16_moves 19 = .ok (.istore_n 3, 1) := by decide +kernel
theorem dX16_moves_20 : decode cX16_moves 20 = .ok (.iload_n 1, 1) := by decide +kernel
theorem dX16_moves_21 : decode cX16_moves 21 = .ok (.tableswitch 135 32 36 #[35, 48, 61, 81, 108], 35) := by decide +kernel
theorem dX16_moves_56 : decode cX16_moves 56 = .ok (.aload_n 0, 1) := by decide +kernel
theorem dX16_moves_57 : decode cX16_moves 57 = .ok (.aload_n 0, 1) := by decide +kernel
theorem dX16_moves_58 : decode cX16_moves 58 = .ok (.getfield 191, 3) := by decide +kernel
theorem dX16_moves_61 : decode cX16_moves 61 = .ok (.iload_n 3, 1) := by decide +kernel
theorem dX16_moves_62 : decode cX16_moves 62 = .ok (.laload, 1) := by decide +kernel
theorem dX16_moves_63 : decode cX16_moves 63 = .ok (.invokevirtual 1136, 3) := by decide +kernel
theorem dX16_moves_66 : decode cX16_moves 66 = .ok (.goto 110, 3) := by decide +kernel
theorem dX16_moves_69 : decode cX16_moves 69 = .ok (.aload_n 0, 1) := by decide +kernel
theorem dX16_moves_70 : decode cX16_moves 70 = .ok (.getfield 191, 3) := by decide +kernel
theorem dX16_moves_73 : decode cX16_moves 73 = .ok (.iload_n 3, 1) := by decide +kernel
theorem dX16_moves_74 : decode cX16_moves 74 = .ok (.aload_n 0, 1) := by decide +kernel
theorem dX16_moves_75 : decode cX16_moves 75 = .ok (.invokevirtual 1157, 3) := by decide +kernel
theorem dX16_moves_78 : decode cX16_moves 78 = .ok (.lastore, 1) := by decide +kernel
theorem dX16_moves_79 : decode cX16_moves 79 = .ok (.goto 97, 3) := by decide +kernel
theorem dX16_moves_82 : decode cX16_moves 82 = .ok (.aload_n 0, 1) := by decide +kernel
theorem dX16_moves_83 : decode cX16_moves 83 = .ok (.getfield 191, 3) := by decide +kernel
theorem dX16_moves_86 : decode cX16_moves 86 = .ok (.iload_n 3, 1) := by decide +kernel
theorem dX16_moves_87 : decode cX16_moves 87 = .ok (.aload_n 0, 1) := by decide +kernel
theorem dX16_moves_88 : decode cX16_moves 88 = .ok (.getfield 191, 3) := by decide +kernel
theorem dX16_moves_91 : decode cX16_moves 91 = .ok (.aload_n 0, 1) := by decide +kernel
theorem dX16_moves_92 : decode cX16_moves 92 = .ok (.getfield 1104, 3) := by decide +kernel
theorem dX16_moves_95 : decode cX16_moves 95 = .ok (.iconst 1, 1) := by decide +kernel
theorem dX16_moves_96 : decode cX16_moves 96 = .ok (.isub, 1) := by decide +kernel
theorem dX16_moves_97 : decode cX16_moves 97 = .ok (.laload, 1) := by decide +kernel
theorem dX16_moves_98 : decode cX16_moves 98 = .ok (.lastore, 1) := by decide +kernel
theorem dX16_moves_99 : decode cX16_moves 99 = .ok (.goto 77, 3) := by decide +kernel
theorem dX16_moves_102 : decode cX16_moves 102 = .ok (.aload_n 0, 1) := by decide +kernel
theorem dX16_moves_103 : decode cX16_moves 103 = .ok (.aload_n 0, 1) := by decide +kernel
theorem dX16_moves_104 : decode cX16_moves 104 = .ok (.getfield 128, 3) := by decide +kernel
theorem dX16_moves_107 : decode cX16_moves 107 = .ok (.aload_n 0, 1) := by decide +kernel
theorem dX16_moves_108 : decode cX16_moves 108 = .ok (.getfield 143, 3) := by decide +kernel
theorem dX16_moves_111 : decode cX16_moves 111 = .ok (.sipush 128, 3) := by decide +kernel
theorem dX16_moves_114 : decode cX16_moves 114 = .ok (.aload_n 0, 1) := by decide +kernel
theorem dX16_moves_115 : decode cX16_moves 115 = .ok (.getfield 1110, 3) := by decide +kernel
theorem dX16_moves_118 : decode cX16_moves 118 = .ok (.imul, 1) := by decide +kernel
theorem dX16_moves_119 : decode cX16_moves 119 = .ok (.iload_n 2, 1) := by decide +kernel
theorem dX16_moves_120 : decode cX16_moves 120 = .ok (.iadd, 1) := by decide +kernel
theorem dX16_moves_121 : decode cX16_moves 121 = .ok (.iaload, 1) := by decide +kernel
theorem dX16_moves_122 : decode cX16_moves 122 = .ok (.laload, 1) := by decide +kernel
theorem dX16_moves_123 : decode cX16_moves 123 = .ok (.invokevirtual 1136, 3) := by decide +kernel
theorem dX16_moves_126 : decode cX16_moves 126 = .ok (.goto 50, 3) := by decide +kernel
theorem dX16_moves_129 : decode cX16_moves 129 = .ok (.aload_n 0, 1) := by decide +kernel
theorem dX16_moves_130 : decode cX16_moves 130 = .ok (.getfield 128, 3) := by decide +kernel
theorem dX16_moves_133 : decode cX16_moves 133 = .ok (.aload_n 0, 1) := by decide +kernel
theorem dX16_moves_134 : decode cX16_moves 134 = .ok (.getfield 143, 3) := by decide +kernel
theorem dX16_moves_137 : decode cX16_moves 137 = .ok (.sipush 128, 3) := by decide +kernel
theorem dX16_moves_140 : decode cX16_moves 140 = .ok (.aload_n 0, 1) := by decide +kernel
theorem dX16_moves_141 : decode cX16_moves 141 = .ok (.getfield 1110, 3) := by decide +kernel
theorem dX16_moves_144 : decode cX16_moves 144 = .ok (.imul, 1) := by decide +kernel
theorem dX16_moves_145 : decode cX16_moves 145 = .ok (.iload_n 2, 1) := by decide +kernel
theorem dX16_moves_146 : decode cX16_moves 146 = .ok (.iadd, 1) := by decide +kernel
theorem dX16_moves_147 : decode cX16_moves 147 = .ok (.iaload, 1) := by decide +kernel
theorem dX16_moves_148 : decode cX16_moves 148 = .ok (.aload_n 0, 1) := by decide +kernel
theorem dX16_moves_149 : decode cX16_moves 149 = .ok (.invokevirtual 1157, 3) := by decide +kernel
theorem dX16_moves_152 : decode cX16_moves 152 = .ok (.lastore, 1) := by decide +kernel
theorem dX16_moves_153 : decode cX16_moves 153 = .ok (.goto 23, 3) := by decide +kernel
theorem dX16_moves_156 : decode cX16_moves 156 = .ok (.aload_n 0, 1) := by decide +kernel
theorem dX16_moves_157 : decode cX16_moves 157 = .ok (.iload_n 1, 1) := by decide +kernel
theorem dX16_moves_158 : decode cX16_moves 158 = .ok (.aload_n 0, 1) := by decide +kernel
theorem dX16_moves_159 : decode cX16_moves 159 = .ok (.getfield 137, 3) := by decide +kernel
theorem dX16_moves_162 : decode cX16_moves 162 = .ok (.sipush 128, 3) := by decide +kernel
theorem dX16_moves_165 : decode cX16_moves 165 = .ok (.aload_n 0, 1) := by decide +kernel
theorem dX16_moves_166 : decode cX16_moves 166 = .ok (.getfield 1110, 3) := by decide +kernel
theorem dX16_moves_169 : decode cX16_moves 169 = .ok (.imul, 1) := by decide +kernel
theorem dX16_moves_170 : decode cX16_moves 170 = .ok (.iload_n 2, 1) := by decide +kernel
theorem dX16_moves_171 : decode cX16_moves 171 = .ok (.iadd, 1) := by decide +kernel
theorem dX16_moves_172 : decode cX16_moves 172 = .ok (.iaload, 1) := by decide +kernel
theorem dX16_moves_173 : decode cX16_moves 173 = .ok (.invokevirtual 1179, 3) := by decide +kernel
theorem dX16_moves_176 : decode cX16_moves 176 = .ok (.return_, 1) := by decide +kernel
noncomputable def fX16_moves (h : pm_H) (a0 : Nat) (p1 : Int32) : Option pm_H := if pm_kd h a0 = 16 then (fX16_word h a0).bind fun v2 => if pm_kd v2.2 a0 = 16 then (pm_R v2.2 a0 88).bind fun v5 => pm_let ((pm_I v2.2 a0 85) - 1) fun y7 => if pm_kd v2.2 v5 = 34 then if pm_in y7 (pm_ln v2.2 v5) then pm_let ((pm_I v2.2 v5 y7.toNatClampNeg) + v2.1.toInt32) fun y11 => if p1 = 32 then ((pm_R v2.2 a0 92).bind fun v14 => if pm_kd v2.2 v14 = 35 then if pm_in y11 (pm_ln v2.2 v14) then (fX16_push v2.2 a0 (pm_L v2.2 v14 y11.toNatClampNeg)).bind fun v18 => some v18 else none else none) else (if p1 = 33 then ((pm_R v2.2 a0 92).bind fun v21 => (fX16_pop v2.2 a0).bind fun v23 => if pm_kd v23.2 v21 = 35 then if pm_in y11 (pm_ln v23.2 v21) then some (pm_setL v23.2 v21 y11.toNatClampNeg v23.1) else none else none) else (if p1 = 34 then ((pm_R v2.2 a0 92).bind fun v28 => pm_let ((pm_I v2.2 a0 93) - 1) fun y30 => if pm_kd v2.2 v28 = 35 then if pm_in y30 (pm_ln v2.2 v28) then pm_let (pm_L v2.2 v28 y30.toNatClampNeg) fun y34 => if pm_in y11 (pm_ln v2.2 v28) then some (pm_setL v2.2 v28 y11.toNatClampNeg y34) else none else none else none) else (if p1 = 35 then ((pm_R v2.2 a0 61).bind fun v38 => (pm_R v2.2 a0 67).bind fun v40 => pm_let ((128 * (pm_I v2.2 a0 95)) + v2.1.toInt32) fun y42 => if pm_kd v2.2 v40 = 34 then if pm_in y42 (pm_ln v2.2 v40) then pm_let (pm_I v2.2 v40 y42.toNatClampNeg) fun y46 => if pm_kd v2.2 v38 = 35 then if pm_in y46 (pm_ln v2.2 v38) then (fX16_push v2.2 a0 (pm_L v2.2 v38 y46.toNatClampNeg)).bind fun v50 => some v50 else none else none else none else none) else (if p1 = 36 then ((pm_R v2.2 a0 61).bind fun v53 => (pm_R v2.2 a0 67).bind fun v55 => pm_let ((128 * (pm_I v2.2 a0 95)) + v2.1.toInt32) fun y57 => if pm_kd v2.2 v55 = 34 then if pm_in y57 (pm_ln v2.2 v55) then (fX16_pop v2.2 a0).bind fun v61 => if pm_kd v61.2 v53 = 35 then if pm_in (pm_I v2.2 v55 y57.toNatClampNeg) (pm_ln v61.2 v53) then some (pm_setL v61.2 v53 ((pm_I v2.2 v55 y57.toNatClampNeg).toNatClampNeg) v61.1) else none else none else none else none) else ((pm_R v2.2 a0 65).bind fun v65 => pm_let ((128 * (pm_I v2.2 a0 95)) + v2.1.toInt32) fun y67 => if pm_kd v2.2 v65 = 34 then if pm_in y67 (pm_ln v2.2 v65) then (fX16_entry v2.2 a0 p1 (pm_I v2.2 v65 y67.toNatClampNeg)).bind fun v71 => some v71 else none else none))))) else none else none else none else none
set_option maxHeartbeats 4000000 in
set_option maxRecDepth 100000 in
theorem ctX16_moves {l : Launch} {G : pm_Gl} {h : pm_H} {a0 : Nat} {p1 : Int32} {r : pm_H} {Qr : Option Value → pm_H → Prop} (hf : fX16_moves h a0 p1 = some r) (q : Qr none r) : pm_Ct l G mX16_moves [.ref a0, .int p1] h 0 0 Qr := by
  refine pm_body pnX16 (Nat.le_of_ble_eq_true rfl) (fun g C X => ?_)
  have C : pm_C g cX16_moves RX16 := C
  show pm_G g 0 [(0, .ref a0), (1, .int p1)] [] h 0 0
  unfold fX16_moves at hf
  refine pm_aload_n C dX16_moves_0 rfl rfl ?_
  obtain ⟨k1, hf⟩ := pm_if hf
  obtain ⟨v2, e3, hf⟩ := pm_bd hf
  refine pm_callV (as := []) (st := []) C X dX16_moves_1 lnX16_603 myX16_word viX16_word ⟨by decide, by decide⟩ rfl rfl k1 (Nat.le_of_ble_eq_true rfl) (Nat.le_refl _) (Nat.le_refl _) (ctX16_word e3 ?_)
  show pm_G g 4 [(0, .ref a0), (1, .int p1)] [.long v2.1] v2.2 0 0
  refine pm_l2i C dX16_moves_4 ?_
  refine pm_istore_n (lv' := [(2, .int v2.1.toInt32), (0, .ref a0), (1, .int p1)]) C dX16_moves_5 rfl (pm_nl X (by decide)) rfl ?_
  refine pm_aload_n C dX16_moves_6 rfl rfl ?_
  obtain ⟨k4, hf⟩ := pm_if hf
  obtain ⟨v5, e6, hf⟩ := pm_bd hf
  refine pm_getR C dX16_moves_7 flX16_179 rfl k4 e6 ?_
  refine pm_aload_n C dX16_moves_10 rfl rfl ?_
  refine pm_getI C dX16_moves_11 flX16_1052 rfl k4 rfl ?_
  refine pm_iconst (v := 1) C dX16_moves_14 (by decide) ?_
  refine pm_isub C dX16_moves_15 ?_
  obtain ⟨y7, e8, hf⟩ := pm_lt hf
  refine pm_topI e8 ?_
  obtain ⟨k9, hf⟩ := pm_if hf
  obtain ⟨u10, hf⟩ := pm_if hf
  refine pm_iald C dX16_moves_16 k9 u10 rfl ?_
  refine pm_iload_n C dX16_moves_17 rfl rfl ?_
  refine pm_iadd C dX16_moves_18 ?_
  obtain ⟨y11, e12, hf⟩ := pm_lt hf
  refine pm_topI e12 ?_
  refine pm_istore_n (lv' := [(3, .int y11), (2, .int v2.1.toInt32), (0, .ref a0), (1, .int p1)]) C dX16_moves_19 rfl (pm_nl X (by decide)) rfl ?_
  refine pm_iload_n C dX16_moves_20 rfl rfl ?_
  by_cases c13 : p1 = 32
  · have hf := pm_it hf c13
    refine pm_tableIn (tgt := 56) C dX16_moves_21 (by rw [c13]; decide) (by rw [c13]; decide) (by rw [c13]; rfl) (by decide) ?_
    refine pm_aload_n C dX16_moves_56 rfl rfl ?_
    refine pm_aload_n C dX16_moves_57 rfl rfl ?_
    obtain ⟨v14, e15, hf⟩ := pm_bd hf
    refine pm_getR C dX16_moves_58 flX16_191 rfl k4 e15 ?_
    refine pm_iload_n C dX16_moves_61 rfl rfl ?_
    obtain ⟨k16, hf⟩ := pm_if hf
    obtain ⟨u17, hf⟩ := pm_if hf
    refine pm_lald C dX16_moves_62 k16 u17 rfl ?_
    obtain ⟨v18, e19, hf⟩ := pm_bd hf
    refine pm_callV (as := [.long (pm_L v2.2 v14 y11.toNatClampNeg)]) (st := []) C X dX16_moves_63 lnX16_1136 myX16_push viX16_push ⟨by decide, by decide⟩ rfl rfl k4 (Nat.le_of_ble_eq_true rfl) (Nat.le_refl _) (Nat.le_refl _) (ctX16_push e19 ?_)
    show pm_G g 66 [(3, .int y11), (2, .int v2.1.toInt32), (0, .ref a0), (1, .int p1)] [] v18 0 0
    refine pm_goto (tgt := 176) C dX16_moves_66 (by decide) ?_
    cases hf
    exact pm_vret C X dX16_moves_176 rfl (Nat.le_refl _) (Nat.le_refl _) q
  have hf := pm_ie hf c13
  by_cases c20 : p1 = 33
  · have hf := pm_it hf c20
    refine pm_tableIn (tgt := 69) C dX16_moves_21 (by rw [c20]; decide) (by rw [c20]; decide) (by rw [c20]; rfl) (by decide) ?_
    refine pm_aload_n C dX16_moves_69 rfl rfl ?_
    obtain ⟨v21, e22, hf⟩ := pm_bd hf
    refine pm_getR C dX16_moves_70 flX16_191 rfl k4 e22 ?_
    refine pm_iload_n C dX16_moves_73 rfl rfl ?_
    refine pm_aload_n C dX16_moves_74 rfl rfl ?_
    obtain ⟨v23, e24, hf⟩ := pm_bd hf
    refine pm_callV (as := []) (st := [.int y11, .ref v21]) C X dX16_moves_75 lnX16_1157 myX16_pop viX16_pop ⟨by decide, by decide⟩ rfl rfl k4 (Nat.le_of_ble_eq_true rfl) (Nat.le_refl _) (Nat.le_refl _) (ctX16_pop e24 ?_)
    show pm_G g 78 [(3, .int y11), (2, .int v2.1.toInt32), (0, .ref a0), (1, .int p1)] [.long v23.1, .int y11, .ref v21] v23.2 0 0
    obtain ⟨k25, hf⟩ := pm_if hf
    obtain ⟨u26, hf⟩ := pm_if hf
    refine pm_last C dX16_moves_78 k25 u26 ?_
    refine pm_goto (tgt := 176) C dX16_moves_79 (by decide) ?_
    cases hf
    exact pm_vret C X dX16_moves_176 rfl (Nat.le_refl _) (Nat.le_refl _) q
  have hf := pm_ie hf c20
  by_cases c27 : p1 = 34
  · have hf := pm_it hf c27
    refine pm_tableIn (tgt := 82) C dX16_moves_21 (by rw [c27]; decide) (by rw [c27]; decide) (by rw [c27]; rfl) (by decide) ?_
    refine pm_aload_n C dX16_moves_82 rfl rfl ?_
    obtain ⟨v28, e29, hf⟩ := pm_bd hf
    refine pm_getR C dX16_moves_83 flX16_191 rfl k4 e29 ?_
    refine pm_iload_n C dX16_moves_86 rfl rfl ?_
    refine pm_aload_n C dX16_moves_87 rfl rfl ?_
    refine pm_getR C dX16_moves_88 flX16_191 rfl k4 e29 ?_
    refine pm_aload_n C dX16_moves_91 rfl rfl ?_
    refine pm_getI C dX16_moves_92 flX16_1104 rfl k4 rfl ?_
    refine pm_iconst (v := 1) C dX16_moves_95 (by decide) ?_
    refine pm_isub C dX16_moves_96 ?_
    obtain ⟨y30, e31, hf⟩ := pm_lt hf
    refine pm_topI e31 ?_
    obtain ⟨k32, hf⟩ := pm_if hf
    obtain ⟨u33, hf⟩ := pm_if hf
    refine pm_lald C dX16_moves_97 k32 u33 rfl ?_
    obtain ⟨y34, e35, hf⟩ := pm_lt hf
    refine pm_topL e35 ?_
    obtain ⟨u36, hf⟩ := pm_if hf
    refine pm_last C dX16_moves_98 k32 u36 ?_
    refine pm_goto (tgt := 176) C dX16_moves_99 (by decide) ?_
    cases hf
    exact pm_vret C X dX16_moves_176 rfl (Nat.le_refl _) (Nat.le_refl _) q
  have hf := pm_ie hf c27
  by_cases c37 : p1 = 35
  · have hf := pm_it hf c37
    refine pm_tableIn (tgt := 102) C dX16_moves_21 (by rw [c37]; decide) (by rw [c37]; decide) (by rw [c37]; rfl) (by decide) ?_
    refine pm_aload_n C dX16_moves_102 rfl rfl ?_
    refine pm_aload_n C dX16_moves_103 rfl rfl ?_
    obtain ⟨v38, e39, hf⟩ := pm_bd hf
    refine pm_getR C dX16_moves_104 flX16_128 rfl k4 e39 ?_
    refine pm_aload_n C dX16_moves_107 rfl rfl ?_
    obtain ⟨v40, e41, hf⟩ := pm_bd hf
    refine pm_getR C dX16_moves_108 flX16_143 rfl k4 e41 ?_
    refine pm_sipush (v := 128) C dX16_moves_111 (by decide) ?_
    refine pm_aload_n C dX16_moves_114 rfl rfl ?_
    refine pm_getI C dX16_moves_115 flX16_1110 rfl k4 rfl ?_
    refine pm_imul C dX16_moves_118 ?_
    refine pm_iload_n C dX16_moves_119 rfl rfl ?_
    refine pm_iadd C dX16_moves_120 ?_
    obtain ⟨y42, e43, hf⟩ := pm_lt hf
    refine pm_topI e43 ?_
    obtain ⟨k44, hf⟩ := pm_if hf
    obtain ⟨u45, hf⟩ := pm_if hf
    refine pm_iald C dX16_moves_121 k44 u45 rfl ?_
    obtain ⟨y46, e47, hf⟩ := pm_lt hf
    refine pm_topI e47 ?_
    obtain ⟨k48, hf⟩ := pm_if hf
    obtain ⟨u49, hf⟩ := pm_if hf
    refine pm_lald C dX16_moves_122 k48 u49 rfl ?_
    obtain ⟨v50, e51, hf⟩ := pm_bd hf
    refine pm_callV (as := [.long (pm_L v2.2 v38 y46.toNatClampNeg)]) (st := []) C X dX16_moves_123 lnX16_1136 myX16_push viX16_push ⟨by decide, by decide⟩ rfl rfl k4 (Nat.le_of_ble_eq_true rfl) (Nat.le_refl _) (Nat.le_refl _) (ctX16_push e51 ?_)
    show pm_G g 126 [(3, .int y11), (2, .int v2.1.toInt32), (0, .ref a0), (1, .int p1)] [] v50 0 0
    refine pm_goto (tgt := 176) C dX16_moves_126 (by decide) ?_
    cases hf
    exact pm_vret C X dX16_moves_176 rfl (Nat.le_refl _) (Nat.le_refl _) q
  have hf := pm_ie hf c37
  by_cases c52 : p1 = 36
  · have hf := pm_it hf c52
    refine pm_tableIn (tgt := 129) C dX16_moves_21 (by rw [c52]; decide) (by rw [c52]; decide) (by rw [c52]; rfl) (by decide) ?_
    refine pm_aload_n C dX16_moves_129 rfl rfl ?_
    obtain ⟨v53, e54, hf⟩ := pm_bd hf
    refine pm_getR C dX16_moves_130 flX16_128 rfl k4 e54 ?_
    refine pm_aload_n C dX16_moves_133 rfl rfl ?_
    obtain ⟨v55, e56, hf⟩ := pm_bd hf
    refine pm_getR C dX16_moves_134 flX16_143 rfl k4 e56 ?_
    refine pm_sipush (v := 128) C dX16_moves_137 (by decide) ?_
    refine pm_aload_n C dX16_moves_140 rfl rfl ?_
    refine pm_getI C dX16_moves_141 flX16_1110 rfl k4 rfl ?_
    refine pm_imul C dX16_moves_144 ?_
    refine pm_iload_n C dX16_moves_145 rfl rfl ?_
    refine pm_iadd C dX16_moves_146 ?_
    obtain ⟨y57, e58, hf⟩ := pm_lt hf
    refine pm_topI e58 ?_
    obtain ⟨k59, hf⟩ := pm_if hf
    obtain ⟨u60, hf⟩ := pm_if hf
    refine pm_iald C dX16_moves_147 k59 u60 rfl ?_
    refine pm_aload_n C dX16_moves_148 rfl rfl ?_
    obtain ⟨v61, e62, hf⟩ := pm_bd hf
    refine pm_callV (as := []) (st := [.int (pm_I v2.2 v55 y57.toNatClampNeg), .ref v53]) C X dX16_moves_149 lnX16_1157 myX16_pop viX16_pop ⟨by decide, by decide⟩ rfl rfl k4 (Nat.le_of_ble_eq_true rfl) (Nat.le_refl _) (Nat.le_refl _) (ctX16_pop e62 ?_)
    show pm_G g 152 [(3, .int y11), (2, .int v2.1.toInt32), (0, .ref a0), (1, .int p1)] [.long v61.1, .int (pm_I v2.2 v55 y57.toNatClampNeg), .ref v53] v61.2 0 0
    obtain ⟨k63, hf⟩ := pm_if hf
    obtain ⟨u64, hf⟩ := pm_if hf
    refine pm_last C dX16_moves_152 k63 u64 ?_
    refine pm_goto (tgt := 176) C dX16_moves_153 (by decide) ?_
    cases hf
    exact pm_vret C X dX16_moves_176 rfl (Nat.le_refl _) (Nat.le_refl _) q
  have hf := pm_ie hf c52
  have nc13 := lv_neT c13 (by decide : (32 : Int32).toInt = 32)
  have nc20 := lv_neT c20 (by decide : (33 : Int32).toInt = 33)
  have nc27 := lv_neT c27 (by decide : (34 : Int32).toInt = 34)
  have nc37 := lv_neT c37 (by decide : (35 : Int32).toInt = 35)
  have nc52 := lv_neT c52 (by decide : (36 : Int32).toInt = 36)
  refine pm_tableOut (tgt := 156) C dX16_moves_21 (by omega) (by decide) ?_
  refine pm_aload_n C dX16_moves_156 rfl rfl ?_
  refine pm_iload_n C dX16_moves_157 rfl rfl ?_
  refine pm_aload_n C dX16_moves_158 rfl rfl ?_
  obtain ⟨v65, e66, hf⟩ := pm_bd hf
  refine pm_getR C dX16_moves_159 flX16_137 rfl k4 e66 ?_
  refine pm_sipush (v := 128) C dX16_moves_162 (by decide) ?_
  refine pm_aload_n C dX16_moves_165 rfl rfl ?_
  refine pm_getI C dX16_moves_166 flX16_1110 rfl k4 rfl ?_
  refine pm_imul C dX16_moves_169 ?_
  refine pm_iload_n C dX16_moves_170 rfl rfl ?_
  refine pm_iadd C dX16_moves_171 ?_
  obtain ⟨y67, e68, hf⟩ := pm_lt hf
  refine pm_topI e68 ?_
  obtain ⟨k69, hf⟩ := pm_if hf
  obtain ⟨u70, hf⟩ := pm_if hf
  refine pm_iald C dX16_moves_172 k69 u70 rfl ?_
  obtain ⟨v71, e72, hf⟩ := pm_bd hf
  refine pm_callV (as := [.int p1, .int (pm_I v2.2 v65 y67.toNatClampNeg)]) (st := []) C X dX16_moves_173 lnX16_1179 myX16_entry viX16_entry ⟨by decide, by decide⟩ rfl rfl k4 (Nat.le_of_ble_eq_true rfl) (Nat.le_refl _) (Nat.le_refl _) (ctX16_entry e72 ?_)
  show pm_G g 176 [(3, .int y11), (2, .int v2.1.toInt32), (0, .ref a0), (1, .int p1)] [] v71 0 0
  cases hf
  exact pm_vret C X dX16_moves_176 rfl (Nat.le_refl _) (Nat.le_refl _) q
