theorem dX16_isNamed_0 : decode cX16_isNamed 0 = .ok (.aload_n 0, 1) := by decide +kernel
theorem dX16_isNamed_1 : decode cX16_isNamed 1 = .ok (.iload_n 1, 1) := by decide +kernel
theorem dX16_isNamed_2 : decode cX16_isNamed 2 = .ok (.iconst 1, 1) := by decide +kernel
theorem dX16_isNamed_3 : decode cX16_isNamed 3 = .ok (.iadd, 1) := by decide +kernel
theorem dX16_isNamed_4 : decode cX16_isNamed 4 = .ok (.putfield 594, 3) := by decide +kernel
theorem dX16_isNamed_7 : decode cX16_isNamed 7 = .ok (.iload_n 2, 1) := by decide +kernel
theorem dX16_isNamed_8 : decode cX16_isNamed 8 = .ok (.iconst 2, 1) := by decide +kernel
theorem dX16_isNamed_9 : decode cX16_isNamed 9 = .ok (.if_icmp .lt 30, 3) := by decide +kernel
theorem dX16_isNamed_12 : decode cX16_isNamed 12 = .ok (.iload_n 2, 1) := by decide +kernel
theorem dX16_isNamed_13 : decode cX16_isNamed 13 = .ok (.iconst 4, 1) := by decide +kernel
theorem dX16_isNamed_14 : decode cX16_isNamed 14 = .ok (.if_icmp .gt 25, 3) := by decide +kernel
theorem dX16_isNamed_17 : decode cX16_isNamed 17 = .ok (.aload_n 0, 1) := by decide +kernel
theorem dX16_isNamed_18 : decode cX16_isNamed 18 = .ok (.invokevirtual 600, 3) := by decide +kernel
theorem dX16_isNamed_21 : decode cX16_isNamed 21 = .ok (.aload_n 0, 1) := by decide +kernel
theorem dX16_isNamed_22 : decode cX16_isNamed 22 = .ok (.getfield 221, 3) := by decide +kernel
theorem dX16_isNamed_25 : decode cX16_isNamed 25 = .ok (.getfield 381, 3) := by decide +kernel
theorem dX16_isNamed_28 : decode cX16_isNamed 28 = .ok (.i2l, 1) := by decide +kernel
theorem dX16_isNamed_29 : decode cX16_isNamed 29 = .ok (.lcmp, 1) := by decide +kernel
theorem dX16_isNamed_30 : decode cX16_isNamed 30 = .ok (.ifCond .ge 7, 3) := by decide +kernel
theorem dX16_isNamed_33 : decode cX16_isNamed 33 = .ok (.iconst 1, 1) := by decide +kernel
theorem dX16_isNamed_34 : decode cX16_isNamed 34 = .ok (.goto 4, 3) := by decide +kernel
theorem dX16_isNamed_37 : decode cX16_isNamed 37 = .ok (.iconst 0, 1) := by decide +kernel
theorem dX16_isNamed_38 : decode cX16_isNamed 38 = .ok (.ireturn, 1) := by decide +kernel
theorem dX16_isNamed_39 : decode cX16_isNamed 39 = .ok (.iload_n 2, 1) := by decide +kernel
theorem dX16_isNamed_40 : decode cX16_isNamed 40 = .ok (.bipush 12, 2) := by decide +kernel
theorem dX16_isNamed_42 : decode cX16_isNamed 42 = .ok (.if_icmp .eq 9, 3) := by decide +kernel
theorem dX16_isNamed_45 : decode cX16_isNamed 45 = .ok (.iload_n 2, 1) := by decide +kernel
theorem dX16_isNamed_46 : decode cX16_isNamed 46 = .ok (.bipush 13, 2) := by decide +kernel
theorem dX16_isNamed_48 : decode cX16_isNamed 48 = .ok (.if_icmp .ne 22, 3) := by decide +kernel
theorem dX16_isNamed_51 : decode cX16_isNamed 51 = .ok (.aload_n 0, 1) := by decide +kernel
theorem dX16_isNamed_52 : decode cX16_isNamed 52 = .ok (.invokevirtual 603, 3) := by decide +kernel
theorem dX16_isNamed_55 : decode cX16_isNamed 55 = .ok (.aload_n 0, 1) := by decide +kernel
theorem dX16_isNamed_56 : decode cX16_isNamed 56 = .ok (.getfield 682, 3) := by decide +kernel
theorem dX16_isNamed_59 : decode cX16_isNamed 59 = .ok (.i2l, 1) := by decide +kernel
theorem dX16_isNamed_60 : decode cX16_isNamed 60 = .ok (.lcmp, 1) := by decide +kernel
theorem dX16_isNamed_61 : decode cX16_isNamed 61 = .ok (.ifCond .ge 7, 3) := by decide +kernel
theorem dX16_isNamed_64 : decode cX16_isNamed 64 = .ok (.iconst 1, 1) := by decide +kernel
theorem dX16_isNamed_65 : decode cX16_isNamed 65 = .ok (.goto 4, 3) := by decide +kernel
theorem dX16_isNamed_68 : decode cX16_isNamed 68 = .ok (.iconst 0, 1) := by decide +kernel
theorem dX16_isNamed_69 : decode cX16_isNamed 69 = .ok (.ireturn, 1) := by decide +kernel
theorem dX16_isNamed_70 : decode cX16_isNamed 70 = .ok (.iload_n 2, 1) := by decide +kernel
theorem dX16_isNamed_71 : decode cX16_isNamed 71 = .ok (.bipush 14, 2) := by decide +kernel
theorem dX16_isNamed_73 : decode cX16_isNamed 73 = .ok (.if_icmp .ne 70, 3) := by decide +kernel
theorem dX16_isNamed_76 : decode cX16_isNamed 76 = .ok (.aload_n 0, 1) := by decide +kernel
theorem dX16_isNamed_77 : decode cX16_isNamed 77 = .ok (.invokevirtual 603, 3) := by decide +kernel
theorem dX16_isNamed_80 : decode cX16_isNamed 80 = .ok (.lstore_n 3, 1) := by decide +kernel
theorem dX16_isNamed_81 : decode cX16_isNamed 81 = .ok (.iconst 1, 1) := by decide +kernel
theorem dX16_isNamed_82 : decode cX16_isNamed 82 = .ok (.istore 5, 2) := by decide +kernel
theorem dX16_isNamed_84 : decode cX16_isNamed 84 = .ok (.lconst 0, 1) := by decide +kernel
theorem dX16_isNamed_85 : decode cX16_isNamed 85 = .ok (.lstore 6, 2) := by decide +kernel
theorem dX16_isNamed_87 : decode cX16_isNamed 87 = .ok (.lload 6, 2) := by decide +kernel
theorem dX16_isNamed_89 : decode cX16_isNamed 89 = .ok (.lload_n 3, 1) := by decide +kernel
theorem dX16_isNamed_90 : decode cX16_isNamed 90 = .ok (.lcmp, 1) := by decide +kernel
theorem dX16_isNamed_91 : decode cX16_isNamed 91 = .ok (.ifCond .gt 49, 3) := by decide +kernel
theorem dX16_isNamed_94 : decode cX16_isNamed 94 = .ok (.aload_n 0, 1) := by decide +kernel
theorem dX16_isNamed_95 : decode cX16_isNamed 95 = .ok (.invokevirtual 603, 3) := by decide +kernel
theorem dX16_isNamed_98 : decode cX16_isNamed 98 = .ok (.aload_n 0, 1) := by decide +kernel
theorem dX16_isNamed_99 : decode cX16_isNamed 99 = .ok (.getfield 682, 3) := by decide +kernel
theorem dX16_isNamed_102 : decode cX16_isNamed 102 = .ok (.i2l, 1) := by decide +kernel
theorem dX16_isNamed_103 : decode cX16_isNamed 103 = .ok (.lcmp, 1) := by decide +kernel
theorem dX16_isNamed_104 : decode cX16_isNamed 104 = .ok (.ifCond .ge 7, 3) := by decide +kernel
theorem dX16_isNamed_107 : decode cX16_isNamed 107 = .ok (.iconst 1, 1) := by decide +kernel
theorem dX16_isNamed_108 : decode cX16_isNamed 108 = .ok (.goto 4, 3) := by decide +kernel
theorem dX16_isNamed_111 : decode cX16_isNamed 111 = .ok (.iconst 0, 1) := by decide +kernel
theorem dX16_isNamed_112 : decode cX16_isNamed 112 = .ok (.istore 8, 2) := by decide +kernel
theorem dX16_isNamed_114 : decode cX16_isNamed 114 = .ok (.iload 5, 2) := by decide +kernel
theorem dX16_isNamed_116 : decode cX16_isNamed 116 = .ok (.ifCond .eq 12, 3) := by decide +kernel
theorem dX16_isNamed_119 : decode cX16_isNamed 119 = .ok (.iload 8, 2) := by decide +kernel
theorem dX16_isNamed_121 : decode cX16_isNamed 121 = .ok (.ifCond .eq 7, 3) := by decide +kernel
theorem dX16_isNamed_124 : decode cX16_isNamed 124 = .ok (.iconst 1, 1) := by decide +kernel
theorem dX16_isNamed_125 : decode cX16_isNamed 125 = .ok (.goto 4, 3) := by decide +kernel
theorem dX16_isNamed_128 : decode cX16_isNamed 128 = .ok (.iconst 0, 1) := by decide +kernel
theorem dX16_isNamed_129 : decode cX16_isNamed 129 = .ok (.istore 5, 2) := by decide +kernel
theorem dX16_isNamed_131 : decode cX16_isNamed 131 = .ok (.lload 6, 2) := by decide +kernel
theorem dX16_isNamed_133 : decode cX16_isNamed 133 = .ok (.lconst 1, 1) := by decide +kernel
theorem dX16_isNamed_134 : decode cX16_isNamed 134 = .ok (.ladd, 1) := by decide +kernel
theorem dX16_isNamed_135 : decode cX16_isNamed 135 = .ok (.lstore 6, 2) := by decide +kernel
theorem dX16_isNamed_137 : decode cX16_isNamed 137 = .ok (.goto (-50), 3) := by decide +kernel
theorem dX16_isNamed_140 : decode cX16_isNamed 140 = .ok (.iload 5, 2) := by decide +kernel
theorem dX16_isNamed_142 : decode cX16_isNamed 142 = .ok (.ireturn, 1) := by decide +kernel
theorem dX16_isNamed_143 : decode cX16_isNamed 143 = .ok (.iload_n 2, 1) := by decide +kernel
theorem dX16_isNamed_144 : decode cX16_isNamed 144 = .ok (.bipush 16, 2) := by decide +kernel
theorem dX16_isNamed_146 : decode cX16_isNamed 146 = .ok (.if_icmp .ne 26, 3) := by decide +kernel
theorem dX16_isNamed_149 : decode cX16_isNamed 149 = .ok (.aload_n 0, 1) := by decide +kernel
theorem dX16_isNamed_150 : decode cX16_isNamed 150 = .ok (.invokevirtual 603, 3) := by decide +kernel
theorem dX16_isNamed_153 : decode cX16_isNamed 153 = .ok (.aload_n 0, 1) := by decide +kernel
theorem dX16_isNamed_154 : decode cX16_isNamed 154 = .ok (.getfield 221, 3) := by decide +kernel
theorem dX16_isNamed_157 : decode cX16_isNamed 157 = .ok (.iconst 0, 1) := by decide +kernel
theorem dX16_isNamed_158 : decode cX16_isNamed 158 = .ok (.invokevirtual 615, 3) := by decide +kernel
theorem dX16_isNamed_161 : decode cX16_isNamed 161 = .ok (.i2l, 1) := by decide +kernel
theorem dX16_isNamed_162 : decode cX16_isNamed 162 = .ok (.lcmp, 1) := by decide +kernel
theorem dX16_isNamed_163 : decode cX16_isNamed 163 = .ok (.ifCond .ge 7, 3) := by decide +kernel
theorem dX16_isNamed_166 : decode cX16_isNamed 166 = .ok (.iconst 1, 1) := by decide +kernel
theorem dX16_isNamed_167 : decode cX16_isNamed 167 = .ok (.goto 4, 3) := by decide +kernel
theorem dX16_isNamed_170 : decode cX16_isNamed 170 = .ok (.iconst 0, 1) := by decide +kernel
theorem dX16_isNamed_171 : decode cX16_isNamed 171 = .ok (.ireturn, 1) := by decide +kernel
theorem dX16_isNamed_172 : decode cX16_isNamed 172 = .ok (.iload_n 2, 1) := by decide +kernel
theorem dX16_isNamed_173 : decode cX16_isNamed 173 = .ok (.bipush 17, 2) := by decide +kernel
theorem dX16_isNamed_175 : decode cX16_isNamed 175 = .ok (.if_icmp .ne 63, 3) := by decide +kernel
theorem dX16_isNamed_178 : decode cX16_isNamed 178 = .ok (.aload_n 0, 1) := by decide +kernel
theorem dX16_isNamed_179 : decode cX16_isNamed 179 = .ok (.invokevirtual 603, 3) := by decide +kernel
theorem dX16_isNamed_182 : decode cX16_isNamed 182 = .ok (.lstore_n 3, 1) := by decide +kernel
theorem dX16_isNamed_183 : decode cX16_isNamed 183 = .ok (.aload_n 0, 1) := by decide +kernel
theorem dX16_isNamed_184 : decode cX16_isNamed 184 = .ok (.invokevirtual 603, 3) := by decide +kernel
theorem dX16_isNamed_187 : decode cX16_isNamed 187 = .ok (.lstore 5, 2) := by decide +kernel
theorem dX16_isNamed_189 : decode cX16_isNamed 189 = .ok (.lload_n 3, 1) := by decide +kernel
theorem dX16_isNamed_190 : decode cX16_isNamed 190 = .ok (.aload_n 0, 1) := by decide +kernel
theorem dX16_isNamed_191 : decode cX16_isNamed 191 = .ok (.getfield 221, 3) := by decide +kernel
theorem dX16_isNamed_194 : decode cX16_isNamed 194 = .ok (.getfield 381, 3) := by decide +kernel
theorem dX16_isNamed_197 : decode cX16_isNamed 197 = .ok (.i2l, 1) := by decide +kernel
theorem dX16_isNamed_198 : decode cX16_isNamed 198 = .ok (.lcmp, 1) := by decide +kernel
theorem dX16_isNamed_199 : decode cX16_isNamed 199 = .ok (.ifCond .ge 37, 3) := by decide +kernel
theorem dX16_isNamed_202 : decode cX16_isNamed 202 = .ok (.lload 5, 2) := by decide +kernel
theorem dX16_isNamed_204 : decode cX16_isNamed 204 = .ok (.aload_n 0, 1) := by decide +kernel
theorem dX16_isNamed_205 : decode cX16_isNamed 205 = .ok (.getfield 221, 3) := by decide +kernel
theorem dX16_isNamed_208 : decode cX16_isNamed 208 = .ok (.iconst 1, 1) := by decide +kernel
theorem dX16_isNamed_209 : decode cX16_isNamed 209 = .ok (.invokevirtual 615, 3) := by decide +kernel
theorem dX16_isNamed_212 : decode cX16_isNamed 212 = .ok (.i2l, 1) := by decide +kernel
theorem dX16_isNamed_213 : decode cX16_isNamed 213 = .ok (.lcmp, 1) := by decide +kernel
theorem dX16_isNamed_214 : decode cX16_isNamed 214 = .ok (.ifCond .ge 22, 3) := by decide +kernel
theorem dX16_isNamed_217 : decode cX16_isNamed 217 = .ok (.aload_n 0, 1) := by decide +kernel
theorem dX16_isNamed_218 : decode cX16_isNamed 218 = .ok (.getfield 221, 3) := by decide +kernel
theorem dX16_isNamed_221 : decode cX16_isNamed 221 = .ok (.lload 5, 2) := by decide +kernel
theorem dX16_isNamed_223 : decode cX16_isNamed 223 = .ok (.l2i, 1) := by decide +kernel
theorem dX16_isNamed_224 : decode cX16_isNamed 224 = .ok (.invokevirtual 661, 3) := by decide +kernel
theorem dX16_isNamed_227 : decode cX16_isNamed 227 = .ok (.bipush 112, 2) := by decide +kernel
theorem dX16_isNamed_229 : decode cX16_isNamed 229 = .ok (.if_icmp .ne 7, 3) := by decide +kernel
theorem dX16_isNamed_232 : decode cX16_isNamed 232 = .ok (.iconst 1, 1) := by decide +kernel
theorem dX16_isNamed_233 : decode cX16_isNamed 233 = .ok (.goto 4, 3) := by decide +kernel
theorem dX16_isNamed_236 : decode cX16_isNamed 236 = .ok (.iconst 0, 1) := by decide +kernel
theorem dX16_isNamed_237 : decode cX16_isNamed 237 = .ok (.ireturn, 1) := by decide +kernel
theorem dX16_isNamed_238 : decode cX16_isNamed 238 = .ok (.iload_n 2, 1) := by decide +kernel
theorem dX16_isNamed_239 : decode cX16_isNamed 239 = .ok (.bipush 32, 2) := by decide +kernel
theorem dX16_isNamed_241 : decode cX16_isNamed 241 = .ok (.if_icmp .lt 49, 3) := by decide +kernel
theorem dX16_isNamed_244 : decode cX16_isNamed 244 = .ok (.iload_n 2, 1) := by decide +kernel
theorem dX16_isNamed_245 : decode cX16_isNamed 245 = .ok (.bipush 34, 2) := by decide +kernel
theorem dX16_isNamed_247 : decode cX16_isNamed 247 = .ok (.if_icmp .gt 43, 3) := by decide +kernel
theorem dX16_isNamed_250 : decode cX16_isNamed 250 = .ok (.aload_n 0, 1) := by decide +kernel
theorem dX16_isNamed_251 : decode cX16_isNamed 251 = .ok (.invokevirtual 603, 3) := by decide +kernel
theorem dX16_isNamed_254 : decode cX16_isNamed 254 = .ok (.aload_n 0, 1) := by decide +kernel
theorem dX16_isNamed_255 : decode cX16_isNamed 255 = .ok (.getfield 221, 3) := by decide +kernel
theorem dX16_isNamed_258 : decode cX16_isNamed 258 = .ok (.getfield 387, 3) := by decide +kernel
theorem dX16_isNamed_261 : decode cX16_isNamed 261 = .ok (.aload_n 0, 1) := by decide +kernel
theorem dX16_isNamed_262 : decode cX16_isNamed 262 = .ok (.getfield 713, 3) := by decide +kernel
theorem dX16_isNamed_265 : decode cX16_isNamed 265 = .ok (.iaload, 1) := by decide +kernel
theorem dX16_isNamed_266 : decode cX16_isNamed 266 = .ok (.i2l, 1) := by decide +kernel
theorem dX16_isNamed_267 : decode cX16_isNamed 267 = .ok (.aload_n 0, 1) := by decide +kernel
theorem dX16_isNamed_268 : decode cX16_isNamed 268 = .ok (.getfield 221, 3) := by decide +kernel
theorem dX16_isNamed_271 : decode cX16_isNamed 271 = .ok (.getfield 520, 3) := by decide +kernel
theorem dX16_isNamed_274 : decode cX16_isNamed 274 = .ok (.aload_n 0, 1) := by decide +kernel
theorem dX16_isNamed_275 : decode cX16_isNamed 275 = .ok (.getfield 710, 3) := by decide +kernel
theorem dX16_isNamed_278 : decode cX16_isNamed 278 = .ok (.laload, 1) := by decide +kernel
theorem dX16_isNamed_279 : decode cX16_isNamed 279 = .ok (.ladd, 1) := by decide +kernel
theorem dX16_isNamed_280 : decode cX16_isNamed 280 = .ok (.lcmp, 1) := by decide +kernel
theorem dX16_isNamed_281 : decode cX16_isNamed 281 = .ok (.ifCond .ge 7, 3) := by decide +kernel
theorem dX16_isNamed_284 : decode cX16_isNamed 284 = .ok (.iconst 1, 1) := by decide +kernel
theorem dX16_isNamed_285 : decode cX16_isNamed 285 = .ok (.goto 4, 3) := by decide +kernel
theorem dX16_isNamed_288 : decode cX16_isNamed 288 = .ok (.iconst 0, 1) := by decide +kernel
theorem dX16_isNamed_289 : decode cX16_isNamed 289 = .ok (.ireturn, 1) := by decide +kernel
theorem dX16_isNamed_290 : decode cX16_isNamed 290 = .ok (.iload_n 2, 1) := by decide +kernel
theorem dX16_isNamed_291 : decode cX16_isNamed 291 = .ok (.bipush 35, 2) := by decide +kernel
theorem dX16_isNamed_293 : decode cX16_isNamed 293 = .ok (.if_icmp .eq 9, 3) := by decide +kernel
theorem dX16_isNamed_296 : decode cX16_isNamed 296 = .ok (.iload_n 2, 1) := by decide +kernel
theorem dX16_isNamed_297 : decode cX16_isNamed 297 = .ok (.bipush 36, 2) := by decide +kernel
theorem dX16_isNamed_299 : decode cX16_isNamed 299 = .ok (.if_icmp .ne 46, 3) := by decide +kernel
theorem dX16_isNamed_302 : decode cX16_isNamed 302 = .ok (.aload_n 0, 1) := by decide +kernel
theorem dX16_isNamed_303 : decode cX16_isNamed 303 = .ok (.invokevirtual 603, 3) := by decide +kernel
theorem dX16_isNamed_306 : decode cX16_isNamed 306 = .ok (.lstore_n 3, 1) := by decide +kernel
theorem dX16_isNamed_307 : decode cX16_isNamed 307 = .ok (.lload_n 3, 1) := by decide +kernel
theorem dX16_isNamed_308 : decode cX16_isNamed 308 = .ok (.aload_n 0, 1) := by decide +kernel
theorem dX16_isNamed_309 : decode cX16_isNamed 309 = .ok (.getfield 221, 3) := by decide +kernel
theorem dX16_isNamed_312 : decode cX16_isNamed 312 = .ok (.iconst 3, 1) := by decide +kernel
theorem dX16_isNamed_313 : decode cX16_isNamed 313 = .ok (.invokevirtual 615, 3) := by decide +kernel
theorem dX16_isNamed_316 : decode cX16_isNamed 316 = .ok (.i2l, 1) := by decide +kernel
theorem dX16_isNamed_317 : decode cX16_isNamed 317 = .ok (.lcmp, 1) := by decide +kernel
theorem dX16_isNamed_318 : decode cX16_isNamed 318 = .ok (.ifCond .ge 25, 3) := by decide +kernel
theorem dX16_isNamed_321 : decode cX16_isNamed 321 = .ok (.iload_n 2, 1) := by decide +kernel
theorem dX16_isNamed_322 : decode cX16_isNamed 322 = .ok (.bipush 35, 2) := by decide +kernel
theorem dX16_isNamed_324 : decode cX16_isNamed 324 = .ok (.if_icmp .eq 15, 3) := by decide +kernel
theorem dX16_isNamed_327 : decode cX16_isNamed 327 = .ok (.aload_n 0, 1) := by decide +kernel
theorem dX16_isNamed_328 : decode cX16_isNamed 328 = .ok (.getfield 221, 3) := by decide +kernel
theorem dX16_isNamed_331 : decode cX16_isNamed 331 = .ok (.lload_n 3, 1) := by decide +kernel
theorem dX16_isNamed_332 : decode cX16_isNamed 332 = .ok (.l2i, 1) := by decide +kernel
theorem dX16_isNamed_333 : decode cX16_isNamed 333 = .ok (.invokevirtual 667, 3) := by decide +kernel
theorem dX16_isNamed_336 : decode cX16_isNamed 336 = .ok (.ifCond .eq 7, 3) := by decide +kernel
theorem dX16_isNamed_339 : decode cX16_isNamed 339 = .ok (.iconst 1, 1) := by decide +kernel
theorem dX16_isNamed_340 : decode cX16_isNamed 340 = .ok (.goto 4, 3) := by decide +kernel
theorem dX16_isNamed_343 : decode cX16_isNamed 343 = .ok (.iconst 0, 1) := by decide +kernel
theorem dX16_isNamed_344 : decode cX16_isNamed 344 = .ok (.ireturn, 1) := by decide +kernel
theorem dX16_isNamed_345 : decode cX16_isNamed 345 = .ok (.iload_n 2, 1) := by decide +kernel
theorem dX16_isNamed_346 : decode cX16_isNamed 346 = .ok (.bipush 37, 2) := by decide +kernel
theorem dX16_isNamed_348 : decode cX16_isNamed 348 = .ok (.if_icmp .eq 9, 3) := by decide +kernel
theorem dX16_isNamed_351 : decode cX16_isNamed 351 = .ok (.iload_n 2, 1) := by decide +kernel
theorem dX16_isNamed_352 : decode cX16_isNamed 352 = .ok (.bipush 38, 2) := by decide +kernel
theorem dX16_isNamed_354 : decode cX16_isNamed 354 = .ok (.if_icmp .ne 26, 3) := by decide +kernel
theorem dX16_isNamed_357 : decode cX16_isNamed 357 = .ok (.aload_n 0, 1) := by decide +kernel
theorem dX16_isNamed_358 : decode cX16_isNamed 358 = .ok (.invokevirtual 603, 3) := by decide +kernel
theorem dX16_isNamed_361 : decode cX16_isNamed 361 = .ok (.aload_n 0, 1) := by decide +kernel
theorem dX16_isNamed_362 : decode cX16_isNamed 362 = .ok (.getfield 221, 3) := by decide +kernel
theorem dX16_isNamed_365 : decode cX16_isNamed 365 = .ok (.iconst 1, 1) := by decide +kernel
theorem dX16_isNamed_366 : decode cX16_isNamed 366 = .ok (.invokevirtual 615, 3) := by decide +kernel
theorem dX16_isNamed_369 : decode cX16_isNamed 369 = .ok (.i2l, 1) := by decide +kernel
theorem dX16_isNamed_370 : decode cX16_isNamed 370 = .ok (.lcmp, 1) := by decide +kernel
theorem dX16_isNamed_371 : decode cX16_isNamed 371 = .ok (.ifCond .ge 7, 3) := by decide +kernel
theorem dX16_isNamed_374 : decode cX16_isNamed 374 = .ok (.iconst 1, 1) := by decide +kernel
theorem dX16_isNamed_375 : decode cX16_isNamed 375 = .ok (.goto 4, 3) := by decide +kernel
theorem dX16_isNamed_378 : decode cX16_isNamed 378 = .ok (.iconst 0, 1) := by decide +kernel
theorem dX16_isNamed_379 : decode cX16_isNamed 379 = .ok (.ireturn, 1) := by decide +kernel
theorem dX16_isNamed_380 : decode cX16_isNamed 380 = .ok (.iload_n 2, 1) := by decide +kernel
theorem dX16_isNamed_381 : decode cX16_isNamed 381 = .ok (.invokestatic 572, 3) := by decide +kernel
theorem dX16_isNamed_384 : decode cX16_isNamed 384 = .ok (.ifCond .eq 33, 3) := by decide +kernel
theorem dX16_isNamed_387 : decode cX16_isNamed 387 = .ok (.aload_n 0, 1) := by decide +kernel
theorem dX16_isNamed_388 : decode cX16_isNamed 388 = .ok (.invokevirtual 603, 3) := by decide +kernel
theorem dX16_isNamed_391 : decode cX16_isNamed 391 = .ok (.iload_n 2, 1) := by decide +kernel
theorem dX16_isNamed_392 : decode cX16_isNamed 392 = .ok (.invokestatic 728, 3) := by decide +kernel
theorem dX16_isNamed_395 : decode cX16_isNamed 395 = .ok (.i2l, 1) := by decide +kernel
theorem dX16_isNamed_396 : decode cX16_isNamed 396 = .ok (.lcmp, 1) := by decide +kernel
theorem dX16_isNamed_397 : decode cX16_isNamed 397 = .ok (.ifCond .gt 18, 3) := by decide +kernel
theorem dX16_isNamed_400 : decode cX16_isNamed 400 = .ok (.aload_n 0, 1) := by decide +kernel
theorem dX16_isNamed_401 : decode cX16_isNamed 401 = .ok (.getfield 221, 3) := by decide +kernel
theorem dX16_isNamed_404 : decode cX16_isNamed 404 = .ok (.iconst 2, 1) := by decide +kernel
theorem dX16_isNamed_405 : decode cX16_isNamed 405 = .ok (.invokevirtual 615, 3) := by decide +kernel
theorem dX16_isNamed_408 : decode cX16_isNamed 408 = .ok (.ifCond .le 7, 3) := by decide +kernel
theorem dX16_isNamed_411 : decode cX16_isNamed 411 = .ok (.iconst 1, 1) := by decide +kernel
theorem dX16_isNamed_412 : decode cX16_isNamed 412 = .ok (.goto 4, 3) := by decide +kernel
theorem dX16_isNamed_415 : decode cX16_isNamed 415 = .ok (.iconst 0, 1) := by decide +kernel
theorem dX16_isNamed_416 : decode cX16_isNamed 416 = .ok (.ireturn, 1) := by decide +kernel
theorem dX16_isNamed_417 : decode cX16_isNamed 417 = .ok (.iload_n 2, 1) := by decide +kernel
theorem dX16_isNamed_418 : decode cX16_isNamed 418 = .ok (.bipush 63, 2) := by decide +kernel
theorem dX16_isNamed_420 : decode cX16_isNamed 420 = .ok (.if_icmp .eq 9, 3) := by decide +kernel
theorem dX16_isNamed_423 : decode cX16_isNamed 423 = .ok (.iload_n 2, 1) := by decide +kernel
theorem dX16_isNamed_424 : decode cX16_isNamed 424 = .ok (.bipush 64, 2) := by decide +kernel
theorem dX16_isNamed_426 : decode cX16_isNamed 426 = .ok (.if_icmp .ne 20, 3) := by decide +kernel
theorem dX16_isNamed_429 : decode cX16_isNamed 429 = .ok (.aload_n 0, 1) := by decide +kernel
theorem dX16_isNamed_430 : decode cX16_isNamed 430 = .ok (.getfield 221, 3) := by decide +kernel
theorem dX16_isNamed_433 : decode cX16_isNamed 433 = .ok (.iconst 2, 1) := by decide +kernel
theorem dX16_isNamed_434 : decode cX16_isNamed 434 = .ok (.invokevirtual 615, 3) := by decide +kernel
theorem dX16_isNamed_437 : decode cX16_isNamed 437 = .ok (.ifCond .le 7, 3) := by decide +kernel
theorem dX16_isNamed_440 : decode cX16_isNamed 440 = .ok (.iconst 1, 1) := by decide +kernel
theorem dX16_isNamed_441 : decode cX16_isNamed 441 = .ok (.goto 4, 3) := by decide +kernel
theorem dX16_isNamed_444 : decode cX16_isNamed 444 = .ok (.iconst 0, 1) := by decide +kernel
theorem dX16_isNamed_445 : decode cX16_isNamed 445 = .ok (.ireturn, 1) := by decide +kernel
theorem dX16_isNamed_446 : decode cX16_isNamed 446 = .ok (.iload_n 2, 1) := by decide +kernel
theorem dX16_isNamed_447 : decode cX16_isNamed 447 = .ok (.sipush 210, 3) := by decide +kernel
theorem dX16_isNamed_450 : decode cX16_isNamed 450 = .ok (.if_icmp .ne 38, 3) := by decide +kernel
theorem dX16_isNamed_453 : decode cX16_isNamed 453 = .ok (.aload_n 0, 1) := by decide +kernel
theorem dX16_isNamed_454 : decode cX16_isNamed 454 = .ok (.invokevirtual 603, 3) := by decide +kernel
theorem dX16_isNamed_457 : decode cX16_isNamed 457 = .ok (.lstore_n 3, 1) := by decide +kernel
theorem dX16_isNamed_458 : decode cX16_isNamed 458 = .ok (.lload_n 3, 1) := by decide +kernel
theorem dX16_isNamed_459 : decode cX16_isNamed 459 = .ok (.aload_n 0, 1) := by decide +kernel
theorem dX16_isNamed_460 : decode cX16_isNamed 460 = .ok (.getfield 221, 3) := by decide +kernel
theorem dX16_isNamed_463 : decode cX16_isNamed 463 = .ok (.iconst 0, 1) := by decide +kernel
theorem dX16_isNamed_464 : decode cX16_isNamed 464 = .ok (.invokevirtual 615, 3) := by decide +kernel
theorem dX16_isNamed_467 : decode cX16_isNamed 467 = .ok (.i2l, 1) := by decide +kernel
theorem dX16_isNamed_468 : decode cX16_isNamed 468 = .ok (.lcmp, 1) := by decide +kernel
theorem dX16_isNamed_469 : decode cX16_isNamed 469 = .ok (.ifCond .ge 17, 3) := by decide +kernel
theorem dX16_isNamed_472 : decode cX16_isNamed 472 = .ok (.aload_n 0, 1) := by decide +kernel
theorem dX16_isNamed_473 : decode cX16_isNamed 473 = .ok (.getfield 35, 3) := by decide +kernel
theorem dX16_isNamed_476 : decode cX16_isNamed 476 = .ok (.lload_n 3, 1) := by decide +kernel
theorem dX16_isNamed_477 : decode cX16_isNamed 477 = .ok (.l2i, 1) := by decide +kernel
theorem dX16_isNamed_478 : decode cX16_isNamed 478 = .ok (.baload, 1) := by decide +kernel
theorem dX16_isNamed_479 : decode cX16_isNamed 479 = .ok (.ifCond .eq 7, 3) := by decide +kernel
theorem dX16_isNamed_482 : decode cX16_isNamed 482 = .ok (.iconst 1, 1) := by decide +kernel
theorem dX16_isNamed_483 : decode cX16_isNamed 483 = .ok (.goto 4, 3) := by decide +kernel
theorem dX16_isNamed_486 : decode cX16_isNamed 486 = .ok (.iconst 0, 1) := by decide +kernel
theorem dX16_isNamed_487 : decode cX16_isNamed 487 = .ok (.ireturn, 1) := by decide +kernel
theorem dX16_isNamed_488 : decode cX16_isNamed 488 = .ok (.iload_n 2, 1) := by decide +kernel
theorem dX16_isNamed_489 : decode cX16_isNamed 489 = .ok (.sipush 252, 3) := by decide +kernel
theorem dX16_isNamed_492 : decode cX16_isNamed 492 = .ok (.if_icmp .ne 10, 3) := by decide +kernel
theorem dX16_isNamed_495 : decode cX16_isNamed 495 = .ok (.aload_n 0, 1) := by decide +kernel
theorem dX16_isNamed_496 : decode cX16_isNamed 496 = .ok (.invokevirtual 731, 3) := by decide +kernel
theorem dX16_isNamed_499 : decode cX16_isNamed 499 = .ok (.ifCond .eq 7, 3) := by decide +kernel
theorem dX16_isNamed_502 : decode cX16_isNamed 502 = .ok (.iconst 1, 1) := by decide +kernel
theorem dX16_isNamed_503 : decode cX16_isNamed 503 = .ok (.goto 4, 3) := by decide +kernel
theorem dX16_isNamed_506 : decode cX16_isNamed 506 = .ok (.iconst 0, 1) := by decide +kernel
theorem dX16_isNamed_507 : decode cX16_isNamed 507 = .ok (.ireturn, 1) := by decide +kernel
noncomputable def tX16_isNamed_39 (x0 : Nat) (x2 : Int32) (h : pm_H) : Option (((Nat × Int32 × pm_H) ⊕ (Nat × Int32 × pm_H) ⊕ (Nat × Int64 × Int32 × Int64 × pm_H)) ⊕ (Int32 × pm_H)) := if x2 = 12 then (if pm_kd h x0 = 16 then (fX16_word h x0).bind fun v15 => if pm_kd v15.2 x0 = 16 then if ((pm_I v15.2 x0 24).toInt64) ≤ v15.1 then (some (.inr ((0, v15.2)))) else (some (.inr ((1, v15.2)))) else none else none) else (if x2 = 13 then (if pm_kd h x0 = 16 then (fX16_word h x0).bind fun v76 => if pm_kd v76.2 x0 = 16 then if ((pm_I v76.2 x0 24).toInt64) ≤ v76.1 then (some (.inr ((0, v76.2)))) else (some (.inr ((1, v76.2)))) else none else none) else (if x2 = 14 then (if pm_kd h x0 = 16 then (fX16_word h x0).bind fun v73 => some (.inl (.inr (.inr ((x0, v73.1, 1, 0, v73.2))))) else none) else (if x2 = 16 then (if pm_kd h x0 = 16 then (fX16_word h x0).bind fun v63 => if pm_kd v63.2 x0 = 16 then (pm_R v63.2 x0 10).bind fun v66 => if pm_kd v63.2 v66 = 14 then (fX14_all v63.2 v66 0).bind fun v69 => if v69.toInt64 ≤ v63.1 then (some (.inr ((0, v63.2)))) else (some (.inr ((1, v63.2)))) else none else none else none) else (if x2 = 17 then (if pm_kd h x0 = 16 then (fX16_word h x0).bind fun v46 => if pm_kd v46.2 x0 = 16 then (fX16_word v46.2 x0).bind fun v49 => if pm_kd v49.2 x0 = 16 then (pm_R v49.2 x0 10).bind fun v52 => if pm_kd v49.2 v52 = 14 then if ((pm_I v49.2 v52 4).toInt64) ≤ v46.1 then (some (.inr ((0, v49.2)))) else ((fX14_all v49.2 v52 1).bind fun v56 => if v56.toInt64 ≤ v49.1 then (some (.inr ((0, v49.2)))) else ((fX14_typeOfTable v49.2 v52 v49.1.toInt32).bind fun v59 => if v59 = 112 then (some (.inr ((1, v49.2)))) else (some (.inr ((0, v49.2)))))) else none else none else none else none) else (if x2 < 32 then (some (.inl (.inr (.inl ((x0, x2, h)))))) else (if 34 < x2 then (some (.inl (.inr (.inl ((x0, x2, h)))))) else (if pm_kd h x0 = 16 then (fX16_word h x0).bind fun v26 => if pm_kd v26.2 x0 = 16 then (pm_R v26.2 x0 10).bind fun v29 => if pm_kd v26.2 v29 = 14 then (pm_R v26.2 v29 5).bind fun v32 => pm_let (pm_I v26.2 x0 30) fun y34 => if pm_kd v26.2 v32 = 34 then if pm_in y34 (pm_ln v26.2 v32) then (pm_R v26.2 v29 52).bind fun v38 => pm_let (pm_I v26.2 x0 29) fun y40 => if pm_kd v26.2 v38 = 35 then if pm_in y40 (pm_ln v26.2 v38) then if (((pm_I v26.2 v32 y34.toNatClampNeg).toInt64) + (pm_L v26.2 v38 y40.toNatClampNeg)) ≤ v26.1 then (some (.inr ((0, v26.2)))) else (some (.inr ((1, v26.2)))) else none else none else none else none else none else none else none)))))))
noncomputable def tX16_isNamed_290 (x0 : Nat) (x2 : Int32) (h : pm_H) : Option (((Nat × Int32 × pm_H) ⊕ (Nat × Int32 × pm_H) ⊕ (Nat × Int64 × Int32 × Int64 × pm_H)) ⊕ (Int32 × pm_H)) := if x2 = 35 then (if pm_kd h x0 = 16 then (fX16_word h x0).bind fun v82 => if pm_kd v82.2 x0 = 16 then (pm_R v82.2 x0 10).bind fun v85 => if pm_kd v82.2 v85 = 14 then (fX14_all v82.2 v85 3).bind fun v88 => if v88.toInt64 ≤ v82.1 then (some (.inr ((0, v82.2)))) else (if x2 = 35 then (some (.inr ((1, v82.2)))) else ((fX14_globalMoves v82.2 v85 v82.1.toInt32).bind fun v92 => if v92 = 0 then (some (.inr ((0, v82.2)))) else (some (.inr ((1, v82.2)))))) else none else none else none) else (if x2 = 36 then (if pm_kd h x0 = 16 then (fX16_word h x0).bind fun v172 => if pm_kd v172.2 x0 = 16 then (pm_R v172.2 x0 10).bind fun v175 => if pm_kd v172.2 v175 = 14 then (fX14_all v172.2 v175 3).bind fun v178 => if v178.toInt64 ≤ v172.1 then (some (.inr ((0, v172.2)))) else (if x2 = 35 then (some (.inr ((1, v172.2)))) else ((fX14_globalMoves v172.2 v175 v172.1.toInt32).bind fun v182 => if v182 = 0 then (some (.inr ((0, v172.2)))) else (some (.inr ((1, v172.2)))))) else none else none else none) else (if x2 = 37 then (if pm_kd h x0 = 16 then (fX16_word h x0).bind fun v98 => if pm_kd v98.2 x0 = 16 then (pm_R v98.2 x0 10).bind fun v101 => if pm_kd v98.2 v101 = 14 then (fX14_all v98.2 v101 1).bind fun v104 => if v104.toInt64 ≤ v98.1 then (some (.inr ((0, v98.2)))) else (some (.inr ((1, v98.2)))) else none else none else none) else (if x2 = 38 then (if pm_kd h x0 = 16 then (fX16_word h x0).bind fun v162 => if pm_kd v162.2 x0 = 16 then (pm_R v162.2 x0 10).bind fun v165 => if pm_kd v162.2 v165 = 14 then (fX14_all v162.2 v165 1).bind fun v168 => if v168.toInt64 ≤ v162.1 then (some (.inr ((0, v162.2)))) else (some (.inr ((1, v162.2)))) else none else none else none) else (pm_let (fX16_isAccess x2) fun v108 => if v108 = 0 then (if x2 = 63 then (if pm_kd h x0 = 16 then (pm_R h x0 10).bind fun v113 => if pm_kd h v113 = 14 then (fX14_all h v113 2).bind fun v116 => if v116 ≤ 0 then (some (.inr ((0, h)))) else (some (.inr ((1, h)))) else none else none) else (if x2 = 64 then (if pm_kd h x0 = 16 then (pm_R h x0 10).bind fun v142 => if pm_kd h v142 = 14 then (fX14_all h v142 2).bind fun v145 => if v145 ≤ 0 then (some (.inr ((0, h)))) else (some (.inr ((1, h)))) else none else none) else (if x2 = 210 then (if pm_kd h x0 = 16 then (fX16_word h x0).bind fun v127 => if pm_kd v127.2 x0 = 16 then (pm_R v127.2 x0 10).bind fun v130 => if pm_kd v127.2 v130 = 14 then (fX14_all v127.2 v130 0).bind fun v133 => if v133.toInt64 ≤ v127.1 then (some (.inr ((0, v127.2)))) else ((pm_R v127.2 x0 20).bind fun v136 => if pm_kd v127.2 v136 = 32 then if pm_in v127.1.toInt32 (pm_ln v127.2 v136) then if (pm_I v127.2 v136 v127.1.toInt32.toNatClampNeg) = 0 then (some (.inr ((0, v127.2)))) else (some (.inr ((1, v127.2)))) else none else none) else none else none else none) else (if x2 = 252 then (if pm_kd h x0 = 16 then (fX16_isNamedFurther h x0).bind fun v123 => if v123.1 = 0 then (some (.inr ((0, v123.2)))) else (some (.inr ((1, v123.2)))) else none) else (some (.inr ((1, h)))))))) else (if pm_kd h x0 = 16 then (fX16_word h x0).bind fun v149 => pm_let (fX16_widthOf x2) fun v151 => if v151.toInt64 < v149.1 then (some (.inr ((0, v149.2)))) else (if pm_kd v149.2 x0 = 16 then (pm_R v149.2 x0 10).bind fun v155 => if pm_kd v149.2 v155 = 14 then (fX14_all v149.2 v155 2).bind fun v158 => if v158 ≤ 0 then (some (.inr ((0, v149.2)))) else (some (.inr ((1, v149.2)))) else none else none) else none)))))
noncomputable def tX16_isNamed_87 (x0 : Nat) (x3 : Int64) (x5 : Int32) (x6 : Int64) (h : pm_H) : Option (((Nat × Int32 × pm_H) ⊕ (Nat × Int32 × pm_H) ⊕ (Nat × Int64 × Int32 × Int64 × pm_H)) ⊕ (Int32 × pm_H)) := if x3 < x6 then (if x5 = 0 ∨ x5 = 1 then some (.inr ((x5, h))) else none) else (if pm_kd h x0 = 16 then (fX16_word h x0).bind fun v188 => if pm_kd v188.2 x0 = 16 then if ((pm_I v188.2 x0 24).toInt64) ≤ v188.1 then (if x5 = 0 then (pm_let (x6 + 1) fun y193 => some (.inl (.inr (.inr ((x0, x3, 0, y193, v188.2)))))) else (if (0 : Int32) = (0 : Int32) then (pm_let (x6 + 1) fun y196 => some (.inl (.inr (.inr ((x0, x3, 0, y196, v188.2)))))) else (pm_let (x6 + 1) fun y198 => some (.inl (.inr (.inr ((x0, x3, 1, y198, v188.2)))))))) else (if x5 = 0 then (pm_let (x6 + 1) fun y201 => some (.inl (.inr (.inr ((x0, x3, 0, y201, v188.2)))))) else (if (1 : Int32) = (0 : Int32) then (pm_let (x6 + 1) fun y204 => some (.inl (.inr (.inr ((x0, x3, 0, y204, v188.2)))))) else (pm_let (x6 + 1) fun y206 => some (.inl (.inr (.inr ((x0, x3, 1, y206, v188.2)))))))) else none else none)
noncomputable def sX16_isNamed : ((Nat × Int32 × pm_H) ⊕ (Nat × Int32 × pm_H) ⊕ (Nat × Int64 × Int32 × Int64 × pm_H)) → Option (((Nat × Int32 × pm_H) ⊕ (Nat × Int32 × pm_H) ⊕ (Nat × Int64 × Int32 × Int64 × pm_H)) ⊕ (Int32 × pm_H)) := fun z => match z with
  | .inl (x0, x2, h) => tX16_isNamed_39 x0 x2 h
  | .inr (.inl (x0, x2, h)) => tX16_isNamed_290 x0 x2 h
  | .inr (.inr (x0, x3, x5, x6, h)) => tX16_isNamed_87 x0 x3 x5 x6 h
noncomputable def fX16_isNamed (h : pm_H) (a0 : Nat) (p1 : Int32) (p2 : Int32) : Option (Int32 × pm_H) := pm_let (p1 + 1) fun y1 => if pm_kd h a0 = 16 then if p2 < 2 then (pm_lim sX16_isNamed (.inl ((a0, p2, pm_setI h a0 19 y1)))) else (if 4 < p2 then (pm_lim sX16_isNamed (.inl ((a0, p2, pm_setI h a0 19 y1)))) else ((fX16_blockWord (pm_setI h a0 19 y1) a0).bind fun v6 => if pm_kd v6.2 a0 = 16 then (pm_R v6.2 a0 10).bind fun v9 => if pm_kd v6.2 v9 = 14 then if ((pm_I v6.2 v9 4).toInt64) ≤ v6.1 then (some ((0, v6.2))) else (some ((1, v6.2))) else none else none)) else none
set_option maxHeartbeats 4000000 in
set_option maxRecDepth 100000 in
theorem lpX16_isNamed {g : pm_Gm} {l : Launch} {G : pm_Gl} {Qr : Option Value → pm_H → Prop} (C : pm_C g cX16_isNamed RX16) (X : pm_X g l G mX16_isNamed 0 0 Qr) {r : (Int32 × pm_H)} (q : Qr (some (.int r.1)) r.2) : ∀ n : Nat, (∀ (x0 : Nat) (x2 : Int32) (h : pm_H), pm_iter sX16_isNamed n (.inl (x0, x2, h)) = some r → pm_G g 39 [(0, .ref x0), (2, .int x2)] [] h 0 0) ∧ (∀ (x0 : Nat) (x2 : Int32) (h : pm_H), pm_iter sX16_isNamed n (.inr (.inl (x0, x2, h))) = some r → pm_G g 290 [(0, .ref x0), (2, .int x2)] [] h 0 0) ∧ (∀ (x0 : Nat) (x3 : Int64) (x5 : Int32) (x6 : Int64) (h : pm_H), pm_iter sX16_isNamed n (.inr (.inr (x0, x3, x5, x6, h))) = some r → pm_G g 87 [(0, .ref x0), (3, .long x3), (5, .int x5), (6, .long x6)] [] h 0 0) := by
  intro n
  induction n with
  | zero => exact ⟨fun _ _ _ hf => (by cases hf), fun _ _ _ hf => (by cases hf), fun _ _ _ _ _ hf => (by cases hf)⟩
  | succ n ih =>
    refine ⟨fun x0 x2 h hf => ?_, ?_⟩
    · obtain ⟨y, hf, hi⟩ := pm_iter_s hf
      have hf : tX16_isNamed_39 x0 x2 h = some y := hf
      unfold tX16_isNamed_39 at hf
      refine pm_iload_n C dX16_isNamed_39 rfl rfl ?_
      refine pm_bipush (v := 12) C dX16_isNamed_40 (by decide) ?_
      refine pm_icmp_eq (tgt := 51) C dX16_isNamed_42 (by decide) (fun c13 => ?_) (fun c13 => ?_)
      · have hf := pm_it hf c13
        refine pm_aload_n C dX16_isNamed_51 rfl rfl ?_
        obtain ⟨k14, hf⟩ := pm_if hf
        obtain ⟨v15, e16, hf⟩ := pm_bd hf
        refine pm_callV (as := []) (st := []) C X dX16_isNamed_52 lnX16_603 myX16_word viX16_word ⟨by decide, by decide⟩ rfl rfl k14 (Nat.le_of_ble_eq_true rfl) (Nat.le_refl _) (Nat.le_refl _) (ctX16_word e16 ?_)
        show pm_G g 55 [(0, .ref x0), (2, .int x2)] [.long v15.1] v15.2 0 0
        refine pm_aload_n C dX16_isNamed_55 rfl rfl ?_
        obtain ⟨k17, hf⟩ := pm_if hf
        refine pm_getI C dX16_isNamed_56 flX16_682 rfl k17 rfl ?_
        refine pm_i2l C dX16_isNamed_59 ?_
        refine pm_lcmp C dX16_isNamed_60 ?_
        refine pm_if_ge (tgt := 68) C dX16_isNamed_61 (by decide) (fun c18 => ?_) (fun c18 => ?_)
        · have hf := pm_it hf ((pm_lg_ge _ _).mp c18)
          refine pm_iconst (v := 0) C dX16_isNamed_68 (by decide) ?_
          cases hf
          cases hi
          exact pm_zret C X dX16_isNamed_69 rfl (by decide) (Nat.le_refl _) (Nat.le_refl _) q
        · have hf := pm_ie hf ((fun z => c18 ((pm_lg_ge _ _).mpr z)))
          refine pm_iconst (v := 1) C dX16_isNamed_64 (by decide) ?_
          refine pm_goto (tgt := 69) C dX16_isNamed_65 (by decide) ?_
          cases hf
          cases hi
          exact pm_zret C X dX16_isNamed_69 rfl (by decide) (Nat.le_refl _) (Nat.le_refl _) q
      · have hf := pm_ie hf c13
        refine pm_iload_n C dX16_isNamed_45 rfl rfl ?_
        refine pm_bipush (v := 13) C dX16_isNamed_46 (by decide) ?_
        refine pm_icmp_ne (tgt := 70) C dX16_isNamed_48 (by decide) (fun c19 => ?_) (fun c19 => ?_)
        · have hf := pm_ie hf c19
          refine pm_iload_n C dX16_isNamed_70 rfl rfl ?_
          refine pm_bipush (v := 14) C dX16_isNamed_71 (by decide) ?_
          refine pm_icmp_ne (tgt := 143) C dX16_isNamed_73 (by decide) (fun c20 => ?_) (fun c20 => ?_)
          · have hf := pm_ie hf c20
            refine pm_iload_n C dX16_isNamed_143 rfl rfl ?_
            refine pm_bipush (v := 16) C dX16_isNamed_144 (by decide) ?_
            refine pm_icmp_ne (tgt := 172) C dX16_isNamed_146 (by decide) (fun c21 => ?_) (fun c21 => ?_)
            · have hf := pm_ie hf c21
              refine pm_iload_n C dX16_isNamed_172 rfl rfl ?_
              refine pm_bipush (v := 17) C dX16_isNamed_173 (by decide) ?_
              refine pm_icmp_ne (tgt := 238) C dX16_isNamed_175 (by decide) (fun c22 => ?_) (fun c22 => ?_)
              · have hf := pm_ie hf c22
                refine pm_iload_n C dX16_isNamed_238 rfl rfl ?_
                refine pm_bipush (v := 32) C dX16_isNamed_239 (by decide) ?_
                refine pm_icmp_lt (tgt := 290) C dX16_isNamed_241 (by decide) (fun c23 => ?_) (fun c23 => ?_)
                · have hf := pm_it hf c23
                  cases hf
                  exact pm_sub [0, 1] rfl (ih.2.1 x0 x2 h hi)
                · have hf := pm_ie hf c23
                  refine pm_iload_n C dX16_isNamed_244 rfl rfl ?_
                  refine pm_bipush (v := 34) C dX16_isNamed_245 (by decide) ?_
                  refine pm_icmp_gt (tgt := 290) C dX16_isNamed_247 (by decide) (fun c24 => ?_) (fun c24 => ?_)
                  · have hf := pm_it hf c24
                    cases hf
                    exact pm_sub [0, 1] rfl (ih.2.1 x0 x2 h hi)
                  · have hf := pm_ie hf c24
                    refine pm_aload_n C dX16_isNamed_250 rfl rfl ?_
                    obtain ⟨k25, hf⟩ := pm_if hf
                    obtain ⟨v26, e27, hf⟩ := pm_bd hf
                    refine pm_callV (as := []) (st := []) C X dX16_isNamed_251 lnX16_603 myX16_word viX16_word ⟨by decide, by decide⟩ rfl rfl k25 (Nat.le_of_ble_eq_true rfl) (Nat.le_refl _) (Nat.le_refl _) (ctX16_word e27 ?_)
                    show pm_G g 254 [(0, .ref x0), (2, .int x2)] [.long v26.1] v26.2 0 0
                    refine pm_aload_n C dX16_isNamed_254 rfl rfl ?_
                    obtain ⟨k28, hf⟩ := pm_if hf
                    obtain ⟨v29, e30, hf⟩ := pm_bd hf
                    refine pm_getR C dX16_isNamed_255 flX16_221 rfl k28 e30 ?_
                    obtain ⟨k31, hf⟩ := pm_if hf
                    obtain ⟨v32, e33, hf⟩ := pm_bd hf
                    refine pm_getR C dX16_isNamed_258 flX16_387 rfl k31 e33 ?_
                    refine pm_aload_n C dX16_isNamed_261 rfl rfl ?_
                    refine pm_getI C dX16_isNamed_262 flX16_713 rfl k28 rfl ?_
                    obtain ⟨y34, e35, hf⟩ := pm_lt hf
                    refine pm_topI e35 ?_
                    obtain ⟨k36, hf⟩ := pm_if hf
                    obtain ⟨u37, hf⟩ := pm_if hf
                    refine pm_iald C dX16_isNamed_265 k36 u37 rfl ?_
                    refine pm_i2l C dX16_isNamed_266 ?_
                    refine pm_aload_n C dX16_isNamed_267 rfl rfl ?_
                    refine pm_getR C dX16_isNamed_268 flX16_221 rfl k28 e30 ?_
                    obtain ⟨v38, e39, hf⟩ := pm_bd hf
                    refine pm_getR C dX16_isNamed_271 flX16_520 rfl k31 e39 ?_
                    refine pm_aload_n C dX16_isNamed_274 rfl rfl ?_
                    refine pm_getI C dX16_isNamed_275 flX16_710 rfl k28 rfl ?_
                    obtain ⟨y40, e41, hf⟩ := pm_lt hf
                    refine pm_topI e41 ?_
                    obtain ⟨k42, hf⟩ := pm_if hf
                    obtain ⟨u43, hf⟩ := pm_if hf
                    refine pm_lald C dX16_isNamed_278 k42 u43 rfl ?_
                    refine pm_ladd C dX16_isNamed_279 ?_
                    refine pm_lcmp C dX16_isNamed_280 ?_
                    refine pm_if_ge (tgt := 288) C dX16_isNamed_281 (by decide) (fun c44 => ?_) (fun c44 => ?_)
                    · have hf := pm_it hf ((pm_lg_ge _ _).mp c44)
                      refine pm_iconst (v := 0) C dX16_isNamed_288 (by decide) ?_
                      cases hf
                      cases hi
                      exact pm_zret C X dX16_isNamed_289 rfl (by decide) (Nat.le_refl _) (Nat.le_refl _) q
                    · have hf := pm_ie hf ((fun z => c44 ((pm_lg_ge _ _).mpr z)))
                      refine pm_iconst (v := 1) C dX16_isNamed_284 (by decide) ?_
                      refine pm_goto (tgt := 289) C dX16_isNamed_285 (by decide) ?_
                      cases hf
                      cases hi
                      exact pm_zret C X dX16_isNamed_289 rfl (by decide) (Nat.le_refl _) (Nat.le_refl _) q
              · have hf := pm_it hf c22
                refine pm_aload_n C dX16_isNamed_178 rfl rfl ?_
                obtain ⟨k45, hf⟩ := pm_if hf
                obtain ⟨v46, e47, hf⟩ := pm_bd hf
                refine pm_callV (as := []) (st := []) C X dX16_isNamed_179 lnX16_603 myX16_word viX16_word ⟨by decide, by decide⟩ rfl rfl k45 (Nat.le_of_ble_eq_true rfl) (Nat.le_refl _) (Nat.le_refl _) (ctX16_word e47 ?_)
                show pm_G g 182 [(0, .ref x0), (2, .int x2)] [.long v46.1] v46.2 0 0
                refine pm_lstore_n (lv' := [(3, .long v46.1), (0, .ref x0), (2, .int x2)]) C dX16_isNamed_182 rfl (pm_nl X (by decide)) rfl ?_
                refine pm_aload_n C dX16_isNamed_183 rfl rfl ?_
                obtain ⟨k48, hf⟩ := pm_if hf
                obtain ⟨v49, e50, hf⟩ := pm_bd hf
                refine pm_callV (as := []) (st := []) C X dX16_isNamed_184 lnX16_603 myX16_word viX16_word ⟨by decide, by decide⟩ rfl rfl k48 (Nat.le_of_ble_eq_true rfl) (Nat.le_refl _) (Nat.le_refl _) (ctX16_word e50 ?_)
                show pm_G g 187 [(3, .long v46.1), (0, .ref x0), (2, .int x2)] [.long v49.1] v49.2 0 0
                refine pm_lstore (lv' := [(5, .long v49.1), (3, .long v46.1), (0, .ref x0), (2, .int x2)]) C dX16_isNamed_187 (pm_nl X (by decide)) rfl ?_
                refine pm_lload_n C dX16_isNamed_189 rfl rfl ?_
                refine pm_aload_n C dX16_isNamed_190 rfl rfl ?_
                obtain ⟨k51, hf⟩ := pm_if hf
                obtain ⟨v52, e53, hf⟩ := pm_bd hf
                refine pm_getR C dX16_isNamed_191 flX16_221 rfl k51 e53 ?_
                obtain ⟨k54, hf⟩ := pm_if hf
                refine pm_getI C dX16_isNamed_194 flX16_381 rfl k54 rfl ?_
                refine pm_i2l C dX16_isNamed_197 ?_
                refine pm_lcmp C dX16_isNamed_198 ?_
                refine pm_if_ge (tgt := 236) C dX16_isNamed_199 (by decide) (fun c55 => ?_) (fun c55 => ?_)
                · have hf := pm_it hf ((pm_lg_ge _ _).mp c55)
                  refine pm_iconst (v := 0) C dX16_isNamed_236 (by decide) ?_
                  cases hf
                  cases hi
                  exact pm_zret C X dX16_isNamed_237 rfl (by decide) (Nat.le_refl _) (Nat.le_refl _) q
                · have hf := pm_ie hf ((fun z => c55 ((pm_lg_ge _ _).mpr z)))
                  refine pm_lload C dX16_isNamed_202 rfl ?_
                  refine pm_aload_n C dX16_isNamed_204 rfl rfl ?_
                  refine pm_getR C dX16_isNamed_205 flX16_221 rfl k51 e53 ?_
                  refine pm_iconst (v := 1) C dX16_isNamed_208 (by decide) ?_
                  obtain ⟨v56, e57, hf⟩ := pm_bd hf
                  refine pm_callV (as := [.int 1]) (st := [.long v49.1]) C X dX16_isNamed_209 lnX16_615 myX14_all viX14_all ⟨by decide, by decide⟩ rfl rfl k54 (Nat.le_of_ble_eq_true rfl) (Nat.le_refl _) (Nat.le_refl _) (ctX14_all e57 ?_)
                  show pm_G g 212 [(5, .long v49.1), (3, .long v46.1), (0, .ref x0), (2, .int x2)] [.int v56, .long v49.1] v49.2 0 0
                  refine pm_i2l C dX16_isNamed_212 ?_
                  refine pm_lcmp C dX16_isNamed_213 ?_
                  refine pm_if_ge (tgt := 236) C dX16_isNamed_214 (by decide) (fun c58 => ?_) (fun c58 => ?_)
                  · have hf := pm_it hf ((pm_lg_ge _ _).mp c58)
                    refine pm_iconst (v := 0) C dX16_isNamed_236 (by decide) ?_
                    cases hf
                    cases hi
                    exact pm_zret C X dX16_isNamed_237 rfl (by decide) (Nat.le_refl _) (Nat.le_refl _) q
                  · have hf := pm_ie hf ((fun z => c58 ((pm_lg_ge _ _).mpr z)))
                    refine pm_aload_n C dX16_isNamed_217 rfl rfl ?_
                    refine pm_getR C dX16_isNamed_218 flX16_221 rfl k51 e53 ?_
                    refine pm_lload C dX16_isNamed_221 rfl ?_
                    refine pm_l2i C dX16_isNamed_223 ?_
                    obtain ⟨v59, e60, hf⟩ := pm_bd hf
                    refine pm_callV (as := [.int v49.1.toInt32]) (st := []) C X dX16_isNamed_224 lnX16_661 myX14_typeOfTable viX14_typeOfTable ⟨by decide, by decide⟩ rfl rfl k54 (Nat.le_of_ble_eq_true rfl) (Nat.le_refl _) (Nat.le_refl _) (ctX14_typeOfTable e60 ?_)
                    show pm_G g 227 [(5, .long v49.1), (3, .long v46.1), (0, .ref x0), (2, .int x2)] [.int v59] v49.2 0 0
                    refine pm_bipush (v := 112) C dX16_isNamed_227 (by decide) ?_
                    refine pm_icmp_ne (tgt := 236) C dX16_isNamed_229 (by decide) (fun c61 => ?_) (fun c61 => ?_)
                    · have hf := pm_ie hf c61
                      refine pm_iconst (v := 0) C dX16_isNamed_236 (by decide) ?_
                      cases hf
                      cases hi
                      exact pm_zret C X dX16_isNamed_237 rfl (by decide) (Nat.le_refl _) (Nat.le_refl _) q
                    · have hf := pm_it hf c61
                      refine pm_iconst (v := 1) C dX16_isNamed_232 (by decide) ?_
                      refine pm_goto (tgt := 237) C dX16_isNamed_233 (by decide) ?_
                      cases hf
                      cases hi
                      exact pm_zret C X dX16_isNamed_237 rfl (by decide) (Nat.le_refl _) (Nat.le_refl _) q
            · have hf := pm_it hf c21
              refine pm_aload_n C dX16_isNamed_149 rfl rfl ?_
              obtain ⟨k62, hf⟩ := pm_if hf
              obtain ⟨v63, e64, hf⟩ := pm_bd hf
              refine pm_callV (as := []) (st := []) C X dX16_isNamed_150 lnX16_603 myX16_word viX16_word ⟨by decide, by decide⟩ rfl rfl k62 (Nat.le_of_ble_eq_true rfl) (Nat.le_refl _) (Nat.le_refl _) (ctX16_word e64 ?_)
              show pm_G g 153 [(0, .ref x0), (2, .int x2)] [.long v63.1] v63.2 0 0
              refine pm_aload_n C dX16_isNamed_153 rfl rfl ?_
              obtain ⟨k65, hf⟩ := pm_if hf
              obtain ⟨v66, e67, hf⟩ := pm_bd hf
              refine pm_getR C dX16_isNamed_154 flX16_221 rfl k65 e67 ?_
              refine pm_iconst (v := 0) C dX16_isNamed_157 (by decide) ?_
              obtain ⟨k68, hf⟩ := pm_if hf
              obtain ⟨v69, e70, hf⟩ := pm_bd hf
              refine pm_callV (as := [.int 0]) (st := [.long v63.1]) C X dX16_isNamed_158 lnX16_615 myX14_all viX14_all ⟨by decide, by decide⟩ rfl rfl k68 (Nat.le_of_ble_eq_true rfl) (Nat.le_refl _) (Nat.le_refl _) (ctX14_all e70 ?_)
              show pm_G g 161 [(0, .ref x0), (2, .int x2)] [.int v69, .long v63.1] v63.2 0 0
              refine pm_i2l C dX16_isNamed_161 ?_
              refine pm_lcmp C dX16_isNamed_162 ?_
              refine pm_if_ge (tgt := 170) C dX16_isNamed_163 (by decide) (fun c71 => ?_) (fun c71 => ?_)
              · have hf := pm_it hf ((pm_lg_ge _ _).mp c71)
                refine pm_iconst (v := 0) C dX16_isNamed_170 (by decide) ?_
                cases hf
                cases hi
                exact pm_zret C X dX16_isNamed_171 rfl (by decide) (Nat.le_refl _) (Nat.le_refl _) q
              · have hf := pm_ie hf ((fun z => c71 ((pm_lg_ge _ _).mpr z)))
                refine pm_iconst (v := 1) C dX16_isNamed_166 (by decide) ?_
                refine pm_goto (tgt := 171) C dX16_isNamed_167 (by decide) ?_
                cases hf
                cases hi
                exact pm_zret C X dX16_isNamed_171 rfl (by decide) (Nat.le_refl _) (Nat.le_refl _) q
          · have hf := pm_it hf c20
            refine pm_aload_n C dX16_isNamed_76 rfl rfl ?_
            obtain ⟨k72, hf⟩ := pm_if hf
            obtain ⟨v73, e74, hf⟩ := pm_bd hf
            refine pm_callV (as := []) (st := []) C X dX16_isNamed_77 lnX16_603 myX16_word viX16_word ⟨by decide, by decide⟩ rfl rfl k72 (Nat.le_of_ble_eq_true rfl) (Nat.le_refl _) (Nat.le_refl _) (ctX16_word e74 ?_)
            show pm_G g 80 [(0, .ref x0), (2, .int x2)] [.long v73.1] v73.2 0 0
            refine pm_lstore_n (lv' := [(3, .long v73.1), (0, .ref x0), (2, .int x2)]) C dX16_isNamed_80 rfl (pm_nl X (by decide)) rfl ?_
            refine pm_iconst (v := 1) C dX16_isNamed_81 (by decide) ?_
            refine pm_istore (lv' := [(5, .int 1), (3, .long v73.1), (0, .ref x0), (2, .int x2)]) C dX16_isNamed_82 (pm_nl X (by decide)) rfl ?_
            refine pm_lconst (v := 0) C dX16_isNamed_84 (by decide) ?_
            refine pm_lstore (lv' := [(6, .long 0), (5, .int 1), (3, .long v73.1), (0, .ref x0), (2, .int x2)]) C dX16_isNamed_85 (pm_nl X (by decide)) rfl ?_
            cases hf
            exact pm_sub [3, 2, 1, 0] rfl (ih.2.2 x0 v73.1 1 0 v73.2 hi)
        · have hf := pm_it hf c19
          refine pm_aload_n C dX16_isNamed_51 rfl rfl ?_
          obtain ⟨k75, hf⟩ := pm_if hf
          obtain ⟨v76, e77, hf⟩ := pm_bd hf
          refine pm_callV (as := []) (st := []) C X dX16_isNamed_52 lnX16_603 myX16_word viX16_word ⟨by decide, by decide⟩ rfl rfl k75 (Nat.le_of_ble_eq_true rfl) (Nat.le_refl _) (Nat.le_refl _) (ctX16_word e77 ?_)
          show pm_G g 55 [(0, .ref x0), (2, .int x2)] [.long v76.1] v76.2 0 0
          refine pm_aload_n C dX16_isNamed_55 rfl rfl ?_
          obtain ⟨k78, hf⟩ := pm_if hf
          refine pm_getI C dX16_isNamed_56 flX16_682 rfl k78 rfl ?_
          refine pm_i2l C dX16_isNamed_59 ?_
          refine pm_lcmp C dX16_isNamed_60 ?_
          refine pm_if_ge (tgt := 68) C dX16_isNamed_61 (by decide) (fun c79 => ?_) (fun c79 => ?_)
          · have hf := pm_it hf ((pm_lg_ge _ _).mp c79)
            refine pm_iconst (v := 0) C dX16_isNamed_68 (by decide) ?_
            cases hf
            cases hi
            exact pm_zret C X dX16_isNamed_69 rfl (by decide) (Nat.le_refl _) (Nat.le_refl _) q
          · have hf := pm_ie hf ((fun z => c79 ((pm_lg_ge _ _).mpr z)))
            refine pm_iconst (v := 1) C dX16_isNamed_64 (by decide) ?_
            refine pm_goto (tgt := 69) C dX16_isNamed_65 (by decide) ?_
            cases hf
            cases hi
            exact pm_zret C X dX16_isNamed_69 rfl (by decide) (Nat.le_refl _) (Nat.le_refl _) q
    refine ⟨fun x0 x2 h hf => ?_, ?_⟩
    · obtain ⟨y, hf, hi⟩ := pm_iter_s hf
      have hf : tX16_isNamed_290 x0 x2 h = some y := hf
      unfold tX16_isNamed_290 at hf
      refine pm_iload_n C dX16_isNamed_290 rfl rfl ?_
      refine pm_bipush (v := 35) C dX16_isNamed_291 (by decide) ?_
      refine pm_icmp_eq (tgt := 302) C dX16_isNamed_293 (by decide) (fun c80 => ?_) (fun c80 => ?_)
      · have hf := pm_it hf c80
        refine pm_aload_n C dX16_isNamed_302 rfl rfl ?_
        obtain ⟨k81, hf⟩ := pm_if hf
        obtain ⟨v82, e83, hf⟩ := pm_bd hf
        refine pm_callV (as := []) (st := []) C X dX16_isNamed_303 lnX16_603 myX16_word viX16_word ⟨by decide, by decide⟩ rfl rfl k81 (Nat.le_of_ble_eq_true rfl) (Nat.le_refl _) (Nat.le_refl _) (ctX16_word e83 ?_)
        show pm_G g 306 [(0, .ref x0), (2, .int x2)] [.long v82.1] v82.2 0 0
        refine pm_lstore_n (lv' := [(3, .long v82.1), (0, .ref x0), (2, .int x2)]) C dX16_isNamed_306 rfl (pm_nl X (by decide)) rfl ?_
        refine pm_lload_n C dX16_isNamed_307 rfl rfl ?_
        refine pm_aload_n C dX16_isNamed_308 rfl rfl ?_
        obtain ⟨k84, hf⟩ := pm_if hf
        obtain ⟨v85, e86, hf⟩ := pm_bd hf
        refine pm_getR C dX16_isNamed_309 flX16_221 rfl k84 e86 ?_
        refine pm_iconst (v := 3) C dX16_isNamed_312 (by decide) ?_
        obtain ⟨k87, hf⟩ := pm_if hf
        obtain ⟨v88, e89, hf⟩ := pm_bd hf
        refine pm_callV (as := [.int 3]) (st := [.long v82.1]) C X dX16_isNamed_313 lnX16_615 myX14_all viX14_all ⟨by decide, by decide⟩ rfl rfl k87 (Nat.le_of_ble_eq_true rfl) (Nat.le_refl _) (Nat.le_refl _) (ctX14_all e89 ?_)
        show pm_G g 316 [(3, .long v82.1), (0, .ref x0), (2, .int x2)] [.int v88, .long v82.1] v82.2 0 0
        refine pm_i2l C dX16_isNamed_316 ?_
        refine pm_lcmp C dX16_isNamed_317 ?_
        refine pm_if_ge (tgt := 343) C dX16_isNamed_318 (by decide) (fun c90 => ?_) (fun c90 => ?_)
        · have hf := pm_it hf ((pm_lg_ge _ _).mp c90)
          refine pm_iconst (v := 0) C dX16_isNamed_343 (by decide) ?_
          cases hf
          cases hi
          exact pm_zret C X dX16_isNamed_344 rfl (by decide) (Nat.le_refl _) (Nat.le_refl _) q
        · have hf := pm_ie hf ((fun z => c90 ((pm_lg_ge _ _).mpr z)))
          refine pm_iload_n C dX16_isNamed_321 rfl rfl ?_
          refine pm_bipush (v := 35) C dX16_isNamed_322 (by decide) ?_
          refine pm_icmp_eq (tgt := 339) C dX16_isNamed_324 (by decide) (fun c91 => ?_) (fun c91 => ?_)
          · have hf := pm_it hf c91
            refine pm_iconst (v := 1) C dX16_isNamed_339 (by decide) ?_
            refine pm_goto (tgt := 344) C dX16_isNamed_340 (by decide) ?_
            cases hf
            cases hi
            exact pm_zret C X dX16_isNamed_344 rfl (by decide) (Nat.le_refl _) (Nat.le_refl _) q
          · have hf := pm_ie hf c91
            refine pm_aload_n C dX16_isNamed_327 rfl rfl ?_
            refine pm_getR C dX16_isNamed_328 flX16_221 rfl k84 e86 ?_
            refine pm_lload_n C dX16_isNamed_331 rfl rfl ?_
            refine pm_l2i C dX16_isNamed_332 ?_
            obtain ⟨v92, e93, hf⟩ := pm_bd hf
            refine pm_callV (as := [.int v82.1.toInt32]) (st := []) C X dX16_isNamed_333 lnX16_667 myX14_globalMoves viX14_globalMoves ⟨by decide, by decide⟩ rfl rfl k87 (Nat.le_of_ble_eq_true rfl) (Nat.le_refl _) (Nat.le_refl _) (ctX14_globalMoves e93 ?_)
            show pm_G g 336 [(3, .long v82.1), (0, .ref x0), (2, .int x2)] [.int v92] v82.2 0 0
            refine pm_if_eq (tgt := 343) C dX16_isNamed_336 (by decide) (fun c94 => ?_) (fun c94 => ?_)
            · have hf := pm_it hf c94
              refine pm_iconst (v := 0) C dX16_isNamed_343 (by decide) ?_
              cases hf
              cases hi
              exact pm_zret C X dX16_isNamed_344 rfl (by decide) (Nat.le_refl _) (Nat.le_refl _) q
            · have hf := pm_ie hf c94
              refine pm_iconst (v := 1) C dX16_isNamed_339 (by decide) ?_
              refine pm_goto (tgt := 344) C dX16_isNamed_340 (by decide) ?_
              cases hf
              cases hi
              exact pm_zret C X dX16_isNamed_344 rfl (by decide) (Nat.le_refl _) (Nat.le_refl _) q
      · have hf := pm_ie hf c80
        refine pm_iload_n C dX16_isNamed_296 rfl rfl ?_
        refine pm_bipush (v := 36) C dX16_isNamed_297 (by decide) ?_
        refine pm_icmp_ne (tgt := 345) C dX16_isNamed_299 (by decide) (fun c95 => ?_) (fun c95 => ?_)
        · have hf := pm_ie hf c95
          refine pm_iload_n C dX16_isNamed_345 rfl rfl ?_
          refine pm_bipush (v := 37) C dX16_isNamed_346 (by decide) ?_
          refine pm_icmp_eq (tgt := 357) C dX16_isNamed_348 (by decide) (fun c96 => ?_) (fun c96 => ?_)
          · have hf := pm_it hf c96
            refine pm_aload_n C dX16_isNamed_357 rfl rfl ?_
            obtain ⟨k97, hf⟩ := pm_if hf
            obtain ⟨v98, e99, hf⟩ := pm_bd hf
            refine pm_callV (as := []) (st := []) C X dX16_isNamed_358 lnX16_603 myX16_word viX16_word ⟨by decide, by decide⟩ rfl rfl k97 (Nat.le_of_ble_eq_true rfl) (Nat.le_refl _) (Nat.le_refl _) (ctX16_word e99 ?_)
            show pm_G g 361 [(0, .ref x0), (2, .int x2)] [.long v98.1] v98.2 0 0
            refine pm_aload_n C dX16_isNamed_361 rfl rfl ?_
            obtain ⟨k100, hf⟩ := pm_if hf
            obtain ⟨v101, e102, hf⟩ := pm_bd hf
            refine pm_getR C dX16_isNamed_362 flX16_221 rfl k100 e102 ?_
            refine pm_iconst (v := 1) C dX16_isNamed_365 (by decide) ?_
            obtain ⟨k103, hf⟩ := pm_if hf
            obtain ⟨v104, e105, hf⟩ := pm_bd hf
            refine pm_callV (as := [.int 1]) (st := [.long v98.1]) C X dX16_isNamed_366 lnX16_615 myX14_all viX14_all ⟨by decide, by decide⟩ rfl rfl k103 (Nat.le_of_ble_eq_true rfl) (Nat.le_refl _) (Nat.le_refl _) (ctX14_all e105 ?_)
            show pm_G g 369 [(0, .ref x0), (2, .int x2)] [.int v104, .long v98.1] v98.2 0 0
            refine pm_i2l C dX16_isNamed_369 ?_
            refine pm_lcmp C dX16_isNamed_370 ?_
            refine pm_if_ge (tgt := 378) C dX16_isNamed_371 (by decide) (fun c106 => ?_) (fun c106 => ?_)
            · have hf := pm_it hf ((pm_lg_ge _ _).mp c106)
              refine pm_iconst (v := 0) C dX16_isNamed_378 (by decide) ?_
              cases hf
              cases hi
              exact pm_zret C X dX16_isNamed_379 rfl (by decide) (Nat.le_refl _) (Nat.le_refl _) q
            · have hf := pm_ie hf ((fun z => c106 ((pm_lg_ge _ _).mpr z)))
              refine pm_iconst (v := 1) C dX16_isNamed_374 (by decide) ?_
              refine pm_goto (tgt := 379) C dX16_isNamed_375 (by decide) ?_
              cases hf
              cases hi
              exact pm_zret C X dX16_isNamed_379 rfl (by decide) (Nat.le_refl _) (Nat.le_refl _) q
          · have hf := pm_ie hf c96
            refine pm_iload_n C dX16_isNamed_351 rfl rfl ?_
            refine pm_bipush (v := 38) C dX16_isNamed_352 (by decide) ?_
            refine pm_icmp_ne (tgt := 380) C dX16_isNamed_354 (by decide) (fun c107 => ?_) (fun c107 => ?_)
            · have hf := pm_ie hf c107
              refine pm_iload_n C dX16_isNamed_380 rfl rfl ?_
              obtain ⟨v108, e109, hf⟩ := pm_lt hf
              refine pm_callS (as := [.int x2]) (st := []) C X dX16_isNamed_381 lnX16_572 myX16_isAccess stX16_isAccess ⟨by decide, by decide⟩ rfl rfl (Nat.le_of_ble_eq_true rfl) (Nat.le_refl _) (Nat.le_refl _) (ctX16_isAccess e109 ?_)
              show pm_G g 384 [(0, .ref x0), (2, .int x2)] [.int v108] h 0 0
              refine pm_if_eq (tgt := 417) C dX16_isNamed_384 (by decide) (fun c110 => ?_) (fun c110 => ?_)
              · have hf := pm_it hf c110
                refine pm_iload_n C dX16_isNamed_417 rfl rfl ?_
                refine pm_bipush (v := 63) C dX16_isNamed_418 (by decide) ?_
                refine pm_icmp_eq (tgt := 429) C dX16_isNamed_420 (by decide) (fun c111 => ?_) (fun c111 => ?_)
                · have hf := pm_it hf c111
                  refine pm_aload_n C dX16_isNamed_429 rfl rfl ?_
                  obtain ⟨k112, hf⟩ := pm_if hf
                  obtain ⟨v113, e114, hf⟩ := pm_bd hf
                  refine pm_getR C dX16_isNamed_430 flX16_221 rfl k112 e114 ?_
                  refine pm_iconst (v := 2) C dX16_isNamed_433 (by decide) ?_
                  obtain ⟨k115, hf⟩ := pm_if hf
                  obtain ⟨v116, e117, hf⟩ := pm_bd hf
                  refine pm_callV (as := [.int 2]) (st := []) C X dX16_isNamed_434 lnX16_615 myX14_all viX14_all ⟨by decide, by decide⟩ rfl rfl k115 (Nat.le_of_ble_eq_true rfl) (Nat.le_refl _) (Nat.le_refl _) (ctX14_all e117 ?_)
                  show pm_G g 437 [(0, .ref x0), (2, .int x2)] [.int v116] h 0 0
                  refine pm_if_le (tgt := 444) C dX16_isNamed_437 (by decide) (fun c118 => ?_) (fun c118 => ?_)
                  · have hf := pm_it hf c118
                    refine pm_iconst (v := 0) C dX16_isNamed_444 (by decide) ?_
                    cases hf
                    cases hi
                    exact pm_zret C X dX16_isNamed_445 rfl (by decide) (Nat.le_refl _) (Nat.le_refl _) q
                  · have hf := pm_ie hf c118
                    refine pm_iconst (v := 1) C dX16_isNamed_440 (by decide) ?_
                    refine pm_goto (tgt := 445) C dX16_isNamed_441 (by decide) ?_
                    cases hf
                    cases hi
                    exact pm_zret C X dX16_isNamed_445 rfl (by decide) (Nat.le_refl _) (Nat.le_refl _) q
                · have hf := pm_ie hf c111
                  refine pm_iload_n C dX16_isNamed_423 rfl rfl ?_
                  refine pm_bipush (v := 64) C dX16_isNamed_424 (by decide) ?_
                  refine pm_icmp_ne (tgt := 446) C dX16_isNamed_426 (by decide) (fun c119 => ?_) (fun c119 => ?_)
                  · have hf := pm_ie hf c119
                    refine pm_iload_n C dX16_isNamed_446 rfl rfl ?_
                    refine pm_sipush (v := 210) C dX16_isNamed_447 (by decide) ?_
                    refine pm_icmp_ne (tgt := 488) C dX16_isNamed_450 (by decide) (fun c120 => ?_) (fun c120 => ?_)
                    · have hf := pm_ie hf c120
                      refine pm_iload_n C dX16_isNamed_488 rfl rfl ?_
                      refine pm_sipush (v := 252) C dX16_isNamed_489 (by decide) ?_
                      refine pm_icmp_ne (tgt := 502) C dX16_isNamed_492 (by decide) (fun c121 => ?_) (fun c121 => ?_)
                      · have hf := pm_ie hf c121
                        refine pm_iconst (v := 1) C dX16_isNamed_502 (by decide) ?_
                        refine pm_goto (tgt := 507) C dX16_isNamed_503 (by decide) ?_
                        cases hf
                        cases hi
                        exact pm_zret C X dX16_isNamed_507 rfl (by decide) (Nat.le_refl _) (Nat.le_refl _) q
                      · have hf := pm_it hf c121
                        refine pm_aload_n C dX16_isNamed_495 rfl rfl ?_
                        obtain ⟨k122, hf⟩ := pm_if hf
                        obtain ⟨v123, e124, hf⟩ := pm_bd hf
                        refine pm_callV (as := []) (st := []) C X dX16_isNamed_496 lnX16_731 myX16_isNamedFurther viX16_isNamedFurther ⟨by decide, by decide⟩ rfl rfl k122 (Nat.le_of_ble_eq_true rfl) (Nat.le_refl _) (Nat.le_refl _) (ctX16_isNamedFurther e124 ?_)
                        show pm_G g 499 [(0, .ref x0), (2, .int x2)] [.int v123.1] v123.2 0 0
                        refine pm_if_eq (tgt := 506) C dX16_isNamed_499 (by decide) (fun c125 => ?_) (fun c125 => ?_)
                        · have hf := pm_it hf c125
                          refine pm_iconst (v := 0) C dX16_isNamed_506 (by decide) ?_
                          cases hf
                          cases hi
                          exact pm_zret C X dX16_isNamed_507 rfl (by decide) (Nat.le_refl _) (Nat.le_refl _) q
                        · have hf := pm_ie hf c125
                          refine pm_iconst (v := 1) C dX16_isNamed_502 (by decide) ?_
                          refine pm_goto (tgt := 507) C dX16_isNamed_503 (by decide) ?_
                          cases hf
                          cases hi
                          exact pm_zret C X dX16_isNamed_507 rfl (by decide) (Nat.le_refl _) (Nat.le_refl _) q
                    · have hf := pm_it hf c120
                      refine pm_aload_n C dX16_isNamed_453 rfl rfl ?_
                      obtain ⟨k126, hf⟩ := pm_if hf
                      obtain ⟨v127, e128, hf⟩ := pm_bd hf
                      refine pm_callV (as := []) (st := []) C X dX16_isNamed_454 lnX16_603 myX16_word viX16_word ⟨by decide, by decide⟩ rfl rfl k126 (Nat.le_of_ble_eq_true rfl) (Nat.le_refl _) (Nat.le_refl _) (ctX16_word e128 ?_)
                      show pm_G g 457 [(0, .ref x0), (2, .int x2)] [.long v127.1] v127.2 0 0
                      refine pm_lstore_n (lv' := [(3, .long v127.1), (0, .ref x0), (2, .int x2)]) C dX16_isNamed_457 rfl (pm_nl X (by decide)) rfl ?_
                      refine pm_lload_n C dX16_isNamed_458 rfl rfl ?_
                      refine pm_aload_n C dX16_isNamed_459 rfl rfl ?_
                      obtain ⟨k129, hf⟩ := pm_if hf
                      obtain ⟨v130, e131, hf⟩ := pm_bd hf
                      refine pm_getR C dX16_isNamed_460 flX16_221 rfl k129 e131 ?_
                      refine pm_iconst (v := 0) C dX16_isNamed_463 (by decide) ?_
                      obtain ⟨k132, hf⟩ := pm_if hf
                      obtain ⟨v133, e134, hf⟩ := pm_bd hf
                      refine pm_callV (as := [.int 0]) (st := [.long v127.1]) C X dX16_isNamed_464 lnX16_615 myX14_all viX14_all ⟨by decide, by decide⟩ rfl rfl k132 (Nat.le_of_ble_eq_true rfl) (Nat.le_refl _) (Nat.le_refl _) (ctX14_all e134 ?_)
                      show pm_G g 467 [(3, .long v127.1), (0, .ref x0), (2, .int x2)] [.int v133, .long v127.1] v127.2 0 0
                      refine pm_i2l C dX16_isNamed_467 ?_
                      refine pm_lcmp C dX16_isNamed_468 ?_
                      refine pm_if_ge (tgt := 486) C dX16_isNamed_469 (by decide) (fun c135 => ?_) (fun c135 => ?_)
                      · have hf := pm_it hf ((pm_lg_ge _ _).mp c135)
                        refine pm_iconst (v := 0) C dX16_isNamed_486 (by decide) ?_
                        cases hf
                        cases hi
                        exact pm_zret C X dX16_isNamed_487 rfl (by decide) (Nat.le_refl _) (Nat.le_refl _) q
                      · have hf := pm_ie hf ((fun z => c135 ((pm_lg_ge _ _).mpr z)))
                        refine pm_aload_n C dX16_isNamed_472 rfl rfl ?_
                        obtain ⟨v136, e137, hf⟩ := pm_bd hf
                        refine pm_getR C dX16_isNamed_473 flX16_35 rfl k129 e137 ?_
                        refine pm_lload_n C dX16_isNamed_476 rfl rfl ?_
                        refine pm_l2i C dX16_isNamed_477 ?_
                        obtain ⟨k138, hf⟩ := pm_if hf
                        obtain ⟨u139, hf⟩ := pm_if hf
                        refine pm_zald C dX16_isNamed_478 k138 u139 rfl ?_
                        refine pm_if_eq (tgt := 486) C dX16_isNamed_479 (by decide) (fun c140 => ?_) (fun c140 => ?_)
                        · have hf := pm_it hf c140
                          refine pm_iconst (v := 0) C dX16_isNamed_486 (by decide) ?_
                          cases hf
                          cases hi
                          exact pm_zret C X dX16_isNamed_487 rfl (by decide) (Nat.le_refl _) (Nat.le_refl _) q
                        · have hf := pm_ie hf c140
                          refine pm_iconst (v := 1) C dX16_isNamed_482 (by decide) ?_
                          refine pm_goto (tgt := 487) C dX16_isNamed_483 (by decide) ?_
                          cases hf
                          cases hi
                          exact pm_zret C X dX16_isNamed_487 rfl (by decide) (Nat.le_refl _) (Nat.le_refl _) q
                  · have hf := pm_it hf c119
                    refine pm_aload_n C dX16_isNamed_429 rfl rfl ?_
                    obtain ⟨k141, hf⟩ := pm_if hf
                    obtain ⟨v142, e143, hf⟩ := pm_bd hf
                    refine pm_getR C dX16_isNamed_430 flX16_221 rfl k141 e143 ?_
                    refine pm_iconst (v := 2) C dX16_isNamed_433 (by decide) ?_
                    obtain ⟨k144, hf⟩ := pm_if hf
                    obtain ⟨v145, e146, hf⟩ := pm_bd hf
                    refine pm_callV (as := [.int 2]) (st := []) C X dX16_isNamed_434 lnX16_615 myX14_all viX14_all ⟨by decide, by decide⟩ rfl rfl k144 (Nat.le_of_ble_eq_true rfl) (Nat.le_refl _) (Nat.le_refl _) (ctX14_all e146 ?_)
                    show pm_G g 437 [(0, .ref x0), (2, .int x2)] [.int v145] h 0 0
                    refine pm_if_le (tgt := 444) C dX16_isNamed_437 (by decide) (fun c147 => ?_) (fun c147 => ?_)
                    · have hf := pm_it hf c147
                      refine pm_iconst (v := 0) C dX16_isNamed_444 (by decide) ?_
                      cases hf
                      cases hi
                      exact pm_zret C X dX16_isNamed_445 rfl (by decide) (Nat.le_refl _) (Nat.le_refl _) q
                    · have hf := pm_ie hf c147
                      refine pm_iconst (v := 1) C dX16_isNamed_440 (by decide) ?_
                      refine pm_goto (tgt := 445) C dX16_isNamed_441 (by decide) ?_
                      cases hf
                      cases hi
                      exact pm_zret C X dX16_isNamed_445 rfl (by decide) (Nat.le_refl _) (Nat.le_refl _) q
              · have hf := pm_ie hf c110
                refine pm_aload_n C dX16_isNamed_387 rfl rfl ?_
                obtain ⟨k148, hf⟩ := pm_if hf
                obtain ⟨v149, e150, hf⟩ := pm_bd hf
                refine pm_callV (as := []) (st := []) C X dX16_isNamed_388 lnX16_603 myX16_word viX16_word ⟨by decide, by decide⟩ rfl rfl k148 (Nat.le_of_ble_eq_true rfl) (Nat.le_refl _) (Nat.le_refl _) (ctX16_word e150 ?_)
                show pm_G g 391 [(0, .ref x0), (2, .int x2)] [.long v149.1] v149.2 0 0
                refine pm_iload_n C dX16_isNamed_391 rfl rfl ?_
                obtain ⟨v151, e152, hf⟩ := pm_lt hf
                refine pm_callS (as := [.int x2]) (st := [.long v149.1]) C X dX16_isNamed_392 lnX16_728 myX16_widthOf stX16_widthOf ⟨by decide, by decide⟩ rfl rfl (Nat.le_of_ble_eq_true rfl) (Nat.le_refl _) (Nat.le_refl _) (ctX16_widthOf e152 ?_)
                show pm_G g 395 [(0, .ref x0), (2, .int x2)] [.int v151, .long v149.1] v149.2 0 0
                refine pm_i2l C dX16_isNamed_395 ?_
                refine pm_lcmp C dX16_isNamed_396 ?_
                refine pm_if_gt (tgt := 415) C dX16_isNamed_397 (by decide) (fun c153 => ?_) (fun c153 => ?_)
                · have hf := pm_it hf ((pm_lg_gt _ _).mp c153)
                  refine pm_iconst (v := 0) C dX16_isNamed_415 (by decide) ?_
                  cases hf
                  cases hi
                  exact pm_zret C X dX16_isNamed_416 rfl (by decide) (Nat.le_refl _) (Nat.le_refl _) q
                · have hf := pm_ie hf ((fun z => c153 ((pm_lg_gt _ _).mpr z)))
                  refine pm_aload_n C dX16_isNamed_400 rfl rfl ?_
                  obtain ⟨k154, hf⟩ := pm_if hf
                  obtain ⟨v155, e156, hf⟩ := pm_bd hf
                  refine pm_getR C dX16_isNamed_401 flX16_221 rfl k154 e156 ?_
                  refine pm_iconst (v := 2) C dX16_isNamed_404 (by decide) ?_
                  obtain ⟨k157, hf⟩ := pm_if hf
                  obtain ⟨v158, e159, hf⟩ := pm_bd hf
                  refine pm_callV (as := [.int 2]) (st := []) C X dX16_isNamed_405 lnX16_615 myX14_all viX14_all ⟨by decide, by decide⟩ rfl rfl k157 (Nat.le_of_ble_eq_true rfl) (Nat.le_refl _) (Nat.le_refl _) (ctX14_all e159 ?_)
                  show pm_G g 408 [(0, .ref x0), (2, .int x2)] [.int v158] v149.2 0 0
                  refine pm_if_le (tgt := 415) C dX16_isNamed_408 (by decide) (fun c160 => ?_) (fun c160 => ?_)
                  · have hf := pm_it hf c160
                    refine pm_iconst (v := 0) C dX16_isNamed_415 (by decide) ?_
                    cases hf
                    cases hi
                    exact pm_zret C X dX16_isNamed_416 rfl (by decide) (Nat.le_refl _) (Nat.le_refl _) q
                  · have hf := pm_ie hf c160
                    refine pm_iconst (v := 1) C dX16_isNamed_411 (by decide) ?_
                    refine pm_goto (tgt := 416) C dX16_isNamed_412 (by decide) ?_
                    cases hf
                    cases hi
                    exact pm_zret C X dX16_isNamed_416 rfl (by decide) (Nat.le_refl _) (Nat.le_refl _) q
            · have hf := pm_it hf c107
              refine pm_aload_n C dX16_isNamed_357 rfl rfl ?_
              obtain ⟨k161, hf⟩ := pm_if hf
              obtain ⟨v162, e163, hf⟩ := pm_bd hf
              refine pm_callV (as := []) (st := []) C X dX16_isNamed_358 lnX16_603 myX16_word viX16_word ⟨by decide, by decide⟩ rfl rfl k161 (Nat.le_of_ble_eq_true rfl) (Nat.le_refl _) (Nat.le_refl _) (ctX16_word e163 ?_)
              show pm_G g 361 [(0, .ref x0), (2, .int x2)] [.long v162.1] v162.2 0 0
              refine pm_aload_n C dX16_isNamed_361 rfl rfl ?_
              obtain ⟨k164, hf⟩ := pm_if hf
              obtain ⟨v165, e166, hf⟩ := pm_bd hf
              refine pm_getR C dX16_isNamed_362 flX16_221 rfl k164 e166 ?_
              refine pm_iconst (v := 1) C dX16_isNamed_365 (by decide) ?_
              obtain ⟨k167, hf⟩ := pm_if hf
              obtain ⟨v168, e169, hf⟩ := pm_bd hf
              refine pm_callV (as := [.int 1]) (st := [.long v162.1]) C X dX16_isNamed_366 lnX16_615 myX14_all viX14_all ⟨by decide, by decide⟩ rfl rfl k167 (Nat.le_of_ble_eq_true rfl) (Nat.le_refl _) (Nat.le_refl _) (ctX14_all e169 ?_)
              show pm_G g 369 [(0, .ref x0), (2, .int x2)] [.int v168, .long v162.1] v162.2 0 0
              refine pm_i2l C dX16_isNamed_369 ?_
              refine pm_lcmp C dX16_isNamed_370 ?_
              refine pm_if_ge (tgt := 378) C dX16_isNamed_371 (by decide) (fun c170 => ?_) (fun c170 => ?_)
              · have hf := pm_it hf ((pm_lg_ge _ _).mp c170)
                refine pm_iconst (v := 0) C dX16_isNamed_378 (by decide) ?_
                cases hf
                cases hi
                exact pm_zret C X dX16_isNamed_379 rfl (by decide) (Nat.le_refl _) (Nat.le_refl _) q
              · have hf := pm_ie hf ((fun z => c170 ((pm_lg_ge _ _).mpr z)))
                refine pm_iconst (v := 1) C dX16_isNamed_374 (by decide) ?_
                refine pm_goto (tgt := 379) C dX16_isNamed_375 (by decide) ?_
                cases hf
                cases hi
                exact pm_zret C X dX16_isNamed_379 rfl (by decide) (Nat.le_refl _) (Nat.le_refl _) q
        · have hf := pm_it hf c95
          refine pm_aload_n C dX16_isNamed_302 rfl rfl ?_
          obtain ⟨k171, hf⟩ := pm_if hf
          obtain ⟨v172, e173, hf⟩ := pm_bd hf
          refine pm_callV (as := []) (st := []) C X dX16_isNamed_303 lnX16_603 myX16_word viX16_word ⟨by decide, by decide⟩ rfl rfl k171 (Nat.le_of_ble_eq_true rfl) (Nat.le_refl _) (Nat.le_refl _) (ctX16_word e173 ?_)
          show pm_G g 306 [(0, .ref x0), (2, .int x2)] [.long v172.1] v172.2 0 0
          refine pm_lstore_n (lv' := [(3, .long v172.1), (0, .ref x0), (2, .int x2)]) C dX16_isNamed_306 rfl (pm_nl X (by decide)) rfl ?_
          refine pm_lload_n C dX16_isNamed_307 rfl rfl ?_
          refine pm_aload_n C dX16_isNamed_308 rfl rfl ?_
          obtain ⟨k174, hf⟩ := pm_if hf
          obtain ⟨v175, e176, hf⟩ := pm_bd hf
          refine pm_getR C dX16_isNamed_309 flX16_221 rfl k174 e176 ?_
          refine pm_iconst (v := 3) C dX16_isNamed_312 (by decide) ?_
          obtain ⟨k177, hf⟩ := pm_if hf
          obtain ⟨v178, e179, hf⟩ := pm_bd hf
          refine pm_callV (as := [.int 3]) (st := [.long v172.1]) C X dX16_isNamed_313 lnX16_615 myX14_all viX14_all ⟨by decide, by decide⟩ rfl rfl k177 (Nat.le_of_ble_eq_true rfl) (Nat.le_refl _) (Nat.le_refl _) (ctX14_all e179 ?_)
          show pm_G g 316 [(3, .long v172.1), (0, .ref x0), (2, .int x2)] [.int v178, .long v172.1] v172.2 0 0
          refine pm_i2l C dX16_isNamed_316 ?_
          refine pm_lcmp C dX16_isNamed_317 ?_
          refine pm_if_ge (tgt := 343) C dX16_isNamed_318 (by decide) (fun c180 => ?_) (fun c180 => ?_)
          · have hf := pm_it hf ((pm_lg_ge _ _).mp c180)
            refine pm_iconst (v := 0) C dX16_isNamed_343 (by decide) ?_
            cases hf
            cases hi
            exact pm_zret C X dX16_isNamed_344 rfl (by decide) (Nat.le_refl _) (Nat.le_refl _) q
          · have hf := pm_ie hf ((fun z => c180 ((pm_lg_ge _ _).mpr z)))
            refine pm_iload_n C dX16_isNamed_321 rfl rfl ?_
            refine pm_bipush (v := 35) C dX16_isNamed_322 (by decide) ?_
            refine pm_icmp_eq (tgt := 339) C dX16_isNamed_324 (by decide) (fun c181 => ?_) (fun c181 => ?_)
            · have hf := pm_it hf c181
              refine pm_iconst (v := 1) C dX16_isNamed_339 (by decide) ?_
              refine pm_goto (tgt := 344) C dX16_isNamed_340 (by decide) ?_
              cases hf
              cases hi
              exact pm_zret C X dX16_isNamed_344 rfl (by decide) (Nat.le_refl _) (Nat.le_refl _) q
            · have hf := pm_ie hf c181
              refine pm_aload_n C dX16_isNamed_327 rfl rfl ?_
              refine pm_getR C dX16_isNamed_328 flX16_221 rfl k174 e176 ?_
              refine pm_lload_n C dX16_isNamed_331 rfl rfl ?_
              refine pm_l2i C dX16_isNamed_332 ?_
              obtain ⟨v182, e183, hf⟩ := pm_bd hf
              refine pm_callV (as := [.int v172.1.toInt32]) (st := []) C X dX16_isNamed_333 lnX16_667 myX14_globalMoves viX14_globalMoves ⟨by decide, by decide⟩ rfl rfl k177 (Nat.le_of_ble_eq_true rfl) (Nat.le_refl _) (Nat.le_refl _) (ctX14_globalMoves e183 ?_)
              show pm_G g 336 [(3, .long v172.1), (0, .ref x0), (2, .int x2)] [.int v182] v172.2 0 0
              refine pm_if_eq (tgt := 343) C dX16_isNamed_336 (by decide) (fun c184 => ?_) (fun c184 => ?_)
              · have hf := pm_it hf c184
                refine pm_iconst (v := 0) C dX16_isNamed_343 (by decide) ?_
                cases hf
                cases hi
                exact pm_zret C X dX16_isNamed_344 rfl (by decide) (Nat.le_refl _) (Nat.le_refl _) q
              · have hf := pm_ie hf c184
                refine pm_iconst (v := 1) C dX16_isNamed_339 (by decide) ?_
                refine pm_goto (tgt := 344) C dX16_isNamed_340 (by decide) ?_
                cases hf
                cases hi
                exact pm_zret C X dX16_isNamed_344 rfl (by decide) (Nat.le_refl _) (Nat.le_refl _) q
    refine fun x0 x3 x5 x6 h hf => ?_
    obtain ⟨y, hf, hi⟩ := pm_iter_s hf
    have hf : tX16_isNamed_87 x0 x3 x5 x6 h = some y := hf
    unfold tX16_isNamed_87 at hf
    refine pm_lload C dX16_isNamed_87 rfl ?_
    refine pm_lload_n C dX16_isNamed_89 rfl rfl ?_
    refine pm_lcmp C dX16_isNamed_90 ?_
    refine pm_if_gt (tgt := 140) C dX16_isNamed_91 (by decide) (fun c185 => ?_) (fun c185 => ?_)
    · have hf := pm_it hf ((pm_lg_gt _ _).mp c185)
      refine pm_iload C dX16_isNamed_140 rfl ?_
      obtain ⟨u186, hf⟩ := pm_if hf
      cases hf
      cases hi
      exact pm_zret C X dX16_isNamed_142 rfl (pm_b01 u186).1 (Nat.le_refl _) (Nat.le_refl _) q
    · have hf := pm_ie hf ((fun z => c185 ((pm_lg_gt _ _).mpr z)))
      refine pm_aload_n C dX16_isNamed_94 rfl rfl ?_
      obtain ⟨k187, hf⟩ := pm_if hf
      obtain ⟨v188, e189, hf⟩ := pm_bd hf
      refine pm_callV (as := []) (st := []) C X dX16_isNamed_95 lnX16_603 myX16_word viX16_word ⟨by decide, by decide⟩ rfl rfl k187 (Nat.le_of_ble_eq_true rfl) (Nat.le_refl _) (Nat.le_refl _) (ctX16_word e189 ?_)
      show pm_G g 98 [(0, .ref x0), (3, .long x3), (5, .int x5), (6, .long x6)] [.long v188.1] v188.2 0 0
      refine pm_aload_n C dX16_isNamed_98 rfl rfl ?_
      obtain ⟨k190, hf⟩ := pm_if hf
      refine pm_getI C dX16_isNamed_99 flX16_682 rfl k190 rfl ?_
      refine pm_i2l C dX16_isNamed_102 ?_
      refine pm_lcmp C dX16_isNamed_103 ?_
      refine pm_if_ge (tgt := 111) C dX16_isNamed_104 (by decide) (fun c191 => ?_) (fun c191 => ?_)
      · have hf := pm_it hf ((pm_lg_ge _ _).mp c191)
        refine pm_iconst (v := 0) C dX16_isNamed_111 (by decide) ?_
        refine pm_istore (lv' := [(8, .int 0), (0, .ref x0), (3, .long x3), (5, .int x5), (6, .long x6)]) C dX16_isNamed_112 (pm_nl X (by decide)) rfl ?_
        refine pm_iload C dX16_isNamed_114 rfl ?_
        refine pm_if_eq (tgt := 128) C dX16_isNamed_116 (by decide) (fun c192 => ?_) (fun c192 => ?_)
        · have hf := pm_it hf c192
          refine pm_iconst (v := 0) C dX16_isNamed_128 (by decide) ?_
          refine pm_istore (lv' := [(5, .int 0), (8, .int 0), (0, .ref x0), (3, .long x3), (6, .long x6)]) C dX16_isNamed_129 (pm_nl X (by decide)) rfl ?_
          refine pm_lload C dX16_isNamed_131 rfl ?_
          refine pm_lconst (v := 1) C dX16_isNamed_133 (by decide) ?_
          refine pm_ladd C dX16_isNamed_134 ?_
          obtain ⟨y193, e194, hf⟩ := pm_lt hf
          refine pm_topL e194 ?_
          refine pm_lstore (lv' := [(6, .long y193), (5, .int 0), (8, .int 0), (0, .ref x0), (3, .long x3)]) C dX16_isNamed_135 (pm_nl X (by decide)) rfl ?_
          refine pm_goto (tgt := 87) C dX16_isNamed_137 (by decide) ?_
          cases hf
          exact pm_sub [3, 4, 1, 0] rfl (ih.2.2 x0 x3 0 y193 v188.2 hi)
        · have hf := pm_ie hf c192
          refine pm_iload C dX16_isNamed_119 rfl ?_
          refine pm_if_eq (tgt := 128) C dX16_isNamed_121 (by decide) (fun c195 => ?_) (fun c195 => ?_)
          · have hf := pm_it hf c195
            refine pm_iconst (v := 0) C dX16_isNamed_128 (by decide) ?_
            refine pm_istore (lv' := [(5, .int 0), (8, .int 0), (0, .ref x0), (3, .long x3), (6, .long x6)]) C dX16_isNamed_129 (pm_nl X (by decide)) rfl ?_
            refine pm_lload C dX16_isNamed_131 rfl ?_
            refine pm_lconst (v := 1) C dX16_isNamed_133 (by decide) ?_
            refine pm_ladd C dX16_isNamed_134 ?_
            obtain ⟨y196, e197, hf⟩ := pm_lt hf
            refine pm_topL e197 ?_
            refine pm_lstore (lv' := [(6, .long y196), (5, .int 0), (8, .int 0), (0, .ref x0), (3, .long x3)]) C dX16_isNamed_135 (pm_nl X (by decide)) rfl ?_
            refine pm_goto (tgt := 87) C dX16_isNamed_137 (by decide) ?_
            cases hf
            exact pm_sub [3, 4, 1, 0] rfl (ih.2.2 x0 x3 0 y196 v188.2 hi)
          · have hf := pm_ie hf c195
            refine pm_iconst (v := 1) C dX16_isNamed_124 (by decide) ?_
            refine pm_goto (tgt := 129) C dX16_isNamed_125 (by decide) ?_
            refine pm_istore (lv' := [(5, .int 1), (8, .int 0), (0, .ref x0), (3, .long x3), (6, .long x6)]) C dX16_isNamed_129 (pm_nl X (by decide)) rfl ?_
            refine pm_lload C dX16_isNamed_131 rfl ?_
            refine pm_lconst (v := 1) C dX16_isNamed_133 (by decide) ?_
            refine pm_ladd C dX16_isNamed_134 ?_
            obtain ⟨y198, e199, hf⟩ := pm_lt hf
            refine pm_topL e199 ?_
            refine pm_lstore (lv' := [(6, .long y198), (5, .int 1), (8, .int 0), (0, .ref x0), (3, .long x3)]) C dX16_isNamed_135 (pm_nl X (by decide)) rfl ?_
            refine pm_goto (tgt := 87) C dX16_isNamed_137 (by decide) ?_
            cases hf
            exact pm_sub [3, 4, 1, 0] rfl (ih.2.2 x0 x3 1 y198 v188.2 hi)
      · have hf := pm_ie hf ((fun z => c191 ((pm_lg_ge _ _).mpr z)))
        refine pm_iconst (v := 1) C dX16_isNamed_107 (by decide) ?_
        refine pm_goto (tgt := 112) C dX16_isNamed_108 (by decide) ?_
        refine pm_istore (lv' := [(8, .int 1), (0, .ref x0), (3, .long x3), (5, .int x5), (6, .long x6)]) C dX16_isNamed_112 (pm_nl X (by decide)) rfl ?_
        refine pm_iload C dX16_isNamed_114 rfl ?_
        refine pm_if_eq (tgt := 128) C dX16_isNamed_116 (by decide) (fun c200 => ?_) (fun c200 => ?_)
        · have hf := pm_it hf c200
          refine pm_iconst (v := 0) C dX16_isNamed_128 (by decide) ?_
          refine pm_istore (lv' := [(5, .int 0), (8, .int 1), (0, .ref x0), (3, .long x3), (6, .long x6)]) C dX16_isNamed_129 (pm_nl X (by decide)) rfl ?_
          refine pm_lload C dX16_isNamed_131 rfl ?_
          refine pm_lconst (v := 1) C dX16_isNamed_133 (by decide) ?_
          refine pm_ladd C dX16_isNamed_134 ?_
          obtain ⟨y201, e202, hf⟩ := pm_lt hf
          refine pm_topL e202 ?_
          refine pm_lstore (lv' := [(6, .long y201), (5, .int 0), (8, .int 1), (0, .ref x0), (3, .long x3)]) C dX16_isNamed_135 (pm_nl X (by decide)) rfl ?_
          refine pm_goto (tgt := 87) C dX16_isNamed_137 (by decide) ?_
          cases hf
          exact pm_sub [3, 4, 1, 0] rfl (ih.2.2 x0 x3 0 y201 v188.2 hi)
        · have hf := pm_ie hf c200
          refine pm_iload C dX16_isNamed_119 rfl ?_
          refine pm_if_eq (tgt := 128) C dX16_isNamed_121 (by decide) (fun c203 => ?_) (fun c203 => ?_)
          · have hf := pm_it hf c203
            refine pm_iconst (v := 0) C dX16_isNamed_128 (by decide) ?_
            refine pm_istore (lv' := [(5, .int 0), (8, .int 1), (0, .ref x0), (3, .long x3), (6, .long x6)]) C dX16_isNamed_129 (pm_nl X (by decide)) rfl ?_
            refine pm_lload C dX16_isNamed_131 rfl ?_
            refine pm_lconst (v := 1) C dX16_isNamed_133 (by decide) ?_
            refine pm_ladd C dX16_isNamed_134 ?_
            obtain ⟨y204, e205, hf⟩ := pm_lt hf
            refine pm_topL e205 ?_
            refine pm_lstore (lv' := [(6, .long y204), (5, .int 0), (8, .int 1), (0, .ref x0), (3, .long x3)]) C dX16_isNamed_135 (pm_nl X (by decide)) rfl ?_
            refine pm_goto (tgt := 87) C dX16_isNamed_137 (by decide) ?_
            cases hf
            exact pm_sub [3, 4, 1, 0] rfl (ih.2.2 x0 x3 0 y204 v188.2 hi)
          · have hf := pm_ie hf c203
            refine pm_iconst (v := 1) C dX16_isNamed_124 (by decide) ?_
            refine pm_goto (tgt := 129) C dX16_isNamed_125 (by decide) ?_
            refine pm_istore (lv' := [(5, .int 1), (8, .int 1), (0, .ref x0), (3, .long x3), (6, .long x6)]) C dX16_isNamed_129 (pm_nl X (by decide)) rfl ?_
            refine pm_lload C dX16_isNamed_131 rfl ?_
            refine pm_lconst (v := 1) C dX16_isNamed_133 (by decide) ?_
            refine pm_ladd C dX16_isNamed_134 ?_
            obtain ⟨y206, e207, hf⟩ := pm_lt hf
            refine pm_topL e207 ?_
            refine pm_lstore (lv' := [(6, .long y206), (5, .int 1), (8, .int 1), (0, .ref x0), (3, .long x3)]) C dX16_isNamed_135 (pm_nl X (by decide)) rfl ?_
            refine pm_goto (tgt := 87) C dX16_isNamed_137 (by decide) ?_
            cases hf
            exact pm_sub [3, 4, 1, 0] rfl (ih.2.2 x0 x3 1 y206 v188.2 hi)
set_option maxHeartbeats 4000000 in
set_option maxRecDepth 100000 in
theorem ctX16_isNamed {l : Launch} {G : pm_Gl} {h : pm_H} {a0 : Nat} {p1 : Int32} {p2 : Int32} {r : (Int32 × pm_H)} {Qr : Option Value → pm_H → Prop} (hf : fX16_isNamed h a0 p1 p2 = some r) (q : Qr (some (.int r.1)) r.2) : pm_Ct l G mX16_isNamed [.ref a0, .int p1, .int p2] h 0 0 Qr := by
  refine pm_body pnX16 (Nat.le_of_ble_eq_true rfl) (fun g C X => ?_)
  have C : pm_C g cX16_isNamed RX16 := C
  show pm_G g 0 [(0, .ref a0), (1, .int p1), (2, .int p2)] [] h 0 0
  unfold fX16_isNamed at hf
  refine pm_aload_n C dX16_isNamed_0 rfl rfl ?_
  refine pm_iload_n C dX16_isNamed_1 rfl rfl ?_
  refine pm_iconst (v := 1) C dX16_isNamed_2 (by decide) ?_
  refine pm_iadd C dX16_isNamed_3 ?_
  obtain ⟨y1, e2, hf⟩ := pm_lt hf
  refine pm_topI e2 ?_
  obtain ⟨k3, hf⟩ := pm_if hf
  refine pm_putI C dX16_isNamed_4 flX16_594 rfl rfl k3 rfl rfl ?_
  refine pm_iload_n C dX16_isNamed_7 rfl rfl ?_
  refine pm_iconst (v := 2) C dX16_isNamed_8 (by decide) ?_
  refine pm_icmp_lt (tgt := 39) C dX16_isNamed_9 (by decide) (fun c4 => ?_) (fun c4 => ?_)
  · have hf := pm_it hf c4
    obtain ⟨n, hn⟩ := pm_lim_iter hf
    exact pm_sub [0, 2] rfl ((lpX16_isNamed C X q n).1 a0 p2 (pm_setI h a0 19 y1) hn)
  · have hf := pm_ie hf c4
    refine pm_iload_n C dX16_isNamed_12 rfl rfl ?_
    refine pm_iconst (v := 4) C dX16_isNamed_13 (by decide) ?_
    refine pm_icmp_gt (tgt := 39) C dX16_isNamed_14 (by decide) (fun c5 => ?_) (fun c5 => ?_)
    · have hf := pm_it hf c5
      obtain ⟨n, hn⟩ := pm_lim_iter hf
      exact pm_sub [0, 2] rfl ((lpX16_isNamed C X q n).1 a0 p2 (pm_setI h a0 19 y1) hn)
    · have hf := pm_ie hf c5
      refine pm_aload_n C dX16_isNamed_17 rfl rfl ?_
      obtain ⟨v6, e7, hf⟩ := pm_bd hf
      refine pm_callV (as := []) (st := []) C X dX16_isNamed_18 lnX16_600 myX16_blockWord viX16_blockWord ⟨by decide, by decide⟩ rfl rfl k3 (Nat.le_of_ble_eq_true rfl) (Nat.le_refl _) (Nat.le_refl _) (ctX16_blockWord e7 ?_)
      show pm_G g 21 [(0, .ref a0), (1, .int p1), (2, .int p2)] [.long v6.1] v6.2 0 0
      refine pm_aload_n C dX16_isNamed_21 rfl rfl ?_
      obtain ⟨k8, hf⟩ := pm_if hf
      obtain ⟨v9, e10, hf⟩ := pm_bd hf
      refine pm_getR C dX16_isNamed_22 flX16_221 rfl k8 e10 ?_
      obtain ⟨k11, hf⟩ := pm_if hf
      refine pm_getI C dX16_isNamed_25 flX16_381 rfl k11 rfl ?_
      refine pm_i2l C dX16_isNamed_28 ?_
      refine pm_lcmp C dX16_isNamed_29 ?_
      refine pm_if_ge (tgt := 37) C dX16_isNamed_30 (by decide) (fun c12 => ?_) (fun c12 => ?_)
      · have hf := pm_it hf ((pm_lg_ge _ _).mp c12)
        refine pm_iconst (v := 0) C dX16_isNamed_37 (by decide) ?_
        cases hf
        exact pm_zret C X dX16_isNamed_38 rfl (by decide) (Nat.le_refl _) (Nat.le_refl _) q
      · have hf := pm_ie hf ((fun z => c12 ((pm_lg_ge _ _).mpr z)))
        refine pm_iconst (v := 1) C dX16_isNamed_33 (by decide) ?_
        refine pm_goto (tgt := 38) C dX16_isNamed_34 (by decide) ?_
        cases hf
        exact pm_zret C X dX16_isNamed_38 rfl (by decide) (Nat.le_refl _) (Nat.le_refl _) q
theorem dX16_isReal_0 : decode cX16_isReal 0 = .ok (.aload_n 0, 1) := by decide +kernel
theorem dX16_isReal_1 : decode cX16_isReal 1 = .ok (.getfield 61, 3) := by decide +kernel
theorem dX16_isReal_4 : decode cX16_isReal 4 = .ok (.iload_n 2, 1) := by decide +kernel
theorem dX16_isReal_5 : decode cX16_isReal 5 = .ok (.lload_n 3, 1) := by decide +kernel
theorem dX16_isReal_6 : decode cX16_isReal 6 = .ok (.invokevirtual 868, 3) := by decide +kernel
theorem dX16_isReal_9 : decode cX16_isReal 9 = .ok (.aload_n 0, 1) := by decide +kernel
theorem dX16_isReal_10 : decode cX16_isReal 10 = .ok (.getfield 65, 3) := by decide +kernel
theorem dX16_isReal_13 : decode cX16_isReal 13 = .ok (.iload_n 2, 1) := by decide +kernel
theorem dX16_isReal_14 : decode cX16_isReal 14 = .ok (.lload 5, 2) := by decide +kernel
theorem dX16_isReal_16 : decode cX16_isReal 16 = .ok (.invokevirtual 868, 3) := by decide +kernel
theorem dX16_isReal_19 : decode cX16_isReal 19 = .ok (.aload_n 0, 1) := by decide +kernel
theorem dX16_isReal_20 : decode cX16_isReal 20 = .ok (.getfield 61, 3) := by decide +kernel
theorem dX16_isReal_23 : decode cX16_isReal 23 = .ok (.getfield 871, 3) := by decide +kernel
theorem dX16_isReal_26 : decode cX16_isReal 26 = .ok (.iconst 3, 1) := by decide +kernel
theorem dX16_isReal_27 : decode cX16_isReal 27 = .ok (.if_icmp .eq 14, 3) := by decide +kernel
theorem dX16_isReal_30 : decode cX16_isReal 30 = .ok (.aload_n 0, 1) := by decide +kernel
theorem dX16_isReal_31 : decode cX16_isReal 31 = .ok (.getfield 65, 3) := by decide +kernel
theorem dX16_isReal_34 : decode cX16_isReal 34 = .ok (.getfield 871, 3) := by decide +kernel
theorem dX16_isReal_37 : decode cX16_isReal 37 = .ok (.iconst 3, 1) := by decide +kernel
theorem dX16_isReal_38 : decode cX16_isReal 38 = .ok (.if_icmp .ne 14, 3) := by decide +kernel
theorem dX16_isReal_41 : decode cX16_isReal 41 = .ok (.iload_n 1, 1) := by decide +kernel
theorem dX16_isReal_42 : decode cX16_isReal 42 = .ok (.iconst 1, 1) := by decide +kernel
theorem dX16_isReal_43 : decode cX16_isReal 43 = .ok (.if_icmp .ne 7, 3) := by decide +kernel
theorem dX16_isReal_46 : decode cX16_isReal 46 = .ok (.iconst 1, 1) := by decide +kernel
theorem dX16_isReal_47 : decode cX16_isReal 47 = .ok (.goto 4, 3) := by decide +kernel
theorem dX16_isReal_50 : decode cX16_isReal 50 = .ok (.iconst 0, 1) := by decide +kernel
theorem dX16_isReal_51 : decode cX16_isReal 51 = .ok (.ireturn, 1) := by decide +kernel
theorem dX16_isReal_52 : decode cX16_isReal 52 = .ok (.iload_n 2, 1) := by decide +kernel
theorem dX16_isReal_53 : decode cX16_isReal 53 = .ok (.lload_n 3, 1) := by decide +kernel
theorem dX16_isReal_54 : decode cX16_isReal 54 = .ok (.invokestatic 874, 3) := by decide +kernel
theorem dX16_isReal_57 : decode cX16_isReal 57 = .ok (.lstore 7, 2) := by decide +kernel
theorem dX16_isReal_59 : decode cX16_isReal 59 = .ok (.iload_n 2, 1) := by decide +kernel
theorem dX16_isReal_60 : decode cX16_isReal 60 = .ok (.lload 5, 2) := by decide +kernel
theorem dX16_isReal_62 : decode cX16_isReal 62 = .ok (.invokestatic 874, 3) := by decide +kernel
theorem dX16_isReal_65 : decode cX16_isReal 65 = .ok (.lstore 9, 2) := by decide +kernel
theorem dX16_isReal_67 : decode cX16_isReal 67 = .ok (.iload_n 1, 1) := by decide +kernel
theorem dX16_isReal_68 : decode cX16_isReal 68 = .ok (.ifCond .ne 19, 3) := by decide +kernel
theorem dX16_isReal_71 : decode cX16_isReal 71 = .ok (.lload 7, 2) := by decide +kernel
theorem dX16_isReal_73 : decode cX16_isReal 73 = .ok (.lload 9, 2) := by decide +kernel
theorem dX16_isReal_75 : decode cX16_isReal 75 = .ok (.lcmp, 1) := by decide +kernel
theorem dX16_isReal_76 : decode cX16_isReal 76 = .ok (.ifCond .ne 7, 3) := by decide +kernel
theorem dX16_isReal_79 : decode cX16_isReal 79 = .ok (.iconst 1, 1) := by decide +kernel
theorem dX16_isReal_80 : decode cX16_isReal 80 = .ok (.goto 104, 3) := by decide +kernel
theorem dX16_isReal_83 : decode cX16_isReal 83 = .ok (.iconst 0, 1) := by decide +kernel
theorem dX16_isReal_84 : decode cX16_isReal 84 = .ok (.goto 100, 3) := by decide +kernel
theorem dX16_isReal_87 : decode cX16_isReal 87 = .ok (.iload_n 1, 1) := by decide +kernel
theorem dX16_isReal_88 : decode cX16_isReal 88 = .ok (.iconst 1, 1) := by decide +kernel
theorem dX16_isReal_89 : decode cX16_isReal 89 = .ok (.if_icmp .ne 19, 3) := by decide +kernel
theorem dX16_isReal_92 : decode cX16_isReal 92 = .ok (.lload 7, 2) := by decide +kernel
theorem dX16_isReal_94 : decode cX16_isReal 94 = .ok (.lload 9, 2) := by decide +kernel
theorem dX16_isReal_96 : decode cX16_isReal 96 = .ok (.lcmp, 1) := by decide +kernel
theorem dX16_isReal_97 : decode cX16_isReal 97 = .ok (.ifCond .eq 7, 3) := by decide +kernel
theorem dX16_isReal_100 : decode cX16_isReal 100 = .ok (.iconst 1, 1) := by decide +kernel
theorem dX16_isReal_101 : decode cX16_isReal 101 = .ok (.goto 83, 3) := by decide +kernel
theorem dX16_isReal_104 : decode cX16_isReal 104 = .ok (.iconst 0, 1) := by decide +kernel
theorem dX16_isReal_105 : decode cX16_isReal 105 = .ok (.goto 79, 3) := by decide +kernel
theorem dX16_isReal_108 : decode cX16_isReal 108 = .ok (.iload_n 1, 1) := by decide +kernel
theorem dX16_isReal_109 : decode cX16_isReal 109 = .ok (.iconst 2, 1) := by decide +kernel
theorem dX16_isReal_110 : decode cX16_isReal 110 = .ok (.if_icmp .ne 19, 3) := by decide +kernel
theorem dX16_isReal_113 : decode cX16_isReal 113 = .ok (.lload 7, 2) := by decide +kernel
theorem dX16_isReal_115 : decode cX16_isReal 115 = .ok (.lload 9, 2) := by decide +kernel
theorem dX16_isReal_117 : decode cX16_isReal 117 = .ok (.lcmp, 1) := by decide +kernel
theorem dX16_isReal_118 : decode cX16_isReal 118 = .ok (.ifCond .ge 7, 3) := by decide +kernel
theorem dX16_isReal_121 : decode cX16_isReal 121 = .ok (.iconst 1, 1) := by decide +kernel
theorem dX16_isReal_122 : decode cX16_isReal 122 = .ok (.goto 62, 3) := by decide +kernel
theorem dX16_isReal_125 : decode cX16_isReal 125 = .ok (.iconst 0, 1) := by decide +kernel
theorem dX16_isReal_126 : decode cX16_isReal 126 = .ok (.goto 58, 3) := by decide +kernel
theorem dX16_isReal_129 : decode cX16_isReal 129 = .ok (.iload_n 1, 1) := by decide +kernel
theorem dX16_isReal_130 : decode cX16_isReal 130 = .ok (.iconst 3, 1) := by decide +kernel
theorem dX16_isReal_131 : decode cX16_isReal 131 = .ok (.if_icmp .ne 19, 3) := by decide +kernel
theorem dX16_isReal_134 : decode cX16_isReal 134 = .ok (.lload 7, 2) := by decide +kernel
theorem dX16_isReal_136 : decode cX16_isReal 136 = .ok (.lload 9, 2) := by decide +kernel
theorem dX16_isReal_138 : decode cX16_isReal 138 = .ok (.lcmp, 1) := by decide +kernel
theorem dX16_isReal_139 : decode cX16_isReal 139 = .ok (.ifCond .le 7, 3) := by decide +kernel
theorem dX16_isReal_142 : decode cX16_isReal 142 = .ok (.iconst 1, 1) := by decide +kernel
theorem dX16_isReal_143 : decode cX16_isReal 143 = .ok (.goto 41, 3) := by decide +kernel
theorem dX16_isReal_146 : decode cX16_isReal 146 = .ok (.iconst 0, 1) := by decide +kernel
theorem dX16_isReal_147 : decode cX16_isReal 147 = .ok (.goto 37, 3) := by decide +kernel
theorem dX16_isReal_150 : decode cX16_isReal 150 = .ok (.iload_n 1, 1) := by decide +kernel
theorem dX16_isReal_151 : decode cX16_isReal 151 = .ok (.iconst 4, 1) := by decide +kernel
theorem dX16_isReal_152 : decode cX16_isReal 152 = .ok (.if_icmp .ne 19, 3) := by decide +kernel
theorem dX16_isReal_155 : decode cX16_isReal 155 = .ok (.lload 7, 2) := by decide +kernel
theorem dX16_isReal_157 : decode cX16_isReal 157 = .ok (.lload 9, 2) := by decide +kernel
theorem dX16_isReal_159 : decode cX16_isReal 159 = .ok (.lcmp, 1) := by decide +kernel
theorem dX16_isReal_160 : decode cX16_isReal 160 = .ok (.ifCond .gt 7, 3) := by decide +kernel
theorem dX16_isReal_163 : decode cX16_isReal 163 = .ok (.iconst 1, 1) := by decide +kernel
theorem dX16_isReal_164 : decode cX16_isReal 164 = .ok (.goto 20, 3) := by decide +kernel
theorem dX16_isReal_167 : decode cX16_isReal 167 = .ok (.iconst 0, 1) := by decide +kernel
theorem dX16_isReal_168 : decode cX16_isReal 168 = .ok (.goto 16, 3) := by decide +kernel
theorem dX16_isReal_171 : decode cX16_isReal 171 = .ok (.lload 7, 2) := by decide +kernel
theorem dX16_isReal_173 : decode cX16_isReal 173 = .ok (.lload 9, 2) := by decide +kernel
theorem dX16_isReal_175 : decode cX16_isReal 175 = .ok (.lcmp, 1) := by decide +kernel
theorem dX16_isReal_176 : decode cX16_isReal 176 = .ok (.ifCond .lt 7, 3) := by decide +kernel
theorem dX16_isReal_179 : decode cX16_isReal 179 = .ok (.iconst 1, 1) := by decide +kernel
theorem dX16_isReal_180 : decode cX16_isReal 180 = .ok (.goto 4, 3) := by decide +kernel
theorem dX16_isReal_183 : decode cX16_isReal 183 = .ok (.iconst 0, 1) := by decide +kernel
theorem dX16_isReal_184 : decode cX16_isReal 184 = .ok (.ireturn, 1) := by decide +kernel
def fX16_isReal (h : pm_H) (a0 : Nat) (p1 : Int32) (p2 : Int32) (p3 : Int64) (p4 : Int64) : Option (Int32 × pm_H) := if pm_kd h a0 = 16 then (pm_R h a0 34).bind fun v2 => if pm_kd h v2 = 15 then (fX15_read h v2 p2 p3).bind fun v5 => if pm_kd v5 a0 = 16 then (pm_R v5 a0 35).bind fun v8 => if pm_kd v5 v8 = 15 then (fX15_read v5 v8 p2 p4).bind fun v11 => if pm_kd v11 a0 = 16 then (pm_R v11 a0 34).bind fun v14 => if pm_kd v11 v14 = 15 then if (pm_I v11 v14 1) = 3 then (if p1 = 1 then (some ((1, v11))) else (some ((0, v11)))) else ((pm_R v11 a0 35).bind fun v19 => if pm_kd v11 v19 = 15 then if (pm_I v11 v19 1) = 3 then (if p1 = 1 then (some ((1, v11))) else (some ((0, v11)))) else (pm_let (fX16_order p2 p3) fun v23 => pm_let (fX16_order p2 p4) fun v25 => if p1 = 0 then (if v23 = v25 then (some ((1, v11))) else (some ((0, v11)))) else (if p1 = 1 then (if v23 = v25 then (some ((0, v11))) else (some ((1, v11)))) else (if p1 = 2 then (if v25 ≤ v23 then (some ((0, v11))) else (some ((1, v11)))) else (if p1 = 3 then (if v23 ≤ v25 then (some ((0, v11))) else (some ((1, v11)))) else (if p1 = 4 then (if v25 < v23 then (some ((0, v11))) else (some ((1, v11)))) else (if v23 < v25 then (some ((0, v11))) else (some ((1, v11))))))))) else none) else none else none else none else none else none else none
set_option maxHeartbeats 4000000 in
set_option maxRecDepth 100000 in
theorem ctX16_isReal {l : Launch} {G : pm_Gl} {h : pm_H} {a0 : Nat} {p1 : Int32} {p2 : Int32} {p3 : Int64} {p4 : Int64} {r : (Int32 × pm_H)} {Qr : Option Value → pm_H → Prop} (hf : fX16_isReal h a0 p1 p2 p3 p4 = some r) (q : Qr (some (.int r.1)) r.2) : pm_Ct l G mX16_isReal [.ref a0, .int p1, .int p2, .long p3, .long p4] h 0 0 Qr := by
  refine pm_body pnX16 (Nat.le_of_ble_eq_true rfl) (fun g C X => ?_)
  have C : pm_C g cX16_isReal RX16 := C
  show pm_G g 0 [(0, .ref a0), (1, .int p1), (2, .int p2), (3, .long p3), (5, .long p4)] [] h 0 0
  unfold fX16_isReal at hf
  refine pm_aload_n C dX16_isReal_0 rfl rfl ?_
  obtain ⟨k1, hf⟩ := pm_if hf
  obtain ⟨v2, e3, hf⟩ := pm_bd hf
  refine pm_getR C dX16_isReal_1 flX16_61 rfl k1 e3 ?_
  refine pm_iload_n C dX16_isReal_4 rfl rfl ?_
  refine pm_lload_n C dX16_isReal_5 rfl rfl ?_
  obtain ⟨k4, hf⟩ := pm_if hf
  obtain ⟨v5, e6, hf⟩ := pm_bd hf
  refine pm_callV (as := [.int p2, .long p3]) (st := []) C X dX16_isReal_6 lnX16_868 myX15_read viX15_read ⟨by decide, by decide⟩ rfl rfl k4 (Nat.le_of_ble_eq_true rfl) (Nat.le_refl _) (Nat.le_refl _) (ctX15_read e6 ?_)
  show pm_G g 9 [(0, .ref a0), (1, .int p1), (2, .int p2), (3, .long p3), (5, .long p4)] [] v5 0 0
  refine pm_aload_n C dX16_isReal_9 rfl rfl ?_
  obtain ⟨k7, hf⟩ := pm_if hf
  obtain ⟨v8, e9, hf⟩ := pm_bd hf
  refine pm_getR C dX16_isReal_10 flX16_65 rfl k7 e9 ?_
  refine pm_iload_n C dX16_isReal_13 rfl rfl ?_
  refine pm_lload C dX16_isReal_14 rfl ?_
  obtain ⟨k10, hf⟩ := pm_if hf
  obtain ⟨v11, e12, hf⟩ := pm_bd hf
  refine pm_callV (as := [.int p2, .long p4]) (st := []) C X dX16_isReal_16 lnX16_868 myX15_read viX15_read ⟨by decide, by decide⟩ rfl rfl k10 (Nat.le_of_ble_eq_true rfl) (Nat.le_refl _) (Nat.le_refl _) (ctX15_read e12 ?_)
  show pm_G g 19 [(0, .ref a0), (1, .int p1), (2, .int p2), (3, .long p3), (5, .long p4)] [] v11 0 0
  refine pm_aload_n C dX16_isReal_19 rfl rfl ?_
  obtain ⟨k13, hf⟩ := pm_if hf
  obtain ⟨v14, e15, hf⟩ := pm_bd hf
  refine pm_getR C dX16_isReal_20 flX16_61 rfl k13 e15 ?_
  obtain ⟨k16, hf⟩ := pm_if hf
  refine pm_getI C dX16_isReal_23 flX16_871 rfl k16 rfl ?_
  refine pm_iconst (v := 3) C dX16_isReal_26 (by decide) ?_
  refine pm_icmp_eq (tgt := 41) C dX16_isReal_27 (by decide) (fun c17 => ?_) (fun c17 => ?_)
  · have hf := pm_it hf c17
    refine pm_iload_n C dX16_isReal_41 rfl rfl ?_
    refine pm_iconst (v := 1) C dX16_isReal_42 (by decide) ?_
    refine pm_icmp_ne (tgt := 50) C dX16_isReal_43 (by decide) (fun c18 => ?_) (fun c18 => ?_)
    · have hf := pm_ie hf c18
      refine pm_iconst (v := 0) C dX16_isReal_50 (by decide) ?_
      cases hf
      exact pm_zret C X dX16_isReal_51 rfl (by decide) (Nat.le_refl _) (Nat.le_refl _) q
    · have hf := pm_it hf c18
      refine pm_iconst (v := 1) C dX16_isReal_46 (by decide) ?_
      refine pm_goto (tgt := 51) C dX16_isReal_47 (by decide) ?_
      cases hf
      exact pm_zret C X dX16_isReal_51 rfl (by decide) (Nat.le_refl _) (Nat.le_refl _) q
  · have hf := pm_ie hf c17
    refine pm_aload_n C dX16_isReal_30 rfl rfl ?_
    obtain ⟨v19, e20, hf⟩ := pm_bd hf
    refine pm_getR C dX16_isReal_31 flX16_65 rfl k13 e20 ?_
    obtain ⟨k21, hf⟩ := pm_if hf
    refine pm_getI C dX16_isReal_34 flX16_871 rfl k21 rfl ?_
    refine pm_iconst (v := 3) C dX16_isReal_37 (by decide) ?_
    refine pm_icmp_ne (tgt := 52) C dX16_isReal_38 (by decide) (fun c22 => ?_) (fun c22 => ?_)
    · have hf := pm_ie hf c22
      refine pm_iload_n C dX16_isReal_52 rfl rfl ?_
      refine pm_lload_n C dX16_isReal_53 rfl rfl ?_
      obtain ⟨v23, e24, hf⟩ := pm_lt hf
      refine pm_callS (as := [.int p2, .long p3]) (st := []) C X dX16_isReal_54 lnX16_874 myX16_order stX16_order ⟨by decide, by decide⟩ rfl rfl (Nat.le_of_ble_eq_true rfl) (Nat.le_refl _) (Nat.le_refl _) (ctX16_order e24 ?_)
      show pm_G g 57 [(0, .ref a0), (1, .int p1), (2, .int p2), (3, .long p3), (5, .long p4)] [.long v23] v11 0 0
      refine pm_lstore (lv' := [(7, .long v23), (0, .ref a0), (1, .int p1), (2, .int p2), (3, .long p3), (5, .long p4)]) C dX16_isReal_57 (pm_nl X (by decide)) rfl ?_
      refine pm_iload_n C dX16_isReal_59 rfl rfl ?_
      refine pm_lload C dX16_isReal_60 rfl ?_
      obtain ⟨v25, e26, hf⟩ := pm_lt hf
      refine pm_callS (as := [.int p2, .long p4]) (st := []) C X dX16_isReal_62 lnX16_874 myX16_order stX16_order ⟨by decide, by decide⟩ rfl rfl (Nat.le_of_ble_eq_true rfl) (Nat.le_refl _) (Nat.le_refl _) (ctX16_order e26 ?_)
      show pm_G g 65 [(7, .long v23), (0, .ref a0), (1, .int p1), (2, .int p2), (3, .long p3), (5, .long p4)] [.long v25] v11 0 0
      refine pm_lstore (lv' := [(9, .long v25), (7, .long v23), (0, .ref a0), (1, .int p1), (2, .int p2), (3, .long p3), (5, .long p4)]) C dX16_isReal_65 (pm_nl X (by decide)) rfl ?_
      refine pm_iload_n C dX16_isReal_67 rfl rfl ?_
      refine pm_if_ne (tgt := 87) C dX16_isReal_68 (by decide) (fun c27 => ?_) (fun c27 => ?_)
      · have hf := pm_ie hf c27
        refine pm_iload_n C dX16_isReal_87 rfl rfl ?_
        refine pm_iconst (v := 1) C dX16_isReal_88 (by decide) ?_
        refine pm_icmp_ne (tgt := 108) C dX16_isReal_89 (by decide) (fun c28 => ?_) (fun c28 => ?_)
        · have hf := pm_ie hf c28
          refine pm_iload_n C dX16_isReal_108 rfl rfl ?_
          refine pm_iconst (v := 2) C dX16_isReal_109 (by decide) ?_
          refine pm_icmp_ne (tgt := 129) C dX16_isReal_110 (by decide) (fun c29 => ?_) (fun c29 => ?_)
          · have hf := pm_ie hf c29
            refine pm_iload_n C dX16_isReal_129 rfl rfl ?_
            refine pm_iconst (v := 3) C dX16_isReal_130 (by decide) ?_
            refine pm_icmp_ne (tgt := 150) C dX16_isReal_131 (by decide) (fun c30 => ?_) (fun c30 => ?_)
            · have hf := pm_ie hf c30
              refine pm_iload_n C dX16_isReal_150 rfl rfl ?_
              refine pm_iconst (v := 4) C dX16_isReal_151 (by decide) ?_
              refine pm_icmp_ne (tgt := 171) C dX16_isReal_152 (by decide) (fun c31 => ?_) (fun c31 => ?_)
              · have hf := pm_ie hf c31
                refine pm_lload C dX16_isReal_171 rfl ?_
                refine pm_lload C dX16_isReal_173 rfl ?_
                refine pm_lcmp C dX16_isReal_175 ?_
                refine pm_if_lt (tgt := 183) C dX16_isReal_176 (by decide) (fun c32 => ?_) (fun c32 => ?_)
                · have hf := pm_it hf ((pm_lg_lt _ _).mp c32)
                  refine pm_iconst (v := 0) C dX16_isReal_183 (by decide) ?_
                  cases hf
                  exact pm_zret C X dX16_isReal_184 rfl (by decide) (Nat.le_refl _) (Nat.le_refl _) q
                · have hf := pm_ie hf ((fun z => c32 ((pm_lg_lt _ _).mpr z)))
                  refine pm_iconst (v := 1) C dX16_isReal_179 (by decide) ?_
                  refine pm_goto (tgt := 184) C dX16_isReal_180 (by decide) ?_
                  cases hf
                  exact pm_zret C X dX16_isReal_184 rfl (by decide) (Nat.le_refl _) (Nat.le_refl _) q
              · have hf := pm_it hf c31
                refine pm_lload C dX16_isReal_155 rfl ?_
                refine pm_lload C dX16_isReal_157 rfl ?_
                refine pm_lcmp C dX16_isReal_159 ?_
                refine pm_if_gt (tgt := 167) C dX16_isReal_160 (by decide) (fun c33 => ?_) (fun c33 => ?_)
                · have hf := pm_it hf ((pm_lg_gt _ _).mp c33)
                  refine pm_iconst (v := 0) C dX16_isReal_167 (by decide) ?_
                  refine pm_goto (tgt := 184) C dX16_isReal_168 (by decide) ?_
                  cases hf
                  exact pm_zret C X dX16_isReal_184 rfl (by decide) (Nat.le_refl _) (Nat.le_refl _) q
                · have hf := pm_ie hf ((fun z => c33 ((pm_lg_gt _ _).mpr z)))
                  refine pm_iconst (v := 1) C dX16_isReal_163 (by decide) ?_
                  refine pm_goto (tgt := 184) C dX16_isReal_164 (by decide) ?_
                  cases hf
                  exact pm_zret C X dX16_isReal_184 rfl (by decide) (Nat.le_refl _) (Nat.le_refl _) q
            · have hf := pm_it hf c30
              refine pm_lload C dX16_isReal_134 rfl ?_
              refine pm_lload C dX16_isReal_136 rfl ?_
              refine pm_lcmp C dX16_isReal_138 ?_
              refine pm_if_le (tgt := 146) C dX16_isReal_139 (by decide) (fun c34 => ?_) (fun c34 => ?_)
              · have hf := pm_it hf ((pm_lg_le _ _).mp c34)
                refine pm_iconst (v := 0) C dX16_isReal_146 (by decide) ?_
                refine pm_goto (tgt := 184) C dX16_isReal_147 (by decide) ?_
                cases hf
                exact pm_zret C X dX16_isReal_184 rfl (by decide) (Nat.le_refl _) (Nat.le_refl _) q
              · have hf := pm_ie hf ((fun z => c34 ((pm_lg_le _ _).mpr z)))
                refine pm_iconst (v := 1) C dX16_isReal_142 (by decide) ?_
                refine pm_goto (tgt := 184) C dX16_isReal_143 (by decide) ?_
                cases hf
                exact pm_zret C X dX16_isReal_184 rfl (by decide) (Nat.le_refl _) (Nat.le_refl _) q
          · have hf := pm_it hf c29
            refine pm_lload C dX16_isReal_113 rfl ?_
            refine pm_lload C dX16_isReal_115 rfl ?_
            refine pm_lcmp C dX16_isReal_117 ?_
            refine pm_if_ge (tgt := 125) C dX16_isReal_118 (by decide) (fun c35 => ?_) (fun c35 => ?_)
            · have hf := pm_it hf ((pm_lg_ge _ _).mp c35)
              refine pm_iconst (v := 0) C dX16_isReal_125 (by decide) ?_
              refine pm_goto (tgt := 184) C dX16_isReal_126 (by decide) ?_
              cases hf
              exact pm_zret C X dX16_isReal_184 rfl (by decide) (Nat.le_refl _) (Nat.le_refl _) q
            · have hf := pm_ie hf ((fun z => c35 ((pm_lg_ge _ _).mpr z)))
              refine pm_iconst (v := 1) C dX16_isReal_121 (by decide) ?_
              refine pm_goto (tgt := 184) C dX16_isReal_122 (by decide) ?_
              cases hf
              exact pm_zret C X dX16_isReal_184 rfl (by decide) (Nat.le_refl _) (Nat.le_refl _) q
        · have hf := pm_it hf c28
          refine pm_lload C dX16_isReal_92 rfl ?_
          refine pm_lload C dX16_isReal_94 rfl ?_
          refine pm_lcmp C dX16_isReal_96 ?_
          refine pm_if_eq (tgt := 104) C dX16_isReal_97 (by decide) (fun c36 => ?_) (fun c36 => ?_)
          · have hf := pm_it hf ((pm_lg_eq _ _).mp c36)
            refine pm_iconst (v := 0) C dX16_isReal_104 (by decide) ?_
            refine pm_goto (tgt := 184) C dX16_isReal_105 (by decide) ?_
            cases hf
            exact pm_zret C X dX16_isReal_184 rfl (by decide) (Nat.le_refl _) (Nat.le_refl _) q
          · have hf := pm_ie hf ((fun z => c36 ((pm_lg_eq _ _).mpr z)))
            refine pm_iconst (v := 1) C dX16_isReal_100 (by decide) ?_
            refine pm_goto (tgt := 184) C dX16_isReal_101 (by decide) ?_
            cases hf
            exact pm_zret C X dX16_isReal_184 rfl (by decide) (Nat.le_refl _) (Nat.le_refl _) q
      · have hf := pm_it hf c27
        refine pm_lload C dX16_isReal_71 rfl ?_
        refine pm_lload C dX16_isReal_73 rfl ?_
        refine pm_lcmp C dX16_isReal_75 ?_
        refine pm_if_ne (tgt := 83) C dX16_isReal_76 (by decide) (fun c37 => ?_) (fun c37 => ?_)
        · have hf := pm_ie hf ((fun z => c37 ((pm_lg_eq _ _).mpr z)))
          refine pm_iconst (v := 0) C dX16_isReal_83 (by decide) ?_
          refine pm_goto (tgt := 184) C dX16_isReal_84 (by decide) ?_
          cases hf
          exact pm_zret C X dX16_isReal_184 rfl (by decide) (Nat.le_refl _) (Nat.le_refl _) q
        · have hf := pm_it hf ((pm_lg_eq _ _).mp c37)
          refine pm_iconst (v := 1) C dX16_isReal_79 (by decide) ?_
          refine pm_goto (tgt := 184) C dX16_isReal_80 (by decide) ?_
          cases hf
          exact pm_zret C X dX16_isReal_184 rfl (by decide) (Nat.le_refl _) (Nat.le_refl _) q
    · have hf := pm_it hf c22
      refine pm_iload_n C dX16_isReal_41 rfl rfl ?_
      refine pm_iconst (v := 1) C dX16_isReal_42 (by decide) ?_
      refine pm_icmp_ne (tgt := 50) C dX16_isReal_43 (by decide) (fun c38 => ?_) (fun c38 => ?_)
      · have hf := pm_ie hf c38
        refine pm_iconst (v := 0) C dX16_isReal_50 (by decide) ?_
        cases hf
        exact pm_zret C X dX16_isReal_51 rfl (by decide) (Nat.le_refl _) (Nat.le_refl _) q
      · have hf := pm_it hf c38
        refine pm_iconst (v := 1) C dX16_isReal_46 (by decide) ?_
        refine pm_goto (tgt := 51) C dX16_isReal_47 (by decide) ?_
        cases hf
        exact pm_zret C X dX16_isReal_51 rfl (by decide) (Nat.le_refl _) (Nat.le_refl _) q
theorem dX16_memory_0 : decode cX16_memory 0 = .ok (.aload_n 0, 1) := by decide +kernel
theorem dX16_memory_1 : decode cX16_memory 1 = .ok (.iconst 2, 1) := by decide +kernel
theorem dX16_memory_2 : decode cX16_memory 2 = .ok (.iload_n 1, 1) := by decide +kernel
theorem dX16_memory_3 : decode cX16_memory 3 = .ok (.iload_n 2, 1) := by decide +kernel
theorem dX16_memory_4 : decode cX16_memory 4 = .ok (.invokevirtual 1074, 3) := by decide +kernel
theorem dX16_memory_7 : decode cX16_memory 7 = .ok (.istore 4, 2) := by decide +kernel
theorem dX16_memory_9 : decode cX16_memory 9 = .ok (.iload_n 3, 1) := by decide +kernel
theorem dX16_memory_10 : decode cX16_memory 10 = .ok (.i2l, 1) := by decide +kernel
theorem dX16_memory_11 : decode cX16_memory 11 = .ok (.ldc2_w 513, 3) := by decide +kernel
theorem dX16_memory_14 : decode cX16_memory 14 = .ok (.land, 1) := by decide +kernel
theorem dX16_memory_15 : decode cX16_memory 15 = .ok (.lstore 5, 2) := by decide +kernel
theorem dX16_memory_17 : decode cX16_memory 17 = .ok (.iload 4, 2) := by decide +kernel
theorem dX16_memory_19 : decode cX16_memory 19 = .ok (.ifCond .lt 21, 3) := by decide +kernel
theorem dX16_memory_22 : decode cX16_memory 22 = .ok (.lload 5, 2) := by decide +kernel
theorem dX16_memory_24 : decode cX16_memory 24 = .ok (.ldc2_w 636, 3) := by decide +kernel
theorem dX16_memory_27 : decode cX16_memory 27 = .ok (.aload_n 0, 1) := by decide +kernel
theorem dX16_memory_28 : decode cX16_memory 28 = .ok (.getfield 109, 3) := by decide +kernel
theorem dX16_memory_31 : decode cX16_memory 31 = .ok (.iload 4, 2) := by decide +kernel
theorem dX16_memory_33 : decode cX16_memory 33 = .ok (.iaload, 1) := by decide +kernel
theorem dX16_memory_34 : decode cX16_memory 34 = .ok (.i2l, 1) := by decide +kernel
theorem dX16_memory_35 : decode cX16_memory 35 = .ok (.lmul, 1) := by decide +kernel
theorem dX16_memory_36 : decode cX16_memory 36 = .ok (.lcmp, 1) := by decide +kernel
theorem dX16_memory_37 : decode cX16_memory 37 = .ok (.ifCond .lt 7, 3) := by decide +kernel
theorem dX16_memory_40 : decode cX16_memory 40 = .ok (.iconst (-1), 1) := by decide +kernel
theorem dX16_memory_41 : decode cX16_memory 41 = .ok (.goto 12, 3) := by decide +kernel
theorem dX16_memory_44 : decode cX16_memory 44 = .ok (.aload_n 0, 1) := by decide +kernel
theorem dX16_memory_45 : decode cX16_memory 45 = .ok (.iload 4, 2) := by decide +kernel
theorem dX16_memory_47 : decode cX16_memory 47 = .ok (.lload 5, 2) := by decide +kernel
theorem dX16_memory_49 : decode cX16_memory 49 = .ok (.invokevirtual 1182, 3) := by decide +kernel
theorem dX16_memory_52 : decode cX16_memory 52 = .ok (.l2i, 1) := by decide +kernel
theorem dX16_memory_53 : decode cX16_memory 53 = .ok (.ireturn, 1) := by decide +kernel
def fX16_memory (h : pm_H) (a0 : Nat) (p1 : Int32) (p2 : Int32) (p3 : Int32) : Option Int32 := if pm_kd h a0 = 16 then (fX16_exportedAs h a0 2 p1 p2).bind fun v2 => pm_let (p3.toInt64 &&& 4294967295) fun y4 => if v2 < 0 then (some ((-1))) else ((pm_R h a0 54).bind fun v7 => if pm_kd h v7 = 34 then if pm_in v2 (pm_ln h v7) then if y4 < (65536 * ((pm_I h v7 v2.toNatClampNeg).toInt64)) then ((fX16_gets h a0 v2 y4).bind fun v12 => some v12.toInt32) else (some ((-1))) else none else none) else none
set_option maxHeartbeats 4000000 in
set_option maxRecDepth 100000 in
theorem ctX16_memory {l : Launch} {G : pm_Gl} {h : pm_H} {a0 : Nat} {p1 : Int32} {p2 : Int32} {p3 : Int32} {r : Int32} {Qr : Option Value → pm_H → Prop} (hf : fX16_memory h a0 p1 p2 p3 = some r) (q : Qr (some (.int r)) h) : pm_Ct l G mX16_memory [.ref a0, .int p1, .int p2, .int p3] h 0 0 Qr := by
  refine pm_body pnX16 (Nat.le_of_ble_eq_true rfl) (fun g C X => ?_)
  have C : pm_C g cX16_memory RX16 := C
  show pm_G g 0 [(0, .ref a0), (1, .int p1), (2, .int p2), (3, .int p3)] [] h 0 0
  unfold fX16_memory at hf
  refine pm_aload_n C dX16_memory_0 rfl rfl ?_
  refine pm_iconst (v := 2) C dX16_memory_1 (by decide) ?_
  refine pm_iload_n C dX16_memory_2 rfl rfl ?_
  refine pm_iload_n C dX16_memory_3 rfl rfl ?_
  obtain ⟨k1, hf⟩ := pm_if hf
  obtain ⟨v2, e3, hf⟩ := pm_bd hf
  refine pm_callV (as := [.int 2, .int p1, .int p2]) (st := []) C X dX16_memory_4 lnX16_1074 myX16_exportedAs viX16_exportedAs ⟨by decide, by decide⟩ rfl rfl k1 (Nat.le_of_ble_eq_true rfl) (Nat.le_refl _) (Nat.le_refl _) (ctX16_exportedAs e3 ?_)
  show pm_G g 7 [(0, .ref a0), (1, .int p1), (2, .int p2), (3, .int p3)] [.int v2] h 0 0
  refine pm_istore (lv' := [(4, .int v2), (0, .ref a0), (1, .int p1), (2, .int p2), (3, .int p3)]) C dX16_memory_7 (pm_nl X (by decide)) rfl ?_
  refine pm_iload_n C dX16_memory_9 rfl rfl ?_
  refine pm_i2l C dX16_memory_10 ?_
  refine pm_ldc2 C dX16_memory_11 cnX16_513 ?_
  refine pm_land C dX16_memory_14 ?_
  obtain ⟨y4, e5, hf⟩ := pm_lt hf
  refine pm_topL e5 ?_
  refine pm_lstore (lv' := [(5, .long y4), (4, .int v2), (0, .ref a0), (1, .int p1), (2, .int p2), (3, .int p3)]) C dX16_memory_15 (pm_nl X (by decide)) rfl ?_
  refine pm_iload C dX16_memory_17 rfl ?_
  refine pm_if_lt (tgt := 40) C dX16_memory_19 (by decide) (fun c6 => ?_) (fun c6 => ?_)
  · have hf := pm_it hf c6
    refine pm_iconst (v := (-1)) C dX16_memory_40 (by decide) ?_
    refine pm_goto (tgt := 53) C dX16_memory_41 (by decide) ?_
    cases hf
    exact pm_iret C X dX16_memory_53 rfl (Nat.le_refl _) (Nat.le_refl _) q
  · have hf := pm_ie hf c6
    refine pm_lload C dX16_memory_22 rfl ?_
    refine pm_ldc2 C dX16_memory_24 cnX16_636 ?_
    refine pm_aload_n C dX16_memory_27 rfl rfl ?_
    obtain ⟨v7, e8, hf⟩ := pm_bd hf
    refine pm_getR C dX16_memory_28 flX16_109 rfl k1 e8 ?_
    refine pm_iload C dX16_memory_31 rfl ?_
    obtain ⟨k9, hf⟩ := pm_if hf
    obtain ⟨u10, hf⟩ := pm_if hf
    refine pm_iald C dX16_memory_33 k9 u10 rfl ?_
    refine pm_i2l C dX16_memory_34 ?_
    refine pm_lmul C dX16_memory_35 ?_
    refine pm_lcmp C dX16_memory_36 ?_
    refine pm_if_lt (tgt := 44) C dX16_memory_37 (by decide) (fun c11 => ?_) (fun c11 => ?_)
    · have hf := pm_it hf ((pm_lg_lt _ _).mp c11)
      refine pm_aload_n C dX16_memory_44 rfl rfl ?_
      refine pm_iload C dX16_memory_45 rfl ?_
      refine pm_lload C dX16_memory_47 rfl ?_
      obtain ⟨v12, e13, hf⟩ := pm_bd hf
      refine pm_callV (as := [.int v2, .long y4]) (st := []) C X dX16_memory_49 lnX16_1182 myX16_gets viX16_gets ⟨by decide, by decide⟩ rfl rfl k1 (Nat.le_of_ble_eq_true rfl) (Nat.le_refl _) (Nat.le_refl _) (ctX16_gets e13 ?_)
      show pm_G g 52 [(5, .long y4), (4, .int v2), (0, .ref a0), (1, .int p1), (2, .int p2), (3, .int p3)] [.long v12] h 0 0
      refine pm_l2i C dX16_memory_52 ?_
      cases hf
      exact pm_iret C X dX16_memory_53 rfl (Nat.le_refl _) (Nat.le_refl _) q
    · have hf := pm_ie hf ((fun z => c11 ((pm_lg_lt _ _).mpr z)))
      refine pm_iconst (v := (-1)) C dX16_memory_40 (by decide) ?_
      refine pm_goto (tgt := 53) C dX16_memory_41 (by decide) ?_
      cases hf
      exact pm_iret C X dX16_memory_53 rfl (Nat.le_refl _) (Nat.le_refl _) q
