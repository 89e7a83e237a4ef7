theorem dX16_takesOwn_0 : decode cX16_takesOwn 0 = .ok (.iconst 0, 1) := by decide +kernel
theorem dX16_takesOwn_1 : decode cX16_takesOwn 1 = .ok (.istore_n 3, 1) := by decide +kernel
theorem dX16_takesOwn_2 : decode cX16_takesOwn 2 = .ok (.iload_n 3, 1) := by decide +kernel
theorem dX16_takesOwn_3 : decode cX16_takesOwn 3 = .ok (.aload_n 0, 1) := by decide +kernel
theorem dX16_takesOwn_4 : decode cX16_takesOwn 4 = .ok (.getfield 221, 3) := by decide +kernel
theorem dX16_takesOwn_7 : decode cX16_takesOwn 7 = .ok (.getfield 426, 3) := by decide +kernel
theorem dX16_takesOwn_10 : decode cX16_takesOwn 10 = .ok (.if_icmp .ge 43, 3) := by decide +kernel
theorem dX16_takesOwn_13 : decode cX16_takesOwn 13 = .ok (.aload_n 0, 1) := by decide +kernel
theorem dX16_takesOwn_14 : decode cX16_takesOwn 14 = .ok (.iconst 0, 1) := by decide +kernel
theorem dX16_takesOwn_15 : decode cX16_takesOwn 15 = .ok (.iload_n 1, 1) := by decide +kernel
theorem dX16_takesOwn_16 : decode cX16_takesOwn 16 = .ok (.aload_n 0, 1) := by decide +kernel
theorem dX16_takesOwn_17 : decode cX16_takesOwn 17 = .ok (.getfield 221, 3) := by decide +kernel
theorem dX16_takesOwn_20 : decode cX16_takesOwn 20 = .ok (.iconst 0, 1) := by decide +kernel
theorem dX16_takesOwn_21 : decode cX16_takesOwn 21 = .ok (.invokevirtual 664, 3) := by decide +kernel
theorem dX16_takesOwn_24 : decode cX16_takesOwn 24 = .ok (.iload_n 3, 1) := by decide +kernel
theorem dX16_takesOwn_25 : decode cX16_takesOwn 25 = .ok (.iadd, 1) := by decide +kernel
theorem dX16_takesOwn_26 : decode cX16_takesOwn 26 = .ok (.aload_n 0, 1) := by decide +kernel
theorem dX16_takesOwn_27 : decode cX16_takesOwn 27 = .ok (.iload_n 2, 1) := by decide +kernel
theorem dX16_takesOwn_28 : decode cX16_takesOwn 28 = .ok (.aload_n 0, 1) := by decide +kernel
theorem dX16_takesOwn_29 : decode cX16_takesOwn 29 = .ok (.getfield 221, 3) := by decide +kernel
theorem dX16_takesOwn_32 : decode cX16_takesOwn 32 = .ok (.getfield 429, 3) := by decide +kernel
theorem dX16_takesOwn_35 : decode cX16_takesOwn 35 = .ok (.iload_n 3, 1) := by decide +kernel
theorem dX16_takesOwn_36 : decode cX16_takesOwn 36 = .ok (.laload, 1) := by decide +kernel
theorem dX16_takesOwn_37 : decode cX16_takesOwn 37 = .ok (.l2i, 1) := by decide +kernel
theorem dX16_takesOwn_38 : decode cX16_takesOwn 38 = .ok (.iload_n 1, 1) := by decide +kernel
theorem dX16_takesOwn_39 : decode cX16_takesOwn 39 = .ok (.iload_n 3, 1) := by decide +kernel
theorem dX16_takesOwn_40 : decode cX16_takesOwn 40 = .ok (.iconst (-1), 1) := by decide +kernel
theorem dX16_takesOwn_41 : decode cX16_takesOwn 41 = .ok (.invokevirtual 1005, 3) := by decide +kernel
theorem dX16_takesOwn_44 : decode cX16_takesOwn 44 = .ok (.invokevirtual 1009, 3) := by decide +kernel
theorem dX16_takesOwn_47 : decode cX16_takesOwn 47 = .ok (.iinc 3 1, 3) := by decide +kernel
theorem dX16_takesOwn_50 : decode cX16_takesOwn 50 = .ok (.goto (-48), 3) := by decide +kernel
theorem dX16_takesOwn_53 : decode cX16_takesOwn 53 = .ok (.iconst 0, 1) := by decide +kernel
theorem dX16_takesOwn_54 : decode cX16_takesOwn 54 = .ok (.istore_n 3, 1) := by decide +kernel
theorem dX16_takesOwn_55 : decode cX16_takesOwn 55 = .ok (.iload_n 3, 1) := by decide +kernel
theorem dX16_takesOwn_56 : decode cX16_takesOwn 56 = .ok (.aload_n 0, 1) := by decide +kernel
theorem dX16_takesOwn_57 : decode cX16_takesOwn 57 = .ok (.getfield 221, 3) := by decide +kernel
theorem dX16_takesOwn_60 : decode cX16_takesOwn 60 = .ok (.getfield 432, 3) := by decide +kernel
theorem dX16_takesOwn_63 : decode cX16_takesOwn 63 = .ok (.if_icmp .ge 104, 3) := by decide +kernel
theorem dX16_takesOwn_66 : decode cX16_takesOwn 66 = .ok (.aload_n 0, 1) := by decide +kernel
theorem dX16_takesOwn_67 : decode cX16_takesOwn 67 = .ok (.getfield 93, 3) := by decide +kernel
theorem dX16_takesOwn_70 : decode cX16_takesOwn 70 = .ok (.aload_n 0, 1) := by decide +kernel
theorem dX16_takesOwn_71 : decode cX16_takesOwn 71 = .ok (.getfield 978, 3) := by decide +kernel
theorem dX16_takesOwn_74 : decode cX16_takesOwn 74 = .ok (.aload_n 0, 1) := by decide +kernel
theorem dX16_takesOwn_75 : decode cX16_takesOwn 75 = .ok (.getfield 221, 3) := by decide +kernel
theorem dX16_takesOwn_78 : decode cX16_takesOwn 78 = .ok (.getfield 435, 3) := by decide +kernel
theorem dX16_takesOwn_81 : decode cX16_takesOwn 81 = .ok (.iload_n 3, 1) := by decide +kernel
theorem dX16_takesOwn_82 : decode cX16_takesOwn 82 = .ok (.iaload, 1) := by decide +kernel
theorem dX16_takesOwn_83 : decode cX16_takesOwn 83 = .ok (.iastore, 1) := by decide +kernel
theorem dX16_takesOwn_84 : decode cX16_takesOwn 84 = .ok (.aload_n 0, 1) := by decide +kernel
theorem dX16_takesOwn_85 : decode cX16_takesOwn 85 = .ok (.getfield 99, 3) := by decide +kernel
theorem dX16_takesOwn_88 : decode cX16_takesOwn 88 = .ok (.aload_n 0, 1) := by decide +kernel
theorem dX16_takesOwn_89 : decode cX16_takesOwn 89 = .ok (.getfield 978, 3) := by decide +kernel
theorem dX16_takesOwn_92 : decode cX16_takesOwn 92 = .ok (.aload_n 0, 1) := by decide +kernel
theorem dX16_takesOwn_93 : decode cX16_takesOwn 93 = .ok (.getfield 221, 3) := by decide +kernel
theorem dX16_takesOwn_96 : decode cX16_takesOwn 96 = .ok (.getfield 441, 3) := by decide +kernel
theorem dX16_takesOwn_99 : decode cX16_takesOwn 99 = .ok (.iload_n 3, 1) := by decide +kernel
theorem dX16_takesOwn_100 : decode cX16_takesOwn 100 = .ok (.laload, 1) := by decide +kernel
theorem dX16_takesOwn_101 : decode cX16_takesOwn 101 = .ok (.lastore, 1) := by decide +kernel
theorem dX16_takesOwn_102 : decode cX16_takesOwn 102 = .ok (.aload_n 0, 1) := by decide +kernel
theorem dX16_takesOwn_103 : decode cX16_takesOwn 103 = .ok (.getfield 96, 3) := by decide +kernel
theorem dX16_takesOwn_106 : decode cX16_takesOwn 106 = .ok (.aload_n 0, 1) := by decide +kernel
theorem dX16_takesOwn_107 : decode cX16_takesOwn 107 = .ok (.getfield 978, 3) := by decide +kernel
theorem dX16_takesOwn_110 : decode cX16_takesOwn 110 = .ok (.iconst 0, 1) := by decide +kernel
theorem dX16_takesOwn_111 : decode cX16_takesOwn 111 = .ok (.iastore, 1) := by decide +kernel
theorem dX16_takesOwn_112 : decode cX16_takesOwn 112 = .ok (.aload_n 0, 1) := by decide +kernel
theorem dX16_takesOwn_113 : decode cX16_takesOwn 113 = .ok (.aload_n 0, 1) := by decide +kernel
theorem dX16_takesOwn_114 : decode cX16_takesOwn 114 = .ok (.getfield 978, 3) := by decide +kernel
theorem dX16_takesOwn_117 : decode cX16_takesOwn 117 = .ok (.aload_n 0, 1) := by decide +kernel
theorem dX16_takesOwn_118 : decode cX16_takesOwn 118 = .ok (.getfield 221, 3) := by decide +kernel
theorem dX16_takesOwn_121 : decode cX16_takesOwn 121 = .ok (.getfield 438, 3) := by decide +kernel
theorem dX16_takesOwn_124 : decode cX16_takesOwn 124 = .ok (.iload_n 3, 1) := by decide +kernel
theorem dX16_takesOwn_125 : decode cX16_takesOwn 125 = .ok (.laload, 1) := by decide +kernel
theorem dX16_takesOwn_126 : decode cX16_takesOwn 126 = .ok (.l2i, 1) := by decide +kernel
theorem dX16_takesOwn_127 : decode cX16_takesOwn 127 = .ok (.iconst (-1), 1) := by decide +kernel
theorem dX16_takesOwn_128 : decode cX16_takesOwn 128 = .ok (.invokevirtual 1013, 3) := by decide +kernel
theorem dX16_takesOwn_131 : decode cX16_takesOwn 131 = .ok (.aload_n 0, 1) := by decide +kernel
theorem dX16_takesOwn_132 : decode cX16_takesOwn 132 = .ok (.iconst 1, 1) := by decide +kernel
theorem dX16_takesOwn_133 : decode cX16_takesOwn 133 = .ok (.iload_n 1, 1) := by decide +kernel
theorem dX16_takesOwn_134 : decode cX16_takesOwn 134 = .ok (.aload_n 0, 1) := by decide +kernel
theorem dX16_takesOwn_135 : decode cX16_takesOwn 135 = .ok (.getfield 221, 3) := by decide +kernel
theorem dX16_takesOwn_138 : decode cX16_takesOwn 138 = .ok (.iconst 1, 1) := by decide +kernel
theorem dX16_takesOwn_139 : decode cX16_takesOwn 139 = .ok (.invokevirtual 664, 3) := by decide +kernel
theorem dX16_takesOwn_142 : decode cX16_takesOwn 142 = .ok (.iload_n 3, 1) := by decide +kernel
theorem dX16_takesOwn_143 : decode cX16_takesOwn 143 = .ok (.iadd, 1) := by decide +kernel
theorem dX16_takesOwn_144 : decode cX16_takesOwn 144 = .ok (.aload_n 0, 1) := by decide +kernel
theorem dX16_takesOwn_145 : decode cX16_takesOwn 145 = .ok (.getfield 978, 3) := by decide +kernel
theorem dX16_takesOwn_148 : decode cX16_takesOwn 148 = .ok (.invokevirtual 1009, 3) := by decide +kernel
theorem dX16_takesOwn_151 : decode cX16_takesOwn 151 = .ok (.aload_n 0, 1) := by decide +kernel
theorem dX16_takesOwn_152 : decode cX16_takesOwn 152 = .ok (.dup, 1) := by decide +kernel
theorem dX16_takesOwn_153 : decode cX16_takesOwn 153 = .ok (.getfield 978, 3) := by decide +kernel
theorem dX16_takesOwn_156 : decode cX16_takesOwn 156 = .ok (.iconst 1, 1) := by decide +kernel
theorem dX16_takesOwn_157 : decode cX16_takesOwn 157 = .ok (.iadd, 1) := by decide +kernel
theorem dX16_takesOwn_158 : decode cX16_takesOwn 158 = .ok (.putfield 978, 3) := by decide +kernel
theorem dX16_takesOwn_161 : decode cX16_takesOwn 161 = .ok (.iinc 3 1, 3) := by decide +kernel
theorem dX16_takesOwn_164 : decode cX16_takesOwn 164 = .ok (.goto (-109), 3) := by decide +kernel
theorem dX16_takesOwn_167 : decode cX16_takesOwn 167 = .ok (.iconst 0, 1) := by decide +kernel
theorem dX16_takesOwn_168 : decode cX16_takesOwn 168 = .ok (.istore_n 3, 1) := by decide +kernel
theorem dX16_takesOwn_169 : decode cX16_takesOwn 169 = .ok (.iload_n 3, 1) := by decide +kernel
theorem dX16_takesOwn_170 : decode cX16_takesOwn 170 = .ok (.aload_n 0, 1) := by decide +kernel
theorem dX16_takesOwn_171 : decode cX16_takesOwn 171 = .ok (.getfield 221, 3) := by decide +kernel
theorem dX16_takesOwn_174 : decode cX16_takesOwn 174 = .ok (.getfield 444, 3) := by decide +kernel
theorem dX16_takesOwn_177 : decode cX16_takesOwn 177 = .ok (.if_icmp .ge 85, 3) := by decide +kernel
theorem dX16_takesOwn_180 : decode cX16_takesOwn 180 = .ok (.aload_n 0, 1) := by decide +kernel
theorem dX16_takesOwn_181 : decode cX16_takesOwn 181 = .ok (.getfield 112, 3) := by decide +kernel
theorem dX16_takesOwn_184 : decode cX16_takesOwn 184 = .ok (.aload_n 0, 1) := by decide +kernel
theorem dX16_takesOwn_185 : decode cX16_takesOwn 185 = .ok (.getfield 979, 3) := by decide +kernel
theorem dX16_takesOwn_188 : decode cX16_takesOwn 188 = .ok (.aload_n 0, 1) := by decide +kernel
theorem dX16_takesOwn_189 : decode cX16_takesOwn 189 = .ok (.getfield 221, 3) := by decide +kernel
theorem dX16_takesOwn_192 : decode cX16_takesOwn 192 = .ok (.getfield 450, 3) := by decide +kernel
theorem dX16_takesOwn_195 : decode cX16_takesOwn 195 = .ok (.iload_n 3, 1) := by decide +kernel
theorem dX16_takesOwn_196 : decode cX16_takesOwn 196 = .ok (.laload, 1) := by decide +kernel
theorem dX16_takesOwn_197 : decode cX16_takesOwn 197 = .ok (.lastore, 1) := by decide +kernel
theorem dX16_takesOwn_198 : decode cX16_takesOwn 198 = .ok (.aload_n 0, 1) := by decide +kernel
theorem dX16_takesOwn_199 : decode cX16_takesOwn 199 = .ok (.getfield 109, 3) := by decide +kernel
theorem dX16_takesOwn_202 : decode cX16_takesOwn 202 = .ok (.aload_n 0, 1) := by decide +kernel
theorem dX16_takesOwn_203 : decode cX16_takesOwn 203 = .ok (.getfield 979, 3) := by decide +kernel
theorem dX16_takesOwn_206 : decode cX16_takesOwn 206 = .ok (.iconst 0, 1) := by decide +kernel
theorem dX16_takesOwn_207 : decode cX16_takesOwn 207 = .ok (.iastore, 1) := by decide +kernel
theorem dX16_takesOwn_208 : decode cX16_takesOwn 208 = .ok (.aload_n 0, 1) := by decide +kernel
theorem dX16_takesOwn_209 : decode cX16_takesOwn 209 = .ok (.aload_n 0, 1) := by decide +kernel
theorem dX16_takesOwn_210 : decode cX16_takesOwn 210 = .ok (.getfield 979, 3) := by decide +kernel
theorem dX16_takesOwn_213 : decode cX16_takesOwn 213 = .ok (.aload_n 0, 1) := by decide +kernel
theorem dX16_takesOwn_214 : decode cX16_takesOwn 214 = .ok (.getfield 221, 3) := by decide +kernel
theorem dX16_takesOwn_217 : decode cX16_takesOwn 217 = .ok (.getfield 447, 3) := by decide +kernel
theorem dX16_takesOwn_220 : decode cX16_takesOwn 220 = .ok (.iload_n 3, 1) := by decide +kernel
theorem dX16_takesOwn_221 : decode cX16_takesOwn 221 = .ok (.laload, 1) := by decide +kernel
theorem dX16_takesOwn_222 : decode cX16_takesOwn 222 = .ok (.l2i, 1) := by decide +kernel
theorem dX16_takesOwn_223 : decode cX16_takesOwn 223 = .ok (.invokevirtual 1017, 3) := by decide +kernel
theorem dX16_takesOwn_226 : decode cX16_takesOwn 226 = .ok (.aload_n 0, 1) := by decide +kernel
theorem dX16_takesOwn_227 : decode cX16_takesOwn 227 = .ok (.iconst 2, 1) := by decide +kernel
theorem dX16_takesOwn_228 : decode cX16_takesOwn 228 = .ok (.iload_n 1, 1) := by decide +kernel
theorem dX16_takesOwn_229 : decode cX16_takesOwn 229 = .ok (.aload_n 0, 1) := by decide +kernel
theorem dX16_takesOwn_230 : decode cX16_takesOwn 230 = .ok (.getfield 221, 3) := by decide +kernel
theorem dX16_takesOwn_233 : decode cX16_takesOwn 233 = .ok (.iconst 2, 1) := by decide +kernel
theorem dX16_takesOwn_234 : decode cX16_takesOwn 234 = .ok (.invokevirtual 664, 3) := by decide +kernel
theorem dX16_takesOwn_237 : decode cX16_takesOwn 237 = .ok (.iload_n 3, 1) := by decide +kernel
theorem dX16_takesOwn_238 : decode cX16_takesOwn 238 = .ok (.iadd, 1) := by decide +kernel
theorem dX16_takesOwn_239 : decode cX16_takesOwn 239 = .ok (.aload_n 0, 1) := by decide +kernel
theorem dX16_takesOwn_240 : decode cX16_takesOwn 240 = .ok (.getfield 979, 3) := by decide +kernel
theorem dX16_takesOwn_243 : decode cX16_takesOwn 243 = .ok (.invokevirtual 1009, 3) := by decide +kernel
theorem dX16_takesOwn_246 : decode cX16_takesOwn 246 = .ok (.aload_n 0, 1) := by decide +kernel
theorem dX16_takesOwn_247 : decode cX16_takesOwn 247 = .ok (.dup, 1) := by decide +kernel
theorem dX16_takesOwn_248 : decode cX16_takesOwn 248 = .ok (.getfield 979, 3) := by decide +kernel
theorem dX16_takesOwn_251 : decode cX16_takesOwn 251 = .ok (.iconst 1, 1) := by decide +kernel
theorem dX16_takesOwn_252 : decode cX16_takesOwn 252 = .ok (.iadd, 1) := by decide +kernel
theorem dX16_takesOwn_253 : decode cX16_takesOwn 253 = .ok (.putfield 979, 3) := by decide +kernel
theorem dX16_takesOwn_256 : decode cX16_takesOwn 256 = .ok (.iinc 3 1, 3) := by decide +kernel
theorem dX16_takesOwn_259 : decode cX16_takesOwn 259 = .ok (.goto (-90), 3) := by decide +kernel
theorem dX16_takesOwn_262 : decode cX16_takesOwn 262 = .ok (.iconst 0, 1) := by decide +kernel
theorem dX16_takesOwn_263 : decode cX16_takesOwn 263 = .ok (.istore_n 3, 1) := by decide +kernel
theorem dX16_takesOwn_264 : decode cX16_takesOwn 264 = .ok (.iload_n 3, 1) := by decide +kernel
theorem dX16_takesOwn_265 : decode cX16_takesOwn 265 = .ok (.aload_n 0, 1) := by decide +kernel
theorem dX16_takesOwn_266 : decode cX16_takesOwn 266 = .ok (.getfield 221, 3) := by decide +kernel
theorem dX16_takesOwn_269 : decode cX16_takesOwn 269 = .ok (.getfield 453, 3) := by decide +kernel
theorem dX16_takesOwn_272 : decode cX16_takesOwn 272 = .ok (.if_icmp .ge 98, 3) := by decide +kernel
theorem dX16_takesOwn_275 : decode cX16_takesOwn 275 = .ok (.aload_n 0, 1) := by decide +kernel
theorem dX16_takesOwn_276 : decode cX16_takesOwn 276 = .ok (.getfield 122, 3) := by decide +kernel
theorem dX16_takesOwn_279 : decode cX16_takesOwn 279 = .ok (.aload_n 0, 1) := by decide +kernel
theorem dX16_takesOwn_280 : decode cX16_takesOwn 280 = .ok (.getfield 980, 3) := by decide +kernel
theorem dX16_takesOwn_283 : decode cX16_takesOwn 283 = .ok (.aload_n 0, 1) := by decide +kernel
theorem dX16_takesOwn_284 : decode cX16_takesOwn 284 = .ok (.getfield 221, 3) := by decide +kernel
theorem dX16_takesOwn_287 : decode cX16_takesOwn 287 = .ok (.getfield 459, 3) := by decide +kernel
theorem dX16_takesOwn_290 : decode cX16_takesOwn 290 = .ok (.iload_n 3, 1) := by decide +kernel
theorem dX16_takesOwn_291 : decode cX16_takesOwn 291 = .ok (.iaload, 1) := by decide +kernel
theorem dX16_takesOwn_292 : decode cX16_takesOwn 292 = .ok (.iastore, 1) := by decide +kernel
theorem dX16_takesOwn_293 : decode cX16_takesOwn 293 = .ok (.aload_n 0, 1) := by decide +kernel
theorem dX16_takesOwn_294 : decode cX16_takesOwn 294 = .ok (.getfield 125, 3) := by decide +kernel
theorem dX16_takesOwn_297 : decode cX16_takesOwn 297 = .ok (.aload_n 0, 1) := by decide +kernel
theorem dX16_takesOwn_298 : decode cX16_takesOwn 298 = .ok (.getfield 980, 3) := by decide +kernel
theorem dX16_takesOwn_301 : decode cX16_takesOwn 301 = .ok (.aload_n 0, 1) := by decide +kernel
theorem dX16_takesOwn_302 : decode cX16_takesOwn 302 = .ok (.getfield 221, 3) := by decide +kernel
theorem dX16_takesOwn_305 : decode cX16_takesOwn 305 = .ok (.getfield 462, 3) := by decide +kernel
theorem dX16_takesOwn_308 : decode cX16_takesOwn 308 = .ok (.iload_n 3, 1) := by decide +kernel
theorem dX16_takesOwn_309 : decode cX16_takesOwn 309 = .ok (.baload, 1) := by decide +kernel
theorem dX16_takesOwn_310 : decode cX16_takesOwn 310 = .ok (.bastore, 1) := by decide +kernel
theorem dX16_takesOwn_311 : decode cX16_takesOwn 311 = .ok (.aload_n 0, 1) := by decide +kernel
theorem dX16_takesOwn_312 : decode cX16_takesOwn 312 = .ok (.getfield 128, 3) := by decide +kernel
theorem dX16_takesOwn_315 : decode cX16_takesOwn 315 = .ok (.aload_n 0, 1) := by decide +kernel
theorem dX16_takesOwn_316 : decode cX16_takesOwn 316 = .ok (.getfield 980, 3) := by decide +kernel
theorem dX16_takesOwn_319 : decode cX16_takesOwn 319 = .ok (.aload_n 0, 1) := by decide +kernel
theorem dX16_takesOwn_320 : decode cX16_takesOwn 320 = .ok (.iload_n 1, 1) := by decide +kernel
theorem dX16_takesOwn_321 : decode cX16_takesOwn 321 = .ok (.aload_n 0, 1) := by decide +kernel
theorem dX16_takesOwn_322 : decode cX16_takesOwn 322 = .ok (.getfield 221, 3) := by decide +kernel
theorem dX16_takesOwn_325 : decode cX16_takesOwn 325 = .ok (.getfield 463, 3) := by decide +kernel
theorem dX16_takesOwn_328 : decode cX16_takesOwn 328 = .ok (.iload_n 3, 1) := by decide +kernel
theorem dX16_takesOwn_329 : decode cX16_takesOwn 329 = .ok (.iaload, 1) := by decide +kernel
theorem dX16_takesOwn_330 : decode cX16_takesOwn 330 = .ok (.invokevirtual 1020, 3) := by decide +kernel
theorem dX16_takesOwn_333 : decode cX16_takesOwn 333 = .ok (.lastore, 1) := by decide +kernel
theorem dX16_takesOwn_334 : decode cX16_takesOwn 334 = .ok (.aload_n 0, 1) := by decide +kernel
theorem dX16_takesOwn_335 : decode cX16_takesOwn 335 = .ok (.iconst 3, 1) := by decide +kernel
theorem dX16_takesOwn_336 : decode cX16_takesOwn 336 = .ok (.iload_n 1, 1) := by decide +kernel
theorem dX16_takesOwn_337 : decode cX16_takesOwn 337 = .ok (.aload_n 0, 1) := by decide +kernel
theorem dX16_takesOwn_338 : decode cX16_takesOwn 338 = .ok (.getfield 221, 3) := by decide +kernel
theorem dX16_takesOwn_341 : decode cX16_takesOwn 341 = .ok (.iconst 3, 1) := by decide +kernel
theorem dX16_takesOwn_342 : decode cX16_takesOwn 342 = .ok (.invokevirtual 664, 3) := by decide +kernel
theorem dX16_takesOwn_345 : decode cX16_takesOwn 345 = .ok (.iload_n 3, 1) := by decide +kernel
theorem dX16_takesOwn_346 : decode cX16_takesOwn 346 = .ok (.iadd, 1) := by decide +kernel
theorem dX16_takesOwn_347 : decode cX16_takesOwn 347 = .ok (.aload_n 0, 1) := by decide +kernel
theorem dX16_takesOwn_348 : decode cX16_takesOwn 348 = .ok (.getfield 980, 3) := by decide +kernel
theorem dX16_takesOwn_351 : decode cX16_takesOwn 351 = .ok (.invokevirtual 1009, 3) := by decide +kernel
theorem dX16_takesOwn_354 : decode cX16_takesOwn 354 = .ok (.aload_n 0, 1) := by decide +kernel
theorem dX16_takesOwn_355 : decode cX16_takesOwn 355 = .ok (.dup, 1) := by decide +kernel
theorem dX16_takesOwn_356 : decode cX16_takesOwn 356 = .ok (.getfield 980, 3) := by decide +kernel
theorem dX16_takesOwn_359 : decode cX16_takesOwn 359 = .ok (.iconst 1, 1) := by decide +kernel
theorem dX16_takesOwn_360 : decode cX16_takesOwn 360 = .ok (.iadd, 1) := by decide +kernel
theorem dX16_takesOwn_361 : decode cX16_takesOwn 361 = .ok (.putfield 980, 3) := by decide +kernel
theorem dX16_takesOwn_364 : decode cX16_takesOwn 364 = .ok (.iinc 3 1, 3) := by decide +kernel
theorem dX16_takesOwn_367 : decode cX16_takesOwn 367 = .ok (.goto (-103), 3) := by decide +kernel
theorem dX16_takesOwn_370 : decode cX16_takesOwn 370 = .ok (.iconst 0, 1) := by decide +kernel
theorem dX16_takesOwn_371 : decode cX16_takesOwn 371 = .ok (.istore_n 3, 1) := by decide +kernel
theorem dX16_takesOwn_372 : decode cX16_takesOwn 372 = .ok (.iload_n 3, 1) := by decide +kernel
theorem dX16_takesOwn_373 : decode cX16_takesOwn 373 = .ok (.aload_n 0, 1) := by decide +kernel
theorem dX16_takesOwn_374 : decode cX16_takesOwn 374 = .ok (.getfield 221, 3) := by decide +kernel
theorem dX16_takesOwn_377 : decode cX16_takesOwn 377 = .ok (.getfield 481, 3) := by decide +kernel
theorem dX16_takesOwn_380 : decode cX16_takesOwn 380 = .ok (.if_icmp .ge 15, 3) := by decide +kernel
theorem dX16_takesOwn_383 : decode cX16_takesOwn 383 = .ok (.aload_n 0, 1) := by decide +kernel
theorem dX16_takesOwn_384 : decode cX16_takesOwn 384 = .ok (.iload_n 1, 1) := by decide +kernel
theorem dX16_takesOwn_385 : decode cX16_takesOwn 385 = .ok (.iload_n 3, 1) := by decide +kernel
theorem dX16_takesOwn_386 : decode cX16_takesOwn 386 = .ok (.invokevirtual 1024, 3) := by decide +kernel
theorem dX16_takesOwn_389 : decode cX16_takesOwn 389 = .ok (.iinc 3 1, 3) := by decide +kernel
theorem dX16_takesOwn_392 : decode cX16_takesOwn 392 = .ok (.goto (-20), 3) := by decide +kernel
theorem dX16_takesOwn_395 : decode cX16_takesOwn 395 = .ok (.iconst 0, 1) := by decide +kernel
theorem dX16_takesOwn_396 : decode cX16_takesOwn 396 = .ok (.istore_n 3, 1) := by decide +kernel
theorem dX16_takesOwn_397 : decode cX16_takesOwn 397 = .ok (.iload_n 3, 1) := by decide +kernel
theorem dX16_takesOwn_398 : decode cX16_takesOwn 398 = .ok (.aload_n 0, 1) := by decide +kernel
theorem dX16_takesOwn_399 : decode cX16_takesOwn 399 = .ok (.getfield 221, 3) := by decide +kernel
theorem dX16_takesOwn_402 : decode cX16_takesOwn 402 = .ok (.getfield 529, 3) := by decide +kernel
theorem dX16_takesOwn_405 : decode cX16_takesOwn 405 = .ok (.if_icmp .ge 21, 3) := by decide +kernel
theorem dX16_takesOwn_408 : decode cX16_takesOwn 408 = .ok (.aload_n 0, 1) := by decide +kernel
theorem dX16_takesOwn_409 : decode cX16_takesOwn 409 = .ok (.getfield 152, 3) := by decide +kernel
theorem dX16_takesOwn_412 : decode cX16_takesOwn 412 = .ok (.bipush 64, 2) := by decide +kernel
theorem dX16_takesOwn_414 : decode cX16_takesOwn 414 = .ok (.iload_n 1, 1) := by decide +kernel
theorem dX16_takesOwn_415 : decode cX16_takesOwn 415 = .ok (.imul, 1) := by decide +kernel
theorem dX16_takesOwn_416 : decode cX16_takesOwn 416 = .ok (.iload_n 3, 1) := by decide +kernel
theorem dX16_takesOwn_417 : decode cX16_takesOwn 417 = .ok (.iadd, 1) := by decide +kernel
theorem dX16_takesOwn_418 : decode cX16_takesOwn 418 = .ok (.iconst 1, 1) := by decide +kernel
theorem dX16_takesOwn_419 : decode cX16_takesOwn 419 = .ok (.bastore, 1) := by decide +kernel
theorem dX16_takesOwn_420 : decode cX16_takesOwn 420 = .ok (.iinc 3 1, 3) := by decide +kernel
theorem dX16_takesOwn_423 : decode cX16_takesOwn 423 = .ok (.goto (-26), 3) := by decide +kernel
theorem dX16_takesOwn_426 : decode cX16_takesOwn 426 = .ok (.return_, 1) := by decide +kernel
noncomputable def tX16_takesOwn_2 (x0 : Nat) (x1 : Int32) (x2 : Int32) (x3 : Int32) (h : pm_H) : Option (((Nat × Int32 × Int32 × Int32 × pm_H) ⊕ (Nat × Int32 × Int32 × pm_H) ⊕ (Nat × Int32 × Int32 × pm_H) ⊕ (Nat × Int32 × Int32 × pm_H) ⊕ (Nat × Int32 × Int32 × pm_H) ⊕ (Nat × Int32 × Int32 × pm_H)) ⊕ pm_H) := if pm_kd h x0 = 16 then (pm_R h x0 10).bind fun v2 => if pm_kd h v2 = 14 then if (pm_I h v2 15) ≤ x3 then (some (.inl (.inr (.inl ((x0, x1, 0, h)))))) else ((fX14_imported h v2 0).bind fun v6 => (pm_R h v2 16).bind fun v8 => if pm_kd h v8 = 35 then if pm_in x3 (pm_ln h v8) then (fX16_newFunction h x0 x2 ((pm_L h v8 x3.toNatClampNeg).toInt32) x1 x3 (-1)).bind fun v12 => if pm_kd v12.2 x0 = 16 then (fX16_has v12.2 x0 0 x1 (v6 + x3) v12.1).bind fun v15 => pm_let (x3 + 1) fun y17 => some (.inl (.inl ((x0, x1, x2, y17, v15)))) else none else none else none) else none else none
noncomputable def tX16_takesOwn_55 (x0 : Nat) (x1 : Int32) (x3 : Int32) (h : pm_H) : Option (((Nat × Int32 × Int32 × Int32 × pm_H) ⊕ (Nat × Int32 × Int32 × pm_H) ⊕ (Nat × Int32 × Int32 × pm_H) ⊕ (Nat × Int32 × Int32 × pm_H) ⊕ (Nat × Int32 × Int32 × pm_H) ⊕ (Nat × Int32 × Int32 × pm_H)) ⊕ pm_H) := if pm_kd h x0 = 16 then (pm_R h x0 10).bind fun v20 => if pm_kd h v20 = 14 then if (pm_I h v20 17) ≤ x3 then (some (.inl (.inr (.inr (.inl ((x0, x1, 0, h))))))) else ((pm_R h x0 48).bind fun v24 => (pm_R h v20 18).bind fun v26 => if pm_kd h v26 = 34 then if pm_in x3 (pm_ln h v26) then pm_let (pm_I h v26 x3.toNatClampNeg) fun y30 => if pm_kd h v24 = 34 then if pm_in (pm_I h x0 46) (pm_ln h v24) then (pm_R (pm_setI h v24 ((pm_I h x0 46).toNatClampNeg) y30) x0 50).bind fun v34 => (pm_R (pm_setI h v24 ((pm_I h x0 46).toNatClampNeg) y30) v20 20).bind fun v36 => if pm_kd (pm_setI h v24 ((pm_I h x0 46).toNatClampNeg) y30) v36 = 35 then if pm_in x3 (pm_ln (pm_setI h v24 ((pm_I h x0 46).toNatClampNeg) y30) v36) then pm_let (pm_L (pm_setI h v24 ((pm_I h x0 46).toNatClampNeg) y30) v36 x3.toNatClampNeg) fun y40 => if pm_kd (pm_setI h v24 ((pm_I h x0 46).toNatClampNeg) y30) v34 = 35 then if pm_in (pm_I (pm_setI h v24 ((pm_I h x0 46).toNatClampNeg) y30) x0 46) (pm_ln (pm_setI h v24 ((pm_I h x0 46).toNatClampNeg) y30) v34) then (pm_R (pm_setL (pm_setI h v24 ((pm_I h x0 46).toNatClampNeg) y30) v34 ((pm_I (pm_setI h v24 ((pm_I h x0 46).toNatClampNeg) y30) x0 46).toNatClampNeg) y40) x0 49).bind fun v44 => if pm_kd (pm_setL (pm_setI h v24 ((pm_I h x0 46).toNatClampNeg) y30) v34 ((pm_I (pm_setI h v24 ((pm_I h x0 46).toNatClampNeg) y30) x0 46).toNatClampNeg) y40) v44 = 34 then if pm_in (pm_I (pm_setL (pm_setI h v24 ((pm_I h x0 46).toNatClampNeg) y30) v34 ((pm_I (pm_setI h v24 ((pm_I h x0 46).toNatClampNeg) y30) x0 46).toNatClampNeg) y40) x0 46) (pm_ln (pm_setL (pm_setI h v24 ((pm_I h x0 46).toNatClampNeg) y30) v34 ((pm_I (pm_setI h v24 ((pm_I h x0 46).toNatClampNeg) y30) x0 46).toNatClampNeg) y40) v44) then (pm_R (pm_setI (pm_setL (pm_setI h v24 ((pm_I h x0 46).toNatClampNeg) y30) v34 ((pm_I (pm_setI h v24 ((pm_I h x0 46).toNatClampNeg) y30) x0 46).toNatClampNeg) y40) v44 ((pm_I (pm_setL (pm_setI h v24 ((pm_I h x0 46).toNatClampNeg) y30) v34 ((pm_I (pm_setI h v24 ((pm_I h x0 46).toNatClampNeg) y30) x0 46).toNatClampNeg) y40) x0 46).toNatClampNeg) 0) v20 19).bind fun v48 => if pm_kd (pm_setI (pm_setL (pm_setI h v24 ((pm_I h x0 46).toNatClampNeg) y30) v34 ((pm_I (pm_setI h v24 ((pm_I h x0 46).toNatClampNeg) y30) x0 46).toNatClampNeg) y40) v44 ((pm_I (pm_setL (pm_setI h v24 ((pm_I h x0 46).toNatClampNeg) y30) v34 ((pm_I (pm_setI h v24 ((pm_I h x0 46).toNatClampNeg) y30) x0 46).toNatClampNeg) y40) x0 46).toNatClampNeg) 0) v48 = 35 then if pm_in x3 (pm_ln (pm_setI (pm_setL (pm_setI h v24 ((pm_I h x0 46).toNatClampNeg) y30) v34 ((pm_I (pm_setI h v24 ((pm_I h x0 46).toNatClampNeg) y30) x0 46).toNatClampNeg) y40) v44 ((pm_I (pm_setL (pm_setI h v24 ((pm_I h x0 46).toNatClampNeg) y30) v34 ((pm_I (pm_setI h v24 ((pm_I h x0 46).toNatClampNeg) y30) x0 46).toNatClampNeg) y40) x0 46).toNatClampNeg) 0) v48) then (fX16_grows (pm_setI (pm_setL (pm_setI h v24 ((pm_I h x0 46).toNatClampNeg) y30) v34 ((pm_I (pm_setI h v24 ((pm_I h x0 46).toNatClampNeg) y30) x0 46).toNatClampNeg) y40) v44 ((pm_I (pm_setL (pm_setI h v24 ((pm_I h x0 46).toNatClampNeg) y30) v34 ((pm_I (pm_setI h v24 ((pm_I h x0 46).toNatClampNeg) y30) x0 46).toNatClampNeg) y40) x0 46).toNatClampNeg) 0) x0 (pm_I (pm_setI (pm_setL (pm_setI h v24 ((pm_I h x0 46).toNatClampNeg) y30) v34 ((pm_I (pm_setI h v24 ((pm_I h x0 46).toNatClampNeg) y30) x0 46).toNatClampNeg) y40) v44 ((pm_I (pm_setL (pm_setI h v24 ((pm_I h x0 46).toNatClampNeg) y30) v34 ((pm_I (pm_setI h v24 ((pm_I h x0 46).toNatClampNeg) y30) x0 46).toNatClampNeg) y40) x0 46).toNatClampNeg) 0) x0 46) ((pm_L (pm_setI (pm_setL (pm_setI h v24 ((pm_I h x0 46).toNatClampNeg) y30) v34 ((pm_I (pm_setI h v24 ((pm_I h x0 46).toNatClampNeg) y30) x0 46).toNatClampNeg) y40) v44 ((pm_I (pm_setL (pm_setI h v24 ((pm_I h x0 46).toNatClampNeg) y30) v34 ((pm_I (pm_setI h v24 ((pm_I h x0 46).toNatClampNeg) y30) x0 46).toNatClampNeg) y40) x0 46).toNatClampNeg) 0) v48 x3.toNatClampNeg).toInt32) (-1)).bind fun v52 => if pm_kd v52 x0 = 16 then (pm_R v52 x0 10).bind fun v55 => if pm_kd v52 v55 = 14 then (fX14_imported v52 v55 1).bind fun v58 => (fX16_has v52 x0 1 x1 (v58 + x3) (pm_I v52 x0 46)).bind fun v60 => if pm_kd v60 x0 = 16 then pm_let ((pm_I v60 x0 46) + 1) fun y63 => pm_let (x3 + 1) fun y65 => some (.inl (.inr (.inl ((x0, x1, y65, pm_setI v60 x0 46 y63))))) else none else none else none else none else none else none else none else none else none else none else none else none else none else none else none) else none else none
noncomputable def tX16_takesOwn_169 (x0 : Nat) (x1 : Int32) (x3 : Int32) (h : pm_H) : Option (((Nat × Int32 × Int32 × Int32 × pm_H) ⊕ (Nat × Int32 × Int32 × pm_H) ⊕ (Nat × Int32 × Int32 × pm_H) ⊕ (Nat × Int32 × Int32 × pm_H) ⊕ (Nat × Int32 × Int32 × pm_H) ⊕ (Nat × Int32 × Int32 × pm_H)) ⊕ pm_H) := if pm_kd h x0 = 16 then (pm_R h x0 10).bind fun v68 => if pm_kd h v68 = 14 then if (pm_I h v68 21) ≤ x3 then (some (.inl (.inr (.inr (.inr (.inl ((x0, x1, 0, h)))))))) else ((pm_R h x0 55).bind fun v72 => (pm_R h v68 23).bind fun v74 => if pm_kd h v74 = 35 then if pm_in x3 (pm_ln h v74) then pm_let (pm_L h v74 x3.toNatClampNeg) fun y78 => if pm_kd h v72 = 35 then if pm_in (pm_I h x0 52) (pm_ln h v72) then (pm_R (pm_setL h v72 ((pm_I h x0 52).toNatClampNeg) y78) x0 54).bind fun v82 => if pm_kd (pm_setL h v72 ((pm_I h x0 52).toNatClampNeg) y78) v82 = 34 then if pm_in (pm_I (pm_setL h v72 ((pm_I h x0 52).toNatClampNeg) y78) x0 52) (pm_ln (pm_setL h v72 ((pm_I h x0 52).toNatClampNeg) y78) v82) then (pm_R (pm_setI (pm_setL h v72 ((pm_I h x0 52).toNatClampNeg) y78) v82 ((pm_I (pm_setL h v72 ((pm_I h x0 52).toNatClampNeg) y78) x0 52).toNatClampNeg) 0) v68 22).bind fun v86 => if pm_kd (pm_setI (pm_setL h v72 ((pm_I h x0 52).toNatClampNeg) y78) v82 ((pm_I (pm_setL h v72 ((pm_I h x0 52).toNatClampNeg) y78) x0 52).toNatClampNeg) 0) v86 = 35 then if pm_in x3 (pm_ln (pm_setI (pm_setL h v72 ((pm_I h x0 52).toNatClampNeg) y78) v82 ((pm_I (pm_setL h v72 ((pm_I h x0 52).toNatClampNeg) y78) x0 52).toNatClampNeg) 0) v86) then (fX16_growsPages (pm_setI (pm_setL h v72 ((pm_I h x0 52).toNatClampNeg) y78) v82 ((pm_I (pm_setL h v72 ((pm_I h x0 52).toNatClampNeg) y78) x0 52).toNatClampNeg) 0) x0 (pm_I (pm_setI (pm_setL h v72 ((pm_I h x0 52).toNatClampNeg) y78) v82 ((pm_I (pm_setL h v72 ((pm_I h x0 52).toNatClampNeg) y78) x0 52).toNatClampNeg) 0) x0 52) ((pm_L (pm_setI (pm_setL h v72 ((pm_I h x0 52).toNatClampNeg) y78) v82 ((pm_I (pm_setL h v72 ((pm_I h x0 52).toNatClampNeg) y78) x0 52).toNatClampNeg) 0) v86 x3.toNatClampNeg).toInt32)).bind fun v90 => if pm_kd v90 x0 = 16 then (pm_R v90 x0 10).bind fun v93 => if pm_kd v90 v93 = 14 then (fX14_imported v90 v93 2).bind fun v96 => (fX16_has v90 x0 2 x1 (v96 + x3) (pm_I v90 x0 52)).bind fun v98 => if pm_kd v98 x0 = 16 then pm_let ((pm_I v98 x0 52) + 1) fun y101 => pm_let (x3 + 1) fun y103 => some (.inl (.inr (.inr (.inl ((x0, x1, y103, pm_setI v98 x0 52 y101)))))) else none else none else none else none else none else none else none else none else none else none else none) else none else none
noncomputable def tX16_takesOwn_264 (x0 : Nat) (x1 : Int32) (x3 : Int32) (h : pm_H) : Option (((Nat × Int32 × Int32 × Int32 × pm_H) ⊕ (Nat × Int32 × Int32 × pm_H) ⊕ (Nat × Int32 × Int32 × pm_H) ⊕ (Nat × Int32 × Int32 × pm_H) ⊕ (Nat × Int32 × Int32 × pm_H) ⊕ (Nat × Int32 × Int32 × pm_H)) ⊕ pm_H) := if pm_kd h x0 = 16 then (pm_R h x0 10).bind fun v106 => if pm_kd h v106 = 14 then if (pm_I h v106 24) ≤ x3 then (some (.inl (.inr (.inr (.inr (.inr (.inl ((x0, x1, 0, h))))))))) else ((pm_R h x0 59).bind fun v110 => (pm_R h v106 25).bind fun v112 => if pm_kd h v112 = 34 then if pm_in x3 (pm_ln h v112) then pm_let (pm_I h v112 x3.toNatClampNeg) fun y116 => if pm_kd h v110 = 34 then if pm_in (pm_I h x0 58) (pm_ln h v110) then (pm_R (pm_setI h v110 ((pm_I h x0 58).toNatClampNeg) y116) x0 60).bind fun v120 => (pm_R (pm_setI h v110 ((pm_I h x0 58).toNatClampNeg) y116) v106 26).bind fun v122 => if pm_kd (pm_setI h v110 ((pm_I h x0 58).toNatClampNeg) y116) v122 = 32 then if pm_in x3 (pm_ln (pm_setI h v110 ((pm_I h x0 58).toNatClampNeg) y116) v122) then pm_let (pm_I (pm_setI h v110 ((pm_I h x0 58).toNatClampNeg) y116) v122 x3.toNatClampNeg) fun y126 => if pm_kd (pm_setI h v110 ((pm_I h x0 58).toNatClampNeg) y116) v120 = 32 then if pm_in (pm_I (pm_setI h v110 ((pm_I h x0 58).toNatClampNeg) y116) x0 58) (pm_ln (pm_setI h v110 ((pm_I h x0 58).toNatClampNeg) y116) v120) then (pm_R (pm_setI (pm_setI h v110 ((pm_I h x0 58).toNatClampNeg) y116) v120 ((pm_I (pm_setI h v110 ((pm_I h x0 58).toNatClampNeg) y116) x0 58).toNatClampNeg) (vp_nar .boolean y126)) x0 61).bind fun v130 => (pm_R (pm_setI (pm_setI h v110 ((pm_I h x0 58).toNatClampNeg) y116) v120 ((pm_I (pm_setI h v110 ((pm_I h x0 58).toNatClampNeg) y116) x0 58).toNatClampNeg) (vp_nar .boolean y126)) v106 27).bind fun v132 => if pm_kd (pm_setI (pm_setI h v110 ((pm_I h x0 58).toNatClampNeg) y116) v120 ((pm_I (pm_setI h v110 ((pm_I h x0 58).toNatClampNeg) y116) x0 58).toNatClampNeg) (vp_nar .boolean y126)) v132 = 34 then if pm_in x3 (pm_ln (pm_setI (pm_setI h v110 ((pm_I h x0 58).toNatClampNeg) y116) v120 ((pm_I (pm_setI h v110 ((pm_I h x0 58).toNatClampNeg) y116) x0 58).toNatClampNeg) (vp_nar .boolean y126)) v132) then (fX16_constant (pm_setI (pm_setI h v110 ((pm_I h x0 58).toNatClampNeg) y116) v120 ((pm_I (pm_setI h v110 ((pm_I h x0 58).toNatClampNeg) y116) x0 58).toNatClampNeg) (vp_nar .boolean y126)) x0 x1 (pm_I (pm_setI (pm_setI h v110 ((pm_I h x0 58).toNatClampNeg) y116) v120 ((pm_I (pm_setI h v110 ((pm_I h x0 58).toNatClampNeg) y116) x0 58).toNatClampNeg) (vp_nar .boolean y126)) v132 x3.toNatClampNeg)).bind fun v136 => if pm_kd v136.2 v130 = 35 then if pm_in (pm_I (pm_setI (pm_setI h v110 ((pm_I h x0 58).toNatClampNeg) y116) v120 ((pm_I (pm_setI h v110 ((pm_I h x0 58).toNatClampNeg) y116) x0 58).toNatClampNeg) (vp_nar .boolean y126)) x0 58) (pm_ln v136.2 v130) then if pm_kd (pm_setL v136.2 v130 ((pm_I (pm_setI (pm_setI h v110 ((pm_I h x0 58).toNatClampNeg) y116) v120 ((pm_I (pm_setI h v110 ((pm_I h x0 58).toNatClampNeg) y116) x0 58).toNatClampNeg) (vp_nar .boolean y126)) x0 58).toNatClampNeg) v136.1) x0 = 16 then (pm_R (pm_setL v136.2 v130 ((pm_I (pm_setI (pm_setI h v110 ((pm_I h x0 58).toNatClampNeg) y116) v120 ((pm_I (pm_setI h v110 ((pm_I h x0 58).toNatClampNeg) y116) x0 58).toNatClampNeg) (vp_nar .boolean y126)) x0 58).toNatClampNeg) v136.1) x0 10).bind fun v141 => if pm_kd (pm_setL v136.2 v130 ((pm_I (pm_setI (pm_setI h v110 ((pm_I h x0 58).toNatClampNeg) y116) v120 ((pm_I (pm_setI h v110 ((pm_I h x0 58).toNatClampNeg) y116) x0 58).toNatClampNeg) (vp_nar .boolean y126)) x0 58).toNatClampNeg) v136.1) v141 = 14 then (fX14_imported (pm_setL v136.2 v130 ((pm_I (pm_setI (pm_setI h v110 ((pm_I h x0 58).toNatClampNeg) y116) v120 ((pm_I (pm_setI h v110 ((pm_I h x0 58).toNatClampNeg) y116) x0 58).toNatClampNeg) (vp_nar .boolean y126)) x0 58).toNatClampNeg) v136.1) v141 3).bind fun v144 => (fX16_has (pm_setL v136.2 v130 ((pm_I (pm_setI (pm_setI h v110 ((pm_I h x0 58).toNatClampNeg) y116) v120 ((pm_I (pm_setI h v110 ((pm_I h x0 58).toNatClampNeg) y116) x0 58).toNatClampNeg) (vp_nar .boolean y126)) x0 58).toNatClampNeg) v136.1) x0 3 x1 (v144 + x3) (pm_I (pm_setL v136.2 v130 ((pm_I (pm_setI (pm_setI h v110 ((pm_I h x0 58).toNatClampNeg) y116) v120 ((pm_I (pm_setI h v110 ((pm_I h x0 58).toNatClampNeg) y116) x0 58).toNatClampNeg) (vp_nar .boolean y126)) x0 58).toNatClampNeg) v136.1) x0 58)).bind fun v146 => if pm_kd v146 x0 = 16 then pm_let ((pm_I v146 x0 58) + 1) fun y149 => pm_let (x3 + 1) fun y151 => some (.inl (.inr (.inr (.inr (.inl ((x0, x1, y151, pm_setI v146 x0 58 y149))))))) else none else none else none else none else none else none else none else none else none else none else none else none else none else none else none) else none else none
noncomputable def tX16_takesOwn_372 (x0 : Nat) (x1 : Int32) (x3 : Int32) (h : pm_H) : Option (((Nat × Int32 × Int32 × Int32 × pm_H) ⊕ (Nat × Int32 × Int32 × pm_H) ⊕ (Nat × Int32 × Int32 × pm_H) ⊕ (Nat × Int32 × Int32 × pm_H) ⊕ (Nat × Int32 × Int32 × pm_H) ⊕ (Nat × Int32 × Int32 × pm_H)) ⊕ pm_H) := if pm_kd h x0 = 16 then (pm_R h x0 10).bind fun v154 => if pm_kd h v154 = 14 then if (pm_I h v154 34) ≤ x3 then (some (.inl (.inr (.inr (.inr (.inr (.inr ((x0, x1, 0, h))))))))) else ((fX16_takesElement h x0 x1 x3).bind fun v158 => pm_let (x3 + 1) fun y160 => some (.inl (.inr (.inr (.inr (.inr (.inl ((x0, x1, y160, v158))))))))) else none else none
noncomputable def tX16_takesOwn_397 (x0 : Nat) (x1 : Int32) (x3 : Int32) (h : pm_H) : Option (((Nat × Int32 × Int32 × Int32 × pm_H) ⊕ (Nat × Int32 × Int32 × pm_H) ⊕ (Nat × Int32 × Int32 × pm_H) ⊕ (Nat × Int32 × Int32 × pm_H) ⊕ (Nat × Int32 × Int32 × pm_H) ⊕ (Nat × Int32 × Int32 × pm_H)) ⊕ pm_H) := if pm_kd h x0 = 16 then (pm_R h x0 10).bind fun v163 => if pm_kd h v163 = 14 then if (pm_I h v163 44) ≤ x3 then (some (.inr (h))) else ((pm_R h x0 70).bind fun v167 => if pm_kd h v167 = 32 then if pm_in ((64 * x1) + x3) (pm_ln h v167) then pm_let (x3 + 1) fun y171 => some (.inl (.inr (.inr (.inr (.inr (.inr ((x0, x1, y171, pm_setI h v167 (((64 * x1) + x3).toNatClampNeg) (vp_nar .boolean 1))))))))) else none else none) else none else none
noncomputable def sX16_takesOwn : ((Nat × Int32 × Int32 × Int32 × pm_H) ⊕ (Nat × Int32 × Int32 × pm_H) ⊕ (Nat × Int32 × Int32 × pm_H) ⊕ (Nat × Int32 × Int32 × pm_H) ⊕ (Nat × Int32 × Int32 × pm_H) ⊕ (Nat × Int32 × Int32 × pm_H)) → Option (((Nat × Int32 × Int32 × Int32 × pm_H) ⊕ (Nat × Int32 × Int32 × pm_H) ⊕ (Nat × Int32 × Int32 × pm_H) ⊕ (Nat × Int32 × Int32 × pm_H) ⊕ (Nat × Int32 × Int32 × pm_H) ⊕ (Nat × Int32 × Int32 × pm_H)) ⊕ pm_H) := fun z => match z with
  | .inl (x0, x1, x2, x3, h) => tX16_takesOwn_2 x0 x1 x2 x3 h
  | .inr (.inl (x0, x1, x3, h)) => tX16_takesOwn_55 x0 x1 x3 h
  | .inr (.inr (.inl (x0, x1, x3, h))) => tX16_takesOwn_169 x0 x1 x3 h
  | .inr (.inr (.inr (.inl (x0, x1, x3, h)))) => tX16_takesOwn_264 x0 x1 x3 h
  | .inr (.inr (.inr (.inr (.inl (x0, x1, x3, h))))) => tX16_takesOwn_372 x0 x1 x3 h
  | .inr (.inr (.inr (.inr (.inr (x0, x1, x3, h))))) => tX16_takesOwn_397 x0 x1 x3 h
noncomputable def fX16_takesOwn (h : pm_H) (a0 : Nat) (p1 : Int32) (p2 : Int32) : Option pm_H := pm_lim sX16_takesOwn (.inl ((a0, p1, p2, 0, h)))
set_option maxHeartbeats 4000000 in
set_option maxRecDepth 100000 in
theorem lpX16_takesOwn {g : pm_Gm} {l : Launch} {G : pm_Gl} {Qr : Option Value → pm_H → Prop} (C : pm_C g cX16_takesOwn RX16) (X : pm_X g l G mX16_takesOwn 0 0 Qr) {r : pm_H} (q : Qr none r) : ∀ n : Nat, (∀ (x0 : Nat) (x1 : Int32) (x2 : Int32) (x3 : Int32) (h : pm_H), pm_iter sX16_takesOwn n (.inl (x0, x1, x2, x3, h)) = some r → pm_G g 2 [(0, .ref x0), (1, .int x1), (2, .int x2), (3, .int x3)] [] h 0 0) ∧ (∀ (x0 : Nat) (x1 : Int32) (x3 : Int32) (h : pm_H), pm_iter sX16_takesOwn n (.inr (.inl (x0, x1, x3, h))) = some r → pm_G g 55 [(0, .ref x0), (1, .int x1), (3, .int x3)] [] h 0 0) ∧ (∀ (x0 : Nat) (x1 : Int32) (x3 : Int32) (h : pm_H), pm_iter sX16_takesOwn n (.inr (.inr (.inl (x0, x1, x3, h)))) = some r → pm_G g 169 [(0, .ref x0), (1, .int x1), (3, .int x3)] [] h 0 0) ∧ (∀ (x0 : Nat) (x1 : Int32) (x3 : Int32) (h : pm_H), pm_iter sX16_takesOwn n (.inr (.inr (.inr (.inl (x0, x1, x3, h))))) = some r → pm_G g 264 [(0, .ref x0), (1, .int x1), (3, .int x3)] [] h 0 0) ∧ (∀ (x0 : Nat) (x1 : Int32) (x3 : Int32) (h : pm_H), pm_iter sX16_takesOwn n (.inr (.inr (.inr (.inr (.inl (x0, x1, x3, h)))))) = some r → pm_G g 372 [(0, .ref x0), (1, .int x1), (3, .int x3)] [] h 0 0) ∧ (∀ (x0 : Nat) (x1 : Int32) (x3 : Int32) (h : pm_H), pm_iter sX16_takesOwn n (.inr (.inr (.inr (.inr (.inr (x0, x1, x3, h)))))) = some r → pm_G g 397 [(0, .ref x0), (1, .int x1), (3, .int x3)] [] h 0 0) := by
  intro n
  induction n with
  | zero => exact ⟨fun _ _ _ _ _ hf => (by cases hf), fun _ _ _ _ hf => (by cases hf), fun _ _ _ _ hf => (by cases hf), fun _ _ _ _ hf => (by cases hf), fun _ _ _ _ hf => (by cases hf), fun _ _ _ _ hf => (by cases hf)⟩
  | succ n ih =>
    refine ⟨fun x0 x1 x2 x3 h hf => ?_, ?_⟩
    · obtain ⟨y, hf, hi⟩ := pm_iter_s hf
      have hf : tX16_takesOwn_2 x0 x1 x2 x3 h = some y := hf
      unfold tX16_takesOwn_2 at hf
      refine pm_iload_n C dX16_takesOwn_2 rfl rfl ?_
      refine pm_aload_n C dX16_takesOwn_3 rfl rfl ?_
      obtain ⟨k1, hf⟩ := pm_if hf
      obtain ⟨v2, e3, hf⟩ := pm_bd hf
      refine pm_getR C dX16_takesOwn_4 flX16_221 rfl k1 e3 ?_
      obtain ⟨k4, hf⟩ := pm_if hf
      refine pm_getI C dX16_takesOwn_7 flX16_426 rfl k4 rfl ?_
      refine pm_icmp_ge (tgt := 53) C dX16_takesOwn_10 (by decide) (fun c5 => ?_) (fun c5 => ?_)
      · have hf := pm_it hf c5
        refine pm_iconst (v := 0) C dX16_takesOwn_53 (by decide) ?_
        refine pm_istore_n (lv' := [(3, .int 0), (0, .ref x0), (1, .int x1), (2, .int x2)]) C dX16_takesOwn_54 rfl (pm_nl X (by decide)) rfl ?_
        cases hf
        exact pm_sub [1, 2, 0] rfl (ih.2.1 x0 x1 0 h hi)
      · have hf := pm_ie hf c5
        refine pm_aload_n C dX16_takesOwn_13 rfl rfl ?_
        refine pm_iconst (v := 0) C dX16_takesOwn_14 (by decide) ?_
        refine pm_iload_n C dX16_takesOwn_15 rfl rfl ?_
        refine pm_aload_n C dX16_takesOwn_16 rfl rfl ?_
        refine pm_getR C dX16_takesOwn_17 flX16_221 rfl k1 e3 ?_
        refine pm_iconst (v := 0) C dX16_takesOwn_20 (by decide) ?_
        obtain ⟨v6, e7, hf⟩ := pm_bd hf
        refine pm_callV (as := [.int 0]) (st := [.int x1, .int 0, .ref x0]) C X dX16_takesOwn_21 lnX16_664 myX14_imported viX14_imported ⟨by decide, by decide⟩ rfl rfl k4 (Nat.le_of_ble_eq_true rfl) (Nat.le_refl _) (Nat.le_refl _) (ctX14_imported e7 ?_)
        show pm_G g 24 [(0, .ref x0), (1, .int x1), (2, .int x2), (3, .int x3)] [.int v6, .int x1, .int 0, .ref x0] h 0 0
        refine pm_iload_n C dX16_takesOwn_24 rfl rfl ?_
        refine pm_iadd C dX16_takesOwn_25 ?_
        refine pm_aload_n C dX16_takesOwn_26 rfl rfl ?_
        refine pm_iload_n C dX16_takesOwn_27 rfl rfl ?_
        refine pm_aload_n C dX16_takesOwn_28 rfl rfl ?_
        refine pm_getR C dX16_takesOwn_29 flX16_221 rfl k1 e3 ?_
        obtain ⟨v8, e9, hf⟩ := pm_bd hf
        refine pm_getR C dX16_takesOwn_32 flX16_429 rfl k4 e9 ?_
        refine pm_iload_n C dX16_takesOwn_35 rfl rfl ?_
        obtain ⟨k10, hf⟩ := pm_if hf
        obtain ⟨u11, hf⟩ := pm_if hf
        refine pm_lald C dX16_takesOwn_36 k10 u11 rfl ?_
        refine pm_l2i C dX16_takesOwn_37 ?_
        refine pm_iload_n C dX16_takesOwn_38 rfl rfl ?_
        refine pm_iload_n C dX16_takesOwn_39 rfl rfl ?_
        refine pm_iconst (v := (-1)) C dX16_takesOwn_40 (by decide) ?_
        obtain ⟨v12, e13, hf⟩ := pm_bd hf
        refine pm_callV (as := [.int x2, .int ((pm_L h v8 x3.toNatClampNeg).toInt32), .int x1, .int x3, .int (-1)]) (st := [.int (v6 + x3), .int x1, .int 0, .ref x0]) C X dX16_takesOwn_41 lnX16_1005 myX16_newFunction viX16_newFunction ⟨by decide, by decide⟩ rfl rfl k1 (Nat.le_of_ble_eq_true rfl) (Nat.le_refl _) (Nat.le_refl _) (ctX16_newFunction e13 ?_)
        show pm_G g 44 [(0, .ref x0), (1, .int x1), (2, .int x2), (3, .int x3)] [.int v12.1, .int (v6 + x3), .int x1, .int 0, .ref x0] v12.2 0 0
        obtain ⟨k14, hf⟩ := pm_if hf
        obtain ⟨v15, e16, hf⟩ := pm_bd hf
        refine pm_callV (as := [.int 0, .int x1, .int (v6 + x3), .int v12.1]) (st := []) C X dX16_takesOwn_44 lnX16_1009 myX16_has viX16_has ⟨by decide, by decide⟩ rfl rfl k14 (Nat.le_of_ble_eq_true rfl) (Nat.le_refl _) (Nat.le_refl _) (ctX16_has e16 ?_)
        show pm_G g 47 [(0, .ref x0), (1, .int x1), (2, .int x2), (3, .int x3)] [] v15 0 0
        obtain ⟨y17, e18, hf⟩ := pm_lt hf
        refine pm_iinc (v := y17) (lv' := [(3, .int y17), (0, .ref x0), (1, .int x1), (2, .int x2)]) C dX16_takesOwn_47 rfl ((congrArg (x3 + ·) (by decide : Int32.ofInt 1 = 1)).trans e18) (pm_nl X (by decide)) rfl ?_
        refine pm_goto (tgt := 2) C dX16_takesOwn_50 (by decide) ?_
        cases hf
        exact pm_sub [1, 2, 3, 0] rfl (ih.1 x0 x1 x2 y17 v15 hi)
    refine ⟨fun x0 x1 x3 h hf => ?_, ?_⟩
    · obtain ⟨y, hf, hi⟩ := pm_iter_s hf
      have hf : tX16_takesOwn_55 x0 x1 x3 h = some y := hf
      unfold tX16_takesOwn_55 at hf
      refine pm_iload_n C dX16_takesOwn_55 rfl rfl ?_
      refine pm_aload_n C dX16_takesOwn_56 rfl rfl ?_
      obtain ⟨k19, hf⟩ := pm_if hf
      obtain ⟨v20, e21, hf⟩ := pm_bd hf
      refine pm_getR C dX16_takesOwn_57 flX16_221 rfl k19 e21 ?_
      obtain ⟨k22, hf⟩ := pm_if hf
      refine pm_getI C dX16_takesOwn_60 flX16_432 rfl k22 rfl ?_
      refine pm_icmp_ge (tgt := 167) C dX16_takesOwn_63 (by decide) (fun c23 => ?_) (fun c23 => ?_)
      · have hf := pm_it hf c23
        refine pm_iconst (v := 0) C dX16_takesOwn_167 (by decide) ?_
        refine pm_istore_n (lv' := [(3, .int 0), (0, .ref x0), (1, .int x1)]) C dX16_takesOwn_168 rfl (pm_nl X (by decide)) rfl ?_
        cases hf
        exact pm_sub [1, 2, 0] rfl (ih.2.2.1 x0 x1 0 h hi)
      · have hf := pm_ie hf c23
        refine pm_aload_n C dX16_takesOwn_66 rfl rfl ?_
        obtain ⟨v24, e25, hf⟩ := pm_bd hf
        refine pm_getR C dX16_takesOwn_67 flX16_93 rfl k19 e25 ?_
        refine pm_aload_n C dX16_takesOwn_70 rfl rfl ?_
        refine pm_getI C dX16_takesOwn_71 flX16_978 rfl k19 rfl ?_
        refine pm_aload_n C dX16_takesOwn_74 rfl rfl ?_
        refine pm_getR C dX16_takesOwn_75 flX16_221 rfl k19 e21 ?_
        obtain ⟨v26, e27, hf⟩ := pm_bd hf
        refine pm_getR C dX16_takesOwn_78 flX16_435 rfl k22 e27 ?_
        refine pm_iload_n C dX16_takesOwn_81 rfl rfl ?_
        obtain ⟨k28, hf⟩ := pm_if hf
        obtain ⟨u29, hf⟩ := pm_if hf
        refine pm_iald C dX16_takesOwn_82 k28 u29 rfl ?_
        obtain ⟨y30, e31, hf⟩ := pm_lt hf
        refine pm_topI e31 ?_
        obtain ⟨k32, hf⟩ := pm_if hf
        obtain ⟨u33, hf⟩ := pm_if hf
        refine pm_iast C dX16_takesOwn_83 k32 u33 ?_
        refine pm_aload_n C dX16_takesOwn_84 rfl rfl ?_
        obtain ⟨v34, e35, hf⟩ := pm_bd hf
        refine pm_getR C dX16_takesOwn_85 flX16_99 rfl k19 e35 ?_
        refine pm_aload_n C dX16_takesOwn_88 rfl rfl ?_
        refine pm_getI C dX16_takesOwn_89 flX16_978 rfl k19 rfl ?_
        refine pm_aload_n C dX16_takesOwn_92 rfl rfl ?_
        refine pm_getR C dX16_takesOwn_93 flX16_221 rfl k19 e21 ?_
        obtain ⟨v36, e37, hf⟩ := pm_bd hf
        refine pm_getR C dX16_takesOwn_96 flX16_441 rfl k22 e37 ?_
        refine pm_iload_n C dX16_takesOwn_99 rfl rfl ?_
        obtain ⟨k38, hf⟩ := pm_if hf
        obtain ⟨u39, hf⟩ := pm_if hf
        refine pm_lald C dX16_takesOwn_100 k38 u39 rfl ?_
        obtain ⟨y40, e41, hf⟩ := pm_lt hf
        refine pm_topL e41 ?_
        obtain ⟨k42, hf⟩ := pm_if hf
        obtain ⟨u43, hf⟩ := pm_if hf
        refine pm_last C dX16_takesOwn_101 k42 u43 ?_
        refine pm_aload_n C dX16_takesOwn_102 rfl rfl ?_
        obtain ⟨v44, e45, hf⟩ := pm_bd hf
        refine pm_getR C dX16_takesOwn_103 flX16_96 rfl k19 e45 ?_
        refine pm_aload_n C dX16_takesOwn_106 rfl rfl ?_
        refine pm_getI C dX16_takesOwn_107 flX16_978 rfl k19 rfl ?_
        refine pm_iconst (v := 0) C dX16_takesOwn_110 (by decide) ?_
        obtain ⟨k46, hf⟩ := pm_if hf
        obtain ⟨u47, hf⟩ := pm_if hf
        refine pm_iast C dX16_takesOwn_111 k46 u47 ?_
        refine pm_aload_n C dX16_takesOwn_112 rfl rfl ?_
        refine pm_aload_n C dX16_takesOwn_113 rfl rfl ?_
        refine pm_getI C dX16_takesOwn_114 flX16_978 rfl k19 rfl ?_
        refine pm_aload_n C dX16_takesOwn_117 rfl rfl ?_
        refine pm_getR C dX16_takesOwn_118 flX16_221 rfl k19 e21 ?_
        obtain ⟨v48, e49, hf⟩ := pm_bd hf
        refine pm_getR C dX16_takesOwn_121 flX16_438 rfl k22 e49 ?_
        refine pm_iload_n C dX16_takesOwn_124 rfl rfl ?_
        obtain ⟨k50, hf⟩ := pm_if hf
        obtain ⟨u51, hf⟩ := pm_if hf
        refine pm_lald C dX16_takesOwn_125 k50 u51 rfl ?_
        refine pm_l2i C dX16_takesOwn_126 ?_
        refine pm_iconst (v := (-1)) C dX16_takesOwn_127 (by decide) ?_
        obtain ⟨v52, e53, hf⟩ := pm_bd hf
        refine pm_callV (as := [.int (pm_I (pm_setI (pm_setL (pm_setI h v24 ((pm_I h x0 46).toNatClampNeg) y30) v34 ((pm_I (pm_setI h v24 ((pm_I h x0 46).toNatClampNeg) y30) x0 46).toNatClampNeg) y40) v44 ((pm_I (pm_setL (pm_setI h v24 ((pm_I h x0 46).toNatClampNeg) y30) v34 ((pm_I (pm_setI h v24 ((pm_I h x0 46).toNatClampNeg) y30) x0 46).toNatClampNeg) y40) x0 46).toNatClampNeg) 0) x0 46), .int ((pm_L (pm_setI (pm_setL (pm_setI h v24 ((pm_I h x0 46).toNatClampNeg) y30) v34 ((pm_I (pm_setI h v24 ((pm_I h x0 46).toNatClampNeg) y30) x0 46).toNatClampNeg) y40) v44 ((pm_I (pm_setL (pm_setI h v24 ((pm_I h x0 46).toNatClampNeg) y30) v34 ((pm_I (pm_setI h v24 ((pm_I h x0 46).toNatClampNeg) y30) x0 46).toNatClampNeg) y40) x0 46).toNatClampNeg) 0) v48 x3.toNatClampNeg).toInt32), .int (-1)]) (st := []) C X dX16_takesOwn_128 lnX16_1013 myX16_grows viX16_grows ⟨by decide, by decide⟩ rfl rfl k19 (Nat.le_of_ble_eq_true rfl) (Nat.le_refl _) (Nat.le_refl _) (ctX16_grows e53 ?_)
        show pm_G g 131 [(0, .ref x0), (1, .int x1), (3, .int x3)] [] v52 0 0
        refine pm_aload_n C dX16_takesOwn_131 rfl rfl ?_
        refine pm_iconst (v := 1) C dX16_takesOwn_132 (by decide) ?_
        refine pm_iload_n C dX16_takesOwn_133 rfl rfl ?_
        refine pm_aload_n C dX16_takesOwn_134 rfl rfl ?_
        obtain ⟨k54, hf⟩ := pm_if hf
        obtain ⟨v55, e56, hf⟩ := pm_bd hf
        refine pm_getR C dX16_takesOwn_135 flX16_221 rfl k54 e56 ?_
        refine pm_iconst (v := 1) C dX16_takesOwn_138 (by decide) ?_
        obtain ⟨k57, hf⟩ := pm_if hf
        obtain ⟨v58, e59, hf⟩ := pm_bd hf
        refine pm_callV (as := [.int 1]) (st := [.int x1, .int 1, .ref x0]) C X dX16_takesOwn_139 lnX16_664 myX14_imported viX14_imported ⟨by decide, by decide⟩ rfl rfl k57 (Nat.le_of_ble_eq_true rfl) (Nat.le_refl _) (Nat.le_refl _) (ctX14_imported e59 ?_)
        show pm_G g 142 [(0, .ref x0), (1, .int x1), (3, .int x3)] [.int v58, .int x1, .int 1, .ref x0] v52 0 0
        refine pm_iload_n C dX16_takesOwn_142 rfl rfl ?_
        refine pm_iadd C dX16_takesOwn_143 ?_
        refine pm_aload_n C dX16_takesOwn_144 rfl rfl ?_
        refine pm_getI C dX16_takesOwn_145 flX16_978 rfl k54 rfl ?_
        obtain ⟨v60, e61, hf⟩ := pm_bd hf
        refine pm_callV (as := [.int 1, .int x1, .int (v58 + x3), .int (pm_I v52 x0 46)]) (st := []) C X dX16_takesOwn_148 lnX16_1009 myX16_has viX16_has ⟨by decide, by decide⟩ rfl rfl k54 (Nat.le_of_ble_eq_true rfl) (Nat.le_refl _) (Nat.le_refl _) (ctX16_has e61 ?_)
        show pm_G g 151 [(0, .ref x0), (1, .int x1), (3, .int x3)] [] v60 0 0
        refine pm_aload_n C dX16_takesOwn_151 rfl rfl ?_
        refine pm_dup C dX16_takesOwn_152 rfl ?_
        obtain ⟨k62, hf⟩ := pm_if hf
        refine pm_getI C dX16_takesOwn_153 flX16_978 rfl k62 rfl ?_
        refine pm_iconst (v := 1) C dX16_takesOwn_156 (by decide) ?_
        refine pm_iadd C dX16_takesOwn_157 ?_
        obtain ⟨y63, e64, hf⟩ := pm_lt hf
        refine pm_topI e64 ?_
        refine pm_putI C dX16_takesOwn_158 flX16_978 rfl rfl k62 rfl rfl ?_
        obtain ⟨y65, e66, hf⟩ := pm_lt hf
        refine pm_iinc (v := y65) (lv' := [(3, .int y65), (0, .ref x0), (1, .int x1)]) C dX16_takesOwn_161 rfl ((congrArg (x3 + ·) (by decide : Int32.ofInt 1 = 1)).trans e66) (pm_nl X (by decide)) rfl ?_
        refine pm_goto (tgt := 55) C dX16_takesOwn_164 (by decide) ?_
        cases hf
        exact pm_sub [1, 2, 0] rfl (ih.2.1 x0 x1 y65 (pm_setI v60 x0 46 y63) hi)
    refine ⟨fun x0 x1 x3 h hf => ?_, ?_⟩
    · obtain ⟨y, hf, hi⟩ := pm_iter_s hf
      have hf : tX16_takesOwn_169 x0 x1 x3 h = some y := hf
      unfold tX16_takesOwn_169 at hf
      refine pm_iload_n C dX16_takesOwn_169 rfl rfl ?_
      refine pm_aload_n C dX16_takesOwn_170 rfl rfl ?_
      obtain ⟨k67, hf⟩ := pm_if hf
      obtain ⟨v68, e69, hf⟩ := pm_bd hf
      refine pm_getR C dX16_takesOwn_171 flX16_221 rfl k67 e69 ?_
      obtain ⟨k70, hf⟩ := pm_if hf
      refine pm_getI C dX16_takesOwn_174 flX16_444 rfl k70 rfl ?_
      refine pm_icmp_ge (tgt := 262) C dX16_takesOwn_177 (by decide) (fun c71 => ?_) (fun c71 => ?_)
      · have hf := pm_it hf c71
        refine pm_iconst (v := 0) C dX16_takesOwn_262 (by decide) ?_
        refine pm_istore_n (lv' := [(3, .int 0), (0, .ref x0), (1, .int x1)]) C dX16_takesOwn_263 rfl (pm_nl X (by decide)) rfl ?_
        cases hf
        exact pm_sub [1, 2, 0] rfl (ih.2.2.2.1 x0 x1 0 h hi)
      · have hf := pm_ie hf c71
        refine pm_aload_n C dX16_takesOwn_180 rfl rfl ?_
        obtain ⟨v72, e73, hf⟩ := pm_bd hf
        refine pm_getR C dX16_takesOwn_181 flX16_112 rfl k67 e73 ?_
        refine pm_aload_n C dX16_takesOwn_184 rfl rfl ?_
        refine pm_getI C dX16_takesOwn_185 flX16_979 rfl k67 rfl ?_
        refine pm_aload_n C dX16_takesOwn_188 rfl rfl ?_
        refine pm_getR C dX16_takesOwn_189 flX16_221 rfl k67 e69 ?_
        obtain ⟨v74, e75, hf⟩ := pm_bd hf
        refine pm_getR C dX16_takesOwn_192 flX16_450 rfl k70 e75 ?_
        refine pm_iload_n C dX16_takesOwn_195 rfl rfl ?_
        obtain ⟨k76, hf⟩ := pm_if hf
        obtain ⟨u77, hf⟩ := pm_if hf
        refine pm_lald C dX16_takesOwn_196 k76 u77 rfl ?_
        obtain ⟨y78, e79, hf⟩ := pm_lt hf
        refine pm_topL e79 ?_
        obtain ⟨k80, hf⟩ := pm_if hf
        obtain ⟨u81, hf⟩ := pm_if hf
        refine pm_last C dX16_takesOwn_197 k80 u81 ?_
        refine pm_aload_n C dX16_takesOwn_198 rfl rfl ?_
        obtain ⟨v82, e83, hf⟩ := pm_bd hf
        refine pm_getR C dX16_takesOwn_199 flX16_109 rfl k67 e83 ?_
        refine pm_aload_n C dX16_takesOwn_202 rfl rfl ?_
        refine pm_getI C dX16_takesOwn_203 flX16_979 rfl k67 rfl ?_
        refine pm_iconst (v := 0) C dX16_takesOwn_206 (by decide) ?_
        obtain ⟨k84, hf⟩ := pm_if hf
        obtain ⟨u85, hf⟩ := pm_if hf
        refine pm_iast C dX16_takesOwn_207 k84 u85 ?_
        refine pm_aload_n C dX16_takesOwn_208 rfl rfl ?_
        refine pm_aload_n C dX16_takesOwn_209 rfl rfl ?_
        refine pm_getI C dX16_takesOwn_210 flX16_979 rfl k67 rfl ?_
        refine pm_aload_n C dX16_takesOwn_213 rfl rfl ?_
        refine pm_getR C dX16_takesOwn_214 flX16_221 rfl k67 e69 ?_
        obtain ⟨v86, e87, hf⟩ := pm_bd hf
        refine pm_getR C dX16_takesOwn_217 flX16_447 rfl k70 e87 ?_
        refine pm_iload_n C dX16_takesOwn_220 rfl rfl ?_
        obtain ⟨k88, hf⟩ := pm_if hf
        obtain ⟨u89, hf⟩ := pm_if hf
        refine pm_lald C dX16_takesOwn_221 k88 u89 rfl ?_
        refine pm_l2i C dX16_takesOwn_222 ?_
        obtain ⟨v90, e91, hf⟩ := pm_bd hf
        refine pm_callV (as := [.int (pm_I (pm_setI (pm_setL h v72 ((pm_I h x0 52).toNatClampNeg) y78) v82 ((pm_I (pm_setL h v72 ((pm_I h x0 52).toNatClampNeg) y78) x0 52).toNatClampNeg) 0) x0 52), .int ((pm_L (pm_setI (pm_setL h v72 ((pm_I h x0 52).toNatClampNeg) y78) v82 ((pm_I (pm_setL h v72 ((pm_I h x0 52).toNatClampNeg) y78) x0 52).toNatClampNeg) 0) v86 x3.toNatClampNeg).toInt32)]) (st := []) C X dX16_takesOwn_223 lnX16_1017 myX16_growsPages viX16_growsPages ⟨by decide, by decide⟩ rfl rfl k67 (Nat.le_of_ble_eq_true rfl) (Nat.le_refl _) (Nat.le_refl _) (ctX16_growsPages e91 ?_)
        show pm_G g 226 [(0, .ref x0), (1, .int x1), (3, .int x3)] [] v90 0 0
        refine pm_aload_n C dX16_takesOwn_226 rfl rfl ?_
        refine pm_iconst (v := 2) C dX16_takesOwn_227 (by decide) ?_
        refine pm_iload_n C dX16_takesOwn_228 rfl rfl ?_
        refine pm_aload_n C dX16_takesOwn_229 rfl rfl ?_
        obtain ⟨k92, hf⟩ := pm_if hf
        obtain ⟨v93, e94, hf⟩ := pm_bd hf
        refine pm_getR C dX16_takesOwn_230 flX16_221 rfl k92 e94 ?_
        refine pm_iconst (v := 2) C dX16_takesOwn_233 (by decide) ?_
        obtain ⟨k95, hf⟩ := pm_if hf
        obtain ⟨v96, e97, hf⟩ := pm_bd hf
        refine pm_callV (as := [.int 2]) (st := [.int x1, .int 2, .ref x0]) C X dX16_takesOwn_234 lnX16_664 myX14_imported viX14_imported ⟨by decide, by decide⟩ rfl rfl k95 (Nat.le_of_ble_eq_true rfl) (Nat.le_refl _) (Nat.le_refl _) (ctX14_imported e97 ?_)
        show pm_G g 237 [(0, .ref x0), (1, .int x1), (3, .int x3)] [.int v96, .int x1, .int 2, .ref x0] v90 0 0
        refine pm_iload_n C dX16_takesOwn_237 rfl rfl ?_
        refine pm_iadd C dX16_takesOwn_238 ?_
        refine pm_aload_n C dX16_takesOwn_239 rfl rfl ?_
        refine pm_getI C dX16_takesOwn_240 flX16_979 rfl k92 rfl ?_
        obtain ⟨v98, e99, hf⟩ := pm_bd hf
        refine pm_callV (as := [.int 2, .int x1, .int (v96 + x3), .int (pm_I v90 x0 52)]) (st := []) C X dX16_takesOwn_243 lnX16_1009 myX16_has viX16_has ⟨by decide, by decide⟩ rfl rfl k92 (Nat.le_of_ble_eq_true rfl) (Nat.le_refl _) (Nat.le_refl _) (ctX16_has e99 ?_)
        show pm_G g 246 [(0, .ref x0), (1, .int x1), (3, .int x3)] [] v98 0 0
        refine pm_aload_n C dX16_takesOwn_246 rfl rfl ?_
        refine pm_dup C dX16_takesOwn_247 rfl ?_
        obtain ⟨k100, hf⟩ := pm_if hf
        refine pm_getI C dX16_takesOwn_248 flX16_979 rfl k100 rfl ?_
        refine pm_iconst (v := 1) C dX16_takesOwn_251 (by decide) ?_
        refine pm_iadd C dX16_takesOwn_252 ?_
        obtain ⟨y101, e102, hf⟩ := pm_lt hf
        refine pm_topI e102 ?_
        refine pm_putI C dX16_takesOwn_253 flX16_979 rfl rfl k100 rfl rfl ?_
        obtain ⟨y103, e104, hf⟩ := pm_lt hf
        refine pm_iinc (v := y103) (lv' := [(3, .int y103), (0, .ref x0), (1, .int x1)]) C dX16_takesOwn_256 rfl ((congrArg (x3 + ·) (by decide : Int32.ofInt 1 = 1)).trans e104) (pm_nl X (by decide)) rfl ?_
        refine pm_goto (tgt := 169) C dX16_takesOwn_259 (by decide) ?_
        cases hf
        exact pm_sub [1, 2, 0] rfl (ih.2.2.1 x0 x1 y103 (pm_setI v98 x0 52 y101) hi)
    refine ⟨fun x0 x1 x3 h hf => ?_, ?_⟩
    · obtain ⟨y, hf, hi⟩ := pm_iter_s hf
      have hf : tX16_takesOwn_264 x0 x1 x3 h = some y := hf
      unfold tX16_takesOwn_264 at hf
      refine pm_iload_n C dX16_takesOwn_264 rfl rfl ?_
      refine pm_aload_n C dX16_takesOwn_265 rfl rfl ?_
      obtain ⟨k105, hf⟩ := pm_if hf
      obtain ⟨v106, e107, hf⟩ := pm_bd hf
      refine pm_getR C dX16_takesOwn_266 flX16_221 rfl k105 e107 ?_
      obtain ⟨k108, hf⟩ := pm_if hf
      refine pm_getI C dX16_takesOwn_269 flX16_453 rfl k108 rfl ?_
      refine pm_icmp_ge (tgt := 370) C dX16_takesOwn_272 (by decide) (fun c109 => ?_) (fun c109 => ?_)
      · have hf := pm_it hf c109
        refine pm_iconst (v := 0) C dX16_takesOwn_370 (by decide) ?_
        refine pm_istore_n (lv' := [(3, .int 0), (0, .ref x0), (1, .int x1)]) C dX16_takesOwn_371 rfl (pm_nl X (by decide)) rfl ?_
        cases hf
        exact pm_sub [1, 2, 0] rfl (ih.2.2.2.2.1 x0 x1 0 h hi)
      · have hf := pm_ie hf c109
        refine pm_aload_n C dX16_takesOwn_275 rfl rfl ?_
        obtain ⟨v110, e111, hf⟩ := pm_bd hf
        refine pm_getR C dX16_takesOwn_276 flX16_122 rfl k105 e111 ?_
        refine pm_aload_n C dX16_takesOwn_279 rfl rfl ?_
        refine pm_getI C dX16_takesOwn_280 flX16_980 rfl k105 rfl ?_
        refine pm_aload_n C dX16_takesOwn_283 rfl rfl ?_
        refine pm_getR C dX16_takesOwn_284 flX16_221 rfl k105 e107 ?_
        obtain ⟨v112, e113, hf⟩ := pm_bd hf
        refine pm_getR C dX16_takesOwn_287 flX16_459 rfl k108 e113 ?_
        refine pm_iload_n C dX16_takesOwn_290 rfl rfl ?_
        obtain ⟨k114, hf⟩ := pm_if hf
        obtain ⟨u115, hf⟩ := pm_if hf
        refine pm_iald C dX16_takesOwn_291 k114 u115 rfl ?_
        obtain ⟨y116, e117, hf⟩ := pm_lt hf
        refine pm_topI e117 ?_
        obtain ⟨k118, hf⟩ := pm_if hf
        obtain ⟨u119, hf⟩ := pm_if hf
        refine pm_iast C dX16_takesOwn_292 k118 u119 ?_
        refine pm_aload_n C dX16_takesOwn_293 rfl rfl ?_
        obtain ⟨v120, e121, hf⟩ := pm_bd hf
        refine pm_getR C dX16_takesOwn_294 flX16_125 rfl k105 e121 ?_
        refine pm_aload_n C dX16_takesOwn_297 rfl rfl ?_
        refine pm_getI C dX16_takesOwn_298 flX16_980 rfl k105 rfl ?_
        refine pm_aload_n C dX16_takesOwn_301 rfl rfl ?_
        refine pm_getR C dX16_takesOwn_302 flX16_221 rfl k105 e107 ?_
        obtain ⟨v122, e123, hf⟩ := pm_bd hf
        refine pm_getR C dX16_takesOwn_305 flX16_462 rfl k108 e123 ?_
        refine pm_iload_n C dX16_takesOwn_308 rfl rfl ?_
        obtain ⟨k124, hf⟩ := pm_if hf
        obtain ⟨u125, hf⟩ := pm_if hf
        refine pm_zald C dX16_takesOwn_309 k124 u125 rfl ?_
        obtain ⟨y126, e127, hf⟩ := pm_lt hf
        refine pm_topI e127 ?_
        obtain ⟨k128, hf⟩ := pm_if hf
        obtain ⟨u129, hf⟩ := pm_if hf
        refine pm_zast C dX16_takesOwn_310 k128 u129 ?_
        refine pm_aload_n C dX16_takesOwn_311 rfl rfl ?_
        obtain ⟨v130, e131, hf⟩ := pm_bd hf
        refine pm_getR C dX16_takesOwn_312 flX16_128 rfl k105 e131 ?_
        refine pm_aload_n C dX16_takesOwn_315 rfl rfl ?_
        refine pm_getI C dX16_takesOwn_316 flX16_980 rfl k105 rfl ?_
        refine pm_aload_n C dX16_takesOwn_319 rfl rfl ?_
        refine pm_iload_n C dX16_takesOwn_320 rfl rfl ?_
        refine pm_aload_n C dX16_takesOwn_321 rfl rfl ?_
        refine pm_getR C dX16_takesOwn_322 flX16_221 rfl k105 e107 ?_
        obtain ⟨v132, e133, hf⟩ := pm_bd hf
        refine pm_getR C dX16_takesOwn_325 flX16_463 rfl k108 e133 ?_
        refine pm_iload_n C dX16_takesOwn_328 rfl rfl ?_
        obtain ⟨k134, hf⟩ := pm_if hf
        obtain ⟨u135, hf⟩ := pm_if hf
        refine pm_iald C dX16_takesOwn_329 k134 u135 rfl ?_
        obtain ⟨v136, e137, hf⟩ := pm_bd hf
        refine pm_callV (as := [.int x1, .int (pm_I (pm_setI (pm_setI h v110 ((pm_I h x0 58).toNatClampNeg) y116) v120 ((pm_I (pm_setI h v110 ((pm_I h x0 58).toNatClampNeg) y116) x0 58).toNatClampNeg) (vp_nar .boolean y126)) v132 x3.toNatClampNeg)]) (st := [.int (pm_I (pm_setI (pm_setI h v110 ((pm_I h x0 58).toNatClampNeg) y116) v120 ((pm_I (pm_setI h v110 ((pm_I h x0 58).toNatClampNeg) y116) x0 58).toNatClampNeg) (vp_nar .boolean y126)) x0 58), .ref v130]) C X dX16_takesOwn_330 lnX16_1020 myX16_constant viX16_constant ⟨by decide, by decide⟩ rfl rfl k105 (Nat.le_of_ble_eq_true rfl) (Nat.le_refl _) (Nat.le_refl _) (ctX16_constant e137 ?_)
        show pm_G g 333 [(0, .ref x0), (1, .int x1), (3, .int x3)] [.long v136.1, .int (pm_I (pm_setI (pm_setI h v110 ((pm_I h x0 58).toNatClampNeg) y116) v120 ((pm_I (pm_setI h v110 ((pm_I h x0 58).toNatClampNeg) y116) x0 58).toNatClampNeg) (vp_nar .boolean y126)) x0 58), .ref v130] v136.2 0 0
        obtain ⟨k138, hf⟩ := pm_if hf
        obtain ⟨u139, hf⟩ := pm_if hf
        refine pm_last C dX16_takesOwn_333 k138 u139 ?_
        refine pm_aload_n C dX16_takesOwn_334 rfl rfl ?_
        refine pm_iconst (v := 3) C dX16_takesOwn_335 (by decide) ?_
        refine pm_iload_n C dX16_takesOwn_336 rfl rfl ?_
        refine pm_aload_n C dX16_takesOwn_337 rfl rfl ?_
        obtain ⟨k140, hf⟩ := pm_if hf
        obtain ⟨v141, e142, hf⟩ := pm_bd hf
        refine pm_getR C dX16_takesOwn_338 flX16_221 rfl k140 e142 ?_
        refine pm_iconst (v := 3) C dX16_takesOwn_341 (by decide) ?_
        obtain ⟨k143, hf⟩ := pm_if hf
        obtain ⟨v144, e145, hf⟩ := pm_bd hf
        refine pm_callV (as := [.int 3]) (st := [.int x1, .int 3, .ref x0]) C X dX16_takesOwn_342 lnX16_664 myX14_imported viX14_imported ⟨by decide, by decide⟩ rfl rfl k143 (Nat.le_of_ble_eq_true rfl) (Nat.le_refl _) (Nat.le_refl _) (ctX14_imported e145 ?_)
        show pm_G g 345 [(0, .ref x0), (1, .int x1), (3, .int x3)] [.int v144, .int x1, .int 3, .ref x0] (pm_setL v136.2 v130 ((pm_I (pm_setI (pm_setI h v110 ((pm_I h x0 58).toNatClampNeg) y116) v120 ((pm_I (pm_setI h v110 ((pm_I h x0 58).toNatClampNeg) y116) x0 58).toNatClampNeg) (vp_nar .boolean y126)) x0 58).toNatClampNeg) v136.1) 0 0
        refine pm_iload_n C dX16_takesOwn_345 rfl rfl ?_
        refine pm_iadd C dX16_takesOwn_346 ?_
        refine pm_aload_n C dX16_takesOwn_347 rfl rfl ?_
        refine pm_getI C dX16_takesOwn_348 flX16_980 rfl k140 rfl ?_
        obtain ⟨v146, e147, hf⟩ := pm_bd hf
        refine pm_callV (as := [.int 3, .int x1, .int (v144 + x3), .int (pm_I (pm_setL v136.2 v130 ((pm_I (pm_setI (pm_setI h v110 ((pm_I h x0 58).toNatClampNeg) y116) v120 ((pm_I (pm_setI h v110 ((pm_I h x0 58).toNatClampNeg) y116) x0 58).toNatClampNeg) (vp_nar .boolean y126)) x0 58).toNatClampNeg) v136.1) x0 58)]) (st := []) C X dX16_takesOwn_351 lnX16_1009 myX16_has viX16_has ⟨by decide, by decide⟩ rfl rfl k140 (Nat.le_of_ble_eq_true rfl) (Nat.le_refl _) (Nat.le_refl _) (ctX16_has e147 ?_)
        show pm_G g 354 [(0, .ref x0), (1, .int x1), (3, .int x3)] [] v146 0 0
        refine pm_aload_n C dX16_takesOwn_354 rfl rfl ?_
        refine pm_dup C dX16_takesOwn_355 rfl ?_
        obtain ⟨k148, hf⟩ := pm_if hf
        refine pm_getI C dX16_takesOwn_356 flX16_980 rfl k148 rfl ?_
        refine pm_iconst (v := 1) C dX16_takesOwn_359 (by decide) ?_
        refine pm_iadd C dX16_takesOwn_360 ?_
        obtain ⟨y149, e150, hf⟩ := pm_lt hf
        refine pm_topI e150 ?_
        refine pm_putI C dX16_takesOwn_361 flX16_980 rfl rfl k148 rfl rfl ?_
        obtain ⟨y151, e152, hf⟩ := pm_lt hf
        refine pm_iinc (v := y151) (lv' := [(3, .int y151), (0, .ref x0), (1, .int x1)]) C dX16_takesOwn_364 rfl ((congrArg (x3 + ·) (by decide : Int32.ofInt 1 = 1)).trans e152) (pm_nl X (by decide)) rfl ?_
        refine pm_goto (tgt := 264) C dX16_takesOwn_367 (by decide) ?_
        cases hf
        exact pm_sub [1, 2, 0] rfl (ih.2.2.2.1 x0 x1 y151 (pm_setI v146 x0 58 y149) hi)
    refine ⟨fun x0 x1 x3 h hf => ?_, ?_⟩
    · obtain ⟨y, hf, hi⟩ := pm_iter_s hf
      have hf : tX16_takesOwn_372 x0 x1 x3 h = some y := hf
      unfold tX16_takesOwn_372 at hf
      refine pm_iload_n C dX16_takesOwn_372 rfl rfl ?_
      refine pm_aload_n C dX16_takesOwn_373 rfl rfl ?_
      obtain ⟨k153, hf⟩ := pm_if hf
      obtain ⟨v154, e155, hf⟩ := pm_bd hf
      refine pm_getR C dX16_takesOwn_374 flX16_221 rfl k153 e155 ?_
      obtain ⟨k156, hf⟩ := pm_if hf
      refine pm_getI C dX16_takesOwn_377 flX16_481 rfl k156 rfl ?_
      refine pm_icmp_ge (tgt := 395) C dX16_takesOwn_380 (by decide) (fun c157 => ?_) (fun c157 => ?_)
      · have hf := pm_it hf c157
        refine pm_iconst (v := 0) C dX16_takesOwn_395 (by decide) ?_
        refine pm_istore_n (lv' := [(3, .int 0), (0, .ref x0), (1, .int x1)]) C dX16_takesOwn_396 rfl (pm_nl X (by decide)) rfl ?_
        cases hf
        exact pm_sub [1, 2, 0] rfl (ih.2.2.2.2.2 x0 x1 0 h hi)
      · have hf := pm_ie hf c157
        refine pm_aload_n C dX16_takesOwn_383 rfl rfl ?_
        refine pm_iload_n C dX16_takesOwn_384 rfl rfl ?_
        refine pm_iload_n C dX16_takesOwn_385 rfl rfl ?_
        obtain ⟨v158, e159, hf⟩ := pm_bd hf
        refine pm_callV (as := [.int x1, .int x3]) (st := []) C X dX16_takesOwn_386 lnX16_1024 myX16_takesElement viX16_takesElement ⟨by decide, by decide⟩ rfl rfl k153 (Nat.le_of_ble_eq_true rfl) (Nat.le_refl _) (Nat.le_refl _) (ctX16_takesElement e159 ?_)
        show pm_G g 389 [(0, .ref x0), (1, .int x1), (3, .int x3)] [] v158 0 0
        obtain ⟨y160, e161, hf⟩ := pm_lt hf
        refine pm_iinc (v := y160) (lv' := [(3, .int y160), (0, .ref x0), (1, .int x1)]) C dX16_takesOwn_389 rfl ((congrArg (x3 + ·) (by decide : Int32.ofInt 1 = 1)).trans e161) (pm_nl X (by decide)) rfl ?_
        refine pm_goto (tgt := 372) C dX16_takesOwn_392 (by decide) ?_
        cases hf
        exact pm_sub [1, 2, 0] rfl (ih.2.2.2.2.1 x0 x1 y160 v158 hi)
    refine fun x0 x1 x3 h hf => ?_
    obtain ⟨y, hf, hi⟩ := pm_iter_s hf
    have hf : tX16_takesOwn_397 x0 x1 x3 h = some y := hf
    unfold tX16_takesOwn_397 at hf
    refine pm_iload_n C dX16_takesOwn_397 rfl rfl ?_
    refine pm_aload_n C dX16_takesOwn_398 rfl rfl ?_
    obtain ⟨k162, hf⟩ := pm_if hf
    obtain ⟨v163, e164, hf⟩ := pm_bd hf
    refine pm_getR C dX16_takesOwn_399 flX16_221 rfl k162 e164 ?_
    obtain ⟨k165, hf⟩ := pm_if hf
    refine pm_getI C dX16_takesOwn_402 flX16_529 rfl k165 rfl ?_
    refine pm_icmp_ge (tgt := 426) C dX16_takesOwn_405 (by decide) (fun c166 => ?_) (fun c166 => ?_)
    · have hf := pm_it hf c166
      cases hf
      cases hi
      exact pm_vret C X dX16_takesOwn_426 rfl (Nat.le_refl _) (Nat.le_refl _) q
    · have hf := pm_ie hf c166
      refine pm_aload_n C dX16_takesOwn_408 rfl rfl ?_
      obtain ⟨v167, e168, hf⟩ := pm_bd hf
      refine pm_getR C dX16_takesOwn_409 flX16_152 rfl k162 e168 ?_
      refine pm_bipush (v := 64) C dX16_takesOwn_412 (by decide) ?_
      refine pm_iload_n C dX16_takesOwn_414 rfl rfl ?_
      refine pm_imul C dX16_takesOwn_415 ?_
      refine pm_iload_n C dX16_takesOwn_416 rfl rfl ?_
      refine pm_iadd C dX16_takesOwn_417 ?_
      refine pm_iconst (v := 1) C dX16_takesOwn_418 (by decide) ?_
      obtain ⟨k169, hf⟩ := pm_if hf
      obtain ⟨u170, hf⟩ := pm_if hf
      refine pm_zast C dX16_takesOwn_419 k169 u170 ?_
      obtain ⟨y171, e172, hf⟩ := pm_lt hf
      refine pm_iinc (v := y171) (lv' := [(3, .int y171), (0, .ref x0), (1, .int x1)]) C dX16_takesOwn_420 rfl ((congrArg (x3 + ·) (by decide : Int32.ofInt 1 = 1)).trans e172) (pm_nl X (by decide)) rfl ?_
      refine pm_goto (tgt := 397) C dX16_takesOwn_423 (by decide) ?_
      cases hf
      exact pm_sub [1, 2, 0] rfl (ih.2.2.2.2.2 x0 x1 y171 (pm_setI h v167 (((64 * x1) + x3).toNatClampNeg) (vp_nar .boolean 1)) hi)
set_option maxHeartbeats 4000000 in
set_option maxRecDepth 100000 in
theorem ctX16_takesOwn {l : Launch} {G : pm_Gl} {h : pm_H} {a0 : Nat} {p1 : Int32} {p2 : Int32} {r : pm_H} {Qr : Option Value → pm_H → Prop} (hf : fX16_takesOwn h a0 p1 p2 = some r) (q : Qr none r) : pm_Ct l G mX16_takesOwn [.ref a0, .int p1, .int p2] h 0 0 Qr := by
  refine pm_body pnX16 (Nat.le_of_ble_eq_true rfl) (fun g C X => ?_)
  have C : pm_C g cX16_takesOwn RX16 := C
  show pm_G g 0 [(0, .ref a0), (1, .int p1), (2, .int p2)] [] h 0 0
  unfold fX16_takesOwn at hf
  refine pm_iconst (v := 0) C dX16_takesOwn_0 (by decide) ?_
  refine pm_istore_n (lv' := [(3, .int 0), (0, .ref a0), (1, .int p1), (2, .int p2)]) C dX16_takesOwn_1 rfl (pm_nl X (by decide)) rfl ?_
  obtain ⟨n, hn⟩ := pm_lim_iter hf
  exact pm_sub [1, 2, 3, 0] rfl ((lpX16_takesOwn C X q n).1 a0 p1 p2 0 h hn)
theorem dX16_towards_0 : decode cX16_towards 0 = .ok (.aload_n 0, 1) := by decide +kernel
theorem dX16_towards_1 : decode cX16_towards 1 = .ok (.getfield 61, 3) := by decide +kernel
theorem dX16_towards_4 : decode cX16_towards 4 = .ok (.iload_n 1, 1) := by decide +kernel
theorem dX16_towards_5 : decode cX16_towards 5 = .ok (.lload_n 2, 1) := by decide +kernel
theorem dX16_towards_6 : decode cX16_towards 6 = .ok (.invokevirtual 868, 3) := by decide +kernel
theorem dX16_towards_9 : decode cX16_towards 9 = .ok (.aload_n 0, 1) := by decide +kernel
theorem dX16_towards_10 : decode cX16_towards 10 = .ok (.getfield 61, 3) := by decide +kernel
theorem dX16_towards_13 : decode cX16_towards 13 = .ok (.getfield 871, 3) := by decide +kernel
theorem dX16_towards_16 : decode cX16_towards 16 = .ok (.iconst 3, 1) := by decide +kernel
theorem dX16_towards_17 : decode cX16_towards 17 = .ok (.if_icmp .ne 15, 3) := by decide +kernel
theorem dX16_towards_20 : decode cX16_towards 20 = .ok (.iload 6, 2) := by decide +kernel
theorem dX16_towards_22 : decode cX16_towards 22 = .ok (.ifCond .ne 8, 3) := by decide +kernel
theorem dX16_towards_25 : decode cX16_towards 25 = .ok (.aload_n 0, 1) := by decide +kernel
theorem dX16_towards_26 : decode cX16_towards 26 = .ok (.iconst 3, 1) := by decide +kernel
theorem dX16_towards_27 : decode cX16_towards 27 = .ok (.invokevirtual 847, 3) := by decide +kernel
theorem dX16_towards_30 : decode cX16_towards 30 = .ok (.lconst 0, 1) := by decide +kernel
theorem dX16_towards_31 : decode cX16_towards 31 = .ok (.lreturn, 1) := by decide +kernel
theorem dX16_towards_32 : decode cX16_towards 32 = .ok (.aload_n 0, 1) := by decide +kernel
theorem dX16_towards_33 : decode cX16_towards 33 = .ok (.getfield 61, 3) := by decide +kernel
theorem dX16_towards_36 : decode cX16_towards 36 = .ok (.getfield 913, 3) := by decide +kernel
theorem dX16_towards_39 : decode cX16_towards 39 = .ok (.istore 7, 2) := by decide +kernel
theorem dX16_towards_41 : decode cX16_towards 41 = .ok (.aload_n 0, 1) := by decide +kernel
theorem dX16_towards_42 : decode cX16_towards 42 = .ok (.getfield 61, 3) := by decide +kernel
theorem dX16_towards_45 : decode cX16_towards 45 = .ok (.getfield 871, 3) := by decide +kernel
theorem dX16_towards_48 : decode cX16_towards 48 = .ok (.iconst 2, 1) := by decide +kernel
theorem dX16_towards_49 : decode cX16_towards 49 = .ok (.if_icmp .eq 37, 3) := by decide +kernel
theorem dX16_towards_52 : decode cX16_towards 52 = .ok (.aload_n 0, 1) := by decide +kernel
theorem dX16_towards_53 : decode cX16_towards 53 = .ok (.getfield 61, 3) := by decide +kernel
theorem dX16_towards_56 : decode cX16_towards 56 = .ok (.getfield 871, 3) := by decide +kernel
theorem dX16_towards_59 : decode cX16_towards 59 = .ok (.ifCond .ne 31, 3) := by decide +kernel
theorem dX16_towards_62 : decode cX16_towards 62 = .ok (.iload 7, 2) := by decide +kernel
theorem dX16_towards_64 : decode cX16_towards 64 = .ok (.ifCond .le 26, 3) := by decide +kernel
theorem dX16_towards_67 : decode cX16_towards 67 = .ok (.lconst 0, 1) := by decide +kernel
theorem dX16_towards_68 : decode cX16_towards 68 = .ok (.aload_n 0, 1) := by decide +kernel
theorem dX16_towards_69 : decode cX16_towards 69 = .ok (.getfield 61, 3) := by decide +kernel
theorem dX16_towards_72 : decode cX16_towards 72 = .ok (.getfield 916, 3) := by decide +kernel
theorem dX16_towards_75 : decode cX16_towards 75 = .ok (.invokestatic 878, 3) := by decide +kernel
theorem dX16_towards_78 : decode cX16_towards 78 = .ok (.iload 7, 2) := by decide +kernel
theorem dX16_towards_80 : decode cX16_towards 80 = .ok (.iadd, 1) := by decide +kernel
theorem dX16_towards_81 : decode cX16_towards 81 = .ok (.bipush 64, 2) := by decide +kernel
theorem dX16_towards_83 : decode cX16_towards 83 = .ok (.if_icmp .le 7, 3) := by decide +kernel
theorem dX16_towards_86 : decode cX16_towards 86 = .ok (.iconst 1, 1) := by decide +kernel
theorem dX16_towards_87 : decode cX16_towards 87 = .ok (.goto 4, 3) := by decide +kernel
theorem dX16_towards_90 : decode cX16_towards 90 = .ok (.iconst 0, 1) := by decide +kernel
theorem dX16_towards_91 : decode cX16_towards 91 = .ok (.istore 8, 2) := by decide +kernel
theorem dX16_towards_93 : decode cX16_towards 93 = .ok (.aload_n 0, 1) := by decide +kernel
theorem dX16_towards_94 : decode cX16_towards 94 = .ok (.getfield 61, 3) := by decide +kernel
theorem dX16_towards_97 : decode cX16_towards 97 = .ok (.getfield 871, 3) := by decide +kernel
theorem dX16_towards_100 : decode cX16_towards 100 = .ok (.ifCond .ne 15, 3) := by decide +kernel
theorem dX16_towards_103 : decode cX16_towards 103 = .ok (.iload 8, 2) := by decide +kernel
theorem dX16_towards_105 : decode cX16_towards 105 = .ok (.ifCond .ne 10, 3) := by decide +kernel
theorem dX16_towards_108 : decode cX16_towards 108 = .ok (.iload 7, 2) := by decide +kernel
theorem dX16_towards_110 : decode cX16_towards 110 = .ok (.bipush (-63), 2) := by decide +kernel
theorem dX16_towards_112 : decode cX16_towards 112 = .ok (.if_icmp .ge 7, 3) := by decide +kernel
theorem dX16_towards_115 : decode cX16_towards 115 = .ok (.lconst 0, 1) := by decide +kernel
theorem dX16_towards_116 : decode cX16_towards 116 = .ok (.goto 32, 3) := by decide +kernel
theorem dX16_towards_119 : decode cX16_towards 119 = .ok (.iload 7, 2) := by decide +kernel
theorem dX16_towards_121 : decode cX16_towards 121 = .ok (.ifCond .ge 17, 3) := by decide +kernel
theorem dX16_towards_124 : decode cX16_towards 124 = .ok (.aload_n 0, 1) := by decide +kernel
theorem dX16_towards_125 : decode cX16_towards 125 = .ok (.getfield 61, 3) := by decide +kernel
theorem dX16_towards_128 : decode cX16_towards 128 = .ok (.getfield 916, 3) := by decide +kernel
theorem dX16_towards_131 : decode cX16_towards 131 = .ok (.iload 7, 2) := by decide +kernel
theorem dX16_towards_133 : decode cX16_towards 133 = .ok (.ineg, 1) := by decide +kernel
theorem dX16_towards_134 : decode cX16_towards 134 = .ok (.lushr, 1) := by decide +kernel
theorem dX16_towards_135 : decode cX16_towards 135 = .ok (.goto 13, 3) := by decide +kernel
theorem dX16_towards_138 : decode cX16_towards 138 = .ok (.aload_n 0, 1) := by decide +kernel
theorem dX16_towards_139 : decode cX16_towards 139 = .ok (.getfield 61, 3) := by decide +kernel
theorem dX16_towards_142 : decode cX16_towards 142 = .ok (.getfield 916, 3) := by decide +kernel
theorem dX16_towards_145 : decode cX16_towards 145 = .ok (.iload 7, 2) := by decide +kernel
theorem dX16_towards_147 : decode cX16_towards 147 = .ok (.lshl, 1) := by decide +kernel
theorem dX16_towards_148 : decode cX16_towards 148 = .ok (.lstore 9, 2) := by decide +kernel
theorem dX16_towards_150 : decode cX16_towards 150 = .ok (.lconst 1, 1) := by decide +kernel
theorem dX16_towards_151 : decode cX16_towards 151 = .ok (.iload 4, 2) := by decide +kernel
theorem dX16_towards_153 : decode cX16_towards 153 = .ok (.iconst 1, 1) := by decide +kernel
theorem dX16_towards_154 : decode cX16_towards 154 = .ok (.isub, 1) := by decide +kernel
theorem dX16_towards_155 : decode cX16_towards 155 = .ok (.lshl, 1) := by decide +kernel
theorem dX16_towards_156 : decode cX16_towards 156 = .ok (.lstore 11, 2) := by decide +kernel
theorem dX16_towards_158 : decode cX16_towards 158 = .ok (.iload 8, 2) := by decide +kernel
theorem dX16_towards_160 : decode cX16_towards 160 = .ok (.ifCond .ne 76, 3) := by decide +kernel
theorem dX16_towards_163 : decode cX16_towards 163 = .ok (.aload_n 0, 1) := by decide +kernel
theorem dX16_towards_164 : decode cX16_towards 164 = .ok (.getfield 61, 3) := by decide +kernel
theorem dX16_towards_167 : decode cX16_towards 167 = .ok (.getfield 921, 3) := by decide +kernel
theorem dX16_towards_170 : decode cX16_towards 170 = .ok (.ifCond .eq 31, 3) := by decide +kernel
theorem dX16_towards_173 : decode cX16_towards 173 = .ok (.iload 5, 2) := by decide +kernel
theorem dX16_towards_175 : decode cX16_towards 175 = .ok (.ifCond .eq 16, 3) := by decide +kernel
theorem dX16_towards_178 : decode cX16_towards 178 = .ok (.lload 11, 2) := by decide +kernel
theorem dX16_towards_180 : decode cX16_towards 180 = .ok (.lload 9, 2) := by decide +kernel
theorem dX16_towards_182 : decode cX16_towards 182 = .ok (.invokestatic 827, 3) := by decide +kernel
theorem dX16_towards_185 : decode cX16_towards 185 = .ok (.ifCond .eq 55, 3) := by decide +kernel
theorem dX16_towards_188 : decode cX16_towards 188 = .ok (.goto 48, 3) := by decide +kernel
theorem dX16_towards_191 : decode cX16_towards 191 = .ok (.lload 9, 2) := by decide +kernel
theorem dX16_towards_193 : decode cX16_towards 193 = .ok (.lconst 0, 1) := by decide +kernel
theorem dX16_towards_194 : decode cX16_towards 194 = .ok (.lcmp, 1) := by decide +kernel
theorem dX16_towards_195 : decode cX16_towards 195 = .ok (.ifCond .eq 45, 3) := by decide +kernel
theorem dX16_towards_198 : decode cX16_towards 198 = .ok (.goto 38, 3) := by decide +kernel
theorem dX16_towards_201 : decode cX16_towards 201 = .ok (.iload 5, 2) := by decide +kernel
theorem dX16_towards_203 : decode cX16_towards 203 = .ok (.ifCond .eq 16, 3) := by decide +kernel
theorem dX16_towards_206 : decode cX16_towards 206 = .ok (.lload 9, 2) := by decide +kernel
theorem dX16_towards_208 : decode cX16_towards 208 = .ok (.lload 11, 2) := by decide +kernel
theorem dX16_towards_210 : decode cX16_towards 210 = .ok (.invokestatic 827, 3) := by decide +kernel
theorem dX16_towards_213 : decode cX16_towards 213 = .ok (.ifCond .ne 27, 3) := by decide +kernel
theorem dX16_towards_216 : decode cX16_towards 216 = .ok (.goto 20, 3) := by decide +kernel
theorem dX16_towards_219 : decode cX16_towards 219 = .ok (.iload 4, 2) := by decide +kernel
theorem dX16_towards_221 : decode cX16_towards 221 = .ok (.bipush 32, 2) := by decide +kernel
theorem dX16_towards_223 : decode cX16_towards 223 = .ok (.if_icmp .ne 17, 3) := by decide +kernel
theorem dX16_towards_226 : decode cX16_towards 226 = .ok (.lload 9, 2) := by decide +kernel
theorem dX16_towards_228 : decode cX16_towards 228 = .ok (.bipush 32, 2) := by decide +kernel
theorem dX16_towards_230 : decode cX16_towards 230 = .ok (.lushr, 1) := by decide +kernel
theorem dX16_towards_231 : decode cX16_towards 231 = .ok (.lconst 0, 1) := by decide +kernel
theorem dX16_towards_232 : decode cX16_towards 232 = .ok (.lcmp, 1) := by decide +kernel
theorem dX16_towards_233 : decode cX16_towards 233 = .ok (.ifCond .eq 7, 3) := by decide +kernel
theorem dX16_towards_236 : decode cX16_towards 236 = .ok (.iconst 1, 1) := by decide +kernel
theorem dX16_towards_237 : decode cX16_towards 237 = .ok (.goto 4, 3) := by decide +kernel
theorem dX16_towards_240 : decode cX16_towards 240 = .ok (.iconst 0, 1) := by decide +kernel
theorem dX16_towards_241 : decode cX16_towards 241 = .ok (.istore 13, 2) := by decide +kernel
theorem dX16_towards_243 : decode cX16_towards 243 = .ok (.iload 13, 2) := by decide +kernel
theorem dX16_towards_245 : decode cX16_towards 245 = .ok (.ifCond .eq 13, 3) := by decide +kernel
theorem dX16_towards_248 : decode cX16_towards 248 = .ok (.iload 6, 2) := by decide +kernel
theorem dX16_towards_250 : decode cX16_towards 250 = .ok (.ifCond .ne 8, 3) := by decide +kernel
theorem dX16_towards_253 : decode cX16_towards 253 = .ok (.aload_n 0, 1) := by decide +kernel
theorem dX16_towards_254 : decode cX16_towards 254 = .ok (.iconst 2, 1) := by decide +kernel
theorem dX16_towards_255 : decode cX16_towards 255 = .ok (.invokevirtual 847, 3) := by decide +kernel
theorem dX16_towards_258 : decode cX16_towards 258 = .ok (.aload_n 0, 1) := by decide +kernel
theorem dX16_towards_259 : decode cX16_towards 259 = .ok (.getfield 61, 3) := by decide +kernel
theorem dX16_towards_262 : decode cX16_towards 262 = .ok (.getfield 921, 3) := by decide +kernel
theorem dX16_towards_265 : decode cX16_towards 265 = .ok (.ifCond .eq 9, 3) := by decide +kernel
theorem dX16_towards_268 : decode cX16_towards 268 = .ok (.lload 9, 2) := by decide +kernel
theorem dX16_towards_270 : decode cX16_towards 270 = .ok (.lneg, 1) := by decide +kernel
theorem dX16_towards_271 : decode cX16_towards 271 = .ok (.goto 5, 3) := by decide +kernel
theorem dX16_towards_274 : decode cX16_towards 274 = .ok (.lload 9, 2) := by decide +kernel
theorem dX16_towards_276 : decode cX16_towards 276 = .ok (.lstore 14, 2) := by decide +kernel
theorem dX16_towards_278 : decode cX16_towards 278 = .ok (.iload 13, 2) := by decide +kernel
theorem dX16_towards_280 : decode cX16_towards 280 = .ok (.ifCond .eq 45, 3) := by decide +kernel
theorem dX16_towards_283 : decode cX16_towards 283 = .ok (.aload_n 0, 1) := by decide +kernel
theorem dX16_towards_284 : decode cX16_towards 284 = .ok (.getfield 61, 3) := by decide +kernel
theorem dX16_towards_287 : decode cX16_towards 287 = .ok (.getfield 921, 3) := by decide +kernel
theorem dX16_towards_290 : decode cX16_towards 290 = .ok (.ifCond .eq 18, 3) := by decide +kernel
theorem dX16_towards_293 : decode cX16_towards 293 = .ok (.iload 5, 2) := by decide +kernel
theorem dX16_towards_295 : decode cX16_towards 295 = .ok (.ifCond .eq 9, 3) := by decide +kernel
theorem dX16_towards_298 : decode cX16_towards 298 = .ok (.lload 11, 2) := by decide +kernel
theorem dX16_towards_300 : decode cX16_towards 300 = .ok (.lneg, 1) := by decide +kernel
theorem dX16_towards_301 : decode cX16_towards 301 = .ok (.goto 22, 3) := by decide +kernel
theorem dX16_towards_304 : decode cX16_towards 304 = .ok (.lconst 0, 1) := by decide +kernel
theorem dX16_towards_305 : decode cX16_towards 305 = .ok (.goto 18, 3) := by decide +kernel
theorem dX16_towards_308 : decode cX16_towards 308 = .ok (.iload 5, 2) := by decide +kernel
theorem dX16_towards_310 : decode cX16_towards 310 = .ok (.ifCond .eq 10, 3) := by decide +kernel
theorem dX16_towards_313 : decode cX16_towards 313 = .ok (.lload 11, 2) := by decide +kernel
theorem dX16_towards_315 : decode cX16_towards 315 = .ok (.lconst 1, 1) := by decide +kernel
theorem dX16_towards_316 : decode cX16_towards 316 = .ok (.lsub, 1) := by decide +kernel
theorem dX16_towards_317 : decode cX16_towards 317 = .ok (.goto 6, 3) := by decide +kernel
theorem dX16_towards_320 : decode cX16_towards 320 = .ok (.ldc2_w 268, 3) := by decide +kernel
theorem dX16_towards_323 : decode cX16_towards 323 = .ok (.lstore 14, 2) := by decide +kernel
theorem dX16_towards_325 : decode cX16_towards 325 = .ok (.iload 4, 2) := by decide +kernel
theorem dX16_towards_327 : decode cX16_towards 327 = .ok (.bipush 32, 2) := by decide +kernel
theorem dX16_towards_329 : decode cX16_towards 329 = .ok (.if_icmp .ne 12, 3) := by decide +kernel
theorem dX16_towards_332 : decode cX16_towards 332 = .ok (.lload 14, 2) := by decide +kernel
theorem dX16_towards_334 : decode cX16_towards 334 = .ok (.ldc2_w 513, 3) := by decide +kernel
theorem dX16_towards_337 : decode cX16_towards 337 = .ok (.land, 1) := by decide +kernel
theorem dX16_towards_338 : decode cX16_towards 338 = .ok (.goto 5, 3) := by decide +kernel
theorem dX16_towards_341 : decode cX16_towards 341 = .ok (.lload 14, 2) := by decide +kernel
theorem dX16_towards_343 : decode cX16_towards 343 = .ok (.lreturn, 1) := by decide +kernel
noncomputable def fX16_towards_b276 (h : pm_H) (x0 : Nat) (x4 : Int32) (x5 : Int32) (x11 : Int64) (x13 : Int32) (s0 : Int64) : Option (Int64 × pm_H) := if x13 = 0 then (if x4 = 32 then (some ((s0 &&& 4294967295, h))) else (some ((s0, h)))) else (if pm_kd h x0 = 16 then (pm_R h x0 34).bind fun v63 => if pm_kd h v63 = 15 then if (pm_I h v63 0) = 0 then (if x5 = 0 then (if x4 = 32 then (some ((((-1) : Int64) &&& 4294967295, h))) else (some (((-1), h)))) else (pm_let (x11 - 1) fun y69 => if x4 = 32 then (some ((y69 &&& 4294967295, h))) else (some ((y69, h))))) else (if x5 = 0 then (if x4 = 32 then (some (((0 : Int64) &&& 4294967295, h))) else (some ((0, h)))) else (pm_let (-x11) fun y74 => if x4 = 32 then (some ((y74 &&& 4294967295, h))) else (some ((y74, h))))) else none else none)
noncomputable def fX16_towards_b258 (h : pm_H) (x0 : Nat) (x4 : Int32) (x5 : Int32) (x9 : Int64) (x11 : Int64) (x13 : Int32) : Option (Int64 × pm_H) := if pm_kd h x0 = 16 then (pm_R h x0 34).bind fun v56 => if pm_kd h v56 = 15 then if (pm_I h v56 0) = 0 then (fX16_towards_b276 h x0 x4 x5 x11 x13 x9) else (fX16_towards_b276 h x0 x4 x5 x11 x13 (-x9)) else none else none
noncomputable def fX16_towards_b241 (h : pm_H) (x0 : Nat) (x4 : Int32) (x5 : Int32) (x6 : Int32) (x9 : Int64) (x11 : Int64) (s0 : Int32) : Option (Int64 × pm_H) := if s0 = 0 then (fX16_towards_b258 h x0 x4 x5 x9 x11 s0) else (if x6 = 0 then (if pm_kd h x0 = 16 then (fX16_traps h x0 2).bind fun v53 => fX16_towards_b258 v53 x0 x4 x5 x9 x11 s0 else none) else (fX16_towards_b258 h x0 x4 x5 x9 x11 s0))
noncomputable def fX16_towards_b240 (h : pm_H) (x0 : Nat) (x4 : Int32) (x5 : Int32) (x6 : Int32) (x9 : Int64) (x11 : Int64) : Option (Int64 × pm_H) := fX16_towards_b241 h x0 x4 x5 x6 x9 x11 0
noncomputable def fX16_towards_b236 (h : pm_H) (x0 : Nat) (x4 : Int32) (x5 : Int32) (x6 : Int32) (x9 : Int64) (x11 : Int64) : Option (Int64 × pm_H) := fX16_towards_b241 h x0 x4 x5 x6 x9 x11 1
noncomputable def fX16_towards_b148 (h : pm_H) (x0 : Nat) (x4 : Int32) (x5 : Int32) (x6 : Int32) (x8 : Int32) (s0 : Int64) : Option (Int64 × pm_H) := pm_let ((1 : Int64) <<< ((x4 - 1).toInt64 &&& 63)) fun y31 => if x8 = 0 then (if pm_kd h x0 = 16 then (pm_R h x0 34).bind fun v35 => if pm_kd h v35 = 15 then if (pm_I h v35 0) = 0 then (if x5 = 0 then (if x4 = 32 then (if ((s0.toUInt64 >>> ((32 : Int32).toInt64.toUInt64 &&& Int64.toUInt64 63)).toInt64) = 0 then (fX16_towards_b240 h x0 x4 x5 x6 s0 y31) else (fX16_towards_b236 h x0 x4 x5 x6 s0 y31)) else (fX16_towards_b240 h x0 x4 x5 x6 s0 y31)) else (pm_let (fX16_isBelow s0 y31) fun v42 => if v42 = 0 then (fX16_towards_b236 h x0 x4 x5 x6 s0 y31) else (fX16_towards_b240 h x0 x4 x5 x6 s0 y31))) else (if x5 = 0 then (if s0 = 0 then (fX16_towards_b240 h x0 x4 x5 x6 s0 y31) else (fX16_towards_b236 h x0 x4 x5 x6 s0 y31)) else (pm_let (fX16_isBelow y31 s0) fun v47 => if v47 = 0 then (fX16_towards_b240 h x0 x4 x5 x6 s0 y31) else (fX16_towards_b236 h x0 x4 x5 x6 s0 y31))) else none else none) else (fX16_towards_b236 h x0 x4 x5 x6 s0 y31)
noncomputable def fX16_towards_b115 (h : pm_H) (x0 : Nat) (x4 : Int32) (x5 : Int32) (x6 : Int32) (x8 : Int32) : Option (Int64 × pm_H) := fX16_towards_b148 h x0 x4 x5 x6 x8 0
noncomputable def fX16_towards_b91 (h : pm_H) (x0 : Nat) (x4 : Int32) (x5 : Int32) (x6 : Int32) (x7 : Int32) (s0 : Int32) : Option (Int64 × pm_H) := if pm_kd h x0 = 16 then (pm_R h x0 34).bind fun v24 => if pm_kd h v24 = 15 then if (pm_I h v24 1) = 0 then (if s0 = 0 then (if (-63) ≤ x7 then (if 0 ≤ x7 then (fX16_towards_b148 h x0 x4 x5 x6 s0 ((pm_L h v24 2) <<< (x7.toInt64 &&& 63))) else (fX16_towards_b148 h x0 x4 x5 x6 s0 (((pm_L h v24 2).toUInt64 >>> ((-x7).toInt64.toUInt64 &&& Int64.toUInt64 63)).toInt64))) else (fX16_towards_b115 h x0 x4 x5 x6 s0)) else (fX16_towards_b115 h x0 x4 x5 x6 s0)) else (fX16_towards_b115 h x0 x4 x5 x6 s0) else none else none
noncomputable def fX16_towards_b90 (h : pm_H) (x0 : Nat) (x4 : Int32) (x5 : Int32) (x6 : Int32) (x7 : Int32) : Option (Int64 × pm_H) := fX16_towards_b91 h x0 x4 x5 x6 x7 0
noncomputable def fX16_towards_b86 (h : pm_H) (x0 : Nat) (x4 : Int32) (x5 : Int32) (x6 : Int32) (x7 : Int32) : Option (Int64 × pm_H) := fX16_towards_b91 h x0 x4 x5 x6 x7 1
noncomputable def fX16_towards (h : pm_H) (a0 : Nat) (p1 : Int32) (p2 : Int64) (p3 : Int32) (p4 : Int32) (p5 : Int32) : Option (Int64 × pm_H) := if pm_kd h a0 = 16 then (pm_R h a0 34).bind fun v2 => if pm_kd h v2 = 15 then (fX15_read h v2 p1 p2).bind fun v5 => if pm_kd v5 a0 = 16 then (pm_R v5 a0 34).bind fun v8 => if pm_kd v5 v8 = 15 then if (pm_I v5 v8 1) = 3 then (if p5 = 0 then ((fX16_traps v5 a0 3).bind fun v21 => some ((0, v21))) else (some ((0, v5)))) else (pm_let (pm_I v5 v8 3) fun y12 => if (pm_I v5 v8 1) = 2 then (fX16_towards_b86 v5 a0 p3 p4 p5 y12) else (if (pm_I v5 v8 1) = 0 then (if y12 ≤ 0 then (fX16_towards_b90 v5 a0 p3 p4 p5 y12) else ((fX16_length 0 (pm_L v5 v8 2)).bind fun v17 => if (v17 + y12) ≤ 64 then (fX16_towards_b90 v5 a0 p3 p4 p5 y12) else (fX16_towards_b86 v5 a0 p3 p4 p5 y12))) else (fX16_towards_b90 v5 a0 p3 p4 p5 y12))) else none else none else none else none
set_option maxHeartbeats 4000000 in
set_option maxRecDepth 100000 in
theorem bX16_towards_276 {g : pm_Gm} {l : Launch} {G : pm_Gl} {Qr : Option Value → pm_H → Prop} (C : pm_C g cX16_towards RX16) (X : pm_X g l G mX16_towards 0 0 Qr) {h : pm_H} {x0 : Nat} {x4 : Int32} {x5 : Int32} {x11 : Int64} {x13 : Int32} {s0 : Int64} {r : (Int64 × pm_H)} (hf : fX16_towards_b276 h x0 x4 x5 x11 x13 s0 = some r) (q : Qr (some (.long r.1)) r.2) : pm_G g 276 [(0, .ref x0), (4, .int x4), (5, .int x5), (11, .long x11), (13, .int x13)] [.long s0] h 0 0 := by
  unfold fX16_towards_b276 at hf
  refine pm_lstore (lv' := [(14, .long s0), (0, .ref x0), (4, .int x4), (5, .int x5), (11, .long x11), (13, .int x13)]) C dX16_towards_276 (pm_nl X (by decide)) rfl ?_
  refine pm_iload C dX16_towards_278 rfl ?_
  refine pm_if_eq (tgt := 325) C dX16_towards_280 (by decide) (fun c60 => ?_) (fun c60 => ?_)
  · have hf := pm_it hf c60
    refine pm_iload C dX16_towards_325 rfl ?_
    refine pm_bipush (v := 32) C dX16_towards_327 (by decide) ?_
    refine pm_icmp_ne (tgt := 341) C dX16_towards_329 (by decide) (fun c61 => ?_) (fun c61 => ?_)
    · have hf := pm_ie hf c61
      refine pm_lload C dX16_towards_341 rfl ?_
      cases hf
      exact pm_lret C X dX16_towards_343 rfl (Nat.le_refl _) (Nat.le_refl _) q
    · have hf := pm_it hf c61
      refine pm_lload C dX16_towards_332 rfl ?_
      refine pm_ldc2 C dX16_towards_334 cnX16_513 ?_
      refine pm_land C dX16_towards_337 ?_
      refine pm_goto (tgt := 343) C dX16_towards_338 (by decide) ?_
      cases hf
      exact pm_lret C X dX16_towards_343 rfl (Nat.le_refl _) (Nat.le_refl _) q
  · have hf := pm_ie hf c60
    refine pm_aload_n C dX16_towards_283 rfl rfl ?_
    obtain ⟨k62, hf⟩ := pm_if hf
    obtain ⟨v63, e64, hf⟩ := pm_bd hf
    refine pm_getR C dX16_towards_284 flX16_61 rfl k62 e64 ?_
    obtain ⟨k65, hf⟩ := pm_if hf
    refine pm_getI C dX16_towards_287 flX16_921 rfl k65 rfl ?_
    refine pm_if_eq (tgt := 308) C dX16_towards_290 (by decide) (fun c66 => ?_) (fun c66 => ?_)
    · have hf := pm_it hf c66
      refine pm_iload C dX16_towards_308 rfl ?_
      refine pm_if_eq (tgt := 320) C dX16_towards_310 (by decide) (fun c67 => ?_) (fun c67 => ?_)
      · have hf := pm_it hf c67
        refine pm_ldc2 C dX16_towards_320 cnX16_268 ?_
        refine pm_lstore (lv' := [(14, .long (-1)), (0, .ref x0), (4, .int x4), (5, .int x5), (11, .long x11), (13, .int x13)]) C dX16_towards_323 (pm_nl X (by decide)) rfl ?_
        refine pm_iload C dX16_towards_325 rfl ?_
        refine pm_bipush (v := 32) C dX16_towards_327 (by decide) ?_
        refine pm_icmp_ne (tgt := 341) C dX16_towards_329 (by decide) (fun c68 => ?_) (fun c68 => ?_)
        · have hf := pm_ie hf c68
          refine pm_lload C dX16_towards_341 rfl ?_
          cases hf
          exact pm_lret C X dX16_towards_343 rfl (Nat.le_refl _) (Nat.le_refl _) q
        · have hf := pm_it hf c68
          refine pm_lload C dX16_towards_332 rfl ?_
          refine pm_ldc2 C dX16_towards_334 cnX16_513 ?_
          refine pm_land C dX16_towards_337 ?_
          refine pm_goto (tgt := 343) C dX16_towards_338 (by decide) ?_
          cases hf
          exact pm_lret C X dX16_towards_343 rfl (Nat.le_refl _) (Nat.le_refl _) q
      · have hf := pm_ie hf c67
        refine pm_lload C dX16_towards_313 rfl ?_
        refine pm_lconst (v := 1) C dX16_towards_315 (by decide) ?_
        refine pm_lsub C dX16_towards_316 ?_
        refine pm_goto (tgt := 323) C dX16_towards_317 (by decide) ?_
        obtain ⟨y69, e70, hf⟩ := pm_lt hf
        refine pm_topL e70 ?_
        refine pm_lstore (lv' := [(14, .long y69), (0, .ref x0), (4, .int x4), (5, .int x5), (11, .long x11), (13, .int x13)]) C dX16_towards_323 (pm_nl X (by decide)) rfl ?_
        refine pm_iload C dX16_towards_325 rfl ?_
        refine pm_bipush (v := 32) C dX16_towards_327 (by decide) ?_
        refine pm_icmp_ne (tgt := 341) C dX16_towards_329 (by decide) (fun c71 => ?_) (fun c71 => ?_)
        · have hf := pm_ie hf c71
          refine pm_lload C dX16_towards_341 rfl ?_
          cases hf
          exact pm_lret C X dX16_towards_343 rfl (Nat.le_refl _) (Nat.le_refl _) q
        · have hf := pm_it hf c71
          refine pm_lload C dX16_towards_332 rfl ?_
          refine pm_ldc2 C dX16_towards_334 cnX16_513 ?_
          refine pm_land C dX16_towards_337 ?_
          refine pm_goto (tgt := 343) C dX16_towards_338 (by decide) ?_
          cases hf
          exact pm_lret C X dX16_towards_343 rfl (Nat.le_refl _) (Nat.le_refl _) q
    · have hf := pm_ie hf c66
      refine pm_iload C dX16_towards_293 rfl ?_
      refine pm_if_eq (tgt := 304) C dX16_towards_295 (by decide) (fun c72 => ?_) (fun c72 => ?_)
      · have hf := pm_it hf c72
        refine pm_lconst (v := 0) C dX16_towards_304 (by decide) ?_
        refine pm_goto (tgt := 323) C dX16_towards_305 (by decide) ?_
        refine pm_lstore (lv' := [(14, .long 0), (0, .ref x0), (4, .int x4), (5, .int x5), (11, .long x11), (13, .int x13)]) C dX16_towards_323 (pm_nl X (by decide)) rfl ?_
        refine pm_iload C dX16_towards_325 rfl ?_
        refine pm_bipush (v := 32) C dX16_towards_327 (by decide) ?_
        refine pm_icmp_ne (tgt := 341) C dX16_towards_329 (by decide) (fun c73 => ?_) (fun c73 => ?_)
        · have hf := pm_ie hf c73
          refine pm_lload C dX16_towards_341 rfl ?_
          cases hf
          exact pm_lret C X dX16_towards_343 rfl (Nat.le_refl _) (Nat.le_refl _) q
        · have hf := pm_it hf c73
          refine pm_lload C dX16_towards_332 rfl ?_
          refine pm_ldc2 C dX16_towards_334 cnX16_513 ?_
          refine pm_land C dX16_towards_337 ?_
          refine pm_goto (tgt := 343) C dX16_towards_338 (by decide) ?_
          cases hf
          exact pm_lret C X dX16_towards_343 rfl (Nat.le_refl _) (Nat.le_refl _) q
      · have hf := pm_ie hf c72
        refine pm_lload C dX16_towards_298 rfl ?_
        refine pm_lneg C dX16_towards_300 ?_
        refine pm_goto (tgt := 323) C dX16_towards_301 (by decide) ?_
        obtain ⟨y74, e75, hf⟩ := pm_lt hf
        refine pm_topL e75 ?_
        refine pm_lstore (lv' := [(14, .long y74), (0, .ref x0), (4, .int x4), (5, .int x5), (11, .long x11), (13, .int x13)]) C dX16_towards_323 (pm_nl X (by decide)) rfl ?_
        refine pm_iload C dX16_towards_325 rfl ?_
        refine pm_bipush (v := 32) C dX16_towards_327 (by decide) ?_
        refine pm_icmp_ne (tgt := 341) C dX16_towards_329 (by decide) (fun c76 => ?_) (fun c76 => ?_)
        · have hf := pm_ie hf c76
          refine pm_lload C dX16_towards_341 rfl ?_
          cases hf
          exact pm_lret C X dX16_towards_343 rfl (Nat.le_refl _) (Nat.le_refl _) q
        · have hf := pm_it hf c76
          refine pm_lload C dX16_towards_332 rfl ?_
          refine pm_ldc2 C dX16_towards_334 cnX16_513 ?_
          refine pm_land C dX16_towards_337 ?_
          refine pm_goto (tgt := 343) C dX16_towards_338 (by decide) ?_
          cases hf
          exact pm_lret C X dX16_towards_343 rfl (Nat.le_refl _) (Nat.le_refl _) q
set_option maxHeartbeats 4000000 in
set_option maxRecDepth 100000 in
theorem bX16_towards_258 {g : pm_Gm} {l : Launch} {G : pm_Gl} {Qr : Option Value → pm_H → Prop} (C : pm_C g cX16_towards RX16) (X : pm_X g l G mX16_towards 0 0 Qr) {h : pm_H} {x0 : Nat} {x4 : Int32} {x5 : Int32} {x9 : Int64} {x11 : Int64} {x13 : Int32} {r : (Int64 × pm_H)} (hf : fX16_towards_b258 h x0 x4 x5 x9 x11 x13 = some r) (q : Qr (some (.long r.1)) r.2) : pm_G g 258 [(0, .ref x0), (4, .int x4), (5, .int x5), (9, .long x9), (11, .long x11), (13, .int x13)] [] h 0 0 := by
  unfold fX16_towards_b258 at hf
  refine pm_aload_n C dX16_towards_258 rfl rfl ?_
  obtain ⟨k55, hf⟩ := pm_if hf
  obtain ⟨v56, e57, hf⟩ := pm_bd hf
  refine pm_getR C dX16_towards_259 flX16_61 rfl k55 e57 ?_
  obtain ⟨k58, hf⟩ := pm_if hf
  refine pm_getI C dX16_towards_262 flX16_921 rfl k58 rfl ?_
  refine pm_if_eq (tgt := 274) C dX16_towards_265 (by decide) (fun c59 => ?_) (fun c59 => ?_)
  · have hf := pm_it hf c59
    refine pm_lload C dX16_towards_274 rfl ?_
    exact pm_sub [0, 1, 2, 4, 5] rfl (bX16_towards_276 C X hf q)
  · have hf := pm_ie hf c59
    refine pm_lload C dX16_towards_268 rfl ?_
    refine pm_lneg C dX16_towards_270 ?_
    refine pm_goto (tgt := 276) C dX16_towards_271 (by decide) ?_
    exact pm_sub [0, 1, 2, 4, 5] rfl (bX16_towards_276 C X hf q)
set_option maxHeartbeats 4000000 in
set_option maxRecDepth 100000 in
theorem bX16_towards_241 {g : pm_Gm} {l : Launch} {G : pm_Gl} {Qr : Option Value → pm_H → Prop} (C : pm_C g cX16_towards RX16) (X : pm_X g l G mX16_towards 0 0 Qr) {h : pm_H} {x0 : Nat} {x4 : Int32} {x5 : Int32} {x6 : Int32} {x9 : Int64} {x11 : Int64} {s0 : Int32} {r : (Int64 × pm_H)} (hf : fX16_towards_b241 h x0 x4 x5 x6 x9 x11 s0 = some r) (q : Qr (some (.long r.1)) r.2) : pm_G g 241 [(0, .ref x0), (4, .int x4), (5, .int x5), (6, .int x6), (9, .long x9), (11, .long x11)] [.int s0] h 0 0 := by
  unfold fX16_towards_b241 at hf
  refine pm_istore (lv' := [(13, .int s0), (0, .ref x0), (4, .int x4), (5, .int x5), (6, .int x6), (9, .long x9), (11, .long x11)]) C dX16_towards_241 (pm_nl X (by decide)) rfl ?_
  refine pm_iload C dX16_towards_243 rfl ?_
  refine pm_if_eq (tgt := 258) C dX16_towards_245 (by decide) (fun c50 => ?_) (fun c50 => ?_)
  · have hf := pm_it hf c50
    exact pm_sub [1, 2, 3, 5, 6, 0] rfl (bX16_towards_258 C X hf q)
  · have hf := pm_ie hf c50
    refine pm_iload C dX16_towards_248 rfl ?_
    refine pm_if_ne (tgt := 258) C dX16_towards_250 (by decide) (fun c51 => ?_) (fun c51 => ?_)
    · have hf := pm_ie hf c51
      exact pm_sub [1, 2, 3, 5, 6, 0] rfl (bX16_towards_258 C X hf q)
    · have hf := pm_it hf c51
      refine pm_aload_n C dX16_towards_253 rfl rfl ?_
      refine pm_iconst (v := 2) C dX16_towards_254 (by decide) ?_
      obtain ⟨k52, hf⟩ := pm_if hf
      obtain ⟨v53, e54, hf⟩ := pm_bd hf
      refine pm_callV (as := [.int 2]) (st := []) C X dX16_towards_255 lnX16_847 myX16_traps viX16_traps ⟨by decide, by decide⟩ rfl rfl k52 (Nat.le_of_ble_eq_true rfl) (Nat.le_refl _) (Nat.le_refl _) (ctX16_traps e54 ?_)
      show pm_G g 258 [(13, .int s0), (0, .ref x0), (4, .int x4), (5, .int x5), (6, .int x6), (9, .long x9), (11, .long x11)] [] v53 0 0
      exact pm_sub [1, 2, 3, 5, 6, 0] rfl (bX16_towards_258 C X hf q)
set_option maxHeartbeats 4000000 in
set_option maxRecDepth 100000 in
theorem bX16_towards_240 {g : pm_Gm} {l : Launch} {G : pm_Gl} {Qr : Option Value → pm_H → Prop} (C : pm_C g cX16_towards RX16) (X : pm_X g l G mX16_towards 0 0 Qr) {h : pm_H} {x0 : Nat} {x4 : Int32} {x5 : Int32} {x6 : Int32} {x9 : Int64} {x11 : Int64} {r : (Int64 × pm_H)} (hf : fX16_towards_b240 h x0 x4 x5 x6 x9 x11 = some r) (q : Qr (some (.long r.1)) r.2) : pm_G g 240 [(0, .ref x0), (4, .int x4), (5, .int x5), (6, .int x6), (9, .long x9), (11, .long x11)] [] h 0 0 := by
  unfold fX16_towards_b240 at hf
  refine pm_iconst (v := 0) C dX16_towards_240 (by decide) ?_
  exact pm_sub [0, 1, 2, 3, 4, 5] rfl (bX16_towards_241 C X hf q)
set_option maxHeartbeats 4000000 in
set_option maxRecDepth 100000 in
theorem bX16_towards_236 {g : pm_Gm} {l : Launch} {G : pm_Gl} {Qr : Option Value → pm_H → Prop} (C : pm_C g cX16_towards RX16) (X : pm_X g l G mX16_towards 0 0 Qr) {h : pm_H} {x0 : Nat} {x4 : Int32} {x5 : Int32} {x6 : Int32} {x9 : Int64} {x11 : Int64} {r : (Int64 × pm_H)} (hf : fX16_towards_b236 h x0 x4 x5 x6 x9 x11 = some r) (q : Qr (some (.long r.1)) r.2) : pm_G g 236 [(0, .ref x0), (4, .int x4), (5, .int x5), (6, .int x6), (9, .long x9), (11, .long x11)] [] h 0 0 := by
  unfold fX16_towards_b236 at hf
  refine pm_iconst (v := 1) C dX16_towards_236 (by decide) ?_
  refine pm_goto (tgt := 241) C dX16_towards_237 (by decide) ?_
  exact pm_sub [0, 1, 2, 3, 4, 5] rfl (bX16_towards_241 C X hf q)
set_option maxHeartbeats 4000000 in
set_option maxRecDepth 100000 in
theorem bX16_towards_148 {g : pm_Gm} {l : Launch} {G : pm_Gl} {Qr : Option Value → pm_H → Prop} (C : pm_C g cX16_towards RX16) (X : pm_X g l G mX16_towards 0 0 Qr) {h : pm_H} {x0 : Nat} {x4 : Int32} {x5 : Int32} {x6 : Int32} {x8 : Int32} {s0 : Int64} {r : (Int64 × pm_H)} (hf : fX16_towards_b148 h x0 x4 x5 x6 x8 s0 = some r) (q : Qr (some (.long r.1)) r.2) : pm_G g 148 [(0, .ref x0), (4, .int x4), (5, .int x5), (6, .int x6), (8, .int x8)] [.long s0] h 0 0 := by
  unfold fX16_towards_b148 at hf
  refine pm_lstore (lv' := [(9, .long s0), (0, .ref x0), (4, .int x4), (5, .int x5), (6, .int x6), (8, .int x8)]) C dX16_towards_148 (pm_nl X (by decide)) rfl ?_
  refine pm_lconst (v := 1) C dX16_towards_150 (by decide) ?_
  refine pm_iload C dX16_towards_151 rfl ?_
  refine pm_iconst (v := 1) C dX16_towards_153 (by decide) ?_
  refine pm_isub C dX16_towards_154 ?_
  refine pm_lshl C dX16_towards_155 ?_
  obtain ⟨y31, e32, hf⟩ := pm_lt hf
  refine pm_topL e32 ?_
  refine pm_lstore (lv' := [(11, .long y31), (9, .long s0), (0, .ref x0), (4, .int x4), (5, .int x5), (6, .int x6), (8, .int x8)]) C dX16_towards_156 (pm_nl X (by decide)) rfl ?_
  refine pm_iload C dX16_towards_158 rfl ?_
  refine pm_if_ne (tgt := 236) C dX16_towards_160 (by decide) (fun c33 => ?_) (fun c33 => ?_)
  · have hf := pm_ie hf c33
    exact pm_sub [2, 3, 4, 5, 1, 0] rfl (bX16_towards_236 C X hf q)
  · have hf := pm_it hf c33
    refine pm_aload_n C dX16_towards_163 rfl rfl ?_
    obtain ⟨k34, hf⟩ := pm_if hf
    obtain ⟨v35, e36, hf⟩ := pm_bd hf
    refine pm_getR C dX16_towards_164 flX16_61 rfl k34 e36 ?_
    obtain ⟨k37, hf⟩ := pm_if hf
    refine pm_getI C dX16_towards_167 flX16_921 rfl k37 rfl ?_
    refine pm_if_eq (tgt := 201) C dX16_towards_170 (by decide) (fun c38 => ?_) (fun c38 => ?_)
    · have hf := pm_it hf c38
      refine pm_iload C dX16_towards_201 rfl ?_
      refine pm_if_eq (tgt := 219) C dX16_towards_203 (by decide) (fun c39 => ?_) (fun c39 => ?_)
      · have hf := pm_it hf c39
        refine pm_iload C dX16_towards_219 rfl ?_
        refine pm_bipush (v := 32) C dX16_towards_221 (by decide) ?_
        refine pm_icmp_ne (tgt := 240) C dX16_towards_223 (by decide) (fun c40 => ?_) (fun c40 => ?_)
        · have hf := pm_ie hf c40
          exact pm_sub [2, 3, 4, 5, 1, 0] rfl (bX16_towards_240 C X hf q)
        · have hf := pm_it hf c40
          refine pm_lload C dX16_towards_226 rfl ?_
          refine pm_bipush (v := 32) C dX16_towards_228 (by decide) ?_
          refine pm_lushr C dX16_towards_230 ?_
          refine pm_lconst (v := 0) C dX16_towards_231 (by decide) ?_
          refine pm_lcmp C dX16_towards_232 ?_
          refine pm_if_eq (tgt := 240) C dX16_towards_233 (by decide) (fun c41 => ?_) (fun c41 => ?_)
          · have hf := pm_it hf ((pm_lg_eq _ _).mp c41)
            exact pm_sub [2, 3, 4, 5, 1, 0] rfl (bX16_towards_240 C X hf q)
          · have hf := pm_ie hf ((fun z => c41 ((pm_lg_eq _ _).mpr z)))
            exact pm_sub [2, 3, 4, 5, 1, 0] rfl (bX16_towards_236 C X hf q)
      · have hf := pm_ie hf c39
        refine pm_lload C dX16_towards_206 rfl ?_
        refine pm_lload C dX16_towards_208 rfl ?_
        obtain ⟨v42, e43, hf⟩ := pm_lt hf
        refine pm_callS (as := [.long s0, .long y31]) (st := []) C X dX16_towards_210 lnX16_827 myX16_isBelow stX16_isBelow ⟨by decide, by decide⟩ rfl rfl (Nat.le_of_ble_eq_true rfl) (Nat.le_refl _) (Nat.le_refl _) (ctX16_isBelow e43 ?_)
        show pm_G g 213 [(11, .long y31), (9, .long s0), (0, .ref x0), (4, .int x4), (5, .int x5), (6, .int x6), (8, .int x8)] [.int v42] h 0 0
        refine pm_if_ne (tgt := 240) C dX16_towards_213 (by decide) (fun c44 => ?_) (fun c44 => ?_)
        · have hf := pm_ie hf c44
          exact pm_sub [2, 3, 4, 5, 1, 0] rfl (bX16_towards_240 C X hf q)
        · have hf := pm_it hf c44
          refine pm_goto (tgt := 236) C dX16_towards_216 (by decide) ?_
          exact pm_sub [2, 3, 4, 5, 1, 0] rfl (bX16_towards_236 C X hf q)
    · have hf := pm_ie hf c38
      refine pm_iload C dX16_towards_173 rfl ?_
      refine pm_if_eq (tgt := 191) C dX16_towards_175 (by decide) (fun c45 => ?_) (fun c45 => ?_)
      · have hf := pm_it hf c45
        refine pm_lload C dX16_towards_191 rfl ?_
        refine pm_lconst (v := 0) C dX16_towards_193 (by decide) ?_
        refine pm_lcmp C dX16_towards_194 ?_
        refine pm_if_eq (tgt := 240) C dX16_towards_195 (by decide) (fun c46 => ?_) (fun c46 => ?_)
        · have hf := pm_it hf ((pm_lg_eq _ _).mp c46)
          exact pm_sub [2, 3, 4, 5, 1, 0] rfl (bX16_towards_240 C X hf q)
        · have hf := pm_ie hf ((fun z => c46 ((pm_lg_eq _ _).mpr z)))
          refine pm_goto (tgt := 236) C dX16_towards_198 (by decide) ?_
          exact pm_sub [2, 3, 4, 5, 1, 0] rfl (bX16_towards_236 C X hf q)
      · have hf := pm_ie hf c45
        refine pm_lload C dX16_towards_178 rfl ?_
        refine pm_lload C dX16_towards_180 rfl ?_
        obtain ⟨v47, e48, hf⟩ := pm_lt hf
        refine pm_callS (as := [.long y31, .long s0]) (st := []) C X dX16_towards_182 lnX16_827 myX16_isBelow stX16_isBelow ⟨by decide, by decide⟩ rfl rfl (Nat.le_of_ble_eq_true rfl) (Nat.le_refl _) (Nat.le_refl _) (ctX16_isBelow e48 ?_)
        show pm_G g 185 [(11, .long y31), (9, .long s0), (0, .ref x0), (4, .int x4), (5, .int x5), (6, .int x6), (8, .int x8)] [.int v47] h 0 0
        refine pm_if_eq (tgt := 240) C dX16_towards_185 (by decide) (fun c49 => ?_) (fun c49 => ?_)
        · have hf := pm_it hf c49
          exact pm_sub [2, 3, 4, 5, 1, 0] rfl (bX16_towards_240 C X hf q)
        · have hf := pm_ie hf c49
          refine pm_goto (tgt := 236) C dX16_towards_188 (by decide) ?_
          exact pm_sub [2, 3, 4, 5, 1, 0] rfl (bX16_towards_236 C X hf q)
set_option maxHeartbeats 4000000 in
set_option maxRecDepth 100000 in
theorem bX16_towards_115 {g : pm_Gm} {l : Launch} {G : pm_Gl} {Qr : Option Value → pm_H → Prop} (C : pm_C g cX16_towards RX16) (X : pm_X g l G mX16_towards 0 0 Qr) {h : pm_H} {x0 : Nat} {x4 : Int32} {x5 : Int32} {x6 : Int32} {x8 : Int32} {r : (Int64 × pm_H)} (hf : fX16_towards_b115 h x0 x4 x5 x6 x8 = some r) (q : Qr (some (.long r.1)) r.2) : pm_G g 115 [(0, .ref x0), (4, .int x4), (5, .int x5), (6, .int x6), (8, .int x8)] [] h 0 0 := by
  unfold fX16_towards_b115 at hf
  refine pm_lconst (v := 0) C dX16_towards_115 (by decide) ?_
  refine pm_goto (tgt := 148) C dX16_towards_116 (by decide) ?_
  exact pm_sub [0, 1, 2, 3, 4] rfl (bX16_towards_148 C X hf q)
set_option maxHeartbeats 4000000 in
set_option maxRecDepth 100000 in
theorem bX16_towards_91 {g : pm_Gm} {l : Launch} {G : pm_Gl} {Qr : Option Value → pm_H → Prop} (C : pm_C g cX16_towards RX16) (X : pm_X g l G mX16_towards 0 0 Qr) {h : pm_H} {x0 : Nat} {x4 : Int32} {x5 : Int32} {x6 : Int32} {x7 : Int32} {s0 : Int32} {r : (Int64 × pm_H)} (hf : fX16_towards_b91 h x0 x4 x5 x6 x7 s0 = some r) (q : Qr (some (.long r.1)) r.2) : pm_G g 91 [(0, .ref x0), (4, .int x4), (5, .int x5), (6, .int x6), (7, .int x7)] [.int s0] h 0 0 := by
  unfold fX16_towards_b91 at hf
  refine pm_istore (lv' := [(8, .int s0), (0, .ref x0), (4, .int x4), (5, .int x5), (6, .int x6), (7, .int x7)]) C dX16_towards_91 (pm_nl X (by decide)) rfl ?_
  refine pm_aload_n C dX16_towards_93 rfl rfl ?_
  obtain ⟨k23, hf⟩ := pm_if hf
  obtain ⟨v24, e25, hf⟩ := pm_bd hf
  refine pm_getR C dX16_towards_94 flX16_61 rfl k23 e25 ?_
  obtain ⟨k26, hf⟩ := pm_if hf
  refine pm_getI C dX16_towards_97 flX16_871 rfl k26 rfl ?_
  refine pm_if_ne (tgt := 115) C dX16_towards_100 (by decide) (fun c27 => ?_) (fun c27 => ?_)
  · have hf := pm_ie hf c27
    exact pm_sub [1, 2, 3, 4, 0] rfl (bX16_towards_115 C X hf q)
  · have hf := pm_it hf c27
    refine pm_iload C dX16_towards_103 rfl ?_
    refine pm_if_ne (tgt := 115) C dX16_towards_105 (by decide) (fun c28 => ?_) (fun c28 => ?_)
    · have hf := pm_ie hf c28
      exact pm_sub [1, 2, 3, 4, 0] rfl (bX16_towards_115 C X hf q)
    · have hf := pm_it hf c28
      refine pm_iload C dX16_towards_108 rfl ?_
      refine pm_bipush (v := (-63)) C dX16_towards_110 (by decide) ?_
      refine pm_icmp_ge (tgt := 119) C dX16_towards_112 (by decide) (fun c29 => ?_) (fun c29 => ?_)
      · have hf := pm_it hf c29
        refine pm_iload C dX16_towards_119 rfl ?_
        refine pm_if_ge (tgt := 138) C dX16_towards_121 (by decide) (fun c30 => ?_) (fun c30 => ?_)
        · have hf := pm_it hf c30
          refine pm_aload_n C dX16_towards_138 rfl rfl ?_
          refine pm_getR C dX16_towards_139 flX16_61 rfl k23 e25 ?_
          refine pm_getL C dX16_towards_142 flX16_916 rfl k26 rfl ?_
          refine pm_iload C dX16_towards_145 rfl ?_
          refine pm_lshl C dX16_towards_147 ?_
          exact pm_sub [1, 2, 3, 4, 0] rfl (bX16_towards_148 C X hf q)
        · have hf := pm_ie hf c30
          refine pm_aload_n C dX16_towards_124 rfl rfl ?_
          refine pm_getR C dX16_towards_125 flX16_61 rfl k23 e25 ?_
          refine pm_getL C dX16_towards_128 flX16_916 rfl k26 rfl ?_
          refine pm_iload C dX16_towards_131 rfl ?_
          refine pm_ineg C dX16_towards_133 ?_
          refine pm_lushr C dX16_towards_134 ?_
          refine pm_goto (tgt := 148) C dX16_towards_135 (by decide) ?_
          exact pm_sub [1, 2, 3, 4, 0] rfl (bX16_towards_148 C X hf q)
      · have hf := pm_ie hf c29
        exact pm_sub [1, 2, 3, 4, 0] rfl (bX16_towards_115 C X hf q)
set_option maxHeartbeats 4000000 in
set_option maxRecDepth 100000 in
theorem bX16_towards_90 {g : pm_Gm} {l : Launch} {G : pm_Gl} {Qr : Option Value → pm_H → Prop} (C : pm_C g cX16_towards RX16) (X : pm_X g l G mX16_towards 0 0 Qr) {h : pm_H} {x0 : Nat} {x4 : Int32} {x5 : Int32} {x6 : Int32} {x7 : Int32} {r : (Int64 × pm_H)} (hf : fX16_towards_b90 h x0 x4 x5 x6 x7 = some r) (q : Qr (some (.long r.1)) r.2) : pm_G g 90 [(0, .ref x0), (4, .int x4), (5, .int x5), (6, .int x6), (7, .int x7)] [] h 0 0 := by
  unfold fX16_towards_b90 at hf
  refine pm_iconst (v := 0) C dX16_towards_90 (by decide) ?_
  exact pm_sub [0, 1, 2, 3, 4] rfl (bX16_towards_91 C X hf q)
set_option maxHeartbeats 4000000 in
set_option maxRecDepth 100000 in
theorem bX16_towards_86 {g : pm_Gm} {l : Launch} {G : pm_Gl} {Qr : Option Value → pm_H → Prop} (C : pm_C g cX16_towards RX16) (X : pm_X g l G mX16_towards 0 0 Qr) {h : pm_H} {x0 : Nat} {x4 : Int32} {x5 : Int32} {x6 : Int32} {x7 : Int32} {r : (Int64 × pm_H)} (hf : fX16_towards_b86 h x0 x4 x5 x6 x7 = some r) (q : Qr (some (.long r.1)) r.2) : pm_G g 86 [(0, .ref x0), (4, .int x4), (5, .int x5), (6, .int x6), (7, .int x7)] [] h 0 0 := by
  unfold fX16_towards_b86 at hf
  refine pm_iconst (v := 1) C dX16_towards_86 (by decide) ?_
  refine pm_goto (tgt := 91) C dX16_towards_87 (by decide) ?_
  exact pm_sub [0, 1, 2, 3, 4] rfl (bX16_towards_91 C X hf q)
set_option maxHeartbeats 4000000 in
set_option maxRecDepth 100000 in
theorem ctX16_towards {l : Launch} {G : pm_Gl} {h : pm_H} {a0 : Nat} {p1 : Int32} {p2 : Int64} {p3 : Int32} {p4 : Int32} {p5 : Int32} {r : (Int64 × pm_H)} {Qr : Option Value → pm_H → Prop} (hf : fX16_towards h a0 p1 p2 p3 p4 p5 = some r) (q : Qr (some (.long r.1)) r.2) : pm_Ct l G mX16_towards [.ref a0, .int p1, .long p2, .int p3, .int p4, .int p5] h 0 0 Qr := by
  refine pm_body pnX16 (Nat.le_of_ble_eq_true rfl) (fun g C X => ?_)
  have C : pm_C g cX16_towards RX16 := C
  show pm_G g 0 [(0, .ref a0), (1, .int p1), (2, .long p2), (4, .int p3), (5, .int p4), (6, .int p5)] [] h 0 0
  unfold fX16_towards at hf
  refine pm_aload_n C dX16_towards_0 rfl rfl ?_
  obtain ⟨k1, hf⟩ := pm_if hf
  obtain ⟨v2, e3, hf⟩ := pm_bd hf
  refine pm_getR C dX16_towards_1 flX16_61 rfl k1 e3 ?_
  refine pm_iload_n C dX16_towards_4 rfl rfl ?_
  refine pm_lload_n C dX16_towards_5 rfl rfl ?_
  obtain ⟨k4, hf⟩ := pm_if hf
  obtain ⟨v5, e6, hf⟩ := pm_bd hf
  refine pm_callV (as := [.int p1, .long p2]) (st := []) C X dX16_towards_6 lnX16_868 myX15_read viX15_read ⟨by decide, by decide⟩ rfl rfl k4 (Nat.le_of_ble_eq_true rfl) (Nat.le_refl _) (Nat.le_refl _) (ctX15_read e6 ?_)
  show pm_G g 9 [(0, .ref a0), (1, .int p1), (2, .long p2), (4, .int p3), (5, .int p4), (6, .int p5)] [] v5 0 0
  refine pm_aload_n C dX16_towards_9 rfl rfl ?_
  obtain ⟨k7, hf⟩ := pm_if hf
  obtain ⟨v8, e9, hf⟩ := pm_bd hf
  refine pm_getR C dX16_towards_10 flX16_61 rfl k7 e9 ?_
  obtain ⟨k10, hf⟩ := pm_if hf
  refine pm_getI C dX16_towards_13 flX16_871 rfl k10 rfl ?_
  refine pm_iconst (v := 3) C dX16_towards_16 (by decide) ?_
  refine pm_icmp_ne (tgt := 32) C dX16_towards_17 (by decide) (fun c11 => ?_) (fun c11 => ?_)
  · have hf := pm_ie hf c11
    refine pm_aload_n C dX16_towards_32 rfl rfl ?_
    refine pm_getR C dX16_towards_33 flX16_61 rfl k7 e9 ?_
    refine pm_getI C dX16_towards_36 flX16_913 rfl k10 rfl ?_
    obtain ⟨y12, e13, hf⟩ := pm_lt hf
    refine pm_topI e13 ?_
    refine pm_istore (lv' := [(7, .int y12), (0, .ref a0), (1, .int p1), (2, .long p2), (4, .int p3), (5, .int p4), (6, .int p5)]) C dX16_towards_39 (pm_nl X (by decide)) rfl ?_
    refine pm_aload_n C dX16_towards_41 rfl rfl ?_
    refine pm_getR C dX16_towards_42 flX16_61 rfl k7 e9 ?_
    refine pm_getI C dX16_towards_45 flX16_871 rfl k10 rfl ?_
    refine pm_iconst (v := 2) C dX16_towards_48 (by decide) ?_
    refine pm_icmp_eq (tgt := 86) C dX16_towards_49 (by decide) (fun c14 => ?_) (fun c14 => ?_)
    · have hf := pm_it hf c14
      exact pm_sub [1, 4, 5, 6, 0] rfl (bX16_towards_86 C X hf q)
    · have hf := pm_ie hf c14
      refine pm_aload_n C dX16_towards_52 rfl rfl ?_
      refine pm_getR C dX16_towards_53 flX16_61 rfl k7 e9 ?_
      refine pm_getI C dX16_towards_56 flX16_871 rfl k10 rfl ?_
      refine pm_if_ne (tgt := 90) C dX16_towards_59 (by decide) (fun c15 => ?_) (fun c15 => ?_)
      · have hf := pm_ie hf c15
        exact pm_sub [1, 4, 5, 6, 0] rfl (bX16_towards_90 C X hf q)
      · have hf := pm_it hf c15
        refine pm_iload C dX16_towards_62 rfl ?_
        refine pm_if_le (tgt := 90) C dX16_towards_64 (by decide) (fun c16 => ?_) (fun c16 => ?_)
        · have hf := pm_it hf c16
          exact pm_sub [1, 4, 5, 6, 0] rfl (bX16_towards_90 C X hf q)
        · have hf := pm_ie hf c16
          refine pm_lconst (v := 0) C dX16_towards_67 (by decide) ?_
          refine pm_aload_n C dX16_towards_68 rfl rfl ?_
          refine pm_getR C dX16_towards_69 flX16_61 rfl k7 e9 ?_
          refine pm_getL C dX16_towards_72 flX16_916 rfl k10 rfl ?_
          obtain ⟨v17, e18, hf⟩ := pm_bd hf
          refine pm_callS (as := [.long 0, .long (pm_L v5 v8 2)]) (st := []) C X dX16_towards_75 lnX16_878 myX16_length stX16_length ⟨by decide, by decide⟩ rfl rfl (Nat.le_of_ble_eq_true rfl) (Nat.le_refl _) (Nat.le_refl _) (ctX16_length e18 ?_)
          show pm_G g 78 [(7, .int y12), (0, .ref a0), (1, .int p1), (2, .long p2), (4, .int p3), (5, .int p4), (6, .int p5)] [.int v17] v5 0 0
          refine pm_iload C dX16_towards_78 rfl ?_
          refine pm_iadd C dX16_towards_80 ?_
          refine pm_bipush (v := 64) C dX16_towards_81 (by decide) ?_
          refine pm_icmp_le (tgt := 90) C dX16_towards_83 (by decide) (fun c19 => ?_) (fun c19 => ?_)
          · have hf := pm_it hf c19
            exact pm_sub [1, 4, 5, 6, 0] rfl (bX16_towards_90 C X hf q)
          · have hf := pm_ie hf c19
            exact pm_sub [1, 4, 5, 6, 0] rfl (bX16_towards_86 C X hf q)
  · have hf := pm_it hf c11
    refine pm_iload C dX16_towards_20 rfl ?_
    refine pm_if_ne (tgt := 30) C dX16_towards_22 (by decide) (fun c20 => ?_) (fun c20 => ?_)
    · have hf := pm_ie hf c20
      refine pm_lconst (v := 0) C dX16_towards_30 (by decide) ?_
      cases hf
      exact pm_lret C X dX16_towards_31 rfl (Nat.le_refl _) (Nat.le_refl _) q
    · have hf := pm_it hf c20
      refine pm_aload_n C dX16_towards_25 rfl rfl ?_
      refine pm_iconst (v := 3) C dX16_towards_26 (by decide) ?_
      obtain ⟨v21, e22, hf⟩ := pm_bd hf
      refine pm_callV (as := [.int 3]) (st := []) C X dX16_towards_27 lnX16_847 myX16_traps viX16_traps ⟨by decide, by decide⟩ rfl rfl k7 (Nat.le_of_ble_eq_true rfl) (Nat.le_refl _) (Nat.le_refl _) (ctX16_traps e22 ?_)
      show pm_G g 30 [(0, .ref a0), (1, .int p1), (2, .long p2), (4, .int p3), (5, .int p4), (6, .int p5)] [] v21 0 0
      refine pm_lconst (v := 0) C dX16_towards_30 (by decide) ?_
      cases hf
      exact pm_lret C X dX16_towards_31 rfl (Nat.le_refl _) (Nat.le_refl _) q
