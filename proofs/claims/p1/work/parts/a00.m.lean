theorem dX14_init_0 : decode cX14_init 0 = .ok (.aload_n 0, 1) := by decide +kernel
theorem dX14_init_1 : decode cX14_init 1 = .ok (.invokespecial 3, 3) := by decide +kernel
theorem dX14_init_4 : decode cX14_init 4 = .ok (.aload_n 0, 1) := by decide +kernel
theorem dX14_init_5 : decode cX14_init 5 = .ok (.bipush 13, 2) := by decide +kernel
theorem dX14_init_7 : decode cX14_init 7 = .ok (.newarray .int, 2) := by decide +kernel
theorem dX14_init_9 : decode cX14_init 9 = .ok (.putfield 9, 3) := by decide +kernel
theorem dX14_init_12 : decode cX14_init 12 = .ok (.aload_n 0, 1) := by decide +kernel
theorem dX14_init_13 : decode cX14_init 13 = .ok (.iconst (-1), 1) := by decide +kernel
theorem dX14_init_14 : decode cX14_init 14 = .ok (.putfield 15, 3) := by decide +kernel
theorem dX14_init_17 : decode cX14_init 17 = .ok (.aload_n 0, 1) := by decide +kernel
theorem dX14_init_18 : decode cX14_init 18 = .ok (.bipush 64, 2) := by decide +kernel
theorem dX14_init_20 : decode cX14_init 20 = .ok (.newarray .int, 2) := by decide +kernel
theorem dX14_init_22 : decode cX14_init 22 = .ok (.putfield 19, 3) := by decide +kernel
theorem dX14_init_25 : decode cX14_init 25 = .ok (.aload_n 0, 1) := by decide +kernel
theorem dX14_init_26 : decode cX14_init 26 = .ok (.bipush 64, 2) := by decide +kernel
theorem dX14_init_28 : decode cX14_init 28 = .ok (.newarray .int, 2) := by decide +kernel
theorem dX14_init_30 : decode cX14_init 30 = .ok (.putfield 22, 3) := by decide +kernel
theorem dX14_init_33 : decode cX14_init 33 = .ok (.aload_n 0, 1) := by decide +kernel
theorem dX14_init_34 : decode cX14_init 34 = .ok (.sipush 2048, 3) := by decide +kernel
theorem dX14_init_37 : decode cX14_init 37 = .ok (.newarray .int, 2) := by decide +kernel
theorem dX14_init_39 : decode cX14_init 39 = .ok (.putfield 25, 3) := by decide +kernel
theorem dX14_init_42 : decode cX14_init 42 = .ok (.aload_n 0, 1) := by decide +kernel
theorem dX14_init_43 : decode cX14_init 43 = .ok (.bipush 64, 2) := by decide +kernel
theorem dX14_init_45 : decode cX14_init 45 = .ok (.newarray .int, 2) := by decide +kernel
theorem dX14_init_47 : decode cX14_init 47 = .ok (.putfield 28, 3) := by decide +kernel
theorem dX14_init_50 : decode cX14_init 50 = .ok (.aload_n 0, 1) := by decide +kernel
theorem dX14_init_51 : decode cX14_init 51 = .ok (.bipush 64, 2) := by decide +kernel
theorem dX14_init_53 : decode cX14_init 53 = .ok (.newarray .long, 2) := by decide +kernel
theorem dX14_init_55 : decode cX14_init 55 = .ok (.putfield 31, 3) := by decide +kernel
theorem dX14_init_58 : decode cX14_init 58 = .ok (.aload_n 0, 1) := by decide +kernel
theorem dX14_init_59 : decode cX14_init 59 = .ok (.bipush 64, 2) := by decide +kernel
theorem dX14_init_61 : decode cX14_init 61 = .ok (.newarray .long, 2) := by decide +kernel
theorem dX14_init_63 : decode cX14_init 63 = .ok (.putfield 35, 3) := by decide +kernel
theorem dX14_init_66 : decode cX14_init 66 = .ok (.aload_n 0, 1) := by decide +kernel
theorem dX14_init_67 : decode cX14_init 67 = .ok (.bipush 64, 2) := by decide +kernel
theorem dX14_init_69 : decode cX14_init 69 = .ok (.newarray .long, 2) := by decide +kernel
theorem dX14_init_71 : decode cX14_init 71 = .ok (.putfield 38, 3) := by decide +kernel
theorem dX14_init_74 : decode cX14_init 74 = .ok (.aload_n 0, 1) := by decide +kernel
theorem dX14_init_75 : decode cX14_init 75 = .ok (.bipush 64, 2) := by decide +kernel
theorem dX14_init_77 : decode cX14_init 77 = .ok (.newarray .boolean, 2) := by decide +kernel
theorem dX14_init_79 : decode cX14_init 79 = .ok (.putfield 41, 3) := by decide +kernel
theorem dX14_init_82 : decode cX14_init 82 = .ok (.aload_n 0, 1) := by decide +kernel
theorem dX14_init_83 : decode cX14_init 83 = .ok (.bipush 64, 2) := by decide +kernel
theorem dX14_init_85 : decode cX14_init 85 = .ok (.newarray .long, 2) := by decide +kernel
theorem dX14_init_87 : decode cX14_init 87 = .ok (.putfield 45, 3) := by decide +kernel
theorem dX14_init_90 : decode cX14_init 90 = .ok (.aload_n 0, 1) := by decide +kernel
theorem dX14_init_91 : decode cX14_init 91 = .ok (.bipush 64, 2) := by decide +kernel
theorem dX14_init_93 : decode cX14_init 93 = .ok (.newarray .int, 2) := by decide +kernel
theorem dX14_init_95 : decode cX14_init 95 = .ok (.putfield 48, 3) := by decide +kernel
theorem dX14_init_98 : decode cX14_init 98 = .ok (.aload_n 0, 1) := by decide +kernel
theorem dX14_init_99 : decode cX14_init 99 = .ok (.bipush 64, 2) := by decide +kernel
theorem dX14_init_101 : decode cX14_init 101 = .ok (.newarray .long, 2) := by decide +kernel
theorem dX14_init_103 : decode cX14_init 103 = .ok (.putfield 51, 3) := by decide +kernel
theorem dX14_init_106 : decode cX14_init 106 = .ok (.aload_n 0, 1) := by decide +kernel
theorem dX14_init_107 : decode cX14_init 107 = .ok (.bipush 64, 2) := by decide +kernel
theorem dX14_init_109 : decode cX14_init 109 = .ok (.newarray .long, 2) := by decide +kernel
theorem dX14_init_111 : decode cX14_init 111 = .ok (.putfield 54, 3) := by decide +kernel
theorem dX14_init_114 : decode cX14_init 114 = .ok (.aload_n 0, 1) := by decide +kernel
theorem dX14_init_115 : decode cX14_init 115 = .ok (.bipush 64, 2) := by decide +kernel
theorem dX14_init_117 : decode cX14_init 117 = .ok (.newarray .long, 2) := by decide +kernel
theorem dX14_init_119 : decode cX14_init 119 = .ok (.putfield 57, 3) := by decide +kernel
theorem dX14_init_122 : decode cX14_init 122 = .ok (.aload_n 0, 1) := by decide +kernel
theorem dX14_init_123 : decode cX14_init 123 = .ok (.bipush 64, 2) := by decide +kernel
theorem dX14_init_125 : decode cX14_init 125 = .ok (.newarray .long, 2) := by decide +kernel
theorem dX14_init_127 : decode cX14_init 127 = .ok (.putfield 60, 3) := by decide +kernel
theorem dX14_init_130 : decode cX14_init 130 = .ok (.aload_n 0, 1) := by decide +kernel
theorem dX14_init_131 : decode cX14_init 131 = .ok (.bipush 64, 2) := by decide +kernel
theorem dX14_init_133 : decode cX14_init 133 = .ok (.newarray .int, 2) := by decide +kernel
theorem dX14_init_135 : decode cX14_init 135 = .ok (.putfield 63, 3) := by decide +kernel
theorem dX14_init_138 : decode cX14_init 138 = .ok (.aload_n 0, 1) := by decide +kernel
theorem dX14_init_139 : decode cX14_init 139 = .ok (.bipush 64, 2) := by decide +kernel
theorem dX14_init_141 : decode cX14_init 141 = .ok (.newarray .boolean, 2) := by decide +kernel
theorem dX14_init_143 : decode cX14_init 143 = .ok (.putfield 66, 3) := by decide +kernel
theorem dX14_init_146 : decode cX14_init 146 = .ok (.aload_n 0, 1) := by decide +kernel
theorem dX14_init_147 : decode cX14_init 147 = .ok (.bipush 64, 2) := by decide +kernel
theorem dX14_init_149 : decode cX14_init 149 = .ok (.newarray .int, 2) := by decide +kernel
theorem dX14_init_151 : decode cX14_init 151 = .ok (.putfield 69, 3) := by decide +kernel
theorem dX14_init_154 : decode cX14_init 154 = .ok (.aload_n 0, 1) := by decide +kernel
theorem dX14_init_155 : decode cX14_init 155 = .ok (.bipush 64, 2) := by decide +kernel
theorem dX14_init_157 : decode cX14_init 157 = .ok (.newarray .int, 2) := by decide +kernel
theorem dX14_init_159 : decode cX14_init 159 = .ok (.putfield 72, 3) := by decide +kernel
theorem dX14_init_162 : decode cX14_init 162 = .ok (.aload_n 0, 1) := by decide +kernel
theorem dX14_init_163 : decode cX14_init 163 = .ok (.bipush 64, 2) := by decide +kernel
theorem dX14_init_165 : decode cX14_init 165 = .ok (.newarray .int, 2) := by decide +kernel
theorem dX14_init_167 : decode cX14_init 167 = .ok (.putfield 75, 3) := by decide +kernel
theorem dX14_init_170 : decode cX14_init 170 = .ok (.aload_n 0, 1) := by decide +kernel
theorem dX14_init_171 : decode cX14_init 171 = .ok (.bipush 64, 2) := by decide +kernel
theorem dX14_init_173 : decode cX14_init 173 = .ok (.newarray .int, 2) := by decide +kernel
theorem dX14_init_175 : decode cX14_init 175 = .ok (.putfield 78, 3) := by decide +kernel
theorem dX14_init_178 : decode cX14_init 178 = .ok (.aload_n 0, 1) := by decide +kernel
theorem dX14_init_179 : decode cX14_init 179 = .ok (.bipush 64, 2) := by decide +kernel
theorem dX14_init_181 : decode cX14_init 181 = .ok (.newarray .long, 2) := by decide +kernel
theorem dX14_init_183 : decode cX14_init 183 = .ok (.putfield 81, 3) := by decide +kernel
theorem dX14_init_186 : decode cX14_init 186 = .ok (.aload_n 0, 1) := by decide +kernel
theorem dX14_init_187 : decode cX14_init 187 = .ok (.ldc2_w 84, 3) := by decide +kernel
theorem dX14_init_190 : decode cX14_init 190 = .ok (.putfield 86, 3) := by decide +kernel
theorem dX14_init_193 : decode cX14_init 193 = .ok (.aload_n 0, 1) := by decide +kernel
theorem dX14_init_194 : decode cX14_init 194 = .ok (.bipush 64, 2) := by decide +kernel
theorem dX14_init_196 : decode cX14_init 196 = .ok (.newarray .int, 2) := by decide +kernel
theorem dX14_init_198 : decode cX14_init 198 = .ok (.putfield 90, 3) := by decide +kernel
theorem dX14_init_201 : decode cX14_init 201 = .ok (.aload_n 0, 1) := by decide +kernel
theorem dX14_init_202 : decode cX14_init 202 = .ok (.bipush 64, 2) := by decide +kernel
theorem dX14_init_204 : decode cX14_init 204 = .ok (.newarray .long, 2) := by decide +kernel
theorem dX14_init_206 : decode cX14_init 206 = .ok (.putfield 93, 3) := by decide +kernel
theorem dX14_init_209 : decode cX14_init 209 = .ok (.aload_n 0, 1) := by decide +kernel
theorem dX14_init_210 : decode cX14_init 210 = .ok (.bipush 64, 2) := by decide +kernel
theorem dX14_init_212 : decode cX14_init 212 = .ok (.newarray .int, 2) := by decide +kernel
theorem dX14_init_214 : decode cX14_init 214 = .ok (.putfield 96, 3) := by decide +kernel
theorem dX14_init_217 : decode cX14_init 217 = .ok (.aload_n 0, 1) := by decide +kernel
theorem dX14_init_218 : decode cX14_init 218 = .ok (.bipush 64, 2) := by decide +kernel
theorem dX14_init_220 : decode cX14_init 220 = .ok (.newarray .int, 2) := by decide +kernel
theorem dX14_init_222 : decode cX14_init 222 = .ok (.putfield 99, 3) := by decide +kernel
theorem dX14_init_225 : decode cX14_init 225 = .ok (.aload_n 0, 1) := by decide +kernel
theorem dX14_init_226 : decode cX14_init 226 = .ok (.bipush 64, 2) := by decide +kernel
theorem dX14_init_228 : decode cX14_init 228 = .ok (.newarray .boolean, 2) := by decide +kernel
theorem dX14_init_230 : decode cX14_init 230 = .ok (.putfield 102, 3) := by decide +kernel
theorem dX14_init_233 : decode cX14_init 233 = .ok (.aload_n 0, 1) := by decide +kernel
theorem dX14_init_234 : decode cX14_init 234 = .ok (.bipush 64, 2) := by decide +kernel
theorem dX14_init_236 : decode cX14_init 236 = .ok (.newarray .int, 2) := by decide +kernel
theorem dX14_init_238 : decode cX14_init 238 = .ok (.putfield 105, 3) := by decide +kernel
theorem dX14_init_241 : decode cX14_init 241 = .ok (.aload_n 0, 1) := by decide +kernel
theorem dX14_init_242 : decode cX14_init 242 = .ok (.bipush 64, 2) := by decide +kernel
theorem dX14_init_244 : decode cX14_init 244 = .ok (.newarray .int, 2) := by decide +kernel
theorem dX14_init_246 : decode cX14_init 246 = .ok (.putfield 108, 3) := by decide +kernel
theorem dX14_init_249 : decode cX14_init 249 = .ok (.aload_n 0, 1) := by decide +kernel
theorem dX14_init_250 : decode cX14_init 250 = .ok (.ldc2_w 84, 3) := by decide +kernel
theorem dX14_init_253 : decode cX14_init 253 = .ok (.putfield 111, 3) := by decide +kernel
theorem dX14_init_256 : decode cX14_init 256 = .ok (.aload_n 0, 1) := by decide +kernel
theorem dX14_init_257 : decode cX14_init 257 = .ok (.bipush 64, 2) := by decide +kernel
theorem dX14_init_259 : decode cX14_init 259 = .ok (.newarray .boolean, 2) := by decide +kernel
theorem dX14_init_261 : decode cX14_init 261 = .ok (.putfield 114, 3) := by decide +kernel
theorem dX14_init_264 : decode cX14_init 264 = .ok (.aload_n 0, 1) := by decide +kernel
theorem dX14_init_265 : decode cX14_init 265 = .ok (.bipush 64, 2) := by decide +kernel
theorem dX14_init_267 : decode cX14_init 267 = .ok (.newarray .long, 2) := by decide +kernel
theorem dX14_init_269 : decode cX14_init 269 = .ok (.putfield 117, 3) := by decide +kernel
theorem dX14_init_272 : decode cX14_init 272 = .ok (.aload_n 0, 1) := by decide +kernel
theorem dX14_init_273 : decode cX14_init 273 = .ok (.bipush 64, 2) := by decide +kernel
theorem dX14_init_275 : decode cX14_init 275 = .ok (.newarray .int, 2) := by decide +kernel
theorem dX14_init_277 : decode cX14_init 277 = .ok (.putfield 120, 3) := by decide +kernel
theorem dX14_init_280 : decode cX14_init 280 = .ok (.aload_n 0, 1) := by decide +kernel
theorem dX14_init_281 : decode cX14_init 281 = .ok (.bipush 64, 2) := by decide +kernel
theorem dX14_init_283 : decode cX14_init 283 = .ok (.newarray .int, 2) := by decide +kernel
theorem dX14_init_285 : decode cX14_init 285 = .ok (.putfield 123, 3) := by decide +kernel
theorem dX14_init_288 : decode cX14_init 288 = .ok (.aload_n 0, 1) := by decide +kernel
theorem dX14_init_289 : decode cX14_init 289 = .ok (.bipush 64, 2) := by decide +kernel
theorem dX14_init_291 : decode cX14_init 291 = .ok (.newarray .int, 2) := by decide +kernel
theorem dX14_init_293 : decode cX14_init 293 = .ok (.putfield 126, 3) := by decide +kernel
theorem dX14_init_296 : decode cX14_init 296 = .ok (.aload_n 0, 1) := by decide +kernel
theorem dX14_init_297 : decode cX14_init 297 = .ok (.bipush 64, 2) := by decide +kernel
theorem dX14_init_299 : decode cX14_init 299 = .ok (.newarray .int, 2) := by decide +kernel
theorem dX14_init_301 : decode cX14_init 301 = .ok (.putfield 129, 3) := by decide +kernel
theorem dX14_init_304 : decode cX14_init 304 = .ok (.aload_n 0, 1) := by decide +kernel
theorem dX14_init_305 : decode cX14_init 305 = .ok (.bipush 64, 2) := by decide +kernel
theorem dX14_init_307 : decode cX14_init 307 = .ok (.newarray .long, 2) := by decide +kernel
theorem dX14_init_309 : decode cX14_init 309 = .ok (.putfield 132, 3) := by decide +kernel
theorem dX14_init_312 : decode cX14_init 312 = .ok (.aload_n 0, 1) := by decide +kernel
theorem dX14_init_313 : decode cX14_init 313 = .ok (.bipush 64, 2) := by decide +kernel
theorem dX14_init_315 : decode cX14_init 315 = .ok (.newarray .int, 2) := by decide +kernel
theorem dX14_init_317 : decode cX14_init 317 = .ok (.putfield 135, 3) := by decide +kernel
theorem dX14_init_320 : decode cX14_init 320 = .ok (.aload_n 0, 1) := by decide +kernel
theorem dX14_init_321 : decode cX14_init 321 = .ok (.bipush 64, 2) := by decide +kernel
theorem dX14_init_323 : decode cX14_init 323 = .ok (.newarray .int, 2) := by decide +kernel
theorem dX14_init_325 : decode cX14_init 325 = .ok (.putfield 138, 3) := by decide +kernel
theorem dX14_init_328 : decode cX14_init 328 = .ok (.aload_n 0, 1) := by decide +kernel
theorem dX14_init_329 : decode cX14_init 329 = .ok (.bipush 64, 2) := by decide +kernel
theorem dX14_init_331 : decode cX14_init 331 = .ok (.newarray .int, 2) := by decide +kernel
theorem dX14_init_333 : decode cX14_init 333 = .ok (.putfield 141, 3) := by decide +kernel
theorem dX14_init_336 : decode cX14_init 336 = .ok (.return_, 1) := by decide +kernel
def fX14_init_b333 (h : pm_H) (s0 : Nat) (s1 : Nat) : Option pm_H := if pm_kd h s1 = 14 then some (pm_setR h s1 55 (some s0)) else none
def fX14_init_b325 (h : pm_H) (x0 : Nat) (s0 : Nat) (s1 : Nat) : Option pm_H := if pm_kd h s1 = 14 then fX14_init_b333 (pm_new (pm_setR h s1 54 (some s0)) 34 64) (pm_sz (pm_setR h s1 54 (some s0))) x0 else none
def fX14_init_b317 (h : pm_H) (x0 : Nat) (s0 : Nat) (s1 : Nat) : Option pm_H := if pm_kd h s1 = 14 then fX14_init_b325 (pm_new (pm_setR h s1 53 (some s0)) 34 64) x0 (pm_sz (pm_setR h s1 53 (some s0))) x0 else none
def fX14_init_b309 (h : pm_H) (x0 : Nat) (s0 : Nat) (s1 : Nat) : Option pm_H := if pm_kd h s1 = 14 then fX14_init_b317 (pm_new (pm_setR h s1 52 (some s0)) 34 64) x0 (pm_sz (pm_setR h s1 52 (some s0))) x0 else none
def fX14_init_b301 (h : pm_H) (x0 : Nat) (s0 : Nat) (s1 : Nat) : Option pm_H := if pm_kd h s1 = 14 then fX14_init_b309 (pm_new (pm_setR h s1 51 (some s0)) 35 64) x0 (pm_sz (pm_setR h s1 51 (some s0))) x0 else none
def fX14_init_b293 (h : pm_H) (x0 : Nat) (s0 : Nat) (s1 : Nat) : Option pm_H := if pm_kd h s1 = 14 then fX14_init_b301 (pm_new (pm_setR h s1 49 (some s0)) 34 64) x0 (pm_sz (pm_setR h s1 49 (some s0))) x0 else none
def fX14_init_b285 (h : pm_H) (x0 : Nat) (s0 : Nat) (s1 : Nat) : Option pm_H := if pm_kd h s1 = 14 then fX14_init_b293 (pm_new (pm_setR h s1 48 (some s0)) 34 64) x0 (pm_sz (pm_setR h s1 48 (some s0))) x0 else none
def fX14_init_b277 (h : pm_H) (x0 : Nat) (s0 : Nat) (s1 : Nat) : Option pm_H := if pm_kd h s1 = 14 then fX14_init_b285 (pm_new (pm_setR h s1 47 (some s0)) 34 64) x0 (pm_sz (pm_setR h s1 47 (some s0))) x0 else none
def fX14_init_b269 (h : pm_H) (x0 : Nat) (s0 : Nat) (s1 : Nat) : Option pm_H := if pm_kd h s1 = 14 then fX14_init_b277 (pm_new (pm_setR h s1 46 (some s0)) 34 64) x0 (pm_sz (pm_setR h s1 46 (some s0))) x0 else none
def fX14_init_b261 (h : pm_H) (x0 : Nat) (s0 : Nat) (s1 : Nat) : Option pm_H := if pm_kd h s1 = 14 then fX14_init_b269 (pm_new (pm_setR h s1 45 (some s0)) 35 64) x0 (pm_sz (pm_setR h s1 45 (some s0))) x0 else none
def fX14_init_b246 (h : pm_H) (x0 : Nat) (s0 : Nat) (s1 : Nat) : Option pm_H := if pm_kd h s1 = 14 then if pm_kd (pm_setR h s1 41 (some s0)) x0 = 14 then fX14_init_b261 (pm_new (pm_setL (pm_setR h s1 41 (some s0)) x0 42 (-1)) 32 64) x0 (pm_sz (pm_setL (pm_setR h s1 41 (some s0)) x0 42 (-1))) x0 else none else none
def fX14_init_b238 (h : pm_H) (x0 : Nat) (s0 : Nat) (s1 : Nat) : Option pm_H := if pm_kd h s1 = 14 then fX14_init_b246 (pm_new (pm_setR h s1 40 (some s0)) 34 64) x0 (pm_sz (pm_setR h s1 40 (some s0))) x0 else none
def fX14_init_b230 (h : pm_H) (x0 : Nat) (s0 : Nat) (s1 : Nat) : Option pm_H := if pm_kd h s1 = 14 then fX14_init_b238 (pm_new (pm_setR h s1 39 (some s0)) 34 64) x0 (pm_sz (pm_setR h s1 39 (some s0))) x0 else none
def fX14_init_b222 (h : pm_H) (x0 : Nat) (s0 : Nat) (s1 : Nat) : Option pm_H := if pm_kd h s1 = 14 then fX14_init_b230 (pm_new (pm_setR h s1 38 (some s0)) 32 64) x0 (pm_sz (pm_setR h s1 38 (some s0))) x0 else none
def fX14_init_b214 (h : pm_H) (x0 : Nat) (s0 : Nat) (s1 : Nat) : Option pm_H := if pm_kd h s1 = 14 then fX14_init_b222 (pm_new (pm_setR h s1 37 (some s0)) 34 64) x0 (pm_sz (pm_setR h s1 37 (some s0))) x0 else none
def fX14_init_b206 (h : pm_H) (x0 : Nat) (s0 : Nat) (s1 : Nat) : Option pm_H := if pm_kd h s1 = 14 then fX14_init_b214 (pm_new (pm_setR h s1 36 (some s0)) 34 64) x0 (pm_sz (pm_setR h s1 36 (some s0))) x0 else none
def fX14_init_b198 (h : pm_H) (x0 : Nat) (s0 : Nat) (s1 : Nat) : Option pm_H := if pm_kd h s1 = 14 then fX14_init_b206 (pm_new (pm_setR h s1 35 (some s0)) 35 64) x0 (pm_sz (pm_setR h s1 35 (some s0))) x0 else none
def fX14_init_b183 (h : pm_H) (x0 : Nat) (s0 : Nat) (s1 : Nat) : Option pm_H := if pm_kd h s1 = 14 then if pm_kd (pm_setR h s1 32 (some s0)) x0 = 14 then fX14_init_b198 (pm_new (pm_setL (pm_setR h s1 32 (some s0)) x0 33 (-1)) 34 64) x0 (pm_sz (pm_setL (pm_setR h s1 32 (some s0)) x0 33 (-1))) x0 else none else none
def fX14_init_b175 (h : pm_H) (x0 : Nat) (s0 : Nat) (s1 : Nat) : Option pm_H := if pm_kd h s1 = 14 then fX14_init_b183 (pm_new (pm_setR h s1 31 (some s0)) 35 64) x0 (pm_sz (pm_setR h s1 31 (some s0))) x0 else none
def fX14_init_b167 (h : pm_H) (x0 : Nat) (s0 : Nat) (s1 : Nat) : Option pm_H := if pm_kd h s1 = 14 then fX14_init_b175 (pm_new (pm_setR h s1 30 (some s0)) 34 64) x0 (pm_sz (pm_setR h s1 30 (some s0))) x0 else none
def fX14_init_b159 (h : pm_H) (x0 : Nat) (s0 : Nat) (s1 : Nat) : Option pm_H := if pm_kd h s1 = 14 then fX14_init_b167 (pm_new (pm_setR h s1 29 (some s0)) 34 64) x0 (pm_sz (pm_setR h s1 29 (some s0))) x0 else none
def fX14_init_b151 (h : pm_H) (x0 : Nat) (s0 : Nat) (s1 : Nat) : Option pm_H := if pm_kd h s1 = 14 then fX14_init_b159 (pm_new (pm_setR h s1 27 (some s0)) 34 64) x0 (pm_sz (pm_setR h s1 27 (some s0))) x0 else none
def fX14_init_b143 (h : pm_H) (x0 : Nat) (s0 : Nat) (s1 : Nat) : Option pm_H := if pm_kd h s1 = 14 then fX14_init_b151 (pm_new (pm_setR h s1 26 (some s0)) 34 64) x0 (pm_sz (pm_setR h s1 26 (some s0))) x0 else none
def fX14_init_b135 (h : pm_H) (x0 : Nat) (s0 : Nat) (s1 : Nat) : Option pm_H := if pm_kd h s1 = 14 then fX14_init_b143 (pm_new (pm_setR h s1 25 (some s0)) 32 64) x0 (pm_sz (pm_setR h s1 25 (some s0))) x0 else none
def fX14_init_b127 (h : pm_H) (x0 : Nat) (s0 : Nat) (s1 : Nat) : Option pm_H := if pm_kd h s1 = 14 then fX14_init_b135 (pm_new (pm_setR h s1 23 (some s0)) 34 64) x0 (pm_sz (pm_setR h s1 23 (some s0))) x0 else none
def fX14_init_b119 (h : pm_H) (x0 : Nat) (s0 : Nat) (s1 : Nat) : Option pm_H := if pm_kd h s1 = 14 then fX14_init_b127 (pm_new (pm_setR h s1 22 (some s0)) 35 64) x0 (pm_sz (pm_setR h s1 22 (some s0))) x0 else none
def fX14_init_b111 (h : pm_H) (x0 : Nat) (s0 : Nat) (s1 : Nat) : Option pm_H := if pm_kd h s1 = 14 then fX14_init_b119 (pm_new (pm_setR h s1 20 (some s0)) 35 64) x0 (pm_sz (pm_setR h s1 20 (some s0))) x0 else none
def fX14_init_b103 (h : pm_H) (x0 : Nat) (s0 : Nat) (s1 : Nat) : Option pm_H := if pm_kd h s1 = 14 then fX14_init_b111 (pm_new (pm_setR h s1 19 (some s0)) 35 64) x0 (pm_sz (pm_setR h s1 19 (some s0))) x0 else none
def fX14_init_b95 (h : pm_H) (x0 : Nat) (s0 : Nat) (s1 : Nat) : Option pm_H := if pm_kd h s1 = 14 then fX14_init_b103 (pm_new (pm_setR h s1 18 (some s0)) 35 64) x0 (pm_sz (pm_setR h s1 18 (some s0))) x0 else none
def fX14_init_b87 (h : pm_H) (x0 : Nat) (s0 : Nat) (s1 : Nat) : Option pm_H := if pm_kd h s1 = 14 then fX14_init_b95 (pm_new (pm_setR h s1 16 (some s0)) 34 64) x0 (pm_sz (pm_setR h s1 16 (some s0))) x0 else none
def fX14_init_b79 (h : pm_H) (x0 : Nat) (s0 : Nat) (s1 : Nat) : Option pm_H := if pm_kd h s1 = 14 then fX14_init_b87 (pm_new (pm_setR h s1 13 (some s0)) 35 64) x0 (pm_sz (pm_setR h s1 13 (some s0))) x0 else none
def fX14_init_b71 (h : pm_H) (x0 : Nat) (s0 : Nat) (s1 : Nat) : Option pm_H := if pm_kd h s1 = 14 then fX14_init_b79 (pm_new (pm_setR h s1 12 (some s0)) 32 64) x0 (pm_sz (pm_setR h s1 12 (some s0))) x0 else none
def fX14_init_b63 (h : pm_H) (x0 : Nat) (s0 : Nat) (s1 : Nat) : Option pm_H := if pm_kd h s1 = 14 then fX14_init_b71 (pm_new (pm_setR h s1 11 (some s0)) 35 64) x0 (pm_sz (pm_setR h s1 11 (some s0))) x0 else none
def fX14_init_b55 (h : pm_H) (x0 : Nat) (s0 : Nat) (s1 : Nat) : Option pm_H := if pm_kd h s1 = 14 then fX14_init_b63 (pm_new (pm_setR h s1 10 (some s0)) 35 64) x0 (pm_sz (pm_setR h s1 10 (some s0))) x0 else none
def fX14_init_b47 (h : pm_H) (x0 : Nat) (s0 : Nat) (s1 : Nat) : Option pm_H := if pm_kd h s1 = 14 then fX14_init_b55 (pm_new (pm_setR h s1 9 (some s0)) 35 64) x0 (pm_sz (pm_setR h s1 9 (some s0))) x0 else none
def fX14_init_b39 (h : pm_H) (x0 : Nat) (s0 : Nat) (s1 : Nat) : Option pm_H := if pm_kd h s1 = 14 then fX14_init_b47 (pm_new (pm_setR h s1 7 (some s0)) 34 64) x0 (pm_sz (pm_setR h s1 7 (some s0))) x0 else none
def fX14_init_b30 (h : pm_H) (x0 : Nat) (s0 : Nat) (s1 : Nat) : Option pm_H := if pm_kd h s1 = 14 then fX14_init_b39 (pm_new (pm_setR h s1 6 (some s0)) 34 2048) x0 (pm_sz (pm_setR h s1 6 (some s0))) x0 else none
def fX14_init_b22 (h : pm_H) (x0 : Nat) (s0 : Nat) (s1 : Nat) : Option pm_H := if pm_kd h s1 = 14 then fX14_init_b30 (pm_new (pm_setR h s1 5 (some s0)) 34 64) x0 (pm_sz (pm_setR h s1 5 (some s0))) x0 else none
def fX14_init_b9 (h : pm_H) (x0 : Nat) (s0 : Nat) (s1 : Nat) : Option pm_H := if pm_kd h s1 = 14 then if pm_kd (pm_setR h s1 2 (some s0)) x0 = 14 then fX14_init_b22 (pm_new (pm_setI (pm_setR h s1 2 (some s0)) x0 3 (-1)) 34 64) x0 (pm_sz (pm_setI (pm_setR h s1 2 (some s0)) x0 3 (-1))) x0 else none else none
def fX14_init_b0 (h : pm_H) (x0 : Nat) : Option pm_H := fX14_init_b9 (pm_new h 34 13) x0 (pm_sz h) x0
def fX14_init (h : pm_H) (a0 : Nat) : Option pm_H := fX14_init_b0 h a0
set_option maxHeartbeats 4000000 in
set_option maxRecDepth 100000 in
theorem moX14_init_b333 {h : pm_H} {s0 : Nat} {s1 : Nat} {r : pm_H} (hf : fX14_init_b333 h s0 s1 = some r) : pm_Le h r := by
  unfold fX14_init_b333 at hf
  have K0 := pm_S3.rf h
  obtain ⟨k42, hf⟩ := pm_if hf
  have hf := Option.some.inj hf
  subst hf
  exact pm_S3.le (pm_S3R K0)
set_option maxHeartbeats 4000000 in
set_option maxRecDepth 100000 in
theorem moX14_init_b325 {h : pm_H} {x0 : Nat} {s0 : Nat} {s1 : Nat} {r : pm_H} (hf : fX14_init_b325 h x0 s0 s1 = some r) : pm_Le h r := by
  unfold fX14_init_b325 at hf
  have K0 := pm_S3.rf h
  obtain ⟨k41, hf⟩ := pm_if hf
  exact ((pm_S3.le (pm_S3R K0)).trans (pm_Le_new _ _ _)).trans (moX14_init_b333 hf)
set_option maxHeartbeats 4000000 in
set_option maxRecDepth 100000 in
theorem moX14_init_b317 {h : pm_H} {x0 : Nat} {s0 : Nat} {s1 : Nat} {r : pm_H} (hf : fX14_init_b317 h x0 s0 s1 = some r) : pm_Le h r := by
  unfold fX14_init_b317 at hf
  have K0 := pm_S3.rf h
  obtain ⟨k40, hf⟩ := pm_if hf
  exact ((pm_S3.le (pm_S3R K0)).trans (pm_Le_new _ _ _)).trans (moX14_init_b325 hf)
set_option maxHeartbeats 4000000 in
set_option maxRecDepth 100000 in
theorem moX14_init_b309 {h : pm_H} {x0 : Nat} {s0 : Nat} {s1 : Nat} {r : pm_H} (hf : fX14_init_b309 h x0 s0 s1 = some r) : pm_Le h r := by
  unfold fX14_init_b309 at hf
  have K0 := pm_S3.rf h
  obtain ⟨k39, hf⟩ := pm_if hf
  exact ((pm_S3.le (pm_S3R K0)).trans (pm_Le_new _ _ _)).trans (moX14_init_b317 hf)
set_option maxHeartbeats 4000000 in
set_option maxRecDepth 100000 in
theorem moX14_init_b301 {h : pm_H} {x0 : Nat} {s0 : Nat} {s1 : Nat} {r : pm_H} (hf : fX14_init_b301 h x0 s0 s1 = some r) : pm_Le h r := by
  unfold fX14_init_b301 at hf
  have K0 := pm_S3.rf h
  obtain ⟨k38, hf⟩ := pm_if hf
  exact ((pm_S3.le (pm_S3R K0)).trans (pm_Le_new _ _ _)).trans (moX14_init_b309 hf)
set_option maxHeartbeats 4000000 in
set_option maxRecDepth 100000 in
theorem moX14_init_b293 {h : pm_H} {x0 : Nat} {s0 : Nat} {s1 : Nat} {r : pm_H} (hf : fX14_init_b293 h x0 s0 s1 = some r) : pm_Le h r := by
  unfold fX14_init_b293 at hf
  have K0 := pm_S3.rf h
  obtain ⟨k37, hf⟩ := pm_if hf
  exact ((pm_S3.le (pm_S3R K0)).trans (pm_Le_new _ _ _)).trans (moX14_init_b301 hf)
set_option maxHeartbeats 4000000 in
set_option maxRecDepth 100000 in
theorem moX14_init_b285 {h : pm_H} {x0 : Nat} {s0 : Nat} {s1 : Nat} {r : pm_H} (hf : fX14_init_b285 h x0 s0 s1 = some r) : pm_Le h r := by
  unfold fX14_init_b285 at hf
  have K0 := pm_S3.rf h
  obtain ⟨k36, hf⟩ := pm_if hf
  exact ((pm_S3.le (pm_S3R K0)).trans (pm_Le_new _ _ _)).trans (moX14_init_b293 hf)
set_option maxHeartbeats 4000000 in
set_option maxRecDepth 100000 in
theorem moX14_init_b277 {h : pm_H} {x0 : Nat} {s0 : Nat} {s1 : Nat} {r : pm_H} (hf : fX14_init_b277 h x0 s0 s1 = some r) : pm_Le h r := by
  unfold fX14_init_b277 at hf
  have K0 := pm_S3.rf h
  obtain ⟨k35, hf⟩ := pm_if hf
  exact ((pm_S3.le (pm_S3R K0)).trans (pm_Le_new _ _ _)).trans (moX14_init_b285 hf)
set_option maxHeartbeats 4000000 in
set_option maxRecDepth 100000 in
theorem moX14_init_b269 {h : pm_H} {x0 : Nat} {s0 : Nat} {s1 : Nat} {r : pm_H} (hf : fX14_init_b269 h x0 s0 s1 = some r) : pm_Le h r := by
  unfold fX14_init_b269 at hf
  have K0 := pm_S3.rf h
  obtain ⟨k34, hf⟩ := pm_if hf
  exact ((pm_S3.le (pm_S3R K0)).trans (pm_Le_new _ _ _)).trans (moX14_init_b277 hf)
set_option maxHeartbeats 4000000 in
set_option maxRecDepth 100000 in
theorem moX14_init_b261 {h : pm_H} {x0 : Nat} {s0 : Nat} {s1 : Nat} {r : pm_H} (hf : fX14_init_b261 h x0 s0 s1 = some r) : pm_Le h r := by
  unfold fX14_init_b261 at hf
  have K0 := pm_S3.rf h
  obtain ⟨k33, hf⟩ := pm_if hf
  exact ((pm_S3.le (pm_S3R K0)).trans (pm_Le_new _ _ _)).trans (moX14_init_b269 hf)
set_option maxHeartbeats 4000000 in
set_option maxRecDepth 100000 in
theorem moX14_init_b246 {h : pm_H} {x0 : Nat} {s0 : Nat} {s1 : Nat} {r : pm_H} (hf : fX14_init_b246 h x0 s0 s1 = some r) : pm_Le h r := by
  unfold fX14_init_b246 at hf
  have K0 := pm_S3.rf h
  obtain ⟨k31, hf⟩ := pm_if hf
  obtain ⟨k32, hf⟩ := pm_if hf
  exact ((pm_S3.le (pm_S3L (pm_S3R K0))).trans (pm_Le_new _ _ _)).trans (moX14_init_b261 hf)
set_option maxHeartbeats 4000000 in
set_option maxRecDepth 100000 in
theorem moX14_init_b238 {h : pm_H} {x0 : Nat} {s0 : Nat} {s1 : Nat} {r : pm_H} (hf : fX14_init_b238 h x0 s0 s1 = some r) : pm_Le h r := by
  unfold fX14_init_b238 at hf
  have K0 := pm_S3.rf h
  obtain ⟨k30, hf⟩ := pm_if hf
  exact ((pm_S3.le (pm_S3R K0)).trans (pm_Le_new _ _ _)).trans (moX14_init_b246 hf)
set_option maxHeartbeats 4000000 in
set_option maxRecDepth 100000 in
theorem moX14_init_b230 {h : pm_H} {x0 : Nat} {s0 : Nat} {s1 : Nat} {r : pm_H} (hf : fX14_init_b230 h x0 s0 s1 = some r) : pm_Le h r := by
  unfold fX14_init_b230 at hf
  have K0 := pm_S3.rf h
  obtain ⟨k29, hf⟩ := pm_if hf
  exact ((pm_S3.le (pm_S3R K0)).trans (pm_Le_new _ _ _)).trans (moX14_init_b238 hf)
set_option maxHeartbeats 4000000 in
set_option maxRecDepth 100000 in
theorem moX14_init_b222 {h : pm_H} {x0 : Nat} {s0 : Nat} {s1 : Nat} {r : pm_H} (hf : fX14_init_b222 h x0 s0 s1 = some r) : pm_Le h r := by
  unfold fX14_init_b222 at hf
  have K0 := pm_S3.rf h
  obtain ⟨k28, hf⟩ := pm_if hf
  exact ((pm_S3.le (pm_S3R K0)).trans (pm_Le_new _ _ _)).trans (moX14_init_b230 hf)
set_option maxHeartbeats 4000000 in
set_option maxRecDepth 100000 in
theorem moX14_init_b214 {h : pm_H} {x0 : Nat} {s0 : Nat} {s1 : Nat} {r : pm_H} (hf : fX14_init_b214 h x0 s0 s1 = some r) : pm_Le h r := by
  unfold fX14_init_b214 at hf
  have K0 := pm_S3.rf h
  obtain ⟨k27, hf⟩ := pm_if hf
  exact ((pm_S3.le (pm_S3R K0)).trans (pm_Le_new _ _ _)).trans (moX14_init_b222 hf)
set_option maxHeartbeats 4000000 in
set_option maxRecDepth 100000 in
theorem moX14_init_b206 {h : pm_H} {x0 : Nat} {s0 : Nat} {s1 : Nat} {r : pm_H} (hf : fX14_init_b206 h x0 s0 s1 = some r) : pm_Le h r := by
  unfold fX14_init_b206 at hf
  have K0 := pm_S3.rf h
  obtain ⟨k26, hf⟩ := pm_if hf
  exact ((pm_S3.le (pm_S3R K0)).trans (pm_Le_new _ _ _)).trans (moX14_init_b214 hf)
set_option maxHeartbeats 4000000 in
set_option maxRecDepth 100000 in
theorem moX14_init_b198 {h : pm_H} {x0 : Nat} {s0 : Nat} {s1 : Nat} {r : pm_H} (hf : fX14_init_b198 h x0 s0 s1 = some r) : pm_Le h r := by
  unfold fX14_init_b198 at hf
  have K0 := pm_S3.rf h
  obtain ⟨k25, hf⟩ := pm_if hf
  exact ((pm_S3.le (pm_S3R K0)).trans (pm_Le_new _ _ _)).trans (moX14_init_b206 hf)
set_option maxHeartbeats 4000000 in
set_option maxRecDepth 100000 in
theorem moX14_init_b183 {h : pm_H} {x0 : Nat} {s0 : Nat} {s1 : Nat} {r : pm_H} (hf : fX14_init_b183 h x0 s0 s1 = some r) : pm_Le h r := by
  unfold fX14_init_b183 at hf
  have K0 := pm_S3.rf h
  obtain ⟨k23, hf⟩ := pm_if hf
  obtain ⟨k24, hf⟩ := pm_if hf
  exact ((pm_S3.le (pm_S3L (pm_S3R K0))).trans (pm_Le_new _ _ _)).trans (moX14_init_b198 hf)
set_option maxHeartbeats 4000000 in
set_option maxRecDepth 100000 in
theorem moX14_init_b175 {h : pm_H} {x0 : Nat} {s0 : Nat} {s1 : Nat} {r : pm_H} (hf : fX14_init_b175 h x0 s0 s1 = some r) : pm_Le h r := by
  unfold fX14_init_b175 at hf
  have K0 := pm_S3.rf h
  obtain ⟨k22, hf⟩ := pm_if hf
  exact ((pm_S3.le (pm_S3R K0)).trans (pm_Le_new _ _ _)).trans (moX14_init_b183 hf)
set_option maxHeartbeats 4000000 in
set_option maxRecDepth 100000 in
theorem moX14_init_b167 {h : pm_H} {x0 : Nat} {s0 : Nat} {s1 : Nat} {r : pm_H} (hf : fX14_init_b167 h x0 s0 s1 = some r) : pm_Le h r := by
  unfold fX14_init_b167 at hf
  have K0 := pm_S3.rf h
  obtain ⟨k21, hf⟩ := pm_if hf
  exact ((pm_S3.le (pm_S3R K0)).trans (pm_Le_new _ _ _)).trans (moX14_init_b175 hf)
set_option maxHeartbeats 4000000 in
set_option maxRecDepth 100000 in
theorem moX14_init_b159 {h : pm_H} {x0 : Nat} {s0 : Nat} {s1 : Nat} {r : pm_H} (hf : fX14_init_b159 h x0 s0 s1 = some r) : pm_Le h r := by
  unfold fX14_init_b159 at hf
  have K0 := pm_S3.rf h
  obtain ⟨k20, hf⟩ := pm_if hf
  exact ((pm_S3.le (pm_S3R K0)).trans (pm_Le_new _ _ _)).trans (moX14_init_b167 hf)
set_option maxHeartbeats 4000000 in
set_option maxRecDepth 100000 in
theorem moX14_init_b151 {h : pm_H} {x0 : Nat} {s0 : Nat} {s1 : Nat} {r : pm_H} (hf : fX14_init_b151 h x0 s0 s1 = some r) : pm_Le h r := by
  unfold fX14_init_b151 at hf
  have K0 := pm_S3.rf h
  obtain ⟨k19, hf⟩ := pm_if hf
  exact ((pm_S3.le (pm_S3R K0)).trans (pm_Le_new _ _ _)).trans (moX14_init_b159 hf)
set_option maxHeartbeats 4000000 in
set_option maxRecDepth 100000 in
theorem moX14_init_b143 {h : pm_H} {x0 : Nat} {s0 : Nat} {s1 : Nat} {r : pm_H} (hf : fX14_init_b143 h x0 s0 s1 = some r) : pm_Le h r := by
  unfold fX14_init_b143 at hf
  have K0 := pm_S3.rf h
  obtain ⟨k18, hf⟩ := pm_if hf
  exact ((pm_S3.le (pm_S3R K0)).trans (pm_Le_new _ _ _)).trans (moX14_init_b151 hf)
set_option maxHeartbeats 4000000 in
set_option maxRecDepth 100000 in
theorem moX14_init_b135 {h : pm_H} {x0 : Nat} {s0 : Nat} {s1 : Nat} {r : pm_H} (hf : fX14_init_b135 h x0 s0 s1 = some r) : pm_Le h r := by
  unfold fX14_init_b135 at hf
  have K0 := pm_S3.rf h
  obtain ⟨k17, hf⟩ := pm_if hf
  exact ((pm_S3.le (pm_S3R K0)).trans (pm_Le_new _ _ _)).trans (moX14_init_b143 hf)
set_option maxHeartbeats 4000000 in
set_option maxRecDepth 100000 in
theorem moX14_init_b127 {h : pm_H} {x0 : Nat} {s0 : Nat} {s1 : Nat} {r : pm_H} (hf : fX14_init_b127 h x0 s0 s1 = some r) : pm_Le h r := by
  unfold fX14_init_b127 at hf
  have K0 := pm_S3.rf h
  obtain ⟨k16, hf⟩ := pm_if hf
  exact ((pm_S3.le (pm_S3R K0)).trans (pm_Le_new _ _ _)).trans (moX14_init_b135 hf)
set_option maxHeartbeats 4000000 in
set_option maxRecDepth 100000 in
theorem moX14_init_b119 {h : pm_H} {x0 : Nat} {s0 : Nat} {s1 : Nat} {r : pm_H} (hf : fX14_init_b119 h x0 s0 s1 = some r) : pm_Le h r := by
  unfold fX14_init_b119 at hf
  have K0 := pm_S3.rf h
  obtain ⟨k15, hf⟩ := pm_if hf
  exact ((pm_S3.le (pm_S3R K0)).trans (pm_Le_new _ _ _)).trans (moX14_init_b127 hf)
set_option maxHeartbeats 4000000 in
set_option maxRecDepth 100000 in
theorem moX14_init_b111 {h : pm_H} {x0 : Nat} {s0 : Nat} {s1 : Nat} {r : pm_H} (hf : fX14_init_b111 h x0 s0 s1 = some r) : pm_Le h r := by
  unfold fX14_init_b111 at hf
  have K0 := pm_S3.rf h
  obtain ⟨k14, hf⟩ := pm_if hf
  exact ((pm_S3.le (pm_S3R K0)).trans (pm_Le_new _ _ _)).trans (moX14_init_b119 hf)
set_option maxHeartbeats 4000000 in
set_option maxRecDepth 100000 in
theorem moX14_init_b103 {h : pm_H} {x0 : Nat} {s0 : Nat} {s1 : Nat} {r : pm_H} (hf : fX14_init_b103 h x0 s0 s1 = some r) : pm_Le h r := by
  unfold fX14_init_b103 at hf
  have K0 := pm_S3.rf h
  obtain ⟨k13, hf⟩ := pm_if hf
  exact ((pm_S3.le (pm_S3R K0)).trans (pm_Le_new _ _ _)).trans (moX14_init_b111 hf)
set_option maxHeartbeats 4000000 in
set_option maxRecDepth 100000 in
theorem moX14_init_b95 {h : pm_H} {x0 : Nat} {s0 : Nat} {s1 : Nat} {r : pm_H} (hf : fX14_init_b95 h x0 s0 s1 = some r) : pm_Le h r := by
  unfold fX14_init_b95 at hf
  have K0 := pm_S3.rf h
  obtain ⟨k12, hf⟩ := pm_if hf
  exact ((pm_S3.le (pm_S3R K0)).trans (pm_Le_new _ _ _)).trans (moX14_init_b103 hf)
set_option maxHeartbeats 4000000 in
set_option maxRecDepth 100000 in
theorem moX14_init_b87 {h : pm_H} {x0 : Nat} {s0 : Nat} {s1 : Nat} {r : pm_H} (hf : fX14_init_b87 h x0 s0 s1 = some r) : pm_Le h r := by
  unfold fX14_init_b87 at hf
  have K0 := pm_S3.rf h
  obtain ⟨k11, hf⟩ := pm_if hf
  exact ((pm_S3.le (pm_S3R K0)).trans (pm_Le_new _ _ _)).trans (moX14_init_b95 hf)
set_option maxHeartbeats 4000000 in
set_option maxRecDepth 100000 in
theorem moX14_init_b79 {h : pm_H} {x0 : Nat} {s0 : Nat} {s1 : Nat} {r : pm_H} (hf : fX14_init_b79 h x0 s0 s1 = some r) : pm_Le h r := by
  unfold fX14_init_b79 at hf
  have K0 := pm_S3.rf h
  obtain ⟨k10, hf⟩ := pm_if hf
  exact ((pm_S3.le (pm_S3R K0)).trans (pm_Le_new _ _ _)).trans (moX14_init_b87 hf)
set_option maxHeartbeats 4000000 in
set_option maxRecDepth 100000 in
theorem moX14_init_b71 {h : pm_H} {x0 : Nat} {s0 : Nat} {s1 : Nat} {r : pm_H} (hf : fX14_init_b71 h x0 s0 s1 = some r) : pm_Le h r := by
  unfold fX14_init_b71 at hf
  have K0 := pm_S3.rf h
  obtain ⟨k9, hf⟩ := pm_if hf
  exact ((pm_S3.le (pm_S3R K0)).trans (pm_Le_new _ _ _)).trans (moX14_init_b79 hf)
set_option maxHeartbeats 4000000 in
set_option maxRecDepth 100000 in
theorem moX14_init_b63 {h : pm_H} {x0 : Nat} {s0 : Nat} {s1 : Nat} {r : pm_H} (hf : fX14_init_b63 h x0 s0 s1 = some r) : pm_Le h r := by
  unfold fX14_init_b63 at hf
  have K0 := pm_S3.rf h
  obtain ⟨k8, hf⟩ := pm_if hf
  exact ((pm_S3.le (pm_S3R K0)).trans (pm_Le_new _ _ _)).trans (moX14_init_b71 hf)
set_option maxHeartbeats 4000000 in
set_option maxRecDepth 100000 in
theorem moX14_init_b55 {h : pm_H} {x0 : Nat} {s0 : Nat} {s1 : Nat} {r : pm_H} (hf : fX14_init_b55 h x0 s0 s1 = some r) : pm_Le h r := by
  unfold fX14_init_b55 at hf
  have K0 := pm_S3.rf h
  obtain ⟨k7, hf⟩ := pm_if hf
  exact ((pm_S3.le (pm_S3R K0)).trans (pm_Le_new _ _ _)).trans (moX14_init_b63 hf)
set_option maxHeartbeats 4000000 in
set_option maxRecDepth 100000 in
theorem moX14_init_b47 {h : pm_H} {x0 : Nat} {s0 : Nat} {s1 : Nat} {r : pm_H} (hf : fX14_init_b47 h x0 s0 s1 = some r) : pm_Le h r := by
  unfold fX14_init_b47 at hf
  have K0 := pm_S3.rf h
  obtain ⟨k6, hf⟩ := pm_if hf
  exact ((pm_S3.le (pm_S3R K0)).trans (pm_Le_new _ _ _)).trans (moX14_init_b55 hf)
set_option maxHeartbeats 4000000 in
set_option maxRecDepth 100000 in
theorem moX14_init_b39 {h : pm_H} {x0 : Nat} {s0 : Nat} {s1 : Nat} {r : pm_H} (hf : fX14_init_b39 h x0 s0 s1 = some r) : pm_Le h r := by
  unfold fX14_init_b39 at hf
  have K0 := pm_S3.rf h
  obtain ⟨k5, hf⟩ := pm_if hf
  exact ((pm_S3.le (pm_S3R K0)).trans (pm_Le_new _ _ _)).trans (moX14_init_b47 hf)
set_option maxHeartbeats 4000000 in
set_option maxRecDepth 100000 in
theorem moX14_init_b30 {h : pm_H} {x0 : Nat} {s0 : Nat} {s1 : Nat} {r : pm_H} (hf : fX14_init_b30 h x0 s0 s1 = some r) : pm_Le h r := by
  unfold fX14_init_b30 at hf
  have K0 := pm_S3.rf h
  obtain ⟨k4, hf⟩ := pm_if hf
  exact ((pm_S3.le (pm_S3R K0)).trans (pm_Le_new _ _ _)).trans (moX14_init_b39 hf)
set_option maxHeartbeats 4000000 in
set_option maxRecDepth 100000 in
theorem moX14_init_b22 {h : pm_H} {x0 : Nat} {s0 : Nat} {s1 : Nat} {r : pm_H} (hf : fX14_init_b22 h x0 s0 s1 = some r) : pm_Le h r := by
  unfold fX14_init_b22 at hf
  have K0 := pm_S3.rf h
  obtain ⟨k3, hf⟩ := pm_if hf
  exact ((pm_S3.le (pm_S3R K0)).trans (pm_Le_new _ _ _)).trans (moX14_init_b30 hf)
set_option maxHeartbeats 4000000 in
set_option maxRecDepth 100000 in
theorem moX14_init_b9 {h : pm_H} {x0 : Nat} {s0 : Nat} {s1 : Nat} {r : pm_H} (hf : fX14_init_b9 h x0 s0 s1 = some r) : pm_Le h r := by
  unfold fX14_init_b9 at hf
  have K0 := pm_S3.rf h
  obtain ⟨k1, hf⟩ := pm_if hf
  obtain ⟨k2, hf⟩ := pm_if hf
  exact ((pm_S3.le (pm_S3I (pm_S3R K0))).trans (pm_Le_new _ _ _)).trans (moX14_init_b22 hf)
set_option maxHeartbeats 4000000 in
set_option maxRecDepth 100000 in
theorem moX14_init_b0 {h : pm_H} {x0 : Nat} {r : pm_H} (hf : fX14_init_b0 h x0 = some r) : pm_Le h r := by
  unfold fX14_init_b0 at hf
  have K0 := pm_S3.rf h
  exact ((pm_S3.le K0).trans (pm_Le_new _ _ _)).trans (moX14_init_b9 hf)
set_option maxHeartbeats 4000000 in
set_option maxRecDepth 100000 in
theorem moX14_init {h : pm_H} {a0 : Nat} {r : pm_H} (hf : fX14_init h a0 = some r) : pm_Le h r := by
  unfold fX14_init at hf
  have K0 := pm_S3.rf h
  exact (pm_S3.le K0).trans (moX14_init_b0 hf)
set_option maxHeartbeats 4000000 in
set_option maxRecDepth 100000 in
theorem bX14_init_333 {g : pm_Gm} {l : Launch} {G : pm_Gl} {Qr : Option Value → pm_H → Prop} (C : pm_C g cX14_init RX14) {h0 h : pm_H} {s0 : Nat} {s1 : Nat} {r : pm_H} (X : pm_X g l G mX14_init (pm_sz r - pm_sz h0) (pm_us r - pm_us h0) Qr) (m0 : pm_Le h0 h) (hf : fX14_init_b333 h s0 s1 = some r) (q : Qr none r) (nm : g.2.2.2.2.2.2.2.2.1.name = "<init>") : pm_G g 333 [] [.ref s0, .ref s1] h (pm_sz h - pm_sz h0) (pm_us h - pm_us h0) := by
  have le0 := moX14_init_b333 hf
  have kc1 := Nat.sub_le_sub_right le0.1 (pm_sz h0)
  have kc2 := Nat.sub_le_sub_right le0.2 (pm_us h0)
  have K0 := pm_S3.rf h
  unfold fX14_init_b333 at hf
  obtain ⟨k42, hf⟩ := pm_if hf
  refine pm_putRF C dX14_init_333 flX14_141 rfl nm rfl fwX14_141 rfl k42 ?_
  have hf := Option.some.inj hf
  subst hf
  exact pm_vret C X dX14_init_336 rfl kc1 kc2 q
set_option maxHeartbeats 4000000 in
set_option maxRecDepth 100000 in
theorem bX14_init_325 {g : pm_Gm} {l : Launch} {G : pm_Gl} {Qr : Option Value → pm_H → Prop} (C : pm_C g cX14_init RX14) {h0 h : pm_H} {x0 : Nat} {s0 : Nat} {s1 : Nat} {r : pm_H} (X : pm_X g l G mX14_init (pm_sz r - pm_sz h0) (pm_us r - pm_us h0) Qr) (m0 : pm_Le h0 h) (hf : fX14_init_b325 h x0 s0 s1 = some r) (q : Qr none r) (nm : g.2.2.2.2.2.2.2.2.1.name = "<init>") : pm_G g 325 [(0, .ref x0)] [.ref s0, .ref s1] h (pm_sz h - pm_sz h0) (pm_us h - pm_us h0) := by
  have le0 := moX14_init_b325 hf
  have kc1 := Nat.sub_le_sub_right le0.1 (pm_sz h0)
  have kc2 := Nat.sub_le_sub_right le0.2 (pm_us h0)
  have K0 := pm_S3.rf h
  unfold fX14_init_b325 at hf
  obtain ⟨k41, hf⟩ := pm_if hf
  refine pm_putRF C dX14_init_325 flX14_138 rfl nm rfl fwX14_138 rfl k41 ?_
  refine pm_aload_n C dX14_init_328 rfl rfl ?_
  refine pm_bipush (v := 64) C dX14_init_329 (by decide) ?_
  refine pa_newa (hb := h) (h0 := h0) (t := 2) (N := 64) C X (pm_S3R K0) m0 dX14_init_331 (by decide) rfl al2 (by decide) (by decide +kernel) (by decide +kernel) (moX14_init_b333 hf) ?_
  exact pm_sub [] rfl (bX14_init_333 C X ((m0.trans (pm_S3.le (pm_S3R K0))).trans (pm_Le_new _ _ _)) hf q nm)
set_option maxHeartbeats 4000000 in
set_option maxRecDepth 100000 in
theorem bX14_init_317 {g : pm_Gm} {l : Launch} {G : pm_Gl} {Qr : Option Value → pm_H → Prop} (C : pm_C g cX14_init RX14) {h0 h : pm_H} {x0 : Nat} {s0 : Nat} {s1 : Nat} {r : pm_H} (X : pm_X g l G mX14_init (pm_sz r - pm_sz h0) (pm_us r - pm_us h0) Qr) (m0 : pm_Le h0 h) (hf : fX14_init_b317 h x0 s0 s1 = some r) (q : Qr none r) (nm : g.2.2.2.2.2.2.2.2.1.name = "<init>") : pm_G g 317 [(0, .ref x0)] [.ref s0, .ref s1] h (pm_sz h - pm_sz h0) (pm_us h - pm_us h0) := by
  have le0 := moX14_init_b317 hf
  have kc1 := Nat.sub_le_sub_right le0.1 (pm_sz h0)
  have kc2 := Nat.sub_le_sub_right le0.2 (pm_us h0)
  have K0 := pm_S3.rf h
  unfold fX14_init_b317 at hf
  obtain ⟨k40, hf⟩ := pm_if hf
  refine pm_putRF C dX14_init_317 flX14_135 rfl nm rfl fwX14_135 rfl k40 ?_
  refine pm_aload_n C dX14_init_320 rfl rfl ?_
  refine pm_bipush (v := 64) C dX14_init_321 (by decide) ?_
  refine pa_newa (hb := h) (h0 := h0) (t := 2) (N := 64) C X (pm_S3R K0) m0 dX14_init_323 (by decide) rfl al2 (by decide) (by decide +kernel) (by decide +kernel) (moX14_init_b325 hf) ?_
  exact pm_sub [0] rfl (bX14_init_325 C X ((m0.trans (pm_S3.le (pm_S3R K0))).trans (pm_Le_new _ _ _)) hf q nm)
set_option maxHeartbeats 4000000 in
set_option maxRecDepth 100000 in
theorem bX14_init_309 {g : pm_Gm} {l : Launch} {G : pm_Gl} {Qr : Option Value → pm_H → Prop} (C : pm_C g cX14_init RX14) {h0 h : pm_H} {x0 : Nat} {s0 : Nat} {s1 : Nat} {r : pm_H} (X : pm_X g l G mX14_init (pm_sz r - pm_sz h0) (pm_us r - pm_us h0) Qr) (m0 : pm_Le h0 h) (hf : fX14_init_b309 h x0 s0 s1 = some r) (q : Qr none r) (nm : g.2.2.2.2.2.2.2.2.1.name = "<init>") : pm_G g 309 [(0, .ref x0)] [.ref s0, .ref s1] h (pm_sz h - pm_sz h0) (pm_us h - pm_us h0) := by
  have le0 := moX14_init_b309 hf
  have kc1 := Nat.sub_le_sub_right le0.1 (pm_sz h0)
  have kc2 := Nat.sub_le_sub_right le0.2 (pm_us h0)
  have K0 := pm_S3.rf h
  unfold fX14_init_b309 at hf
  obtain ⟨k39, hf⟩ := pm_if hf
  refine pm_putRF C dX14_init_309 flX14_132 rfl nm rfl fwX14_132 rfl k39 ?_
  refine pm_aload_n C dX14_init_312 rfl rfl ?_
  refine pm_bipush (v := 64) C dX14_init_313 (by decide) ?_
  refine pa_newa (hb := h) (h0 := h0) (t := 2) (N := 64) C X (pm_S3R K0) m0 dX14_init_315 (by decide) rfl al2 (by decide) (by decide +kernel) (by decide +kernel) (moX14_init_b317 hf) ?_
  exact pm_sub [0] rfl (bX14_init_317 C X ((m0.trans (pm_S3.le (pm_S3R K0))).trans (pm_Le_new _ _ _)) hf q nm)
set_option maxHeartbeats 4000000 in
set_option maxRecDepth 100000 in
theorem bX14_init_301 {g : pm_Gm} {l : Launch} {G : pm_Gl} {Qr : Option Value → pm_H → Prop} (C : pm_C g cX14_init RX14) {h0 h : pm_H} {x0 : Nat} {s0 : Nat} {s1 : Nat} {r : pm_H} (X : pm_X g l G mX14_init (pm_sz r - pm_sz h0) (pm_us r - pm_us h0) Qr) (m0 : pm_Le h0 h) (hf : fX14_init_b301 h x0 s0 s1 = some r) (q : Qr none r) (nm : g.2.2.2.2.2.2.2.2.1.name = "<init>") : pm_G g 301 [(0, .ref x0)] [.ref s0, .ref s1] h (pm_sz h - pm_sz h0) (pm_us h - pm_us h0) := by
  have le0 := moX14_init_b301 hf
  have kc1 := Nat.sub_le_sub_right le0.1 (pm_sz h0)
  have kc2 := Nat.sub_le_sub_right le0.2 (pm_us h0)
  have K0 := pm_S3.rf h
  unfold fX14_init_b301 at hf
  obtain ⟨k38, hf⟩ := pm_if hf
  refine pm_putRF C dX14_init_301 flX14_129 rfl nm rfl fwX14_129 rfl k38 ?_
  refine pm_aload_n C dX14_init_304 rfl rfl ?_
  refine pm_bipush (v := 64) C dX14_init_305 (by decide) ?_
  refine pa_newa (hb := h) (h0 := h0) (t := 3) (N := 64) C X (pm_S3R K0) m0 dX14_init_307 (by decide) rfl al3 (by decide) (by decide +kernel) (by decide +kernel) (moX14_init_b309 hf) ?_
  exact pm_sub [0] rfl (bX14_init_309 C X ((m0.trans (pm_S3.le (pm_S3R K0))).trans (pm_Le_new _ _ _)) hf q nm)
set_option maxHeartbeats 4000000 in
set_option maxRecDepth 100000 in
theorem bX14_init_293 {g : pm_Gm} {l : Launch} {G : pm_Gl} {Qr : Option Value → pm_H → Prop} (C : pm_C g cX14_init RX14) {h0 h : pm_H} {x0 : Nat} {s0 : Nat} {s1 : Nat} {r : pm_H} (X : pm_X g l G mX14_init (pm_sz r - pm_sz h0) (pm_us r - pm_us h0) Qr) (m0 : pm_Le h0 h) (hf : fX14_init_b293 h x0 s0 s1 = some r) (q : Qr none r) (nm : g.2.2.2.2.2.2.2.2.1.name = "<init>") : pm_G g 293 [(0, .ref x0)] [.ref s0, .ref s1] h (pm_sz h - pm_sz h0) (pm_us h - pm_us h0) := by
  have le0 := moX14_init_b293 hf
  have kc1 := Nat.sub_le_sub_right le0.1 (pm_sz h0)
  have kc2 := Nat.sub_le_sub_right le0.2 (pm_us h0)
  have K0 := pm_S3.rf h
  unfold fX14_init_b293 at hf
  obtain ⟨k37, hf⟩ := pm_if hf
  refine pm_putRF C dX14_init_293 flX14_126 rfl nm rfl fwX14_126 rfl k37 ?_
  refine pm_aload_n C dX14_init_296 rfl rfl ?_
  refine pm_bipush (v := 64) C dX14_init_297 (by decide) ?_
  refine pa_newa (hb := h) (h0 := h0) (t := 2) (N := 64) C X (pm_S3R K0) m0 dX14_init_299 (by decide) rfl al2 (by decide) (by decide +kernel) (by decide +kernel) (moX14_init_b301 hf) ?_
  exact pm_sub [0] rfl (bX14_init_301 C X ((m0.trans (pm_S3.le (pm_S3R K0))).trans (pm_Le_new _ _ _)) hf q nm)
set_option maxHeartbeats 4000000 in
set_option maxRecDepth 100000 in
theorem bX14_init_285 {g : pm_Gm} {l : Launch} {G : pm_Gl} {Qr : Option Value → pm_H → Prop} (C : pm_C g cX14_init RX14) {h0 h : pm_H} {x0 : Nat} {s0 : Nat} {s1 : Nat} {r : pm_H} (X : pm_X g l G mX14_init (pm_sz r - pm_sz h0) (pm_us r - pm_us h0) Qr) (m0 : pm_Le h0 h) (hf : fX14_init_b285 h x0 s0 s1 = some r) (q : Qr none r) (nm : g.2.2.2.2.2.2.2.2.1.name = "<init>") : pm_G g 285 [(0, .ref x0)] [.ref s0, .ref s1] h (pm_sz h - pm_sz h0) (pm_us h - pm_us h0) := by
  have le0 := moX14_init_b285 hf
  have kc1 := Nat.sub_le_sub_right le0.1 (pm_sz h0)
  have kc2 := Nat.sub_le_sub_right le0.2 (pm_us h0)
  have K0 := pm_S3.rf h
  unfold fX14_init_b285 at hf
  obtain ⟨k36, hf⟩ := pm_if hf
  refine pm_putRF C dX14_init_285 flX14_123 rfl nm rfl fwX14_123 rfl k36 ?_
  refine pm_aload_n C dX14_init_288 rfl rfl ?_
  refine pm_bipush (v := 64) C dX14_init_289 (by decide) ?_
  refine pa_newa (hb := h) (h0 := h0) (t := 2) (N := 64) C X (pm_S3R K0) m0 dX14_init_291 (by decide) rfl al2 (by decide) (by decide +kernel) (by decide +kernel) (moX14_init_b293 hf) ?_
  exact pm_sub [0] rfl (bX14_init_293 C X ((m0.trans (pm_S3.le (pm_S3R K0))).trans (pm_Le_new _ _ _)) hf q nm)
set_option maxHeartbeats 4000000 in
set_option maxRecDepth 100000 in
theorem bX14_init_277 {g : pm_Gm} {l : Launch} {G : pm_Gl} {Qr : Option Value → pm_H → Prop} (C : pm_C g cX14_init RX14) {h0 h : pm_H} {x0 : Nat} {s0 : Nat} {s1 : Nat} {r : pm_H} (X : pm_X g l G mX14_init (pm_sz r - pm_sz h0) (pm_us r - pm_us h0) Qr) (m0 : pm_Le h0 h) (hf : fX14_init_b277 h x0 s0 s1 = some r) (q : Qr none r) (nm : g.2.2.2.2.2.2.2.2.1.name = "<init>") : pm_G g 277 [(0, .ref x0)] [.ref s0, .ref s1] h (pm_sz h - pm_sz h0) (pm_us h - pm_us h0) := by
  have le0 := moX14_init_b277 hf
  have kc1 := Nat.sub_le_sub_right le0.1 (pm_sz h0)
  have kc2 := Nat.sub_le_sub_right le0.2 (pm_us h0)
  have K0 := pm_S3.rf h
  unfold fX14_init_b277 at hf
  obtain ⟨k35, hf⟩ := pm_if hf
  refine pm_putRF C dX14_init_277 flX14_120 rfl nm rfl fwX14_120 rfl k35 ?_
  refine pm_aload_n C dX14_init_280 rfl rfl ?_
  refine pm_bipush (v := 64) C dX14_init_281 (by decide) ?_
  refine pa_newa (hb := h) (h0 := h0) (t := 2) (N := 64) C X (pm_S3R K0) m0 dX14_init_283 (by decide) rfl al2 (by decide) (by decide +kernel) (by decide +kernel) (moX14_init_b285 hf) ?_
  exact pm_sub [0] rfl (bX14_init_285 C X ((m0.trans (pm_S3.le (pm_S3R K0))).trans (pm_Le_new _ _ _)) hf q nm)
set_option maxHeartbeats 4000000 in
set_option maxRecDepth 100000 in
theorem bX14_init_269 {g : pm_Gm} {l : Launch} {G : pm_Gl} {Qr : Option Value → pm_H → Prop} (C : pm_C g cX14_init RX14) {h0 h : pm_H} {x0 : Nat} {s0 : Nat} {s1 : Nat} {r : pm_H} (X : pm_X g l G mX14_init (pm_sz r - pm_sz h0) (pm_us r - pm_us h0) Qr) (m0 : pm_Le h0 h) (hf : fX14_init_b269 h x0 s0 s1 = some r) (q : Qr none r) (nm : g.2.2.2.2.2.2.2.2.1.name = "<init>") : pm_G g 269 [(0, .ref x0)] [.ref s0, .ref s1] h (pm_sz h - pm_sz h0) (pm_us h - pm_us h0) := by
  have le0 := moX14_init_b269 hf
  have kc1 := Nat.sub_le_sub_right le0.1 (pm_sz h0)
  have kc2 := Nat.sub_le_sub_right le0.2 (pm_us h0)
  have K0 := pm_S3.rf h
  unfold fX14_init_b269 at hf
  obtain ⟨k34, hf⟩ := pm_if hf
  refine pm_putRF C dX14_init_269 flX14_117 rfl nm rfl fwX14_117 rfl k34 ?_
  refine pm_aload_n C dX14_init_272 rfl rfl ?_
  refine pm_bipush (v := 64) C dX14_init_273 (by decide) ?_
  refine pa_newa (hb := h) (h0 := h0) (t := 2) (N := 64) C X (pm_S3R K0) m0 dX14_init_275 (by decide) rfl al2 (by decide) (by decide +kernel) (by decide +kernel) (moX14_init_b277 hf) ?_
  exact pm_sub [0] rfl (bX14_init_277 C X ((m0.trans (pm_S3.le (pm_S3R K0))).trans (pm_Le_new _ _ _)) hf q nm)
set_option maxHeartbeats 4000000 in
set_option maxRecDepth 100000 in
theorem bX14_init_261 {g : pm_Gm} {l : Launch} {G : pm_Gl} {Qr : Option Value → pm_H → Prop} (C : pm_C g cX14_init RX14) {h0 h : pm_H} {x0 : Nat} {s0 : Nat} {s1 : Nat} {r : pm_H} (X : pm_X g l G mX14_init (pm_sz r - pm_sz h0) (pm_us r - pm_us h0) Qr) (m0 : pm_Le h0 h) (hf : fX14_init_b261 h x0 s0 s1 = some r) (q : Qr none r) (nm : g.2.2.2.2.2.2.2.2.1.name = "<init>") : pm_G g 261 [(0, .ref x0)] [.ref s0, .ref s1] h (pm_sz h - pm_sz h0) (pm_us h - pm_us h0) := by
  have le0 := moX14_init_b261 hf
  have kc1 := Nat.sub_le_sub_right le0.1 (pm_sz h0)
  have kc2 := Nat.sub_le_sub_right le0.2 (pm_us h0)
  have K0 := pm_S3.rf h
  unfold fX14_init_b261 at hf
  obtain ⟨k33, hf⟩ := pm_if hf
  refine pm_putRF C dX14_init_261 flX14_114 rfl nm rfl fwX14_114 rfl k33 ?_
  refine pm_aload_n C dX14_init_264 rfl rfl ?_
  refine pm_bipush (v := 64) C dX14_init_265 (by decide) ?_
  refine pa_newa (hb := h) (h0 := h0) (t := 3) (N := 64) C X (pm_S3R K0) m0 dX14_init_267 (by decide) rfl al3 (by decide) (by decide +kernel) (by decide +kernel) (moX14_init_b269 hf) ?_
  exact pm_sub [0] rfl (bX14_init_269 C X ((m0.trans (pm_S3.le (pm_S3R K0))).trans (pm_Le_new _ _ _)) hf q nm)
set_option maxHeartbeats 4000000 in
set_option maxRecDepth 100000 in
theorem bX14_init_246 {g : pm_Gm} {l : Launch} {G : pm_Gl} {Qr : Option Value → pm_H → Prop} (C : pm_C g cX14_init RX14) {h0 h : pm_H} {x0 : Nat} {s0 : Nat} {s1 : Nat} {r : pm_H} (X : pm_X g l G mX14_init (pm_sz r - pm_sz h0) (pm_us r - pm_us h0) Qr) (m0 : pm_Le h0 h) (hf : fX14_init_b246 h x0 s0 s1 = some r) (q : Qr none r) (nm : g.2.2.2.2.2.2.2.2.1.name = "<init>") : pm_G g 246 [(0, .ref x0)] [.ref s0, .ref s1] h (pm_sz h - pm_sz h0) (pm_us h - pm_us h0) := by
  have le0 := moX14_init_b246 hf
  have kc1 := Nat.sub_le_sub_right le0.1 (pm_sz h0)
  have kc2 := Nat.sub_le_sub_right le0.2 (pm_us h0)
  have K0 := pm_S3.rf h
  unfold fX14_init_b246 at hf
  obtain ⟨k31, hf⟩ := pm_if hf
  refine pm_putRF C dX14_init_246 flX14_108 rfl nm rfl fwX14_108 rfl k31 ?_
  refine pm_aload_n C dX14_init_249 rfl rfl ?_
  refine pm_ldc2 C dX14_init_250 cnX14_84 ?_
  obtain ⟨k32, hf⟩ := pm_if hf
  refine pm_putL C dX14_init_253 flX14_111 rfl rfl k32 ?_
  refine pm_aload_n C dX14_init_256 rfl rfl ?_
  refine pm_bipush (v := 64) C dX14_init_257 (by decide) ?_
  refine pa_newa (hb := h) (h0 := h0) (t := 0) (N := 64) C X (pm_S3L (pm_S3R K0)) m0 dX14_init_259 (by decide) rfl al0 (by decide) (by decide +kernel) (by decide +kernel) (moX14_init_b261 hf) ?_
  exact pm_sub [0] rfl (bX14_init_261 C X ((m0.trans (pm_S3.le (pm_S3L (pm_S3R K0)))).trans (pm_Le_new _ _ _)) hf q nm)
set_option maxHeartbeats 4000000 in
set_option maxRecDepth 100000 in
theorem bX14_init_238 {g : pm_Gm} {l : Launch} {G : pm_Gl} {Qr : Option Value → pm_H → Prop} (C : pm_C g cX14_init RX14) {h0 h : pm_H} {x0 : Nat} {s0 : Nat} {s1 : Nat} {r : pm_H} (X : pm_X g l G mX14_init (pm_sz r - pm_sz h0) (pm_us r - pm_us h0) Qr) (m0 : pm_Le h0 h) (hf : fX14_init_b238 h x0 s0 s1 = some r) (q : Qr none r) (nm : g.2.2.2.2.2.2.2.2.1.name = "<init>") : pm_G g 238 [(0, .ref x0)] [.ref s0, .ref s1] h (pm_sz h - pm_sz h0) (pm_us h - pm_us h0) := by
  have le0 := moX14_init_b238 hf
  have kc1 := Nat.sub_le_sub_right le0.1 (pm_sz h0)
  have kc2 := Nat.sub_le_sub_right le0.2 (pm_us h0)
  have K0 := pm_S3.rf h
  unfold fX14_init_b238 at hf
  obtain ⟨k30, hf⟩ := pm_if hf
  refine pm_putRF C dX14_init_238 flX14_105 rfl nm rfl fwX14_105 rfl k30 ?_
  refine pm_aload_n C dX14_init_241 rfl rfl ?_
  refine pm_bipush (v := 64) C dX14_init_242 (by decide) ?_
  refine pa_newa (hb := h) (h0 := h0) (t := 2) (N := 64) C X (pm_S3R K0) m0 dX14_init_244 (by decide) rfl al2 (by decide) (by decide +kernel) (by decide +kernel) (moX14_init_b246 hf) ?_
  exact pm_sub [0] rfl (bX14_init_246 C X ((m0.trans (pm_S3.le (pm_S3R K0))).trans (pm_Le_new _ _ _)) hf q nm)
set_option maxHeartbeats 4000000 in
set_option maxRecDepth 100000 in
theorem bX14_init_230 {g : pm_Gm} {l : Launch} {G : pm_Gl} {Qr : Option Value → pm_H → Prop} (C : pm_C g cX14_init RX14) {h0 h : pm_H} {x0 : Nat} {s0 : Nat} {s1 : Nat} {r : pm_H} (X : pm_X g l G mX14_init (pm_sz r - pm_sz h0) (pm_us r - pm_us h0) Qr) (m0 : pm_Le h0 h) (hf : fX14_init_b230 h x0 s0 s1 = some r) (q : Qr none r) (nm : g.2.2.2.2.2.2.2.2.1.name = "<init>") : pm_G g 230 [(0, .ref x0)] [.ref s0, .ref s1] h (pm_sz h - pm_sz h0) (pm_us h - pm_us h0) := by
  have le0 := moX14_init_b230 hf
  have kc1 := Nat.sub_le_sub_right le0.1 (pm_sz h0)
  have kc2 := Nat.sub_le_sub_right le0.2 (pm_us h0)
  have K0 := pm_S3.rf h
  unfold fX14_init_b230 at hf
  obtain ⟨k29, hf⟩ := pm_if hf
  refine pm_putRF C dX14_init_230 flX14_102 rfl nm rfl fwX14_102 rfl k29 ?_
  refine pm_aload_n C dX14_init_233 rfl rfl ?_
  refine pm_bipush (v := 64) C dX14_init_234 (by decide) ?_
  refine pa_newa (hb := h) (h0 := h0) (t := 2) (N := 64) C X (pm_S3R K0) m0 dX14_init_236 (by decide) rfl al2 (by decide) (by decide +kernel) (by decide +kernel) (moX14_init_b238 hf) ?_
  exact pm_sub [0] rfl (bX14_init_238 C X ((m0.trans (pm_S3.le (pm_S3R K0))).trans (pm_Le_new _ _ _)) hf q nm)
set_option maxHeartbeats 4000000 in
set_option maxRecDepth 100000 in
theorem bX14_init_222 {g : pm_Gm} {l : Launch} {G : pm_Gl} {Qr : Option Value → pm_H → Prop} (C : pm_C g cX14_init RX14) {h0 h : pm_H} {x0 : Nat} {s0 : Nat} {s1 : Nat} {r : pm_H} (X : pm_X g l G mX14_init (pm_sz r - pm_sz h0) (pm_us r - pm_us h0) Qr) (m0 : pm_Le h0 h) (hf : fX14_init_b222 h x0 s0 s1 = some r) (q : Qr none r) (nm : g.2.2.2.2.2.2.2.2.1.name = "<init>") : pm_G g 222 [(0, .ref x0)] [.ref s0, .ref s1] h (pm_sz h - pm_sz h0) (pm_us h - pm_us h0) := by
  have le0 := moX14_init_b222 hf
  have kc1 := Nat.sub_le_sub_right le0.1 (pm_sz h0)
  have kc2 := Nat.sub_le_sub_right le0.2 (pm_us h0)
  have K0 := pm_S3.rf h
  unfold fX14_init_b222 at hf
  obtain ⟨k28, hf⟩ := pm_if hf
  refine pm_putRF C dX14_init_222 flX14_99 rfl nm rfl fwX14_99 rfl k28 ?_
  refine pm_aload_n C dX14_init_225 rfl rfl ?_
  refine pm_bipush (v := 64) C dX14_init_226 (by decide) ?_
  refine pa_newa (hb := h) (h0 := h0) (t := 0) (N := 64) C X (pm_S3R K0) m0 dX14_init_228 (by decide) rfl al0 (by decide) (by decide +kernel) (by decide +kernel) (moX14_init_b230 hf) ?_
  exact pm_sub [0] rfl (bX14_init_230 C X ((m0.trans (pm_S3.le (pm_S3R K0))).trans (pm_Le_new _ _ _)) hf q nm)
set_option maxHeartbeats 4000000 in
set_option maxRecDepth 100000 in
theorem bX14_init_214 {g : pm_Gm} {l : Launch} {G : pm_Gl} {Qr : Option Value → pm_H → Prop} (C : pm_C g cX14_init RX14) {h0 h : pm_H} {x0 : Nat} {s0 : Nat} {s1 : Nat} {r : pm_H} (X : pm_X g l G mX14_init (pm_sz r - pm_sz h0) (pm_us r - pm_us h0) Qr) (m0 : pm_Le h0 h) (hf : fX14_init_b214 h x0 s0 s1 = some r) (q : Qr none r) (nm : g.2.2.2.2.2.2.2.2.1.name = "<init>") : pm_G g 214 [(0, .ref x0)] [.ref s0, .ref s1] h (pm_sz h - pm_sz h0) (pm_us h - pm_us h0) := by
  have le0 := moX14_init_b214 hf
  have kc1 := Nat.sub_le_sub_right le0.1 (pm_sz h0)
  have kc2 := Nat.sub_le_sub_right le0.2 (pm_us h0)
  have K0 := pm_S3.rf h
  unfold fX14_init_b214 at hf
  obtain ⟨k27, hf⟩ := pm_if hf
  refine pm_putRF C dX14_init_214 flX14_96 rfl nm rfl fwX14_96 rfl k27 ?_
  refine pm_aload_n C dX14_init_217 rfl rfl ?_
  refine pm_bipush (v := 64) C dX14_init_218 (by decide) ?_
  refine pa_newa (hb := h) (h0 := h0) (t := 2) (N := 64) C X (pm_S3R K0) m0 dX14_init_220 (by decide) rfl al2 (by decide) (by decide +kernel) (by decide +kernel) (moX14_init_b222 hf) ?_
  exact pm_sub [0] rfl (bX14_init_222 C X ((m0.trans (pm_S3.le (pm_S3R K0))).trans (pm_Le_new _ _ _)) hf q nm)
set_option maxHeartbeats 4000000 in
set_option maxRecDepth 100000 in
theorem bX14_init_206 {g : pm_Gm} {l : Launch} {G : pm_Gl} {Qr : Option Value → pm_H → Prop} (C : pm_C g cX14_init RX14) {h0 h : pm_H} {x0 : Nat} {s0 : Nat} {s1 : Nat} {r : pm_H} (X : pm_X g l G mX14_init (pm_sz r - pm_sz h0) (pm_us r - pm_us h0) Qr) (m0 : pm_Le h0 h) (hf : fX14_init_b206 h x0 s0 s1 = some r) (q : Qr none r) (nm : g.2.2.2.2.2.2.2.2.1.name = "<init>") : pm_G g 206 [(0, .ref x0)] [.ref s0, .ref s1] h (pm_sz h - pm_sz h0) (pm_us h - pm_us h0) := by
  have le0 := moX14_init_b206 hf
  have kc1 := Nat.sub_le_sub_right le0.1 (pm_sz h0)
  have kc2 := Nat.sub_le_sub_right le0.2 (pm_us h0)
  have K0 := pm_S3.rf h
  unfold fX14_init_b206 at hf
  obtain ⟨k26, hf⟩ := pm_if hf
  refine pm_putRF C dX14_init_206 flX14_93 rfl nm rfl fwX14_93 rfl k26 ?_
  refine pm_aload_n C dX14_init_209 rfl rfl ?_
  refine pm_bipush (v := 64) C dX14_init_210 (by decide) ?_
  refine pa_newa (hb := h) (h0 := h0) (t := 2) (N := 64) C X (pm_S3R K0) m0 dX14_init_212 (by decide) rfl al2 (by decide) (by decide +kernel) (by decide +kernel) (moX14_init_b214 hf) ?_
  exact pm_sub [0] rfl (bX14_init_214 C X ((m0.trans (pm_S3.le (pm_S3R K0))).trans (pm_Le_new _ _ _)) hf q nm)
set_option maxHeartbeats 4000000 in
set_option maxRecDepth 100000 in
theorem bX14_init_198 {g : pm_Gm} {l : Launch} {G : pm_Gl} {Qr : Option Value → pm_H → Prop} (C : pm_C g cX14_init RX14) {h0 h : pm_H} {x0 : Nat} {s0 : Nat} {s1 : Nat} {r : pm_H} (X : pm_X g l G mX14_init (pm_sz r - pm_sz h0) (pm_us r - pm_us h0) Qr) (m0 : pm_Le h0 h) (hf : fX14_init_b198 h x0 s0 s1 = some r) (q : Qr none r) (nm : g.2.2.2.2.2.2.2.2.1.name = "<init>") : pm_G g 198 [(0, .ref x0)] [.ref s0, .ref s1] h (pm_sz h - pm_sz h0) (pm_us h - pm_us h0) := by
  have le0 := moX14_init_b198 hf
  have kc1 := Nat.sub_le_sub_right le0.1 (pm_sz h0)
  have kc2 := Nat.sub_le_sub_right le0.2 (pm_us h0)
  have K0 := pm_S3.rf h
  unfold fX14_init_b198 at hf
  obtain ⟨k25, hf⟩ := pm_if hf
  refine pm_putRF C dX14_init_198 flX14_90 rfl nm rfl fwX14_90 rfl k25 ?_
  refine pm_aload_n C dX14_init_201 rfl rfl ?_
  refine pm_bipush (v := 64) C dX14_init_202 (by decide) ?_
  refine pa_newa (hb := h) (h0 := h0) (t := 3) (N := 64) C X (pm_S3R K0) m0 dX14_init_204 (by decide) rfl al3 (by decide) (by decide +kernel) (by decide +kernel) (moX14_init_b206 hf) ?_
  exact pm_sub [0] rfl (bX14_init_206 C X ((m0.trans (pm_S3.le (pm_S3R K0))).trans (pm_Le_new _ _ _)) hf q nm)
set_option maxHeartbeats 4000000 in
set_option maxRecDepth 100000 in
theorem bX14_init_183 {g : pm_Gm} {l : Launch} {G : pm_Gl} {Qr : Option Value → pm_H → Prop} (C : pm_C g cX14_init RX14) {h0 h : pm_H} {x0 : Nat} {s0 : Nat} {s1 : Nat} {r : pm_H} (X : pm_X g l G mX14_init (pm_sz r - pm_sz h0) (pm_us r - pm_us h0) Qr) (m0 : pm_Le h0 h) (hf : fX14_init_b183 h x0 s0 s1 = some r) (q : Qr none r) (nm : g.2.2.2.2.2.2.2.2.1.name = "<init>") : pm_G g 183 [(0, .ref x0)] [.ref s0, .ref s1] h (pm_sz h - pm_sz h0) (pm_us h - pm_us h0) := by
  have le0 := moX14_init_b183 hf
  have kc1 := Nat.sub_le_sub_right le0.1 (pm_sz h0)
  have kc2 := Nat.sub_le_sub_right le0.2 (pm_us h0)
  have K0 := pm_S3.rf h
  unfold fX14_init_b183 at hf
  obtain ⟨k23, hf⟩ := pm_if hf
  refine pm_putRF C dX14_init_183 flX14_81 rfl nm rfl fwX14_81 rfl k23 ?_
  refine pm_aload_n C dX14_init_186 rfl rfl ?_
  refine pm_ldc2 C dX14_init_187 cnX14_84 ?_
  obtain ⟨k24, hf⟩ := pm_if hf
  refine pm_putL C dX14_init_190 flX14_86 rfl rfl k24 ?_
  refine pm_aload_n C dX14_init_193 rfl rfl ?_
  refine pm_bipush (v := 64) C dX14_init_194 (by decide) ?_
  refine pa_newa (hb := h) (h0 := h0) (t := 2) (N := 64) C X (pm_S3L (pm_S3R K0)) m0 dX14_init_196 (by decide) rfl al2 (by decide) (by decide +kernel) (by decide +kernel) (moX14_init_b198 hf) ?_
  exact pm_sub [0] rfl (bX14_init_198 C X ((m0.trans (pm_S3.le (pm_S3L (pm_S3R K0)))).trans (pm_Le_new _ _ _)) hf q nm)
set_option maxHeartbeats 4000000 in
set_option maxRecDepth 100000 in
theorem bX14_init_175 {g : pm_Gm} {l : Launch} {G : pm_Gl} {Qr : Option Value → pm_H → Prop} (C : pm_C g cX14_init RX14) {h0 h : pm_H} {x0 : Nat} {s0 : Nat} {s1 : Nat} {r : pm_H} (X : pm_X g l G mX14_init (pm_sz r - pm_sz h0) (pm_us r - pm_us h0) Qr) (m0 : pm_Le h0 h) (hf : fX14_init_b175 h x0 s0 s1 = some r) (q : Qr none r) (nm : g.2.2.2.2.2.2.2.2.1.name = "<init>") : pm_G g 175 [(0, .ref x0)] [.ref s0, .ref s1] h (pm_sz h - pm_sz h0) (pm_us h - pm_us h0) := by
  have le0 := moX14_init_b175 hf
  have kc1 := Nat.sub_le_sub_right le0.1 (pm_sz h0)
  have kc2 := Nat.sub_le_sub_right le0.2 (pm_us h0)
  have K0 := pm_S3.rf h
  unfold fX14_init_b175 at hf
  obtain ⟨k22, hf⟩ := pm_if hf
  refine pm_putRF C dX14_init_175 flX14_78 rfl nm rfl fwX14_78 rfl k22 ?_
  refine pm_aload_n C dX14_init_178 rfl rfl ?_
  refine pm_bipush (v := 64) C dX14_init_179 (by decide) ?_
  refine pa_newa (hb := h) (h0 := h0) (t := 3) (N := 64) C X (pm_S3R K0) m0 dX14_init_181 (by decide) rfl al3 (by decide) (by decide +kernel) (by decide +kernel) (moX14_init_b183 hf) ?_
  exact pm_sub [0] rfl (bX14_init_183 C X ((m0.trans (pm_S3.le (pm_S3R K0))).trans (pm_Le_new _ _ _)) hf q nm)
set_option maxHeartbeats 4000000 in
set_option maxRecDepth 100000 in
theorem bX14_init_167 {g : pm_Gm} {l : Launch} {G : pm_Gl} {Qr : Option Value → pm_H → Prop} (C : pm_C g cX14_init RX14) {h0 h : pm_H} {x0 : Nat} {s0 : Nat} {s1 : Nat} {r : pm_H} (X : pm_X g l G mX14_init (pm_sz r - pm_sz h0) (pm_us r - pm_us h0) Qr) (m0 : pm_Le h0 h) (hf : fX14_init_b167 h x0 s0 s1 = some r) (q : Qr none r) (nm : g.2.2.2.2.2.2.2.2.1.name = "<init>") : pm_G g 167 [(0, .ref x0)] [.ref s0, .ref s1] h (pm_sz h - pm_sz h0) (pm_us h - pm_us h0) := by
  have le0 := moX14_init_b167 hf
  have kc1 := Nat.sub_le_sub_right le0.1 (pm_sz h0)
  have kc2 := Nat.sub_le_sub_right le0.2 (pm_us h0)
  have K0 := pm_S3.rf h
  unfold fX14_init_b167 at hf
  obtain ⟨k21, hf⟩ := pm_if hf
  refine pm_putRF C dX14_init_167 flX14_75 rfl nm rfl fwX14_75 rfl k21 ?_
  refine pm_aload_n C dX14_init_170 rfl rfl ?_
  refine pm_bipush (v := 64) C dX14_init_171 (by decide) ?_
  refine pa_newa (hb := h) (h0 := h0) (t := 2) (N := 64) C X (pm_S3R K0) m0 dX14_init_173 (by decide) rfl al2 (by decide) (by decide +kernel) (by decide +kernel) (moX14_init_b175 hf) ?_
  exact pm_sub [0] rfl (bX14_init_175 C X ((m0.trans (pm_S3.le (pm_S3R K0))).trans (pm_Le_new _ _ _)) hf q nm)
set_option maxHeartbeats 4000000 in
set_option maxRecDepth 100000 in
theorem bX14_init_159 {g : pm_Gm} {l : Launch} {G : pm_Gl} {Qr : Option Value → pm_H → Prop} (C : pm_C g cX14_init RX14) {h0 h : pm_H} {x0 : Nat} {s0 : Nat} {s1 : Nat} {r : pm_H} (X : pm_X g l G mX14_init (pm_sz r - pm_sz h0) (pm_us r - pm_us h0) Qr) (m0 : pm_Le h0 h) (hf : fX14_init_b159 h x0 s0 s1 = some r) (q : Qr none r) (nm : g.2.2.2.2.2.2.2.2.1.name = "<init>") : pm_G g 159 [(0, .ref x0)] [.ref s0, .ref s1] h (pm_sz h - pm_sz h0) (pm_us h - pm_us h0) := by
  have le0 := moX14_init_b159 hf
  have kc1 := Nat.sub_le_sub_right le0.1 (pm_sz h0)
  have kc2 := Nat.sub_le_sub_right le0.2 (pm_us h0)
  have K0 := pm_S3.rf h
  unfold fX14_init_b159 at hf
  obtain ⟨k20, hf⟩ := pm_if hf
  refine pm_putRF C dX14_init_159 flX14_72 rfl nm rfl fwX14_72 rfl k20 ?_
  refine pm_aload_n C dX14_init_162 rfl rfl ?_
  refine pm_bipush (v := 64) C dX14_init_163 (by decide) ?_
  refine pa_newa (hb := h) (h0 := h0) (t := 2) (N := 64) C X (pm_S3R K0) m0 dX14_init_165 (by decide) rfl al2 (by decide) (by decide +kernel) (by decide +kernel) (moX14_init_b167 hf) ?_
  exact pm_sub [0] rfl (bX14_init_167 C X ((m0.trans (pm_S3.le (pm_S3R K0))).trans (pm_Le_new _ _ _)) hf q nm)
set_option maxHeartbeats 4000000 in
set_option maxRecDepth 100000 in
theorem bX14_init_151 {g : pm_Gm} {l : Launch} {G : pm_Gl} {Qr : Option Value → pm_H → Prop} (C : pm_C g cX14_init RX14) {h0 h : pm_H} {x0 : Nat} {s0 : Nat} {s1 : Nat} {r : pm_H} (X : pm_X g l G mX14_init (pm_sz r - pm_sz h0) (pm_us r - pm_us h0) Qr) (m0 : pm_Le h0 h) (hf : fX14_init_b151 h x0 s0 s1 = some r) (q : Qr none r) (nm : g.2.2.2.2.2.2.2.2.1.name = "<init>") : pm_G g 151 [(0, .ref x0)] [.ref s0, .ref s1] h (pm_sz h - pm_sz h0) (pm_us h - pm_us h0) := by
  have le0 := moX14_init_b151 hf
  have kc1 := Nat.sub_le_sub_right le0.1 (pm_sz h0)
  have kc2 := Nat.sub_le_sub_right le0.2 (pm_us h0)
  have K0 := pm_S3.rf h
  unfold fX14_init_b151 at hf
  obtain ⟨k19, hf⟩ := pm_if hf
  refine pm_putRF C dX14_init_151 flX14_69 rfl nm rfl fwX14_69 rfl k19 ?_
  refine pm_aload_n C dX14_init_154 rfl rfl ?_
  refine pm_bipush (v := 64) C dX14_init_155 (by decide) ?_
  refine pa_newa (hb := h) (h0 := h0) (t := 2) (N := 64) C X (pm_S3R K0) m0 dX14_init_157 (by decide) rfl al2 (by decide) (by decide +kernel) (by decide +kernel) (moX14_init_b159 hf) ?_
  exact pm_sub [0] rfl (bX14_init_159 C X ((m0.trans (pm_S3.le (pm_S3R K0))).trans (pm_Le_new _ _ _)) hf q nm)
set_option maxHeartbeats 4000000 in
set_option maxRecDepth 100000 in
theorem bX14_init_143 {g : pm_Gm} {l : Launch} {G : pm_Gl} {Qr : Option Value → pm_H → Prop} (C : pm_C g cX14_init RX14) {h0 h : pm_H} {x0 : Nat} {s0 : Nat} {s1 : Nat} {r : pm_H} (X : pm_X g l G mX14_init (pm_sz r - pm_sz h0) (pm_us r - pm_us h0) Qr) (m0 : pm_Le h0 h) (hf : fX14_init_b143 h x0 s0 s1 = some r) (q : Qr none r) (nm : g.2.2.2.2.2.2.2.2.1.name = "<init>") : pm_G g 143 [(0, .ref x0)] [.ref s0, .ref s1] h (pm_sz h - pm_sz h0) (pm_us h - pm_us h0) := by
  have le0 := moX14_init_b143 hf
  have kc1 := Nat.sub_le_sub_right le0.1 (pm_sz h0)
  have kc2 := Nat.sub_le_sub_right le0.2 (pm_us h0)
  have K0 := pm_S3.rf h
  unfold fX14_init_b143 at hf
  obtain ⟨k18, hf⟩ := pm_if hf
  refine pm_putRF C dX14_init_143 flX14_66 rfl nm rfl fwX14_66 rfl k18 ?_
  refine pm_aload_n C dX14_init_146 rfl rfl ?_
  refine pm_bipush (v := 64) C dX14_init_147 (by decide) ?_
  refine pa_newa (hb := h) (h0 := h0) (t := 2) (N := 64) C X (pm_S3R K0) m0 dX14_init_149 (by decide) rfl al2 (by decide) (by decide +kernel) (by decide +kernel) (moX14_init_b151 hf) ?_
  exact pm_sub [0] rfl (bX14_init_151 C X ((m0.trans (pm_S3.le (pm_S3R K0))).trans (pm_Le_new _ _ _)) hf q nm)
set_option maxHeartbeats 4000000 in
set_option maxRecDepth 100000 in
theorem bX14_init_135 {g : pm_Gm} {l : Launch} {G : pm_Gl} {Qr : Option Value → pm_H → Prop} (C : pm_C g cX14_init RX14) {h0 h : pm_H} {x0 : Nat} {s0 : Nat} {s1 : Nat} {r : pm_H} (X : pm_X g l G mX14_init (pm_sz r - pm_sz h0) (pm_us r - pm_us h0) Qr) (m0 : pm_Le h0 h) (hf : fX14_init_b135 h x0 s0 s1 = some r) (q : Qr none r) (nm : g.2.2.2.2.2.2.2.2.1.name = "<init>") : pm_G g 135 [(0, .ref x0)] [.ref s0, .ref s1] h (pm_sz h - pm_sz h0) (pm_us h - pm_us h0) := by
  have le0 := moX14_init_b135 hf
  have kc1 := Nat.sub_le_sub_right le0.1 (pm_sz h0)
  have kc2 := Nat.sub_le_sub_right le0.2 (pm_us h0)
  have K0 := pm_S3.rf h
  unfold fX14_init_b135 at hf
  obtain ⟨k17, hf⟩ := pm_if hf
  refine pm_putRF C dX14_init_135 flX14_63 rfl nm rfl fwX14_63 rfl k17 ?_
  refine pm_aload_n C dX14_init_138 rfl rfl ?_
  refine pm_bipush (v := 64) C dX14_init_139 (by decide) ?_
  refine pa_newa (hb := h) (h0 := h0) (t := 0) (N := 64) C X (pm_S3R K0) m0 dX14_init_141 (by decide) rfl al0 (by decide) (by decide +kernel) (by decide +kernel) (moX14_init_b143 hf) ?_
  exact pm_sub [0] rfl (bX14_init_143 C X ((m0.trans (pm_S3.le (pm_S3R K0))).trans (pm_Le_new _ _ _)) hf q nm)
set_option maxHeartbeats 4000000 in
set_option maxRecDepth 100000 in
theorem bX14_init_127 {g : pm_Gm} {l : Launch} {G : pm_Gl} {Qr : Option Value → pm_H → Prop} (C : pm_C g cX14_init RX14) {h0 h : pm_H} {x0 : Nat} {s0 : Nat} {s1 : Nat} {r : pm_H} (X : pm_X g l G mX14_init (pm_sz r - pm_sz h0) (pm_us r - pm_us h0) Qr) (m0 : pm_Le h0 h) (hf : fX14_init_b127 h x0 s0 s1 = some r) (q : Qr none r) (nm : g.2.2.2.2.2.2.2.2.1.name = "<init>") : pm_G g 127 [(0, .ref x0)] [.ref s0, .ref s1] h (pm_sz h - pm_sz h0) (pm_us h - pm_us h0) := by
  have le0 := moX14_init_b127 hf
  have kc1 := Nat.sub_le_sub_right le0.1 (pm_sz h0)
  have kc2 := Nat.sub_le_sub_right le0.2 (pm_us h0)
  have K0 := pm_S3.rf h
  unfold fX14_init_b127 at hf
  obtain ⟨k16, hf⟩ := pm_if hf
  refine pm_putRF C dX14_init_127 flX14_60 rfl nm rfl fwX14_60 rfl k16 ?_
  refine pm_aload_n C dX14_init_130 rfl rfl ?_
  refine pm_bipush (v := 64) C dX14_init_131 (by decide) ?_
  refine pa_newa (hb := h) (h0 := h0) (t := 2) (N := 64) C X (pm_S3R K0) m0 dX14_init_133 (by decide) rfl al2 (by decide) (by decide +kernel) (by decide +kernel) (moX14_init_b135 hf) ?_
  exact pm_sub [0] rfl (bX14_init_135 C X ((m0.trans (pm_S3.le (pm_S3R K0))).trans (pm_Le_new _ _ _)) hf q nm)
set_option maxHeartbeats 4000000 in
set_option maxRecDepth 100000 in
theorem bX14_init_119 {g : pm_Gm} {l : Launch} {G : pm_Gl} {Qr : Option Value → pm_H → Prop} (C : pm_C g cX14_init RX14) {h0 h : pm_H} {x0 : Nat} {s0 : Nat} {s1 : Nat} {r : pm_H} (X : pm_X g l G mX14_init (pm_sz r - pm_sz h0) (pm_us r - pm_us h0) Qr) (m0 : pm_Le h0 h) (hf : fX14_init_b119 h x0 s0 s1 = some r) (q : Qr none r) (nm : g.2.2.2.2.2.2.2.2.1.name = "<init>") : pm_G g 119 [(0, .ref x0)] [.ref s0, .ref s1] h (pm_sz h - pm_sz h0) (pm_us h - pm_us h0) := by
  have le0 := moX14_init_b119 hf
  have kc1 := Nat.sub_le_sub_right le0.1 (pm_sz h0)
  have kc2 := Nat.sub_le_sub_right le0.2 (pm_us h0)
  have K0 := pm_S3.rf h
  unfold fX14_init_b119 at hf
  obtain ⟨k15, hf⟩ := pm_if hf
  refine pm_putRF C dX14_init_119 flX14_57 rfl nm rfl fwX14_57 rfl k15 ?_
  refine pm_aload_n C dX14_init_122 rfl rfl ?_
  refine pm_bipush (v := 64) C dX14_init_123 (by decide) ?_
  refine pa_newa (hb := h) (h0 := h0) (t := 3) (N := 64) C X (pm_S3R K0) m0 dX14_init_125 (by decide) rfl al3 (by decide) (by decide +kernel) (by decide +kernel) (moX14_init_b127 hf) ?_
  exact pm_sub [0] rfl (bX14_init_127 C X ((m0.trans (pm_S3.le (pm_S3R K0))).trans (pm_Le_new _ _ _)) hf q nm)
set_option maxHeartbeats 4000000 in
set_option maxRecDepth 100000 in
theorem bX14_init_111 {g : pm_Gm} {l : Launch} {G : pm_Gl} {Qr : Option Value → pm_H → Prop} (C : pm_C g cX14_init RX14) {h0 h : pm_H} {x0 : Nat} {s0 : Nat} {s1 : Nat} {r : pm_H} (X : pm_X g l G mX14_init (pm_sz r - pm_sz h0) (pm_us r - pm_us h0) Qr) (m0 : pm_Le h0 h) (hf : fX14_init_b111 h x0 s0 s1 = some r) (q : Qr none r) (nm : g.2.2.2.2.2.2.2.2.1.name = "<init>") : pm_G g 111 [(0, .ref x0)] [.ref s0, .ref s1] h (pm_sz h - pm_sz h0) (pm_us h - pm_us h0) := by
  have le0 := moX14_init_b111 hf
  have kc1 := Nat.sub_le_sub_right le0.1 (pm_sz h0)
  have kc2 := Nat.sub_le_sub_right le0.2 (pm_us h0)
  have K0 := pm_S3.rf h
  unfold fX14_init_b111 at hf
  obtain ⟨k14, hf⟩ := pm_if hf
  refine pm_putRF C dX14_init_111 flX14_54 rfl nm rfl fwX14_54 rfl k14 ?_
  refine pm_aload_n C dX14_init_114 rfl rfl ?_
  refine pm_bipush (v := 64) C dX14_init_115 (by decide) ?_
  refine pa_newa (hb := h) (h0 := h0) (t := 3) (N := 64) C X (pm_S3R K0) m0 dX14_init_117 (by decide) rfl al3 (by decide) (by decide +kernel) (by decide +kernel) (moX14_init_b119 hf) ?_
  exact pm_sub [0] rfl (bX14_init_119 C X ((m0.trans (pm_S3.le (pm_S3R K0))).trans (pm_Le_new _ _ _)) hf q nm)
set_option maxHeartbeats 4000000 in
set_option maxRecDepth 100000 in
theorem bX14_init_103 {g : pm_Gm} {l : Launch} {G : pm_Gl} {Qr : Option Value → pm_H → Prop} (C : pm_C g cX14_init RX14) {h0 h : pm_H} {x0 : Nat} {s0 : Nat} {s1 : Nat} {r : pm_H} (X : pm_X g l G mX14_init (pm_sz r - pm_sz h0) (pm_us r - pm_us h0) Qr) (m0 : pm_Le h0 h) (hf : fX14_init_b103 h x0 s0 s1 = some r) (q : Qr none r) (nm : g.2.2.2.2.2.2.2.2.1.name = "<init>") : pm_G g 103 [(0, .ref x0)] [.ref s0, .ref s1] h (pm_sz h - pm_sz h0) (pm_us h - pm_us h0) := by
  have le0 := moX14_init_b103 hf
  have kc1 := Nat.sub_le_sub_right le0.1 (pm_sz h0)
  have kc2 := Nat.sub_le_sub_right le0.2 (pm_us h0)
  have K0 := pm_S3.rf h
  unfold fX14_init_b103 at hf
  obtain ⟨k13, hf⟩ := pm_if hf
  refine pm_putRF C dX14_init_103 flX14_51 rfl nm rfl fwX14_51 rfl k13 ?_
  refine pm_aload_n C dX14_init_106 rfl rfl ?_
  refine pm_bipush (v := 64) C dX14_init_107 (by decide) ?_
  refine pa_newa (hb := h) (h0 := h0) (t := 3) (N := 64) C X (pm_S3R K0) m0 dX14_init_109 (by decide) rfl al3 (by decide) (by decide +kernel) (by decide +kernel) (moX14_init_b111 hf) ?_
  exact pm_sub [0] rfl (bX14_init_111 C X ((m0.trans (pm_S3.le (pm_S3R K0))).trans (pm_Le_new _ _ _)) hf q nm)
set_option maxHeartbeats 4000000 in
set_option maxRecDepth 100000 in
theorem bX14_init_95 {g : pm_Gm} {l : Launch} {G : pm_Gl} {Qr : Option Value → pm_H → Prop} (C : pm_C g cX14_init RX14) {h0 h : pm_H} {x0 : Nat} {s0 : Nat} {s1 : Nat} {r : pm_H} (X : pm_X g l G mX14_init (pm_sz r - pm_sz h0) (pm_us r - pm_us h0) Qr) (m0 : pm_Le h0 h) (hf : fX14_init_b95 h x0 s0 s1 = some r) (q : Qr none r) (nm : g.2.2.2.2.2.2.2.2.1.name = "<init>") : pm_G g 95 [(0, .ref x0)] [.ref s0, .ref s1] h (pm_sz h - pm_sz h0) (pm_us h - pm_us h0) := by
  have le0 := moX14_init_b95 hf
  have kc1 := Nat.sub_le_sub_right le0.1 (pm_sz h0)
  have kc2 := Nat.sub_le_sub_right le0.2 (pm_us h0)
  have K0 := pm_S3.rf h
  unfold fX14_init_b95 at hf
  obtain ⟨k12, hf⟩ := pm_if hf
  refine pm_putRF C dX14_init_95 flX14_48 rfl nm rfl fwX14_48 rfl k12 ?_
  refine pm_aload_n C dX14_init_98 rfl rfl ?_
  refine pm_bipush (v := 64) C dX14_init_99 (by decide) ?_
  refine pa_newa (hb := h) (h0 := h0) (t := 3) (N := 64) C X (pm_S3R K0) m0 dX14_init_101 (by decide) rfl al3 (by decide) (by decide +kernel) (by decide +kernel) (moX14_init_b103 hf) ?_
  exact pm_sub [0] rfl (bX14_init_103 C X ((m0.trans (pm_S3.le (pm_S3R K0))).trans (pm_Le_new _ _ _)) hf q nm)
set_option maxHeartbeats 4000000 in
set_option maxRecDepth 100000 in
theorem bX14_init_87 {g : pm_Gm} {l : Launch} {G : pm_Gl} {Qr : Option Value → pm_H → Prop} (C : pm_C g cX14_init RX14) {h0 h : pm_H} {x0 : Nat} {s0 : Nat} {s1 : Nat} {r : pm_H} (X : pm_X g l G mX14_init (pm_sz r - pm_sz h0) (pm_us r - pm_us h0) Qr) (m0 : pm_Le h0 h) (hf : fX14_init_b87 h x0 s0 s1 = some r) (q : Qr none r) (nm : g.2.2.2.2.2.2.2.2.1.name = "<init>") : pm_G g 87 [(0, .ref x0)] [.ref s0, .ref s1] h (pm_sz h - pm_sz h0) (pm_us h - pm_us h0) := by
  have le0 := moX14_init_b87 hf
  have kc1 := Nat.sub_le_sub_right le0.1 (pm_sz h0)
  have kc2 := Nat.sub_le_sub_right le0.2 (pm_us h0)
  have K0 := pm_S3.rf h
  unfold fX14_init_b87 at hf
  obtain ⟨k11, hf⟩ := pm_if hf
  refine pm_putRF C dX14_init_87 flX14_45 rfl nm rfl fwX14_45 rfl k11 ?_
  refine pm_aload_n C dX14_init_90 rfl rfl ?_
  refine pm_bipush (v := 64) C dX14_init_91 (by decide) ?_
  refine pa_newa (hb := h) (h0 := h0) (t := 2) (N := 64) C X (pm_S3R K0) m0 dX14_init_93 (by decide) rfl al2 (by decide) (by decide +kernel) (by decide +kernel) (moX14_init_b95 hf) ?_
  exact pm_sub [0] rfl (bX14_init_95 C X ((m0.trans (pm_S3.le (pm_S3R K0))).trans (pm_Le_new _ _ _)) hf q nm)
set_option maxHeartbeats 4000000 in
set_option maxRecDepth 100000 in
theorem bX14_init_79 {g : pm_Gm} {l : Launch} {G : pm_Gl} {Qr : Option Value → pm_H → Prop} (C : pm_C g cX14_init RX14) {h0 h : pm_H} {x0 : Nat} {s0 : Nat} {s1 : Nat} {r : pm_H} (X : pm_X g l G mX14_init (pm_sz r - pm_sz h0) (pm_us r - pm_us h0) Qr) (m0 : pm_Le h0 h) (hf : fX14_init_b79 h x0 s0 s1 = some r) (q : Qr none r) (nm : g.2.2.2.2.2.2.2.2.1.name = "<init>") : pm_G g 79 [(0, .ref x0)] [.ref s0, .ref s1] h (pm_sz h - pm_sz h0) (pm_us h - pm_us h0) := by
  have le0 := moX14_init_b79 hf
  have kc1 := Nat.sub_le_sub_right le0.1 (pm_sz h0)
  have kc2 := Nat.sub_le_sub_right le0.2 (pm_us h0)
  have K0 := pm_S3.rf h
  unfold fX14_init_b79 at hf
  obtain ⟨k10, hf⟩ := pm_if hf
  refine pm_putRF C dX14_init_79 flX14_41 rfl nm rfl fwX14_41 rfl k10 ?_
  refine pm_aload_n C dX14_init_82 rfl rfl ?_
  refine pm_bipush (v := 64) C dX14_init_83 (by decide) ?_
  refine pa_newa (hb := h) (h0 := h0) (t := 3) (N := 64) C X (pm_S3R K0) m0 dX14_init_85 (by decide) rfl al3 (by decide) (by decide +kernel) (by decide +kernel) (moX14_init_b87 hf) ?_
  exact pm_sub [0] rfl (bX14_init_87 C X ((m0.trans (pm_S3.le (pm_S3R K0))).trans (pm_Le_new _ _ _)) hf q nm)
set_option maxHeartbeats 4000000 in
set_option maxRecDepth 100000 in
theorem bX14_init_71 {g : pm_Gm} {l : Launch} {G : pm_Gl} {Qr : Option Value → pm_H → Prop} (C : pm_C g cX14_init RX14) {h0 h : pm_H} {x0 : Nat} {s0 : Nat} {s1 : Nat} {r : pm_H} (X : pm_X g l G mX14_init (pm_sz r - pm_sz h0) (pm_us r - pm_us h0) Qr) (m0 : pm_Le h0 h) (hf : fX14_init_b71 h x0 s0 s1 = some r) (q : Qr none r) (nm : g.2.2.2.2.2.2.2.2.1.name = "<init>") : pm_G g 71 [(0, .ref x0)] [.ref s0, .ref s1] h (pm_sz h - pm_sz h0) (pm_us h - pm_us h0) := by
  have le0 := moX14_init_b71 hf
  have kc1 := Nat.sub_le_sub_right le0.1 (pm_sz h0)
  have kc2 := Nat.sub_le_sub_right le0.2 (pm_us h0)
  have K0 := pm_S3.rf h
  unfold fX14_init_b71 at hf
  obtain ⟨k9, hf⟩ := pm_if hf
  refine pm_putRF C dX14_init_71 flX14_38 rfl nm rfl fwX14_38 rfl k9 ?_
  refine pm_aload_n C dX14_init_74 rfl rfl ?_
  refine pm_bipush (v := 64) C dX14_init_75 (by decide) ?_
  refine pa_newa (hb := h) (h0 := h0) (t := 0) (N := 64) C X (pm_S3R K0) m0 dX14_init_77 (by decide) rfl al0 (by decide) (by decide +kernel) (by decide +kernel) (moX14_init_b79 hf) ?_
  exact pm_sub [0] rfl (bX14_init_79 C X ((m0.trans (pm_S3.le (pm_S3R K0))).trans (pm_Le_new _ _ _)) hf q nm)
set_option maxHeartbeats 4000000 in
set_option maxRecDepth 100000 in
theorem bX14_init_63 {g : pm_Gm} {l : Launch} {G : pm_Gl} {Qr : Option Value → pm_H → Prop} (C : pm_C g cX14_init RX14) {h0 h : pm_H} {x0 : Nat} {s0 : Nat} {s1 : Nat} {r : pm_H} (X : pm_X g l G mX14_init (pm_sz r - pm_sz h0) (pm_us r - pm_us h0) Qr) (m0 : pm_Le h0 h) (hf : fX14_init_b63 h x0 s0 s1 = some r) (q : Qr none r) (nm : g.2.2.2.2.2.2.2.2.1.name = "<init>") : pm_G g 63 [(0, .ref x0)] [.ref s0, .ref s1] h (pm_sz h - pm_sz h0) (pm_us h - pm_us h0) := by
  have le0 := moX14_init_b63 hf
  have kc1 := Nat.sub_le_sub_right le0.1 (pm_sz h0)
  have kc2 := Nat.sub_le_sub_right le0.2 (pm_us h0)
  have K0 := pm_S3.rf h
  unfold fX14_init_b63 at hf
  obtain ⟨k8, hf⟩ := pm_if hf
  refine pm_putRF C dX14_init_63 flX14_35 rfl nm rfl fwX14_35 rfl k8 ?_
  refine pm_aload_n C dX14_init_66 rfl rfl ?_
  refine pm_bipush (v := 64) C dX14_init_67 (by decide) ?_
  refine pa_newa (hb := h) (h0 := h0) (t := 3) (N := 64) C X (pm_S3R K0) m0 dX14_init_69 (by decide) rfl al3 (by decide) (by decide +kernel) (by decide +kernel) (moX14_init_b71 hf) ?_
  exact pm_sub [0] rfl (bX14_init_71 C X ((m0.trans (pm_S3.le (pm_S3R K0))).trans (pm_Le_new _ _ _)) hf q nm)
set_option maxHeartbeats 4000000 in
set_option maxRecDepth 100000 in
theorem bX14_init_55 {g : pm_Gm} {l : Launch} {G : pm_Gl} {Qr : Option Value → pm_H → Prop} (C : pm_C g cX14_init RX14) {h0 h : pm_H} {x0 : Nat} {s0 : Nat} {s1 : Nat} {r : pm_H} (X : pm_X g l G mX14_init (pm_sz r - pm_sz h0) (pm_us r - pm_us h0) Qr) (m0 : pm_Le h0 h) (hf : fX14_init_b55 h x0 s0 s1 = some r) (q : Qr none r) (nm : g.2.2.2.2.2.2.2.2.1.name = "<init>") : pm_G g 55 [(0, .ref x0)] [.ref s0, .ref s1] h (pm_sz h - pm_sz h0) (pm_us h - pm_us h0) := by
  have le0 := moX14_init_b55 hf
  have kc1 := Nat.sub_le_sub_right le0.1 (pm_sz h0)
  have kc2 := Nat.sub_le_sub_right le0.2 (pm_us h0)
  have K0 := pm_S3.rf h
  unfold fX14_init_b55 at hf
  obtain ⟨k7, hf⟩ := pm_if hf
  refine pm_putRF C dX14_init_55 flX14_31 rfl nm rfl fwX14_31 rfl k7 ?_
  refine pm_aload_n C dX14_init_58 rfl rfl ?_
  refine pm_bipush (v := 64) C dX14_init_59 (by decide) ?_
  refine pa_newa (hb := h) (h0 := h0) (t := 3) (N := 64) C X (pm_S3R K0) m0 dX14_init_61 (by decide) rfl al3 (by decide) (by decide +kernel) (by decide +kernel) (moX14_init_b63 hf) ?_
  exact pm_sub [0] rfl (bX14_init_63 C X ((m0.trans (pm_S3.le (pm_S3R K0))).trans (pm_Le_new _ _ _)) hf q nm)
set_option maxHeartbeats 4000000 in
set_option maxRecDepth 100000 in
theorem bX14_init_47 {g : pm_Gm} {l : Launch} {G : pm_Gl} {Qr : Option Value → pm_H → Prop} (C : pm_C g cX14_init RX14) {h0 h : pm_H} {x0 : Nat} {s0 : Nat} {s1 : Nat} {r : pm_H} (X : pm_X g l G mX14_init (pm_sz r - pm_sz h0) (pm_us r - pm_us h0) Qr) (m0 : pm_Le h0 h) (hf : fX14_init_b47 h x0 s0 s1 = some r) (q : Qr none r) (nm : g.2.2.2.2.2.2.2.2.1.name = "<init>") : pm_G g 47 [(0, .ref x0)] [.ref s0, .ref s1] h (pm_sz h - pm_sz h0) (pm_us h - pm_us h0) := by
  have le0 := moX14_init_b47 hf
  have kc1 := Nat.sub_le_sub_right le0.1 (pm_sz h0)
  have kc2 := Nat.sub_le_sub_right le0.2 (pm_us h0)
  have K0 := pm_S3.rf h
  unfold fX14_init_b47 at hf
  obtain ⟨k6, hf⟩ := pm_if hf
  refine pm_putRF C dX14_init_47 flX14_28 rfl nm rfl fwX14_28 rfl k6 ?_
  refine pm_aload_n C dX14_init_50 rfl rfl ?_
  refine pm_bipush (v := 64) C dX14_init_51 (by decide) ?_
  refine pa_newa (hb := h) (h0 := h0) (t := 3) (N := 64) C X (pm_S3R K0) m0 dX14_init_53 (by decide) rfl al3 (by decide) (by decide +kernel) (by decide +kernel) (moX14_init_b55 hf) ?_
  exact pm_sub [0] rfl (bX14_init_55 C X ((m0.trans (pm_S3.le (pm_S3R K0))).trans (pm_Le_new _ _ _)) hf q nm)
set_option maxHeartbeats 4000000 in
set_option maxRecDepth 100000 in
theorem bX14_init_39 {g : pm_Gm} {l : Launch} {G : pm_Gl} {Qr : Option Value → pm_H → Prop} (C : pm_C g cX14_init RX14) {h0 h : pm_H} {x0 : Nat} {s0 : Nat} {s1 : Nat} {r : pm_H} (X : pm_X g l G mX14_init (pm_sz r - pm_sz h0) (pm_us r - pm_us h0) Qr) (m0 : pm_Le h0 h) (hf : fX14_init_b39 h x0 s0 s1 = some r) (q : Qr none r) (nm : g.2.2.2.2.2.2.2.2.1.name = "<init>") : pm_G g 39 [(0, .ref x0)] [.ref s0, .ref s1] h (pm_sz h - pm_sz h0) (pm_us h - pm_us h0) := by
  have le0 := moX14_init_b39 hf
  have kc1 := Nat.sub_le_sub_right le0.1 (pm_sz h0)
  have kc2 := Nat.sub_le_sub_right le0.2 (pm_us h0)
  have K0 := pm_S3.rf h
  unfold fX14_init_b39 at hf
  obtain ⟨k5, hf⟩ := pm_if hf
  refine pm_putRF C dX14_init_39 flX14_25 rfl nm rfl fwX14_25 rfl k5 ?_
  refine pm_aload_n C dX14_init_42 rfl rfl ?_
  refine pm_bipush (v := 64) C dX14_init_43 (by decide) ?_
  refine pa_newa (hb := h) (h0 := h0) (t := 2) (N := 64) C X (pm_S3R K0) m0 dX14_init_45 (by decide) rfl al2 (by decide) (by decide +kernel) (by decide +kernel) (moX14_init_b47 hf) ?_
  exact pm_sub [0] rfl (bX14_init_47 C X ((m0.trans (pm_S3.le (pm_S3R K0))).trans (pm_Le_new _ _ _)) hf q nm)
set_option maxHeartbeats 4000000 in
set_option maxRecDepth 100000 in
theorem bX14_init_30 {g : pm_Gm} {l : Launch} {G : pm_Gl} {Qr : Option Value → pm_H → Prop} (C : pm_C g cX14_init RX14) {h0 h : pm_H} {x0 : Nat} {s0 : Nat} {s1 : Nat} {r : pm_H} (X : pm_X g l G mX14_init (pm_sz r - pm_sz h0) (pm_us r - pm_us h0) Qr) (m0 : pm_Le h0 h) (hf : fX14_init_b30 h x0 s0 s1 = some r) (q : Qr none r) (nm : g.2.2.2.2.2.2.2.2.1.name = "<init>") : pm_G g 30 [(0, .ref x0)] [.ref s0, .ref s1] h (pm_sz h - pm_sz h0) (pm_us h - pm_us h0) := by
  have le0 := moX14_init_b30 hf
  have kc1 := Nat.sub_le_sub_right le0.1 (pm_sz h0)
  have kc2 := Nat.sub_le_sub_right le0.2 (pm_us h0)
  have K0 := pm_S3.rf h
  unfold fX14_init_b30 at hf
  obtain ⟨k4, hf⟩ := pm_if hf
  refine pm_putRF C dX14_init_30 flX14_22 rfl nm rfl fwX14_22 rfl k4 ?_
  refine pm_aload_n C dX14_init_33 rfl rfl ?_
  refine pm_sipush (v := 2048) C dX14_init_34 (by decide) ?_
  refine pa_newa (hb := h) (h0 := h0) (t := 2) (N := 2048) C X (pm_S3R K0) m0 dX14_init_37 (by decide) rfl al2 (by decide) (by decide +kernel) (by decide +kernel) (moX14_init_b39 hf) ?_
  exact pm_sub [0] rfl (bX14_init_39 C X ((m0.trans (pm_S3.le (pm_S3R K0))).trans (pm_Le_new _ _ _)) hf q nm)
set_option maxHeartbeats 4000000 in
set_option maxRecDepth 100000 in
theorem bX14_init_22 {g : pm_Gm} {l : Launch} {G : pm_Gl} {Qr : Option Value → pm_H → Prop} (C : pm_C g cX14_init RX14) {h0 h : pm_H} {x0 : Nat} {s0 : Nat} {s1 : Nat} {r : pm_H} (X : pm_X g l G mX14_init (pm_sz r - pm_sz h0) (pm_us r - pm_us h0) Qr) (m0 : pm_Le h0 h) (hf : fX14_init_b22 h x0 s0 s1 = some r) (q : Qr none r) (nm : g.2.2.2.2.2.2.2.2.1.name = "<init>") : pm_G g 22 [(0, .ref x0)] [.ref s0, .ref s1] h (pm_sz h - pm_sz h0) (pm_us h - pm_us h0) := by
  have le0 := moX14_init_b22 hf
  have kc1 := Nat.sub_le_sub_right le0.1 (pm_sz h0)
  have kc2 := Nat.sub_le_sub_right le0.2 (pm_us h0)
  have K0 := pm_S3.rf h
  unfold fX14_init_b22 at hf
  obtain ⟨k3, hf⟩ := pm_if hf
  refine pm_putRF C dX14_init_22 flX14_19 rfl nm rfl fwX14_19 rfl k3 ?_
  refine pm_aload_n C dX14_init_25 rfl rfl ?_
  refine pm_bipush (v := 64) C dX14_init_26 (by decide) ?_
  refine pa_newa (hb := h) (h0 := h0) (t := 2) (N := 64) C X (pm_S3R K0) m0 dX14_init_28 (by decide) rfl al2 (by decide) (by decide +kernel) (by decide +kernel) (moX14_init_b30 hf) ?_
  exact pm_sub [0] rfl (bX14_init_30 C X ((m0.trans (pm_S3.le (pm_S3R K0))).trans (pm_Le_new _ _ _)) hf q nm)
set_option maxHeartbeats 4000000 in
set_option maxRecDepth 100000 in
theorem bX14_init_9 {g : pm_Gm} {l : Launch} {G : pm_Gl} {Qr : Option Value → pm_H → Prop} (C : pm_C g cX14_init RX14) {h0 h : pm_H} {x0 : Nat} {s0 : Nat} {s1 : Nat} {r : pm_H} (X : pm_X g l G mX14_init (pm_sz r - pm_sz h0) (pm_us r - pm_us h0) Qr) (m0 : pm_Le h0 h) (hf : fX14_init_b9 h x0 s0 s1 = some r) (q : Qr none r) (nm : g.2.2.2.2.2.2.2.2.1.name = "<init>") : pm_G g 9 [(0, .ref x0)] [.ref s0, .ref s1] h (pm_sz h - pm_sz h0) (pm_us h - pm_us h0) := by
  have le0 := moX14_init_b9 hf
  have kc1 := Nat.sub_le_sub_right le0.1 (pm_sz h0)
  have kc2 := Nat.sub_le_sub_right le0.2 (pm_us h0)
  have K0 := pm_S3.rf h
  unfold fX14_init_b9 at hf
  obtain ⟨k1, hf⟩ := pm_if hf
  refine pm_putRF C dX14_init_9 flX14_9 rfl nm rfl fwX14_9 rfl k1 ?_
  refine pm_aload_n C dX14_init_12 rfl rfl ?_
  refine pm_iconst (v := (-1)) C dX14_init_13 (by decide) ?_
  obtain ⟨k2, hf⟩ := pm_if hf
  refine pm_putI C dX14_init_14 flX14_15 rfl rfl k2 rfl rfl ?_
  refine pm_aload_n C dX14_init_17 rfl rfl ?_
  refine pm_bipush (v := 64) C dX14_init_18 (by decide) ?_
  refine pa_newa (hb := h) (h0 := h0) (t := 2) (N := 64) C X (pm_S3I (pm_S3R K0)) m0 dX14_init_20 (by decide) rfl al2 (by decide) (by decide +kernel) (by decide +kernel) (moX14_init_b22 hf) ?_
  exact pm_sub [0] rfl (bX14_init_22 C X ((m0.trans (pm_S3.le (pm_S3I (pm_S3R K0)))).trans (pm_Le_new _ _ _)) hf q nm)
set_option maxHeartbeats 4000000 in
set_option maxRecDepth 100000 in
theorem bX14_init_0 {g : pm_Gm} {l : Launch} {G : pm_Gl} {Qr : Option Value → pm_H → Prop} (C : pm_C g cX14_init RX14) {h0 h : pm_H} {x0 : Nat} {r : pm_H} (X : pm_X g l G mX14_init (pm_sz r - pm_sz h0) (pm_us r - pm_us h0) Qr) (m0 : pm_Le h0 h) (hf : fX14_init_b0 h x0 = some r) (q : Qr none r) (nm : g.2.2.2.2.2.2.2.2.1.name = "<init>") : pm_G g 0 [(0, .ref x0)] [] h (pm_sz h - pm_sz h0) (pm_us h - pm_us h0) := by
  have le0 := moX14_init_b0 hf
  have kc1 := Nat.sub_le_sub_right le0.1 (pm_sz h0)
  have kc2 := Nat.sub_le_sub_right le0.2 (pm_us h0)
  have K0 := pm_S3.rf h
  unfold fX14_init_b0 at hf
  refine pm_aload_n C dX14_init_0 rfl rfl ?_
  refine pm_obj C X dX14_init_1 obX14_3 obI obC (by decide) (by decide) (Nat.le_of_ble_eq_true rfl) ?_
  refine pm_aload_n C dX14_init_4 rfl rfl ?_
  refine pm_bipush (v := 13) C dX14_init_5 (by decide) ?_
  refine pa_newa (hb := h) (h0 := h0) (t := 2) (N := 13) C X K0 m0 dX14_init_7 (by decide) rfl al2 (by decide) (by decide +kernel) (by decide +kernel) (moX14_init_b9 hf) ?_
  exact pm_sub [0] rfl (bX14_init_9 C X ((m0.trans (pm_S3.le K0)).trans (pm_Le_new _ _ _)) hf q nm)
set_option maxHeartbeats 4000000 in
set_option maxRecDepth 100000 in
theorem ctX14_init {l : Launch} {G : pm_Gl} {h : pm_H} {a0 : Nat} {r : pm_H} {Qr : Option Value → pm_H → Prop} (hf : fX14_init h a0 = some r) (q : Qr none r) : pm_Ct l G mX14_init [.ref a0] h (pm_sz r - pm_sz h) (pm_us r - pm_us h) Qr := by
  refine pm_bodyN pnX14 (Nat.le_of_ble_eq_true rfl) (fun g C X nm => ?_)
  have C : pm_C g cX14_init RX14 := C
  show pm_G g 0 [(0, .ref a0)] [] h 0 0
  unfold fX14_init at hf
  exact pa_start (pm_sub [0] rfl (bX14_init_0 C X (pm_Le.rf h) hf q nm))
