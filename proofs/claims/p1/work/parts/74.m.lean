theorem dX9_element_0 : decode cX9_element 0 = .ok (.aload_n 0, 1) := by decide +kernel
theorem dX9_element_1 : decode cX9_element 1 = .ok (.getfield 133, 3) := by decide +kernel
theorem dX9_element_4 : decode cX9_element 4 = .ok (.bipush 7, 2) := by decide +kernel
theorem dX9_element_6 : decode cX9_element 6 = .ok (.imul, 1) := by decide +kernel
theorem dX9_element_7 : decode cX9_element 7 = .ok (.istore_n 1, 1) := by decide +kernel
theorem dX9_element_8 : decode cX9_element 8 = .ok (.aload_n 0, 1) := by decide +kernel
theorem dX9_element_9 : decode cX9_element 9 = .ok (.getfield 51, 3) := by decide +kernel
theorem dX9_element_12 : decode cX9_element 12 = .ok (.istore_n 2, 1) := by decide +kernel
theorem dX9_element_13 : decode cX9_element 13 = .ok (.aload_n 0, 1) := by decide +kernel
theorem dX9_element_14 : decode cX9_element 14 = .ok (.bipush 32, 2) := by decide +kernel
theorem dX9_element_16 : decode cX9_element 16 = .ok (.invokevirtual 145, 3) := by decide +kernel
theorem dX9_element_19 : decode cX9_element 19 = .ok (.lstore_n 3, 1) := by decide +kernel
theorem dX9_element_20 : decode cX9_element 20 = .ok (.lload_n 3, 1) := by decide +kernel
theorem dX9_element_21 : decode cX9_element 21 = .ok (.ldc2_w 251, 3) := by decide +kernel
theorem dX9_element_24 : decode cX9_element 24 = .ok (.lcmp, 1) := by decide +kernel
theorem dX9_element_25 : decode cX9_element 25 = .ok (.ifCond .le 10, 3) := by decide +kernel
theorem dX9_element_28 : decode cX9_element 28 = .ok (.aload_n 0, 1) := by decide +kernel
theorem dX9_element_29 : decode cX9_element 29 = .ok (.bipush 7, 2) := by decide +kernel
theorem dX9_element_31 : decode cX9_element 31 = .ok (.iload_n 2, 1) := by decide +kernel
theorem dX9_element_32 : decode cX9_element 32 = .ok (.invokevirtual 47, 3) := by decide +kernel
theorem dX9_element_35 : decode cX9_element 35 = .ok (.lload_n 3, 1) := by decide +kernel
theorem dX9_element_36 : decode cX9_element 36 = .ok (.lconst 1, 1) := by decide +kernel
theorem dX9_element_37 : decode cX9_element 37 = .ok (.land, 1) := by decide +kernel
theorem dX9_element_38 : decode cX9_element 38 = .ok (.lconst 0, 1) := by decide +kernel
theorem dX9_element_39 : decode cX9_element 39 = .ok (.lcmp, 1) := by decide +kernel
theorem dX9_element_40 : decode cX9_element 40 = .ok (.ifCond .ne 7, 3) := by decide +kernel
theorem dX9_element_43 : decode cX9_element 43 = .ok (.iconst 1, 1) := by decide +kernel
theorem dX9_element_44 : decode cX9_element 44 = .ok (.goto 4, 3) := by decide +kernel
theorem dX9_element_47 : decode cX9_element 47 = .ok (.iconst 0, 1) := by decide +kernel
theorem dX9_element_48 : decode cX9_element 48 = .ok (.istore 5, 2) := by decide +kernel
theorem dX9_element_50 : decode cX9_element 50 = .ok (.lload_n 3, 1) := by decide +kernel
theorem dX9_element_51 : decode cX9_element 51 = .ok (.ldc2_w 253, 3) := by decide +kernel
theorem dX9_element_54 : decode cX9_element 54 = .ok (.land, 1) := by decide +kernel
theorem dX9_element_55 : decode cX9_element 55 = .ok (.lconst 0, 1) := by decide +kernel
theorem dX9_element_56 : decode cX9_element 56 = .ok (.lcmp, 1) := by decide +kernel
theorem dX9_element_57 : decode cX9_element 57 = .ok (.ifCond .eq 7, 3) := by decide +kernel
theorem dX9_element_60 : decode cX9_element 60 = .ok (.iconst 1, 1) := by decide +kernel
theorem dX9_element_61 : decode cX9_element 61 = .ok (.goto 4, 3) := by decide +kernel
theorem dX9_element_64 : decode cX9_element 64 = .ok (.iconst 0, 1) := by decide +kernel
theorem dX9_element_65 : decode cX9_element 65 = .ok (.istore 6, 2) := by decide +kernel
theorem dX9_element_67 : decode cX9_element 67 = .ok (.aload_n 0, 1) := by decide +kernel
theorem dX9_element_68 : decode cX9_element 68 = .ok (.getfield 19, 3) := by decide +kernel
theorem dX9_element_71 : decode cX9_element 71 = .ok (.getfield 214, 3) := by decide +kernel
theorem dX9_element_74 : decode cX9_element 74 = .ok (.iload_n 1, 1) := by decide +kernel
theorem dX9_element_75 : decode cX9_element 75 = .ok (.iconst 0, 1) := by decide +kernel
theorem dX9_element_76 : decode cX9_element 76 = .ok (.iadd, 1) := by decide +kernel
theorem dX9_element_77 : decode cX9_element 77 = .ok (.iload 5, 2) := by decide +kernel
theorem dX9_element_79 : decode cX9_element 79 = .ok (.ifCond .eq 7, 3) := by decide +kernel
theorem dX9_element_82 : decode cX9_element 82 = .ok (.iconst 0, 1) := by decide +kernel
theorem dX9_element_83 : decode cX9_element 83 = .ok (.goto 18, 3) := by decide +kernel
theorem dX9_element_86 : decode cX9_element 86 = .ok (.lload_n 3, 1) := by decide +kernel
theorem dX9_element_87 : decode cX9_element 87 = .ok (.ldc2_w 255, 3) := by decide +kernel
theorem dX9_element_90 : decode cX9_element 90 = .ok (.land, 1) := by decide +kernel
theorem dX9_element_91 : decode cX9_element 91 = .ok (.lconst 0, 1) := by decide +kernel
theorem dX9_element_92 : decode cX9_element 92 = .ok (.lcmp, 1) := by decide +kernel
theorem dX9_element_93 : decode cX9_element 93 = .ok (.ifCond .eq 7, 3) := by decide +kernel
theorem dX9_element_96 : decode cX9_element 96 = .ok (.iconst 2, 1) := by decide +kernel
theorem dX9_element_97 : decode cX9_element 97 = .ok (.goto 4, 3) := by decide +kernel
theorem dX9_element_100 : decode cX9_element 100 = .ok (.iconst 1, 1) := by decide +kernel
theorem dX9_element_101 : decode cX9_element 101 = .ok (.invokestatic 152, 3) := by decide +kernel
theorem dX9_element_104 : decode cX9_element 104 = .ok (.iload 5, 2) := by decide +kernel
theorem dX9_element_106 : decode cX9_element 106 = .ok (.ifCond .eq 35, 3) := by decide +kernel
theorem dX9_element_109 : decode cX9_element 109 = .ok (.lload_n 3, 1) := by decide +kernel
theorem dX9_element_110 : decode cX9_element 110 = .ok (.ldc2_w 255, 3) := by decide +kernel
theorem dX9_element_113 : decode cX9_element 113 = .ok (.land, 1) := by decide +kernel
theorem dX9_element_114 : decode cX9_element 114 = .ok (.lconst 0, 1) := by decide +kernel
theorem dX9_element_115 : decode cX9_element 115 = .ok (.lcmp, 1) := by decide +kernel
theorem dX9_element_116 : decode cX9_element 116 = .ok (.ifCond .eq 25, 3) := by decide +kernel
theorem dX9_element_119 : decode cX9_element 119 = .ok (.aload_n 0, 1) := by decide +kernel
theorem dX9_element_120 : decode cX9_element 120 = .ok (.getfield 19, 3) := by decide +kernel
theorem dX9_element_123 : decode cX9_element 123 = .ok (.getfield 214, 3) := by decide +kernel
theorem dX9_element_126 : decode cX9_element 126 = .ok (.iload_n 1, 1) := by decide +kernel
theorem dX9_element_127 : decode cX9_element 127 = .ok (.iconst 1, 1) := by decide +kernel
theorem dX9_element_128 : decode cX9_element 128 = .ok (.iadd, 1) := by decide +kernel
theorem dX9_element_129 : decode cX9_element 129 = .ok (.aload_n 0, 1) := by decide +kernel
theorem dX9_element_130 : decode cX9_element 130 = .ok (.bipush 32, 2) := by decide +kernel
theorem dX9_element_132 : decode cX9_element 132 = .ok (.invokevirtual 145, 3) := by decide +kernel
theorem dX9_element_135 : decode cX9_element 135 = .ok (.invokestatic 247, 3) := by decide +kernel
theorem dX9_element_138 : decode cX9_element 138 = .ok (.invokestatic 152, 3) := by decide +kernel
theorem dX9_element_141 : decode cX9_element 141 = .ok (.aload_n 0, 1) := by decide +kernel
theorem dX9_element_142 : decode cX9_element 142 = .ok (.getfield 19, 3) := by decide +kernel
theorem dX9_element_145 : decode cX9_element 145 = .ok (.getfield 214, 3) := by decide +kernel
theorem dX9_element_148 : decode cX9_element 148 = .ok (.iload_n 1, 1) := by decide +kernel
theorem dX9_element_149 : decode cX9_element 149 = .ok (.iconst 2, 1) := by decide +kernel
theorem dX9_element_150 : decode cX9_element 150 = .ok (.iadd, 1) := by decide +kernel
theorem dX9_element_151 : decode cX9_element 151 = .ok (.aload_n 0, 1) := by decide +kernel
theorem dX9_element_152 : decode cX9_element 152 = .ok (.getfield 51, 3) := by decide +kernel
theorem dX9_element_155 : decode cX9_element 155 = .ok (.invokestatic 152, 3) := by decide +kernel
theorem dX9_element_158 : decode cX9_element 158 = .ok (.iload 5, 2) := by decide +kernel
theorem dX9_element_160 : decode cX9_element 160 = .ok (.ifCond .eq 7, 3) := by decide +kernel
theorem dX9_element_163 : decode cX9_element 163 = .ok (.aload_n 0, 1) := by decide +kernel
theorem dX9_element_164 : decode cX9_element 164 = .ok (.invokevirtual 241, 3) := by decide +kernel
theorem dX9_element_167 : decode cX9_element 167 = .ok (.bipush 112, 2) := by decide +kernel
theorem dX9_element_169 : decode cX9_element 169 = .ok (.istore 7, 2) := by decide +kernel
theorem dX9_element_171 : decode cX9_element 171 = .ok (.lload_n 3, 1) := by decide +kernel
theorem dX9_element_172 : decode cX9_element 172 = .ok (.lconst 0, 1) := by decide +kernel
theorem dX9_element_173 : decode cX9_element 173 = .ok (.lcmp, 1) := by decide +kernel
theorem dX9_element_174 : decode cX9_element 174 = .ok (.ifCond .eq 31, 3) := by decide +kernel
theorem dX9_element_177 : decode cX9_element 177 = .ok (.lload_n 3, 1) := by decide +kernel
theorem dX9_element_178 : decode cX9_element 178 = .ok (.ldc2_w 253, 3) := by decide +kernel
theorem dX9_element_181 : decode cX9_element 181 = .ok (.lcmp, 1) := by decide +kernel
theorem dX9_element_182 : decode cX9_element 182 = .ok (.ifCond .eq 23, 3) := by decide +kernel
theorem dX9_element_185 : decode cX9_element 185 = .ok (.iload 6, 2) := by decide +kernel
theorem dX9_element_187 : decode cX9_element 187 = .ok (.ifCond .eq 12, 3) := by decide +kernel
theorem dX9_element_190 : decode cX9_element 190 = .ok (.aload_n 0, 1) := by decide +kernel
theorem dX9_element_191 : decode cX9_element 191 = .ok (.invokevirtual 244, 3) := by decide +kernel
theorem dX9_element_194 : decode cX9_element 194 = .ok (.istore 7, 2) := by decide +kernel
theorem dX9_element_196 : decode cX9_element 196 = .ok (.goto 9, 3) := by decide +kernel
theorem dX9_element_199 : decode cX9_element 199 = .ok (.aload_n 0, 1) := by decide +kernel
theorem dX9_element_200 : decode cX9_element 200 = .ok (.iconst 0, 1) := by decide +kernel
theorem dX9_element_201 : decode cX9_element 201 = .ok (.invokevirtual 228, 3) := by decide +kernel
theorem dX9_element_204 : decode cX9_element 204 = .ok (.pop, 1) := by decide +kernel
theorem dX9_element_205 : decode cX9_element 205 = .ok (.aload_n 0, 1) := by decide +kernel
theorem dX9_element_206 : decode cX9_element 206 = .ok (.bipush 32, 2) := by decide +kernel
theorem dX9_element_208 : decode cX9_element 208 = .ok (.invokevirtual 145, 3) := by decide +kernel
theorem dX9_element_211 : decode cX9_element 211 = .ok (.lstore 8, 2) := by decide +kernel
theorem dX9_element_213 : decode cX9_element 213 = .ok (.aload_n 0, 1) := by decide +kernel
theorem dX9_element_214 : decode cX9_element 214 = .ok (.getfield 19, 3) := by decide +kernel
theorem dX9_element_217 : decode cX9_element 217 = .ok (.getfield 214, 3) := by decide +kernel
theorem dX9_element_220 : decode cX9_element 220 = .ok (.iload_n 1, 1) := by decide +kernel
theorem dX9_element_221 : decode cX9_element 221 = .ok (.iconst 3, 1) := by decide +kernel
theorem dX9_element_222 : decode cX9_element 222 = .ok (.iadd, 1) := by decide +kernel
theorem dX9_element_223 : decode cX9_element 223 = .ok (.aload_n 0, 1) := by decide +kernel
theorem dX9_element_224 : decode cX9_element 224 = .ok (.getfield 51, 3) := by decide +kernel
theorem dX9_element_227 : decode cX9_element 227 = .ok (.invokestatic 152, 3) := by decide +kernel
theorem dX9_element_230 : decode cX9_element 230 = .ok (.aload_n 0, 1) := by decide +kernel
theorem dX9_element_231 : decode cX9_element 231 = .ok (.getfield 19, 3) := by decide +kernel
theorem dX9_element_234 : decode cX9_element 234 = .ok (.getfield 214, 3) := by decide +kernel
theorem dX9_element_237 : decode cX9_element 237 = .ok (.iload_n 1, 1) := by decide +kernel
theorem dX9_element_238 : decode cX9_element 238 = .ok (.iconst 4, 1) := by decide +kernel
theorem dX9_element_239 : decode cX9_element 239 = .ok (.iadd, 1) := by decide +kernel
theorem dX9_element_240 : decode cX9_element 240 = .ok (.lload 8, 2) := by decide +kernel
theorem dX9_element_242 : decode cX9_element 242 = .ok (.invokestatic 247, 3) := by decide +kernel
theorem dX9_element_245 : decode cX9_element 245 = .ok (.invokestatic 152, 3) := by decide +kernel
theorem dX9_element_248 : decode cX9_element 248 = .ok (.aload_n 0, 1) := by decide +kernel
theorem dX9_element_249 : decode cX9_element 249 = .ok (.getfield 19, 3) := by decide +kernel
theorem dX9_element_252 : decode cX9_element 252 = .ok (.getfield 214, 3) := by decide +kernel
theorem dX9_element_255 : decode cX9_element 255 = .ok (.iload_n 1, 1) := by decide +kernel
theorem dX9_element_256 : decode cX9_element 256 = .ok (.iconst 5, 1) := by decide +kernel
theorem dX9_element_257 : decode cX9_element 257 = .ok (.iadd, 1) := by decide +kernel
theorem dX9_element_258 : decode cX9_element 258 = .ok (.iload 7, 2) := by decide +kernel
theorem dX9_element_260 : decode cX9_element 260 = .ok (.invokestatic 152, 3) := by decide +kernel
theorem dX9_element_263 : decode cX9_element 263 = .ok (.aload_n 0, 1) := by decide +kernel
theorem dX9_element_264 : decode cX9_element 264 = .ok (.getfield 19, 3) := by decide +kernel
theorem dX9_element_267 : decode cX9_element 267 = .ok (.getfield 214, 3) := by decide +kernel
theorem dX9_element_270 : decode cX9_element 270 = .ok (.iload_n 1, 1) := by decide +kernel
theorem dX9_element_271 : decode cX9_element 271 = .ok (.bipush 6, 2) := by decide +kernel
theorem dX9_element_273 : decode cX9_element 273 = .ok (.iadd, 1) := by decide +kernel
theorem dX9_element_274 : decode cX9_element 274 = .ok (.iload 6, 2) := by decide +kernel
theorem dX9_element_276 : decode cX9_element 276 = .ok (.ifCond .eq 7, 3) := by decide +kernel
theorem dX9_element_279 : decode cX9_element 279 = .ok (.iconst 1, 1) := by decide +kernel
theorem dX9_element_280 : decode cX9_element 280 = .ok (.goto 4, 3) := by decide +kernel
theorem dX9_element_283 : decode cX9_element 283 = .ok (.iconst 0, 1) := by decide +kernel
theorem dX9_element_284 : decode cX9_element 284 = .ok (.invokestatic 152, 3) := by decide +kernel
theorem dX9_element_287 : decode cX9_element 287 = .ok (.lconst 0, 1) := by decide +kernel
theorem dX9_element_288 : decode cX9_element 288 = .ok (.lstore 10, 2) := by decide +kernel
theorem dX9_element_290 : decode cX9_element 290 = .ok (.lload 10, 2) := by decide +kernel
theorem dX9_element_292 : decode cX9_element 292 = .ok (.lload 8, 2) := by decide +kernel
theorem dX9_element_294 : decode cX9_element 294 = .ok (.lcmp, 1) := by decide +kernel
theorem dX9_element_295 : decode cX9_element 295 = .ok (.ifCond .ge 38, 3) := by decide +kernel
theorem dX9_element_298 : decode cX9_element 298 = .ok (.aload_n 0, 1) := by decide +kernel
theorem dX9_element_299 : decode cX9_element 299 = .ok (.getfield 40, 3) := by decide +kernel
theorem dX9_element_302 : decode cX9_element 302 = .ok (.ifCond .ne 31, 3) := by decide +kernel
theorem dX9_element_305 : decode cX9_element 305 = .ok (.iload 6, 2) := by decide +kernel
theorem dX9_element_307 : decode cX9_element 307 = .ok (.ifCond .eq 10, 3) := by decide +kernel
theorem dX9_element_310 : decode cX9_element 310 = .ok (.aload_n 0, 1) := by decide +kernel
theorem dX9_element_311 : decode cX9_element 311 = .ok (.invokevirtual 241, 3) := by decide +kernel
theorem dX9_element_314 : decode cX9_element 314 = .ok (.goto 10, 3) := by decide +kernel
theorem dX9_element_317 : decode cX9_element 317 = .ok (.aload_n 0, 1) := by decide +kernel
theorem dX9_element_318 : decode cX9_element 318 = .ok (.bipush 32, 2) := by decide +kernel
theorem dX9_element_320 : decode cX9_element 320 = .ok (.invokevirtual 145, 3) := by decide +kernel
theorem dX9_element_323 : decode cX9_element 323 = .ok (.pop2, 1) := by decide +kernel
theorem dX9_element_324 : decode cX9_element 324 = .ok (.lload 10, 2) := by decide +kernel
theorem dX9_element_326 : decode cX9_element 326 = .ok (.lconst 1, 1) := by decide +kernel
theorem dX9_element_327 : decode cX9_element 327 = .ok (.ladd, 1) := by decide +kernel
theorem dX9_element_328 : decode cX9_element 328 = .ok (.lstore 10, 2) := by decide +kernel
theorem dX9_element_330 : decode cX9_element 330 = .ok (.goto (-40), 3) := by decide +kernel
theorem dX9_element_333 : decode cX9_element 333 = .ok (.return_, 1) := by decide +kernel
noncomputable def tX9_element_35 (x0 : Nat) (x1 : Int32) (x3 : Int64) (h : pm_H) : Option (((Nat × Int32 × Int64 × pm_H) ⊕ (Nat × Int32 × Int64 × Int32 × pm_H) ⊕ (Nat × Int32 × Int64 × Int32 × Int32 × pm_H) ⊕ (Nat × Int32 × Int64 × Int32 × Int32 × Int32 × Int32 × Nat × pm_H) ⊕ (Nat × Int32 × Int64 × Int32 × Int32 × pm_H) ⊕ (Nat × Int32 × Int64 × Int32 × pm_H) ⊕ (Nat × Int32 × Int32 × Int32 × pm_H) ⊕ (Nat × Int32 × Int64 × Int64 × pm_H)) ⊕ pm_H) := if (x3 &&& 1) = 0 then (some (.inl (.inr (.inl ((x0, x1, x3, 1, h)))))) else (some (.inl (.inr (.inl ((x0, x1, x3, 0, h))))))
noncomputable def tX9_element_48 (x0 : Nat) (x1 : Int32) (x3 : Int64) (s0 : Int32) (h : pm_H) : Option (((Nat × Int32 × Int64 × pm_H) ⊕ (Nat × Int32 × Int64 × Int32 × pm_H) ⊕ (Nat × Int32 × Int64 × Int32 × Int32 × pm_H) ⊕ (Nat × Int32 × Int64 × Int32 × Int32 × Int32 × Int32 × Nat × pm_H) ⊕ (Nat × Int32 × Int64 × Int32 × Int32 × pm_H) ⊕ (Nat × Int32 × Int64 × Int32 × pm_H) ⊕ (Nat × Int32 × Int32 × Int32 × pm_H) ⊕ (Nat × Int32 × Int64 × Int64 × pm_H)) ⊕ pm_H) := if (x3 &&& 4) = 0 then (some (.inl (.inr (.inr (.inl ((x0, x1, x3, s0, 0, h))))))) else (some (.inl (.inr (.inr (.inl ((x0, x1, x3, s0, 1, h)))))))
noncomputable def tX9_element_65 (x0 : Nat) (x1 : Int32) (x3 : Int64) (x5 : Int32) (s0 : Int32) (h : pm_H) : Option (((Nat × Int32 × Int64 × pm_H) ⊕ (Nat × Int32 × Int64 × Int32 × pm_H) ⊕ (Nat × Int32 × Int64 × Int32 × Int32 × pm_H) ⊕ (Nat × Int32 × Int64 × Int32 × Int32 × Int32 × Int32 × Nat × pm_H) ⊕ (Nat × Int32 × Int64 × Int32 × Int32 × pm_H) ⊕ (Nat × Int32 × Int64 × Int32 × pm_H) ⊕ (Nat × Int32 × Int32 × Int32 × pm_H) ⊕ (Nat × Int32 × Int64 × Int64 × pm_H)) ⊕ pm_H) := if pm_kd h x0 = 9 then (pm_R h x0 0).bind fun v15 => if pm_kd h v15 = 7 then (pm_R h v15 9).bind fun v18 => if x5 = 0 then (if (x3 &&& 2) = 0 then (some (.inl (.inr (.inr (.inr (.inl ((x0, x1, x3, x5, s0, 1, x1 + 0, v18, h)))))))) else (some (.inl (.inr (.inr (.inr (.inl ((x0, x1, x3, x5, s0, 2, x1 + 0, v18, h))))))))) else (some (.inl (.inr (.inr (.inr (.inl ((x0, x1, x3, x5, s0, 0, x1 + 0, v18, h)))))))) else none else none
noncomputable def tX9_element_101 (x0 : Nat) (x1 : Int32) (x3 : Int64) (x5 : Int32) (x6 : Int32) (s0 : Int32) (s1 : Int32) (s2 : Nat) (h : pm_H) : Option (((Nat × Int32 × Int64 × pm_H) ⊕ (Nat × Int32 × Int64 × Int32 × pm_H) ⊕ (Nat × Int32 × Int64 × Int32 × Int32 × pm_H) ⊕ (Nat × Int32 × Int64 × Int32 × Int32 × Int32 × Int32 × Nat × pm_H) ⊕ (Nat × Int32 × Int64 × Int32 × Int32 × pm_H) ⊕ (Nat × Int32 × Int64 × Int32 × pm_H) ⊕ (Nat × Int32 × Int32 × Int32 × pm_H) ⊕ (Nat × Int32 × Int64 × Int64 × pm_H)) ⊕ pm_H) := (fX12_setItem h s2 s1 s0).bind fun v22 => if x5 = 0 then (some (.inl (.inr (.inr (.inr (.inr (.inl ((x0, x1, x3, x5, x6, v22))))))))) else (if (x3 &&& 2) = 0 then (some (.inl (.inr (.inr (.inr (.inr (.inl ((x0, x1, x3, x5, x6, v22))))))))) else (if pm_kd v22 x0 = 9 then (pm_R v22 x0 0).bind fun v27 => if pm_kd v22 v27 = 7 then (pm_R v22 v27 9).bind fun v30 => (fX9_number v22 x0 32).bind fun v32 => pm_let (fX12_index v32.1) fun v34 => (fX12_setItem v32.2 v30 (x1 + 1) v34).bind fun v36 => some (.inl (.inr (.inr (.inr (.inr (.inl ((x0, x1, x3, x5, x6, v36)))))))) else none else none))
noncomputable def tX9_element_141 (x0 : Nat) (x1 : Int32) (x3 : Int64) (x5 : Int32) (x6 : Int32) (h : pm_H) : Option (((Nat × Int32 × Int64 × pm_H) ⊕ (Nat × Int32 × Int64 × Int32 × pm_H) ⊕ (Nat × Int32 × Int64 × Int32 × Int32 × pm_H) ⊕ (Nat × Int32 × Int64 × Int32 × Int32 × Int32 × Int32 × Nat × pm_H) ⊕ (Nat × Int32 × Int64 × Int32 × Int32 × pm_H) ⊕ (Nat × Int32 × Int64 × Int32 × pm_H) ⊕ (Nat × Int32 × Int32 × Int32 × pm_H) ⊕ (Nat × Int32 × Int64 × Int64 × pm_H)) ⊕ pm_H) := if pm_kd h x0 = 9 then (pm_R h x0 0).bind fun v39 => if pm_kd h v39 = 7 then (pm_R h v39 9).bind fun v42 => (fX12_setItem h v42 (x1 + 2) (pm_I h x0 1)).bind fun v44 => if x5 = 0 then (some (.inl (.inr (.inr (.inr (.inr (.inr (.inl ((x0, x1, x3, x6, v44)))))))))) else (if pm_kd v44 x0 = 9 then (fX9_expression v44 x0).bind fun v48 => some (.inl (.inr (.inr (.inr (.inr (.inr (.inl ((x0, x1, x3, x6, v48))))))))) else none) else none else none
noncomputable def tX9_element_167 (x0 : Nat) (x1 : Int32) (x3 : Int64) (x6 : Int32) (h : pm_H) : Option (((Nat × Int32 × Int64 × pm_H) ⊕ (Nat × Int32 × Int64 × Int32 × pm_H) ⊕ (Nat × Int32 × Int64 × Int32 × Int32 × pm_H) ⊕ (Nat × Int32 × Int64 × Int32 × Int32 × Int32 × Int32 × Nat × pm_H) ⊕ (Nat × Int32 × Int64 × Int32 × Int32 × pm_H) ⊕ (Nat × Int32 × Int64 × Int32 × pm_H) ⊕ (Nat × Int32 × Int32 × Int32 × pm_H) ⊕ (Nat × Int32 × Int64 × Int64 × pm_H)) ⊕ pm_H) := if x3 = 0 then (some (.inl (.inr (.inr (.inr (.inr (.inr (.inr (.inl ((x0, x1, x6, 112, h))))))))))) else (if x3 = 4 then (some (.inl (.inr (.inr (.inr (.inr (.inr (.inr (.inl ((x0, x1, x6, 112, h))))))))))) else (if x6 = 0 then (if pm_kd h x0 = 9 then (fX9_nextUpTo h x0 0).bind fun v54 => some (.inl (.inr (.inr (.inr (.inr (.inr (.inr (.inl ((x0, x1, x6, 112, v54.2)))))))))) else none) else (if pm_kd h x0 = 9 then (fX9_referenceType h x0).bind fun v57 => some (.inl (.inr (.inr (.inr (.inr (.inr (.inr (.inl ((x0, x1, x6, v57.1, v57.2)))))))))) else none)))
noncomputable def tX9_element_205 (x0 : Nat) (x1 : Int32) (x6 : Int32) (x7 : Int32) (h : pm_H) : Option (((Nat × Int32 × Int64 × pm_H) ⊕ (Nat × Int32 × Int64 × Int32 × pm_H) ⊕ (Nat × Int32 × Int64 × Int32 × Int32 × pm_H) ⊕ (Nat × Int32 × Int64 × Int32 × Int32 × Int32 × Int32 × Nat × pm_H) ⊕ (Nat × Int32 × Int64 × Int32 × Int32 × pm_H) ⊕ (Nat × Int32 × Int64 × Int32 × pm_H) ⊕ (Nat × Int32 × Int32 × Int32 × pm_H) ⊕ (Nat × Int32 × Int64 × Int64 × pm_H)) ⊕ pm_H) := if pm_kd h x0 = 9 then (fX9_number h x0 32).bind fun v60 => if pm_kd v60.2 x0 = 9 then (pm_R v60.2 x0 0).bind fun v63 => if pm_kd v60.2 v63 = 7 then (pm_R v60.2 v63 9).bind fun v66 => (fX12_setItem v60.2 v66 (x1 + 3) (pm_I v60.2 x0 1)).bind fun v68 => if pm_kd v68 x0 = 9 then (pm_R v68 x0 0).bind fun v71 => if pm_kd v68 v71 = 7 then (pm_R v68 v71 9).bind fun v74 => pm_let (fX12_index v60.1) fun v76 => (fX12_setItem v68 v74 (x1 + 4) v76).bind fun v78 => if pm_kd v78 x0 = 9 then (pm_R v78 x0 0).bind fun v81 => if pm_kd v78 v81 = 7 then (pm_R v78 v81 9).bind fun v84 => (fX12_setItem v78 v84 (x1 + 5) x7).bind fun v86 => if pm_kd v86 x0 = 9 then (pm_R v86 x0 0).bind fun v89 => if pm_kd v86 v89 = 7 then (pm_R v86 v89 9).bind fun v92 => if x6 = 0 then ((fX12_setItem v86 v92 (x1 + 6) 0).bind fun v95 => some (.inl (.inr (.inr (.inr (.inr (.inr (.inr (.inr ((x0, x6, v60.1, 0, v95))))))))))) else ((fX12_setItem v86 v92 (x1 + 6) 1).bind fun v97 => some (.inl (.inr (.inr (.inr (.inr (.inr (.inr (.inr ((x0, x6, v60.1, 0, v97))))))))))) else none else none else none else none else none else none else none else none else none
noncomputable def tX9_element_290 (x0 : Nat) (x6 : Int32) (x8 : Int64) (x10 : Int64) (h : pm_H) : Option (((Nat × Int32 × Int64 × pm_H) ⊕ (Nat × Int32 × Int64 × Int32 × pm_H) ⊕ (Nat × Int32 × Int64 × Int32 × Int32 × pm_H) ⊕ (Nat × Int32 × Int64 × Int32 × Int32 × Int32 × Int32 × Nat × pm_H) ⊕ (Nat × Int32 × Int64 × Int32 × Int32 × pm_H) ⊕ (Nat × Int32 × Int64 × Int32 × pm_H) ⊕ (Nat × Int32 × Int32 × Int32 × pm_H) ⊕ (Nat × Int32 × Int64 × Int64 × pm_H)) ⊕ pm_H) := if x8 ≤ x10 then (some (.inr (h))) else (if pm_kd h x0 = 9 then if (pm_I h x0 3) = 0 then (if x6 = 0 then ((fX9_number h x0 32).bind fun v103 => pm_let (x10 + 1) fun y105 => some (.inl (.inr (.inr (.inr (.inr (.inr (.inr (.inr ((x0, x6, x8, y105, v103.2))))))))))) else ((fX9_expression h x0).bind fun v107 => pm_let (x10 + 1) fun y109 => some (.inl (.inr (.inr (.inr (.inr (.inr (.inr (.inr ((x0, x6, x8, y109, v107)))))))))))) else (some (.inr (h))) else none)
noncomputable def sX9_element : ((Nat × Int32 × Int64 × pm_H) ⊕ (Nat × Int32 × Int64 × Int32 × pm_H) ⊕ (Nat × Int32 × Int64 × Int32 × Int32 × pm_H) ⊕ (Nat × Int32 × Int64 × Int32 × Int32 × Int32 × Int32 × Nat × pm_H) ⊕ (Nat × Int32 × Int64 × Int32 × Int32 × pm_H) ⊕ (Nat × Int32 × Int64 × Int32 × pm_H) ⊕ (Nat × Int32 × Int32 × Int32 × pm_H) ⊕ (Nat × Int32 × Int64 × Int64 × pm_H)) → Option (((Nat × Int32 × Int64 × pm_H) ⊕ (Nat × Int32 × Int64 × Int32 × pm_H) ⊕ (Nat × Int32 × Int64 × Int32 × Int32 × pm_H) ⊕ (Nat × Int32 × Int64 × Int32 × Int32 × Int32 × Int32 × Nat × pm_H) ⊕ (Nat × Int32 × Int64 × Int32 × Int32 × pm_H) ⊕ (Nat × Int32 × Int64 × Int32 × pm_H) ⊕ (Nat × Int32 × Int32 × Int32 × pm_H) ⊕ (Nat × Int32 × Int64 × Int64 × pm_H)) ⊕ pm_H) := fun z => match z with
  | .inl (x0, x1, x3, h) => tX9_element_35 x0 x1 x3 h
  | .inr (.inl (x0, x1, x3, s0, h)) => tX9_element_48 x0 x1 x3 s0 h
  | .inr (.inr (.inl (x0, x1, x3, x5, s0, h))) => tX9_element_65 x0 x1 x3 x5 s0 h
  | .inr (.inr (.inr (.inl (x0, x1, x3, x5, x6, s0, s1, s2, h)))) => tX9_element_101 x0 x1 x3 x5 x6 s0 s1 s2 h
  | .inr (.inr (.inr (.inr (.inl (x0, x1, x3, x5, x6, h))))) => tX9_element_141 x0 x1 x3 x5 x6 h
  | .inr (.inr (.inr (.inr (.inr (.inl (x0, x1, x3, x6, h)))))) => tX9_element_167 x0 x1 x3 x6 h
  | .inr (.inr (.inr (.inr (.inr (.inr (.inl (x0, x1, x6, x7, h))))))) => tX9_element_205 x0 x1 x6 x7 h
  | .inr (.inr (.inr (.inr (.inr (.inr (.inr (x0, x6, x8, x10, h))))))) => tX9_element_290 x0 x6 x8 x10 h
noncomputable def fX9_element (h : pm_H) (a0 : Nat) : Option pm_H := if pm_kd h a0 = 9 then pm_let ((pm_I h a0 15) * 7) fun y2 => pm_let (pm_I h a0 1) fun y4 => (fX9_number h a0 32).bind fun v6 => if v6.1 ≤ 7 then (pm_lim sX9_element (.inl ((a0, y2, v6.1, v6.2)))) else (if pm_kd v6.2 a0 = 9 then (fX9_fail v6.2 a0 7 y4).bind fun v10 => pm_lim sX9_element (.inl ((a0, y2, v6.1, v10))) else none) else none
set_option maxHeartbeats 4000000 in
set_option maxRecDepth 100000 in
theorem lpX9_element {g : pm_Gm} {l : Launch} {G : pm_Gl} {Qr : Option Value → pm_H → Prop} (C : pm_C g cX9_element RX9) (X : pm_X g l G mX9_element 0 0 Qr) {r : pm_H} (q : Qr none r) : ∀ n : Nat, (∀ (x0 : Nat) (x1 : Int32) (x3 : Int64) (h : pm_H), pm_iter sX9_element n (.inl (x0, x1, x3, h)) = some r → pm_G g 35 [(0, .ref x0), (1, .int x1), (3, .long x3)] [] h 0 0) ∧ (∀ (x0 : Nat) (x1 : Int32) (x3 : Int64) (s0 : Int32) (h : pm_H), pm_iter sX9_element n (.inr (.inl (x0, x1, x3, s0, h))) = some r → pm_G g 48 [(0, .ref x0), (1, .int x1), (3, .long x3)] [.int s0] h 0 0) ∧ (∀ (x0 : Nat) (x1 : Int32) (x3 : Int64) (x5 : Int32) (s0 : Int32) (h : pm_H), pm_iter sX9_element n (.inr (.inr (.inl (x0, x1, x3, x5, s0, h)))) = some r → pm_G g 65 [(0, .ref x0), (1, .int x1), (3, .long x3), (5, .int x5)] [.int s0] h 0 0) ∧ (∀ (x0 : Nat) (x1 : Int32) (x3 : Int64) (x5 : Int32) (x6 : Int32) (s0 : Int32) (s1 : Int32) (s2 : Nat) (h : pm_H), pm_iter sX9_element n (.inr (.inr (.inr (.inl (x0, x1, x3, x5, x6, s0, s1, s2, h))))) = some r → pm_G g 101 [(0, .ref x0), (1, .int x1), (3, .long x3), (5, .int x5), (6, .int x6)] [.int s0, .int s1, .ref s2] h 0 0) ∧ (∀ (x0 : Nat) (x1 : Int32) (x3 : Int64) (x5 : Int32) (x6 : Int32) (h : pm_H), pm_iter sX9_element n (.inr (.inr (.inr (.inr (.inl (x0, x1, x3, x5, x6, h)))))) = some r → pm_G g 141 [(0, .ref x0), (1, .int x1), (3, .long x3), (5, .int x5), (6, .int x6)] [] h 0 0) ∧ (∀ (x0 : Nat) (x1 : Int32) (x3 : Int64) (x6 : Int32) (h : pm_H), pm_iter sX9_element n (.inr (.inr (.inr (.inr (.inr (.inl (x0, x1, x3, x6, h))))))) = some r → pm_G g 167 [(0, .ref x0), (1, .int x1), (3, .long x3), (6, .int x6)] [] h 0 0) ∧ (∀ (x0 : Nat) (x1 : Int32) (x6 : Int32) (x7 : Int32) (h : pm_H), pm_iter sX9_element n (.inr (.inr (.inr (.inr (.inr (.inr (.inl (x0, x1, x6, x7, h)))))))) = some r → pm_G g 205 [(0, .ref x0), (1, .int x1), (6, .int x6), (7, .int x7)] [] h 0 0) ∧ (∀ (x0 : Nat) (x6 : Int32) (x8 : Int64) (x10 : Int64) (h : pm_H), pm_iter sX9_element n (.inr (.inr (.inr (.inr (.inr (.inr (.inr (x0, x6, x8, x10, h)))))))) = some r → pm_G g 290 [(0, .ref x0), (6, .int x6), (8, .long x8), (10, .long x10)] [] h 0 0) := by
  intro n
  induction n with
  | zero => exact ⟨fun _ _ _ _ hf => (by cases hf), fun _ _ _ _ _ hf => (by cases hf), fun _ _ _ _ _ _ hf => (by cases hf), fun _ _ _ _ _ _ _ _ _ hf => (by cases hf), fun _ _ _ _ _ _ hf => (by cases hf), fun _ _ _ _ _ hf => (by cases hf), fun _ _ _ _ _ hf => (by cases hf), fun _ _ _ _ _ hf => (by cases hf)⟩
  | succ n ih =>
    refine ⟨fun x0 x1 x3 h hf => ?_, ?_⟩
    · obtain ⟨y, hf, hi⟩ := pm_iter_s hf
      have hf : tX9_element_35 x0 x1 x3 h = some y := hf
      unfold tX9_element_35 at hf
      refine pm_lload_n C dX9_element_35 rfl rfl ?_
      refine pm_lconst (v := 1) C dX9_element_36 (by decide) ?_
      refine pm_land C dX9_element_37 ?_
      refine pm_lconst (v := 0) C dX9_element_38 (by decide) ?_
      refine pm_lcmp C dX9_element_39 ?_
      refine pm_if_ne (tgt := 47) C dX9_element_40 (by decide) (fun c12 => ?_) (fun c12 => ?_)
      · have hf := pm_ie hf ((fun z => c12 ((pm_lg_eq _ _).mpr z)))
        refine pm_iconst (v := 0) C dX9_element_47 (by decide) ?_
        cases hf
        exact pm_sub [0, 1, 2] rfl (ih.2.1 x0 x1 x3 0 h hi)
      · have hf := pm_it hf ((pm_lg_eq _ _).mp c12)
        refine pm_iconst (v := 1) C dX9_element_43 (by decide) ?_
        refine pm_goto (tgt := 48) C dX9_element_44 (by decide) ?_
        cases hf
        exact pm_sub [0, 1, 2] rfl (ih.2.1 x0 x1 x3 1 h hi)
    refine ⟨fun x0 x1 x3 s0 h hf => ?_, ?_⟩
    · obtain ⟨y, hf, hi⟩ := pm_iter_s hf
      have hf : tX9_element_48 x0 x1 x3 s0 h = some y := hf
      unfold tX9_element_48 at hf
      refine pm_istore (lv' := [(5, .int s0), (0, .ref x0), (1, .int x1), (3, .long x3)]) C dX9_element_48 (pm_nl X (by decide)) rfl ?_
      refine pm_lload_n C dX9_element_50 rfl rfl ?_
      refine pm_ldc2 C dX9_element_51 cnX9_253 ?_
      refine pm_land C dX9_element_54 ?_
      refine pm_lconst (v := 0) C dX9_element_55 (by decide) ?_
      refine pm_lcmp C dX9_element_56 ?_
      refine pm_if_eq (tgt := 64) C dX9_element_57 (by decide) (fun c13 => ?_) (fun c13 => ?_)
      · have hf := pm_it hf ((pm_lg_eq _ _).mp c13)
        refine pm_iconst (v := 0) C dX9_element_64 (by decide) ?_
        cases hf
        exact pm_sub [1, 2, 3, 0] rfl (ih.2.2.1 x0 x1 x3 s0 0 h hi)
      · have hf := pm_ie hf ((fun z => c13 ((pm_lg_eq _ _).mpr z)))
        refine pm_iconst (v := 1) C dX9_element_60 (by decide) ?_
        refine pm_goto (tgt := 65) C dX9_element_61 (by decide) ?_
        cases hf
        exact pm_sub [1, 2, 3, 0] rfl (ih.2.2.1 x0 x1 x3 s0 1 h hi)
    refine ⟨fun x0 x1 x3 x5 s0 h hf => ?_, ?_⟩
    · obtain ⟨y, hf, hi⟩ := pm_iter_s hf
      have hf : tX9_element_65 x0 x1 x3 x5 s0 h = some y := hf
      unfold tX9_element_65 at hf
      refine pm_istore (lv' := [(6, .int s0), (0, .ref x0), (1, .int x1), (3, .long x3), (5, .int x5)]) C dX9_element_65 (pm_nl X (by decide)) rfl ?_
      refine pm_aload_n C dX9_element_67 rfl rfl ?_
      obtain ⟨k14, hf⟩ := pm_if hf
      obtain ⟨v15, e16, hf⟩ := pm_bd hf
      refine pm_getR C dX9_element_68 flX9_19 rfl k14 e16 ?_
      obtain ⟨k17, hf⟩ := pm_if hf
      obtain ⟨v18, e19, hf⟩ := pm_bd hf
      refine pm_getR C dX9_element_71 flX9_214 rfl k17 e19 ?_
      refine pm_iload_n C dX9_element_74 rfl rfl ?_
      refine pm_iconst (v := 0) C dX9_element_75 (by decide) ?_
      refine pm_iadd C dX9_element_76 ?_
      refine pm_iload C dX9_element_77 rfl ?_
      refine pm_if_eq (tgt := 86) C dX9_element_79 (by decide) (fun c20 => ?_) (fun c20 => ?_)
      · have hf := pm_it hf c20
        refine pm_lload_n C dX9_element_86 rfl rfl ?_
        refine pm_ldc2 C dX9_element_87 cnX9_255 ?_
        refine pm_land C dX9_element_90 ?_
        refine pm_lconst (v := 0) C dX9_element_91 (by decide) ?_
        refine pm_lcmp C dX9_element_92 ?_
        refine pm_if_eq (tgt := 100) C dX9_element_93 (by decide) (fun c21 => ?_) (fun c21 => ?_)
        · have hf := pm_it hf ((pm_lg_eq _ _).mp c21)
          refine pm_iconst (v := 1) C dX9_element_100 (by decide) ?_
          cases hf
          exact pm_sub [1, 2, 3, 4, 0] rfl (ih.2.2.2.1 x0 x1 x3 x5 s0 1 (x1 + 0) v18 h hi)
        · have hf := pm_ie hf ((fun z => c21 ((pm_lg_eq _ _).mpr z)))
          refine pm_iconst (v := 2) C dX9_element_96 (by decide) ?_
          refine pm_goto (tgt := 101) C dX9_element_97 (by decide) ?_
          cases hf
          exact pm_sub [1, 2, 3, 4, 0] rfl (ih.2.2.2.1 x0 x1 x3 x5 s0 2 (x1 + 0) v18 h hi)
      · have hf := pm_ie hf c20
        refine pm_iconst (v := 0) C dX9_element_82 (by decide) ?_
        refine pm_goto (tgt := 101) C dX9_element_83 (by decide) ?_
        cases hf
        exact pm_sub [1, 2, 3, 4, 0] rfl (ih.2.2.2.1 x0 x1 x3 x5 s0 0 (x1 + 0) v18 h hi)
    refine ⟨fun x0 x1 x3 x5 x6 s0 s1 s2 h hf => ?_, ?_⟩
    · obtain ⟨y, hf, hi⟩ := pm_iter_s hf
      have hf : tX9_element_101 x0 x1 x3 x5 x6 s0 s1 s2 h = some y := hf
      unfold tX9_element_101 at hf
      obtain ⟨v22, e23, hf⟩ := pm_bd hf
      refine pm_callS (as := [.ref s2, .int s1, .int s0]) (st := []) C X dX9_element_101 lnX9_152 myX12_setItem stX12_setItem ⟨by decide, by decide⟩ rfl rfl (Nat.le_of_ble_eq_true rfl) (Nat.le_refl _) (Nat.le_refl _) (ctX12_setItem e23 ?_)
      show pm_G g 104 [(0, .ref x0), (1, .int x1), (3, .long x3), (5, .int x5), (6, .int x6)] [] v22 0 0
      refine pm_iload C dX9_element_104 rfl ?_
      refine pm_if_eq (tgt := 141) C dX9_element_106 (by decide) (fun c24 => ?_) (fun c24 => ?_)
      · have hf := pm_it hf c24
        cases hf
        exact pm_sub [0, 1, 2, 3, 4] rfl (ih.2.2.2.2.1 x0 x1 x3 x5 x6 v22 hi)
      · have hf := pm_ie hf c24
        refine pm_lload_n C dX9_element_109 rfl rfl ?_
        refine pm_ldc2 C dX9_element_110 cnX9_255 ?_
        refine pm_land C dX9_element_113 ?_
        refine pm_lconst (v := 0) C dX9_element_114 (by decide) ?_
        refine pm_lcmp C dX9_element_115 ?_
        refine pm_if_eq (tgt := 141) C dX9_element_116 (by decide) (fun c25 => ?_) (fun c25 => ?_)
        · have hf := pm_it hf ((pm_lg_eq _ _).mp c25)
          cases hf
          exact pm_sub [0, 1, 2, 3, 4] rfl (ih.2.2.2.2.1 x0 x1 x3 x5 x6 v22 hi)
        · have hf := pm_ie hf ((fun z => c25 ((pm_lg_eq _ _).mpr z)))
          refine pm_aload_n C dX9_element_119 rfl rfl ?_
          obtain ⟨k26, hf⟩ := pm_if hf
          obtain ⟨v27, e28, hf⟩ := pm_bd hf
          refine pm_getR C dX9_element_120 flX9_19 rfl k26 e28 ?_
          obtain ⟨k29, hf⟩ := pm_if hf
          obtain ⟨v30, e31, hf⟩ := pm_bd hf
          refine pm_getR C dX9_element_123 flX9_214 rfl k29 e31 ?_
          refine pm_iload_n C dX9_element_126 rfl rfl ?_
          refine pm_iconst (v := 1) C dX9_element_127 (by decide) ?_
          refine pm_iadd C dX9_element_128 ?_
          refine pm_aload_n C dX9_element_129 rfl rfl ?_
          refine pm_bipush (v := 32) C dX9_element_130 (by decide) ?_
          obtain ⟨v32, e33, hf⟩ := pm_bd hf
          refine pm_callV (as := [.int 32]) (st := [.int (x1 + 1), .ref v30]) C X dX9_element_132 lnX9_145 myX9_number viX9_number ⟨by decide, by decide⟩ rfl rfl k26 (Nat.le_of_ble_eq_true rfl) (Nat.le_refl _) (Nat.le_refl _) (ctX9_number e33 ?_)
          show pm_G g 135 [(0, .ref x0), (1, .int x1), (3, .long x3), (5, .int x5), (6, .int x6)] [.long v32.1, .int (x1 + 1), .ref v30] v32.2 0 0
          obtain ⟨v34, e35, hf⟩ := pm_lt hf
          refine pm_callS (as := [.long v32.1]) (st := [.int (x1 + 1), .ref v30]) C X dX9_element_135 lnX9_247 myX12_index stX12_index ⟨by decide, by decide⟩ rfl rfl (Nat.le_of_ble_eq_true rfl) (Nat.le_refl _) (Nat.le_refl _) (ctX12_index e35 ?_)
          show pm_G g 138 [(0, .ref x0), (1, .int x1), (3, .long x3), (5, .int x5), (6, .int x6)] [.int v34, .int (x1 + 1), .ref v30] v32.2 0 0
          obtain ⟨v36, e37, hf⟩ := pm_bd hf
          refine pm_callS (as := [.ref v30, .int (x1 + 1), .int v34]) (st := []) C X dX9_element_138 lnX9_152 myX12_setItem stX12_setItem ⟨by decide, by decide⟩ rfl rfl (Nat.le_of_ble_eq_true rfl) (Nat.le_refl _) (Nat.le_refl _) (ctX12_setItem e37 ?_)
          show pm_G g 141 [(0, .ref x0), (1, .int x1), (3, .long x3), (5, .int x5), (6, .int x6)] [] v36 0 0
          cases hf
          exact pm_sub [0, 1, 2, 3, 4] rfl (ih.2.2.2.2.1 x0 x1 x3 x5 x6 v36 hi)
    refine ⟨fun x0 x1 x3 x5 x6 h hf => ?_, ?_⟩
    · obtain ⟨y, hf, hi⟩ := pm_iter_s hf
      have hf : tX9_element_141 x0 x1 x3 x5 x6 h = some y := hf
      unfold tX9_element_141 at hf
      refine pm_aload_n C dX9_element_141 rfl rfl ?_
      obtain ⟨k38, hf⟩ := pm_if hf
      obtain ⟨v39, e40, hf⟩ := pm_bd hf
      refine pm_getR C dX9_element_142 flX9_19 rfl k38 e40 ?_
      obtain ⟨k41, hf⟩ := pm_if hf
      obtain ⟨v42, e43, hf⟩ := pm_bd hf
      refine pm_getR C dX9_element_145 flX9_214 rfl k41 e43 ?_
      refine pm_iload_n C dX9_element_148 rfl rfl ?_
      refine pm_iconst (v := 2) C dX9_element_149 (by decide) ?_
      refine pm_iadd C dX9_element_150 ?_
      refine pm_aload_n C dX9_element_151 rfl rfl ?_
      refine pm_getI C dX9_element_152 flX9_51 rfl k38 rfl ?_
      obtain ⟨v44, e45, hf⟩ := pm_bd hf
      refine pm_callS (as := [.ref v42, .int (x1 + 2), .int (pm_I h x0 1)]) (st := []) C X dX9_element_155 lnX9_152 myX12_setItem stX12_setItem ⟨by decide, by decide⟩ rfl rfl (Nat.le_of_ble_eq_true rfl) (Nat.le_refl _) (Nat.le_refl _) (ctX12_setItem e45 ?_)
      show pm_G g 158 [(0, .ref x0), (1, .int x1), (3, .long x3), (5, .int x5), (6, .int x6)] [] v44 0 0
      refine pm_iload C dX9_element_158 rfl ?_
      refine pm_if_eq (tgt := 167) C dX9_element_160 (by decide) (fun c46 => ?_) (fun c46 => ?_)
      · have hf := pm_it hf c46
        cases hf
        exact pm_sub [0, 1, 2, 4] rfl (ih.2.2.2.2.2.1 x0 x1 x3 x6 v44 hi)
      · have hf := pm_ie hf c46
        refine pm_aload_n C dX9_element_163 rfl rfl ?_
        obtain ⟨k47, hf⟩ := pm_if hf
        obtain ⟨v48, e49, hf⟩ := pm_bd hf
        refine pm_callV (as := []) (st := []) C X dX9_element_164 lnX9_241 myX9_expression viX9_expression ⟨by decide, by decide⟩ rfl rfl k47 (Nat.le_of_ble_eq_true rfl) (Nat.le_refl _) (Nat.le_refl _) (ctX9_expression e49 ?_)
        show pm_G g 167 [(0, .ref x0), (1, .int x1), (3, .long x3), (5, .int x5), (6, .int x6)] [] v48 0 0
        cases hf
        exact pm_sub [0, 1, 2, 4] rfl (ih.2.2.2.2.2.1 x0 x1 x3 x6 v48 hi)
    refine ⟨fun x0 x1 x3 x6 h hf => ?_, ?_⟩
    · obtain ⟨y, hf, hi⟩ := pm_iter_s hf
      have hf : tX9_element_167 x0 x1 x3 x6 h = some y := hf
      unfold tX9_element_167 at hf
      refine pm_bipush (v := 112) C dX9_element_167 (by decide) ?_
      refine pm_istore (lv' := [(7, .int 112), (0, .ref x0), (1, .int x1), (3, .long x3), (6, .int x6)]) C dX9_element_169 (pm_nl X (by decide)) rfl ?_
      refine pm_lload_n C dX9_element_171 rfl rfl ?_
      refine pm_lconst (v := 0) C dX9_element_172 (by decide) ?_
      refine pm_lcmp C dX9_element_173 ?_
      refine pm_if_eq (tgt := 205) C dX9_element_174 (by decide) (fun c50 => ?_) (fun c50 => ?_)
      · have hf := pm_it hf ((pm_lg_eq _ _).mp c50)
        cases hf
        exact pm_sub [1, 2, 4, 0] rfl (ih.2.2.2.2.2.2.1 x0 x1 x6 112 h hi)
      · have hf := pm_ie hf ((fun z => c50 ((pm_lg_eq _ _).mpr z)))
        refine pm_lload_n C dX9_element_177 rfl rfl ?_
        refine pm_ldc2 C dX9_element_178 cnX9_253 ?_
        refine pm_lcmp C dX9_element_181 ?_
        refine pm_if_eq (tgt := 205) C dX9_element_182 (by decide) (fun c51 => ?_) (fun c51 => ?_)
        · have hf := pm_it hf ((pm_lg_eq _ _).mp c51)
          cases hf
          exact pm_sub [1, 2, 4, 0] rfl (ih.2.2.2.2.2.2.1 x0 x1 x6 112 h hi)
        · have hf := pm_ie hf ((fun z => c51 ((pm_lg_eq _ _).mpr z)))
          refine pm_iload C dX9_element_185 rfl ?_
          refine pm_if_eq (tgt := 199) C dX9_element_187 (by decide) (fun c52 => ?_) (fun c52 => ?_)
          · have hf := pm_it hf c52
            refine pm_aload_n C dX9_element_199 rfl rfl ?_
            refine pm_iconst (v := 0) C dX9_element_200 (by decide) ?_
            obtain ⟨k53, hf⟩ := pm_if hf
            obtain ⟨v54, e55, hf⟩ := pm_bd hf
            refine pm_callV (as := [.int 0]) (st := []) C X dX9_element_201 lnX9_228 myX9_nextUpTo viX9_nextUpTo ⟨by decide, by decide⟩ rfl rfl k53 (Nat.le_of_ble_eq_true rfl) (Nat.le_refl _) (Nat.le_refl _) (ctX9_nextUpTo e55 ?_)
            show pm_G g 204 [(7, .int 112), (0, .ref x0), (1, .int x1), (3, .long x3), (6, .int x6)] [.int v54.1] v54.2 0 0
            refine pm_pop C dX9_element_204 rfl ?_
            cases hf
            exact pm_sub [1, 2, 4, 0] rfl (ih.2.2.2.2.2.2.1 x0 x1 x6 112 v54.2 hi)
          · have hf := pm_ie hf c52
            refine pm_aload_n C dX9_element_190 rfl rfl ?_
            obtain ⟨k56, hf⟩ := pm_if hf
            obtain ⟨v57, e58, hf⟩ := pm_bd hf
            refine pm_callV (as := []) (st := []) C X dX9_element_191 lnX9_244 myX9_referenceType viX9_referenceType ⟨by decide, by decide⟩ rfl rfl k56 (Nat.le_of_ble_eq_true rfl) (Nat.le_refl _) (Nat.le_refl _) (ctX9_referenceType e58 ?_)
            show pm_G g 194 [(7, .int 112), (0, .ref x0), (1, .int x1), (3, .long x3), (6, .int x6)] [.int v57.1] v57.2 0 0
            refine pm_istore (lv' := [(7, .int v57.1), (0, .ref x0), (1, .int x1), (3, .long x3), (6, .int x6)]) C dX9_element_194 (pm_nl X (by decide)) rfl ?_
            refine pm_goto (tgt := 205) C dX9_element_196 (by decide) ?_
            cases hf
            exact pm_sub [1, 2, 4, 0] rfl (ih.2.2.2.2.2.2.1 x0 x1 x6 v57.1 v57.2 hi)
    refine ⟨fun x0 x1 x6 x7 h hf => ?_, ?_⟩
    · obtain ⟨y, hf, hi⟩ := pm_iter_s hf
      have hf : tX9_element_205 x0 x1 x6 x7 h = some y := hf
      unfold tX9_element_205 at hf
      refine pm_aload_n C dX9_element_205 rfl rfl ?_
      refine pm_bipush (v := 32) C dX9_element_206 (by decide) ?_
      obtain ⟨k59, hf⟩ := pm_if hf
      obtain ⟨v60, e61, hf⟩ := pm_bd hf
      refine pm_callV (as := [.int 32]) (st := []) C X dX9_element_208 lnX9_145 myX9_number viX9_number ⟨by decide, by decide⟩ rfl rfl k59 (Nat.le_of_ble_eq_true rfl) (Nat.le_refl _) (Nat.le_refl _) (ctX9_number e61 ?_)
      show pm_G g 211 [(0, .ref x0), (1, .int x1), (6, .int x6), (7, .int x7)] [.long v60.1] v60.2 0 0
      refine pm_lstore (lv' := [(8, .long v60.1), (0, .ref x0), (1, .int x1), (6, .int x6), (7, .int x7)]) C dX9_element_211 (pm_nl X (by decide)) rfl ?_
      refine pm_aload_n C dX9_element_213 rfl rfl ?_
      obtain ⟨k62, hf⟩ := pm_if hf
      obtain ⟨v63, e64, hf⟩ := pm_bd hf
      refine pm_getR C dX9_element_214 flX9_19 rfl k62 e64 ?_
      obtain ⟨k65, hf⟩ := pm_if hf
      obtain ⟨v66, e67, hf⟩ := pm_bd hf
      refine pm_getR C dX9_element_217 flX9_214 rfl k65 e67 ?_
      refine pm_iload_n C dX9_element_220 rfl rfl ?_
      refine pm_iconst (v := 3) C dX9_element_221 (by decide) ?_
      refine pm_iadd C dX9_element_222 ?_
      refine pm_aload_n C dX9_element_223 rfl rfl ?_
      refine pm_getI C dX9_element_224 flX9_51 rfl k62 rfl ?_
      obtain ⟨v68, e69, hf⟩ := pm_bd hf
      refine pm_callS (as := [.ref v66, .int (x1 + 3), .int (pm_I v60.2 x0 1)]) (st := []) C X dX9_element_227 lnX9_152 myX12_setItem stX12_setItem ⟨by decide, by decide⟩ rfl rfl (Nat.le_of_ble_eq_true rfl) (Nat.le_refl _) (Nat.le_refl _) (ctX12_setItem e69 ?_)
      show pm_G g 230 [(8, .long v60.1), (0, .ref x0), (1, .int x1), (6, .int x6), (7, .int x7)] [] v68 0 0
      refine pm_aload_n C dX9_element_230 rfl rfl ?_
      obtain ⟨k70, hf⟩ := pm_if hf
      obtain ⟨v71, e72, hf⟩ := pm_bd hf
      refine pm_getR C dX9_element_231 flX9_19 rfl k70 e72 ?_
      obtain ⟨k73, hf⟩ := pm_if hf
      obtain ⟨v74, e75, hf⟩ := pm_bd hf
      refine pm_getR C dX9_element_234 flX9_214 rfl k73 e75 ?_
      refine pm_iload_n C dX9_element_237 rfl rfl ?_
      refine pm_iconst (v := 4) C dX9_element_238 (by decide) ?_
      refine pm_iadd C dX9_element_239 ?_
      refine pm_lload C dX9_element_240 rfl ?_
      obtain ⟨v76, e77, hf⟩ := pm_lt hf
      refine pm_callS (as := [.long v60.1]) (st := [.int (x1 + 4), .ref v74]) C X dX9_element_242 lnX9_247 myX12_index stX12_index ⟨by decide, by decide⟩ rfl rfl (Nat.le_of_ble_eq_true rfl) (Nat.le_refl _) (Nat.le_refl _) (ctX12_index e77 ?_)
      show pm_G g 245 [(8, .long v60.1), (0, .ref x0), (1, .int x1), (6, .int x6), (7, .int x7)] [.int v76, .int (x1 + 4), .ref v74] v68 0 0
      obtain ⟨v78, e79, hf⟩ := pm_bd hf
      refine pm_callS (as := [.ref v74, .int (x1 + 4), .int v76]) (st := []) C X dX9_element_245 lnX9_152 myX12_setItem stX12_setItem ⟨by decide, by decide⟩ rfl rfl (Nat.le_of_ble_eq_true rfl) (Nat.le_refl _) (Nat.le_refl _) (ctX12_setItem e79 ?_)
      show pm_G g 248 [(8, .long v60.1), (0, .ref x0), (1, .int x1), (6, .int x6), (7, .int x7)] [] v78 0 0
      refine pm_aload_n C dX9_element_248 rfl rfl ?_
      obtain ⟨k80, hf⟩ := pm_if hf
      obtain ⟨v81, e82, hf⟩ := pm_bd hf
      refine pm_getR C dX9_element_249 flX9_19 rfl k80 e82 ?_
      obtain ⟨k83, hf⟩ := pm_if hf
      obtain ⟨v84, e85, hf⟩ := pm_bd hf
      refine pm_getR C dX9_element_252 flX9_214 rfl k83 e85 ?_
      refine pm_iload_n C dX9_element_255 rfl rfl ?_
      refine pm_iconst (v := 5) C dX9_element_256 (by decide) ?_
      refine pm_iadd C dX9_element_257 ?_
      refine pm_iload C dX9_element_258 rfl ?_
      obtain ⟨v86, e87, hf⟩ := pm_bd hf
      refine pm_callS (as := [.ref v84, .int (x1 + 5), .int x7]) (st := []) C X dX9_element_260 lnX9_152 myX12_setItem stX12_setItem ⟨by decide, by decide⟩ rfl rfl (Nat.le_of_ble_eq_true rfl) (Nat.le_refl _) (Nat.le_refl _) (ctX12_setItem e87 ?_)
      show pm_G g 263 [(8, .long v60.1), (0, .ref x0), (1, .int x1), (6, .int x6), (7, .int x7)] [] v86 0 0
      refine pm_aload_n C dX9_element_263 rfl rfl ?_
      obtain ⟨k88, hf⟩ := pm_if hf
      obtain ⟨v89, e90, hf⟩ := pm_bd hf
      refine pm_getR C dX9_element_264 flX9_19 rfl k88 e90 ?_
      obtain ⟨k91, hf⟩ := pm_if hf
      obtain ⟨v92, e93, hf⟩ := pm_bd hf
      refine pm_getR C dX9_element_267 flX9_214 rfl k91 e93 ?_
      refine pm_iload_n C dX9_element_270 rfl rfl ?_
      refine pm_bipush (v := 6) C dX9_element_271 (by decide) ?_
      refine pm_iadd C dX9_element_273 ?_
      refine pm_iload C dX9_element_274 rfl ?_
      refine pm_if_eq (tgt := 283) C dX9_element_276 (by decide) (fun c94 => ?_) (fun c94 => ?_)
      · have hf := pm_it hf c94
        refine pm_iconst (v := 0) C dX9_element_283 (by decide) ?_
        obtain ⟨v95, e96, hf⟩ := pm_bd hf
        refine pm_callS (as := [.ref v92, .int (x1 + 6), .int 0]) (st := []) C X dX9_element_284 lnX9_152 myX12_setItem stX12_setItem ⟨by decide, by decide⟩ rfl rfl (Nat.le_of_ble_eq_true rfl) (Nat.le_refl _) (Nat.le_refl _) (ctX12_setItem e96 ?_)
        show pm_G g 287 [(8, .long v60.1), (0, .ref x0), (1, .int x1), (6, .int x6), (7, .int x7)] [] v95 0 0
        refine pm_lconst (v := 0) C dX9_element_287 (by decide) ?_
        refine pm_lstore (lv' := [(10, .long 0), (8, .long v60.1), (0, .ref x0), (1, .int x1), (6, .int x6), (7, .int x7)]) C dX9_element_288 (pm_nl X (by decide)) rfl ?_
        cases hf
        exact pm_sub [2, 4, 1, 0] rfl (ih.2.2.2.2.2.2.2 x0 x6 v60.1 0 v95 hi)
      · have hf := pm_ie hf c94
        refine pm_iconst (v := 1) C dX9_element_279 (by decide) ?_
        refine pm_goto (tgt := 284) C dX9_element_280 (by decide) ?_
        obtain ⟨v97, e98, hf⟩ := pm_bd hf
        refine pm_callS (as := [.ref v92, .int (x1 + 6), .int 1]) (st := []) C X dX9_element_284 lnX9_152 myX12_setItem stX12_setItem ⟨by decide, by decide⟩ rfl rfl (Nat.le_of_ble_eq_true rfl) (Nat.le_refl _) (Nat.le_refl _) (ctX12_setItem e98 ?_)
        show pm_G g 287 [(8, .long v60.1), (0, .ref x0), (1, .int x1), (6, .int x6), (7, .int x7)] [] v97 0 0
        refine pm_lconst (v := 0) C dX9_element_287 (by decide) ?_
        refine pm_lstore (lv' := [(10, .long 0), (8, .long v60.1), (0, .ref x0), (1, .int x1), (6, .int x6), (7, .int x7)]) C dX9_element_288 (pm_nl X (by decide)) rfl ?_
        cases hf
        exact pm_sub [2, 4, 1, 0] rfl (ih.2.2.2.2.2.2.2 x0 x6 v60.1 0 v97 hi)
    refine fun x0 x6 x8 x10 h hf => ?_
    obtain ⟨y, hf, hi⟩ := pm_iter_s hf
    have hf : tX9_element_290 x0 x6 x8 x10 h = some y := hf
    unfold tX9_element_290 at hf
    refine pm_lload C dX9_element_290 rfl ?_
    refine pm_lload C dX9_element_292 rfl ?_
    refine pm_lcmp C dX9_element_294 ?_
    refine pm_if_ge (tgt := 333) C dX9_element_295 (by decide) (fun c99 => ?_) (fun c99 => ?_)
    · have hf := pm_it hf ((pm_lg_ge _ _).mp c99)
      cases hf
      cases hi
      exact pm_vret C X dX9_element_333 rfl (Nat.le_refl _) (Nat.le_refl _) q
    · have hf := pm_ie hf ((fun z => c99 ((pm_lg_ge _ _).mpr z)))
      refine pm_aload_n C dX9_element_298 rfl rfl ?_
      obtain ⟨k100, hf⟩ := pm_if hf
      refine pm_getI C dX9_element_299 flX9_40 rfl k100 rfl ?_
      refine pm_if_ne (tgt := 333) C dX9_element_302 (by decide) (fun c101 => ?_) (fun c101 => ?_)
      · have hf := pm_ie hf c101
        cases hf
        cases hi
        exact pm_vret C X dX9_element_333 rfl (Nat.le_refl _) (Nat.le_refl _) q
      · have hf := pm_it hf c101
        refine pm_iload C dX9_element_305 rfl ?_
        refine pm_if_eq (tgt := 317) C dX9_element_307 (by decide) (fun c102 => ?_) (fun c102 => ?_)
        · have hf := pm_it hf c102
          refine pm_aload_n C dX9_element_317 rfl rfl ?_
          refine pm_bipush (v := 32) C dX9_element_318 (by decide) ?_
          obtain ⟨v103, e104, hf⟩ := pm_bd hf
          refine pm_callV (as := [.int 32]) (st := []) C X dX9_element_320 lnX9_145 myX9_number viX9_number ⟨by decide, by decide⟩ rfl rfl k100 (Nat.le_of_ble_eq_true rfl) (Nat.le_refl _) (Nat.le_refl _) (ctX9_number e104 ?_)
          show pm_G g 323 [(0, .ref x0), (6, .int x6), (8, .long x8), (10, .long x10)] [.long v103.1] v103.2 0 0
          refine pm_pop2_2 C dX9_element_323 rfl ?_
          refine pm_lload C dX9_element_324 rfl ?_
          refine pm_lconst (v := 1) C dX9_element_326 (by decide) ?_
          refine pm_ladd C dX9_element_327 ?_
          obtain ⟨y105, e106, hf⟩ := pm_lt hf
          refine pm_topL e106 ?_
          refine pm_lstore (lv' := [(10, .long y105), (0, .ref x0), (6, .int x6), (8, .long x8)]) C dX9_element_328 (pm_nl X (by decide)) rfl ?_
          refine pm_goto (tgt := 290) C dX9_element_330 (by decide) ?_
          cases hf
          exact pm_sub [1, 2, 3, 0] rfl (ih.2.2.2.2.2.2.2 x0 x6 x8 y105 v103.2 hi)
        · have hf := pm_ie hf c102
          refine pm_aload_n C dX9_element_310 rfl rfl ?_
          obtain ⟨v107, e108, hf⟩ := pm_bd hf
          refine pm_callV (as := []) (st := []) C X dX9_element_311 lnX9_241 myX9_expression viX9_expression ⟨by decide, by decide⟩ rfl rfl k100 (Nat.le_of_ble_eq_true rfl) (Nat.le_refl _) (Nat.le_refl _) (ctX9_expression e108 ?_)
          show pm_G g 314 [(0, .ref x0), (6, .int x6), (8, .long x8), (10, .long x10)] [] v107 0 0
          refine pm_goto (tgt := 324) C dX9_element_314 (by decide) ?_
          refine pm_lload C dX9_element_324 rfl ?_
          refine pm_lconst (v := 1) C dX9_element_326 (by decide) ?_
          refine pm_ladd C dX9_element_327 ?_
          obtain ⟨y109, e110, hf⟩ := pm_lt hf
          refine pm_topL e110 ?_
          refine pm_lstore (lv' := [(10, .long y109), (0, .ref x0), (6, .int x6), (8, .long x8)]) C dX9_element_328 (pm_nl X (by decide)) rfl ?_
          refine pm_goto (tgt := 290) C dX9_element_330 (by decide) ?_
          cases hf
          exact pm_sub [1, 2, 3, 0] rfl (ih.2.2.2.2.2.2.2 x0 x6 x8 y109 v107 hi)
set_option maxHeartbeats 4000000 in
set_option maxRecDepth 100000 in
theorem ctX9_element {l : Launch} {G : pm_Gl} {h : pm_H} {a0 : Nat} {r : pm_H} {Qr : Option Value → pm_H → Prop} (hf : fX9_element h a0 = some r) (q : Qr none r) : pm_Ct l G mX9_element [.ref a0] h 0 0 Qr := by
  refine pm_body pnX9 (Nat.le_of_ble_eq_true rfl) (fun g C X => ?_)
  have C : pm_C g cX9_element RX9 := C
  show pm_G g 0 [(0, .ref a0)] [] h 0 0
  unfold fX9_element at hf
  refine pm_aload_n C dX9_element_0 rfl rfl ?_
  obtain ⟨k1, hf⟩ := pm_if hf
  refine pm_getI C dX9_element_1 flX9_133 rfl k1 rfl ?_
  refine pm_bipush (v := 7) C dX9_element_4 (by decide) ?_
  refine pm_imul C dX9_element_6 ?_
  obtain ⟨y2, e3, hf⟩ := pm_lt hf
  refine pm_topI e3 ?_
  refine pm_istore_n (lv' := [(1, .int y2), (0, .ref a0)]) C dX9_element_7 rfl (pm_nl X (by decide)) rfl ?_
  refine pm_aload_n C dX9_element_8 rfl rfl ?_
  refine pm_getI C dX9_element_9 flX9_51 rfl k1 rfl ?_
  obtain ⟨y4, e5, hf⟩ := pm_lt hf
  refine pm_topI e5 ?_
  refine pm_istore_n (lv' := [(2, .int y4), (1, .int y2), (0, .ref a0)]) C dX9_element_12 rfl (pm_nl X (by decide)) rfl ?_
  refine pm_aload_n C dX9_element_13 rfl rfl ?_
  refine pm_bipush (v := 32) C dX9_element_14 (by decide) ?_
  obtain ⟨v6, e7, hf⟩ := pm_bd hf
  refine pm_callV (as := [.int 32]) (st := []) C X dX9_element_16 lnX9_145 myX9_number viX9_number ⟨by decide, by decide⟩ rfl rfl k1 (Nat.le_of_ble_eq_true rfl) (Nat.le_refl _) (Nat.le_refl _) (ctX9_number e7 ?_)
  show pm_G g 19 [(2, .int y4), (1, .int y2), (0, .ref a0)] [.long v6.1] v6.2 0 0
  refine pm_lstore_n (lv' := [(3, .long v6.1), (2, .int y4), (1, .int y2), (0, .ref a0)]) C dX9_element_19 rfl (pm_nl X (by decide)) rfl ?_
  refine pm_lload_n C dX9_element_20 rfl rfl ?_
  refine pm_ldc2 C dX9_element_21 cnX9_251 ?_
  refine pm_lcmp C dX9_element_24 ?_
  refine pm_if_le (tgt := 35) C dX9_element_25 (by decide) (fun c8 => ?_) (fun c8 => ?_)
  · have hf := pm_it hf ((pm_lg_le _ _).mp c8)
    obtain ⟨n, hn⟩ := pm_lim_iter hf
    exact pm_sub [3, 2, 0] rfl ((lpX9_element C X q n).1 a0 y2 v6.1 v6.2 hn)
  · have hf := pm_ie hf ((fun z => c8 ((pm_lg_le _ _).mpr z)))
    refine pm_aload_n C dX9_element_28 rfl rfl ?_
    refine pm_bipush (v := 7) C dX9_element_29 (by decide) ?_
    refine pm_iload_n C dX9_element_31 rfl rfl ?_
    obtain ⟨k9, hf⟩ := pm_if hf
    obtain ⟨v10, e11, hf⟩ := pm_bd hf
    refine pm_callV (as := [.int 7, .int y4]) (st := []) C X dX9_element_32 lnX9_47 myX9_fail viX9_fail ⟨by decide, by decide⟩ rfl rfl k9 (Nat.le_of_ble_eq_true rfl) (Nat.le_refl _) (Nat.le_refl _) (ctX9_fail e11 ?_)
    show pm_G g 35 [(3, .long v6.1), (2, .int y4), (1, .int y2), (0, .ref a0)] [] v10 0 0
    obtain ⟨n, hn⟩ := pm_lim_iter hf
    exact pm_sub [3, 2, 0] rfl ((lpX9_element C X q n).1 a0 y2 v6.1 v10 hn)
