theorem dX16_operands_0 : decode cX16_operands 0 = .ok (.iload_n 1, 1) := by decide +kernel
theorem dX16_operands_1 : decode cX16_operands 1 = .ok (.invokestatic 566, 3) := by decide +kernel
theorem dX16_operands_4 : decode cX16_operands 4 = .ok (.ifCond .eq 4, 3) := by decide +kernel
theorem dX16_operands_7 : decode cX16_operands 7 = .ok (.return_, 1) := by decide +kernel
theorem dX16_operands_8 : decode cX16_operands 8 = .ok (.iload_n 1, 1) := by decide +kernel
theorem dX16_operands_9 : decode cX16_operands 9 = .ok (.invokestatic 569, 3) := by decide +kernel
theorem dX16_operands_12 : decode cX16_operands 12 = .ok (.ifCond .eq 12, 3) := by decide +kernel
theorem dX16_operands_15 : decode cX16_operands 15 = .ok (.aload_n 0, 1) := by decide +kernel
theorem dX16_operands_16 : decode cX16_operands 16 = .ok (.invokevirtual 277, 3) := by decide +kernel
theorem dX16_operands_19 : decode cX16_operands 19 = .ok (.lstore 4, 2) := by decide +kernel
theorem dX16_operands_21 : decode cX16_operands 21 = .ok (.goto 296, 3) := by decide +kernel
theorem dX16_operands_24 : decode cX16_operands 24 = .ok (.iload_n 1, 1) := by decide +kernel
theorem dX16_operands_25 : decode cX16_operands 25 = .ok (.invokestatic 572, 3) := by decide +kernel
theorem dX16_operands_28 : decode cX16_operands 28 = .ok (.ifCond .ne 9, 3) := by decide +kernel
theorem dX16_operands_31 : decode cX16_operands 31 = .ok (.iload_n 1, 1) := by decide +kernel
theorem dX16_operands_32 : decode cX16_operands 32 = .ok (.bipush 17, 2) := by decide +kernel
theorem dX16_operands_34 : decode cX16_operands 34 = .ok (.if_icmp .ne 18, 3) := by decide +kernel
theorem dX16_operands_37 : decode cX16_operands 37 = .ok (.aload_n 0, 1) := by decide +kernel
theorem dX16_operands_38 : decode cX16_operands 38 = .ok (.invokevirtual 277, 3) := by decide +kernel
theorem dX16_operands_41 : decode cX16_operands 41 = .ok (.lstore 4, 2) := by decide +kernel
theorem dX16_operands_43 : decode cX16_operands 43 = .ok (.aload_n 0, 1) := by decide +kernel
theorem dX16_operands_44 : decode cX16_operands 44 = .ok (.invokevirtual 277, 3) := by decide +kernel
theorem dX16_operands_47 : decode cX16_operands 47 = .ok (.lstore 6, 2) := by decide +kernel
theorem dX16_operands_49 : decode cX16_operands 49 = .ok (.goto 268, 3) := by decide +kernel
theorem dX16_operands_52 : decode cX16_operands 52 = .ok (.iload_n 1, 1) := by decide +kernel
theorem dX16_operands_53 : decode cX16_operands 53 = .ok (.bipush 14, 2) := by decide +kernel
theorem dX16_operands_55 : decode cX16_operands 55 = .ok (.if_icmp .ne 60, 3) := by decide +kernel
theorem dX16_operands_58 : decode cX16_operands 58 = .ok (.aload_n 0, 1) := by decide +kernel
theorem dX16_operands_59 : decode cX16_operands 59 = .ok (.invokevirtual 277, 3) := by decide +kernel
theorem dX16_operands_62 : decode cX16_operands 62 = .ok (.lstore 4, 2) := by decide +kernel
theorem dX16_operands_64 : decode cX16_operands 64 = .ok (.iload_n 3, 1) := by decide +kernel
theorem dX16_operands_65 : decode cX16_operands 65 = .ok (.ifCond .eq 21, 3) := by decide +kernel
theorem dX16_operands_68 : decode cX16_operands 68 = .ok (.aload_n 0, 1) := by decide +kernel
theorem dX16_operands_69 : decode cX16_operands 69 = .ok (.lload 4, 2) := by decide +kernel
theorem dX16_operands_71 : decode cX16_operands 71 = .ok (.ldc2_w 575, 3) := by decide +kernel
theorem dX16_operands_74 : decode cX16_operands 74 = .ok (.lcmp, 1) := by decide +kernel
theorem dX16_operands_75 : decode cX16_operands 75 = .ok (.ifCond .le 7, 3) := by decide +kernel
theorem dX16_operands_78 : decode cX16_operands 78 = .ok (.iconst 1, 1) := by decide +kernel
theorem dX16_operands_79 : decode cX16_operands 79 = .ok (.goto 4, 3) := by decide +kernel
theorem dX16_operands_82 : decode cX16_operands 82 = .ok (.iconst 0, 1) := by decide +kernel
theorem dX16_operands_83 : decode cX16_operands 83 = .ok (.invokevirtual 365, 3) := by decide +kernel
theorem dX16_operands_86 : decode cX16_operands 86 = .ok (.lconst 0, 1) := by decide +kernel
theorem dX16_operands_87 : decode cX16_operands 87 = .ok (.lstore 6, 2) := by decide +kernel
theorem dX16_operands_89 : decode cX16_operands 89 = .ok (.lload 6, 2) := by decide +kernel
theorem dX16_operands_91 : decode cX16_operands 91 = .ok (.lload 4, 2) := by decide +kernel
theorem dX16_operands_93 : decode cX16_operands 93 = .ok (.lcmp, 1) := by decide +kernel
theorem dX16_operands_94 : decode cX16_operands 94 = .ok (.ifCond .gt 18, 3) := by decide +kernel
theorem dX16_operands_97 : decode cX16_operands 97 = .ok (.aload_n 0, 1) := by decide +kernel
theorem dX16_operands_98 : decode cX16_operands 98 = .ok (.invokevirtual 277, 3) := by decide +kernel
theorem dX16_operands_101 : decode cX16_operands 101 = .ok (.lstore 8, 2) := by decide +kernel
theorem dX16_operands_103 : decode cX16_operands 103 = .ok (.lload 6, 2) := by decide +kernel
theorem dX16_operands_105 : decode cX16_operands 105 = .ok (.lconst 1, 1) := by decide +kernel
theorem dX16_operands_106 : decode cX16_operands 106 = .ok (.ladd, 1) := by decide +kernel
theorem dX16_operands_107 : decode cX16_operands 107 = .ok (.lstore 6, 2) := by decide +kernel
theorem dX16_operands_109 : decode cX16_operands 109 = .ok (.goto (-20), 3) := by decide +kernel
theorem dX16_operands_112 : decode cX16_operands 112 = .ok (.goto 205, 3) := by decide +kernel
theorem dX16_operands_115 : decode cX16_operands 115 = .ok (.iload_n 1, 1) := by decide +kernel
theorem dX16_operands_116 : decode cX16_operands 116 = .ok (.bipush 28, 2) := by decide +kernel
theorem dX16_operands_118 : decode cX16_operands 118 = .ok (.if_icmp .ne 58, 3) := by decide +kernel
theorem dX16_operands_121 : decode cX16_operands 121 = .ok (.aload_n 0, 1) := by decide +kernel
theorem dX16_operands_122 : decode cX16_operands 122 = .ok (.invokevirtual 277, 3) := by decide +kernel
theorem dX16_operands_125 : decode cX16_operands 125 = .ok (.lstore 4, 2) := by decide +kernel
theorem dX16_operands_127 : decode cX16_operands 127 = .ok (.iload_n 3, 1) := by decide +kernel
theorem dX16_operands_128 : decode cX16_operands 128 = .ok (.ifCond .eq 19, 3) := by decide +kernel
theorem dX16_operands_131 : decode cX16_operands 131 = .ok (.aload_n 0, 1) := by decide +kernel
theorem dX16_operands_132 : decode cX16_operands 132 = .ok (.lload 4, 2) := by decide +kernel
theorem dX16_operands_134 : decode cX16_operands 134 = .ok (.lconst 1, 1) := by decide +kernel
theorem dX16_operands_135 : decode cX16_operands 135 = .ok (.lcmp, 1) := by decide +kernel
theorem dX16_operands_136 : decode cX16_operands 136 = .ok (.ifCond .eq 7, 3) := by decide +kernel
theorem dX16_operands_139 : decode cX16_operands 139 = .ok (.iconst 1, 1) := by decide +kernel
theorem dX16_operands_140 : decode cX16_operands 140 = .ok (.goto 4, 3) := by decide +kernel
theorem dX16_operands_143 : decode cX16_operands 143 = .ok (.iconst 0, 1) := by decide +kernel
theorem dX16_operands_144 : decode cX16_operands 144 = .ok (.invokevirtual 365, 3) := by decide +kernel
theorem dX16_operands_147 : decode cX16_operands 147 = .ok (.lconst 0, 1) := by decide +kernel
theorem dX16_operands_148 : decode cX16_operands 148 = .ok (.lstore 6, 2) := by decide +kernel
theorem dX16_operands_150 : decode cX16_operands 150 = .ok (.lload 6, 2) := by decide +kernel
theorem dX16_operands_152 : decode cX16_operands 152 = .ok (.lload 4, 2) := by decide +kernel
theorem dX16_operands_154 : decode cX16_operands 154 = .ok (.lcmp, 1) := by decide +kernel
theorem dX16_operands_155 : decode cX16_operands 155 = .ok (.ifCond .ge 18, 3) := by decide +kernel
theorem dX16_operands_158 : decode cX16_operands 158 = .ok (.aload_n 0, 1) := by decide +kernel
theorem dX16_operands_159 : decode cX16_operands 159 = .ok (.invokevirtual 371, 3) := by decide +kernel
theorem dX16_operands_162 : decode cX16_operands 162 = .ok (.istore 8, 2) := by decide +kernel
theorem dX16_operands_164 : decode cX16_operands 164 = .ok (.lload 6, 2) := by decide +kernel
theorem dX16_operands_166 : decode cX16_operands 166 = .ok (.lconst 1, 1) := by decide +kernel
theorem dX16_operands_167 : decode cX16_operands 167 = .ok (.ladd, 1) := by decide +kernel
theorem dX16_operands_168 : decode cX16_operands 168 = .ok (.lstore 6, 2) := by decide +kernel
theorem dX16_operands_170 : decode cX16_operands 170 = .ok (.goto (-20), 3) := by decide +kernel
theorem dX16_operands_173 : decode cX16_operands 173 = .ok (.goto 144, 3) := by decide +kernel
theorem dX16_operands_176 : decode cX16_operands 176 = .ok (.iload_n 1, 1) := by decide +kernel
theorem dX16_operands_177 : decode cX16_operands 177 = .ok (.bipush 63, 2) := by decide +kernel
theorem dX16_operands_179 : decode cX16_operands 179 = .ok (.if_icmp .eq 9, 3) := by decide +kernel
theorem dX16_operands_182 : decode cX16_operands 182 = .ok (.iload_n 1, 1) := by decide +kernel
theorem dX16_operands_183 : decode cX16_operands 183 = .ok (.bipush 64, 2) := by decide +kernel
theorem dX16_operands_185 : decode cX16_operands 185 = .ok (.if_icmp .ne 13, 3) := by decide +kernel
theorem dX16_operands_188 : decode cX16_operands 188 = .ok (.aload_n 0, 1) := by decide +kernel
theorem dX16_operands_189 : decode cX16_operands 189 = .ok (.iconst 0, 1) := by decide +kernel
theorem dX16_operands_190 : decode cX16_operands 190 = .ok (.invokevirtual 393, 3) := by decide +kernel
theorem dX16_operands_193 : decode cX16_operands 193 = .ok (.istore 4, 2) := by decide +kernel
theorem dX16_operands_195 : decode cX16_operands 195 = .ok (.goto 122, 3) := by decide +kernel
theorem dX16_operands_198 : decode cX16_operands 198 = .ok (.iload_n 1, 1) := by decide +kernel
theorem dX16_operands_199 : decode cX16_operands 199 = .ok (.bipush 65, 2) := by decide +kernel
theorem dX16_operands_201 : decode cX16_operands 201 = .ok (.if_icmp .eq 9, 3) := by decide +kernel
theorem dX16_operands_204 : decode cX16_operands 204 = .ok (.iload_n 1, 1) := by decide +kernel
theorem dX16_operands_205 : decode cX16_operands 205 = .ok (.bipush 66, 2) := by decide +kernel
theorem dX16_operands_207 : decode cX16_operands 207 = .ok (.if_icmp .ne 25, 3) := by decide +kernel
theorem dX16_operands_210 : decode cX16_operands 210 = .ok (.aload_n 0, 1) := by decide +kernel
theorem dX16_operands_211 : decode cX16_operands 211 = .ok (.iload_n 1, 1) := by decide +kernel
theorem dX16_operands_212 : decode cX16_operands 212 = .ok (.bipush 65, 2) := by decide +kernel
theorem dX16_operands_214 : decode cX16_operands 214 = .ok (.if_icmp .ne 8, 3) := by decide +kernel
theorem dX16_operands_217 : decode cX16_operands 217 = .ok (.bipush 32, 2) := by decide +kernel
theorem dX16_operands_219 : decode cX16_operands 219 = .ok (.goto 5, 3) := by decide +kernel
theorem dX16_operands_222 : decode cX16_operands 222 = .ok (.bipush 64, 2) := by decide +kernel
theorem dX16_operands_224 : decode cX16_operands 224 = .ok (.invokevirtual 562, 3) := by decide +kernel
theorem dX16_operands_227 : decode cX16_operands 227 = .ok (.lstore 4, 2) := by decide +kernel
theorem dX16_operands_229 : decode cX16_operands 229 = .ok (.goto 88, 3) := by decide +kernel
theorem dX16_operands_232 : decode cX16_operands 232 = .ok (.iload_n 1, 1) := by decide +kernel
theorem dX16_operands_233 : decode cX16_operands 233 = .ok (.bipush 67, 2) := by decide +kernel
theorem dX16_operands_235 : decode cX16_operands 235 = .ok (.if_icmp .eq 9, 3) := by decide +kernel
theorem dX16_operands_238 : decode cX16_operands 238 = .ok (.iload_n 1, 1) := by decide +kernel
theorem dX16_operands_239 : decode cX16_operands 239 = .ok (.bipush 68, 2) := by decide +kernel
theorem dX16_operands_241 : decode cX16_operands 241 = .ok (.if_icmp .ne 38, 3) := by decide +kernel
theorem dX16_operands_244 : decode cX16_operands 244 = .ok (.iconst 0, 1) := by decide +kernel
theorem dX16_operands_245 : decode cX16_operands 245 = .ok (.istore 4, 2) := by decide +kernel
theorem dX16_operands_247 : decode cX16_operands 247 = .ok (.iload 4, 2) := by decide +kernel
theorem dX16_operands_249 : decode cX16_operands 249 = .ok (.iload_n 1, 1) := by decide +kernel
theorem dX16_operands_250 : decode cX16_operands 250 = .ok (.bipush 67, 2) := by decide +kernel
theorem dX16_operands_252 : decode cX16_operands 252 = .ok (.if_icmp .ne 7, 3) := by decide +kernel
theorem dX16_operands_255 : decode cX16_operands 255 = .ok (.iconst 4, 1) := by decide +kernel
theorem dX16_operands_256 : decode cX16_operands 256 = .ok (.goto 5, 3) := by decide +kernel
theorem dX16_operands_259 : decode cX16_operands 259 = .ok (.bipush 8, 2) := by decide +kernel
theorem dX16_operands_261 : decode cX16_operands 261 = .ok (.if_icmp .ge 15, 3) := by decide +kernel
theorem dX16_operands_264 : decode cX16_operands 264 = .ok (.aload_n 0, 1) := by decide +kernel
theorem dX16_operands_265 : decode cX16_operands 265 = .ok (.invokevirtual 264, 3) := by decide +kernel
theorem dX16_operands_268 : decode cX16_operands 268 = .ok (.istore 5, 2) := by decide +kernel
theorem dX16_operands_270 : decode cX16_operands 270 = .ok (.iinc 4 1, 3) := by decide +kernel
theorem dX16_operands_273 : decode cX16_operands 273 = .ok (.goto (-26), 3) := by decide +kernel
theorem dX16_operands_276 : decode cX16_operands 276 = .ok (.goto 41, 3) := by decide +kernel
theorem dX16_operands_279 : decode cX16_operands 279 = .ok (.iload_n 1, 1) := by decide +kernel
theorem dX16_operands_280 : decode cX16_operands 280 = .ok (.sipush 208, 3) := by decide +kernel
theorem dX16_operands_283 : decode cX16_operands 283 = .ok (.if_icmp .ne 12, 3) := by decide +kernel
theorem dX16_operands_286 : decode cX16_operands 286 = .ok (.aload_n 0, 1) := by decide +kernel
theorem dX16_operands_287 : decode cX16_operands 287 = .ok (.invokevirtual 405, 3) := by decide +kernel
theorem dX16_operands_290 : decode cX16_operands 290 = .ok (.istore 4, 2) := by decide +kernel
theorem dX16_operands_292 : decode cX16_operands 292 = .ok (.goto 25, 3) := by decide +kernel
theorem dX16_operands_295 : decode cX16_operands 295 = .ok (.iload_n 1, 1) := by decide +kernel
theorem dX16_operands_296 : decode cX16_operands 296 = .ok (.sipush 252, 3) := by decide +kernel
theorem dX16_operands_299 : decode cX16_operands 299 = .ok (.if_icmp .ne 11, 3) := by decide +kernel
theorem dX16_operands_302 : decode cX16_operands 302 = .ok (.aload_n 0, 1) := by decide +kernel
theorem dX16_operands_303 : decode cX16_operands 303 = .ok (.iload_n 2, 1) := by decide +kernel
theorem dX16_operands_304 : decode cX16_operands 304 = .ok (.invokevirtual 577, 3) := by decide +kernel
theorem dX16_operands_307 : decode cX16_operands 307 = .ok (.goto 10, 3) := by decide +kernel
theorem dX16_operands_310 : decode cX16_operands 310 = .ok (.aload_n 0, 1) := by decide +kernel
theorem dX16_operands_311 : decode cX16_operands 311 = .ok (.bipush 10, 2) := by decide +kernel
theorem dX16_operands_313 : decode cX16_operands 313 = .ok (.iload_n 2, 1) := by decide +kernel
theorem dX16_operands_314 : decode cX16_operands 314 = .ok (.invokevirtual 257, 3) := by decide +kernel
theorem dX16_operands_317 : decode cX16_operands 317 = .ok (.return_, 1) := by decide +kernel
noncomputable def tX16_operands_247 (x0 : Nat) (x1 : Int32) (x4 : Int32) (h : pm_H) : Option (((Nat × Int32 × Int32 × pm_H) ⊕ (Nat × Int64 × Int64 × pm_H) ⊕ (Nat × Int64 × Int64 × pm_H)) ⊕ ((Nat × pm_H) ⊕ pm_H)) := if x1 = 67 then (if 4 ≤ x4 then (some (.inr (.inr (h)))) else (if pm_kd h x0 = 16 then (fX16_next h x0).bind fun v130 => pt_s v130 fun w132 => pm_let (x4 + 1) fun y134 => some (.inl (.inl ((x0, x1, y134, w132.2)))) else none)) else (if 8 ≤ x4 then (some (.inr (.inr (h)))) else (if pm_kd h x0 = 16 then (fX16_next h x0).bind fun v122 => pt_s v122 fun w124 => pm_let (x4 + 1) fun y126 => some (.inl (.inl ((x0, x1, y126, w124.2)))) else none))
noncomputable def tX16_operands_150 (x0 : Nat) (x4 : Int64) (x6 : Int64) (h : pm_H) : Option (((Nat × Int32 × Int32 × pm_H) ⊕ (Nat × Int64 × Int64 × pm_H) ⊕ (Nat × Int64 × Int64 × pm_H)) ⊕ ((Nat × pm_H) ⊕ pm_H)) := if x4 ≤ x6 then (some (.inr (.inr (h)))) else (if pm_kd h x0 = 16 then (fX16_type h x0).bind fun v138 => pt_s v138 fun w140 => pm_let (x6 + 1) fun y142 => some (.inl (.inr (.inl ((x0, x4, y142, w140.2))))) else none)
noncomputable def tX16_operands_89 (x0 : Nat) (x4 : Int64) (x6 : Int64) (h : pm_H) : Option (((Nat × Int32 × Int32 × pm_H) ⊕ (Nat × Int64 × Int64 × pm_H) ⊕ (Nat × Int64 × Int64 × pm_H)) ⊕ ((Nat × pm_H) ⊕ pm_H)) := if x4 < x6 then (some (.inr (.inr (h)))) else (if pm_kd h x0 = 16 then (fX16_number h x0).bind fun v146 => pt_s v146 fun w148 => pm_let (x6 + 1) fun y150 => some (.inl (.inr (.inr ((x0, x4, y150, w148.2))))) else none)
noncomputable def sX16_operands : ((Nat × Int32 × Int32 × pm_H) ⊕ (Nat × Int64 × Int64 × pm_H) ⊕ (Nat × Int64 × Int64 × pm_H)) → Option (((Nat × Int32 × Int32 × pm_H) ⊕ (Nat × Int64 × Int64 × pm_H) ⊕ (Nat × Int64 × Int64 × pm_H)) ⊕ ((Nat × pm_H) ⊕ pm_H)) := fun z => match z with
  | .inl (x0, x1, x4, h) => tX16_operands_247 x0 x1 x4 h
  | .inr (.inl (x0, x4, x6, h)) => tX16_operands_150 x0 x4 x6 h
  | .inr (.inr (x0, x4, x6, h)) => tX16_operands_89 x0 x4 x6 h
noncomputable def fX16_operands (h : pm_H) (a0 : Nat) (p1 : Int32) (p2 : Int32) (p3 : Int32) : Option ((Nat × pm_H) ⊕ pm_H) := pm_let (fX16_isAlone p1) fun v1 => if v1 = 0 then (pm_let (fX16_hasNumber p1) fun v4 => if v4 = 0 then (pm_let (fX16_isAccess p1) fun v7 => if v7 = 0 then (if p1 = 17 then (if pm_kd h a0 = 16 then (fX16_number h a0).bind fun v105 => pt_k v105 fun w107 => if pm_kd w107.2 a0 = 16 then (fX16_number w107.2 a0).bind fun v110 => pt_k v110 fun w112 => some (.inr (w112.2)) else none else none) else (if p1 = 14 then (if pm_kd h a0 = 16 then (fX16_number h a0).bind fun v92 => pt_k v92 fun w94 => if p3 = 0 then (pm_lim sX16_operands (.inr (.inr ((a0, w94.1, 0, w94.2))))) else (if w94.1 ≤ 200 then (if pm_kd w94.2 a0 = 16 then (fX16_exceeds w94.2 a0 0).bind fun v99 => pm_lim sX16_operands (.inr (.inr ((a0, w94.1, 0, v99)))) else none) else (if pm_kd w94.2 a0 = 16 then (fX16_exceeds w94.2 a0 1).bind fun v102 => pm_lim sX16_operands (.inr (.inr ((a0, w94.1, 0, v102)))) else none)) else none) else (if p1 = 28 then (if pm_kd h a0 = 16 then (fX16_number h a0).bind fun v79 => pt_k v79 fun w81 => if p3 = 0 then (pm_lim sX16_operands (.inr (.inl ((a0, w81.1, 0, w81.2))))) else (if w81.1 = 1 then (if pm_kd w81.2 a0 = 16 then (fX16_exceeds w81.2 a0 0).bind fun v86 => pm_lim sX16_operands (.inr (.inl ((a0, w81.1, 0, v86)))) else none) else (if pm_kd w81.2 a0 = 16 then (fX16_exceeds w81.2 a0 1).bind fun v89 => pm_lim sX16_operands (.inr (.inl ((a0, w81.1, 0, v89)))) else none)) else none) else (if p1 = 63 then (if pm_kd h a0 = 16 then (fX16_small h a0 0).bind fun v25 => pt_k v25 fun w27 => some (.inr (w27.2)) else none) else (if p1 = 64 then (if pm_kd h a0 = 16 then (fX16_small h a0 0).bind fun v74 => pt_k v74 fun w76 => some (.inr (w76.2)) else none) else (if p1 = 65 then (if p1 = 65 then (if pm_kd h a0 = 16 then (fX16_signed h a0 32).bind fun v38 => pt_k v38 fun w40 => some (.inr (w40.2)) else none) else (if pm_kd h a0 = 16 then (fX16_signed h a0 64).bind fun v33 => pt_k v33 fun w35 => some (.inr (w35.2)) else none)) else (if p1 = 66 then (if p1 = 65 then (if pm_kd h a0 = 16 then (fX16_signed h a0 32).bind fun v69 => pt_k v69 fun w71 => some (.inr (w71.2)) else none) else (if pm_kd h a0 = 16 then (fX16_signed h a0 64).bind fun v64 => pt_k v64 fun w66 => some (.inr (w66.2)) else none)) else (if p1 = 67 then (pm_lim sX16_operands (.inl ((a0, p1, 0, h)))) else (if p1 = 68 then (pm_lim sX16_operands (.inl ((a0, p1, 0, h)))) else (if p1 = 208 then (if pm_kd h a0 = 16 then (fX16_referenceType h a0).bind fun v58 => pt_k v58 fun w60 => some (.inr (w60.2)) else none) else (if p1 = 252 then (if pm_kd h a0 = 16 then (fX16_further h a0 p2).bind fun v53 => pt_k v53 fun w55 => some (.inr (w55)) else none) else (if pm_kd h a0 = 16 then (fX16_stops h a0 10 p2).bind fun v48 => pt_k v48 fun w50 => some (.inr (w50)) else none)))))))))))) else (if pm_kd h a0 = 16 then (fX16_number h a0).bind fun v11 => pt_k v11 fun w13 => if pm_kd w13.2 a0 = 16 then (fX16_number w13.2 a0).bind fun v16 => pt_k v16 fun w18 => some (.inr (w18.2)) else none else none)) else (if pm_kd h a0 = 16 then (fX16_number h a0).bind fun v115 => pt_k v115 fun w117 => some (.inr (w117.2)) else none)) else (some (.inr (h)))
set_option maxHeartbeats 4000000 in
set_option maxRecDepth 100000 in
theorem lpX16_operands {g : pm_Gm} {l : Launch} {G : pm_Gl} {Qr : Option Value → pm_H → Prop} {Qt : Nat → pm_H → Prop} (C : pm_C g cX16_operands RX16) (X : pm_XT g l G mX16_operands 0 0 Qr Qt) {r : ((Nat × pm_H) ⊕ pm_H)} (q : pt_eV Qr Qt r) : ∀ n : Nat, (∀ (x0 : Nat) (x1 : Int32) (x4 : Int32) (h : pm_H), pm_iter sX16_operands n (.inl (x0, x1, x4, h)) = some r → pm_G g 247 [(0, .ref x0), (1, .int x1), (4, .int x4)] [] h 0 0) ∧ (∀ (x0 : Nat) (x4 : Int64) (x6 : Int64) (h : pm_H), pm_iter sX16_operands n (.inr (.inl (x0, x4, x6, h))) = some r → pm_G g 150 [(0, .ref x0), (4, .long x4), (6, .long x6)] [] h 0 0) ∧ (∀ (x0 : Nat) (x4 : Int64) (x6 : Int64) (h : pm_H), pm_iter sX16_operands n (.inr (.inr (x0, x4, x6, h))) = some r → pm_G g 89 [(0, .ref x0), (4, .long x4), (6, .long x6)] [] h 0 0) := by
  intro n
  induction n with
  | zero => exact ⟨fun _ _ _ _ hf => (by cases hf), fun _ _ _ _ hf => (by cases hf), fun _ _ _ _ hf => (by cases hf)⟩
  | succ n ih =>
    refine ⟨fun x0 x1 x4 h hf => ?_, ?_⟩
    · obtain ⟨y, hf, hi⟩ := pm_iter_s hf
      have hf : tX16_operands_247 x0 x1 x4 h = some y := hf
      unfold tX16_operands_247 at hf
      refine pm_iload C dX16_operands_247 rfl ?_
      refine pm_iload_n C dX16_operands_249 rfl rfl ?_
      refine pm_bipush (v := 67) C dX16_operands_250 (by decide) ?_
      refine pm_icmp_ne (tgt := 259) C dX16_operands_252 (by decide) (fun c119 => ?_) (fun c119 => ?_)
      · have hf := pm_ie hf c119
        refine pm_bipush (v := 8) C dX16_operands_259 (by decide) ?_
        refine pm_icmp_ge (tgt := 276) C dX16_operands_261 (by decide) (fun c120 => ?_) (fun c120 => ?_)
        · have hf := pm_it hf c120
          refine pm_goto (tgt := 317) C dX16_operands_276 (by decide) ?_
          cases hf
          cases hi
          exact pt_vret C X dX16_operands_317 rfl (Nat.le_refl _) (Nat.le_refl _) q
        · have hf := pm_ie hf c120
          refine pm_aload_n C dX16_operands_264 rfl rfl ?_
          obtain ⟨k121, hf⟩ := pm_if hf
          obtain ⟨v122, e123, hf⟩ := pm_bd hf
          refine pt_callVT (as := []) (st := []) C X dX16_operands_265 ltX16_264 myX16_next viX16_next ⟨by decide, by decide⟩ rfl rfl k121 (Nat.le_of_ble_eq_true rfl) (Nat.le_refl _) (Nat.le_refl _) (ctX16_next e123 ?_)
          rcases v122 with z125 | w124
          · have hf := pt_sl hf
            cases hf
            cases hi
            exact q
          have hf := pt_sr hf
          show pm_G g 268 [(0, .ref x0), (1, .int x1), (4, .int x4)] [.int w124.1] w124.2 0 0
          refine pm_istore (lv' := [(5, .int w124.1), (0, .ref x0), (1, .int x1), (4, .int x4)]) C dX16_operands_268 (pt_nl X (by decide)) rfl ?_
          obtain ⟨y126, e127, hf⟩ := pm_lt hf
          refine pm_iinc (v := y126) (lv' := [(4, .int y126), (5, .int w124.1), (0, .ref x0), (1, .int x1)]) C dX16_operands_270 rfl ((congrArg (x4 + ·) (by decide : Int32.ofInt 1 = 1)).trans e127) (pt_nl X (by decide)) rfl ?_
          refine pm_goto (tgt := 247) C dX16_operands_273 (by decide) ?_
          cases hf
          exact pm_sub [2, 3, 0] rfl (ih.1 x0 x1 y126 w124.2 hi)
      · have hf := pm_it hf c119
        refine pm_iconst (v := 4) C dX16_operands_255 (by decide) ?_
        refine pm_goto (tgt := 261) C dX16_operands_256 (by decide) ?_
        refine pm_icmp_ge (tgt := 276) C dX16_operands_261 (by decide) (fun c128 => ?_) (fun c128 => ?_)
        · have hf := pm_it hf c128
          refine pm_goto (tgt := 317) C dX16_operands_276 (by decide) ?_
          cases hf
          cases hi
          exact pt_vret C X dX16_operands_317 rfl (Nat.le_refl _) (Nat.le_refl _) q
        · have hf := pm_ie hf c128
          refine pm_aload_n C dX16_operands_264 rfl rfl ?_
          obtain ⟨k129, hf⟩ := pm_if hf
          obtain ⟨v130, e131, hf⟩ := pm_bd hf
          refine pt_callVT (as := []) (st := []) C X dX16_operands_265 ltX16_264 myX16_next viX16_next ⟨by decide, by decide⟩ rfl rfl k129 (Nat.le_of_ble_eq_true rfl) (Nat.le_refl _) (Nat.le_refl _) (ctX16_next e131 ?_)
          rcases v130 with z133 | w132
          · have hf := pt_sl hf
            cases hf
            cases hi
            exact q
          have hf := pt_sr hf
          show pm_G g 268 [(0, .ref x0), (1, .int x1), (4, .int x4)] [.int w132.1] w132.2 0 0
          refine pm_istore (lv' := [(5, .int w132.1), (0, .ref x0), (1, .int x1), (4, .int x4)]) C dX16_operands_268 (pt_nl X (by decide)) rfl ?_
          obtain ⟨y134, e135, hf⟩ := pm_lt hf
          refine pm_iinc (v := y134) (lv' := [(4, .int y134), (5, .int w132.1), (0, .ref x0), (1, .int x1)]) C dX16_operands_270 rfl ((congrArg (x4 + ·) (by decide : Int32.ofInt 1 = 1)).trans e135) (pt_nl X (by decide)) rfl ?_
          refine pm_goto (tgt := 247) C dX16_operands_273 (by decide) ?_
          cases hf
          exact pm_sub [2, 3, 0] rfl (ih.1 x0 x1 y134 w132.2 hi)
    refine ⟨fun x0 x4 x6 h hf => ?_, ?_⟩
    · obtain ⟨y, hf, hi⟩ := pm_iter_s hf
      have hf : tX16_operands_150 x0 x4 x6 h = some y := hf
      unfold tX16_operands_150 at hf
      refine pm_lload C dX16_operands_150 rfl ?_
      refine pm_lload C dX16_operands_152 rfl ?_
      refine pm_lcmp C dX16_operands_154 ?_
      refine pm_if_ge (tgt := 173) C dX16_operands_155 (by decide) (fun c136 => ?_) (fun c136 => ?_)
      · have hf := pm_it hf ((pm_lg_ge _ _).mp c136)
        refine pm_goto (tgt := 317) C dX16_operands_173 (by decide) ?_
        cases hf
        cases hi
        exact pt_vret C X dX16_operands_317 rfl (Nat.le_refl _) (Nat.le_refl _) q
      · have hf := pm_ie hf ((fun z => c136 ((pm_lg_ge _ _).mpr z)))
        refine pm_aload_n C dX16_operands_158 rfl rfl ?_
        obtain ⟨k137, hf⟩ := pm_if hf
        obtain ⟨v138, e139, hf⟩ := pm_bd hf
        refine pt_callVT (as := []) (st := []) C X dX16_operands_159 ltX16_371 myX16_type viX16_type ⟨by decide, by decide⟩ rfl rfl k137 (Nat.le_of_ble_eq_true rfl) (Nat.le_refl _) (Nat.le_refl _) (ctX16_type e139 ?_)
        rcases v138 with z141 | w140
        · have hf := pt_sl hf
          cases hf
          cases hi
          exact q
        have hf := pt_sr hf
        show pm_G g 162 [(0, .ref x0), (4, .long x4), (6, .long x6)] [.int w140.1] w140.2 0 0
        refine pm_istore (lv' := [(8, .int w140.1), (0, .ref x0), (4, .long x4), (6, .long x6)]) C dX16_operands_162 (pt_nl X (by decide)) rfl ?_
        refine pm_lload C dX16_operands_164 rfl ?_
        refine pm_lconst (v := 1) C dX16_operands_166 (by decide) ?_
        refine pm_ladd C dX16_operands_167 ?_
        obtain ⟨y142, e143, hf⟩ := pm_lt hf
        refine pm_topL e143 ?_
        refine pm_lstore (lv' := [(6, .long y142), (8, .int w140.1), (0, .ref x0), (4, .long x4)]) C dX16_operands_168 (pt_nl X (by decide)) rfl ?_
        refine pm_goto (tgt := 150) C dX16_operands_170 (by decide) ?_
        cases hf
        exact pm_sub [2, 3, 0] rfl (ih.2.1 x0 x4 y142 w140.2 hi)
    refine fun x0 x4 x6 h hf => ?_
    obtain ⟨y, hf, hi⟩ := pm_iter_s hf
    have hf : tX16_operands_89 x0 x4 x6 h = some y := hf
    unfold tX16_operands_89 at hf
    refine pm_lload C dX16_operands_89 rfl ?_
    refine pm_lload C dX16_operands_91 rfl ?_
    refine pm_lcmp C dX16_operands_93 ?_
    refine pm_if_gt (tgt := 112) C dX16_operands_94 (by decide) (fun c144 => ?_) (fun c144 => ?_)
    · have hf := pm_it hf ((pm_lg_gt _ _).mp c144)
      refine pm_goto (tgt := 317) C dX16_operands_112 (by decide) ?_
      cases hf
      cases hi
      exact pt_vret C X dX16_operands_317 rfl (Nat.le_refl _) (Nat.le_refl _) q
    · have hf := pm_ie hf ((fun z => c144 ((pm_lg_gt _ _).mpr z)))
      refine pm_aload_n C dX16_operands_97 rfl rfl ?_
      obtain ⟨k145, hf⟩ := pm_if hf
      obtain ⟨v146, e147, hf⟩ := pm_bd hf
      refine pt_callVT (as := []) (st := []) C X dX16_operands_98 ltX16_277 myX16_number viX16_number ⟨by decide, by decide⟩ rfl rfl k145 (Nat.le_of_ble_eq_true rfl) (Nat.le_refl _) (Nat.le_refl _) (ctX16_number e147 ?_)
      rcases v146 with z149 | w148
      · have hf := pt_sl hf
        cases hf
        cases hi
        exact q
      have hf := pt_sr hf
      show pm_G g 101 [(0, .ref x0), (4, .long x4), (6, .long x6)] [.long w148.1] w148.2 0 0
      refine pm_lstore (lv' := [(8, .long w148.1), (0, .ref x0), (4, .long x4), (6, .long x6)]) C dX16_operands_101 (pt_nl X (by decide)) rfl ?_
      refine pm_lload C dX16_operands_103 rfl ?_
      refine pm_lconst (v := 1) C dX16_operands_105 (by decide) ?_
      refine pm_ladd C dX16_operands_106 ?_
      obtain ⟨y150, e151, hf⟩ := pm_lt hf
      refine pm_topL e151 ?_
      refine pm_lstore (lv' := [(6, .long y150), (8, .long w148.1), (0, .ref x0), (4, .long x4)]) C dX16_operands_107 (pt_nl X (by decide)) rfl ?_
      refine pm_goto (tgt := 89) C dX16_operands_109 (by decide) ?_
      cases hf
      exact pm_sub [2, 3, 0] rfl (ih.2.2 x0 x4 y150 w148.2 hi)
set_option maxHeartbeats 4000000 in
set_option maxRecDepth 100000 in
theorem ctX16_operands {l : Launch} {G : pm_Gl} {h : pm_H} {a0 : Nat} {p1 : Int32} {p2 : Int32} {p3 : Int32} {r : ((Nat × pm_H) ⊕ pm_H)} {Qr : Option Value → pm_H → Prop} {Qt : Nat → pm_H → Prop} (hf : fX16_operands h a0 p1 p2 p3 = some r) (q : pt_eV Qr Qt r) : pm_Ctt l G mX16_operands [.ref a0, .int p1, .int p2, .int p3] h 0 0 Qr Qt := by
  refine pm_bodyT pnX16 (Nat.le_of_ble_eq_true rfl) (fun g C X => ?_)
  have C : pm_C g cX16_operands RX16 := C
  show pm_G g 0 [(0, .ref a0), (1, .int p1), (2, .int p2), (3, .int p3)] [] h 0 0
  unfold fX16_operands at hf
  refine pm_iload_n C dX16_operands_0 rfl rfl ?_
  obtain ⟨v1, e2, hf⟩ := pm_lt hf
  refine pt_callS (as := [.int p1]) (st := []) C X dX16_operands_1 lnX16_566 myX16_isAlone stX16_isAlone ⟨by decide, by decide⟩ rfl rfl (Nat.le_of_ble_eq_true rfl) (Nat.le_refl _) (Nat.le_refl _) (ctX16_isAlone e2 ?_)
  show pm_G g 4 [(0, .ref a0), (1, .int p1), (2, .int p2), (3, .int p3)] [.int v1] h 0 0
  refine pm_if_eq (tgt := 8) C dX16_operands_4 (by decide) (fun c3 => ?_) (fun c3 => ?_)
  · have hf := pm_it hf c3
    refine pm_iload_n C dX16_operands_8 rfl rfl ?_
    obtain ⟨v4, e5, hf⟩ := pm_lt hf
    refine pt_callS (as := [.int p1]) (st := []) C X dX16_operands_9 lnX16_569 myX16_hasNumber stX16_hasNumber ⟨by decide, by decide⟩ rfl rfl (Nat.le_of_ble_eq_true rfl) (Nat.le_refl _) (Nat.le_refl _) (ctX16_hasNumber e5 ?_)
    show pm_G g 12 [(0, .ref a0), (1, .int p1), (2, .int p2), (3, .int p3)] [.int v4] h 0 0
    refine pm_if_eq (tgt := 24) C dX16_operands_12 (by decide) (fun c6 => ?_) (fun c6 => ?_)
    · have hf := pm_it hf c6
      refine pm_iload_n C dX16_operands_24 rfl rfl ?_
      obtain ⟨v7, e8, hf⟩ := pm_lt hf
      refine pt_callS (as := [.int p1]) (st := []) C X dX16_operands_25 lnX16_572 myX16_isAccess stX16_isAccess ⟨by decide, by decide⟩ rfl rfl (Nat.le_of_ble_eq_true rfl) (Nat.le_refl _) (Nat.le_refl _) (ctX16_isAccess e8 ?_)
      show pm_G g 28 [(0, .ref a0), (1, .int p1), (2, .int p2), (3, .int p3)] [.int v7] h 0 0
      refine pm_if_ne (tgt := 37) C dX16_operands_28 (by decide) (fun c9 => ?_) (fun c9 => ?_)
      · have hf := pm_ie hf c9
        refine pm_aload_n C dX16_operands_37 rfl rfl ?_
        obtain ⟨k10, hf⟩ := pm_if hf
        obtain ⟨v11, e12, hf⟩ := pm_bd hf
        refine pt_callVT (as := []) (st := []) C X dX16_operands_38 ltX16_277 myX16_number viX16_number ⟨by decide, by decide⟩ rfl rfl k10 (Nat.le_of_ble_eq_true rfl) (Nat.le_refl _) (Nat.le_refl _) (ctX16_number e12 ?_)
        rcases v11 with z14 | w13
        · have hf := pt_kl hf
          cases hf
          exact q
        have hf := pt_kr hf
        show pm_G g 41 [(0, .ref a0), (1, .int p1), (2, .int p2), (3, .int p3)] [.long w13.1] w13.2 0 0
        refine pm_lstore (lv' := [(4, .long w13.1), (0, .ref a0), (1, .int p1), (2, .int p2), (3, .int p3)]) C dX16_operands_41 (pt_nl X (by decide)) rfl ?_
        refine pm_aload_n C dX16_operands_43 rfl rfl ?_
        obtain ⟨k15, hf⟩ := pm_if hf
        obtain ⟨v16, e17, hf⟩ := pm_bd hf
        refine pt_callVT (as := []) (st := []) C X dX16_operands_44 ltX16_277 myX16_number viX16_number ⟨by decide, by decide⟩ rfl rfl k15 (Nat.le_of_ble_eq_true rfl) (Nat.le_refl _) (Nat.le_refl _) (ctX16_number e17 ?_)
        rcases v16 with z19 | w18
        · have hf := pt_kl hf
          cases hf
          exact q
        have hf := pt_kr hf
        show pm_G g 47 [(4, .long w13.1), (0, .ref a0), (1, .int p1), (2, .int p2), (3, .int p3)] [.long w18.1] w18.2 0 0
        refine pm_lstore (lv' := [(6, .long w18.1), (4, .long w13.1), (0, .ref a0), (1, .int p1), (2, .int p2), (3, .int p3)]) C dX16_operands_47 (pt_nl X (by decide)) rfl ?_
        refine pm_goto (tgt := 317) C dX16_operands_49 (by decide) ?_
        cases hf
        exact pt_vret C X dX16_operands_317 rfl (Nat.le_refl _) (Nat.le_refl _) q
      · have hf := pm_it hf c9
        refine pm_iload_n C dX16_operands_31 rfl rfl ?_
        refine pm_bipush (v := 17) C dX16_operands_32 (by decide) ?_
        refine pm_icmp_ne (tgt := 52) C dX16_operands_34 (by decide) (fun c20 => ?_) (fun c20 => ?_)
        · have hf := pm_ie hf c20
          refine pm_iload_n C dX16_operands_52 rfl rfl ?_
          refine pm_bipush (v := 14) C dX16_operands_53 (by decide) ?_
          refine pm_icmp_ne (tgt := 115) C dX16_operands_55 (by decide) (fun c21 => ?_) (fun c21 => ?_)
          · have hf := pm_ie hf c21
            refine pm_iload_n C dX16_operands_115 rfl rfl ?_
            refine pm_bipush (v := 28) C dX16_operands_116 (by decide) ?_
            refine pm_icmp_ne (tgt := 176) C dX16_operands_118 (by decide) (fun c22 => ?_) (fun c22 => ?_)
            · have hf := pm_ie hf c22
              refine pm_iload_n C dX16_operands_176 rfl rfl ?_
              refine pm_bipush (v := 63) C dX16_operands_177 (by decide) ?_
              refine pm_icmp_eq (tgt := 188) C dX16_operands_179 (by decide) (fun c23 => ?_) (fun c23 => ?_)
              · have hf := pm_it hf c23
                refine pm_aload_n C dX16_operands_188 rfl rfl ?_
                refine pm_iconst (v := 0) C dX16_operands_189 (by decide) ?_
                obtain ⟨k24, hf⟩ := pm_if hf
                obtain ⟨v25, e26, hf⟩ := pm_bd hf
                refine pt_callVT (as := [.int 0]) (st := []) C X dX16_operands_190 ltX16_393 myX16_small viX16_small ⟨by decide, by decide⟩ rfl rfl k24 (Nat.le_of_ble_eq_true rfl) (Nat.le_refl _) (Nat.le_refl _) (ctX16_small e26 ?_)
                rcases v25 with z28 | w27
                · have hf := pt_kl hf
                  cases hf
                  exact q
                have hf := pt_kr hf
                show pm_G g 193 [(0, .ref a0), (1, .int p1), (2, .int p2), (3, .int p3)] [.int w27.1] w27.2 0 0
                refine pm_istore (lv' := [(4, .int w27.1), (0, .ref a0), (1, .int p1), (2, .int p2), (3, .int p3)]) C dX16_operands_193 (pt_nl X (by decide)) rfl ?_
                refine pm_goto (tgt := 317) C dX16_operands_195 (by decide) ?_
                cases hf
                exact pt_vret C X dX16_operands_317 rfl (Nat.le_refl _) (Nat.le_refl _) q
              · have hf := pm_ie hf c23
                refine pm_iload_n C dX16_operands_182 rfl rfl ?_
                refine pm_bipush (v := 64) C dX16_operands_183 (by decide) ?_
                refine pm_icmp_ne (tgt := 198) C dX16_operands_185 (by decide) (fun c29 => ?_) (fun c29 => ?_)
                · have hf := pm_ie hf c29
                  refine pm_iload_n C dX16_operands_198 rfl rfl ?_
                  refine pm_bipush (v := 65) C dX16_operands_199 (by decide) ?_
                  refine pm_icmp_eq (tgt := 210) C dX16_operands_201 (by decide) (fun c30 => ?_) (fun c30 => ?_)
                  · have hf := pm_it hf c30
                    refine pm_aload_n C dX16_operands_210 rfl rfl ?_
                    refine pm_iload_n C dX16_operands_211 rfl rfl ?_
                    refine pm_bipush (v := 65) C dX16_operands_212 (by decide) ?_
                    refine pm_icmp_ne (tgt := 222) C dX16_operands_214 (by decide) (fun c31 => ?_) (fun c31 => ?_)
                    · have hf := pm_ie hf c31
                      refine pm_bipush (v := 64) C dX16_operands_222 (by decide) ?_
                      obtain ⟨k32, hf⟩ := pm_if hf
                      obtain ⟨v33, e34, hf⟩ := pm_bd hf
                      refine pt_callVT (as := [.int 64]) (st := []) C X dX16_operands_224 ltX16_562 myX16_signed viX16_signed ⟨by decide, by decide⟩ rfl rfl k32 (Nat.le_of_ble_eq_true rfl) (Nat.le_refl _) (Nat.le_refl _) (ctX16_signed e34 ?_)
                      rcases v33 with z36 | w35
                      · have hf := pt_kl hf
                        cases hf
                        exact q
                      have hf := pt_kr hf
                      show pm_G g 227 [(0, .ref a0), (1, .int p1), (2, .int p2), (3, .int p3)] [.long w35.1] w35.2 0 0
                      refine pm_lstore (lv' := [(4, .long w35.1), (0, .ref a0), (1, .int p1), (2, .int p2), (3, .int p3)]) C dX16_operands_227 (pt_nl X (by decide)) rfl ?_
                      refine pm_goto (tgt := 317) C dX16_operands_229 (by decide) ?_
                      cases hf
                      exact pt_vret C X dX16_operands_317 rfl (Nat.le_refl _) (Nat.le_refl _) q
                    · have hf := pm_it hf c31
                      refine pm_bipush (v := 32) C dX16_operands_217 (by decide) ?_
                      refine pm_goto (tgt := 224) C dX16_operands_219 (by decide) ?_
                      obtain ⟨k37, hf⟩ := pm_if hf
                      obtain ⟨v38, e39, hf⟩ := pm_bd hf
                      refine pt_callVT (as := [.int 32]) (st := []) C X dX16_operands_224 ltX16_562 myX16_signed viX16_signed ⟨by decide, by decide⟩ rfl rfl k37 (Nat.le_of_ble_eq_true rfl) (Nat.le_refl _) (Nat.le_refl _) (ctX16_signed e39 ?_)
                      rcases v38 with z41 | w40
                      · have hf := pt_kl hf
                        cases hf
                        exact q
                      have hf := pt_kr hf
                      show pm_G g 227 [(0, .ref a0), (1, .int p1), (2, .int p2), (3, .int p3)] [.long w40.1] w40.2 0 0
                      refine pm_lstore (lv' := [(4, .long w40.1), (0, .ref a0), (1, .int p1), (2, .int p2), (3, .int p3)]) C dX16_operands_227 (pt_nl X (by decide)) rfl ?_
                      refine pm_goto (tgt := 317) C dX16_operands_229 (by decide) ?_
                      cases hf
                      exact pt_vret C X dX16_operands_317 rfl (Nat.le_refl _) (Nat.le_refl _) q
                  · have hf := pm_ie hf c30
                    refine pm_iload_n C dX16_operands_204 rfl rfl ?_
                    refine pm_bipush (v := 66) C dX16_operands_205 (by decide) ?_
                    refine pm_icmp_ne (tgt := 232) C dX16_operands_207 (by decide) (fun c42 => ?_) (fun c42 => ?_)
                    · have hf := pm_ie hf c42
                      refine pm_iload_n C dX16_operands_232 rfl rfl ?_
                      refine pm_bipush (v := 67) C dX16_operands_233 (by decide) ?_
                      refine pm_icmp_eq (tgt := 244) C dX16_operands_235 (by decide) (fun c43 => ?_) (fun c43 => ?_)
                      · have hf := pm_it hf c43
                        refine pm_iconst (v := 0) C dX16_operands_244 (by decide) ?_
                        refine pm_istore (lv' := [(4, .int 0), (0, .ref a0), (1, .int p1), (2, .int p2), (3, .int p3)]) C dX16_operands_245 (pt_nl X (by decide)) rfl ?_
                        obtain ⟨n, hn⟩ := pm_lim_iter hf
                        exact pm_sub [1, 2, 0] rfl ((lpX16_operands C X q n).1 a0 p1 0 h hn)
                      · have hf := pm_ie hf c43
                        refine pm_iload_n C dX16_operands_238 rfl rfl ?_
                        refine pm_bipush (v := 68) C dX16_operands_239 (by decide) ?_
                        refine pm_icmp_ne (tgt := 279) C dX16_operands_241 (by decide) (fun c44 => ?_) (fun c44 => ?_)
                        · have hf := pm_ie hf c44
                          refine pm_iload_n C dX16_operands_279 rfl rfl ?_
                          refine pm_sipush (v := 208) C dX16_operands_280 (by decide) ?_
                          refine pm_icmp_ne (tgt := 295) C dX16_operands_283 (by decide) (fun c45 => ?_) (fun c45 => ?_)
                          · have hf := pm_ie hf c45
                            refine pm_iload_n C dX16_operands_295 rfl rfl ?_
                            refine pm_sipush (v := 252) C dX16_operands_296 (by decide) ?_
                            refine pm_icmp_ne (tgt := 310) C dX16_operands_299 (by decide) (fun c46 => ?_) (fun c46 => ?_)
                            · have hf := pm_ie hf c46
                              refine pm_aload_n C dX16_operands_310 rfl rfl ?_
                              refine pm_bipush (v := 10) C dX16_operands_311 (by decide) ?_
                              refine pm_iload_n C dX16_operands_313 rfl rfl ?_
                              obtain ⟨k47, hf⟩ := pm_if hf
                              obtain ⟨v48, e49, hf⟩ := pm_bd hf
                              refine pt_callVT (as := [.int 10, .int p2]) (st := []) C X dX16_operands_314 ltX16_257 myX16_stops viX16_stops ⟨by decide, by decide⟩ rfl rfl k47 (Nat.le_of_ble_eq_true rfl) (Nat.le_refl _) (Nat.le_refl _) (ctX16_stops e49 ?_)
                              rcases v48 with z51 | w50
                              · have hf := pt_kl hf
                                cases hf
                                exact q
                              have hf := pt_kr hf
                              show pm_G g 317 [(0, .ref a0), (1, .int p1), (2, .int p2), (3, .int p3)] [] w50 0 0
                              cases hf
                              exact pt_vret C X dX16_operands_317 rfl (Nat.le_refl _) (Nat.le_refl _) q
                            · have hf := pm_it hf c46
                              refine pm_aload_n C dX16_operands_302 rfl rfl ?_
                              refine pm_iload_n C dX16_operands_303 rfl rfl ?_
                              obtain ⟨k52, hf⟩ := pm_if hf
                              obtain ⟨v53, e54, hf⟩ := pm_bd hf
                              refine pt_callVT (as := [.int p2]) (st := []) C X dX16_operands_304 ltX16_577 myX16_further viX16_further ⟨by decide, by decide⟩ rfl rfl k52 (Nat.le_of_ble_eq_true rfl) (Nat.le_refl _) (Nat.le_refl _) (ctX16_further e54 ?_)
                              rcases v53 with z56 | w55
                              · have hf := pt_kl hf
                                cases hf
                                exact q
                              have hf := pt_kr hf
                              show pm_G g 307 [(0, .ref a0), (1, .int p1), (2, .int p2), (3, .int p3)] [] w55 0 0
                              refine pm_goto (tgt := 317) C dX16_operands_307 (by decide) ?_
                              cases hf
                              exact pt_vret C X dX16_operands_317 rfl (Nat.le_refl _) (Nat.le_refl _) q
                          · have hf := pm_it hf c45
                            refine pm_aload_n C dX16_operands_286 rfl rfl ?_
                            obtain ⟨k57, hf⟩ := pm_if hf
                            obtain ⟨v58, e59, hf⟩ := pm_bd hf
                            refine pt_callVT (as := []) (st := []) C X dX16_operands_287 ltX16_405 myX16_referenceType viX16_referenceType ⟨by decide, by decide⟩ rfl rfl k57 (Nat.le_of_ble_eq_true rfl) (Nat.le_refl _) (Nat.le_refl _) (ctX16_referenceType e59 ?_)
                            rcases v58 with z61 | w60
                            · have hf := pt_kl hf
                              cases hf
                              exact q
                            have hf := pt_kr hf
                            show pm_G g 290 [(0, .ref a0), (1, .int p1), (2, .int p2), (3, .int p3)] [.int w60.1] w60.2 0 0
                            refine pm_istore (lv' := [(4, .int w60.1), (0, .ref a0), (1, .int p1), (2, .int p2), (3, .int p3)]) C dX16_operands_290 (pt_nl X (by decide)) rfl ?_
                            refine pm_goto (tgt := 317) C dX16_operands_292 (by decide) ?_
                            cases hf
                            exact pt_vret C X dX16_operands_317 rfl (Nat.le_refl _) (Nat.le_refl _) q
                        · have hf := pm_it hf c44
                          refine pm_iconst (v := 0) C dX16_operands_244 (by decide) ?_
                          refine pm_istore (lv' := [(4, .int 0), (0, .ref a0), (1, .int p1), (2, .int p2), (3, .int p3)]) C dX16_operands_245 (pt_nl X (by decide)) rfl ?_
                          obtain ⟨n, hn⟩ := pm_lim_iter hf
                          exact pm_sub [1, 2, 0] rfl ((lpX16_operands C X q n).1 a0 p1 0 h hn)
                    · have hf := pm_it hf c42
                      refine pm_aload_n C dX16_operands_210 rfl rfl ?_
                      refine pm_iload_n C dX16_operands_211 rfl rfl ?_
                      refine pm_bipush (v := 65) C dX16_operands_212 (by decide) ?_
                      refine pm_icmp_ne (tgt := 222) C dX16_operands_214 (by decide) (fun c62 => ?_) (fun c62 => ?_)
                      · have hf := pm_ie hf c62
                        refine pm_bipush (v := 64) C dX16_operands_222 (by decide) ?_
                        obtain ⟨k63, hf⟩ := pm_if hf
                        obtain ⟨v64, e65, hf⟩ := pm_bd hf
                        refine pt_callVT (as := [.int 64]) (st := []) C X dX16_operands_224 ltX16_562 myX16_signed viX16_signed ⟨by decide, by decide⟩ rfl rfl k63 (Nat.le_of_ble_eq_true rfl) (Nat.le_refl _) (Nat.le_refl _) (ctX16_signed e65 ?_)
                        rcases v64 with z67 | w66
                        · have hf := pt_kl hf
                          cases hf
                          exact q
                        have hf := pt_kr hf
                        show pm_G g 227 [(0, .ref a0), (1, .int p1), (2, .int p2), (3, .int p3)] [.long w66.1] w66.2 0 0
                        refine pm_lstore (lv' := [(4, .long w66.1), (0, .ref a0), (1, .int p1), (2, .int p2), (3, .int p3)]) C dX16_operands_227 (pt_nl X (by decide)) rfl ?_
                        refine pm_goto (tgt := 317) C dX16_operands_229 (by decide) ?_
                        cases hf
                        exact pt_vret C X dX16_operands_317 rfl (Nat.le_refl _) (Nat.le_refl _) q
                      · have hf := pm_it hf c62
                        refine pm_bipush (v := 32) C dX16_operands_217 (by decide) ?_
                        refine pm_goto (tgt := 224) C dX16_operands_219 (by decide) ?_
                        obtain ⟨k68, hf⟩ := pm_if hf
                        obtain ⟨v69, e70, hf⟩ := pm_bd hf
                        refine pt_callVT (as := [.int 32]) (st := []) C X dX16_operands_224 ltX16_562 myX16_signed viX16_signed ⟨by decide, by decide⟩ rfl rfl k68 (Nat.le_of_ble_eq_true rfl) (Nat.le_refl _) (Nat.le_refl _) (ctX16_signed e70 ?_)
                        rcases v69 with z72 | w71
                        · have hf := pt_kl hf
                          cases hf
                          exact q
                        have hf := pt_kr hf
                        show pm_G g 227 [(0, .ref a0), (1, .int p1), (2, .int p2), (3, .int p3)] [.long w71.1] w71.2 0 0
                        refine pm_lstore (lv' := [(4, .long w71.1), (0, .ref a0), (1, .int p1), (2, .int p2), (3, .int p3)]) C dX16_operands_227 (pt_nl X (by decide)) rfl ?_
                        refine pm_goto (tgt := 317) C dX16_operands_229 (by decide) ?_
                        cases hf
                        exact pt_vret C X dX16_operands_317 rfl (Nat.le_refl _) (Nat.le_refl _) q
                · have hf := pm_it hf c29
                  refine pm_aload_n C dX16_operands_188 rfl rfl ?_
                  refine pm_iconst (v := 0) C dX16_operands_189 (by decide) ?_
                  obtain ⟨k73, hf⟩ := pm_if hf
                  obtain ⟨v74, e75, hf⟩ := pm_bd hf
                  refine pt_callVT (as := [.int 0]) (st := []) C X dX16_operands_190 ltX16_393 myX16_small viX16_small ⟨by decide, by decide⟩ rfl rfl k73 (Nat.le_of_ble_eq_true rfl) (Nat.le_refl _) (Nat.le_refl _) (ctX16_small e75 ?_)
                  rcases v74 with z77 | w76
                  · have hf := pt_kl hf
                    cases hf
                    exact q
                  have hf := pt_kr hf
                  show pm_G g 193 [(0, .ref a0), (1, .int p1), (2, .int p2), (3, .int p3)] [.int w76.1] w76.2 0 0
                  refine pm_istore (lv' := [(4, .int w76.1), (0, .ref a0), (1, .int p1), (2, .int p2), (3, .int p3)]) C dX16_operands_193 (pt_nl X (by decide)) rfl ?_
                  refine pm_goto (tgt := 317) C dX16_operands_195 (by decide) ?_
                  cases hf
                  exact pt_vret C X dX16_operands_317 rfl (Nat.le_refl _) (Nat.le_refl _) q
            · have hf := pm_it hf c22
              refine pm_aload_n C dX16_operands_121 rfl rfl ?_
              obtain ⟨k78, hf⟩ := pm_if hf
              obtain ⟨v79, e80, hf⟩ := pm_bd hf
              refine pt_callVT (as := []) (st := []) C X dX16_operands_122 ltX16_277 myX16_number viX16_number ⟨by decide, by decide⟩ rfl rfl k78 (Nat.le_of_ble_eq_true rfl) (Nat.le_refl _) (Nat.le_refl _) (ctX16_number e80 ?_)
              rcases v79 with z82 | w81
              · have hf := pt_kl hf
                cases hf
                exact q
              have hf := pt_kr hf
              show pm_G g 125 [(0, .ref a0), (1, .int p1), (2, .int p2), (3, .int p3)] [.long w81.1] w81.2 0 0
              refine pm_lstore (lv' := [(4, .long w81.1), (0, .ref a0), (1, .int p1), (2, .int p2), (3, .int p3)]) C dX16_operands_125 (pt_nl X (by decide)) rfl ?_
              refine pm_iload_n C dX16_operands_127 rfl rfl ?_
              refine pm_if_eq (tgt := 147) C dX16_operands_128 (by decide) (fun c83 => ?_) (fun c83 => ?_)
              · have hf := pm_it hf c83
                refine pm_lconst (v := 0) C dX16_operands_147 (by decide) ?_
                refine pm_lstore (lv' := [(6, .long 0), (4, .long w81.1), (0, .ref a0), (1, .int p1), (2, .int p2), (3, .int p3)]) C dX16_operands_148 (pt_nl X (by decide)) rfl ?_
                obtain ⟨n, hn⟩ := pm_lim_iter hf
                exact pm_sub [2, 1, 0] rfl ((lpX16_operands C X q n).2.1 a0 w81.1 0 w81.2 hn)
              · have hf := pm_ie hf c83
                refine pm_aload_n C dX16_operands_131 rfl rfl ?_
                refine pm_lload C dX16_operands_132 rfl ?_
                refine pm_lconst (v := 1) C dX16_operands_134 (by decide) ?_
                refine pm_lcmp C dX16_operands_135 ?_
                refine pm_if_eq (tgt := 143) C dX16_operands_136 (by decide) (fun c84 => ?_) (fun c84 => ?_)
                · have hf := pm_it hf ((pm_lg_eq _ _).mp c84)
                  refine pm_iconst (v := 0) C dX16_operands_143 (by decide) ?_
                  obtain ⟨k85, hf⟩ := pm_if hf
                  obtain ⟨v86, e87, hf⟩ := pm_bd hf
                  refine pt_callV (as := [.int 0]) (st := []) C X dX16_operands_144 lnX16_365 myX16_exceeds viX16_exceeds ⟨by decide, by decide⟩ rfl rfl k85 (Nat.le_of_ble_eq_true rfl) (Nat.le_refl _) (Nat.le_refl _) (ctX16_exceeds e87 ?_)
                  show pm_G g 147 [(4, .long w81.1), (0, .ref a0), (1, .int p1), (2, .int p2), (3, .int p3)] [] v86 0 0
                  refine pm_lconst (v := 0) C dX16_operands_147 (by decide) ?_
                  refine pm_lstore (lv' := [(6, .long 0), (4, .long w81.1), (0, .ref a0), (1, .int p1), (2, .int p2), (3, .int p3)]) C dX16_operands_148 (pt_nl X (by decide)) rfl ?_
                  obtain ⟨n, hn⟩ := pm_lim_iter hf
                  exact pm_sub [2, 1, 0] rfl ((lpX16_operands C X q n).2.1 a0 w81.1 0 v86 hn)
                · have hf := pm_ie hf ((fun z => c84 ((pm_lg_eq _ _).mpr z)))
                  refine pm_iconst (v := 1) C dX16_operands_139 (by decide) ?_
                  refine pm_goto (tgt := 144) C dX16_operands_140 (by decide) ?_
                  obtain ⟨k88, hf⟩ := pm_if hf
                  obtain ⟨v89, e90, hf⟩ := pm_bd hf
                  refine pt_callV (as := [.int 1]) (st := []) C X dX16_operands_144 lnX16_365 myX16_exceeds viX16_exceeds ⟨by decide, by decide⟩ rfl rfl k88 (Nat.le_of_ble_eq_true rfl) (Nat.le_refl _) (Nat.le_refl _) (ctX16_exceeds e90 ?_)
                  show pm_G g 147 [(4, .long w81.1), (0, .ref a0), (1, .int p1), (2, .int p2), (3, .int p3)] [] v89 0 0
                  refine pm_lconst (v := 0) C dX16_operands_147 (by decide) ?_
                  refine pm_lstore (lv' := [(6, .long 0), (4, .long w81.1), (0, .ref a0), (1, .int p1), (2, .int p2), (3, .int p3)]) C dX16_operands_148 (pt_nl X (by decide)) rfl ?_
                  obtain ⟨n, hn⟩ := pm_lim_iter hf
                  exact pm_sub [2, 1, 0] rfl ((lpX16_operands C X q n).2.1 a0 w81.1 0 v89 hn)
          · have hf := pm_it hf c21
            refine pm_aload_n C dX16_operands_58 rfl rfl ?_
            obtain ⟨k91, hf⟩ := pm_if hf
            obtain ⟨v92, e93, hf⟩ := pm_bd hf
            refine pt_callVT (as := []) (st := []) C X dX16_operands_59 ltX16_277 myX16_number viX16_number ⟨by decide, by decide⟩ rfl rfl k91 (Nat.le_of_ble_eq_true rfl) (Nat.le_refl _) (Nat.le_refl _) (ctX16_number e93 ?_)
            rcases v92 with z95 | w94
            · have hf := pt_kl hf
              cases hf
              exact q
            have hf := pt_kr hf
            show pm_G g 62 [(0, .ref a0), (1, .int p1), (2, .int p2), (3, .int p3)] [.long w94.1] w94.2 0 0
            refine pm_lstore (lv' := [(4, .long w94.1), (0, .ref a0), (1, .int p1), (2, .int p2), (3, .int p3)]) C dX16_operands_62 (pt_nl X (by decide)) rfl ?_
            refine pm_iload_n C dX16_operands_64 rfl rfl ?_
            refine pm_if_eq (tgt := 86) C dX16_operands_65 (by decide) (fun c96 => ?_) (fun c96 => ?_)
            · have hf := pm_it hf c96
              refine pm_lconst (v := 0) C dX16_operands_86 (by decide) ?_
              refine pm_lstore (lv' := [(6, .long 0), (4, .long w94.1), (0, .ref a0), (1, .int p1), (2, .int p2), (3, .int p3)]) C dX16_operands_87 (pt_nl X (by decide)) rfl ?_
              obtain ⟨n, hn⟩ := pm_lim_iter hf
              exact pm_sub [2, 1, 0] rfl ((lpX16_operands C X q n).2.2 a0 w94.1 0 w94.2 hn)
            · have hf := pm_ie hf c96
              refine pm_aload_n C dX16_operands_68 rfl rfl ?_
              refine pm_lload C dX16_operands_69 rfl ?_
              refine pm_ldc2 C dX16_operands_71 cnX16_575 ?_
              refine pm_lcmp C dX16_operands_74 ?_
              refine pm_if_le (tgt := 82) C dX16_operands_75 (by decide) (fun c97 => ?_) (fun c97 => ?_)
              · have hf := pm_it hf ((pm_lg_le _ _).mp c97)
                refine pm_iconst (v := 0) C dX16_operands_82 (by decide) ?_
                obtain ⟨k98, hf⟩ := pm_if hf
                obtain ⟨v99, e100, hf⟩ := pm_bd hf
                refine pt_callV (as := [.int 0]) (st := []) C X dX16_operands_83 lnX16_365 myX16_exceeds viX16_exceeds ⟨by decide, by decide⟩ rfl rfl k98 (Nat.le_of_ble_eq_true rfl) (Nat.le_refl _) (Nat.le_refl _) (ctX16_exceeds e100 ?_)
                show pm_G g 86 [(4, .long w94.1), (0, .ref a0), (1, .int p1), (2, .int p2), (3, .int p3)] [] v99 0 0
                refine pm_lconst (v := 0) C dX16_operands_86 (by decide) ?_
                refine pm_lstore (lv' := [(6, .long 0), (4, .long w94.1), (0, .ref a0), (1, .int p1), (2, .int p2), (3, .int p3)]) C dX16_operands_87 (pt_nl X (by decide)) rfl ?_
                obtain ⟨n, hn⟩ := pm_lim_iter hf
                exact pm_sub [2, 1, 0] rfl ((lpX16_operands C X q n).2.2 a0 w94.1 0 v99 hn)
              · have hf := pm_ie hf ((fun z => c97 ((pm_lg_le _ _).mpr z)))
                refine pm_iconst (v := 1) C dX16_operands_78 (by decide) ?_
                refine pm_goto (tgt := 83) C dX16_operands_79 (by decide) ?_
                obtain ⟨k101, hf⟩ := pm_if hf
                obtain ⟨v102, e103, hf⟩ := pm_bd hf
                refine pt_callV (as := [.int 1]) (st := []) C X dX16_operands_83 lnX16_365 myX16_exceeds viX16_exceeds ⟨by decide, by decide⟩ rfl rfl k101 (Nat.le_of_ble_eq_true rfl) (Nat.le_refl _) (Nat.le_refl _) (ctX16_exceeds e103 ?_)
                show pm_G g 86 [(4, .long w94.1), (0, .ref a0), (1, .int p1), (2, .int p2), (3, .int p3)] [] v102 0 0
                refine pm_lconst (v := 0) C dX16_operands_86 (by decide) ?_
                refine pm_lstore (lv' := [(6, .long 0), (4, .long w94.1), (0, .ref a0), (1, .int p1), (2, .int p2), (3, .int p3)]) C dX16_operands_87 (pt_nl X (by decide)) rfl ?_
                obtain ⟨n, hn⟩ := pm_lim_iter hf
                exact pm_sub [2, 1, 0] rfl ((lpX16_operands C X q n).2.2 a0 w94.1 0 v102 hn)
        · have hf := pm_it hf c20
          refine pm_aload_n C dX16_operands_37 rfl rfl ?_
          obtain ⟨k104, hf⟩ := pm_if hf
          obtain ⟨v105, e106, hf⟩ := pm_bd hf
          refine pt_callVT (as := []) (st := []) C X dX16_operands_38 ltX16_277 myX16_number viX16_number ⟨by decide, by decide⟩ rfl rfl k104 (Nat.le_of_ble_eq_true rfl) (Nat.le_refl _) (Nat.le_refl _) (ctX16_number e106 ?_)
          rcases v105 with z108 | w107
          · have hf := pt_kl hf
            cases hf
            exact q
          have hf := pt_kr hf
          show pm_G g 41 [(0, .ref a0), (1, .int p1), (2, .int p2), (3, .int p3)] [.long w107.1] w107.2 0 0
          refine pm_lstore (lv' := [(4, .long w107.1), (0, .ref a0), (1, .int p1), (2, .int p2), (3, .int p3)]) C dX16_operands_41 (pt_nl X (by decide)) rfl ?_
          refine pm_aload_n C dX16_operands_43 rfl rfl ?_
          obtain ⟨k109, hf⟩ := pm_if hf
          obtain ⟨v110, e111, hf⟩ := pm_bd hf
          refine pt_callVT (as := []) (st := []) C X dX16_operands_44 ltX16_277 myX16_number viX16_number ⟨by decide, by decide⟩ rfl rfl k109 (Nat.le_of_ble_eq_true rfl) (Nat.le_refl _) (Nat.le_refl _) (ctX16_number e111 ?_)
          rcases v110 with z113 | w112
          · have hf := pt_kl hf
            cases hf
            exact q
          have hf := pt_kr hf
          show pm_G g 47 [(4, .long w107.1), (0, .ref a0), (1, .int p1), (2, .int p2), (3, .int p3)] [.long w112.1] w112.2 0 0
          refine pm_lstore (lv' := [(6, .long w112.1), (4, .long w107.1), (0, .ref a0), (1, .int p1), (2, .int p2), (3, .int p3)]) C dX16_operands_47 (pt_nl X (by decide)) rfl ?_
          refine pm_goto (tgt := 317) C dX16_operands_49 (by decide) ?_
          cases hf
          exact pt_vret C X dX16_operands_317 rfl (Nat.le_refl _) (Nat.le_refl _) q
    · have hf := pm_ie hf c6
      refine pm_aload_n C dX16_operands_15 rfl rfl ?_
      obtain ⟨k114, hf⟩ := pm_if hf
      obtain ⟨v115, e116, hf⟩ := pm_bd hf
      refine pt_callVT (as := []) (st := []) C X dX16_operands_16 ltX16_277 myX16_number viX16_number ⟨by decide, by decide⟩ rfl rfl k114 (Nat.le_of_ble_eq_true rfl) (Nat.le_refl _) (Nat.le_refl _) (ctX16_number e116 ?_)
      rcases v115 with z118 | w117
      · have hf := pt_kl hf
        cases hf
        exact q
      have hf := pt_kr hf
      show pm_G g 19 [(0, .ref a0), (1, .int p1), (2, .int p2), (3, .int p3)] [.long w117.1] w117.2 0 0
      refine pm_lstore (lv' := [(4, .long w117.1), (0, .ref a0), (1, .int p1), (2, .int p2), (3, .int p3)]) C dX16_operands_19 (pt_nl X (by decide)) rfl ?_
      refine pm_goto (tgt := 317) C dX16_operands_21 (by decide) ?_
      cases hf
      exact pt_vret C X dX16_operands_317 rfl (Nat.le_refl _) (Nat.le_refl _) q
  · have hf := pm_ie hf c3
    cases hf
    exact pt_vret C X dX16_operands_7 rfl (Nat.le_refl _) (Nat.le_refl _) q
theorem dX16_operates_0 : decode cX16_operates 0 = .ok (.aload_n 0, 1) := by decide +kernel
theorem dX16_operates_1 : decode cX16_operates 1 = .ok (.bipush 127, 2) := by decide +kernel
theorem dX16_operates_3 : decode cX16_operates 3 = .ok (.iload_n 1, 1) := by decide +kernel
theorem dX16_operates_4 : decode cX16_operates 4 = .ok (.invokestatic 753, 3) := by decide +kernel
theorem dX16_operates_7 : decode cX16_operates 7 = .ok (.isub, 1) := by decide +kernel
theorem dX16_operates_8 : decode cX16_operates 8 = .ok (.iload_n 1, 1) := by decide +kernel
theorem dX16_operates_9 : decode cX16_operates 9 = .ok (.invokestatic 756, 3) := by decide +kernel
theorem dX16_operates_12 : decode cX16_operates 12 = .ok (.ifCond .eq 7, 3) := by decide +kernel
theorem dX16_operates_15 : decode cX16_operates 15 = .ok (.iconst 2, 1) := by decide +kernel
theorem dX16_operates_16 : decode cX16_operates 16 = .ok (.goto 4, 3) := by decide +kernel
theorem dX16_operates_19 : decode cX16_operates 19 = .ok (.iconst 1, 1) := by decide +kernel
theorem dX16_operates_20 : decode cX16_operates 20 = .ok (.invokevirtual 750, 3) := by decide +kernel
theorem dX16_operates_23 : decode cX16_operates 23 = .ok (.aload_n 0, 1) := by decide +kernel
theorem dX16_operates_24 : decode cX16_operates 24 = .ok (.bipush 127, 2) := by decide +kernel
theorem dX16_operates_26 : decode cX16_operates 26 = .ok (.iload_n 1, 1) := by decide +kernel
theorem dX16_operates_27 : decode cX16_operates 27 = .ok (.invokestatic 759, 3) := by decide +kernel
theorem dX16_operates_30 : decode cX16_operates 30 = .ok (.isub, 1) := by decide +kernel
theorem dX16_operates_31 : decode cX16_operates 31 = .ok (.invokevirtual 695, 3) := by decide +kernel
theorem dX16_operates_34 : decode cX16_operates 34 = .ok (.return_, 1) := by decide +kernel
noncomputable def fX16_operates (h : pm_H) (a0 : Nat) (p1 : Int32) : Option ((Nat × pm_H) ⊕ pm_H) := pm_let (fX16_operandOf p1) fun v1 => pm_let (fX16_hasTwo p1) fun v3 => if v3 = 0 then (if pm_kd h a0 = 16 then (fX16_takes h a0 (127 - v1) 1).bind fun v7 => pt_k v7 fun w9 => pm_let (fX16_resultOf p1) fun v11 => if pm_kd w9 a0 = 16 then (fX16_put w9 a0 (127 - v11)).bind fun v14 => pt_k v14 fun w16 => some (.inr (w16)) else none else none) else (if pm_kd h a0 = 16 then (fX16_takes h a0 (127 - v1) 2).bind fun v19 => pt_k v19 fun w21 => pm_let (fX16_resultOf p1) fun v23 => if pm_kd w21 a0 = 16 then (fX16_put w21 a0 (127 - v23)).bind fun v26 => pt_k v26 fun w28 => some (.inr (w28)) else none else none)
set_option maxHeartbeats 4000000 in
set_option maxRecDepth 100000 in
theorem ctX16_operates {l : Launch} {G : pm_Gl} {h : pm_H} {a0 : Nat} {p1 : Int32} {r : ((Nat × pm_H) ⊕ pm_H)} {Qr : Option Value → pm_H → Prop} {Qt : Nat → pm_H → Prop} (hf : fX16_operates h a0 p1 = some r) (q : pt_eV Qr Qt r) : pm_Ctt l G mX16_operates [.ref a0, .int p1] h 0 0 Qr Qt := by
  refine pm_bodyT pnX16 (Nat.le_of_ble_eq_true rfl) (fun g C X => ?_)
  have C : pm_C g cX16_operates RX16 := C
  show pm_G g 0 [(0, .ref a0), (1, .int p1)] [] h 0 0
  unfold fX16_operates at hf
  refine pm_aload_n C dX16_operates_0 rfl rfl ?_
  refine pm_bipush (v := 127) C dX16_operates_1 (by decide) ?_
  refine pm_iload_n C dX16_operates_3 rfl rfl ?_
  obtain ⟨v1, e2, hf⟩ := pm_lt hf
  refine pt_callS (as := [.int p1]) (st := [.int 127, .ref a0]) C X dX16_operates_4 lnX16_753 myX16_operandOf stX16_operandOf ⟨by decide, by decide⟩ rfl rfl (Nat.le_of_ble_eq_true rfl) (Nat.le_refl _) (Nat.le_refl _) (ctX16_operandOf e2 ?_)
  show pm_G g 7 [(0, .ref a0), (1, .int p1)] [.int v1, .int 127, .ref a0] h 0 0
  refine pm_isub C dX16_operates_7 ?_
  refine pm_iload_n C dX16_operates_8 rfl rfl ?_
  obtain ⟨v3, e4, hf⟩ := pm_lt hf
  refine pt_callS (as := [.int p1]) (st := [.int (127 - v1), .ref a0]) C X dX16_operates_9 lnX16_756 myX16_hasTwo stX16_hasTwo ⟨by decide, by decide⟩ rfl rfl (Nat.le_of_ble_eq_true rfl) (Nat.le_refl _) (Nat.le_refl _) (ctX16_hasTwo e4 ?_)
  show pm_G g 12 [(0, .ref a0), (1, .int p1)] [.int v3, .int (127 - v1), .ref a0] h 0 0
  refine pm_if_eq (tgt := 19) C dX16_operates_12 (by decide) (fun c5 => ?_) (fun c5 => ?_)
  · have hf := pm_it hf c5
    refine pm_iconst (v := 1) C dX16_operates_19 (by decide) ?_
    obtain ⟨k6, hf⟩ := pm_if hf
    obtain ⟨v7, e8, hf⟩ := pm_bd hf
    refine pt_callVT (as := [.int (127 - v1), .int 1]) (st := []) C X dX16_operates_20 ltX16_750 myX16_takes viX16_takes ⟨by decide, by decide⟩ rfl rfl k6 (Nat.le_of_ble_eq_true rfl) (Nat.le_refl _) (Nat.le_refl _) (ctX16_takes e8 ?_)
    rcases v7 with z10 | w9
    · have hf := pt_kl hf
      cases hf
      exact q
    have hf := pt_kr hf
    show pm_G g 23 [(0, .ref a0), (1, .int p1)] [] w9 0 0
    refine pm_aload_n C dX16_operates_23 rfl rfl ?_
    refine pm_bipush (v := 127) C dX16_operates_24 (by decide) ?_
    refine pm_iload_n C dX16_operates_26 rfl rfl ?_
    obtain ⟨v11, e12, hf⟩ := pm_lt hf
    refine pt_callS (as := [.int p1]) (st := [.int 127, .ref a0]) C X dX16_operates_27 lnX16_759 myX16_resultOf stX16_resultOf ⟨by decide, by decide⟩ rfl rfl (Nat.le_of_ble_eq_true rfl) (Nat.le_refl _) (Nat.le_refl _) (ctX16_resultOf e12 ?_)
    show pm_G g 30 [(0, .ref a0), (1, .int p1)] [.int v11, .int 127, .ref a0] w9 0 0
    refine pm_isub C dX16_operates_30 ?_
    obtain ⟨k13, hf⟩ := pm_if hf
    obtain ⟨v14, e15, hf⟩ := pm_bd hf
    refine pt_callVT (as := [.int (127 - v11)]) (st := []) C X dX16_operates_31 ltX16_695 myX16_put viX16_put ⟨by decide, by decide⟩ rfl rfl k13 (Nat.le_of_ble_eq_true rfl) (Nat.le_refl _) (Nat.le_refl _) (ctX16_put e15 ?_)
    rcases v14 with z17 | w16
    · have hf := pt_kl hf
      cases hf
      exact q
    have hf := pt_kr hf
    show pm_G g 34 [(0, .ref a0), (1, .int p1)] [] w16 0 0
    cases hf
    exact pt_vret C X dX16_operates_34 rfl (Nat.le_refl _) (Nat.le_refl _) q
  · have hf := pm_ie hf c5
    refine pm_iconst (v := 2) C dX16_operates_15 (by decide) ?_
    refine pm_goto (tgt := 20) C dX16_operates_16 (by decide) ?_
    obtain ⟨k18, hf⟩ := pm_if hf
    obtain ⟨v19, e20, hf⟩ := pm_bd hf
    refine pt_callVT (as := [.int (127 - v1), .int 2]) (st := []) C X dX16_operates_20 ltX16_750 myX16_takes viX16_takes ⟨by decide, by decide⟩ rfl rfl k18 (Nat.le_of_ble_eq_true rfl) (Nat.le_refl _) (Nat.le_refl _) (ctX16_takes e20 ?_)
    rcases v19 with z22 | w21
    · have hf := pt_kl hf
      cases hf
      exact q
    have hf := pt_kr hf
    show pm_G g 23 [(0, .ref a0), (1, .int p1)] [] w21 0 0
    refine pm_aload_n C dX16_operates_23 rfl rfl ?_
    refine pm_bipush (v := 127) C dX16_operates_24 (by decide) ?_
    refine pm_iload_n C dX16_operates_26 rfl rfl ?_
    obtain ⟨v23, e24, hf⟩ := pm_lt hf
    refine pt_callS (as := [.int p1]) (st := [.int 127, .ref a0]) C X dX16_operates_27 lnX16_759 myX16_resultOf stX16_resultOf ⟨by decide, by decide⟩ rfl rfl (Nat.le_of_ble_eq_true rfl) (Nat.le_refl _) (Nat.le_refl _) (ctX16_resultOf e24 ?_)
    show pm_G g 30 [(0, .ref a0), (1, .int p1)] [.int v23, .int 127, .ref a0] w21 0 0
    refine pm_isub C dX16_operates_30 ?_
    obtain ⟨k25, hf⟩ := pm_if hf
    obtain ⟨v26, e27, hf⟩ := pm_bd hf
    refine pt_callVT (as := [.int (127 - v23)]) (st := []) C X dX16_operates_31 ltX16_695 myX16_put viX16_put ⟨by decide, by decide⟩ rfl rfl k25 (Nat.le_of_ble_eq_true rfl) (Nat.le_refl _) (Nat.le_refl _) (ctX16_put e27 ?_)
    rcases v26 with z29 | w28
    · have hf := pt_kl hf
      cases hf
      exact q
    have hf := pt_kr hf
    show pm_G g 34 [(0, .ref a0), (1, .int p1)] [] w28 0 0
    cases hf
    exact pt_vret C X dX16_operates_34 rfl (Nat.le_refl _) (Nat.le_refl _) q
theorem dX16_readsExports_0 : decode cX16_readsExports 0 = .ok (.aload_n 0, 1) := by decide +kernel
theorem dX16_readsExports_1 : decode cX16_readsExports 1 = .ok (.invokevirtual 277, 3) := by decide +kernel
theorem dX16_readsExports_4 : decode cX16_readsExports 4 = .ok (.lstore_n 1, 1) := by decide +kernel
theorem dX16_readsExports_5 : decode cX16_readsExports 5 = .ok (.aload_n 0, 1) := by decide +kernel
theorem dX16_readsExports_6 : decode cX16_readsExports 6 = .ok (.getfield 221, 3) := by decide +kernel
theorem dX16_readsExports_9 : decode cX16_readsExports 9 = .ok (.aload_n 0, 1) := by decide +kernel
theorem dX16_readsExports_10 : decode cX16_readsExports 10 = .ok (.lload_n 1, 1) := by decide +kernel
theorem dX16_readsExports_11 : decode cX16_readsExports 11 = .ok (.invokevirtual 377, 3) := by decide +kernel
theorem dX16_readsExports_14 : decode cX16_readsExports 14 = .ok (.putfield 466, 3) := by decide +kernel
theorem dX16_readsExports_17 : decode cX16_readsExports 17 = .ok (.lconst 0, 1) := by decide +kernel
theorem dX16_readsExports_18 : decode cX16_readsExports 18 = .ok (.lstore_n 3, 1) := by decide +kernel
theorem dX16_readsExports_19 : decode cX16_readsExports 19 = .ok (.lload_n 3, 1) := by decide +kernel
theorem dX16_readsExports_20 : decode cX16_readsExports 20 = .ok (.lload_n 1, 1) := by decide +kernel
theorem dX16_readsExports_21 : decode cX16_readsExports 21 = .ok (.lcmp, 1) := by decide +kernel
theorem dX16_readsExports_22 : decode cX16_readsExports 22 = .ok (.ifCond .ge 98, 3) := by decide +kernel
theorem dX16_readsExports_25 : decode cX16_readsExports 25 = .ok (.aload_n 0, 1) := by decide +kernel
theorem dX16_readsExports_26 : decode cX16_readsExports 26 = .ok (.invokevirtual 324, 3) := by decide +kernel
theorem dX16_readsExports_29 : decode cX16_readsExports 29 = .ok (.aload_n 0, 1) := by decide +kernel
theorem dX16_readsExports_30 : decode cX16_readsExports 30 = .ok (.getfield 281, 3) := by decide +kernel
theorem dX16_readsExports_33 : decode cX16_readsExports 33 = .ok (.istore 5, 2) := by decide +kernel
theorem dX16_readsExports_35 : decode cX16_readsExports 35 = .ok (.aload_n 0, 1) := by decide +kernel
theorem dX16_readsExports_36 : decode cX16_readsExports 36 = .ok (.getfield 251, 3) := by decide +kernel
theorem dX16_readsExports_39 : decode cX16_readsExports 39 = .ok (.istore 6, 2) := by decide +kernel
theorem dX16_readsExports_41 : decode cX16_readsExports 41 = .ok (.aload_n 0, 1) := by decide +kernel
theorem dX16_readsExports_42 : decode cX16_readsExports 42 = .ok (.iconst 3, 1) := by decide +kernel
theorem dX16_readsExports_43 : decode cX16_readsExports 43 = .ok (.invokevirtual 393, 3) := by decide +kernel
theorem dX16_readsExports_46 : decode cX16_readsExports 46 = .ok (.istore 7, 2) := by decide +kernel
theorem dX16_readsExports_48 : decode cX16_readsExports 48 = .ok (.aload_n 0, 1) := by decide +kernel
theorem dX16_readsExports_49 : decode cX16_readsExports 49 = .ok (.invokevirtual 277, 3) := by decide +kernel
theorem dX16_readsExports_52 : decode cX16_readsExports 52 = .ok (.lstore 8, 2) := by decide +kernel
theorem dX16_readsExports_54 : decode cX16_readsExports 54 = .ok (.lload_n 3, 1) := by decide +kernel
theorem dX16_readsExports_55 : decode cX16_readsExports 55 = .ok (.ldc2_w 363, 3) := by decide +kernel
theorem dX16_readsExports_58 : decode cX16_readsExports 58 = .ok (.lcmp, 1) := by decide +kernel
theorem dX16_readsExports_59 : decode cX16_readsExports 59 = .ok (.ifCond .ge 54, 3) := by decide +kernel
theorem dX16_readsExports_62 : decode cX16_readsExports 62 = .ok (.aload_n 0, 1) := by decide +kernel
theorem dX16_readsExports_63 : decode cX16_readsExports 63 = .ok (.getfield 221, 3) := by decide +kernel
theorem dX16_readsExports_66 : decode cX16_readsExports 66 = .ok (.getfield 469, 3) := by decide +kernel
theorem dX16_readsExports_69 : decode cX16_readsExports 69 = .ok (.lload_n 3, 1) := by decide +kernel
theorem dX16_readsExports_70 : decode cX16_readsExports 70 = .ok (.l2i, 1) := by decide +kernel
theorem dX16_readsExports_71 : decode cX16_readsExports 71 = .ok (.iload 5, 2) := by decide +kernel
theorem dX16_readsExports_73 : decode cX16_readsExports 73 = .ok (.iastore, 1) := by decide +kernel
theorem dX16_readsExports_74 : decode cX16_readsExports 74 = .ok (.aload_n 0, 1) := by decide +kernel
theorem dX16_readsExports_75 : decode cX16_readsExports 75 = .ok (.getfield 221, 3) := by decide +kernel
theorem dX16_readsExports_78 : decode cX16_readsExports 78 = .ok (.getfield 472, 3) := by decide +kernel
theorem dX16_readsExports_81 : decode cX16_readsExports 81 = .ok (.lload_n 3, 1) := by decide +kernel
theorem dX16_readsExports_82 : decode cX16_readsExports 82 = .ok (.l2i, 1) := by decide +kernel
theorem dX16_readsExports_83 : decode cX16_readsExports 83 = .ok (.iload 6, 2) := by decide +kernel
theorem dX16_readsExports_85 : decode cX16_readsExports 85 = .ok (.iload 5, 2) := by decide +kernel
theorem dX16_readsExports_87 : decode cX16_readsExports 87 = .ok (.isub, 1) := by decide +kernel
theorem dX16_readsExports_88 : decode cX16_readsExports 88 = .ok (.iastore, 1) := by decide +kernel
theorem dX16_readsExports_89 : decode cX16_readsExports 89 = .ok (.aload_n 0, 1) := by decide +kernel
theorem dX16_readsExports_90 : decode cX16_readsExports 90 = .ok (.getfield 221, 3) := by decide +kernel
theorem dX16_readsExports_93 : decode cX16_readsExports 93 = .ok (.getfield 475, 3) := by decide +kernel
theorem dX16_readsExports_96 : decode cX16_readsExports 96 = .ok (.lload_n 3, 1) := by decide +kernel
theorem dX16_readsExports_97 : decode cX16_readsExports 97 = .ok (.l2i, 1) := by decide +kernel
theorem dX16_readsExports_98 : decode cX16_readsExports 98 = .ok (.iload 7, 2) := by decide +kernel
theorem dX16_readsExports_100 : decode cX16_readsExports 100 = .ok (.iastore, 1) := by decide +kernel
theorem dX16_readsExports_101 : decode cX16_readsExports 101 = .ok (.aload_n 0, 1) := by decide +kernel
theorem dX16_readsExports_102 : decode cX16_readsExports 102 = .ok (.getfield 221, 3) := by decide +kernel
theorem dX16_readsExports_105 : decode cX16_readsExports 105 = .ok (.getfield 478, 3) := by decide +kernel
theorem dX16_readsExports_108 : decode cX16_readsExports 108 = .ok (.lload_n 3, 1) := by decide +kernel
theorem dX16_readsExports_109 : decode cX16_readsExports 109 = .ok (.l2i, 1) := by decide +kernel
theorem dX16_readsExports_110 : decode cX16_readsExports 110 = .ok (.lload 8, 2) := by decide +kernel
theorem dX16_readsExports_112 : decode cX16_readsExports 112 = .ok (.lastore, 1) := by decide +kernel
theorem dX16_readsExports_113 : decode cX16_readsExports 113 = .ok (.lload_n 3, 1) := by decide +kernel
theorem dX16_readsExports_114 : decode cX16_readsExports 114 = .ok (.lconst 1, 1) := by decide +kernel
theorem dX16_readsExports_115 : decode cX16_readsExports 115 = .ok (.ladd, 1) := by decide +kernel
theorem dX16_readsExports_116 : decode cX16_readsExports 116 = .ok (.lstore_n 3, 1) := by decide +kernel
theorem dX16_readsExports_117 : decode cX16_readsExports 117 = .ok (.goto (-98), 3) := by decide +kernel
theorem dX16_readsExports_120 : decode cX16_readsExports 120 = .ok (.return_, 1) := by decide +kernel
noncomputable def tX16_readsExports_19 (x0 : Nat) (x1 : Int64) (x3 : Int64) (h : pm_H) : Option (((Nat × Int64 × Int64 × pm_H)) ⊕ ((Nat × pm_H) ⊕ pm_H)) := if x1 ≤ x3 then (some (.inr (.inr (h)))) else (if pm_kd h x0 = 16 then (fX16_name h x0).bind fun v14 => pt_s v14 fun w16 => if pm_kd w16 x0 = 16 then pm_let (pm_I w16 x0 16) fun y19 => pm_let (pm_I w16 x0 11) fun y21 => (fX16_small w16 x0 3).bind fun v23 => pt_s v23 fun w25 => if pm_kd w25.2 x0 = 16 then (fX16_number w25.2 x0).bind fun v28 => pt_s v28 fun w30 => if 64 ≤ x3 then (pm_let (x3 + 1) fun y33 => some (.inl ((x0, x1, y33, w30.2)))) else (if pm_kd w30.2 x0 = 16 then (pm_R w30.2 x0 10).bind fun v36 => if pm_kd w30.2 v36 = 14 then (pm_R w30.2 v36 29).bind fun v39 => if pm_kd w30.2 v39 = 34 then if pm_in x3.toInt32 (pm_ln w30.2 v39) then (pm_R (pm_setI w30.2 v39 x3.toInt32.toNatClampNeg y19) v36 30).bind fun v43 => pm_let (y21 - y19) fun y45 => if pm_kd (pm_setI w30.2 v39 x3.toInt32.toNatClampNeg y19) v43 = 34 then if pm_in x3.toInt32 (pm_ln (pm_setI w30.2 v39 x3.toInt32.toNatClampNeg y19) v43) then (pm_R (pm_setI (pm_setI w30.2 v39 x3.toInt32.toNatClampNeg y19) v43 x3.toInt32.toNatClampNeg y45) v36 31).bind fun v49 => if pm_kd (pm_setI (pm_setI w30.2 v39 x3.toInt32.toNatClampNeg y19) v43 x3.toInt32.toNatClampNeg y45) v49 = 34 then if pm_in x3.toInt32 (pm_ln (pm_setI (pm_setI w30.2 v39 x3.toInt32.toNatClampNeg y19) v43 x3.toInt32.toNatClampNeg y45) v49) then (pm_R (pm_setI (pm_setI (pm_setI w30.2 v39 x3.toInt32.toNatClampNeg y19) v43 x3.toInt32.toNatClampNeg y45) v49 x3.toInt32.toNatClampNeg w25.1) v36 32).bind fun v53 => if pm_kd (pm_setI (pm_setI (pm_setI w30.2 v39 x3.toInt32.toNatClampNeg y19) v43 x3.toInt32.toNatClampNeg y45) v49 x3.toInt32.toNatClampNeg w25.1) v53 = 35 then if pm_in x3.toInt32 (pm_ln (pm_setI (pm_setI (pm_setI w30.2 v39 x3.toInt32.toNatClampNeg y19) v43 x3.toInt32.toNatClampNeg y45) v49 x3.toInt32.toNatClampNeg w25.1) v53) then pm_let (x3 + 1) fun y57 => some (.inl ((x0, x1, y57, pm_setL (pm_setI (pm_setI (pm_setI w30.2 v39 x3.toInt32.toNatClampNeg y19) v43 x3.toInt32.toNatClampNeg y45) v49 x3.toInt32.toNatClampNeg w25.1) v53 x3.toInt32.toNatClampNeg w30.1))) else none else none else none else none else none else none else none else none else none else none) else none else none else none)
noncomputable def sX16_readsExports : ((Nat × Int64 × Int64 × pm_H)) → Option (((Nat × Int64 × Int64 × pm_H)) ⊕ ((Nat × pm_H) ⊕ pm_H)) := fun z => match z with
  | (x0, x1, x3, h) => tX16_readsExports_19 x0 x1 x3 h
noncomputable def fX16_readsExports (h : pm_H) (a0 : Nat) : Option ((Nat × pm_H) ⊕ pm_H) := if pm_kd h a0 = 16 then (fX16_number h a0).bind fun v2 => pt_k v2 fun w4 => if pm_kd w4.2 a0 = 16 then (pm_R w4.2 a0 10).bind fun v7 => (fX16_kept w4.2 a0 w4.1).bind fun v9 => if pm_kd v9.2 v7 = 14 then pm_lim sX16_readsExports ((a0, w4.1, 0, pm_setI v9.2 v7 28 v9.1)) else none else none else none
set_option maxHeartbeats 4000000 in
set_option maxRecDepth 100000 in
theorem lpX16_readsExports {g : pm_Gm} {l : Launch} {G : pm_Gl} {Qr : Option Value → pm_H → Prop} {Qt : Nat → pm_H → Prop} (C : pm_C g cX16_readsExports RX16) (X : pm_XT g l G mX16_readsExports 0 0 Qr Qt) {r : ((Nat × pm_H) ⊕ pm_H)} (q : pt_eV Qr Qt r) : ∀ n : Nat, (∀ (x0 : Nat) (x1 : Int64) (x3 : Int64) (h : pm_H), pm_iter sX16_readsExports n (x0, x1, x3, h) = some r → pm_G g 19 [(0, .ref x0), (1, .long x1), (3, .long x3)] [] h 0 0) := by
  intro n
  induction n with
  | zero => exact fun _ _ _ _ hf => (by cases hf)
  | succ n ih =>
    refine fun x0 x1 x3 h hf => ?_
    obtain ⟨y, hf, hi⟩ := pm_iter_s hf
    have hf : tX16_readsExports_19 x0 x1 x3 h = some y := hf
    unfold tX16_readsExports_19 at hf
    refine pm_lload_n C dX16_readsExports_19 rfl rfl ?_
    refine pm_lload_n C dX16_readsExports_20 rfl rfl ?_
    refine pm_lcmp C dX16_readsExports_21 ?_
    refine pm_if_ge (tgt := 120) C dX16_readsExports_22 (by decide) (fun c12 => ?_) (fun c12 => ?_)
    · have hf := pm_it hf ((pm_lg_ge _ _).mp c12)
      cases hf
      cases hi
      exact pt_vret C X dX16_readsExports_120 rfl (Nat.le_refl _) (Nat.le_refl _) q
    · have hf := pm_ie hf ((fun z => c12 ((pm_lg_ge _ _).mpr z)))
      refine pm_aload_n C dX16_readsExports_25 rfl rfl ?_
      obtain ⟨k13, hf⟩ := pm_if hf
      obtain ⟨v14, e15, hf⟩ := pm_bd hf
      refine pt_callVT (as := []) (st := []) C X dX16_readsExports_26 ltX16_324 myX16_name viX16_name ⟨by decide, by decide⟩ rfl rfl k13 (Nat.le_of_ble_eq_true rfl) (Nat.le_refl _) (Nat.le_refl _) (ctX16_name e15 ?_)
      rcases v14 with z17 | w16
      · have hf := pt_sl hf
        cases hf
        cases hi
        exact q
      have hf := pt_sr hf
      show pm_G g 29 [(0, .ref x0), (1, .long x1), (3, .long x3)] [] w16 0 0
      refine pm_aload_n C dX16_readsExports_29 rfl rfl ?_
      obtain ⟨k18, hf⟩ := pm_if hf
      refine pm_getI C dX16_readsExports_30 flX16_281 rfl k18 rfl ?_
      obtain ⟨y19, e20, hf⟩ := pm_lt hf
      refine pm_topI e20 ?_
      refine pm_istore (lv' := [(5, .int y19), (0, .ref x0), (1, .long x1), (3, .long x3)]) C dX16_readsExports_33 (pt_nl X (by decide)) rfl ?_
      refine pm_aload_n C dX16_readsExports_35 rfl rfl ?_
      refine pm_getI C dX16_readsExports_36 flX16_251 rfl k18 rfl ?_
      obtain ⟨y21, e22, hf⟩ := pm_lt hf
      refine pm_topI e22 ?_
      refine pm_istore (lv' := [(6, .int y21), (5, .int y19), (0, .ref x0), (1, .long x1), (3, .long x3)]) C dX16_readsExports_39 (pt_nl X (by decide)) rfl ?_
      refine pm_aload_n C dX16_readsExports_41 rfl rfl ?_
      refine pm_iconst (v := 3) C dX16_readsExports_42 (by decide) ?_
      obtain ⟨v23, e24, hf⟩ := pm_bd hf
      refine pt_callVT (as := [.int 3]) (st := []) C X dX16_readsExports_43 ltX16_393 myX16_small viX16_small ⟨by decide, by decide⟩ rfl rfl k18 (Nat.le_of_ble_eq_true rfl) (Nat.le_refl _) (Nat.le_refl _) (ctX16_small e24 ?_)
      rcases v23 with z26 | w25
      · have hf := pt_sl hf
        cases hf
        cases hi
        exact q
      have hf := pt_sr hf
      show pm_G g 46 [(6, .int y21), (5, .int y19), (0, .ref x0), (1, .long x1), (3, .long x3)] [.int w25.1] w25.2 0 0
      refine pm_istore (lv' := [(7, .int w25.1), (6, .int y21), (5, .int y19), (0, .ref x0), (1, .long x1), (3, .long x3)]) C dX16_readsExports_46 (pt_nl X (by decide)) rfl ?_
      refine pm_aload_n C dX16_readsExports_48 rfl rfl ?_
      obtain ⟨k27, hf⟩ := pm_if hf
      obtain ⟨v28, e29, hf⟩ := pm_bd hf
      refine pt_callVT (as := []) (st := []) C X dX16_readsExports_49 ltX16_277 myX16_number viX16_number ⟨by decide, by decide⟩ rfl rfl k27 (Nat.le_of_ble_eq_true rfl) (Nat.le_refl _) (Nat.le_refl _) (ctX16_number e29 ?_)
      rcases v28 with z31 | w30
      · have hf := pt_sl hf
        cases hf
        cases hi
        exact q
      have hf := pt_sr hf
      show pm_G g 52 [(7, .int w25.1), (6, .int y21), (5, .int y19), (0, .ref x0), (1, .long x1), (3, .long x3)] [.long w30.1] w30.2 0 0
      refine pm_lstore (lv' := [(8, .long w30.1), (7, .int w25.1), (6, .int y21), (5, .int y19), (0, .ref x0), (1, .long x1), (3, .long x3)]) C dX16_readsExports_52 (pt_nl X (by decide)) rfl ?_
      refine pm_lload_n C dX16_readsExports_54 rfl rfl ?_
      refine pm_ldc2 C dX16_readsExports_55 cnX16_363 ?_
      refine pm_lcmp C dX16_readsExports_58 ?_
      refine pm_if_ge (tgt := 113) C dX16_readsExports_59 (by decide) (fun c32 => ?_) (fun c32 => ?_)
      · have hf := pm_it hf ((pm_lg_ge _ _).mp c32)
        refine pm_lload_n C dX16_readsExports_113 rfl rfl ?_
        refine pm_lconst (v := 1) C dX16_readsExports_114 (by decide) ?_
        refine pm_ladd C dX16_readsExports_115 ?_
        obtain ⟨y33, e34, hf⟩ := pm_lt hf
        refine pm_topL e34 ?_
        refine pm_lstore_n (lv' := [(3, .long y33), (8, .long w30.1), (7, .int w25.1), (6, .int y21), (5, .int y19), (0, .ref x0), (1, .long x1)]) C dX16_readsExports_116 rfl (pt_nl X (by decide)) rfl ?_
        refine pm_goto (tgt := 19) C dX16_readsExports_117 (by decide) ?_
        cases hf
        exact pm_sub [5, 6, 0] rfl (ih x0 x1 y33 w30.2 hi)
      · have hf := pm_ie hf ((fun z => c32 ((pm_lg_ge _ _).mpr z)))
        refine pm_aload_n C dX16_readsExports_62 rfl rfl ?_
        obtain ⟨k35, hf⟩ := pm_if hf
        obtain ⟨v36, e37, hf⟩ := pm_bd hf
        refine pm_getR C dX16_readsExports_63 flX16_221 rfl k35 e37 ?_
        obtain ⟨k38, hf⟩ := pm_if hf
        obtain ⟨v39, e40, hf⟩ := pm_bd hf
        refine pm_getR C dX16_readsExports_66 flX16_469 rfl k38 e40 ?_
        refine pm_lload_n C dX16_readsExports_69 rfl rfl ?_
        refine pm_l2i C dX16_readsExports_70 ?_
        refine pm_iload C dX16_readsExports_71 rfl ?_
        obtain ⟨k41, hf⟩ := pm_if hf
        obtain ⟨u42, hf⟩ := pm_if hf
        refine pm_iast C dX16_readsExports_73 k41 u42 ?_
        refine pm_aload_n C dX16_readsExports_74 rfl rfl ?_
        refine pm_getR C dX16_readsExports_75 flX16_221 rfl k35 e37 ?_
        obtain ⟨v43, e44, hf⟩ := pm_bd hf
        refine pm_getR C dX16_readsExports_78 flX16_472 rfl k38 e44 ?_
        refine pm_lload_n C dX16_readsExports_81 rfl rfl ?_
        refine pm_l2i C dX16_readsExports_82 ?_
        refine pm_iload C dX16_readsExports_83 rfl ?_
        refine pm_iload C dX16_readsExports_85 rfl ?_
        refine pm_isub C dX16_readsExports_87 ?_
        obtain ⟨y45, e46, hf⟩ := pm_lt hf
        refine pm_topI e46 ?_
        obtain ⟨k47, hf⟩ := pm_if hf
        obtain ⟨u48, hf⟩ := pm_if hf
        refine pm_iast C dX16_readsExports_88 k47 u48 ?_
        refine pm_aload_n C dX16_readsExports_89 rfl rfl ?_
        refine pm_getR C dX16_readsExports_90 flX16_221 rfl k35 e37 ?_
        obtain ⟨v49, e50, hf⟩ := pm_bd hf
        refine pm_getR C dX16_readsExports_93 flX16_475 rfl k38 e50 ?_
        refine pm_lload_n C dX16_readsExports_96 rfl rfl ?_
        refine pm_l2i C dX16_readsExports_97 ?_
        refine pm_iload C dX16_readsExports_98 rfl ?_
        obtain ⟨k51, hf⟩ := pm_if hf
        obtain ⟨u52, hf⟩ := pm_if hf
        refine pm_iast C dX16_readsExports_100 k51 u52 ?_
        refine pm_aload_n C dX16_readsExports_101 rfl rfl ?_
        refine pm_getR C dX16_readsExports_102 flX16_221 rfl k35 e37 ?_
        obtain ⟨v53, e54, hf⟩ := pm_bd hf
        refine pm_getR C dX16_readsExports_105 flX16_478 rfl k38 e54 ?_
        refine pm_lload_n C dX16_readsExports_108 rfl rfl ?_
        refine pm_l2i C dX16_readsExports_109 ?_
        refine pm_lload C dX16_readsExports_110 rfl ?_
        obtain ⟨k55, hf⟩ := pm_if hf
        obtain ⟨u56, hf⟩ := pm_if hf
        refine pm_last C dX16_readsExports_112 k55 u56 ?_
        refine pm_lload_n C dX16_readsExports_113 rfl rfl ?_
        refine pm_lconst (v := 1) C dX16_readsExports_114 (by decide) ?_
        refine pm_ladd C dX16_readsExports_115 ?_
        obtain ⟨y57, e58, hf⟩ := pm_lt hf
        refine pm_topL e58 ?_
        refine pm_lstore_n (lv' := [(3, .long y57), (8, .long w30.1), (7, .int w25.1), (6, .int y21), (5, .int y19), (0, .ref x0), (1, .long x1)]) C dX16_readsExports_116 rfl (pt_nl X (by decide)) rfl ?_
        refine pm_goto (tgt := 19) C dX16_readsExports_117 (by decide) ?_
        cases hf
        exact pm_sub [5, 6, 0] rfl (ih x0 x1 y57 (pm_setL (pm_setI (pm_setI (pm_setI w30.2 v39 x3.toInt32.toNatClampNeg y19) v43 x3.toInt32.toNatClampNeg y45) v49 x3.toInt32.toNatClampNeg w25.1) v53 x3.toInt32.toNatClampNeg w30.1) hi)
set_option maxHeartbeats 4000000 in
set_option maxRecDepth 100000 in
theorem ctX16_readsExports {l : Launch} {G : pm_Gl} {h : pm_H} {a0 : Nat} {r : ((Nat × pm_H) ⊕ pm_H)} {Qr : Option Value → pm_H → Prop} {Qt : Nat → pm_H → Prop} (hf : fX16_readsExports h a0 = some r) (q : pt_eV Qr Qt r) : pm_Ctt l G mX16_readsExports [.ref a0] h 0 0 Qr Qt := by
  refine pm_bodyT pnX16 (Nat.le_of_ble_eq_true rfl) (fun g C X => ?_)
  have C : pm_C g cX16_readsExports RX16 := C
  show pm_G g 0 [(0, .ref a0)] [] h 0 0
  unfold fX16_readsExports at hf
  refine pm_aload_n C dX16_readsExports_0 rfl rfl ?_
  obtain ⟨k1, hf⟩ := pm_if hf
  obtain ⟨v2, e3, hf⟩ := pm_bd hf
  refine pt_callVT (as := []) (st := []) C X dX16_readsExports_1 ltX16_277 myX16_number viX16_number ⟨by decide, by decide⟩ rfl rfl k1 (Nat.le_of_ble_eq_true rfl) (Nat.le_refl _) (Nat.le_refl _) (ctX16_number e3 ?_)
  rcases v2 with z5 | w4
  · have hf := pt_kl hf
    cases hf
    exact q
  have hf := pt_kr hf
  show pm_G g 4 [(0, .ref a0)] [.long w4.1] w4.2 0 0
  refine pm_lstore_n (lv' := [(1, .long w4.1), (0, .ref a0)]) C dX16_readsExports_4 rfl (pt_nl X (by decide)) rfl ?_
  refine pm_aload_n C dX16_readsExports_5 rfl rfl ?_
  obtain ⟨k6, hf⟩ := pm_if hf
  obtain ⟨v7, e8, hf⟩ := pm_bd hf
  refine pm_getR C dX16_readsExports_6 flX16_221 rfl k6 e8 ?_
  refine pm_aload_n C dX16_readsExports_9 rfl rfl ?_
  refine pm_lload_n C dX16_readsExports_10 rfl rfl ?_
  obtain ⟨v9, e10, hf⟩ := pm_bd hf
  refine pt_callV (as := [.long w4.1]) (st := [.ref v7]) C X dX16_readsExports_11 lnX16_377 myX16_kept viX16_kept ⟨by decide, by decide⟩ rfl rfl k6 (Nat.le_of_ble_eq_true rfl) (Nat.le_refl _) (Nat.le_refl _) (ctX16_kept e10 ?_)
  show pm_G g 14 [(1, .long w4.1), (0, .ref a0)] [.int v9.1, .ref v7] v9.2 0 0
  obtain ⟨k11, hf⟩ := pm_if hf
  refine pm_putI C dX16_readsExports_14 flX16_466 rfl rfl k11 rfl rfl ?_
  refine pm_lconst (v := 0) C dX16_readsExports_17 (by decide) ?_
  refine pm_lstore_n (lv' := [(3, .long 0), (1, .long w4.1), (0, .ref a0)]) C dX16_readsExports_18 rfl (pt_nl X (by decide)) rfl ?_
  obtain ⟨n, hn⟩ := pm_lim_iter hf
  exact pm_sub [2, 1, 0] rfl ((lpX16_readsExports C X q n) a0 w4.1 0 (pm_setI v9.2 v7 28 v9.1) hn)
theorem dX16_readsImports_0 : decode cX16_readsImports 0 = .ok (.aload_n 0, 1) := by decide +kernel
theorem dX16_readsImports_1 : decode cX16_readsImports 1 = .ok (.invokevirtual 277, 3) := by decide +kernel
theorem dX16_readsImports_4 : decode cX16_readsImports 4 = .ok (.lstore_n 1, 1) := by decide +kernel
theorem dX16_readsImports_5 : decode cX16_readsImports 5 = .ok (.aload_n 0, 1) := by decide +kernel
theorem dX16_readsImports_6 : decode cX16_readsImports 6 = .ok (.getfield 221, 3) := by decide +kernel
theorem dX16_readsImports_9 : decode cX16_readsImports 9 = .ok (.aload_n 0, 1) := by decide +kernel
theorem dX16_readsImports_10 : decode cX16_readsImports 10 = .ok (.lload_n 1, 1) := by decide +kernel
theorem dX16_readsImports_11 : decode cX16_readsImports 11 = .ok (.invokevirtual 377, 3) := by decide +kernel
theorem dX16_readsImports_14 : decode cX16_readsImports 14 = .ok (.putfield 402, 3) := by decide +kernel
theorem dX16_readsImports_17 : decode cX16_readsImports 17 = .ok (.lconst 0, 1) := by decide +kernel
theorem dX16_readsImports_18 : decode cX16_readsImports 18 = .ok (.lstore_n 3, 1) := by decide +kernel
theorem dX16_readsImports_19 : decode cX16_readsImports 19 = .ok (.lload_n 3, 1) := by decide +kernel
theorem dX16_readsImports_20 : decode cX16_readsImports 20 = .ok (.lload_n 1, 1) := by decide +kernel
theorem dX16_readsImports_21 : decode cX16_readsImports 21 = .ok (.lcmp, 1) := by decide +kernel
theorem dX16_readsImports_22 : decode cX16_readsImports 22 = .ok (.ifCond .ge 186, 3) := by decide +kernel
theorem dX16_readsImports_25 : decode cX16_readsImports 25 = .ok (.aload_n 0, 1) := by decide +kernel
theorem dX16_readsImports_26 : decode cX16_readsImports 26 = .ok (.invokevirtual 324, 3) := by decide +kernel
theorem dX16_readsImports_29 : decode cX16_readsImports 29 = .ok (.aload_n 0, 1) := by decide +kernel
theorem dX16_readsImports_30 : decode cX16_readsImports 30 = .ok (.invokevirtual 324, 3) := by decide +kernel
theorem dX16_readsImports_33 : decode cX16_readsImports 33 = .ok (.aload_n 0, 1) := by decide +kernel
theorem dX16_readsImports_34 : decode cX16_readsImports 34 = .ok (.iconst 3, 1) := by decide +kernel
theorem dX16_readsImports_35 : decode cX16_readsImports 35 = .ok (.invokevirtual 393, 3) := by decide +kernel
theorem dX16_readsImports_38 : decode cX16_readsImports 38 = .ok (.istore 5, 2) := by decide +kernel
theorem dX16_readsImports_40 : decode cX16_readsImports 40 = .ok (.lconst 0, 1) := by decide +kernel
theorem dX16_readsImports_41 : decode cX16_readsImports 41 = .ok (.lstore 6, 2) := by decide +kernel
theorem dX16_readsImports_43 : decode cX16_readsImports 43 = .ok (.iconst 0, 1) := by decide +kernel
theorem dX16_readsImports_44 : decode cX16_readsImports 44 = .ok (.istore 8, 2) := by decide +kernel
theorem dX16_readsImports_46 : decode cX16_readsImports 46 = .ok (.aload_n 0, 1) := by decide +kernel
theorem dX16_readsImports_47 : decode cX16_readsImports 47 = .ok (.lconst 0, 1) := by decide +kernel
theorem dX16_readsImports_48 : decode cX16_readsImports 48 = .ok (.putfield 396, 3) := by decide +kernel
theorem dX16_readsImports_51 : decode cX16_readsImports 51 = .ok (.aload_n 0, 1) := by decide +kernel
theorem dX16_readsImports_52 : decode cX16_readsImports 52 = .ok (.ldc2_w 268, 3) := by decide +kernel
theorem dX16_readsImports_55 : decode cX16_readsImports 55 = .ok (.putfield 399, 3) := by decide +kernel
theorem dX16_readsImports_58 : decode cX16_readsImports 58 = .ok (.iload 5, 2) := by decide +kernel
theorem dX16_readsImports_60 : decode cX16_readsImports 60 = .ok (.ifCond .ne 12, 3) := by decide +kernel
theorem dX16_readsImports_63 : decode cX16_readsImports 63 = .ok (.aload_n 0, 1) := by decide +kernel
theorem dX16_readsImports_64 : decode cX16_readsImports 64 = .ok (.invokevirtual 277, 3) := by decide +kernel
theorem dX16_readsImports_67 : decode cX16_readsImports 67 = .ok (.lstore 6, 2) := by decide +kernel
theorem dX16_readsImports_69 : decode cX16_readsImports 69 = .ok (.goto 56, 3) := by decide +kernel
theorem dX16_readsImports_72 : decode cX16_readsImports 72 = .ok (.iload 5, 2) := by decide +kernel
theorem dX16_readsImports_74 : decode cX16_readsImports 74 = .ok (.iconst 3, 1) := by decide +kernel
theorem dX16_readsImports_75 : decode cX16_readsImports 75 = .ok (.if_icmp .ne 29, 3) := by decide +kernel
theorem dX16_readsImports_78 : decode cX16_readsImports 78 = .ok (.aload_n 0, 1) := by decide +kernel
theorem dX16_readsImports_79 : decode cX16_readsImports 79 = .ok (.invokevirtual 371, 3) := by decide +kernel
theorem dX16_readsImports_82 : decode cX16_readsImports 82 = .ok (.i2l, 1) := by decide +kernel
theorem dX16_readsImports_83 : decode cX16_readsImports 83 = .ok (.lstore 6, 2) := by decide +kernel
theorem dX16_readsImports_85 : decode cX16_readsImports 85 = .ok (.aload_n 0, 1) := by decide +kernel
theorem dX16_readsImports_86 : decode cX16_readsImports 86 = .ok (.iconst 1, 1) := by decide +kernel
theorem dX16_readsImports_87 : decode cX16_readsImports 87 = .ok (.invokevirtual 393, 3) := by decide +kernel
theorem dX16_readsImports_90 : decode cX16_readsImports 90 = .ok (.iconst 1, 1) := by decide +kernel
theorem dX16_readsImports_91 : decode cX16_readsImports 91 = .ok (.if_icmp .ne 7, 3) := by decide +kernel
theorem dX16_readsImports_94 : decode cX16_readsImports 94 = .ok (.iconst 1, 1) := by decide +kernel
theorem dX16_readsImports_95 : decode cX16_readsImports 95 = .ok (.goto 4, 3) := by decide +kernel
theorem dX16_readsImports_98 : decode cX16_readsImports 98 = .ok (.iconst 0, 1) := by decide +kernel
theorem dX16_readsImports_99 : decode cX16_readsImports 99 = .ok (.istore 8, 2) := by decide +kernel
theorem dX16_readsImports_101 : decode cX16_readsImports 101 = .ok (.goto 24, 3) := by decide +kernel
theorem dX16_readsImports_104 : decode cX16_readsImports 104 = .ok (.iload 5, 2) := by decide +kernel
theorem dX16_readsImports_106 : decode cX16_readsImports 106 = .ok (.iconst 1, 1) := by decide +kernel
theorem dX16_readsImports_107 : decode cX16_readsImports 107 = .ok (.if_icmp .ne 11, 3) := by decide +kernel
theorem dX16_readsImports_110 : decode cX16_readsImports 110 = .ok (.aload_n 0, 1) := by decide +kernel
theorem dX16_readsImports_111 : decode cX16_readsImports 111 = .ok (.invokevirtual 405, 3) := by decide +kernel
theorem dX16_readsImports_114 : decode cX16_readsImports 114 = .ok (.i2l, 1) := by decide +kernel
theorem dX16_readsImports_115 : decode cX16_readsImports 115 = .ok (.goto 4, 3) := by decide +kernel
theorem dX16_readsImports_118 : decode cX16_readsImports 118 = .ok (.lconst 0, 1) := by decide +kernel
theorem dX16_readsImports_119 : decode cX16_readsImports 119 = .ok (.lstore 6, 2) := by decide +kernel
theorem dX16_readsImports_121 : decode cX16_readsImports 121 = .ok (.aload_n 0, 1) := by decide +kernel
theorem dX16_readsImports_122 : decode cX16_readsImports 122 = .ok (.invokevirtual 408, 3) := by decide +kernel
theorem dX16_readsImports_125 : decode cX16_readsImports 125 = .ok (.lload_n 3, 1) := by decide +kernel
theorem dX16_readsImports_126 : decode cX16_readsImports 126 = .ok (.ldc2_w 363, 3) := by decide +kernel
theorem dX16_readsImports_129 : decode cX16_readsImports 129 = .ok (.lcmp, 1) := by decide +kernel
theorem dX16_readsImports_130 : decode cX16_readsImports 130 = .ok (.ifCond .ge 71, 3) := by decide +kernel
theorem dX16_readsImports_133 : decode cX16_readsImports 133 = .ok (.lload_n 3, 1) := by decide +kernel
theorem dX16_readsImports_134 : decode cX16_readsImports 134 = .ok (.l2i, 1) := by decide +kernel
theorem dX16_readsImports_135 : decode cX16_readsImports 135 = .ok (.istore 9, 2) := by decide +kernel
theorem dX16_readsImports_137 : decode cX16_readsImports 137 = .ok (.aload_n 0, 1) := by decide +kernel
theorem dX16_readsImports_138 : decode cX16_readsImports 138 = .ok (.getfield 221, 3) := by decide +kernel
theorem dX16_readsImports_141 : decode cX16_readsImports 141 = .ok (.getfield 411, 3) := by decide +kernel
theorem dX16_readsImports_144 : decode cX16_readsImports 144 = .ok (.iload 9, 2) := by decide +kernel
theorem dX16_readsImports_146 : decode cX16_readsImports 146 = .ok (.iload 5, 2) := by decide +kernel
theorem dX16_readsImports_148 : decode cX16_readsImports 148 = .ok (.iastore, 1) := by decide +kernel
theorem dX16_readsImports_149 : decode cX16_readsImports 149 = .ok (.aload_n 0, 1) := by decide +kernel
theorem dX16_readsImports_150 : decode cX16_readsImports 150 = .ok (.getfield 221, 3) := by decide +kernel
theorem dX16_readsImports_153 : decode cX16_readsImports 153 = .ok (.getfield 414, 3) := by decide +kernel
theorem dX16_readsImports_156 : decode cX16_readsImports 156 = .ok (.iload 9, 2) := by decide +kernel
theorem dX16_readsImports_158 : decode cX16_readsImports 158 = .ok (.lload 6, 2) := by decide +kernel
theorem dX16_readsImports_160 : decode cX16_readsImports 160 = .ok (.lastore, 1) := by decide +kernel
theorem dX16_readsImports_161 : decode cX16_readsImports 161 = .ok (.aload_n 0, 1) := by decide +kernel
theorem dX16_readsImports_162 : decode cX16_readsImports 162 = .ok (.getfield 221, 3) := by decide +kernel
theorem dX16_readsImports_165 : decode cX16_readsImports 165 = .ok (.getfield 417, 3) := by decide +kernel
theorem dX16_readsImports_168 : decode cX16_readsImports 168 = .ok (.iload 9, 2) := by decide +kernel
theorem dX16_readsImports_170 : decode cX16_readsImports 170 = .ok (.aload_n 0, 1) := by decide +kernel
theorem dX16_readsImports_171 : decode cX16_readsImports 171 = .ok (.getfield 396, 3) := by decide +kernel
theorem dX16_readsImports_174 : decode cX16_readsImports 174 = .ok (.lastore, 1) := by decide +kernel
theorem dX16_readsImports_175 : decode cX16_readsImports 175 = .ok (.aload_n 0, 1) := by decide +kernel
theorem dX16_readsImports_176 : decode cX16_readsImports 176 = .ok (.getfield 221, 3) := by decide +kernel
theorem dX16_readsImports_179 : decode cX16_readsImports 179 = .ok (.getfield 420, 3) := by decide +kernel
theorem dX16_readsImports_182 : decode cX16_readsImports 182 = .ok (.iload 9, 2) := by decide +kernel
theorem dX16_readsImports_184 : decode cX16_readsImports 184 = .ok (.aload_n 0, 1) := by decide +kernel
theorem dX16_readsImports_185 : decode cX16_readsImports 185 = .ok (.getfield 399, 3) := by decide +kernel
theorem dX16_readsImports_188 : decode cX16_readsImports 188 = .ok (.lastore, 1) := by decide +kernel
theorem dX16_readsImports_189 : decode cX16_readsImports 189 = .ok (.aload_n 0, 1) := by decide +kernel
theorem dX16_readsImports_190 : decode cX16_readsImports 190 = .ok (.getfield 221, 3) := by decide +kernel
theorem dX16_readsImports_193 : decode cX16_readsImports 193 = .ok (.getfield 423, 3) := by decide +kernel
theorem dX16_readsImports_196 : decode cX16_readsImports 196 = .ok (.iload 9, 2) := by decide +kernel
theorem dX16_readsImports_198 : decode cX16_readsImports 198 = .ok (.iload 8, 2) := by decide +kernel
theorem dX16_readsImports_200 : decode cX16_readsImports 200 = .ok (.bastore, 1) := by decide +kernel
theorem dX16_readsImports_201 : decode cX16_readsImports 201 = .ok (.lload_n 3, 1) := by decide +kernel
theorem dX16_readsImports_202 : decode cX16_readsImports 202 = .ok (.lconst 1, 1) := by decide +kernel
theorem dX16_readsImports_203 : decode cX16_readsImports 203 = .ok (.ladd, 1) := by decide +kernel
theorem dX16_readsImports_204 : decode cX16_readsImports 204 = .ok (.lstore_n 3, 1) := by decide +kernel
theorem dX16_readsImports_205 : decode cX16_readsImports 205 = .ok (.goto (-186), 3) := by decide +kernel
theorem dX16_readsImports_208 : decode cX16_readsImports 208 = .ok (.return_, 1) := by decide +kernel
noncomputable def tX16_readsImports_19 (x0 : Nat) (x1 : Int64) (x3 : Int64) (h : pm_H) : Option (((Nat × Int64 × Int64 × pm_H) ⊕ (Nat × Int64 × Int64 × Int32 × Int64 × Int32 × pm_H)) ⊕ ((Nat × pm_H) ⊕ pm_H)) := if x1 ≤ x3 then (some (.inr (.inr (h)))) else (if pm_kd h x0 = 16 then (fX16_name h x0).bind fun v14 => pt_s v14 fun w16 => if pm_kd w16 x0 = 16 then (fX16_name w16 x0).bind fun v19 => pt_s v19 fun w21 => if pm_kd w21 x0 = 16 then (fX16_small w21 x0 3).bind fun v24 => pt_s v24 fun w26 => if pm_kd w26.2 x0 = 16 then if w26.1 = 0 then ((fX16_number (pm_setL (pm_setL w26.2 x0 17 0) x0 18 (-1)) x0).bind fun v55 => pt_s v55 fun w57 => some (.inl (.inr ((x0, x1, x3, w26.1, w57.1, 0, w57.2))))) else (if w26.1 = 3 then ((fX16_type (pm_setL (pm_setL w26.2 x0 17 0) x0 18 (-1)) x0).bind fun v45 => pt_s v45 fun w47 => if pm_kd w47.2 x0 = 16 then (fX16_small w47.2 x0 1).bind fun v50 => pt_s v50 fun w52 => if w52.1 = 1 then (some (.inl (.inr ((x0, x1, x3, w26.1, w47.1.toInt64, 1, w52.2))))) else (some (.inl (.inr ((x0, x1, x3, w26.1, w47.1.toInt64, 0, w52.2))))) else none) else (if w26.1 = 1 then ((fX16_referenceType (pm_setL (pm_setL w26.2 x0 17 0) x0 18 (-1)) x0).bind fun v36 => pt_s v36 fun w38 => if pm_kd w38.2 x0 = 16 then (fX16_limits w38.2 x0).bind fun v41 => pt_s v41 fun w43 => some (.inl (.inr ((x0, x1, x3, w26.1, w38.1.toInt64, 0, w43)))) else none) else ((fX16_limits (pm_setL (pm_setL w26.2 x0 17 0) x0 18 (-1)) x0).bind fun v32 => pt_s v32 fun w34 => some (.inl (.inr ((x0, x1, x3, w26.1, 0, 0, w34))))))) else none else none else none else none)
noncomputable def tX16_readsImports_125 (x0 : Nat) (x1 : Int64) (x3 : Int64) (x5 : Int32) (x6 : Int64) (x8 : Int32) (h : pm_H) : Option (((Nat × Int64 × Int64 × pm_H) ⊕ (Nat × Int64 × Int64 × Int32 × Int64 × Int32 × pm_H)) ⊕ ((Nat × pm_H) ⊕ pm_H)) := if 64 ≤ x3 then (pm_let (x3 + 1) fun y60 => some (.inl (.inl ((x0, x1, y60, h))))) else (if pm_kd h x0 = 16 then (pm_R h x0 10).bind fun v63 => if pm_kd h v63 = 14 then (pm_R h v63 9).bind fun v66 => if pm_kd h v66 = 34 then if pm_in x3.toInt32 (pm_ln h v66) then (pm_R (pm_setI h v66 x3.toInt32.toNatClampNeg x5) v63 10).bind fun v70 => if pm_kd (pm_setI h v66 x3.toInt32.toNatClampNeg x5) v70 = 35 then if pm_in x3.toInt32 (pm_ln (pm_setI h v66 x3.toInt32.toNatClampNeg x5) v70) then (pm_R (pm_setL (pm_setI h v66 x3.toInt32.toNatClampNeg x5) v70 x3.toInt32.toNatClampNeg x6) v63 11).bind fun v74 => pm_let (pm_L (pm_setL (pm_setI h v66 x3.toInt32.toNatClampNeg x5) v70 x3.toInt32.toNatClampNeg x6) x0 17) fun y76 => if pm_kd (pm_setL (pm_setI h v66 x3.toInt32.toNatClampNeg x5) v70 x3.toInt32.toNatClampNeg x6) v74 = 35 then if pm_in x3.toInt32 (pm_ln (pm_setL (pm_setI h v66 x3.toInt32.toNatClampNeg x5) v70 x3.toInt32.toNatClampNeg x6) v74) then (pm_R (pm_setL (pm_setL (pm_setI h v66 x3.toInt32.toNatClampNeg x5) v70 x3.toInt32.toNatClampNeg x6) v74 x3.toInt32.toNatClampNeg y76) v63 12).bind fun v80 => pm_let (pm_L (pm_setL (pm_setL (pm_setI h v66 x3.toInt32.toNatClampNeg x5) v70 x3.toInt32.toNatClampNeg x6) v74 x3.toInt32.toNatClampNeg y76) x0 18) fun y82 => if pm_kd (pm_setL (pm_setL (pm_setI h v66 x3.toInt32.toNatClampNeg x5) v70 x3.toInt32.toNatClampNeg x6) v74 x3.toInt32.toNatClampNeg y76) v80 = 35 then if pm_in x3.toInt32 (pm_ln (pm_setL (pm_setL (pm_setI h v66 x3.toInt32.toNatClampNeg x5) v70 x3.toInt32.toNatClampNeg x6) v74 x3.toInt32.toNatClampNeg y76) v80) then (pm_R (pm_setL (pm_setL (pm_setL (pm_setI h v66 x3.toInt32.toNatClampNeg x5) v70 x3.toInt32.toNatClampNeg x6) v74 x3.toInt32.toNatClampNeg y76) v80 x3.toInt32.toNatClampNeg y82) v63 13).bind fun v86 => if pm_kd (pm_setL (pm_setL (pm_setL (pm_setI h v66 x3.toInt32.toNatClampNeg x5) v70 x3.toInt32.toNatClampNeg x6) v74 x3.toInt32.toNatClampNeg y76) v80 x3.toInt32.toNatClampNeg y82) v86 = 32 then if pm_in x3.toInt32 (pm_ln (pm_setL (pm_setL (pm_setL (pm_setI h v66 x3.toInt32.toNatClampNeg x5) v70 x3.toInt32.toNatClampNeg x6) v74 x3.toInt32.toNatClampNeg y76) v80 x3.toInt32.toNatClampNeg y82) v86) then pm_let (x3 + 1) fun y90 => some (.inl (.inl ((x0, x1, y90, pm_setI (pm_setL (pm_setL (pm_setL (pm_setI h v66 x3.toInt32.toNatClampNeg x5) v70 x3.toInt32.toNatClampNeg x6) v74 x3.toInt32.toNatClampNeg y76) v80 x3.toInt32.toNatClampNeg y82) v86 x3.toInt32.toNatClampNeg (vp_nar .boolean x8))))) else none else none else none else none else none else none else none else none else none else none else none else none)
noncomputable def sX16_readsImports : ((Nat × Int64 × Int64 × pm_H) ⊕ (Nat × Int64 × Int64 × Int32 × Int64 × Int32 × pm_H)) → Option (((Nat × Int64 × Int64 × pm_H) ⊕ (Nat × Int64 × Int64 × Int32 × Int64 × Int32 × pm_H)) ⊕ ((Nat × pm_H) ⊕ pm_H)) := fun z => match z with
  | .inl (x0, x1, x3, h) => tX16_readsImports_19 x0 x1 x3 h
  | .inr (x0, x1, x3, x5, x6, x8, h) => tX16_readsImports_125 x0 x1 x3 x5 x6 x8 h
noncomputable def fX16_readsImports (h : pm_H) (a0 : Nat) : Option ((Nat × pm_H) ⊕ pm_H) := if pm_kd h a0 = 16 then (fX16_number h a0).bind fun v2 => pt_k v2 fun w4 => if pm_kd w4.2 a0 = 16 then (pm_R w4.2 a0 10).bind fun v7 => (fX16_kept w4.2 a0 w4.1).bind fun v9 => if pm_kd v9.2 v7 = 14 then pm_lim sX16_readsImports (.inl ((a0, w4.1, 0, pm_setI v9.2 v7 8 v9.1))) else none else none else none
set_option maxHeartbeats 4000000 in
set_option maxRecDepth 100000 in
theorem lpX16_readsImports {g : pm_Gm} {l : Launch} {G : pm_Gl} {Qr : Option Value → pm_H → Prop} {Qt : Nat → pm_H → Prop} (C : pm_C g cX16_readsImports RX16) (X : pm_XT g l G mX16_readsImports 0 0 Qr Qt) {r : ((Nat × pm_H) ⊕ pm_H)} (q : pt_eV Qr Qt r) : ∀ n : Nat, (∀ (x0 : Nat) (x1 : Int64) (x3 : Int64) (h : pm_H), pm_iter sX16_readsImports n (.inl (x0, x1, x3, h)) = some r → pm_G g 19 [(0, .ref x0), (1, .long x1), (3, .long x3)] [] h 0 0) ∧ (∀ (x0 : Nat) (x1 : Int64) (x3 : Int64) (x5 : Int32) (x6 : Int64) (x8 : Int32) (h : pm_H), pm_iter sX16_readsImports n (.inr (x0, x1, x3, x5, x6, x8, h)) = some r → pm_G g 125 [(0, .ref x0), (1, .long x1), (3, .long x3), (5, .int x5), (6, .long x6), (8, .int x8)] [] h 0 0) := by
  intro n
  induction n with
  | zero => exact ⟨fun _ _ _ _ hf => (by cases hf), fun _ _ _ _ _ _ _ hf => (by cases hf)⟩
  | succ n ih =>
    refine ⟨fun x0 x1 x3 h hf => ?_, ?_⟩
    · obtain ⟨y, hf, hi⟩ := pm_iter_s hf
      have hf : tX16_readsImports_19 x0 x1 x3 h = some y := hf
      unfold tX16_readsImports_19 at hf
      refine pm_lload_n C dX16_readsImports_19 rfl rfl ?_
      refine pm_lload_n C dX16_readsImports_20 rfl rfl ?_
      refine pm_lcmp C dX16_readsImports_21 ?_
      refine pm_if_ge (tgt := 208) C dX16_readsImports_22 (by decide) (fun c12 => ?_) (fun c12 => ?_)
      · have hf := pm_it hf ((pm_lg_ge _ _).mp c12)
        cases hf
        cases hi
        exact pt_vret C X dX16_readsImports_208 rfl (Nat.le_refl _) (Nat.le_refl _) q
      · have hf := pm_ie hf ((fun z => c12 ((pm_lg_ge _ _).mpr z)))
        refine pm_aload_n C dX16_readsImports_25 rfl rfl ?_
        obtain ⟨k13, hf⟩ := pm_if hf
        obtain ⟨v14, e15, hf⟩ := pm_bd hf
        refine pt_callVT (as := []) (st := []) C X dX16_readsImports_26 ltX16_324 myX16_name viX16_name ⟨by decide, by decide⟩ rfl rfl k13 (Nat.le_of_ble_eq_true rfl) (Nat.le_refl _) (Nat.le_refl _) (ctX16_name e15 ?_)
        rcases v14 with z17 | w16
        · have hf := pt_sl hf
          cases hf
          cases hi
          exact q
        have hf := pt_sr hf
        show pm_G g 29 [(0, .ref x0), (1, .long x1), (3, .long x3)] [] w16 0 0
        refine pm_aload_n C dX16_readsImports_29 rfl rfl ?_
        obtain ⟨k18, hf⟩ := pm_if hf
        obtain ⟨v19, e20, hf⟩ := pm_bd hf
        refine pt_callVT (as := []) (st := []) C X dX16_readsImports_30 ltX16_324 myX16_name viX16_name ⟨by decide, by decide⟩ rfl rfl k18 (Nat.le_of_ble_eq_true rfl) (Nat.le_refl _) (Nat.le_refl _) (ctX16_name e20 ?_)
        rcases v19 with z22 | w21
        · have hf := pt_sl hf
          cases hf
          cases hi
          exact q
        have hf := pt_sr hf
        show pm_G g 33 [(0, .ref x0), (1, .long x1), (3, .long x3)] [] w21 0 0
        refine pm_aload_n C dX16_readsImports_33 rfl rfl ?_
        refine pm_iconst (v := 3) C dX16_readsImports_34 (by decide) ?_
        obtain ⟨k23, hf⟩ := pm_if hf
        obtain ⟨v24, e25, hf⟩ := pm_bd hf
        refine pt_callVT (as := [.int 3]) (st := []) C X dX16_readsImports_35 ltX16_393 myX16_small viX16_small ⟨by decide, by decide⟩ rfl rfl k23 (Nat.le_of_ble_eq_true rfl) (Nat.le_refl _) (Nat.le_refl _) (ctX16_small e25 ?_)
        rcases v24 with z27 | w26
        · have hf := pt_sl hf
          cases hf
          cases hi
          exact q
        have hf := pt_sr hf
        show pm_G g 38 [(0, .ref x0), (1, .long x1), (3, .long x3)] [.int w26.1] w26.2 0 0
        refine pm_istore (lv' := [(5, .int w26.1), (0, .ref x0), (1, .long x1), (3, .long x3)]) C dX16_readsImports_38 (pt_nl X (by decide)) rfl ?_
        refine pm_lconst (v := 0) C dX16_readsImports_40 (by decide) ?_
        refine pm_lstore (lv' := [(6, .long 0), (5, .int w26.1), (0, .ref x0), (1, .long x1), (3, .long x3)]) C dX16_readsImports_41 (pt_nl X (by decide)) rfl ?_
        refine pm_iconst (v := 0) C dX16_readsImports_43 (by decide) ?_
        refine pm_istore (lv' := [(8, .int 0), (6, .long 0), (5, .int w26.1), (0, .ref x0), (1, .long x1), (3, .long x3)]) C dX16_readsImports_44 (pt_nl X (by decide)) rfl ?_
        refine pm_aload_n C dX16_readsImports_46 rfl rfl ?_
        refine pm_lconst (v := 0) C dX16_readsImports_47 (by decide) ?_
        obtain ⟨k28, hf⟩ := pm_if hf
        refine pm_putL C dX16_readsImports_48 flX16_396 rfl rfl k28 ?_
        refine pm_aload_n C dX16_readsImports_51 rfl rfl ?_
        refine pm_ldc2 C dX16_readsImports_52 cnX16_268 ?_
        refine pm_putL C dX16_readsImports_55 flX16_399 rfl rfl k28 ?_
        refine pm_iload C dX16_readsImports_58 rfl ?_
        refine pm_if_ne (tgt := 72) C dX16_readsImports_60 (by decide) (fun c29 => ?_) (fun c29 => ?_)
        · have hf := pm_ie hf c29
          refine pm_iload C dX16_readsImports_72 rfl ?_
          refine pm_iconst (v := 3) C dX16_readsImports_74 (by decide) ?_
          refine pm_icmp_ne (tgt := 104) C dX16_readsImports_75 (by decide) (fun c30 => ?_) (fun c30 => ?_)
          · have hf := pm_ie hf c30
            refine pm_iload C dX16_readsImports_104 rfl ?_
            refine pm_iconst (v := 1) C dX16_readsImports_106 (by decide) ?_
            refine pm_icmp_ne (tgt := 118) C dX16_readsImports_107 (by decide) (fun c31 => ?_) (fun c31 => ?_)
            · have hf := pm_ie hf c31
              refine pm_lconst (v := 0) C dX16_readsImports_118 (by decide) ?_
              refine pm_lstore (lv' := [(6, .long 0), (8, .int 0), (5, .int w26.1), (0, .ref x0), (1, .long x1), (3, .long x3)]) C dX16_readsImports_119 (pt_nl X (by decide)) rfl ?_
              refine pm_aload_n C dX16_readsImports_121 rfl rfl ?_
              obtain ⟨v32, e33, hf⟩ := pm_bd hf
              refine pt_callVT (as := []) (st := []) C X dX16_readsImports_122 ltX16_408 myX16_limits viX16_limits ⟨by decide, by decide⟩ rfl rfl k28 (Nat.le_of_ble_eq_true rfl) (Nat.le_refl _) (Nat.le_refl _) (ctX16_limits e33 ?_)
              rcases v32 with z35 | w34
              · have hf := pt_sl hf
                cases hf
                cases hi
                exact q
              have hf := pt_sr hf
              show pm_G g 125 [(6, .long 0), (8, .int 0), (5, .int w26.1), (0, .ref x0), (1, .long x1), (3, .long x3)] [] w34 0 0
              cases hf
              exact pm_sub [3, 4, 5, 2, 0, 1] rfl (ih.2 x0 x1 x3 w26.1 0 0 w34 hi)
            · have hf := pm_it hf c31
              refine pm_aload_n C dX16_readsImports_110 rfl rfl ?_
              obtain ⟨v36, e37, hf⟩ := pm_bd hf
              refine pt_callVT (as := []) (st := []) C X dX16_readsImports_111 ltX16_405 myX16_referenceType viX16_referenceType ⟨by decide, by decide⟩ rfl rfl k28 (Nat.le_of_ble_eq_true rfl) (Nat.le_refl _) (Nat.le_refl _) (ctX16_referenceType e37 ?_)
              rcases v36 with z39 | w38
              · have hf := pt_sl hf
                cases hf
                cases hi
                exact q
              have hf := pt_sr hf
              show pm_G g 114 [(8, .int 0), (6, .long 0), (5, .int w26.1), (0, .ref x0), (1, .long x1), (3, .long x3)] [.int w38.1] w38.2 0 0
              refine pm_i2l C dX16_readsImports_114 ?_
              refine pm_goto (tgt := 119) C dX16_readsImports_115 (by decide) ?_
              refine pm_lstore (lv' := [(6, .long w38.1.toInt64), (8, .int 0), (5, .int w26.1), (0, .ref x0), (1, .long x1), (3, .long x3)]) C dX16_readsImports_119 (pt_nl X (by decide)) rfl ?_
              refine pm_aload_n C dX16_readsImports_121 rfl rfl ?_
              obtain ⟨k40, hf⟩ := pm_if hf
              obtain ⟨v41, e42, hf⟩ := pm_bd hf
              refine pt_callVT (as := []) (st := []) C X dX16_readsImports_122 ltX16_408 myX16_limits viX16_limits ⟨by decide, by decide⟩ rfl rfl k40 (Nat.le_of_ble_eq_true rfl) (Nat.le_refl _) (Nat.le_refl _) (ctX16_limits e42 ?_)
              rcases v41 with z44 | w43
              · have hf := pt_sl hf
                cases hf
                cases hi
                exact q
              have hf := pt_sr hf
              show pm_G g 125 [(6, .long w38.1.toInt64), (8, .int 0), (5, .int w26.1), (0, .ref x0), (1, .long x1), (3, .long x3)] [] w43 0 0
              cases hf
              exact pm_sub [3, 4, 5, 2, 0, 1] rfl (ih.2 x0 x1 x3 w26.1 w38.1.toInt64 0 w43 hi)
          · have hf := pm_it hf c30
            refine pm_aload_n C dX16_readsImports_78 rfl rfl ?_
            obtain ⟨v45, e46, hf⟩ := pm_bd hf
            refine pt_callVT (as := []) (st := []) C X dX16_readsImports_79 ltX16_371 myX16_type viX16_type ⟨by decide, by decide⟩ rfl rfl k28 (Nat.le_of_ble_eq_true rfl) (Nat.le_refl _) (Nat.le_refl _) (ctX16_type e46 ?_)
            rcases v45 with z48 | w47
            · have hf := pt_sl hf
              cases hf
              cases hi
              exact q
            have hf := pt_sr hf
            show pm_G g 82 [(8, .int 0), (6, .long 0), (5, .int w26.1), (0, .ref x0), (1, .long x1), (3, .long x3)] [.int w47.1] w47.2 0 0
            refine pm_i2l C dX16_readsImports_82 ?_
            refine pm_lstore (lv' := [(6, .long w47.1.toInt64), (8, .int 0), (5, .int w26.1), (0, .ref x0), (1, .long x1), (3, .long x3)]) C dX16_readsImports_83 (pt_nl X (by decide)) rfl ?_
            refine pm_aload_n C dX16_readsImports_85 rfl rfl ?_
            refine pm_iconst (v := 1) C dX16_readsImports_86 (by decide) ?_
            obtain ⟨k49, hf⟩ := pm_if hf
            obtain ⟨v50, e51, hf⟩ := pm_bd hf
            refine pt_callVT (as := [.int 1]) (st := []) C X dX16_readsImports_87 ltX16_393 myX16_small viX16_small ⟨by decide, by decide⟩ rfl rfl k49 (Nat.le_of_ble_eq_true rfl) (Nat.le_refl _) (Nat.le_refl _) (ctX16_small e51 ?_)
            rcases v50 with z53 | w52
            · have hf := pt_sl hf
              cases hf
              cases hi
              exact q
            have hf := pt_sr hf
            show pm_G g 90 [(6, .long w47.1.toInt64), (8, .int 0), (5, .int w26.1), (0, .ref x0), (1, .long x1), (3, .long x3)] [.int w52.1] w52.2 0 0
            refine pm_iconst (v := 1) C dX16_readsImports_90 (by decide) ?_
            refine pm_icmp_ne (tgt := 98) C dX16_readsImports_91 (by decide) (fun c54 => ?_) (fun c54 => ?_)
            · have hf := pm_ie hf c54
              refine pm_iconst (v := 0) C dX16_readsImports_98 (by decide) ?_
              refine pm_istore (lv' := [(8, .int 0), (6, .long w47.1.toInt64), (5, .int w26.1), (0, .ref x0), (1, .long x1), (3, .long x3)]) C dX16_readsImports_99 (pt_nl X (by decide)) rfl ?_
              refine pm_goto (tgt := 125) C dX16_readsImports_101 (by decide) ?_
              cases hf
              exact pm_sub [3, 4, 5, 2, 1, 0] rfl (ih.2 x0 x1 x3 w26.1 w47.1.toInt64 0 w52.2 hi)
            · have hf := pm_it hf c54
              refine pm_iconst (v := 1) C dX16_readsImports_94 (by decide) ?_
              refine pm_goto (tgt := 99) C dX16_readsImports_95 (by decide) ?_
              refine pm_istore (lv' := [(8, .int 1), (6, .long w47.1.toInt64), (5, .int w26.1), (0, .ref x0), (1, .long x1), (3, .long x3)]) C dX16_readsImports_99 (pt_nl X (by decide)) rfl ?_
              refine pm_goto (tgt := 125) C dX16_readsImports_101 (by decide) ?_
              cases hf
              exact pm_sub [3, 4, 5, 2, 1, 0] rfl (ih.2 x0 x1 x3 w26.1 w47.1.toInt64 1 w52.2 hi)
        · have hf := pm_it hf c29
          refine pm_aload_n C dX16_readsImports_63 rfl rfl ?_
          obtain ⟨v55, e56, hf⟩ := pm_bd hf
          refine pt_callVT (as := []) (st := []) C X dX16_readsImports_64 ltX16_277 myX16_number viX16_number ⟨by decide, by decide⟩ rfl rfl k28 (Nat.le_of_ble_eq_true rfl) (Nat.le_refl _) (Nat.le_refl _) (ctX16_number e56 ?_)
          rcases v55 with z58 | w57
          · have hf := pt_sl hf
            cases hf
            cases hi
            exact q
          have hf := pt_sr hf
          show pm_G g 67 [(8, .int 0), (6, .long 0), (5, .int w26.1), (0, .ref x0), (1, .long x1), (3, .long x3)] [.long w57.1] w57.2 0 0
          refine pm_lstore (lv' := [(6, .long w57.1), (8, .int 0), (5, .int w26.1), (0, .ref x0), (1, .long x1), (3, .long x3)]) C dX16_readsImports_67 (pt_nl X (by decide)) rfl ?_
          refine pm_goto (tgt := 125) C dX16_readsImports_69 (by decide) ?_
          cases hf
          exact pm_sub [3, 4, 5, 2, 0, 1] rfl (ih.2 x0 x1 x3 w26.1 w57.1 0 w57.2 hi)
    refine fun x0 x1 x3 x5 x6 x8 h hf => ?_
    obtain ⟨y, hf, hi⟩ := pm_iter_s hf
    have hf : tX16_readsImports_125 x0 x1 x3 x5 x6 x8 h = some y := hf
    unfold tX16_readsImports_125 at hf
    refine pm_lload_n C dX16_readsImports_125 rfl rfl ?_
    refine pm_ldc2 C dX16_readsImports_126 cnX16_363 ?_
    refine pm_lcmp C dX16_readsImports_129 ?_
    refine pm_if_ge (tgt := 201) C dX16_readsImports_130 (by decide) (fun c59 => ?_) (fun c59 => ?_)
    · have hf := pm_it hf ((pm_lg_ge _ _).mp c59)
      refine pm_lload_n C dX16_readsImports_201 rfl rfl ?_
      refine pm_lconst (v := 1) C dX16_readsImports_202 (by decide) ?_
      refine pm_ladd C dX16_readsImports_203 ?_
      obtain ⟨y60, e61, hf⟩ := pm_lt hf
      refine pm_topL e61 ?_
      refine pm_lstore_n (lv' := [(3, .long y60), (0, .ref x0), (1, .long x1), (5, .int x5), (6, .long x6), (8, .int x8)]) C dX16_readsImports_204 rfl (pt_nl X (by decide)) rfl ?_
      refine pm_goto (tgt := 19) C dX16_readsImports_205 (by decide) ?_
      cases hf
      exact pm_sub [1, 2, 0] rfl (ih.1 x0 x1 y60 h hi)
    · have hf := pm_ie hf ((fun z => c59 ((pm_lg_ge _ _).mpr z)))
      refine pm_lload_n C dX16_readsImports_133 rfl rfl ?_
      refine pm_l2i C dX16_readsImports_134 ?_
      refine pm_istore (lv' := [(9, .int x3.toInt32), (0, .ref x0), (1, .long x1), (3, .long x3), (5, .int x5), (6, .long x6), (8, .int x8)]) C dX16_readsImports_135 (pt_nl X (by decide)) rfl ?_
      refine pm_aload_n C dX16_readsImports_137 rfl rfl ?_
      obtain ⟨k62, hf⟩ := pm_if hf
      obtain ⟨v63, e64, hf⟩ := pm_bd hf
      refine pm_getR C dX16_readsImports_138 flX16_221 rfl k62 e64 ?_
      obtain ⟨k65, hf⟩ := pm_if hf
      obtain ⟨v66, e67, hf⟩ := pm_bd hf
      refine pm_getR C dX16_readsImports_141 flX16_411 rfl k65 e67 ?_
      refine pm_iload C dX16_readsImports_144 rfl ?_
      refine pm_iload C dX16_readsImports_146 rfl ?_
      obtain ⟨k68, hf⟩ := pm_if hf
      obtain ⟨u69, hf⟩ := pm_if hf
      refine pm_iast C dX16_readsImports_148 k68 u69 ?_
      refine pm_aload_n C dX16_readsImports_149 rfl rfl ?_
      refine pm_getR C dX16_readsImports_150 flX16_221 rfl k62 e64 ?_
      obtain ⟨v70, e71, hf⟩ := pm_bd hf
      refine pm_getR C dX16_readsImports_153 flX16_414 rfl k65 e71 ?_
      refine pm_iload C dX16_readsImports_156 rfl ?_
      refine pm_lload C dX16_readsImports_158 rfl ?_
      obtain ⟨k72, hf⟩ := pm_if hf
      obtain ⟨u73, hf⟩ := pm_if hf
      refine pm_last C dX16_readsImports_160 k72 u73 ?_
      refine pm_aload_n C dX16_readsImports_161 rfl rfl ?_
      refine pm_getR C dX16_readsImports_162 flX16_221 rfl k62 e64 ?_
      obtain ⟨v74, e75, hf⟩ := pm_bd hf
      refine pm_getR C dX16_readsImports_165 flX16_417 rfl k65 e75 ?_
      refine pm_iload C dX16_readsImports_168 rfl ?_
      refine pm_aload_n C dX16_readsImports_170 rfl rfl ?_
      refine pm_getL C dX16_readsImports_171 flX16_396 rfl k62 rfl ?_
      obtain ⟨y76, e77, hf⟩ := pm_lt hf
      refine pm_topL e77 ?_
      obtain ⟨k78, hf⟩ := pm_if hf
      obtain ⟨u79, hf⟩ := pm_if hf
      refine pm_last C dX16_readsImports_174 k78 u79 ?_
      refine pm_aload_n C dX16_readsImports_175 rfl rfl ?_
      refine pm_getR C dX16_readsImports_176 flX16_221 rfl k62 e64 ?_
      obtain ⟨v80, e81, hf⟩ := pm_bd hf
      refine pm_getR C dX16_readsImports_179 flX16_420 rfl k65 e81 ?_
      refine pm_iload C dX16_readsImports_182 rfl ?_
      refine pm_aload_n C dX16_readsImports_184 rfl rfl ?_
      refine pm_getL C dX16_readsImports_185 flX16_399 rfl k62 rfl ?_
      obtain ⟨y82, e83, hf⟩ := pm_lt hf
      refine pm_topL e83 ?_
      obtain ⟨k84, hf⟩ := pm_if hf
      obtain ⟨u85, hf⟩ := pm_if hf
      refine pm_last C dX16_readsImports_188 k84 u85 ?_
      refine pm_aload_n C dX16_readsImports_189 rfl rfl ?_
      refine pm_getR C dX16_readsImports_190 flX16_221 rfl k62 e64 ?_
      obtain ⟨v86, e87, hf⟩ := pm_bd hf
      refine pm_getR C dX16_readsImports_193 flX16_423 rfl k65 e87 ?_
      refine pm_iload C dX16_readsImports_196 rfl ?_
      refine pm_iload C dX16_readsImports_198 rfl ?_
      obtain ⟨k88, hf⟩ := pm_if hf
      obtain ⟨u89, hf⟩ := pm_if hf
      refine pm_zast C dX16_readsImports_200 k88 u89 ?_
      refine pm_lload_n C dX16_readsImports_201 rfl rfl ?_
      refine pm_lconst (v := 1) C dX16_readsImports_202 (by decide) ?_
      refine pm_ladd C dX16_readsImports_203 ?_
      obtain ⟨y90, e91, hf⟩ := pm_lt hf
      refine pm_topL e91 ?_
      refine pm_lstore_n (lv' := [(3, .long y90), (9, .int x3.toInt32), (0, .ref x0), (1, .long x1), (5, .int x5), (6, .long x6), (8, .int x8)]) C dX16_readsImports_204 rfl (pt_nl X (by decide)) rfl ?_
      refine pm_goto (tgt := 19) C dX16_readsImports_205 (by decide) ?_
      cases hf
      exact pm_sub [2, 3, 0] rfl (ih.1 x0 x1 y90 (pm_setI (pm_setL (pm_setL (pm_setL (pm_setI h v66 x3.toInt32.toNatClampNeg x5) v70 x3.toInt32.toNatClampNeg x6) v74 x3.toInt32.toNatClampNeg y76) v80 x3.toInt32.toNatClampNeg y82) v86 x3.toInt32.toNatClampNeg (vp_nar .boolean x8)) hi)
set_option maxHeartbeats 4000000 in
set_option maxRecDepth 100000 in
theorem ctX16_readsImports {l : Launch} {G : pm_Gl} {h : pm_H} {a0 : Nat} {r : ((Nat × pm_H) ⊕ pm_H)} {Qr : Option Value → pm_H → Prop} {Qt : Nat → pm_H → Prop} (hf : fX16_readsImports h a0 = some r) (q : pt_eV Qr Qt r) : pm_Ctt l G mX16_readsImports [.ref a0] h 0 0 Qr Qt := by
  refine pm_bodyT pnX16 (Nat.le_of_ble_eq_true rfl) (fun g C X => ?_)
  have C : pm_C g cX16_readsImports RX16 := C
  show pm_G g 0 [(0, .ref a0)] [] h 0 0
  unfold fX16_readsImports at hf
  refine pm_aload_n C dX16_readsImports_0 rfl rfl ?_
  obtain ⟨k1, hf⟩ := pm_if hf
  obtain ⟨v2, e3, hf⟩ := pm_bd hf
  refine pt_callVT (as := []) (st := []) C X dX16_readsImports_1 ltX16_277 myX16_number viX16_number ⟨by decide, by decide⟩ rfl rfl k1 (Nat.le_of_ble_eq_true rfl) (Nat.le_refl _) (Nat.le_refl _) (ctX16_number e3 ?_)
  rcases v2 with z5 | w4
  · have hf := pt_kl hf
    cases hf
    exact q
  have hf := pt_kr hf
  show pm_G g 4 [(0, .ref a0)] [.long w4.1] w4.2 0 0
  refine pm_lstore_n (lv' := [(1, .long w4.1), (0, .ref a0)]) C dX16_readsImports_4 rfl (pt_nl X (by decide)) rfl ?_
  refine pm_aload_n C dX16_readsImports_5 rfl rfl ?_
  obtain ⟨k6, hf⟩ := pm_if hf
  obtain ⟨v7, e8, hf⟩ := pm_bd hf
  refine pm_getR C dX16_readsImports_6 flX16_221 rfl k6 e8 ?_
  refine pm_aload_n C dX16_readsImports_9 rfl rfl ?_
  refine pm_lload_n C dX16_readsImports_10 rfl rfl ?_
  obtain ⟨v9, e10, hf⟩ := pm_bd hf
  refine pt_callV (as := [.long w4.1]) (st := [.ref v7]) C X dX16_readsImports_11 lnX16_377 myX16_kept viX16_kept ⟨by decide, by decide⟩ rfl rfl k6 (Nat.le_of_ble_eq_true rfl) (Nat.le_refl _) (Nat.le_refl _) (ctX16_kept e10 ?_)
  show pm_G g 14 [(1, .long w4.1), (0, .ref a0)] [.int v9.1, .ref v7] v9.2 0 0
  obtain ⟨k11, hf⟩ := pm_if hf
  refine pm_putI C dX16_readsImports_14 flX16_402 rfl rfl k11 rfl rfl ?_
  refine pm_lconst (v := 0) C dX16_readsImports_17 (by decide) ?_
  refine pm_lstore_n (lv' := [(3, .long 0), (1, .long w4.1), (0, .ref a0)]) C dX16_readsImports_18 rfl (pt_nl X (by decide)) rfl ?_
  obtain ⟨n, hn⟩ := pm_lim_iter hf
  exact pm_sub [2, 1, 0] rfl ((lpX16_readsImports C X q n).1 a0 w4.1 0 (pm_setI v9.2 v7 8 v9.1) hn)
