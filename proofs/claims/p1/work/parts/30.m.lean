theorem dX16_rounded_0 : decode cX16_rounded 0 = .ok (.iload_n 0, 1) := by decide +kernel
theorem dX16_rounded_1 : decode cX16_rounded 1 = .ok (.iconst 2, 1) := by decide +kernel
theorem dX16_rounded_2 : decode cX16_rounded 2 = .ok (.if_icmp .ne 8, 3) := by decide +kernel
theorem dX16_rounded_5 : decode cX16_rounded 5 = .ok (.bipush 24, 2) := by decide +kernel
theorem dX16_rounded_7 : decode cX16_rounded 7 = .ok (.goto 5, 3) := by decide +kernel
theorem dX16_rounded_10 : decode cX16_rounded 10 = .ok (.bipush 53, 2) := by decide +kernel
theorem dX16_rounded_12 : decode cX16_rounded 12 = .ok (.istore 8, 2) := by decide +kernel
theorem dX16_rounded_14 : decode cX16_rounded 14 = .ok (.iload_n 0, 1) := by decide +kernel
theorem dX16_rounded_15 : decode cX16_rounded 15 = .ok (.iconst 2, 1) := by decide +kernel
theorem dX16_rounded_16 : decode cX16_rounded 16 = .ok (.if_icmp .ne 9, 3) := by decide +kernel
theorem dX16_rounded_19 : decode cX16_rounded 19 = .ok (.sipush (-149), 3) := by decide +kernel
theorem dX16_rounded_22 : decode cX16_rounded 22 = .ok (.goto 6, 3) := by decide +kernel
theorem dX16_rounded_25 : decode cX16_rounded 25 = .ok (.sipush (-1074), 3) := by decide +kernel
theorem dX16_rounded_28 : decode cX16_rounded 28 = .ok (.istore 9, 2) := by decide +kernel
theorem dX16_rounded_30 : decode cX16_rounded 30 = .ok (.iload 6, 2) := by decide +kernel
theorem dX16_rounded_32 : decode cX16_rounded 32 = .ok (.lload_n 2, 1) := by decide +kernel
theorem dX16_rounded_33 : decode cX16_rounded 33 = .ok (.lload 4, 2) := by decide +kernel
theorem dX16_rounded_35 : decode cX16_rounded 35 = .ok (.invokestatic 878, 3) := by decide +kernel
theorem dX16_rounded_38 : decode cX16_rounded 38 = .ok (.iadd, 1) := by decide +kernel
theorem dX16_rounded_39 : decode cX16_rounded 39 = .ok (.iload 8, 2) := by decide +kernel
theorem dX16_rounded_41 : decode cX16_rounded 41 = .ok (.isub, 1) := by decide +kernel
theorem dX16_rounded_42 : decode cX16_rounded 42 = .ok (.istore 10, 2) := by decide +kernel
theorem dX16_rounded_44 : decode cX16_rounded 44 = .ok (.iload 10, 2) := by decide +kernel
theorem dX16_rounded_46 : decode cX16_rounded 46 = .ok (.iload 9, 2) := by decide +kernel
theorem dX16_rounded_48 : decode cX16_rounded 48 = .ok (.if_icmp .ge 8, 3) := by decide +kernel
theorem dX16_rounded_51 : decode cX16_rounded 51 = .ok (.iload 9, 2) := by decide +kernel
theorem dX16_rounded_53 : decode cX16_rounded 53 = .ok (.goto 5, 3) := by decide +kernel
theorem dX16_rounded_56 : decode cX16_rounded 56 = .ok (.iload 10, 2) := by decide +kernel
theorem dX16_rounded_58 : decode cX16_rounded 58 = .ok (.istore 10, 2) := by decide +kernel
theorem dX16_rounded_60 : decode cX16_rounded 60 = .ok (.lload_n 2, 1) := by decide +kernel
theorem dX16_rounded_61 : decode cX16_rounded 61 = .ok (.lstore 11, 2) := by decide +kernel
theorem dX16_rounded_63 : decode cX16_rounded 63 = .ok (.iload 10, 2) := by decide +kernel
theorem dX16_rounded_65 : decode cX16_rounded 65 = .ok (.iload 6, 2) := by decide +kernel
theorem dX16_rounded_67 : decode cX16_rounded 67 = .ok (.if_icmp .le 8, 3) := by decide +kernel
theorem dX16_rounded_70 : decode cX16_rounded 70 = .ok (.lload 4, 2) := by decide +kernel
theorem dX16_rounded_72 : decode cX16_rounded 72 = .ok (.goto 11, 3) := by decide +kernel
theorem dX16_rounded_75 : decode cX16_rounded 75 = .ok (.lload 4, 2) := by decide +kernel
theorem dX16_rounded_77 : decode cX16_rounded 77 = .ok (.iload 6, 2) := by decide +kernel
theorem dX16_rounded_79 : decode cX16_rounded 79 = .ok (.iload 10, 2) := by decide +kernel
theorem dX16_rounded_81 : decode cX16_rounded 81 = .ok (.isub, 1) := by decide +kernel
theorem dX16_rounded_82 : decode cX16_rounded 82 = .ok (.lshl, 1) := by decide +kernel
theorem dX16_rounded_83 : decode cX16_rounded 83 = .ok (.lstore 13, 2) := by decide +kernel
theorem dX16_rounded_85 : decode cX16_rounded 85 = .ok (.iconst 0, 1) := by decide +kernel
theorem dX16_rounded_86 : decode cX16_rounded 86 = .ok (.istore 15, 2) := by decide +kernel
theorem dX16_rounded_88 : decode cX16_rounded 88 = .ok (.iload 7, 2) := by decide +kernel
theorem dX16_rounded_90 : decode cX16_rounded 90 = .ok (.istore 16, 2) := by decide +kernel
theorem dX16_rounded_92 : decode cX16_rounded 92 = .ok (.iload 6, 2) := by decide +kernel
theorem dX16_rounded_94 : decode cX16_rounded 94 = .ok (.istore 17, 2) := by decide +kernel
theorem dX16_rounded_96 : decode cX16_rounded 96 = .ok (.iload 17, 2) := by decide +kernel
theorem dX16_rounded_98 : decode cX16_rounded 98 = .ok (.iload 10, 2) := by decide +kernel
theorem dX16_rounded_100 : decode cX16_rounded 100 = .ok (.if_icmp .ge 79, 3) := by decide +kernel
theorem dX16_rounded_103 : decode cX16_rounded 103 = .ok (.lload 11, 2) := by decide +kernel
theorem dX16_rounded_105 : decode cX16_rounded 105 = .ok (.lconst 0, 1) := by decide +kernel
theorem dX16_rounded_106 : decode cX16_rounded 106 = .ok (.lcmp, 1) := by decide +kernel
theorem dX16_rounded_107 : decode cX16_rounded 107 = .ok (.ifCond .ne 15, 3) := by decide +kernel
theorem dX16_rounded_110 : decode cX16_rounded 110 = .ok (.lload 13, 2) := by decide +kernel
theorem dX16_rounded_112 : decode cX16_rounded 112 = .ok (.lconst 0, 1) := by decide +kernel
theorem dX16_rounded_113 : decode cX16_rounded 113 = .ok (.lcmp, 1) := by decide +kernel
theorem dX16_rounded_114 : decode cX16_rounded 114 = .ok (.ifCond .ne 8, 3) := by decide +kernel
theorem dX16_rounded_117 : decode cX16_rounded 117 = .ok (.iload 15, 2) := by decide +kernel
theorem dX16_rounded_119 : decode cX16_rounded 119 = .ok (.ifCond .eq 60, 3) := by decide +kernel
theorem dX16_rounded_122 : decode cX16_rounded 122 = .ok (.iload 16, 2) := by decide +kernel
theorem dX16_rounded_124 : decode cX16_rounded 124 = .ok (.ifCond .ne 8, 3) := by decide +kernel
theorem dX16_rounded_127 : decode cX16_rounded 127 = .ok (.iload 15, 2) := by decide +kernel
theorem dX16_rounded_129 : decode cX16_rounded 129 = .ok (.ifCond .eq 7, 3) := by decide +kernel
theorem dX16_rounded_132 : decode cX16_rounded 132 = .ok (.iconst 1, 1) := by decide +kernel
theorem dX16_rounded_133 : decode cX16_rounded 133 = .ok (.goto 4, 3) := by decide +kernel
theorem dX16_rounded_136 : decode cX16_rounded 136 = .ok (.iconst 0, 1) := by decide +kernel
theorem dX16_rounded_137 : decode cX16_rounded 137 = .ok (.istore 16, 2) := by decide +kernel
theorem dX16_rounded_139 : decode cX16_rounded 139 = .ok (.lload 13, 2) := by decide +kernel
theorem dX16_rounded_141 : decode cX16_rounded 141 = .ok (.lconst 1, 1) := by decide +kernel
theorem dX16_rounded_142 : decode cX16_rounded 142 = .ok (.land, 1) := by decide +kernel
theorem dX16_rounded_143 : decode cX16_rounded 143 = .ok (.lconst 1, 1) := by decide +kernel
theorem dX16_rounded_144 : decode cX16_rounded 144 = .ok (.lcmp, 1) := by decide +kernel
theorem dX16_rounded_145 : decode cX16_rounded 145 = .ok (.ifCond .ne 7, 3) := by decide +kernel
theorem dX16_rounded_148 : decode cX16_rounded 148 = .ok (.iconst 1, 1) := by decide +kernel
theorem dX16_rounded_149 : decode cX16_rounded 149 = .ok (.goto 4, 3) := by decide +kernel
theorem dX16_rounded_152 : decode cX16_rounded 152 = .ok (.iconst 0, 1) := by decide +kernel
theorem dX16_rounded_153 : decode cX16_rounded 153 = .ok (.istore 15, 2) := by decide +kernel
theorem dX16_rounded_155 : decode cX16_rounded 155 = .ok (.lload 13, 2) := by decide +kernel
theorem dX16_rounded_157 : decode cX16_rounded 157 = .ok (.iconst 1, 1) := by decide +kernel
theorem dX16_rounded_158 : decode cX16_rounded 158 = .ok (.lushr, 1) := by decide +kernel
theorem dX16_rounded_159 : decode cX16_rounded 159 = .ok (.lload 11, 2) := by decide +kernel
theorem dX16_rounded_161 : decode cX16_rounded 161 = .ok (.bipush 63, 2) := by decide +kernel
theorem dX16_rounded_163 : decode cX16_rounded 163 = .ok (.lshl, 1) := by decide +kernel
theorem dX16_rounded_164 : decode cX16_rounded 164 = .ok (.lor, 1) := by decide +kernel
theorem dX16_rounded_165 : decode cX16_rounded 165 = .ok (.lstore 13, 2) := by decide +kernel
theorem dX16_rounded_167 : decode cX16_rounded 167 = .ok (.lload 11, 2) := by decide +kernel
theorem dX16_rounded_169 : decode cX16_rounded 169 = .ok (.iconst 1, 1) := by decide +kernel
theorem dX16_rounded_170 : decode cX16_rounded 170 = .ok (.lushr, 1) := by decide +kernel
theorem dX16_rounded_171 : decode cX16_rounded 171 = .ok (.lstore 11, 2) := by decide +kernel
theorem dX16_rounded_173 : decode cX16_rounded 173 = .ok (.iinc 17 1, 3) := by decide +kernel
theorem dX16_rounded_176 : decode cX16_rounded 176 = .ok (.goto (-80), 3) := by decide +kernel
theorem dX16_rounded_179 : decode cX16_rounded 179 = .ok (.iload 15, 2) := by decide +kernel
theorem dX16_rounded_181 : decode cX16_rounded 181 = .ok (.ifCond .eq 23, 3) := by decide +kernel
theorem dX16_rounded_184 : decode cX16_rounded 184 = .ok (.iload 16, 2) := by decide +kernel
theorem dX16_rounded_186 : decode cX16_rounded 186 = .ok (.ifCond .ne 12, 3) := by decide +kernel
theorem dX16_rounded_189 : decode cX16_rounded 189 = .ok (.lload 13, 2) := by decide +kernel
theorem dX16_rounded_191 : decode cX16_rounded 191 = .ok (.lconst 1, 1) := by decide +kernel
theorem dX16_rounded_192 : decode cX16_rounded 192 = .ok (.land, 1) := by decide +kernel
theorem dX16_rounded_193 : decode cX16_rounded 193 = .ok (.lconst 1, 1) := by decide +kernel
theorem dX16_rounded_194 : decode cX16_rounded 194 = .ok (.lcmp, 1) := by decide +kernel
theorem dX16_rounded_195 : decode cX16_rounded 195 = .ok (.ifCond .ne 9, 3) := by decide +kernel
theorem dX16_rounded_198 : decode cX16_rounded 198 = .ok (.lload 13, 2) := by decide +kernel
theorem dX16_rounded_200 : decode cX16_rounded 200 = .ok (.lconst 1, 1) := by decide +kernel
theorem dX16_rounded_201 : decode cX16_rounded 201 = .ok (.ladd, 1) := by decide +kernel
theorem dX16_rounded_202 : decode cX16_rounded 202 = .ok (.lstore 13, 2) := by decide +kernel
theorem dX16_rounded_204 : decode cX16_rounded 204 = .ok (.lload 13, 2) := by decide +kernel
theorem dX16_rounded_206 : decode cX16_rounded 206 = .ok (.iload 8, 2) := by decide +kernel
theorem dX16_rounded_208 : decode cX16_rounded 208 = .ok (.lshr, 1) := by decide +kernel
theorem dX16_rounded_209 : decode cX16_rounded 209 = .ok (.lconst 0, 1) := by decide +kernel
theorem dX16_rounded_210 : decode cX16_rounded 210 = .ok (.lcmp, 1) := by decide +kernel
theorem dX16_rounded_211 : decode cX16_rounded 211 = .ok (.ifCond .eq 12, 3) := by decide +kernel
theorem dX16_rounded_214 : decode cX16_rounded 214 = .ok (.lload 13, 2) := by decide +kernel
theorem dX16_rounded_216 : decode cX16_rounded 216 = .ok (.iconst 1, 1) := by decide +kernel
theorem dX16_rounded_217 : decode cX16_rounded 217 = .ok (.lshr, 1) := by decide +kernel
theorem dX16_rounded_218 : decode cX16_rounded 218 = .ok (.lstore 13, 2) := by decide +kernel
theorem dX16_rounded_220 : decode cX16_rounded 220 = .ok (.iinc 10 1, 3) := by decide +kernel
theorem dX16_rounded_223 : decode cX16_rounded 223 = .ok (.lload 13, 2) := by decide +kernel
theorem dX16_rounded_225 : decode cX16_rounded 225 = .ok (.lconst 1, 1) := by decide +kernel
theorem dX16_rounded_226 : decode cX16_rounded 226 = .ok (.iload 8, 2) := by decide +kernel
theorem dX16_rounded_228 : decode cX16_rounded 228 = .ok (.iconst 1, 1) := by decide +kernel
theorem dX16_rounded_229 : decode cX16_rounded 229 = .ok (.isub, 1) := by decide +kernel
theorem dX16_rounded_230 : decode cX16_rounded 230 = .ok (.lshl, 1) := by decide +kernel
theorem dX16_rounded_231 : decode cX16_rounded 231 = .ok (.lcmp, 1) := by decide +kernel
theorem dX16_rounded_232 : decode cX16_rounded 232 = .ok (.ifCond .ge 11, 3) := by decide +kernel
theorem dX16_rounded_235 : decode cX16_rounded 235 = .ok (.iload_n 0, 1) := by decide +kernel
theorem dX16_rounded_236 : decode cX16_rounded 236 = .ok (.iload_n 1, 1) := by decide +kernel
theorem dX16_rounded_237 : decode cX16_rounded 237 = .ok (.lload 13, 2) := by decide +kernel
theorem dX16_rounded_239 : decode cX16_rounded 239 = .ok (.invokestatic 882, 3) := by decide +kernel
theorem dX16_rounded_242 : decode cX16_rounded 242 = .ok (.lreturn, 1) := by decide +kernel
theorem dX16_rounded_243 : decode cX16_rounded 243 = .ok (.iload 10, 2) := by decide +kernel
theorem dX16_rounded_245 : decode cX16_rounded 245 = .ok (.iload 9, 2) := by decide +kernel
theorem dX16_rounded_247 : decode cX16_rounded 247 = .ok (.isub, 1) := by decide +kernel
theorem dX16_rounded_248 : decode cX16_rounded 248 = .ok (.i2l, 1) := by decide +kernel
theorem dX16_rounded_249 : decode cX16_rounded 249 = .ok (.lconst 1, 1) := by decide +kernel
theorem dX16_rounded_250 : decode cX16_rounded 250 = .ok (.ladd, 1) := by decide +kernel
theorem dX16_rounded_251 : decode cX16_rounded 251 = .ok (.lstore 17, 2) := by decide +kernel
theorem dX16_rounded_253 : decode cX16_rounded 253 = .ok (.iload_n 0, 1) := by decide +kernel
theorem dX16_rounded_254 : decode cX16_rounded 254 = .ok (.iload_n 1, 1) := by decide +kernel
theorem dX16_rounded_255 : decode cX16_rounded 255 = .ok (.lload 17, 2) := by decide +kernel
theorem dX16_rounded_257 : decode cX16_rounded 257 = .ok (.iload_n 0, 1) := by decide +kernel
theorem dX16_rounded_258 : decode cX16_rounded 258 = .ok (.iconst 2, 1) := by decide +kernel
theorem dX16_rounded_259 : decode cX16_rounded 259 = .ok (.if_icmp .ne 9, 3) := by decide +kernel
theorem dX16_rounded_262 : decode cX16_rounded 262 = .ok (.ldc2_w 297, 3) := by decide +kernel
theorem dX16_rounded_265 : decode cX16_rounded 265 = .ok (.goto 6, 3) := by decide +kernel
theorem dX16_rounded_268 : decode cX16_rounded 268 = .ok (.ldc2_w 886, 3) := by decide +kernel
theorem dX16_rounded_271 : decode cX16_rounded 271 = .ok (.lcmp, 1) := by decide +kernel
theorem dX16_rounded_272 : decode cX16_rounded 272 = .ok (.ifCond .lt 10, 3) := by decide +kernel
theorem dX16_rounded_275 : decode cX16_rounded 275 = .ok (.iload_n 0, 1) := by decide +kernel
theorem dX16_rounded_276 : decode cX16_rounded 276 = .ok (.invokestatic 888, 3) := by decide +kernel
theorem dX16_rounded_279 : decode cX16_rounded 279 = .ok (.goto 20, 3) := by decide +kernel
theorem dX16_rounded_282 : decode cX16_rounded 282 = .ok (.lload 17, 2) := by decide +kernel
theorem dX16_rounded_284 : decode cX16_rounded 284 = .ok (.iload 8, 2) := by decide +kernel
theorem dX16_rounded_286 : decode cX16_rounded 286 = .ok (.iconst 1, 1) := by decide +kernel
theorem dX16_rounded_287 : decode cX16_rounded 287 = .ok (.isub, 1) := by decide +kernel
theorem dX16_rounded_288 : decode cX16_rounded 288 = .ok (.lshl, 1) := by decide +kernel
theorem dX16_rounded_289 : decode cX16_rounded 289 = .ok (.lload 13, 2) := by decide +kernel
theorem dX16_rounded_291 : decode cX16_rounded 291 = .ok (.lconst 1, 1) := by decide +kernel
theorem dX16_rounded_292 : decode cX16_rounded 292 = .ok (.iload 8, 2) := by decide +kernel
theorem dX16_rounded_294 : decode cX16_rounded 294 = .ok (.iconst 1, 1) := by decide +kernel
theorem dX16_rounded_295 : decode cX16_rounded 295 = .ok (.isub, 1) := by decide +kernel
theorem dX16_rounded_296 : decode cX16_rounded 296 = .ok (.lshl, 1) := by decide +kernel
theorem dX16_rounded_297 : decode cX16_rounded 297 = .ok (.lsub, 1) := by decide +kernel
theorem dX16_rounded_298 : decode cX16_rounded 298 = .ok (.ladd, 1) := by decide +kernel
theorem dX16_rounded_299 : decode cX16_rounded 299 = .ok (.invokestatic 882, 3) := by decide +kernel
theorem dX16_rounded_302 : decode cX16_rounded 302 = .ok (.lreturn, 1) := by decide +kernel
noncomputable def tX16_rounded_12 (x0 : Int32) (x1 : Int32) (x2 : Int64) (x4 : Int64) (x6 : Int32) (x7 : Int32) (s0 : Int32) : Option (((Int32 × Int32 × Int64 × Int64 × Int32 × Int32 × Int32) ⊕ (Int32 × Int32 × Int64 × Int64 × Int32 × Int32 × Int32 × Int32) ⊕ (Int32 × Int32 × Int64 × Int64 × Int32 × Int32 × Int32 × Int32 × Int32) ⊕ (Int32 × Int32 × Int32 × Int32 × Int32 × Int64 × Int64 × Int32 × Int32 × Int32) ⊕ (Int32 × Int32 × Int32 × Int32 × Int32 × Int64 × Int32 × Int32) ⊕ (Int32 × Int32 × Int32 × Int32 × Int32 × Int64 × Int64 × Int32 × Int32 × Int32) ⊕ (Int32 × Int32 × Int32 × Int32 × Int32 × Int64) ⊕ (Int32 × Int32 × Int32 × Int32 × Int32 × Int64 × Int64 × Int32) ⊕ (Int32 × Int32 × Int32 × Int32 × Int32 × Int64 × Int64 × Int32 × Int32) ⊕ (Int32 × Int32 × Int32 × Int32 × Int32 × Int64)) ⊕ Int64) := if x0 = 2 then (some (.inl (.inr (.inl ((x0, x1, x2, x4, x6, x7, s0, (-149))))))) else (some (.inl (.inr (.inl ((x0, x1, x2, x4, x6, x7, s0, (-1074)))))))
noncomputable def tX16_rounded_28 (x0 : Int32) (x1 : Int32) (x2 : Int64) (x4 : Int64) (x6 : Int32) (x7 : Int32) (x8 : Int32) (s0 : Int32) : Option (((Int32 × Int32 × Int64 × Int64 × Int32 × Int32 × Int32) ⊕ (Int32 × Int32 × Int64 × Int64 × Int32 × Int32 × Int32 × Int32) ⊕ (Int32 × Int32 × Int64 × Int64 × Int32 × Int32 × Int32 × Int32 × Int32) ⊕ (Int32 × Int32 × Int32 × Int32 × Int32 × Int64 × Int64 × Int32 × Int32 × Int32) ⊕ (Int32 × Int32 × Int32 × Int32 × Int32 × Int64 × Int32 × Int32) ⊕ (Int32 × Int32 × Int32 × Int32 × Int32 × Int64 × Int64 × Int32 × Int32 × Int32) ⊕ (Int32 × Int32 × Int32 × Int32 × Int32 × Int64) ⊕ (Int32 × Int32 × Int32 × Int32 × Int32 × Int64 × Int64 × Int32) ⊕ (Int32 × Int32 × Int32 × Int32 × Int32 × Int64 × Int64 × Int32 × Int32) ⊕ (Int32 × Int32 × Int32 × Int32 × Int32 × Int64)) ⊕ Int64) := (fX16_length x2 x4).bind fun v3 => pm_let ((x6 + v3) - x8) fun y5 => if s0 ≤ y5 then (some (.inl (.inr (.inr (.inl ((x0, x1, x2, x4, x6, x7, x8, s0, y5))))))) else (some (.inl (.inr (.inr (.inl ((x0, x1, x2, x4, x6, x7, x8, s0, s0)))))))
noncomputable def tX16_rounded_58 (x0 : Int32) (x1 : Int32) (x2 : Int64) (x4 : Int64) (x6 : Int32) (x7 : Int32) (x8 : Int32) (x9 : Int32) (s0 : Int32) : Option (((Int32 × Int32 × Int64 × Int64 × Int32 × Int32 × Int32) ⊕ (Int32 × Int32 × Int64 × Int64 × Int32 × Int32 × Int32 × Int32) ⊕ (Int32 × Int32 × Int64 × Int64 × Int32 × Int32 × Int32 × Int32 × Int32) ⊕ (Int32 × Int32 × Int32 × Int32 × Int32 × Int64 × Int64 × Int32 × Int32 × Int32) ⊕ (Int32 × Int32 × Int32 × Int32 × Int32 × Int64 × Int32 × Int32) ⊕ (Int32 × Int32 × Int32 × Int32 × Int32 × Int64 × Int64 × Int32 × Int32 × Int32) ⊕ (Int32 × Int32 × Int32 × Int32 × Int32 × Int64) ⊕ (Int32 × Int32 × Int32 × Int32 × Int32 × Int64 × Int64 × Int32) ⊕ (Int32 × Int32 × Int32 × Int32 × Int32 × Int64 × Int64 × Int32 × Int32) ⊕ (Int32 × Int32 × Int32 × Int32 × Int32 × Int64)) ⊕ Int64) := if s0 ≤ x6 then (pm_let (x4 <<< ((x6 - s0).toInt64 &&& 63)) fun y9 => some (.inl (.inr (.inr (.inr (.inl ((x0, x1, x8, x9, s0, x2, y9, 0, x7, x6)))))))) else (some (.inl (.inr (.inr (.inr (.inl ((x0, x1, x8, x9, s0, x2, x4, 0, x7, x6))))))))
noncomputable def tX16_rounded_96 (x0 : Int32) (x1 : Int32) (x8 : Int32) (x9 : Int32) (x10 : Int32) (x11 : Int64) (x13 : Int64) (x15 : Int32) (x16 : Int32) (x17 : Int32) : Option (((Int32 × Int32 × Int64 × Int64 × Int32 × Int32 × Int32) ⊕ (Int32 × Int32 × Int64 × Int64 × Int32 × Int32 × Int32 × Int32) ⊕ (Int32 × Int32 × Int64 × Int64 × Int32 × Int32 × Int32 × Int32 × Int32) ⊕ (Int32 × Int32 × Int32 × Int32 × Int32 × Int64 × Int64 × Int32 × Int32 × Int32) ⊕ (Int32 × Int32 × Int32 × Int32 × Int32 × Int64 × Int32 × Int32) ⊕ (Int32 × Int32 × Int32 × Int32 × Int32 × Int64 × Int64 × Int32 × Int32 × Int32) ⊕ (Int32 × Int32 × Int32 × Int32 × Int32 × Int64) ⊕ (Int32 × Int32 × Int32 × Int32 × Int32 × Int64 × Int64 × Int32) ⊕ (Int32 × Int32 × Int32 × Int32 × Int32 × Int64 × Int64 × Int32 × Int32) ⊕ (Int32 × Int32 × Int32 × Int32 × Int32 × Int64)) ⊕ Int64) := if x10 ≤ x17 then (some (.inl (.inr (.inr (.inr (.inr (.inl ((x0, x1, x8, x9, x10, x13, x15, x16))))))))) else (if x11 = 0 then (if x13 = 0 then (if x15 = 0 then (some (.inl (.inr (.inr (.inr (.inr (.inl ((x0, x1, x8, x9, x10, x13, x15, x16))))))))) else (some (.inl (.inr (.inr (.inr (.inr (.inr (.inl ((x0, x1, x8, x9, x10, x11, x13, x15, x16, x17))))))))))) else (some (.inl (.inr (.inr (.inr (.inr (.inr (.inl ((x0, x1, x8, x9, x10, x11, x13, x15, x16, x17))))))))))) else (some (.inl (.inr (.inr (.inr (.inr (.inr (.inl ((x0, x1, x8, x9, x10, x11, x13, x15, x16, x17)))))))))))
noncomputable def tX16_rounded_179 (x0 : Int32) (x1 : Int32) (x8 : Int32) (x9 : Int32) (x10 : Int32) (x13 : Int64) (x15 : Int32) (x16 : Int32) : Option (((Int32 × Int32 × Int64 × Int64 × Int32 × Int32 × Int32) ⊕ (Int32 × Int32 × Int64 × Int64 × Int32 × Int32 × Int32 × Int32) ⊕ (Int32 × Int32 × Int64 × Int64 × Int32 × Int32 × Int32 × Int32 × Int32) ⊕ (Int32 × Int32 × Int32 × Int32 × Int32 × Int64 × Int64 × Int32 × Int32 × Int32) ⊕ (Int32 × Int32 × Int32 × Int32 × Int32 × Int64 × Int32 × Int32) ⊕ (Int32 × Int32 × Int32 × Int32 × Int32 × Int64 × Int64 × Int32 × Int32 × Int32) ⊕ (Int32 × Int32 × Int32 × Int32 × Int32 × Int64) ⊕ (Int32 × Int32 × Int32 × Int32 × Int32 × Int64 × Int64 × Int32) ⊕ (Int32 × Int32 × Int32 × Int32 × Int32 × Int64 × Int64 × Int32 × Int32) ⊕ (Int32 × Int32 × Int32 × Int32 × Int32 × Int64)) ⊕ Int64) := if x15 = 0 then (some (.inl (.inr (.inr (.inr (.inr (.inr (.inr (.inl ((x0, x1, x8, x9, x10, x13))))))))))) else (if x16 = 0 then (if (x13 &&& 1) = 1 then (pm_let (x13 + 1) fun y20 => some (.inl (.inr (.inr (.inr (.inr (.inr (.inr (.inl ((x0, x1, x8, x9, x10, y20))))))))))) else (some (.inl (.inr (.inr (.inr (.inr (.inr (.inr (.inl ((x0, x1, x8, x9, x10, x13)))))))))))) else (pm_let (x13 + 1) fun y17 => some (.inl (.inr (.inr (.inr (.inr (.inr (.inr (.inl ((x0, x1, x8, x9, x10, y17))))))))))))
noncomputable def tX16_rounded_122 (x0 : Int32) (x1 : Int32) (x8 : Int32) (x9 : Int32) (x10 : Int32) (x11 : Int64) (x13 : Int64) (x15 : Int32) (x16 : Int32) (x17 : Int32) : Option (((Int32 × Int32 × Int64 × Int64 × Int32 × Int32 × Int32) ⊕ (Int32 × Int32 × Int64 × Int64 × Int32 × Int32 × Int32 × Int32) ⊕ (Int32 × Int32 × Int64 × Int64 × Int32 × Int32 × Int32 × Int32 × Int32) ⊕ (Int32 × Int32 × Int32 × Int32 × Int32 × Int64 × Int64 × Int32 × Int32 × Int32) ⊕ (Int32 × Int32 × Int32 × Int32 × Int32 × Int64 × Int32 × Int32) ⊕ (Int32 × Int32 × Int32 × Int32 × Int32 × Int64 × Int64 × Int32 × Int32 × Int32) ⊕ (Int32 × Int32 × Int32 × Int32 × Int32 × Int64) ⊕ (Int32 × Int32 × Int32 × Int32 × Int32 × Int64 × Int64 × Int32) ⊕ (Int32 × Int32 × Int32 × Int32 × Int32 × Int64 × Int64 × Int32 × Int32) ⊕ (Int32 × Int32 × Int32 × Int32 × Int32 × Int64)) ⊕ Int64) := if x16 = 0 then (if x15 = 0 then (some (.inl (.inr (.inr (.inr (.inr (.inr (.inr (.inr (.inr (.inl ((x0, x1, x8, x9, x10, x11, x13, x17, 0))))))))))))) else (some (.inl (.inr (.inr (.inr (.inr (.inr (.inr (.inr (.inl ((x0, x1, x8, x9, x10, x11, x13, x17))))))))))))) else (some (.inl (.inr (.inr (.inr (.inr (.inr (.inr (.inr (.inl ((x0, x1, x8, x9, x10, x11, x13, x17))))))))))))
noncomputable def tX16_rounded_204 (x0 : Int32) (x1 : Int32) (x8 : Int32) (x9 : Int32) (x10 : Int32) (x13 : Int64) : Option (((Int32 × Int32 × Int64 × Int64 × Int32 × Int32 × Int32) ⊕ (Int32 × Int32 × Int64 × Int64 × Int32 × Int32 × Int32 × Int32) ⊕ (Int32 × Int32 × Int64 × Int64 × Int32 × Int32 × Int32 × Int32 × Int32) ⊕ (Int32 × Int32 × Int32 × Int32 × Int32 × Int64 × Int64 × Int32 × Int32 × Int32) ⊕ (Int32 × Int32 × Int32 × Int32 × Int32 × Int64 × Int32 × Int32) ⊕ (Int32 × Int32 × Int32 × Int32 × Int32 × Int64 × Int64 × Int32 × Int32 × Int32) ⊕ (Int32 × Int32 × Int32 × Int32 × Int32 × Int64) ⊕ (Int32 × Int32 × Int32 × Int32 × Int32 × Int64 × Int64 × Int32) ⊕ (Int32 × Int32 × Int32 × Int32 × Int32 × Int64 × Int64 × Int32 × Int32) ⊕ (Int32 × Int32 × Int32 × Int32 × Int32 × Int64)) ⊕ Int64) := if (x13 >>> (x8.toInt64 &&& 63)) = 0 then (some (.inl (.inr (.inr (.inr (.inr (.inr (.inr (.inr (.inr (.inr ((x0, x1, x8, x9, x10, x13))))))))))))) else (pm_let (x13 >>> ((1 : Int32).toInt64 &&& 63)) fun y25 => pm_let (x10 + 1) fun y27 => some (.inl (.inr (.inr (.inr (.inr (.inr (.inr (.inr (.inr (.inr ((x0, x1, x8, x9, y27, y25)))))))))))))
noncomputable def tX16_rounded_132 (x0 : Int32) (x1 : Int32) (x8 : Int32) (x9 : Int32) (x10 : Int32) (x11 : Int64) (x13 : Int64) (x17 : Int32) : Option (((Int32 × Int32 × Int64 × Int64 × Int32 × Int32 × Int32) ⊕ (Int32 × Int32 × Int64 × Int64 × Int32 × Int32 × Int32 × Int32) ⊕ (Int32 × Int32 × Int64 × Int64 × Int32 × Int32 × Int32 × Int32 × Int32) ⊕ (Int32 × Int32 × Int32 × Int32 × Int32 × Int64 × Int64 × Int32 × Int32 × Int32) ⊕ (Int32 × Int32 × Int32 × Int32 × Int32 × Int64 × Int32 × Int32) ⊕ (Int32 × Int32 × Int32 × Int32 × Int32 × Int64 × Int64 × Int32 × Int32 × Int32) ⊕ (Int32 × Int32 × Int32 × Int32 × Int32 × Int64) ⊕ (Int32 × Int32 × Int32 × Int32 × Int32 × Int64 × Int64 × Int32) ⊕ (Int32 × Int32 × Int32 × Int32 × Int32 × Int64 × Int64 × Int32 × Int32) ⊕ (Int32 × Int32 × Int32 × Int32 × Int32 × Int64)) ⊕ Int64) := some (.inl (.inr (.inr (.inr (.inr (.inr (.inr (.inr (.inr (.inl ((x0, x1, x8, x9, x10, x11, x13, x17, 1))))))))))))
noncomputable def tX16_rounded_137 (x0 : Int32) (x1 : Int32) (x8 : Int32) (x9 : Int32) (x10 : Int32) (x11 : Int64) (x13 : Int64) (x17 : Int32) (s0 : Int32) : Option (((Int32 × Int32 × Int64 × Int64 × Int32 × Int32 × Int32) ⊕ (Int32 × Int32 × Int64 × Int64 × Int32 × Int32 × Int32 × Int32) ⊕ (Int32 × Int32 × Int64 × Int64 × Int32 × Int32 × Int32 × Int32 × Int32) ⊕ (Int32 × Int32 × Int32 × Int32 × Int32 × Int64 × Int64 × Int32 × Int32 × Int32) ⊕ (Int32 × Int32 × Int32 × Int32 × Int32 × Int64 × Int32 × Int32) ⊕ (Int32 × Int32 × Int32 × Int32 × Int32 × Int64 × Int64 × Int32 × Int32 × Int32) ⊕ (Int32 × Int32 × Int32 × Int32 × Int32 × Int64) ⊕ (Int32 × Int32 × Int32 × Int32 × Int32 × Int64 × Int64 × Int32) ⊕ (Int32 × Int32 × Int32 × Int32 × Int32 × Int64 × Int64 × Int32 × Int32) ⊕ (Int32 × Int32 × Int32 × Int32 × Int32 × Int64)) ⊕ Int64) := if (x13 &&& 1) = 1 then (pm_let (((x13.toUInt64 >>> ((1 : Int32).toInt64.toUInt64 &&& Int64.toUInt64 63)).toInt64) ||| (x11 <<< ((63 : Int32).toInt64 &&& 63))) fun y36 => pm_let ((x11.toUInt64 >>> ((1 : Int32).toInt64.toUInt64 &&& Int64.toUInt64 63)).toInt64) fun y38 => pm_let (x17 + 1) fun y40 => some (.inl (.inr (.inr (.inr (.inl ((x0, x1, x8, x9, x10, y38, y36, 1, s0, y40)))))))) else (pm_let (((x13.toUInt64 >>> ((1 : Int32).toInt64.toUInt64 &&& Int64.toUInt64 63)).toInt64) ||| (x11 <<< ((63 : Int32).toInt64 &&& 63))) fun y30 => pm_let ((x11.toUInt64 >>> ((1 : Int32).toInt64.toUInt64 &&& Int64.toUInt64 63)).toInt64) fun y32 => pm_let (x17 + 1) fun y34 => some (.inl (.inr (.inr (.inr (.inl ((x0, x1, x8, x9, x10, y32, y30, 0, s0, y34))))))))
noncomputable def tX16_rounded_223 (x0 : Int32) (x1 : Int32) (x8 : Int32) (x9 : Int32) (x10 : Int32) (x13 : Int64) : Option (((Int32 × Int32 × Int64 × Int64 × Int32 × Int32 × Int32) ⊕ (Int32 × Int32 × Int64 × Int64 × Int32 × Int32 × Int32 × Int32) ⊕ (Int32 × Int32 × Int64 × Int64 × Int32 × Int32 × Int32 × Int32 × Int32) ⊕ (Int32 × Int32 × Int32 × Int32 × Int32 × Int64 × Int64 × Int32 × Int32 × Int32) ⊕ (Int32 × Int32 × Int32 × Int32 × Int32 × Int64 × Int32 × Int32) ⊕ (Int32 × Int32 × Int32 × Int32 × Int32 × Int64 × Int64 × Int32 × Int32 × Int32) ⊕ (Int32 × Int32 × Int32 × Int32 × Int32 × Int64) ⊕ (Int32 × Int32 × Int32 × Int32 × Int32 × Int64 × Int64 × Int32) ⊕ (Int32 × Int32 × Int32 × Int32 × Int32 × Int64 × Int64 × Int32 × Int32) ⊕ (Int32 × Int32 × Int32 × Int32 × Int32 × Int64)) ⊕ Int64) := if ((1 : Int64) <<< ((x8 - 1).toInt64 &&& 63)) ≤ x13 then (pm_let (((x10 - x9).toInt64) + 1) fun y43 => if x0 = 2 then (if y43 < 255 then (pm_let (fX16_withSign x0 x1 ((y43 <<< ((x8 - 1).toInt64 &&& 63)) + (x13 - ((1 : Int64) <<< ((x8 - 1).toInt64 &&& 63))))) fun v54 => some (.inr (v54))) else (pm_let (fX16_infinite x0) fun v56 => pm_let (fX16_withSign x0 x1 v56) fun v58 => some (.inr (v58)))) else (if y43 < 2047 then (pm_let (fX16_withSign x0 x1 ((y43 <<< ((x8 - 1).toInt64 &&& 63)) + (x13 - ((1 : Int64) <<< ((x8 - 1).toInt64 &&& 63))))) fun v47 => some (.inr (v47))) else (pm_let (fX16_infinite x0) fun v49 => pm_let (fX16_withSign x0 x1 v49) fun v51 => some (.inr (v51))))) else (pm_let (fX16_withSign x0 x1 x13) fun v60 => some (.inr (v60)))
noncomputable def sX16_rounded : ((Int32 × Int32 × Int64 × Int64 × Int32 × Int32 × Int32) ⊕ (Int32 × Int32 × Int64 × Int64 × Int32 × Int32 × Int32 × Int32) ⊕ (Int32 × Int32 × Int64 × Int64 × Int32 × Int32 × Int32 × Int32 × Int32) ⊕ (Int32 × Int32 × Int32 × Int32 × Int32 × Int64 × Int64 × Int32 × Int32 × Int32) ⊕ (Int32 × Int32 × Int32 × Int32 × Int32 × Int64 × Int32 × Int32) ⊕ (Int32 × Int32 × Int32 × Int32 × Int32 × Int64 × Int64 × Int32 × Int32 × Int32) ⊕ (Int32 × Int32 × Int32 × Int32 × Int32 × Int64) ⊕ (Int32 × Int32 × Int32 × Int32 × Int32 × Int64 × Int64 × Int32) ⊕ (Int32 × Int32 × Int32 × Int32 × Int32 × Int64 × Int64 × Int32 × Int32) ⊕ (Int32 × Int32 × Int32 × Int32 × Int32 × Int64)) → Option (((Int32 × Int32 × Int64 × Int64 × Int32 × Int32 × Int32) ⊕ (Int32 × Int32 × Int64 × Int64 × Int32 × Int32 × Int32 × Int32) ⊕ (Int32 × Int32 × Int64 × Int64 × Int32 × Int32 × Int32 × Int32 × Int32) ⊕ (Int32 × Int32 × Int32 × Int32 × Int32 × Int64 × Int64 × Int32 × Int32 × Int32) ⊕ (Int32 × Int32 × Int32 × Int32 × Int32 × Int64 × Int32 × Int32) ⊕ (Int32 × Int32 × Int32 × Int32 × Int32 × Int64 × Int64 × Int32 × Int32 × Int32) ⊕ (Int32 × Int32 × Int32 × Int32 × Int32 × Int64) ⊕ (Int32 × Int32 × Int32 × Int32 × Int32 × Int64 × Int64 × Int32) ⊕ (Int32 × Int32 × Int32 × Int32 × Int32 × Int64 × Int64 × Int32 × Int32) ⊕ (Int32 × Int32 × Int32 × Int32 × Int32 × Int64)) ⊕ Int64) := fun z => match z with
  | .inl (x0, x1, x2, x4, x6, x7, s0) => tX16_rounded_12 x0 x1 x2 x4 x6 x7 s0
  | .inr (.inl (x0, x1, x2, x4, x6, x7, x8, s0)) => tX16_rounded_28 x0 x1 x2 x4 x6 x7 x8 s0
  | .inr (.inr (.inl (x0, x1, x2, x4, x6, x7, x8, x9, s0))) => tX16_rounded_58 x0 x1 x2 x4 x6 x7 x8 x9 s0
  | .inr (.inr (.inr (.inl (x0, x1, x8, x9, x10, x11, x13, x15, x16, x17)))) => tX16_rounded_96 x0 x1 x8 x9 x10 x11 x13 x15 x16 x17
  | .inr (.inr (.inr (.inr (.inl (x0, x1, x8, x9, x10, x13, x15, x16))))) => tX16_rounded_179 x0 x1 x8 x9 x10 x13 x15 x16
  | .inr (.inr (.inr (.inr (.inr (.inl (x0, x1, x8, x9, x10, x11, x13, x15, x16, x17)))))) => tX16_rounded_122 x0 x1 x8 x9 x10 x11 x13 x15 x16 x17
  | .inr (.inr (.inr (.inr (.inr (.inr (.inl (x0, x1, x8, x9, x10, x13))))))) => tX16_rounded_204 x0 x1 x8 x9 x10 x13
  | .inr (.inr (.inr (.inr (.inr (.inr (.inr (.inl (x0, x1, x8, x9, x10, x11, x13, x17)))))))) => tX16_rounded_132 x0 x1 x8 x9 x10 x11 x13 x17
  | .inr (.inr (.inr (.inr (.inr (.inr (.inr (.inr (.inl (x0, x1, x8, x9, x10, x11, x13, x17, s0))))))))) => tX16_rounded_137 x0 x1 x8 x9 x10 x11 x13 x17 s0
  | .inr (.inr (.inr (.inr (.inr (.inr (.inr (.inr (.inr (x0, x1, x8, x9, x10, x13))))))))) => tX16_rounded_223 x0 x1 x8 x9 x10 x13
noncomputable def fX16_rounded (p1 : Int32) (p2 : Int32) (p3 : Int64) (p4 : Int64) (p5 : Int32) (p6 : Int32) : Option Int64 := if p1 = 2 then (pm_lim sX16_rounded (.inl ((p1, p2, p3, p4, p5, p6, 24)))) else (pm_lim sX16_rounded (.inl ((p1, p2, p3, p4, p5, p6, 53))))
set_option maxHeartbeats 4000000 in
set_option maxRecDepth 100000 in
theorem lpX16_rounded {g : pm_Gm} {l : Launch} {G : pm_Gl} {Qr : Option Value → pm_H → Prop} (C : pm_C g cX16_rounded RX16) (X : pm_X g l G mX16_rounded 0 0 Qr) {h : pm_H} {r : Int64} (q : Qr (some (.long r)) h) : ∀ n : Nat, (∀ (x0 : Int32) (x1 : Int32) (x2 : Int64) (x4 : Int64) (x6 : Int32) (x7 : Int32) (s0 : Int32), pm_iter sX16_rounded n (.inl (x0, x1, x2, x4, x6, x7, s0)) = some r → pm_G g 12 [(0, .int x0), (1, .int x1), (2, .long x2), (4, .long x4), (6, .int x6), (7, .int x7)] [.int s0] h 0 0) ∧ (∀ (x0 : Int32) (x1 : Int32) (x2 : Int64) (x4 : Int64) (x6 : Int32) (x7 : Int32) (x8 : Int32) (s0 : Int32), pm_iter sX16_rounded n (.inr (.inl (x0, x1, x2, x4, x6, x7, x8, s0))) = some r → pm_G g 28 [(0, .int x0), (1, .int x1), (2, .long x2), (4, .long x4), (6, .int x6), (7, .int x7), (8, .int x8)] [.int s0] h 0 0) ∧ (∀ (x0 : Int32) (x1 : Int32) (x2 : Int64) (x4 : Int64) (x6 : Int32) (x7 : Int32) (x8 : Int32) (x9 : Int32) (s0 : Int32), pm_iter sX16_rounded n (.inr (.inr (.inl (x0, x1, x2, x4, x6, x7, x8, x9, s0)))) = some r → pm_G g 58 [(0, .int x0), (1, .int x1), (2, .long x2), (4, .long x4), (6, .int x6), (7, .int x7), (8, .int x8), (9, .int x9)] [.int s0] h 0 0) ∧ (∀ (x0 : Int32) (x1 : Int32) (x8 : Int32) (x9 : Int32) (x10 : Int32) (x11 : Int64) (x13 : Int64) (x15 : Int32) (x16 : Int32) (x17 : Int32), pm_iter sX16_rounded n (.inr (.inr (.inr (.inl (x0, x1, x8, x9, x10, x11, x13, x15, x16, x17))))) = some r → pm_G g 96 [(0, .int x0), (1, .int x1), (8, .int x8), (9, .int x9), (10, .int x10), (11, .long x11), (13, .long x13), (15, .int x15), (16, .int x16), (17, .int x17)] [] h 0 0) ∧ (∀ (x0 : Int32) (x1 : Int32) (x8 : Int32) (x9 : Int32) (x10 : Int32) (x13 : Int64) (x15 : Int32) (x16 : Int32), pm_iter sX16_rounded n (.inr (.inr (.inr (.inr (.inl (x0, x1, x8, x9, x10, x13, x15, x16)))))) = some r → pm_G g 179 [(0, .int x0), (1, .int x1), (8, .int x8), (9, .int x9), (10, .int x10), (13, .long x13), (15, .int x15), (16, .int x16)] [] h 0 0) ∧ (∀ (x0 : Int32) (x1 : Int32) (x8 : Int32) (x9 : Int32) (x10 : Int32) (x11 : Int64) (x13 : Int64) (x15 : Int32) (x16 : Int32) (x17 : Int32), pm_iter sX16_rounded n (.inr (.inr (.inr (.inr (.inr (.inl (x0, x1, x8, x9, x10, x11, x13, x15, x16, x17))))))) = some r → pm_G g 122 [(0, .int x0), (1, .int x1), (8, .int x8), (9, .int x9), (10, .int x10), (11, .long x11), (13, .long x13), (15, .int x15), (16, .int x16), (17, .int x17)] [] h 0 0) ∧ (∀ (x0 : Int32) (x1 : Int32) (x8 : Int32) (x9 : Int32) (x10 : Int32) (x13 : Int64), pm_iter sX16_rounded n (.inr (.inr (.inr (.inr (.inr (.inr (.inl (x0, x1, x8, x9, x10, x13)))))))) = some r → pm_G g 204 [(0, .int x0), (1, .int x1), (8, .int x8), (9, .int x9), (10, .int x10), (13, .long x13)] [] h 0 0) ∧ (∀ (x0 : Int32) (x1 : Int32) (x8 : Int32) (x9 : Int32) (x10 : Int32) (x11 : Int64) (x13 : Int64) (x17 : Int32), pm_iter sX16_rounded n (.inr (.inr (.inr (.inr (.inr (.inr (.inr (.inl (x0, x1, x8, x9, x10, x11, x13, x17))))))))) = some r → pm_G g 132 [(0, .int x0), (1, .int x1), (8, .int x8), (9, .int x9), (10, .int x10), (11, .long x11), (13, .long x13), (17, .int x17)] [] h 0 0) ∧ (∀ (x0 : Int32) (x1 : Int32) (x8 : Int32) (x9 : Int32) (x10 : Int32) (x11 : Int64) (x13 : Int64) (x17 : Int32) (s0 : Int32), pm_iter sX16_rounded n (.inr (.inr (.inr (.inr (.inr (.inr (.inr (.inr (.inl (x0, x1, x8, x9, x10, x11, x13, x17, s0)))))))))) = some r → pm_G g 137 [(0, .int x0), (1, .int x1), (8, .int x8), (9, .int x9), (10, .int x10), (11, .long x11), (13, .long x13), (17, .int x17)] [.int s0] h 0 0) ∧ (∀ (x0 : Int32) (x1 : Int32) (x8 : Int32) (x9 : Int32) (x10 : Int32) (x13 : Int64), pm_iter sX16_rounded n (.inr (.inr (.inr (.inr (.inr (.inr (.inr (.inr (.inr (x0, x1, x8, x9, x10, x13)))))))))) = some r → pm_G g 223 [(0, .int x0), (1, .int x1), (8, .int x8), (9, .int x9), (10, .int x10), (13, .long x13)] [] h 0 0) := by
  intro n
  induction n with
  | zero => exact ⟨fun _ _ _ _ _ _ _ hf => (by cases hf), fun _ _ _ _ _ _ _ _ hf => (by cases hf), fun _ _ _ _ _ _ _ _ _ hf => (by cases hf), fun _ _ _ _ _ _ _ _ _ _ hf => (by cases hf), fun _ _ _ _ _ _ _ _ hf => (by cases hf), fun _ _ _ _ _ _ _ _ _ _ hf => (by cases hf), fun _ _ _ _ _ _ hf => (by cases hf), fun _ _ _ _ _ _ _ _ hf => (by cases hf), fun _ _ _ _ _ _ _ _ _ hf => (by cases hf), fun _ _ _ _ _ _ hf => (by cases hf)⟩
  | succ n ih =>
    refine ⟨fun x0 x1 x2 x4 x6 x7 s0 hf => ?_, ?_⟩
    · obtain ⟨y, hf, hi⟩ := pm_iter_s hf
      have hf : tX16_rounded_12 x0 x1 x2 x4 x6 x7 s0 = some y := hf
      unfold tX16_rounded_12 at hf
      refine pm_istore (lv' := [(8, .int s0), (0, .int x0), (1, .int x1), (2, .long x2), (4, .long x4), (6, .int x6), (7, .int x7)]) C dX16_rounded_12 (pm_nl X (by decide)) rfl ?_
      refine pm_iload_n C dX16_rounded_14 rfl rfl ?_
      refine pm_iconst (v := 2) C dX16_rounded_15 (by decide) ?_
      refine pm_icmp_ne (tgt := 25) C dX16_rounded_16 (by decide) (fun c2 => ?_) (fun c2 => ?_)
      · have hf := pm_ie hf c2
        refine pm_sipush (v := (-1074)) C dX16_rounded_25 (by decide) ?_
        cases hf
        exact pm_sub [1, 2, 3, 4, 5, 6, 0] rfl (ih.2.1 x0 x1 x2 x4 x6 x7 s0 (-1074) hi)
      · have hf := pm_it hf c2
        refine pm_sipush (v := (-149)) C dX16_rounded_19 (by decide) ?_
        refine pm_goto (tgt := 28) C dX16_rounded_22 (by decide) ?_
        cases hf
        exact pm_sub [1, 2, 3, 4, 5, 6, 0] rfl (ih.2.1 x0 x1 x2 x4 x6 x7 s0 (-149) hi)
    refine ⟨fun x0 x1 x2 x4 x6 x7 x8 s0 hf => ?_, ?_⟩
    · obtain ⟨y, hf, hi⟩ := pm_iter_s hf
      have hf : tX16_rounded_28 x0 x1 x2 x4 x6 x7 x8 s0 = some y := hf
      unfold tX16_rounded_28 at hf
      refine pm_istore (lv' := [(9, .int s0), (0, .int x0), (1, .int x1), (2, .long x2), (4, .long x4), (6, .int x6), (7, .int x7), (8, .int x8)]) C dX16_rounded_28 (pm_nl X (by decide)) rfl ?_
      refine pm_iload C dX16_rounded_30 rfl ?_
      refine pm_lload_n C dX16_rounded_32 rfl rfl ?_
      refine pm_lload C dX16_rounded_33 rfl ?_
      obtain ⟨v3, e4, hf⟩ := pm_bd hf
      refine pm_callS (as := [.long x2, .long x4]) (st := [.int x6]) C X dX16_rounded_35 lnX16_878 myX16_length stX16_length ⟨by decide, by decide⟩ rfl rfl (Nat.le_of_ble_eq_true rfl) (Nat.le_refl _) (Nat.le_refl _) (ctX16_length e4 ?_)
      show pm_G g 38 [(9, .int s0), (0, .int x0), (1, .int x1), (2, .long x2), (4, .long x4), (6, .int x6), (7, .int x7), (8, .int x8)] [.int v3, .int x6] h 0 0
      refine pm_iadd C dX16_rounded_38 ?_
      refine pm_iload C dX16_rounded_39 rfl ?_
      refine pm_isub C dX16_rounded_41 ?_
      obtain ⟨y5, e6, hf⟩ := pm_lt hf
      refine pm_topI e6 ?_
      refine pm_istore (lv' := [(10, .int y5), (9, .int s0), (0, .int x0), (1, .int x1), (2, .long x2), (4, .long x4), (6, .int x6), (7, .int x7), (8, .int x8)]) C dX16_rounded_42 (pm_nl X (by decide)) rfl ?_
      refine pm_iload C dX16_rounded_44 rfl ?_
      refine pm_iload C dX16_rounded_46 rfl ?_
      refine pm_icmp_ge (tgt := 56) C dX16_rounded_48 (by decide) (fun c7 => ?_) (fun c7 => ?_)
      · have hf := pm_it hf c7
        refine pm_iload C dX16_rounded_56 rfl ?_
        cases hf
        exact pm_sub [2, 3, 4, 5, 6, 7, 8, 1] rfl (ih.2.2.1 x0 x1 x2 x4 x6 x7 x8 s0 y5 hi)
      · have hf := pm_ie hf c7
        refine pm_iload C dX16_rounded_51 rfl ?_
        refine pm_goto (tgt := 58) C dX16_rounded_53 (by decide) ?_
        cases hf
        exact pm_sub [2, 3, 4, 5, 6, 7, 8, 1] rfl (ih.2.2.1 x0 x1 x2 x4 x6 x7 x8 s0 s0 hi)
    refine ⟨fun x0 x1 x2 x4 x6 x7 x8 x9 s0 hf => ?_, ?_⟩
    · obtain ⟨y, hf, hi⟩ := pm_iter_s hf
      have hf : tX16_rounded_58 x0 x1 x2 x4 x6 x7 x8 x9 s0 = some y := hf
      unfold tX16_rounded_58 at hf
      refine pm_istore (lv' := [(10, .int s0), (0, .int x0), (1, .int x1), (2, .long x2), (4, .long x4), (6, .int x6), (7, .int x7), (8, .int x8), (9, .int x9)]) C dX16_rounded_58 (pm_nl X (by decide)) rfl ?_
      refine pm_lload_n C dX16_rounded_60 rfl rfl ?_
      refine pm_lstore (lv' := [(11, .long x2), (10, .int s0), (0, .int x0), (1, .int x1), (2, .long x2), (4, .long x4), (6, .int x6), (7, .int x7), (8, .int x8), (9, .int x9)]) C dX16_rounded_61 (pm_nl X (by decide)) rfl ?_
      refine pm_iload C dX16_rounded_63 rfl ?_
      refine pm_iload C dX16_rounded_65 rfl ?_
      refine pm_icmp_le (tgt := 75) C dX16_rounded_67 (by decide) (fun c8 => ?_) (fun c8 => ?_)
      · have hf := pm_it hf c8
        refine pm_lload C dX16_rounded_75 rfl ?_
        refine pm_iload C dX16_rounded_77 rfl ?_
        refine pm_iload C dX16_rounded_79 rfl ?_
        refine pm_isub C dX16_rounded_81 ?_
        refine pm_lshl C dX16_rounded_82 ?_
        obtain ⟨y9, e10, hf⟩ := pm_lt hf
        refine pm_topL e10 ?_
        refine pm_lstore (lv' := [(13, .long y9), (11, .long x2), (10, .int s0), (0, .int x0), (1, .int x1), (2, .long x2), (4, .long x4), (6, .int x6), (7, .int x7), (8, .int x8), (9, .int x9)]) C dX16_rounded_83 (pm_nl X (by decide)) rfl ?_
        refine pm_iconst (v := 0) C dX16_rounded_85 (by decide) ?_
        refine pm_istore (lv' := [(15, .int 0), (13, .long y9), (11, .long x2), (10, .int s0), (0, .int x0), (1, .int x1), (2, .long x2), (4, .long x4), (6, .int x6), (7, .int x7), (8, .int x8), (9, .int x9)]) C dX16_rounded_86 (pm_nl X (by decide)) rfl ?_
        refine pm_iload C dX16_rounded_88 rfl ?_
        refine pm_istore (lv' := [(16, .int x7), (15, .int 0), (13, .long y9), (11, .long x2), (10, .int s0), (0, .int x0), (1, .int x1), (2, .long x2), (4, .long x4), (6, .int x6), (7, .int x7), (8, .int x8), (9, .int x9)]) C dX16_rounded_90 (pm_nl X (by decide)) rfl ?_
        refine pm_iload C dX16_rounded_92 rfl ?_
        refine pm_istore (lv' := [(17, .int x6), (16, .int x7), (15, .int 0), (13, .long y9), (11, .long x2), (10, .int s0), (0, .int x0), (1, .int x1), (2, .long x2), (4, .long x4), (6, .int x6), (7, .int x7), (8, .int x8), (9, .int x9)]) C dX16_rounded_94 (pm_nl X (by decide)) rfl ?_
        cases hf
        exact pm_sub [6, 7, 12, 13, 5, 4, 3, 2, 1, 0] rfl (ih.2.2.2.1 x0 x1 x8 x9 s0 x2 y9 0 x7 x6 hi)
      · have hf := pm_ie hf c8
        refine pm_lload C dX16_rounded_70 rfl ?_
        refine pm_goto (tgt := 83) C dX16_rounded_72 (by decide) ?_
        refine pm_lstore (lv' := [(13, .long x4), (11, .long x2), (10, .int s0), (0, .int x0), (1, .int x1), (2, .long x2), (4, .long x4), (6, .int x6), (7, .int x7), (8, .int x8), (9, .int x9)]) C dX16_rounded_83 (pm_nl X (by decide)) rfl ?_
        refine pm_iconst (v := 0) C dX16_rounded_85 (by decide) ?_
        refine pm_istore (lv' := [(15, .int 0), (13, .long x4), (11, .long x2), (10, .int s0), (0, .int x0), (1, .int x1), (2, .long x2), (4, .long x4), (6, .int x6), (7, .int x7), (8, .int x8), (9, .int x9)]) C dX16_rounded_86 (pm_nl X (by decide)) rfl ?_
        refine pm_iload C dX16_rounded_88 rfl ?_
        refine pm_istore (lv' := [(16, .int x7), (15, .int 0), (13, .long x4), (11, .long x2), (10, .int s0), (0, .int x0), (1, .int x1), (2, .long x2), (4, .long x4), (6, .int x6), (7, .int x7), (8, .int x8), (9, .int x9)]) C dX16_rounded_90 (pm_nl X (by decide)) rfl ?_
        refine pm_iload C dX16_rounded_92 rfl ?_
        refine pm_istore (lv' := [(17, .int x6), (16, .int x7), (15, .int 0), (13, .long x4), (11, .long x2), (10, .int s0), (0, .int x0), (1, .int x1), (2, .long x2), (4, .long x4), (6, .int x6), (7, .int x7), (8, .int x8), (9, .int x9)]) C dX16_rounded_94 (pm_nl X (by decide)) rfl ?_
        cases hf
        exact pm_sub [6, 7, 12, 13, 5, 4, 3, 2, 1, 0] rfl (ih.2.2.2.1 x0 x1 x8 x9 s0 x2 x4 0 x7 x6 hi)
    refine ⟨fun x0 x1 x8 x9 x10 x11 x13 x15 x16 x17 hf => ?_, ?_⟩
    · obtain ⟨y, hf, hi⟩ := pm_iter_s hf
      have hf : tX16_rounded_96 x0 x1 x8 x9 x10 x11 x13 x15 x16 x17 = some y := hf
      unfold tX16_rounded_96 at hf
      refine pm_iload C dX16_rounded_96 rfl ?_
      refine pm_iload C dX16_rounded_98 rfl ?_
      refine pm_icmp_ge (tgt := 179) C dX16_rounded_100 (by decide) (fun c11 => ?_) (fun c11 => ?_)
      · have hf := pm_it hf c11
        cases hf
        exact pm_sub [0, 1, 2, 3, 4, 6, 7, 8] rfl (ih.2.2.2.2.1 x0 x1 x8 x9 x10 x13 x15 x16 hi)
      · have hf := pm_ie hf c11
        refine pm_lload C dX16_rounded_103 rfl ?_
        refine pm_lconst (v := 0) C dX16_rounded_105 (by decide) ?_
        refine pm_lcmp C dX16_rounded_106 ?_
        refine pm_if_ne (tgt := 122) C dX16_rounded_107 (by decide) (fun c12 => ?_) (fun c12 => ?_)
        · have hf := pm_ie hf ((fun z => c12 ((pm_lg_eq _ _).mpr z)))
          cases hf
          exact pm_sub [0, 1, 2, 3, 4, 5, 6, 7, 8, 9] rfl (ih.2.2.2.2.2.1 x0 x1 x8 x9 x10 x11 x13 x15 x16 x17 hi)
        · have hf := pm_it hf ((pm_lg_eq _ _).mp c12)
          refine pm_lload C dX16_rounded_110 rfl ?_
          refine pm_lconst (v := 0) C dX16_rounded_112 (by decide) ?_
          refine pm_lcmp C dX16_rounded_113 ?_
          refine pm_if_ne (tgt := 122) C dX16_rounded_114 (by decide) (fun c13 => ?_) (fun c13 => ?_)
          · have hf := pm_ie hf ((fun z => c13 ((pm_lg_eq _ _).mpr z)))
            cases hf
            exact pm_sub [0, 1, 2, 3, 4, 5, 6, 7, 8, 9] rfl (ih.2.2.2.2.2.1 x0 x1 x8 x9 x10 x11 x13 x15 x16 x17 hi)
          · have hf := pm_it hf ((pm_lg_eq _ _).mp c13)
            refine pm_iload C dX16_rounded_117 rfl ?_
            refine pm_if_eq (tgt := 179) C dX16_rounded_119 (by decide) (fun c14 => ?_) (fun c14 => ?_)
            · have hf := pm_it hf c14
              cases hf
              exact pm_sub [0, 1, 2, 3, 4, 6, 7, 8] rfl (ih.2.2.2.2.1 x0 x1 x8 x9 x10 x13 x15 x16 hi)
            · have hf := pm_ie hf c14
              cases hf
              exact pm_sub [0, 1, 2, 3, 4, 5, 6, 7, 8, 9] rfl (ih.2.2.2.2.2.1 x0 x1 x8 x9 x10 x11 x13 x15 x16 x17 hi)
    refine ⟨fun x0 x1 x8 x9 x10 x13 x15 x16 hf => ?_, ?_⟩
    · obtain ⟨y, hf, hi⟩ := pm_iter_s hf
      have hf : tX16_rounded_179 x0 x1 x8 x9 x10 x13 x15 x16 = some y := hf
      unfold tX16_rounded_179 at hf
      refine pm_iload C dX16_rounded_179 rfl ?_
      refine pm_if_eq (tgt := 204) C dX16_rounded_181 (by decide) (fun c15 => ?_) (fun c15 => ?_)
      · have hf := pm_it hf c15
        cases hf
        exact pm_sub [0, 1, 2, 3, 4, 5] rfl (ih.2.2.2.2.2.2.1 x0 x1 x8 x9 x10 x13 hi)
      · have hf := pm_ie hf c15
        refine pm_iload C dX16_rounded_184 rfl ?_
        refine pm_if_ne (tgt := 198) C dX16_rounded_186 (by decide) (fun c16 => ?_) (fun c16 => ?_)
        · have hf := pm_ie hf c16
          refine pm_lload C dX16_rounded_198 rfl ?_
          refine pm_lconst (v := 1) C dX16_rounded_200 (by decide) ?_
          refine pm_ladd C dX16_rounded_201 ?_
          obtain ⟨y17, e18, hf⟩ := pm_lt hf
          refine pm_topL e18 ?_
          refine pm_lstore (lv' := [(13, .long y17), (0, .int x0), (1, .int x1), (8, .int x8), (9, .int x9), (10, .int x10), (15, .int x15), (16, .int x16)]) C dX16_rounded_202 (pm_nl X (by decide)) rfl ?_
          cases hf
          exact pm_sub [1, 2, 3, 4, 5, 0] rfl (ih.2.2.2.2.2.2.1 x0 x1 x8 x9 x10 y17 hi)
        · have hf := pm_it hf c16
          refine pm_lload C dX16_rounded_189 rfl ?_
          refine pm_lconst (v := 1) C dX16_rounded_191 (by decide) ?_
          refine pm_land C dX16_rounded_192 ?_
          refine pm_lconst (v := 1) C dX16_rounded_193 (by decide) ?_
          refine pm_lcmp C dX16_rounded_194 ?_
          refine pm_if_ne (tgt := 204) C dX16_rounded_195 (by decide) (fun c19 => ?_) (fun c19 => ?_)
          · have hf := pm_ie hf ((fun z => c19 ((pm_lg_eq _ _).mpr z)))
            cases hf
            exact pm_sub [0, 1, 2, 3, 4, 5] rfl (ih.2.2.2.2.2.2.1 x0 x1 x8 x9 x10 x13 hi)
          · have hf := pm_it hf ((pm_lg_eq _ _).mp c19)
            refine pm_lload C dX16_rounded_198 rfl ?_
            refine pm_lconst (v := 1) C dX16_rounded_200 (by decide) ?_
            refine pm_ladd C dX16_rounded_201 ?_
            obtain ⟨y20, e21, hf⟩ := pm_lt hf
            refine pm_topL e21 ?_
            refine pm_lstore (lv' := [(13, .long y20), (0, .int x0), (1, .int x1), (8, .int x8), (9, .int x9), (10, .int x10), (15, .int x15), (16, .int x16)]) C dX16_rounded_202 (pm_nl X (by decide)) rfl ?_
            cases hf
            exact pm_sub [1, 2, 3, 4, 5, 0] rfl (ih.2.2.2.2.2.2.1 x0 x1 x8 x9 x10 y20 hi)
    refine ⟨fun x0 x1 x8 x9 x10 x11 x13 x15 x16 x17 hf => ?_, ?_⟩
    · obtain ⟨y, hf, hi⟩ := pm_iter_s hf
      have hf : tX16_rounded_122 x0 x1 x8 x9 x10 x11 x13 x15 x16 x17 = some y := hf
      unfold tX16_rounded_122 at hf
      refine pm_iload C dX16_rounded_122 rfl ?_
      refine pm_if_ne (tgt := 132) C dX16_rounded_124 (by decide) (fun c22 => ?_) (fun c22 => ?_)
      · have hf := pm_ie hf c22
        cases hf
        exact pm_sub [0, 1, 2, 3, 4, 5, 6, 9] rfl (ih.2.2.2.2.2.2.2.1 x0 x1 x8 x9 x10 x11 x13 x17 hi)
      · have hf := pm_it hf c22
        refine pm_iload C dX16_rounded_127 rfl ?_
        refine pm_if_eq (tgt := 136) C dX16_rounded_129 (by decide) (fun c23 => ?_) (fun c23 => ?_)
        · have hf := pm_it hf c23
          refine pm_iconst (v := 0) C dX16_rounded_136 (by decide) ?_
          cases hf
          exact pm_sub [0, 1, 2, 3, 4, 5, 6, 9] rfl (ih.2.2.2.2.2.2.2.2.1 x0 x1 x8 x9 x10 x11 x13 x17 0 hi)
        · have hf := pm_ie hf c23
          cases hf
          exact pm_sub [0, 1, 2, 3, 4, 5, 6, 9] rfl (ih.2.2.2.2.2.2.2.1 x0 x1 x8 x9 x10 x11 x13 x17 hi)
    refine ⟨fun x0 x1 x8 x9 x10 x13 hf => ?_, ?_⟩
    · obtain ⟨y, hf, hi⟩ := pm_iter_s hf
      have hf : tX16_rounded_204 x0 x1 x8 x9 x10 x13 = some y := hf
      unfold tX16_rounded_204 at hf
      refine pm_lload C dX16_rounded_204 rfl ?_
      refine pm_iload C dX16_rounded_206 rfl ?_
      refine pm_lshr C dX16_rounded_208 ?_
      refine pm_lconst (v := 0) C dX16_rounded_209 (by decide) ?_
      refine pm_lcmp C dX16_rounded_210 ?_
      refine pm_if_eq (tgt := 223) C dX16_rounded_211 (by decide) (fun c24 => ?_) (fun c24 => ?_)
      · have hf := pm_it hf ((pm_lg_eq _ _).mp c24)
        cases hf
        exact pm_sub [0, 1, 2, 3, 4, 5] rfl (ih.2.2.2.2.2.2.2.2.2 x0 x1 x8 x9 x10 x13 hi)
      · have hf := pm_ie hf ((fun z => c24 ((pm_lg_eq _ _).mpr z)))
        refine pm_lload C dX16_rounded_214 rfl ?_
        refine pm_iconst (v := 1) C dX16_rounded_216 (by decide) ?_
        refine pm_lshr C dX16_rounded_217 ?_
        obtain ⟨y25, e26, hf⟩ := pm_lt hf
        refine pm_topL e26 ?_
        refine pm_lstore (lv' := [(13, .long y25), (0, .int x0), (1, .int x1), (8, .int x8), (9, .int x9), (10, .int x10)]) C dX16_rounded_218 (pm_nl X (by decide)) rfl ?_
        obtain ⟨y27, e28, hf⟩ := pm_lt hf
        refine pm_iinc (v := y27) (lv' := [(10, .int y27), (13, .long y25), (0, .int x0), (1, .int x1), (8, .int x8), (9, .int x9)]) C dX16_rounded_220 rfl ((congrArg (x10 + ·) (by decide : Int32.ofInt 1 = 1)).trans e28) (pm_nl X (by decide)) rfl ?_
        cases hf
        exact pm_sub [2, 3, 4, 5, 0, 1] rfl (ih.2.2.2.2.2.2.2.2.2 x0 x1 x8 x9 y27 y25 hi)
    refine ⟨fun x0 x1 x8 x9 x10 x11 x13 x17 hf => ?_, ?_⟩
    · obtain ⟨y, hf, hi⟩ := pm_iter_s hf
      have hf : tX16_rounded_132 x0 x1 x8 x9 x10 x11 x13 x17 = some y := hf
      unfold tX16_rounded_132 at hf
      refine pm_iconst (v := 1) C dX16_rounded_132 (by decide) ?_
      refine pm_goto (tgt := 137) C dX16_rounded_133 (by decide) ?_
      cases hf
      exact pm_sub [0, 1, 2, 3, 4, 5, 6, 7] rfl (ih.2.2.2.2.2.2.2.2.1 x0 x1 x8 x9 x10 x11 x13 x17 1 hi)
    refine ⟨fun x0 x1 x8 x9 x10 x11 x13 x17 s0 hf => ?_, ?_⟩
    · obtain ⟨y, hf, hi⟩ := pm_iter_s hf
      have hf : tX16_rounded_137 x0 x1 x8 x9 x10 x11 x13 x17 s0 = some y := hf
      unfold tX16_rounded_137 at hf
      refine pm_istore (lv' := [(16, .int s0), (0, .int x0), (1, .int x1), (8, .int x8), (9, .int x9), (10, .int x10), (11, .long x11), (13, .long x13), (17, .int x17)]) C dX16_rounded_137 (pm_nl X (by decide)) rfl ?_
      refine pm_lload C dX16_rounded_139 rfl ?_
      refine pm_lconst (v := 1) C dX16_rounded_141 (by decide) ?_
      refine pm_land C dX16_rounded_142 ?_
      refine pm_lconst (v := 1) C dX16_rounded_143 (by decide) ?_
      refine pm_lcmp C dX16_rounded_144 ?_
      refine pm_if_ne (tgt := 152) C dX16_rounded_145 (by decide) (fun c29 => ?_) (fun c29 => ?_)
      · have hf := pm_ie hf ((fun z => c29 ((pm_lg_eq _ _).mpr z)))
        refine pm_iconst (v := 0) C dX16_rounded_152 (by decide) ?_
        refine pm_istore (lv' := [(15, .int 0), (16, .int s0), (0, .int x0), (1, .int x1), (8, .int x8), (9, .int x9), (10, .int x10), (11, .long x11), (13, .long x13), (17, .int x17)]) C dX16_rounded_153 (pm_nl X (by decide)) rfl ?_
        refine pm_lload C dX16_rounded_155 rfl ?_
        refine pm_iconst (v := 1) C dX16_rounded_157 (by decide) ?_
        refine pm_lushr C dX16_rounded_158 ?_
        refine pm_lload C dX16_rounded_159 rfl ?_
        refine pm_bipush (v := 63) C dX16_rounded_161 (by decide) ?_
        refine pm_lshl C dX16_rounded_163 ?_
        refine pm_lor C dX16_rounded_164 ?_
        obtain ⟨y30, e31, hf⟩ := pm_lt hf
        refine pm_topL e31 ?_
        refine pm_lstore (lv' := [(13, .long y30), (15, .int 0), (16, .int s0), (0, .int x0), (1, .int x1), (8, .int x8), (9, .int x9), (10, .int x10), (11, .long x11), (17, .int x17)]) C dX16_rounded_165 (pm_nl X (by decide)) rfl ?_
        refine pm_lload C dX16_rounded_167 rfl ?_
        refine pm_iconst (v := 1) C dX16_rounded_169 (by decide) ?_
        refine pm_lushr C dX16_rounded_170 ?_
        obtain ⟨y32, e33, hf⟩ := pm_lt hf
        refine pm_topL e33 ?_
        refine pm_lstore (lv' := [(11, .long y32), (13, .long y30), (15, .int 0), (16, .int s0), (0, .int x0), (1, .int x1), (8, .int x8), (9, .int x9), (10, .int x10), (17, .int x17)]) C dX16_rounded_171 (pm_nl X (by decide)) rfl ?_
        obtain ⟨y34, e35, hf⟩ := pm_lt hf
        refine pm_iinc (v := y34) (lv' := [(17, .int y34), (11, .long y32), (13, .long y30), (15, .int 0), (16, .int s0), (0, .int x0), (1, .int x1), (8, .int x8), (9, .int x9), (10, .int x10)]) C dX16_rounded_173 rfl ((congrArg (x17 + ·) (by decide : Int32.ofInt 1 = 1)).trans e35) (pm_nl X (by decide)) rfl ?_
        refine pm_goto (tgt := 96) C dX16_rounded_176 (by decide) ?_
        cases hf
        exact pm_sub [5, 6, 7, 8, 9, 1, 2, 3, 4, 0] rfl (ih.2.2.2.1 x0 x1 x8 x9 x10 y32 y30 0 s0 y34 hi)
      · have hf := pm_it hf ((pm_lg_eq _ _).mp c29)
        refine pm_iconst (v := 1) C dX16_rounded_148 (by decide) ?_
        refine pm_goto (tgt := 153) C dX16_rounded_149 (by decide) ?_
        refine pm_istore (lv' := [(15, .int 1), (16, .int s0), (0, .int x0), (1, .int x1), (8, .int x8), (9, .int x9), (10, .int x10), (11, .long x11), (13, .long x13), (17, .int x17)]) C dX16_rounded_153 (pm_nl X (by decide)) rfl ?_
        refine pm_lload C dX16_rounded_155 rfl ?_
        refine pm_iconst (v := 1) C dX16_rounded_157 (by decide) ?_
        refine pm_lushr C dX16_rounded_158 ?_
        refine pm_lload C dX16_rounded_159 rfl ?_
        refine pm_bipush (v := 63) C dX16_rounded_161 (by decide) ?_
        refine pm_lshl C dX16_rounded_163 ?_
        refine pm_lor C dX16_rounded_164 ?_
        obtain ⟨y36, e37, hf⟩ := pm_lt hf
        refine pm_topL e37 ?_
        refine pm_lstore (lv' := [(13, .long y36), (15, .int 1), (16, .int s0), (0, .int x0), (1, .int x1), (8, .int x8), (9, .int x9), (10, .int x10), (11, .long x11), (17, .int x17)]) C dX16_rounded_165 (pm_nl X (by decide)) rfl ?_
        refine pm_lload C dX16_rounded_167 rfl ?_
        refine pm_iconst (v := 1) C dX16_rounded_169 (by decide) ?_
        refine pm_lushr C dX16_rounded_170 ?_
        obtain ⟨y38, e39, hf⟩ := pm_lt hf
        refine pm_topL e39 ?_
        refine pm_lstore (lv' := [(11, .long y38), (13, .long y36), (15, .int 1), (16, .int s0), (0, .int x0), (1, .int x1), (8, .int x8), (9, .int x9), (10, .int x10), (17, .int x17)]) C dX16_rounded_171 (pm_nl X (by decide)) rfl ?_
        obtain ⟨y40, e41, hf⟩ := pm_lt hf
        refine pm_iinc (v := y40) (lv' := [(17, .int y40), (11, .long y38), (13, .long y36), (15, .int 1), (16, .int s0), (0, .int x0), (1, .int x1), (8, .int x8), (9, .int x9), (10, .int x10)]) C dX16_rounded_173 rfl ((congrArg (x17 + ·) (by decide : Int32.ofInt 1 = 1)).trans e41) (pm_nl X (by decide)) rfl ?_
        refine pm_goto (tgt := 96) C dX16_rounded_176 (by decide) ?_
        cases hf
        exact pm_sub [5, 6, 7, 8, 9, 1, 2, 3, 4, 0] rfl (ih.2.2.2.1 x0 x1 x8 x9 x10 y38 y36 1 s0 y40 hi)
    refine fun x0 x1 x8 x9 x10 x13 hf => ?_
    obtain ⟨y, hf, hi⟩ := pm_iter_s hf
    have hf : tX16_rounded_223 x0 x1 x8 x9 x10 x13 = some y := hf
    unfold tX16_rounded_223 at hf
    refine pm_lload C dX16_rounded_223 rfl ?_
    refine pm_lconst (v := 1) C dX16_rounded_225 (by decide) ?_
    refine pm_iload C dX16_rounded_226 rfl ?_
    refine pm_iconst (v := 1) C dX16_rounded_228 (by decide) ?_
    refine pm_isub C dX16_rounded_229 ?_
    refine pm_lshl C dX16_rounded_230 ?_
    refine pm_lcmp C dX16_rounded_231 ?_
    refine pm_if_ge (tgt := 243) C dX16_rounded_232 (by decide) (fun c42 => ?_) (fun c42 => ?_)
    · have hf := pm_it hf ((pm_lg_ge _ _).mp c42)
      refine pm_iload C dX16_rounded_243 rfl ?_
      refine pm_iload C dX16_rounded_245 rfl ?_
      refine pm_isub C dX16_rounded_247 ?_
      refine pm_i2l C dX16_rounded_248 ?_
      refine pm_lconst (v := 1) C dX16_rounded_249 (by decide) ?_
      refine pm_ladd C dX16_rounded_250 ?_
      obtain ⟨y43, e44, hf⟩ := pm_lt hf
      refine pm_topL e44 ?_
      refine pm_lstore (lv' := [(17, .long y43), (0, .int x0), (1, .int x1), (8, .int x8), (9, .int x9), (10, .int x10), (13, .long x13)]) C dX16_rounded_251 (pm_nl X (by decide)) rfl ?_
      refine pm_iload_n C dX16_rounded_253 rfl rfl ?_
      refine pm_iload_n C dX16_rounded_254 rfl rfl ?_
      refine pm_lload C dX16_rounded_255 rfl ?_
      refine pm_iload_n C dX16_rounded_257 rfl rfl ?_
      refine pm_iconst (v := 2) C dX16_rounded_258 (by decide) ?_
      refine pm_icmp_ne (tgt := 268) C dX16_rounded_259 (by decide) (fun c45 => ?_) (fun c45 => ?_)
      · have hf := pm_ie hf c45
        refine pm_ldc2 C dX16_rounded_268 cnX16_886 ?_
        refine pm_lcmp C dX16_rounded_271 ?_
        refine pm_if_lt (tgt := 282) C dX16_rounded_272 (by decide) (fun c46 => ?_) (fun c46 => ?_)
        · have hf := pm_it hf ((pm_lg_lt _ _).mp c46)
          refine pm_lload C dX16_rounded_282 rfl ?_
          refine pm_iload C dX16_rounded_284 rfl ?_
          refine pm_iconst (v := 1) C dX16_rounded_286 (by decide) ?_
          refine pm_isub C dX16_rounded_287 ?_
          refine pm_lshl C dX16_rounded_288 ?_
          refine pm_lload C dX16_rounded_289 rfl ?_
          refine pm_lconst (v := 1) C dX16_rounded_291 (by decide) ?_
          refine pm_iload C dX16_rounded_292 rfl ?_
          refine pm_iconst (v := 1) C dX16_rounded_294 (by decide) ?_
          refine pm_isub C dX16_rounded_295 ?_
          refine pm_lshl C dX16_rounded_296 ?_
          refine pm_lsub C dX16_rounded_297 ?_
          refine pm_ladd C dX16_rounded_298 ?_
          obtain ⟨v47, e48, hf⟩ := pm_lt hf
          refine pm_callS (as := [.int x0, .int x1, .long ((y43 <<< ((x8 - 1).toInt64 &&& 63)) + (x13 - ((1 : Int64) <<< ((x8 - 1).toInt64 &&& 63))))]) (st := []) C X dX16_rounded_299 lnX16_882 myX16_withSign stX16_withSign ⟨by decide, by decide⟩ rfl rfl (Nat.le_of_ble_eq_true rfl) (Nat.le_refl _) (Nat.le_refl _) (ctX16_withSign e48 ?_)
          show pm_G g 302 [(17, .long y43), (0, .int x0), (1, .int x1), (8, .int x8), (9, .int x9), (10, .int x10), (13, .long x13)] [.long v47] h 0 0
          cases hf
          cases hi
          exact pm_lret C X dX16_rounded_302 rfl (Nat.le_refl _) (Nat.le_refl _) q
        · have hf := pm_ie hf ((fun z => c46 ((pm_lg_lt _ _).mpr z)))
          refine pm_iload_n C dX16_rounded_275 rfl rfl ?_
          obtain ⟨v49, e50, hf⟩ := pm_lt hf
          refine pm_callS (as := [.int x0]) (st := [.int x1, .int x0]) C X dX16_rounded_276 lnX16_888 myX16_infinite stX16_infinite ⟨by decide, by decide⟩ rfl rfl (Nat.le_of_ble_eq_true rfl) (Nat.le_refl _) (Nat.le_refl _) (ctX16_infinite e50 ?_)
          show pm_G g 279 [(17, .long y43), (0, .int x0), (1, .int x1), (8, .int x8), (9, .int x9), (10, .int x10), (13, .long x13)] [.long v49, .int x1, .int x0] h 0 0
          refine pm_goto (tgt := 299) C dX16_rounded_279 (by decide) ?_
          obtain ⟨v51, e52, hf⟩ := pm_lt hf
          refine pm_callS (as := [.int x0, .int x1, .long v49]) (st := []) C X dX16_rounded_299 lnX16_882 myX16_withSign stX16_withSign ⟨by decide, by decide⟩ rfl rfl (Nat.le_of_ble_eq_true rfl) (Nat.le_refl _) (Nat.le_refl _) (ctX16_withSign e52 ?_)
          show pm_G g 302 [(17, .long y43), (0, .int x0), (1, .int x1), (8, .int x8), (9, .int x9), (10, .int x10), (13, .long x13)] [.long v51] h 0 0
          cases hf
          cases hi
          exact pm_lret C X dX16_rounded_302 rfl (Nat.le_refl _) (Nat.le_refl _) q
      · have hf := pm_it hf c45
        refine pm_ldc2 C dX16_rounded_262 cnX16_297 ?_
        refine pm_goto (tgt := 271) C dX16_rounded_265 (by decide) ?_
        refine pm_lcmp C dX16_rounded_271 ?_
        refine pm_if_lt (tgt := 282) C dX16_rounded_272 (by decide) (fun c53 => ?_) (fun c53 => ?_)
        · have hf := pm_it hf ((pm_lg_lt _ _).mp c53)
          refine pm_lload C dX16_rounded_282 rfl ?_
          refine pm_iload C dX16_rounded_284 rfl ?_
          refine pm_iconst (v := 1) C dX16_rounded_286 (by decide) ?_
          refine pm_isub C dX16_rounded_287 ?_
          refine pm_lshl C dX16_rounded_288 ?_
          refine pm_lload C dX16_rounded_289 rfl ?_
          refine pm_lconst (v := 1) C dX16_rounded_291 (by decide) ?_
          refine pm_iload C dX16_rounded_292 rfl ?_
          refine pm_iconst (v := 1) C dX16_rounded_294 (by decide) ?_
          refine pm_isub C dX16_rounded_295 ?_
          refine pm_lshl C dX16_rounded_296 ?_
          refine pm_lsub C dX16_rounded_297 ?_
          refine pm_ladd C dX16_rounded_298 ?_
          obtain ⟨v54, e55, hf⟩ := pm_lt hf
          refine pm_callS (as := [.int x0, .int x1, .long ((y43 <<< ((x8 - 1).toInt64 &&& 63)) + (x13 - ((1 : Int64) <<< ((x8 - 1).toInt64 &&& 63))))]) (st := []) C X dX16_rounded_299 lnX16_882 myX16_withSign stX16_withSign ⟨by decide, by decide⟩ rfl rfl (Nat.le_of_ble_eq_true rfl) (Nat.le_refl _) (Nat.le_refl _) (ctX16_withSign e55 ?_)
          show pm_G g 302 [(17, .long y43), (0, .int x0), (1, .int x1), (8, .int x8), (9, .int x9), (10, .int x10), (13, .long x13)] [.long v54] h 0 0
          cases hf
          cases hi
          exact pm_lret C X dX16_rounded_302 rfl (Nat.le_refl _) (Nat.le_refl _) q
        · have hf := pm_ie hf ((fun z => c53 ((pm_lg_lt _ _).mpr z)))
          refine pm_iload_n C dX16_rounded_275 rfl rfl ?_
          obtain ⟨v56, e57, hf⟩ := pm_lt hf
          refine pm_callS (as := [.int x0]) (st := [.int x1, .int x0]) C X dX16_rounded_276 lnX16_888 myX16_infinite stX16_infinite ⟨by decide, by decide⟩ rfl rfl (Nat.le_of_ble_eq_true rfl) (Nat.le_refl _) (Nat.le_refl _) (ctX16_infinite e57 ?_)
          show pm_G g 279 [(17, .long y43), (0, .int x0), (1, .int x1), (8, .int x8), (9, .int x9), (10, .int x10), (13, .long x13)] [.long v56, .int x1, .int x0] h 0 0
          refine pm_goto (tgt := 299) C dX16_rounded_279 (by decide) ?_
          obtain ⟨v58, e59, hf⟩ := pm_lt hf
          refine pm_callS (as := [.int x0, .int x1, .long v56]) (st := []) C X dX16_rounded_299 lnX16_882 myX16_withSign stX16_withSign ⟨by decide, by decide⟩ rfl rfl (Nat.le_of_ble_eq_true rfl) (Nat.le_refl _) (Nat.le_refl _) (ctX16_withSign e59 ?_)
          show pm_G g 302 [(17, .long y43), (0, .int x0), (1, .int x1), (8, .int x8), (9, .int x9), (10, .int x10), (13, .long x13)] [.long v58] h 0 0
          cases hf
          cases hi
          exact pm_lret C X dX16_rounded_302 rfl (Nat.le_refl _) (Nat.le_refl _) q
    · have hf := pm_ie hf ((fun z => c42 ((pm_lg_ge _ _).mpr z)))
      refine pm_iload_n C dX16_rounded_235 rfl rfl ?_
      refine pm_iload_n C dX16_rounded_236 rfl rfl ?_
      refine pm_lload C dX16_rounded_237 rfl ?_
      obtain ⟨v60, e61, hf⟩ := pm_lt hf
      refine pm_callS (as := [.int x0, .int x1, .long x13]) (st := []) C X dX16_rounded_239 lnX16_882 myX16_withSign stX16_withSign ⟨by decide, by decide⟩ rfl rfl (Nat.le_of_ble_eq_true rfl) (Nat.le_refl _) (Nat.le_refl _) (ctX16_withSign e61 ?_)
      show pm_G g 242 [(0, .int x0), (1, .int x1), (8, .int x8), (9, .int x9), (10, .int x10), (13, .long x13)] [.long v60] h 0 0
      cases hf
      cases hi
      exact pm_lret C X dX16_rounded_242 rfl (Nat.le_refl _) (Nat.le_refl _) q
set_option maxHeartbeats 4000000 in
set_option maxRecDepth 100000 in
theorem ctX16_rounded {l : Launch} {G : pm_Gl} {h : pm_H} {p1 : Int32} {p2 : Int32} {p3 : Int64} {p4 : Int64} {p5 : Int32} {p6 : Int32} {r : Int64} {Qr : Option Value → pm_H → Prop} (hf : fX16_rounded p1 p2 p3 p4 p5 p6 = some r) (q : Qr (some (.long r)) h) : pm_Ct l G mX16_rounded [.int p1, .int p2, .long p3, .long p4, .int p5, .int p6] h 0 0 Qr := by
  refine pm_body pnX16 (Nat.le_of_ble_eq_true rfl) (fun g C X => ?_)
  have C : pm_C g cX16_rounded RX16 := C
  show pm_G g 0 [(0, .int p1), (1, .int p2), (2, .long p3), (4, .long p4), (6, .int p5), (7, .int p6)] [] h 0 0
  unfold fX16_rounded at hf
  refine pm_iload_n C dX16_rounded_0 rfl rfl ?_
  refine pm_iconst (v := 2) C dX16_rounded_1 (by decide) ?_
  refine pm_icmp_ne (tgt := 10) C dX16_rounded_2 (by decide) (fun c1 => ?_) (fun c1 => ?_)
  · have hf := pm_ie hf c1
    refine pm_bipush (v := 53) C dX16_rounded_10 (by decide) ?_
    obtain ⟨n, hn⟩ := pm_lim_iter hf
    exact pm_sub [0, 1, 2, 3, 4, 5] rfl ((lpX16_rounded C X q n).1 p1 p2 p3 p4 p5 p6 53 hn)
  · have hf := pm_it hf c1
    refine pm_bipush (v := 24) C dX16_rounded_5 (by decide) ?_
    refine pm_goto (tgt := 12) C dX16_rounded_7 (by decide) ?_
    obtain ⟨n, hn⟩ := pm_lim_iter hf
    exact pm_sub [0, 1, 2, 3, 4, 5] rfl ((lpX16_rounded C X q n).1 p1 p2 p3 p4 p5 p6 24 hn)
theorem dX16_short32_0 : decode cX16_short32 0 = .ok (.lload 8, 2) := by decide +kernel
theorem dX16_short32_2 : decode cX16_short32 2 = .ok (.l2i, 1) := by decide +kernel
theorem dX16_short32_3 : decode cX16_short32 3 = .ok (.bipush 31, 2) := by decide +kernel
theorem dX16_short32_5 : decode cX16_short32 5 = .ok (.iand, 1) := by decide +kernel
theorem dX16_short32_6 : decode cX16_short32 6 = .ok (.istore 10, 2) := by decide +kernel
theorem dX16_short32_8 : decode cX16_short32 8 = .ok (.iload_n 1, 1) := by decide +kernel
theorem dX16_short32_9 : decode cX16_short32 9 = .ok (.tableswitch 210 0 17 #[87, 97, 107, 210, 210, 210, 114, 114, 114, 114, 210, 210, 210, 163, 169, 174, 180, 195], 87) := by decide +kernel
theorem dX16_short32_96 : decode cX16_short32 96 = .ok (.lload 4, 2) := by decide +kernel
theorem dX16_short32_98 : decode cX16_short32 98 = .ok (.bipush 32, 2) := by decide +kernel
theorem dX16_short32_100 : decode cX16_short32 100 = .ok (.iconst 1, 1) := by decide +kernel
theorem dX16_short32_101 : decode cX16_short32 101 = .ok (.invokestatic 831, 3) := by decide +kernel
theorem dX16_short32_104 : decode cX16_short32 104 = .ok (.i2l, 1) := by decide +kernel
theorem dX16_short32_105 : decode cX16_short32 105 = .ok (.lreturn, 1) := by decide +kernel
theorem dX16_short32_106 : decode cX16_short32 106 = .ok (.lload 4, 2) := by decide +kernel
theorem dX16_short32_108 : decode cX16_short32 108 = .ok (.bipush 32, 2) := by decide +kernel
theorem dX16_short32_110 : decode cX16_short32 110 = .ok (.iconst 0, 1) := by decide +kernel
theorem dX16_short32_111 : decode cX16_short32 111 = .ok (.invokestatic 831, 3) := by decide +kernel
theorem dX16_short32_114 : decode cX16_short32 114 = .ok (.i2l, 1) := by decide +kernel
theorem dX16_short32_115 : decode cX16_short32 115 = .ok (.lreturn, 1) := by decide +kernel
theorem dX16_short32_116 : decode cX16_short32 116 = .ok (.lload 4, 2) := by decide +kernel
theorem dX16_short32_118 : decode cX16_short32 118 = .ok (.invokestatic 835, 3) := by decide +kernel
theorem dX16_short32_121 : decode cX16_short32 121 = .ok (.i2l, 1) := by decide +kernel
theorem dX16_short32_122 : decode cX16_short32 122 = .ok (.lreturn, 1) := by decide +kernel
theorem dX16_short32_123 : decode cX16_short32 123 = .ok (.aload_n 0, 1) := by decide +kernel
theorem dX16_short32_124 : decode cX16_short32 124 = .ok (.iload_n 1, 1) := by decide +kernel
theorem dX16_short32_125 : decode cX16_short32 125 = .ok (.bipush 6, 2) := by decide +kernel
theorem dX16_short32_127 : decode cX16_short32 127 = .ok (.isub, 1) := by decide +kernel
theorem dX16_short32_128 : decode cX16_short32 128 = .ok (.iload_n 1, 1) := by decide +kernel
theorem dX16_short32_129 : decode cX16_short32 129 = .ok (.bipush 6, 2) := by decide +kernel
theorem dX16_short32_131 : decode cX16_short32 131 = .ok (.if_icmp .eq 9, 3) := by decide +kernel
theorem dX16_short32_134 : decode cX16_short32 134 = .ok (.iload_n 1, 1) := by decide +kernel
theorem dX16_short32_135 : decode cX16_short32 135 = .ok (.bipush 8, 2) := by decide +kernel
theorem dX16_short32_137 : decode cX16_short32 137 = .ok (.if_icmp .ne 7, 3) := by decide +kernel
theorem dX16_short32_140 : decode cX16_short32 140 = .ok (.lload_n 2, 1) := by decide +kernel
theorem dX16_short32_141 : decode cX16_short32 141 = .ok (.goto 5, 3) := by decide +kernel
theorem dX16_short32_144 : decode cX16_short32 144 = .ok (.lload 4, 2) := by decide +kernel
theorem dX16_short32_146 : decode cX16_short32 146 = .ok (.iload_n 1, 1) := by decide +kernel
theorem dX16_short32_147 : decode cX16_short32 147 = .ok (.bipush 6, 2) := by decide +kernel
theorem dX16_short32_149 : decode cX16_short32 149 = .ok (.if_icmp .eq 9, 3) := by decide +kernel
theorem dX16_short32_152 : decode cX16_short32 152 = .ok (.iload_n 1, 1) := by decide +kernel
theorem dX16_short32_153 : decode cX16_short32 153 = .ok (.bipush 8, 2) := by decide +kernel
theorem dX16_short32_155 : decode cX16_short32 155 = .ok (.if_icmp .ne 8, 3) := by decide +kernel
theorem dX16_short32_158 : decode cX16_short32 158 = .ok (.lload 6, 2) := by decide +kernel
theorem dX16_short32_160 : decode cX16_short32 160 = .ok (.goto 5, 3) := by decide +kernel
theorem dX16_short32_163 : decode cX16_short32 163 = .ok (.lload 8, 2) := by decide +kernel
theorem dX16_short32_165 : decode cX16_short32 165 = .ok (.ldc2_w 838, 3) := by decide +kernel
theorem dX16_short32_168 : decode cX16_short32 168 = .ok (.invokevirtual 840, 3) := by decide +kernel
theorem dX16_short32_171 : decode cX16_short32 171 = .ok (.lreturn, 1) := by decide +kernel
theorem dX16_short32_172 : decode cX16_short32 172 = .ok (.lload 4, 2) := by decide +kernel
theorem dX16_short32_174 : decode cX16_short32 174 = .ok (.iload 10, 2) := by decide +kernel
theorem dX16_short32_176 : decode cX16_short32 176 = .ok (.lshl, 1) := by decide +kernel
theorem dX16_short32_177 : decode cX16_short32 177 = .ok (.lreturn, 1) := by decide +kernel
theorem dX16_short32_178 : decode cX16_short32 178 = .ok (.lload_n 2, 1) := by decide +kernel
theorem dX16_short32_179 : decode cX16_short32 179 = .ok (.iload 10, 2) := by decide +kernel
theorem dX16_short32_181 : decode cX16_short32 181 = .ok (.lshr, 1) := by decide +kernel
theorem dX16_short32_182 : decode cX16_short32 182 = .ok (.lreturn, 1) := by decide +kernel
theorem dX16_short32_183 : decode cX16_short32 183 = .ok (.lload 4, 2) := by decide +kernel
theorem dX16_short32_185 : decode cX16_short32 185 = .ok (.iload 10, 2) := by decide +kernel
theorem dX16_short32_187 : decode cX16_short32 187 = .ok (.lushr, 1) := by decide +kernel
theorem dX16_short32_188 : decode cX16_short32 188 = .ok (.lreturn, 1) := by decide +kernel
theorem dX16_short32_189 : decode cX16_short32 189 = .ok (.lload 4, 2) := by decide +kernel
theorem dX16_short32_191 : decode cX16_short32 191 = .ok (.iload 10, 2) := by decide +kernel
theorem dX16_short32_193 : decode cX16_short32 193 = .ok (.lshl, 1) := by decide +kernel
theorem dX16_short32_194 : decode cX16_short32 194 = .ok (.lload 4, 2) := by decide +kernel
theorem dX16_short32_196 : decode cX16_short32 196 = .ok (.bipush 32, 2) := by decide +kernel
theorem dX16_short32_198 : decode cX16_short32 198 = .ok (.iload 10, 2) := by decide +kernel
theorem dX16_short32_200 : decode cX16_short32 200 = .ok (.isub, 1) := by decide +kernel
theorem dX16_short32_201 : decode cX16_short32 201 = .ok (.lushr, 1) := by decide +kernel
theorem dX16_short32_202 : decode cX16_short32 202 = .ok (.lor, 1) := by decide +kernel
theorem dX16_short32_203 : decode cX16_short32 203 = .ok (.lreturn, 1) := by decide +kernel
theorem dX16_short32_204 : decode cX16_short32 204 = .ok (.lload 4, 2) := by decide +kernel
theorem dX16_short32_206 : decode cX16_short32 206 = .ok (.iload 10, 2) := by decide +kernel
theorem dX16_short32_208 : decode cX16_short32 208 = .ok (.lushr, 1) := by decide +kernel
theorem dX16_short32_209 : decode cX16_short32 209 = .ok (.lload 4, 2) := by decide +kernel
theorem dX16_short32_211 : decode cX16_short32 211 = .ok (.bipush 32, 2) := by decide +kernel
theorem dX16_short32_213 : decode cX16_short32 213 = .ok (.iload 10, 2) := by decide +kernel
theorem dX16_short32_215 : decode cX16_short32 215 = .ok (.isub, 1) := by decide +kernel
theorem dX16_short32_216 : decode cX16_short32 216 = .ok (.lshl, 1) := by decide +kernel
theorem dX16_short32_217 : decode cX16_short32 217 = .ok (.lor, 1) := by decide +kernel
theorem dX16_short32_218 : decode cX16_short32 218 = .ok (.lreturn, 1) := by decide +kernel
theorem dX16_short32_219 : decode cX16_short32 219 = .ok (.iload_n 1, 1) := by decide +kernel
theorem dX16_short32_220 : decode cX16_short32 220 = .ok (.lload 4, 2) := by decide +kernel
theorem dX16_short32_222 : decode cX16_short32 222 = .ok (.lload 8, 2) := by decide +kernel
theorem dX16_short32_224 : decode cX16_short32 224 = .ok (.invokestatic 844, 3) := by decide +kernel
theorem dX16_short32_227 : decode cX16_short32 227 = .ok (.lreturn, 1) := by decide +kernel
noncomputable def fX16_short32 (h : pm_H) (a0 : Nat) (p1 : Int32) (p2 : Int64) (p3 : Int64) (p4 : Int64) (p5 : Int64) : Option (Int64 × pm_H) := pm_let (p5.toInt32 &&& 31) fun y1 => if p1 = 0 then ((fX16_zeros p3 32 1).bind fun v4 => some ((v4.toInt64, h))) else (if p1 = 1 then ((fX16_zeros p3 32 0).bind fun v7 => some ((v7.toInt64, h))) else (if p1 = 2 then ((fX16_ones p3).bind fun v10 => some ((v10.toInt64, h))) else (if p1 = 3 then (pm_let (fX16_plain p1 p3 p5) fun v13 => some ((v13, h))) else (if p1 = 4 then (pm_let (fX16_plain p1 p3 p5) fun v16 => some ((v16, h))) else (if p1 = 5 then (pm_let (fX16_plain p1 p3 p5) fun v19 => some ((v19, h))) else (if p1 = 6 then (if p1 = 6 then (if p1 = 6 then (if pm_kd h a0 = 16 then (fX16_divided h a0 (p1 - 6) p2 p4 (-2147483648)).bind fun v25 => some ((v25.1, v25.2)) else none) else (if p1 = 8 then (if pm_kd h a0 = 16 then (fX16_divided h a0 (p1 - 6) p2 p4 (-2147483648)).bind fun v32 => some ((v32.1, v32.2)) else none) else (if pm_kd h a0 = 16 then (fX16_divided h a0 (p1 - 6) p2 p5 (-2147483648)).bind fun v29 => some ((v29.1, v29.2)) else none))) else (if p1 = 8 then (if p1 = 6 then (if pm_kd h a0 = 16 then (fX16_divided h a0 (p1 - 6) p2 p4 (-2147483648)).bind fun v48 => some ((v48.1, v48.2)) else none) else (if p1 = 8 then (if pm_kd h a0 = 16 then (fX16_divided h a0 (p1 - 6) p2 p4 (-2147483648)).bind fun v55 => some ((v55.1, v55.2)) else none) else (if pm_kd h a0 = 16 then (fX16_divided h a0 (p1 - 6) p2 p5 (-2147483648)).bind fun v52 => some ((v52.1, v52.2)) else none))) else (if p1 = 6 then (if pm_kd h a0 = 16 then (fX16_divided h a0 (p1 - 6) p3 p4 (-2147483648)).bind fun v37 => some ((v37.1, v37.2)) else none) else (if p1 = 8 then (if pm_kd h a0 = 16 then (fX16_divided h a0 (p1 - 6) p3 p4 (-2147483648)).bind fun v44 => some ((v44.1, v44.2)) else none) else (if pm_kd h a0 = 16 then (fX16_divided h a0 (p1 - 6) p3 p5 (-2147483648)).bind fun v41 => some ((v41.1, v41.2)) else none))))) else (if p1 = 7 then (if p1 = 6 then (if p1 = 6 then (if pm_kd h a0 = 16 then (fX16_divided h a0 (p1 - 6) p2 p4 (-2147483648)).bind fun v61 => some ((v61.1, v61.2)) else none) else (if p1 = 8 then (if pm_kd h a0 = 16 then (fX16_divided h a0 (p1 - 6) p2 p4 (-2147483648)).bind fun v68 => some ((v68.1, v68.2)) else none) else (if pm_kd h a0 = 16 then (fX16_divided h a0 (p1 - 6) p2 p5 (-2147483648)).bind fun v65 => some ((v65.1, v65.2)) else none))) else (if p1 = 8 then (if p1 = 6 then (if pm_kd h a0 = 16 then (fX16_divided h a0 (p1 - 6) p2 p4 (-2147483648)).bind fun v84 => some ((v84.1, v84.2)) else none) else (if p1 = 8 then (if pm_kd h a0 = 16 then (fX16_divided h a0 (p1 - 6) p2 p4 (-2147483648)).bind fun v91 => some ((v91.1, v91.2)) else none) else (if pm_kd h a0 = 16 then (fX16_divided h a0 (p1 - 6) p2 p5 (-2147483648)).bind fun v88 => some ((v88.1, v88.2)) else none))) else (if p1 = 6 then (if pm_kd h a0 = 16 then (fX16_divided h a0 (p1 - 6) p3 p4 (-2147483648)).bind fun v73 => some ((v73.1, v73.2)) else none) else (if p1 = 8 then (if pm_kd h a0 = 16 then (fX16_divided h a0 (p1 - 6) p3 p4 (-2147483648)).bind fun v80 => some ((v80.1, v80.2)) else none) else (if pm_kd h a0 = 16 then (fX16_divided h a0 (p1 - 6) p3 p5 (-2147483648)).bind fun v77 => some ((v77.1, v77.2)) else none))))) else (if p1 = 8 then (if p1 = 6 then (if p1 = 6 then (if pm_kd h a0 = 16 then (fX16_divided h a0 (p1 - 6) p2 p4 (-2147483648)).bind fun v97 => some ((v97.1, v97.2)) else none) else (if p1 = 8 then (if pm_kd h a0 = 16 then (fX16_divided h a0 (p1 - 6) p2 p4 (-2147483648)).bind fun v104 => some ((v104.1, v104.2)) else none) else (if pm_kd h a0 = 16 then (fX16_divided h a0 (p1 - 6) p2 p5 (-2147483648)).bind fun v101 => some ((v101.1, v101.2)) else none))) else (if p1 = 8 then (if p1 = 6 then (if pm_kd h a0 = 16 then (fX16_divided h a0 (p1 - 6) p2 p4 (-2147483648)).bind fun v120 => some ((v120.1, v120.2)) else none) else (if p1 = 8 then (if pm_kd h a0 = 16 then (fX16_divided h a0 (p1 - 6) p2 p4 (-2147483648)).bind fun v127 => some ((v127.1, v127.2)) else none) else (if pm_kd h a0 = 16 then (fX16_divided h a0 (p1 - 6) p2 p5 (-2147483648)).bind fun v124 => some ((v124.1, v124.2)) else none))) else (if p1 = 6 then (if pm_kd h a0 = 16 then (fX16_divided h a0 (p1 - 6) p3 p4 (-2147483648)).bind fun v109 => some ((v109.1, v109.2)) else none) else (if p1 = 8 then (if pm_kd h a0 = 16 then (fX16_divided h a0 (p1 - 6) p3 p4 (-2147483648)).bind fun v116 => some ((v116.1, v116.2)) else none) else (if pm_kd h a0 = 16 then (fX16_divided h a0 (p1 - 6) p3 p5 (-2147483648)).bind fun v113 => some ((v113.1, v113.2)) else none))))) else (if p1 = 9 then (if p1 = 6 then (if p1 = 6 then (if pm_kd h a0 = 16 then (fX16_divided h a0 (p1 - 6) p2 p4 (-2147483648)).bind fun v133 => some ((v133.1, v133.2)) else none) else (if p1 = 8 then (if pm_kd h a0 = 16 then (fX16_divided h a0 (p1 - 6) p2 p4 (-2147483648)).bind fun v140 => some ((v140.1, v140.2)) else none) else (if pm_kd h a0 = 16 then (fX16_divided h a0 (p1 - 6) p2 p5 (-2147483648)).bind fun v137 => some ((v137.1, v137.2)) else none))) else (if p1 = 8 then (if p1 = 6 then (if pm_kd h a0 = 16 then (fX16_divided h a0 (p1 - 6) p2 p4 (-2147483648)).bind fun v156 => some ((v156.1, v156.2)) else none) else (if p1 = 8 then (if pm_kd h a0 = 16 then (fX16_divided h a0 (p1 - 6) p2 p4 (-2147483648)).bind fun v163 => some ((v163.1, v163.2)) else none) else (if pm_kd h a0 = 16 then (fX16_divided h a0 (p1 - 6) p2 p5 (-2147483648)).bind fun v160 => some ((v160.1, v160.2)) else none))) else (if p1 = 6 then (if pm_kd h a0 = 16 then (fX16_divided h a0 (p1 - 6) p3 p4 (-2147483648)).bind fun v145 => some ((v145.1, v145.2)) else none) else (if p1 = 8 then (if pm_kd h a0 = 16 then (fX16_divided h a0 (p1 - 6) p3 p4 (-2147483648)).bind fun v152 => some ((v152.1, v152.2)) else none) else (if pm_kd h a0 = 16 then (fX16_divided h a0 (p1 - 6) p3 p5 (-2147483648)).bind fun v149 => some ((v149.1, v149.2)) else none))))) else (if p1 = 10 then (pm_let (fX16_plain p1 p3 p5) fun v166 => some ((v166, h))) else (if p1 = 11 then (pm_let (fX16_plain p1 p3 p5) fun v169 => some ((v169, h))) else (if p1 = 12 then (pm_let (fX16_plain p1 p3 p5) fun v172 => some ((v172, h))) else (if p1 = 13 then (some ((p3 <<< (y1.toInt64 &&& 63), h))) else (if p1 = 14 then (some ((p2 >>> (y1.toInt64 &&& 63), h))) else (if p1 = 15 then (some (((p3.toUInt64 >>> (y1.toInt64.toUInt64 &&& Int64.toUInt64 63)).toInt64, h))) else (if p1 = 16 then (some (((p3 <<< (y1.toInt64 &&& 63)) ||| ((p3.toUInt64 >>> ((32 - y1).toInt64.toUInt64 &&& Int64.toUInt64 63)).toInt64), h))) else (if p1 = 17 then (some ((((p3.toUInt64 >>> (y1.toInt64.toUInt64 &&& Int64.toUInt64 63)).toInt64) ||| (p3 <<< ((32 - y1).toInt64 &&& 63)), h))) else (pm_let (fX16_plain p1 p3 p5) fun v179 => some ((v179, h))))))))))))))))))))
set_option maxHeartbeats 4000000 in
set_option maxRecDepth 100000 in
theorem ctX16_short32 {l : Launch} {G : pm_Gl} {h : pm_H} {a0 : Nat} {p1 : Int32} {p2 : Int64} {p3 : Int64} {p4 : Int64} {p5 : Int64} {r : (Int64 × pm_H)} {Qr : Option Value → pm_H → Prop} (hf : fX16_short32 h a0 p1 p2 p3 p4 p5 = some r) (q : Qr (some (.long r.1)) r.2) : pm_Ct l G mX16_short32 [.ref a0, .int p1, .long p2, .long p3, .long p4, .long p5] h 0 0 Qr := by
  refine pm_body pnX16 (Nat.le_of_ble_eq_true rfl) (fun g C X => ?_)
  have C : pm_C g cX16_short32 RX16 := C
  show pm_G g 0 [(0, .ref a0), (1, .int p1), (2, .long p2), (4, .long p3), (6, .long p4), (8, .long p5)] [] h 0 0
  unfold fX16_short32 at hf
  refine pm_lload C dX16_short32_0 rfl ?_
  refine pm_l2i C dX16_short32_2 ?_
  refine pm_bipush (v := 31) C dX16_short32_3 (by decide) ?_
  refine pm_iand C dX16_short32_5 ?_
  obtain ⟨y1, e2, hf⟩ := pm_lt hf
  refine pm_topI e2 ?_
  refine pm_istore (lv' := [(10, .int y1), (0, .ref a0), (1, .int p1), (2, .long p2), (4, .long p3), (6, .long p4), (8, .long p5)]) C dX16_short32_6 (pm_nl X (by decide)) rfl ?_
  refine pm_iload_n C dX16_short32_8 rfl rfl ?_
  by_cases c3 : p1 = 0
  · have hf := pm_it hf c3
    refine pm_tableIn (tgt := 96) C dX16_short32_9 (by rw [c3]; decide) (by rw [c3]; decide) (by rw [c3]; rfl) (by decide) ?_
    refine pm_lload C dX16_short32_96 rfl ?_
    refine pm_bipush (v := 32) C dX16_short32_98 (by decide) ?_
    refine pm_iconst (v := 1) C dX16_short32_100 (by decide) ?_
    obtain ⟨v4, e5, hf⟩ := pm_bd hf
    refine pm_callS (as := [.long p3, .int 32, .int 1]) (st := []) C X dX16_short32_101 lnX16_831 myX16_zeros stX16_zeros ⟨by decide, by decide⟩ rfl rfl (Nat.le_of_ble_eq_true rfl) (Nat.le_refl _) (Nat.le_refl _) (ctX16_zeros e5 ?_)
    show pm_G g 104 [(10, .int y1), (0, .ref a0), (1, .int p1), (2, .long p2), (4, .long p3), (6, .long p4), (8, .long p5)] [.int v4] h 0 0
    refine pm_i2l C dX16_short32_104 ?_
    cases hf
    exact pm_lret C X dX16_short32_105 rfl (Nat.le_refl _) (Nat.le_refl _) q
  have hf := pm_ie hf c3
  by_cases c6 : p1 = 1
  · have hf := pm_it hf c6
    refine pm_tableIn (tgt := 106) C dX16_short32_9 (by rw [c6]; decide) (by rw [c6]; decide) (by rw [c6]; rfl) (by decide) ?_
    refine pm_lload C dX16_short32_106 rfl ?_
    refine pm_bipush (v := 32) C dX16_short32_108 (by decide) ?_
    refine pm_iconst (v := 0) C dX16_short32_110 (by decide) ?_
    obtain ⟨v7, e8, hf⟩ := pm_bd hf
    refine pm_callS (as := [.long p3, .int 32, .int 0]) (st := []) C X dX16_short32_111 lnX16_831 myX16_zeros stX16_zeros ⟨by decide, by decide⟩ rfl rfl (Nat.le_of_ble_eq_true rfl) (Nat.le_refl _) (Nat.le_refl _) (ctX16_zeros e8 ?_)
    show pm_G g 114 [(10, .int y1), (0, .ref a0), (1, .int p1), (2, .long p2), (4, .long p3), (6, .long p4), (8, .long p5)] [.int v7] h 0 0
    refine pm_i2l C dX16_short32_114 ?_
    cases hf
    exact pm_lret C X dX16_short32_115 rfl (Nat.le_refl _) (Nat.le_refl _) q
  have hf := pm_ie hf c6
  by_cases c9 : p1 = 2
  · have hf := pm_it hf c9
    refine pm_tableIn (tgt := 116) C dX16_short32_9 (by rw [c9]; decide) (by rw [c9]; decide) (by rw [c9]; rfl) (by decide) ?_
    refine pm_lload C dX16_short32_116 rfl ?_
    obtain ⟨v10, e11, hf⟩ := pm_bd hf
    refine pm_callS (as := [.long p3]) (st := []) C X dX16_short32_118 lnX16_835 myX16_ones stX16_ones ⟨by decide, by decide⟩ rfl rfl (Nat.le_of_ble_eq_true rfl) (Nat.le_refl _) (Nat.le_refl _) (ctX16_ones e11 ?_)
    show pm_G g 121 [(10, .int y1), (0, .ref a0), (1, .int p1), (2, .long p2), (4, .long p3), (6, .long p4), (8, .long p5)] [.int v10] h 0 0
    refine pm_i2l C dX16_short32_121 ?_
    cases hf
    exact pm_lret C X dX16_short32_122 rfl (Nat.le_refl _) (Nat.le_refl _) q
  have hf := pm_ie hf c9
  by_cases c12 : p1 = 3
  · have hf := pm_it hf c12
    refine pm_tableIn (tgt := 219) C dX16_short32_9 (by rw [c12]; decide) (by rw [c12]; decide) (by rw [c12]; rfl) (by decide) ?_
    refine pm_iload_n C dX16_short32_219 rfl rfl ?_
    refine pm_lload C dX16_short32_220 rfl ?_
    refine pm_lload C dX16_short32_222 rfl ?_
    obtain ⟨v13, e14, hf⟩ := pm_lt hf
    refine pm_callS (as := [.int p1, .long p3, .long p5]) (st := []) C X dX16_short32_224 lnX16_844 myX16_plain stX16_plain ⟨by decide, by decide⟩ rfl rfl (Nat.le_of_ble_eq_true rfl) (Nat.le_refl _) (Nat.le_refl _) (ctX16_plain e14 ?_)
    show pm_G g 227 [(10, .int y1), (0, .ref a0), (1, .int p1), (2, .long p2), (4, .long p3), (6, .long p4), (8, .long p5)] [.long v13] h 0 0
    cases hf
    exact pm_lret C X dX16_short32_227 rfl (Nat.le_refl _) (Nat.le_refl _) q
  have hf := pm_ie hf c12
  by_cases c15 : p1 = 4
  · have hf := pm_it hf c15
    refine pm_tableIn (tgt := 219) C dX16_short32_9 (by rw [c15]; decide) (by rw [c15]; decide) (by rw [c15]; rfl) (by decide) ?_
    refine pm_iload_n C dX16_short32_219 rfl rfl ?_
    refine pm_lload C dX16_short32_220 rfl ?_
    refine pm_lload C dX16_short32_222 rfl ?_
    obtain ⟨v16, e17, hf⟩ := pm_lt hf
    refine pm_callS (as := [.int p1, .long p3, .long p5]) (st := []) C X dX16_short32_224 lnX16_844 myX16_plain stX16_plain ⟨by decide, by decide⟩ rfl rfl (Nat.le_of_ble_eq_true rfl) (Nat.le_refl _) (Nat.le_refl _) (ctX16_plain e17 ?_)
    show pm_G g 227 [(10, .int y1), (0, .ref a0), (1, .int p1), (2, .long p2), (4, .long p3), (6, .long p4), (8, .long p5)] [.long v16] h 0 0
    cases hf
    exact pm_lret C X dX16_short32_227 rfl (Nat.le_refl _) (Nat.le_refl _) q
  have hf := pm_ie hf c15
  by_cases c18 : p1 = 5
  · have hf := pm_it hf c18
    refine pm_tableIn (tgt := 219) C dX16_short32_9 (by rw [c18]; decide) (by rw [c18]; decide) (by rw [c18]; rfl) (by decide) ?_
    refine pm_iload_n C dX16_short32_219 rfl rfl ?_
    refine pm_lload C dX16_short32_220 rfl ?_
    refine pm_lload C dX16_short32_222 rfl ?_
    obtain ⟨v19, e20, hf⟩ := pm_lt hf
    refine pm_callS (as := [.int p1, .long p3, .long p5]) (st := []) C X dX16_short32_224 lnX16_844 myX16_plain stX16_plain ⟨by decide, by decide⟩ rfl rfl (Nat.le_of_ble_eq_true rfl) (Nat.le_refl _) (Nat.le_refl _) (ctX16_plain e20 ?_)
    show pm_G g 227 [(10, .int y1), (0, .ref a0), (1, .int p1), (2, .long p2), (4, .long p3), (6, .long p4), (8, .long p5)] [.long v19] h 0 0
    cases hf
    exact pm_lret C X dX16_short32_227 rfl (Nat.le_refl _) (Nat.le_refl _) q
  have hf := pm_ie hf c18
  by_cases c21 : p1 = 6
  · have hf := pm_it hf c21
    refine pm_tableIn (tgt := 123) C dX16_short32_9 (by rw [c21]; decide) (by rw [c21]; decide) (by rw [c21]; rfl) (by decide) ?_
    refine pm_aload_n C dX16_short32_123 rfl rfl ?_
    refine pm_iload_n C dX16_short32_124 rfl rfl ?_
    refine pm_bipush (v := 6) C dX16_short32_125 (by decide) ?_
    refine pm_isub C dX16_short32_127 ?_
    refine pm_iload_n C dX16_short32_128 rfl rfl ?_
    refine pm_bipush (v := 6) C dX16_short32_129 (by decide) ?_
    refine pm_icmp_eq (tgt := 140) C dX16_short32_131 (by decide) (fun c22 => ?_) (fun c22 => ?_)
    · have hf := pm_it hf c22
      refine pm_lload_n C dX16_short32_140 rfl rfl ?_
      refine pm_goto (tgt := 146) C dX16_short32_141 (by decide) ?_
      refine pm_iload_n C dX16_short32_146 rfl rfl ?_
      refine pm_bipush (v := 6) C dX16_short32_147 (by decide) ?_
      refine pm_icmp_eq (tgt := 158) C dX16_short32_149 (by decide) (fun c23 => ?_) (fun c23 => ?_)
      · have hf := pm_it hf c23
        refine pm_lload C dX16_short32_158 rfl ?_
        refine pm_goto (tgt := 165) C dX16_short32_160 (by decide) ?_
        refine pm_ldc2 C dX16_short32_165 cnX16_838 ?_
        obtain ⟨k24, hf⟩ := pm_if hf
        obtain ⟨v25, e26, hf⟩ := pm_bd hf
        refine pm_callV (as := [.int (p1 - 6), .long p2, .long p4, .long (-2147483648)]) (st := []) C X dX16_short32_168 lnX16_840 myX16_divided viX16_divided ⟨by decide, by decide⟩ rfl rfl k24 (Nat.le_of_ble_eq_true rfl) (Nat.le_refl _) (Nat.le_refl _) (ctX16_divided e26 ?_)
        show pm_G g 171 [(10, .int y1), (0, .ref a0), (1, .int p1), (2, .long p2), (4, .long p3), (6, .long p4), (8, .long p5)] [.long v25.1] v25.2 0 0
        cases hf
        exact pm_lret C X dX16_short32_171 rfl (Nat.le_refl _) (Nat.le_refl _) q
      · have hf := pm_ie hf c23
        refine pm_iload_n C dX16_short32_152 rfl rfl ?_
        refine pm_bipush (v := 8) C dX16_short32_153 (by decide) ?_
        refine pm_icmp_ne (tgt := 163) C dX16_short32_155 (by decide) (fun c27 => ?_) (fun c27 => ?_)
        · have hf := pm_ie hf c27
          refine pm_lload C dX16_short32_163 rfl ?_
          refine pm_ldc2 C dX16_short32_165 cnX16_838 ?_
          obtain ⟨k28, hf⟩ := pm_if hf
          obtain ⟨v29, e30, hf⟩ := pm_bd hf
          refine pm_callV (as := [.int (p1 - 6), .long p2, .long p5, .long (-2147483648)]) (st := []) C X dX16_short32_168 lnX16_840 myX16_divided viX16_divided ⟨by decide, by decide⟩ rfl rfl k28 (Nat.le_of_ble_eq_true rfl) (Nat.le_refl _) (Nat.le_refl _) (ctX16_divided e30 ?_)
          show pm_G g 171 [(10, .int y1), (0, .ref a0), (1, .int p1), (2, .long p2), (4, .long p3), (6, .long p4), (8, .long p5)] [.long v29.1] v29.2 0 0
          cases hf
          exact pm_lret C X dX16_short32_171 rfl (Nat.le_refl _) (Nat.le_refl _) q
        · have hf := pm_it hf c27
          refine pm_lload C dX16_short32_158 rfl ?_
          refine pm_goto (tgt := 165) C dX16_short32_160 (by decide) ?_
          refine pm_ldc2 C dX16_short32_165 cnX16_838 ?_
          obtain ⟨k31, hf⟩ := pm_if hf
          obtain ⟨v32, e33, hf⟩ := pm_bd hf
          refine pm_callV (as := [.int (p1 - 6), .long p2, .long p4, .long (-2147483648)]) (st := []) C X dX16_short32_168 lnX16_840 myX16_divided viX16_divided ⟨by decide, by decide⟩ rfl rfl k31 (Nat.le_of_ble_eq_true rfl) (Nat.le_refl _) (Nat.le_refl _) (ctX16_divided e33 ?_)
          show pm_G g 171 [(10, .int y1), (0, .ref a0), (1, .int p1), (2, .long p2), (4, .long p3), (6, .long p4), (8, .long p5)] [.long v32.1] v32.2 0 0
          cases hf
          exact pm_lret C X dX16_short32_171 rfl (Nat.le_refl _) (Nat.le_refl _) q
    · have hf := pm_ie hf c22
      refine pm_iload_n C dX16_short32_134 rfl rfl ?_
      refine pm_bipush (v := 8) C dX16_short32_135 (by decide) ?_
      refine pm_icmp_ne (tgt := 144) C dX16_short32_137 (by decide) (fun c34 => ?_) (fun c34 => ?_)
      · have hf := pm_ie hf c34
        refine pm_lload C dX16_short32_144 rfl ?_
        refine pm_iload_n C dX16_short32_146 rfl rfl ?_
        refine pm_bipush (v := 6) C dX16_short32_147 (by decide) ?_
        refine pm_icmp_eq (tgt := 158) C dX16_short32_149 (by decide) (fun c35 => ?_) (fun c35 => ?_)
        · have hf := pm_it hf c35
          refine pm_lload C dX16_short32_158 rfl ?_
          refine pm_goto (tgt := 165) C dX16_short32_160 (by decide) ?_
          refine pm_ldc2 C dX16_short32_165 cnX16_838 ?_
          obtain ⟨k36, hf⟩ := pm_if hf
          obtain ⟨v37, e38, hf⟩ := pm_bd hf
          refine pm_callV (as := [.int (p1 - 6), .long p3, .long p4, .long (-2147483648)]) (st := []) C X dX16_short32_168 lnX16_840 myX16_divided viX16_divided ⟨by decide, by decide⟩ rfl rfl k36 (Nat.le_of_ble_eq_true rfl) (Nat.le_refl _) (Nat.le_refl _) (ctX16_divided e38 ?_)
          show pm_G g 171 [(10, .int y1), (0, .ref a0), (1, .int p1), (2, .long p2), (4, .long p3), (6, .long p4), (8, .long p5)] [.long v37.1] v37.2 0 0
          cases hf
          exact pm_lret C X dX16_short32_171 rfl (Nat.le_refl _) (Nat.le_refl _) q
        · have hf := pm_ie hf c35
          refine pm_iload_n C dX16_short32_152 rfl rfl ?_
          refine pm_bipush (v := 8) C dX16_short32_153 (by decide) ?_
          refine pm_icmp_ne (tgt := 163) C dX16_short32_155 (by decide) (fun c39 => ?_) (fun c39 => ?_)
          · have hf := pm_ie hf c39
            refine pm_lload C dX16_short32_163 rfl ?_
            refine pm_ldc2 C dX16_short32_165 cnX16_838 ?_
            obtain ⟨k40, hf⟩ := pm_if hf
            obtain ⟨v41, e42, hf⟩ := pm_bd hf
            refine pm_callV (as := [.int (p1 - 6), .long p3, .long p5, .long (-2147483648)]) (st := []) C X dX16_short32_168 lnX16_840 myX16_divided viX16_divided ⟨by decide, by decide⟩ rfl rfl k40 (Nat.le_of_ble_eq_true rfl) (Nat.le_refl _) (Nat.le_refl _) (ctX16_divided e42 ?_)
            show pm_G g 171 [(10, .int y1), (0, .ref a0), (1, .int p1), (2, .long p2), (4, .long p3), (6, .long p4), (8, .long p5)] [.long v41.1] v41.2 0 0
            cases hf
            exact pm_lret C X dX16_short32_171 rfl (Nat.le_refl _) (Nat.le_refl _) q
          · have hf := pm_it hf c39
            refine pm_lload C dX16_short32_158 rfl ?_
            refine pm_goto (tgt := 165) C dX16_short32_160 (by decide) ?_
            refine pm_ldc2 C dX16_short32_165 cnX16_838 ?_
            obtain ⟨k43, hf⟩ := pm_if hf
            obtain ⟨v44, e45, hf⟩ := pm_bd hf
            refine pm_callV (as := [.int (p1 - 6), .long p3, .long p4, .long (-2147483648)]) (st := []) C X dX16_short32_168 lnX16_840 myX16_divided viX16_divided ⟨by decide, by decide⟩ rfl rfl k43 (Nat.le_of_ble_eq_true rfl) (Nat.le_refl _) (Nat.le_refl _) (ctX16_divided e45 ?_)
            show pm_G g 171 [(10, .int y1), (0, .ref a0), (1, .int p1), (2, .long p2), (4, .long p3), (6, .long p4), (8, .long p5)] [.long v44.1] v44.2 0 0
            cases hf
            exact pm_lret C X dX16_short32_171 rfl (Nat.le_refl _) (Nat.le_refl _) q
      · have hf := pm_it hf c34
        refine pm_lload_n C dX16_short32_140 rfl rfl ?_
        refine pm_goto (tgt := 146) C dX16_short32_141 (by decide) ?_
        refine pm_iload_n C dX16_short32_146 rfl rfl ?_
        refine pm_bipush (v := 6) C dX16_short32_147 (by decide) ?_
        refine pm_icmp_eq (tgt := 158) C dX16_short32_149 (by decide) (fun c46 => ?_) (fun c46 => ?_)
        · have hf := pm_it hf c46
          refine pm_lload C dX16_short32_158 rfl ?_
          refine pm_goto (tgt := 165) C dX16_short32_160 (by decide) ?_
          refine pm_ldc2 C dX16_short32_165 cnX16_838 ?_
          obtain ⟨k47, hf⟩ := pm_if hf
          obtain ⟨v48, e49, hf⟩ := pm_bd hf
          refine pm_callV (as := [.int (p1 - 6), .long p2, .long p4, .long (-2147483648)]) (st := []) C X dX16_short32_168 lnX16_840 myX16_divided viX16_divided ⟨by decide, by decide⟩ rfl rfl k47 (Nat.le_of_ble_eq_true rfl) (Nat.le_refl _) (Nat.le_refl _) (ctX16_divided e49 ?_)
          show pm_G g 171 [(10, .int y1), (0, .ref a0), (1, .int p1), (2, .long p2), (4, .long p3), (6, .long p4), (8, .long p5)] [.long v48.1] v48.2 0 0
          cases hf
          exact pm_lret C X dX16_short32_171 rfl (Nat.le_refl _) (Nat.le_refl _) q
        · have hf := pm_ie hf c46
          refine pm_iload_n C dX16_short32_152 rfl rfl ?_
          refine pm_bipush (v := 8) C dX16_short32_153 (by decide) ?_
          refine pm_icmp_ne (tgt := 163) C dX16_short32_155 (by decide) (fun c50 => ?_) (fun c50 => ?_)
          · have hf := pm_ie hf c50
            refine pm_lload C dX16_short32_163 rfl ?_
            refine pm_ldc2 C dX16_short32_165 cnX16_838 ?_
            obtain ⟨k51, hf⟩ := pm_if hf
            obtain ⟨v52, e53, hf⟩ := pm_bd hf
            refine pm_callV (as := [.int (p1 - 6), .long p2, .long p5, .long (-2147483648)]) (st := []) C X dX16_short32_168 lnX16_840 myX16_divided viX16_divided ⟨by decide, by decide⟩ rfl rfl k51 (Nat.le_of_ble_eq_true rfl) (Nat.le_refl _) (Nat.le_refl _) (ctX16_divided e53 ?_)
            show pm_G g 171 [(10, .int y1), (0, .ref a0), (1, .int p1), (2, .long p2), (4, .long p3), (6, .long p4), (8, .long p5)] [.long v52.1] v52.2 0 0
            cases hf
            exact pm_lret C X dX16_short32_171 rfl (Nat.le_refl _) (Nat.le_refl _) q
          · have hf := pm_it hf c50
            refine pm_lload C dX16_short32_158 rfl ?_
            refine pm_goto (tgt := 165) C dX16_short32_160 (by decide) ?_
            refine pm_ldc2 C dX16_short32_165 cnX16_838 ?_
            obtain ⟨k54, hf⟩ := pm_if hf
            obtain ⟨v55, e56, hf⟩ := pm_bd hf
            refine pm_callV (as := [.int (p1 - 6), .long p2, .long p4, .long (-2147483648)]) (st := []) C X dX16_short32_168 lnX16_840 myX16_divided viX16_divided ⟨by decide, by decide⟩ rfl rfl k54 (Nat.le_of_ble_eq_true rfl) (Nat.le_refl _) (Nat.le_refl _) (ctX16_divided e56 ?_)
            show pm_G g 171 [(10, .int y1), (0, .ref a0), (1, .int p1), (2, .long p2), (4, .long p3), (6, .long p4), (8, .long p5)] [.long v55.1] v55.2 0 0
            cases hf
            exact pm_lret C X dX16_short32_171 rfl (Nat.le_refl _) (Nat.le_refl _) q
  have hf := pm_ie hf c21
  by_cases c57 : p1 = 7
  · have hf := pm_it hf c57
    refine pm_tableIn (tgt := 123) C dX16_short32_9 (by rw [c57]; decide) (by rw [c57]; decide) (by rw [c57]; rfl) (by decide) ?_
    refine pm_aload_n C dX16_short32_123 rfl rfl ?_
    refine pm_iload_n C dX16_short32_124 rfl rfl ?_
    refine pm_bipush (v := 6) C dX16_short32_125 (by decide) ?_
    refine pm_isub C dX16_short32_127 ?_
    refine pm_iload_n C dX16_short32_128 rfl rfl ?_
    refine pm_bipush (v := 6) C dX16_short32_129 (by decide) ?_
    refine pm_icmp_eq (tgt := 140) C dX16_short32_131 (by decide) (fun c58 => ?_) (fun c58 => ?_)
    · have hf := pm_it hf c58
      refine pm_lload_n C dX16_short32_140 rfl rfl ?_
      refine pm_goto (tgt := 146) C dX16_short32_141 (by decide) ?_
      refine pm_iload_n C dX16_short32_146 rfl rfl ?_
      refine pm_bipush (v := 6) C dX16_short32_147 (by decide) ?_
      refine pm_icmp_eq (tgt := 158) C dX16_short32_149 (by decide) (fun c59 => ?_) (fun c59 => ?_)
      · have hf := pm_it hf c59
        refine pm_lload C dX16_short32_158 rfl ?_
        refine pm_goto (tgt := 165) C dX16_short32_160 (by decide) ?_
        refine pm_ldc2 C dX16_short32_165 cnX16_838 ?_
        obtain ⟨k60, hf⟩ := pm_if hf
        obtain ⟨v61, e62, hf⟩ := pm_bd hf
        refine pm_callV (as := [.int (p1 - 6), .long p2, .long p4, .long (-2147483648)]) (st := []) C X dX16_short32_168 lnX16_840 myX16_divided viX16_divided ⟨by decide, by decide⟩ rfl rfl k60 (Nat.le_of_ble_eq_true rfl) (Nat.le_refl _) (Nat.le_refl _) (ctX16_divided e62 ?_)
        show pm_G g 171 [(10, .int y1), (0, .ref a0), (1, .int p1), (2, .long p2), (4, .long p3), (6, .long p4), (8, .long p5)] [.long v61.1] v61.2 0 0
        cases hf
        exact pm_lret C X dX16_short32_171 rfl (Nat.le_refl _) (Nat.le_refl _) q
      · have hf := pm_ie hf c59
        refine pm_iload_n C dX16_short32_152 rfl rfl ?_
        refine pm_bipush (v := 8) C dX16_short32_153 (by decide) ?_
        refine pm_icmp_ne (tgt := 163) C dX16_short32_155 (by decide) (fun c63 => ?_) (fun c63 => ?_)
        · have hf := pm_ie hf c63
          refine pm_lload C dX16_short32_163 rfl ?_
          refine pm_ldc2 C dX16_short32_165 cnX16_838 ?_
          obtain ⟨k64, hf⟩ := pm_if hf
          obtain ⟨v65, e66, hf⟩ := pm_bd hf
          refine pm_callV (as := [.int (p1 - 6), .long p2, .long p5, .long (-2147483648)]) (st := []) C X dX16_short32_168 lnX16_840 myX16_divided viX16_divided ⟨by decide, by decide⟩ rfl rfl k64 (Nat.le_of_ble_eq_true rfl) (Nat.le_refl _) (Nat.le_refl _) (ctX16_divided e66 ?_)
          show pm_G g 171 [(10, .int y1), (0, .ref a0), (1, .int p1), (2, .long p2), (4, .long p3), (6, .long p4), (8, .long p5)] [.long v65.1] v65.2 0 0
          cases hf
          exact pm_lret C X dX16_short32_171 rfl (Nat.le_refl _) (Nat.le_refl _) q
        · have hf := pm_it hf c63
          refine pm_lload C dX16_short32_158 rfl ?_
          refine pm_goto (tgt := 165) C dX16_short32_160 (by decide) ?_
          refine pm_ldc2 C dX16_short32_165 cnX16_838 ?_
          obtain ⟨k67, hf⟩ := pm_if hf
          obtain ⟨v68, e69, hf⟩ := pm_bd hf
          refine pm_callV (as := [.int (p1 - 6), .long p2, .long p4, .long (-2147483648)]) (st := []) C X dX16_short32_168 lnX16_840 myX16_divided viX16_divided ⟨by decide, by decide⟩ rfl rfl k67 (Nat.le_of_ble_eq_true rfl) (Nat.le_refl _) (Nat.le_refl _) (ctX16_divided e69 ?_)
          show pm_G g 171 [(10, .int y1), (0, .ref a0), (1, .int p1), (2, .long p2), (4, .long p3), (6, .long p4), (8, .long p5)] [.long v68.1] v68.2 0 0
          cases hf
          exact pm_lret C X dX16_short32_171 rfl (Nat.le_refl _) (Nat.le_refl _) q
    · have hf := pm_ie hf c58
      refine pm_iload_n C dX16_short32_134 rfl rfl ?_
      refine pm_bipush (v := 8) C dX16_short32_135 (by decide) ?_
      refine pm_icmp_ne (tgt := 144) C dX16_short32_137 (by decide) (fun c70 => ?_) (fun c70 => ?_)
      · have hf := pm_ie hf c70
        refine pm_lload C dX16_short32_144 rfl ?_
        refine pm_iload_n C dX16_short32_146 rfl rfl ?_
        refine pm_bipush (v := 6) C dX16_short32_147 (by decide) ?_
        refine pm_icmp_eq (tgt := 158) C dX16_short32_149 (by decide) (fun c71 => ?_) (fun c71 => ?_)
        · have hf := pm_it hf c71
          refine pm_lload C dX16_short32_158 rfl ?_
          refine pm_goto (tgt := 165) C dX16_short32_160 (by decide) ?_
          refine pm_ldc2 C dX16_short32_165 cnX16_838 ?_
          obtain ⟨k72, hf⟩ := pm_if hf
          obtain ⟨v73, e74, hf⟩ := pm_bd hf
          refine pm_callV (as := [.int (p1 - 6), .long p3, .long p4, .long (-2147483648)]) (st := []) C X dX16_short32_168 lnX16_840 myX16_divided viX16_divided ⟨by decide, by decide⟩ rfl rfl k72 (Nat.le_of_ble_eq_true rfl) (Nat.le_refl _) (Nat.le_refl _) (ctX16_divided e74 ?_)
          show pm_G g 171 [(10, .int y1), (0, .ref a0), (1, .int p1), (2, .long p2), (4, .long p3), (6, .long p4), (8, .long p5)] [.long v73.1] v73.2 0 0
          cases hf
          exact pm_lret C X dX16_short32_171 rfl (Nat.le_refl _) (Nat.le_refl _) q
        · have hf := pm_ie hf c71
          refine pm_iload_n C dX16_short32_152 rfl rfl ?_
          refine pm_bipush (v := 8) C dX16_short32_153 (by decide) ?_
          refine pm_icmp_ne (tgt := 163) C dX16_short32_155 (by decide) (fun c75 => ?_) (fun c75 => ?_)
          · have hf := pm_ie hf c75
            refine pm_lload C dX16_short32_163 rfl ?_
            refine pm_ldc2 C dX16_short32_165 cnX16_838 ?_
            obtain ⟨k76, hf⟩ := pm_if hf
            obtain ⟨v77, e78, hf⟩ := pm_bd hf
            refine pm_callV (as := [.int (p1 - 6), .long p3, .long p5, .long (-2147483648)]) (st := []) C X dX16_short32_168 lnX16_840 myX16_divided viX16_divided ⟨by decide, by decide⟩ rfl rfl k76 (Nat.le_of_ble_eq_true rfl) (Nat.le_refl _) (Nat.le_refl _) (ctX16_divided e78 ?_)
            show pm_G g 171 [(10, .int y1), (0, .ref a0), (1, .int p1), (2, .long p2), (4, .long p3), (6, .long p4), (8, .long p5)] [.long v77.1] v77.2 0 0
            cases hf
            exact pm_lret C X dX16_short32_171 rfl (Nat.le_refl _) (Nat.le_refl _) q
          · have hf := pm_it hf c75
            refine pm_lload C dX16_short32_158 rfl ?_
            refine pm_goto (tgt := 165) C dX16_short32_160 (by decide) ?_
            refine pm_ldc2 C dX16_short32_165 cnX16_838 ?_
            obtain ⟨k79, hf⟩ := pm_if hf
            obtain ⟨v80, e81, hf⟩ := pm_bd hf
            refine pm_callV (as := [.int (p1 - 6), .long p3, .long p4, .long (-2147483648)]) (st := []) C X dX16_short32_168 lnX16_840 myX16_divided viX16_divided ⟨by decide, by decide⟩ rfl rfl k79 (Nat.le_of_ble_eq_true rfl) (Nat.le_refl _) (Nat.le_refl _) (ctX16_divided e81 ?_)
            show pm_G g 171 [(10, .int y1), (0, .ref a0), (1, .int p1), (2, .long p2), (4, .long p3), (6, .long p4), (8, .long p5)] [.long v80.1] v80.2 0 0
            cases hf
            exact pm_lret C X dX16_short32_171 rfl (Nat.le_refl _) (Nat.le_refl _) q
      · have hf := pm_it hf c70
        refine pm_lload_n C dX16_short32_140 rfl rfl ?_
        refine pm_goto (tgt := 146) C dX16_short32_141 (by decide) ?_
        refine pm_iload_n C dX16_short32_146 rfl rfl ?_
        refine pm_bipush (v := 6) C dX16_short32_147 (by decide) ?_
        refine pm_icmp_eq (tgt := 158) C dX16_short32_149 (by decide) (fun c82 => ?_) (fun c82 => ?_)
        · have hf := pm_it hf c82
          refine pm_lload C dX16_short32_158 rfl ?_
          refine pm_goto (tgt := 165) C dX16_short32_160 (by decide) ?_
          refine pm_ldc2 C dX16_short32_165 cnX16_838 ?_
          obtain ⟨k83, hf⟩ := pm_if hf
          obtain ⟨v84, e85, hf⟩ := pm_bd hf
          refine pm_callV (as := [.int (p1 - 6), .long p2, .long p4, .long (-2147483648)]) (st := []) C X dX16_short32_168 lnX16_840 myX16_divided viX16_divided ⟨by decide, by decide⟩ rfl rfl k83 (Nat.le_of_ble_eq_true rfl) (Nat.le_refl _) (Nat.le_refl _) (ctX16_divided e85 ?_)
          show pm_G g 171 [(10, .int y1), (0, .ref a0), (1, .int p1), (2, .long p2), (4, .long p3), (6, .long p4), (8, .long p5)] [.long v84.1] v84.2 0 0
          cases hf
          exact pm_lret C X dX16_short32_171 rfl (Nat.le_refl _) (Nat.le_refl _) q
        · have hf := pm_ie hf c82
          refine pm_iload_n C dX16_short32_152 rfl rfl ?_
          refine pm_bipush (v := 8) C dX16_short32_153 (by decide) ?_
          refine pm_icmp_ne (tgt := 163) C dX16_short32_155 (by decide) (fun c86 => ?_) (fun c86 => ?_)
          · have hf := pm_ie hf c86
            refine pm_lload C dX16_short32_163 rfl ?_
            refine pm_ldc2 C dX16_short32_165 cnX16_838 ?_
            obtain ⟨k87, hf⟩ := pm_if hf
            obtain ⟨v88, e89, hf⟩ := pm_bd hf
            refine pm_callV (as := [.int (p1 - 6), .long p2, .long p5, .long (-2147483648)]) (st := []) C X dX16_short32_168 lnX16_840 myX16_divided viX16_divided ⟨by decide, by decide⟩ rfl rfl k87 (Nat.le_of_ble_eq_true rfl) (Nat.le_refl _) (Nat.le_refl _) (ctX16_divided e89 ?_)
            show pm_G g 171 [(10, .int y1), (0, .ref a0), (1, .int p1), (2, .long p2), (4, .long p3), (6, .long p4), (8, .long p5)] [.long v88.1] v88.2 0 0
            cases hf
            exact pm_lret C X dX16_short32_171 rfl (Nat.le_refl _) (Nat.le_refl _) q
          · have hf := pm_it hf c86
            refine pm_lload C dX16_short32_158 rfl ?_
            refine pm_goto (tgt := 165) C dX16_short32_160 (by decide) ?_
            refine pm_ldc2 C dX16_short32_165 cnX16_838 ?_
            obtain ⟨k90, hf⟩ := pm_if hf
            obtain ⟨v91, e92, hf⟩ := pm_bd hf
            refine pm_callV (as := [.int (p1 - 6), .long p2, .long p4, .long (-2147483648)]) (st := []) C X dX16_short32_168 lnX16_840 myX16_divided viX16_divided ⟨by decide, by decide⟩ rfl rfl k90 (Nat.le_of_ble_eq_true rfl) (Nat.le_refl _) (Nat.le_refl _) (ctX16_divided e92 ?_)
            show pm_G g 171 [(10, .int y1), (0, .ref a0), (1, .int p1), (2, .long p2), (4, .long p3), (6, .long p4), (8, .long p5)] [.long v91.1] v91.2 0 0
            cases hf
            exact pm_lret C X dX16_short32_171 rfl (Nat.le_refl _) (Nat.le_refl _) q
  have hf := pm_ie hf c57
  by_cases c93 : p1 = 8
  · have hf := pm_it hf c93
    refine pm_tableIn (tgt := 123) C dX16_short32_9 (by rw [c93]; decide) (by rw [c93]; decide) (by rw [c93]; rfl) (by decide) ?_
    refine pm_aload_n C dX16_short32_123 rfl rfl ?_
    refine pm_iload_n C dX16_short32_124 rfl rfl ?_
    refine pm_bipush (v := 6) C dX16_short32_125 (by decide) ?_
    refine pm_isub C dX16_short32_127 ?_
    refine pm_iload_n C dX16_short32_128 rfl rfl ?_
    refine pm_bipush (v := 6) C dX16_short32_129 (by decide) ?_
    refine pm_icmp_eq (tgt := 140) C dX16_short32_131 (by decide) (fun c94 => ?_) (fun c94 => ?_)
    · have hf := pm_it hf c94
      refine pm_lload_n C dX16_short32_140 rfl rfl ?_
      refine pm_goto (tgt := 146) C dX16_short32_141 (by decide) ?_
      refine pm_iload_n C dX16_short32_146 rfl rfl ?_
      refine pm_bipush (v := 6) C dX16_short32_147 (by decide) ?_
      refine pm_icmp_eq (tgt := 158) C dX16_short32_149 (by decide) (fun c95 => ?_) (fun c95 => ?_)
      · have hf := pm_it hf c95
        refine pm_lload C dX16_short32_158 rfl ?_
        refine pm_goto (tgt := 165) C dX16_short32_160 (by decide) ?_
        refine pm_ldc2 C dX16_short32_165 cnX16_838 ?_
        obtain ⟨k96, hf⟩ := pm_if hf
        obtain ⟨v97, e98, hf⟩ := pm_bd hf
        refine pm_callV (as := [.int (p1 - 6), .long p2, .long p4, .long (-2147483648)]) (st := []) C X dX16_short32_168 lnX16_840 myX16_divided viX16_divided ⟨by decide, by decide⟩ rfl rfl k96 (Nat.le_of_ble_eq_true rfl) (Nat.le_refl _) (Nat.le_refl _) (ctX16_divided e98 ?_)
        show pm_G g 171 [(10, .int y1), (0, .ref a0), (1, .int p1), (2, .long p2), (4, .long p3), (6, .long p4), (8, .long p5)] [.long v97.1] v97.2 0 0
        cases hf
        exact pm_lret C X dX16_short32_171 rfl (Nat.le_refl _) (Nat.le_refl _) q
      · have hf := pm_ie hf c95
        refine pm_iload_n C dX16_short32_152 rfl rfl ?_
        refine pm_bipush (v := 8) C dX16_short32_153 (by decide) ?_
        refine pm_icmp_ne (tgt := 163) C dX16_short32_155 (by decide) (fun c99 => ?_) (fun c99 => ?_)
        · have hf := pm_ie hf c99
          refine pm_lload C dX16_short32_163 rfl ?_
          refine pm_ldc2 C dX16_short32_165 cnX16_838 ?_
          obtain ⟨k100, hf⟩ := pm_if hf
          obtain ⟨v101, e102, hf⟩ := pm_bd hf
          refine pm_callV (as := [.int (p1 - 6), .long p2, .long p5, .long (-2147483648)]) (st := []) C X dX16_short32_168 lnX16_840 myX16_divided viX16_divided ⟨by decide, by decide⟩ rfl rfl k100 (Nat.le_of_ble_eq_true rfl) (Nat.le_refl _) (Nat.le_refl _) (ctX16_divided e102 ?_)
          show pm_G g 171 [(10, .int y1), (0, .ref a0), (1, .int p1), (2, .long p2), (4, .long p3), (6, .long p4), (8, .long p5)] [.long v101.1] v101.2 0 0
          cases hf
          exact pm_lret C X dX16_short32_171 rfl (Nat.le_refl _) (Nat.le_refl _) q
        · have hf := pm_it hf c99
          refine pm_lload C dX16_short32_158 rfl ?_
          refine pm_goto (tgt := 165) C dX16_short32_160 (by decide) ?_
          refine pm_ldc2 C dX16_short32_165 cnX16_838 ?_
          obtain ⟨k103, hf⟩ := pm_if hf
          obtain ⟨v104, e105, hf⟩ := pm_bd hf
          refine pm_callV (as := [.int (p1 - 6), .long p2, .long p4, .long (-2147483648)]) (st := []) C X dX16_short32_168 lnX16_840 myX16_divided viX16_divided ⟨by decide, by decide⟩ rfl rfl k103 (Nat.le_of_ble_eq_true rfl) (Nat.le_refl _) (Nat.le_refl _) (ctX16_divided e105 ?_)
          show pm_G g 171 [(10, .int y1), (0, .ref a0), (1, .int p1), (2, .long p2), (4, .long p3), (6, .long p4), (8, .long p5)] [.long v104.1] v104.2 0 0
          cases hf
          exact pm_lret C X dX16_short32_171 rfl (Nat.le_refl _) (Nat.le_refl _) q
    · have hf := pm_ie hf c94
      refine pm_iload_n C dX16_short32_134 rfl rfl ?_
      refine pm_bipush (v := 8) C dX16_short32_135 (by decide) ?_
      refine pm_icmp_ne (tgt := 144) C dX16_short32_137 (by decide) (fun c106 => ?_) (fun c106 => ?_)
      · have hf := pm_ie hf c106
        refine pm_lload C dX16_short32_144 rfl ?_
        refine pm_iload_n C dX16_short32_146 rfl rfl ?_
        refine pm_bipush (v := 6) C dX16_short32_147 (by decide) ?_
        refine pm_icmp_eq (tgt := 158) C dX16_short32_149 (by decide) (fun c107 => ?_) (fun c107 => ?_)
        · have hf := pm_it hf c107
          refine pm_lload C dX16_short32_158 rfl ?_
          refine pm_goto (tgt := 165) C dX16_short32_160 (by decide) ?_
          refine pm_ldc2 C dX16_short32_165 cnX16_838 ?_
          obtain ⟨k108, hf⟩ := pm_if hf
          obtain ⟨v109, e110, hf⟩ := pm_bd hf
          refine pm_callV (as := [.int (p1 - 6), .long p3, .long p4, .long (-2147483648)]) (st := []) C X dX16_short32_168 lnX16_840 myX16_divided viX16_divided ⟨by decide, by decide⟩ rfl rfl k108 (Nat.le_of_ble_eq_true rfl) (Nat.le_refl _) (Nat.le_refl _) (ctX16_divided e110 ?_)
          show pm_G g 171 [(10, .int y1), (0, .ref a0), (1, .int p1), (2, .long p2), (4, .long p3), (6, .long p4), (8, .long p5)] [.long v109.1] v109.2 0 0
          cases hf
          exact pm_lret C X dX16_short32_171 rfl (Nat.le_refl _) (Nat.le_refl _) q
        · have hf := pm_ie hf c107
          refine pm_iload_n C dX16_short32_152 rfl rfl ?_
          refine pm_bipush (v := 8) C dX16_short32_153 (by decide) ?_
          refine pm_icmp_ne (tgt := 163) C dX16_short32_155 (by decide) (fun c111 => ?_) (fun c111 => ?_)
          · have hf := pm_ie hf c111
            refine pm_lload C dX16_short32_163 rfl ?_
            refine pm_ldc2 C dX16_short32_165 cnX16_838 ?_
            obtain ⟨k112, hf⟩ := pm_if hf
            obtain ⟨v113, e114, hf⟩ := pm_bd hf
            refine pm_callV (as := [.int (p1 - 6), .long p3, .long p5, .long (-2147483648)]) (st := []) C X dX16_short32_168 lnX16_840 myX16_divided viX16_divided ⟨by decide, by decide⟩ rfl rfl k112 (Nat.le_of_ble_eq_true rfl) (Nat.le_refl _) (Nat.le_refl _) (ctX16_divided e114 ?_)
            show pm_G g 171 [(10, .int y1), (0, .ref a0), (1, .int p1), (2, .long p2), (4, .long p3), (6, .long p4), (8, .long p5)] [.long v113.1] v113.2 0 0
            cases hf
            exact pm_lret C X dX16_short32_171 rfl (Nat.le_refl _) (Nat.le_refl _) q
          · have hf := pm_it hf c111
            refine pm_lload C dX16_short32_158 rfl ?_
            refine pm_goto (tgt := 165) C dX16_short32_160 (by decide) ?_
            refine pm_ldc2 C dX16_short32_165 cnX16_838 ?_
            obtain ⟨k115, hf⟩ := pm_if hf
            obtain ⟨v116, e117, hf⟩ := pm_bd hf
            refine pm_callV (as := [.int (p1 - 6), .long p3, .long p4, .long (-2147483648)]) (st := []) C X dX16_short32_168 lnX16_840 myX16_divided viX16_divided ⟨by decide, by decide⟩ rfl rfl k115 (Nat.le_of_ble_eq_true rfl) (Nat.le_refl _) (Nat.le_refl _) (ctX16_divided e117 ?_)
            show pm_G g 171 [(10, .int y1), (0, .ref a0), (1, .int p1), (2, .long p2), (4, .long p3), (6, .long p4), (8, .long p5)] [.long v116.1] v116.2 0 0
            cases hf
            exact pm_lret C X dX16_short32_171 rfl (Nat.le_refl _) (Nat.le_refl _) q
      · have hf := pm_it hf c106
        refine pm_lload_n C dX16_short32_140 rfl rfl ?_
        refine pm_goto (tgt := 146) C dX16_short32_141 (by decide) ?_
        refine pm_iload_n C dX16_short32_146 rfl rfl ?_
        refine pm_bipush (v := 6) C dX16_short32_147 (by decide) ?_
        refine pm_icmp_eq (tgt := 158) C dX16_short32_149 (by decide) (fun c118 => ?_) (fun c118 => ?_)
        · have hf := pm_it hf c118
          refine pm_lload C dX16_short32_158 rfl ?_
          refine pm_goto (tgt := 165) C dX16_short32_160 (by decide) ?_
          refine pm_ldc2 C dX16_short32_165 cnX16_838 ?_
          obtain ⟨k119, hf⟩ := pm_if hf
          obtain ⟨v120, e121, hf⟩ := pm_bd hf
          refine pm_callV (as := [.int (p1 - 6), .long p2, .long p4, .long (-2147483648)]) (st := []) C X dX16_short32_168 lnX16_840 myX16_divided viX16_divided ⟨by decide, by decide⟩ rfl rfl k119 (Nat.le_of_ble_eq_true rfl) (Nat.le_refl _) (Nat.le_refl _) (ctX16_divided e121 ?_)
          show pm_G g 171 [(10, .int y1), (0, .ref a0), (1, .int p1), (2, .long p2), (4, .long p3), (6, .long p4), (8, .long p5)] [.long v120.1] v120.2 0 0
          cases hf
          exact pm_lret C X dX16_short32_171 rfl (Nat.le_refl _) (Nat.le_refl _) q
        · have hf := pm_ie hf c118
          refine pm_iload_n C dX16_short32_152 rfl rfl ?_
          refine pm_bipush (v := 8) C dX16_short32_153 (by decide) ?_
          refine pm_icmp_ne (tgt := 163) C dX16_short32_155 (by decide) (fun c122 => ?_) (fun c122 => ?_)
          · have hf := pm_ie hf c122
            refine pm_lload C dX16_short32_163 rfl ?_
            refine pm_ldc2 C dX16_short32_165 cnX16_838 ?_
            obtain ⟨k123, hf⟩ := pm_if hf
            obtain ⟨v124, e125, hf⟩ := pm_bd hf
            refine pm_callV (as := [.int (p1 - 6), .long p2, .long p5, .long (-2147483648)]) (st := []) C X dX16_short32_168 lnX16_840 myX16_divided viX16_divided ⟨by decide, by decide⟩ rfl rfl k123 (Nat.le_of_ble_eq_true rfl) (Nat.le_refl _) (Nat.le_refl _) (ctX16_divided e125 ?_)
            show pm_G g 171 [(10, .int y1), (0, .ref a0), (1, .int p1), (2, .long p2), (4, .long p3), (6, .long p4), (8, .long p5)] [.long v124.1] v124.2 0 0
            cases hf
            exact pm_lret C X dX16_short32_171 rfl (Nat.le_refl _) (Nat.le_refl _) q
          · have hf := pm_it hf c122
            refine pm_lload C dX16_short32_158 rfl ?_
            refine pm_goto (tgt := 165) C dX16_short32_160 (by decide) ?_
            refine pm_ldc2 C dX16_short32_165 cnX16_838 ?_
            obtain ⟨k126, hf⟩ := pm_if hf
            obtain ⟨v127, e128, hf⟩ := pm_bd hf
            refine pm_callV (as := [.int (p1 - 6), .long p2, .long p4, .long (-2147483648)]) (st := []) C X dX16_short32_168 lnX16_840 myX16_divided viX16_divided ⟨by decide, by decide⟩ rfl rfl k126 (Nat.le_of_ble_eq_true rfl) (Nat.le_refl _) (Nat.le_refl _) (ctX16_divided e128 ?_)
            show pm_G g 171 [(10, .int y1), (0, .ref a0), (1, .int p1), (2, .long p2), (4, .long p3), (6, .long p4), (8, .long p5)] [.long v127.1] v127.2 0 0
            cases hf
            exact pm_lret C X dX16_short32_171 rfl (Nat.le_refl _) (Nat.le_refl _) q
  have hf := pm_ie hf c93
  by_cases c129 : p1 = 9
  · have hf := pm_it hf c129
    refine pm_tableIn (tgt := 123) C dX16_short32_9 (by rw [c129]; decide) (by rw [c129]; decide) (by rw [c129]; rfl) (by decide) ?_
    refine pm_aload_n C dX16_short32_123 rfl rfl ?_
    refine pm_iload_n C dX16_short32_124 rfl rfl ?_
    refine pm_bipush (v := 6) C dX16_short32_125 (by decide) ?_
    refine pm_isub C dX16_short32_127 ?_
    refine pm_iload_n C dX16_short32_128 rfl rfl ?_
    refine pm_bipush (v := 6) C dX16_short32_129 (by decide) ?_
    refine pm_icmp_eq (tgt := 140) C dX16_short32_131 (by decide) (fun c130 => ?_) (fun c130 => ?_)
    · have hf := pm_it hf c130
      refine pm_lload_n C dX16_short32_140 rfl rfl ?_
      refine pm_goto (tgt := 146) C dX16_short32_141 (by decide) ?_
      refine pm_iload_n C dX16_short32_146 rfl rfl ?_
      refine pm_bipush (v := 6) C dX16_short32_147 (by decide) ?_
      refine pm_icmp_eq (tgt := 158) C dX16_short32_149 (by decide) (fun c131 => ?_) (fun c131 => ?_)
      · have hf := pm_it hf c131
        refine pm_lload C dX16_short32_158 rfl ?_
        refine pm_goto (tgt := 165) C dX16_short32_160 (by decide) ?_
        refine pm_ldc2 C dX16_short32_165 cnX16_838 ?_
        obtain ⟨k132, hf⟩ := pm_if hf
        obtain ⟨v133, e134, hf⟩ := pm_bd hf
        refine pm_callV (as := [.int (p1 - 6), .long p2, .long p4, .long (-2147483648)]) (st := []) C X dX16_short32_168 lnX16_840 myX16_divided viX16_divided ⟨by decide, by decide⟩ rfl rfl k132 (Nat.le_of_ble_eq_true rfl) (Nat.le_refl _) (Nat.le_refl _) (ctX16_divided e134 ?_)
        show pm_G g 171 [(10, .int y1), (0, .ref a0), (1, .int p1), (2, .long p2), (4, .long p3), (6, .long p4), (8, .long p5)] [.long v133.1] v133.2 0 0
        cases hf
        exact pm_lret C X dX16_short32_171 rfl (Nat.le_refl _) (Nat.le_refl _) q
      · have hf := pm_ie hf c131
        refine pm_iload_n C dX16_short32_152 rfl rfl ?_
        refine pm_bipush (v := 8) C dX16_short32_153 (by decide) ?_
        refine pm_icmp_ne (tgt := 163) C dX16_short32_155 (by decide) (fun c135 => ?_) (fun c135 => ?_)
        · have hf := pm_ie hf c135
          refine pm_lload C dX16_short32_163 rfl ?_
          refine pm_ldc2 C dX16_short32_165 cnX16_838 ?_
          obtain ⟨k136, hf⟩ := pm_if hf
          obtain ⟨v137, e138, hf⟩ := pm_bd hf
          refine pm_callV (as := [.int (p1 - 6), .long p2, .long p5, .long (-2147483648)]) (st := []) C X dX16_short32_168 lnX16_840 myX16_divided viX16_divided ⟨by decide, by decide⟩ rfl rfl k136 (Nat.le_of_ble_eq_true rfl) (Nat.le_refl _) (Nat.le_refl _) (ctX16_divided e138 ?_)
          show pm_G g 171 [(10, .int y1), (0, .ref a0), (1, .int p1), (2, .long p2), (4, .long p3), (6, .long p4), (8, .long p5)] [.long v137.1] v137.2 0 0
          cases hf
          exact pm_lret C X dX16_short32_171 rfl (Nat.le_refl _) (Nat.le_refl _) q
        · have hf := pm_it hf c135
          refine pm_lload C dX16_short32_158 rfl ?_
          refine pm_goto (tgt := 165) C dX16_short32_160 (by decide) ?_
          refine pm_ldc2 C dX16_short32_165 cnX16_838 ?_
          obtain ⟨k139, hf⟩ := pm_if hf
          obtain ⟨v140, e141, hf⟩ := pm_bd hf
          refine pm_callV (as := [.int (p1 - 6), .long p2, .long p4, .long (-2147483648)]) (st := []) C X dX16_short32_168 lnX16_840 myX16_divided viX16_divided ⟨by decide, by decide⟩ rfl rfl k139 (Nat.le_of_ble_eq_true rfl) (Nat.le_refl _) (Nat.le_refl _) (ctX16_divided e141 ?_)
          show pm_G g 171 [(10, .int y1), (0, .ref a0), (1, .int p1), (2, .long p2), (4, .long p3), (6, .long p4), (8, .long p5)] [.long v140.1] v140.2 0 0
          cases hf
          exact pm_lret C X dX16_short32_171 rfl (Nat.le_refl _) (Nat.le_refl _) q
    · have hf := pm_ie hf c130
      refine pm_iload_n C dX16_short32_134 rfl rfl ?_
      refine pm_bipush (v := 8) C dX16_short32_135 (by decide) ?_
      refine pm_icmp_ne (tgt := 144) C dX16_short32_137 (by decide) (fun c142 => ?_) (fun c142 => ?_)
      · have hf := pm_ie hf c142
        refine pm_lload C dX16_short32_144 rfl ?_
        refine pm_iload_n C dX16_short32_146 rfl rfl ?_
        refine pm_bipush (v := 6) C dX16_short32_147 (by decide) ?_
        refine pm_icmp_eq (tgt := 158) C dX16_short32_149 (by decide) (fun c143 => ?_) (fun c143 => ?_)
        · have hf := pm_it hf c143
          refine pm_lload C dX16_short32_158 rfl ?_
          refine pm_goto (tgt := 165) C dX16_short32_160 (by decide) ?_
          refine pm_ldc2 C dX16_short32_165 cnX16_838 ?_
          obtain ⟨k144, hf⟩ := pm_if hf
          obtain ⟨v145, e146, hf⟩ := pm_bd hf
          refine pm_callV (as := [.int (p1 - 6), .long p3, .long p4, .long (-2147483648)]) (st := []) C X dX16_short32_168 lnX16_840 myX16_divided viX16_divided ⟨by decide, by decide⟩ rfl rfl k144 (Nat.le_of_ble_eq_true rfl) (Nat.le_refl _) (Nat.le_refl _) (ctX16_divided e146 ?_)
          show pm_G g 171 [(10, .int y1), (0, .ref a0), (1, .int p1), (2, .long p2), (4, .long p3), (6, .long p4), (8, .long p5)] [.long v145.1] v145.2 0 0
          cases hf
          exact pm_lret C X dX16_short32_171 rfl (Nat.le_refl _) (Nat.le_refl _) q
        · have hf := pm_ie hf c143
          refine pm_iload_n C dX16_short32_152 rfl rfl ?_
          refine pm_bipush (v := 8) C dX16_short32_153 (by decide) ?_
          refine pm_icmp_ne (tgt := 163) C dX16_short32_155 (by decide) (fun c147 => ?_) (fun c147 => ?_)
          · have hf := pm_ie hf c147
            refine pm_lload C dX16_short32_163 rfl ?_
            refine pm_ldc2 C dX16_short32_165 cnX16_838 ?_
            obtain ⟨k148, hf⟩ := pm_if hf
            obtain ⟨v149, e150, hf⟩ := pm_bd hf
            refine pm_callV (as := [.int (p1 - 6), .long p3, .long p5, .long (-2147483648)]) (st := []) C X dX16_short32_168 lnX16_840 myX16_divided viX16_divided ⟨by decide, by decide⟩ rfl rfl k148 (Nat.le_of_ble_eq_true rfl) (Nat.le_refl _) (Nat.le_refl _) (ctX16_divided e150 ?_)
            show pm_G g 171 [(10, .int y1), (0, .ref a0), (1, .int p1), (2, .long p2), (4, .long p3), (6, .long p4), (8, .long p5)] [.long v149.1] v149.2 0 0
            cases hf
            exact pm_lret C X dX16_short32_171 rfl (Nat.le_refl _) (Nat.le_refl _) q
          · have hf := pm_it hf c147
            refine pm_lload C dX16_short32_158 rfl ?_
            refine pm_goto (tgt := 165) C dX16_short32_160 (by decide) ?_
            refine pm_ldc2 C dX16_short32_165 cnX16_838 ?_
            obtain ⟨k151, hf⟩ := pm_if hf
            obtain ⟨v152, e153, hf⟩ := pm_bd hf
            refine pm_callV (as := [.int (p1 - 6), .long p3, .long p4, .long (-2147483648)]) (st := []) C X dX16_short32_168 lnX16_840 myX16_divided viX16_divided ⟨by decide, by decide⟩ rfl rfl k151 (Nat.le_of_ble_eq_true rfl) (Nat.le_refl _) (Nat.le_refl _) (ctX16_divided e153 ?_)
            show pm_G g 171 [(10, .int y1), (0, .ref a0), (1, .int p1), (2, .long p2), (4, .long p3), (6, .long p4), (8, .long p5)] [.long v152.1] v152.2 0 0
            cases hf
            exact pm_lret C X dX16_short32_171 rfl (Nat.le_refl _) (Nat.le_refl _) q
      · have hf := pm_it hf c142
        refine pm_lload_n C dX16_short32_140 rfl rfl ?_
        refine pm_goto (tgt := 146) C dX16_short32_141 (by decide) ?_
        refine pm_iload_n C dX16_short32_146 rfl rfl ?_
        refine pm_bipush (v := 6) C dX16_short32_147 (by decide) ?_
        refine pm_icmp_eq (tgt := 158) C dX16_short32_149 (by decide) (fun c154 => ?_) (fun c154 => ?_)
        · have hf := pm_it hf c154
          refine pm_lload C dX16_short32_158 rfl ?_
          refine pm_goto (tgt := 165) C dX16_short32_160 (by decide) ?_
          refine pm_ldc2 C dX16_short32_165 cnX16_838 ?_
          obtain ⟨k155, hf⟩ := pm_if hf
          obtain ⟨v156, e157, hf⟩ := pm_bd hf
          refine pm_callV (as := [.int (p1 - 6), .long p2, .long p4, .long (-2147483648)]) (st := []) C X dX16_short32_168 lnX16_840 myX16_divided viX16_divided ⟨by decide, by decide⟩ rfl rfl k155 (Nat.le_of_ble_eq_true rfl) (Nat.le_refl _) (Nat.le_refl _) (ctX16_divided e157 ?_)
          show pm_G g 171 [(10, .int y1), (0, .ref a0), (1, .int p1), (2, .long p2), (4, .long p3), (6, .long p4), (8, .long p5)] [.long v156.1] v156.2 0 0
          cases hf
          exact pm_lret C X dX16_short32_171 rfl (Nat.le_refl _) (Nat.le_refl _) q
        · have hf := pm_ie hf c154
          refine pm_iload_n C dX16_short32_152 rfl rfl ?_
          refine pm_bipush (v := 8) C dX16_short32_153 (by decide) ?_
          refine pm_icmp_ne (tgt := 163) C dX16_short32_155 (by decide) (fun c158 => ?_) (fun c158 => ?_)
          · have hf := pm_ie hf c158
            refine pm_lload C dX16_short32_163 rfl ?_
            refine pm_ldc2 C dX16_short32_165 cnX16_838 ?_
            obtain ⟨k159, hf⟩ := pm_if hf
            obtain ⟨v160, e161, hf⟩ := pm_bd hf
            refine pm_callV (as := [.int (p1 - 6), .long p2, .long p5, .long (-2147483648)]) (st := []) C X dX16_short32_168 lnX16_840 myX16_divided viX16_divided ⟨by decide, by decide⟩ rfl rfl k159 (Nat.le_of_ble_eq_true rfl) (Nat.le_refl _) (Nat.le_refl _) (ctX16_divided e161 ?_)
            show pm_G g 171 [(10, .int y1), (0, .ref a0), (1, .int p1), (2, .long p2), (4, .long p3), (6, .long p4), (8, .long p5)] [.long v160.1] v160.2 0 0
            cases hf
            exact pm_lret C X dX16_short32_171 rfl (Nat.le_refl _) (Nat.le_refl _) q
          · have hf := pm_it hf c158
            refine pm_lload C dX16_short32_158 rfl ?_
            refine pm_goto (tgt := 165) C dX16_short32_160 (by decide) ?_
            refine pm_ldc2 C dX16_short32_165 cnX16_838 ?_
            obtain ⟨k162, hf⟩ := pm_if hf
            obtain ⟨v163, e164, hf⟩ := pm_bd hf
            refine pm_callV (as := [.int (p1 - 6), .long p2, .long p4, .long (-2147483648)]) (st := []) C X dX16_short32_168 lnX16_840 myX16_divided viX16_divided ⟨by decide, by decide⟩ rfl rfl k162 (Nat.le_of_ble_eq_true rfl) (Nat.le_refl _) (Nat.le_refl _) (ctX16_divided e164 ?_)
            show pm_G g 171 [(10, .int y1), (0, .ref a0), (1, .int p1), (2, .long p2), (4, .long p3), (6, .long p4), (8, .long p5)] [.long v163.1] v163.2 0 0
            cases hf
            exact pm_lret C X dX16_short32_171 rfl (Nat.le_refl _) (Nat.le_refl _) q
  have hf := pm_ie hf c129
  by_cases c165 : p1 = 10
  · have hf := pm_it hf c165
    refine pm_tableIn (tgt := 219) C dX16_short32_9 (by rw [c165]; decide) (by rw [c165]; decide) (by rw [c165]; rfl) (by decide) ?_
    refine pm_iload_n C dX16_short32_219 rfl rfl ?_
    refine pm_lload C dX16_short32_220 rfl ?_
    refine pm_lload C dX16_short32_222 rfl ?_
    obtain ⟨v166, e167, hf⟩ := pm_lt hf
    refine pm_callS (as := [.int p1, .long p3, .long p5]) (st := []) C X dX16_short32_224 lnX16_844 myX16_plain stX16_plain ⟨by decide, by decide⟩ rfl rfl (Nat.le_of_ble_eq_true rfl) (Nat.le_refl _) (Nat.le_refl _) (ctX16_plain e167 ?_)
    show pm_G g 227 [(10, .int y1), (0, .ref a0), (1, .int p1), (2, .long p2), (4, .long p3), (6, .long p4), (8, .long p5)] [.long v166] h 0 0
    cases hf
    exact pm_lret C X dX16_short32_227 rfl (Nat.le_refl _) (Nat.le_refl _) q
  have hf := pm_ie hf c165
  by_cases c168 : p1 = 11
  · have hf := pm_it hf c168
    refine pm_tableIn (tgt := 219) C dX16_short32_9 (by rw [c168]; decide) (by rw [c168]; decide) (by rw [c168]; rfl) (by decide) ?_
    refine pm_iload_n C dX16_short32_219 rfl rfl ?_
    refine pm_lload C dX16_short32_220 rfl ?_
    refine pm_lload C dX16_short32_222 rfl ?_
    obtain ⟨v169, e170, hf⟩ := pm_lt hf
    refine pm_callS (as := [.int p1, .long p3, .long p5]) (st := []) C X dX16_short32_224 lnX16_844 myX16_plain stX16_plain ⟨by decide, by decide⟩ rfl rfl (Nat.le_of_ble_eq_true rfl) (Nat.le_refl _) (Nat.le_refl _) (ctX16_plain e170 ?_)
    show pm_G g 227 [(10, .int y1), (0, .ref a0), (1, .int p1), (2, .long p2), (4, .long p3), (6, .long p4), (8, .long p5)] [.long v169] h 0 0
    cases hf
    exact pm_lret C X dX16_short32_227 rfl (Nat.le_refl _) (Nat.le_refl _) q
  have hf := pm_ie hf c168
  by_cases c171 : p1 = 12
  · have hf := pm_it hf c171
    refine pm_tableIn (tgt := 219) C dX16_short32_9 (by rw [c171]; decide) (by rw [c171]; decide) (by rw [c171]; rfl) (by decide) ?_
    refine pm_iload_n C dX16_short32_219 rfl rfl ?_
    refine pm_lload C dX16_short32_220 rfl ?_
    refine pm_lload C dX16_short32_222 rfl ?_
    obtain ⟨v172, e173, hf⟩ := pm_lt hf
    refine pm_callS (as := [.int p1, .long p3, .long p5]) (st := []) C X dX16_short32_224 lnX16_844 myX16_plain stX16_plain ⟨by decide, by decide⟩ rfl rfl (Nat.le_of_ble_eq_true rfl) (Nat.le_refl _) (Nat.le_refl _) (ctX16_plain e173 ?_)
    show pm_G g 227 [(10, .int y1), (0, .ref a0), (1, .int p1), (2, .long p2), (4, .long p3), (6, .long p4), (8, .long p5)] [.long v172] h 0 0
    cases hf
    exact pm_lret C X dX16_short32_227 rfl (Nat.le_refl _) (Nat.le_refl _) q
  have hf := pm_ie hf c171
  by_cases c174 : p1 = 13
  · have hf := pm_it hf c174
    refine pm_tableIn (tgt := 172) C dX16_short32_9 (by rw [c174]; decide) (by rw [c174]; decide) (by rw [c174]; rfl) (by decide) ?_
    refine pm_lload C dX16_short32_172 rfl ?_
    refine pm_iload C dX16_short32_174 rfl ?_
    refine pm_lshl C dX16_short32_176 ?_
    cases hf
    exact pm_lret C X dX16_short32_177 rfl (Nat.le_refl _) (Nat.le_refl _) q
  have hf := pm_ie hf c174
  by_cases c175 : p1 = 14
  · have hf := pm_it hf c175
    refine pm_tableIn (tgt := 178) C dX16_short32_9 (by rw [c175]; decide) (by rw [c175]; decide) (by rw [c175]; rfl) (by decide) ?_
    refine pm_lload_n C dX16_short32_178 rfl rfl ?_
    refine pm_iload C dX16_short32_179 rfl ?_
    refine pm_lshr C dX16_short32_181 ?_
    cases hf
    exact pm_lret C X dX16_short32_182 rfl (Nat.le_refl _) (Nat.le_refl _) q
  have hf := pm_ie hf c175
  by_cases c176 : p1 = 15
  · have hf := pm_it hf c176
    refine pm_tableIn (tgt := 183) C dX16_short32_9 (by rw [c176]; decide) (by rw [c176]; decide) (by rw [c176]; rfl) (by decide) ?_
    refine pm_lload C dX16_short32_183 rfl ?_
    refine pm_iload C dX16_short32_185 rfl ?_
    refine pm_lushr C dX16_short32_187 ?_
    cases hf
    exact pm_lret C X dX16_short32_188 rfl (Nat.le_refl _) (Nat.le_refl _) q
  have hf := pm_ie hf c176
  by_cases c177 : p1 = 16
  · have hf := pm_it hf c177
    refine pm_tableIn (tgt := 189) C dX16_short32_9 (by rw [c177]; decide) (by rw [c177]; decide) (by rw [c177]; rfl) (by decide) ?_
    refine pm_lload C dX16_short32_189 rfl ?_
    refine pm_iload C dX16_short32_191 rfl ?_
    refine pm_lshl C dX16_short32_193 ?_
    refine pm_lload C dX16_short32_194 rfl ?_
    refine pm_bipush (v := 32) C dX16_short32_196 (by decide) ?_
    refine pm_iload C dX16_short32_198 rfl ?_
    refine pm_isub C dX16_short32_200 ?_
    refine pm_lushr C dX16_short32_201 ?_
    refine pm_lor C dX16_short32_202 ?_
    cases hf
    exact pm_lret C X dX16_short32_203 rfl (Nat.le_refl _) (Nat.le_refl _) q
  have hf := pm_ie hf c177
  by_cases c178 : p1 = 17
  · have hf := pm_it hf c178
    refine pm_tableIn (tgt := 204) C dX16_short32_9 (by rw [c178]; decide) (by rw [c178]; decide) (by rw [c178]; rfl) (by decide) ?_
    refine pm_lload C dX16_short32_204 rfl ?_
    refine pm_iload C dX16_short32_206 rfl ?_
    refine pm_lushr C dX16_short32_208 ?_
    refine pm_lload C dX16_short32_209 rfl ?_
    refine pm_bipush (v := 32) C dX16_short32_211 (by decide) ?_
    refine pm_iload C dX16_short32_213 rfl ?_
    refine pm_isub C dX16_short32_215 ?_
    refine pm_lshl C dX16_short32_216 ?_
    refine pm_lor C dX16_short32_217 ?_
    cases hf
    exact pm_lret C X dX16_short32_218 rfl (Nat.le_refl _) (Nat.le_refl _) q
  have hf := pm_ie hf c178
  have nc3 := lv_neT c3 (by decide : (0 : Int32).toInt = 0)
  have nc6 := lv_neT c6 (by decide : (1 : Int32).toInt = 1)
  have nc9 := lv_neT c9 (by decide : (2 : Int32).toInt = 2)
  have nc12 := lv_neT c12 (by decide : (3 : Int32).toInt = 3)
  have nc15 := lv_neT c15 (by decide : (4 : Int32).toInt = 4)
  have nc18 := lv_neT c18 (by decide : (5 : Int32).toInt = 5)
  have nc21 := lv_neT c21 (by decide : (6 : Int32).toInt = 6)
  have nc57 := lv_neT c57 (by decide : (7 : Int32).toInt = 7)
  have nc93 := lv_neT c93 (by decide : (8 : Int32).toInt = 8)
  have nc129 := lv_neT c129 (by decide : (9 : Int32).toInt = 9)
  have nc165 := lv_neT c165 (by decide : (10 : Int32).toInt = 10)
  have nc168 := lv_neT c168 (by decide : (11 : Int32).toInt = 11)
  have nc171 := lv_neT c171 (by decide : (12 : Int32).toInt = 12)
  have nc174 := lv_neT c174 (by decide : (13 : Int32).toInt = 13)
  have nc175 := lv_neT c175 (by decide : (14 : Int32).toInt = 14)
  have nc176 := lv_neT c176 (by decide : (15 : Int32).toInt = 15)
  have nc177 := lv_neT c177 (by decide : (16 : Int32).toInt = 16)
  have nc178 := lv_neT c178 (by decide : (17 : Int32).toInt = 17)
  refine pm_tableOut (tgt := 219) C dX16_short32_9 (by omega) (by decide) ?_
  refine pm_iload_n C dX16_short32_219 rfl rfl ?_
  refine pm_lload C dX16_short32_220 rfl ?_
  refine pm_lload C dX16_short32_222 rfl ?_
  obtain ⟨v179, e180, hf⟩ := pm_lt hf
  refine pm_callS (as := [.int p1, .long p3, .long p5]) (st := []) C X dX16_short32_224 lnX16_844 myX16_plain stX16_plain ⟨by decide, by decide⟩ rfl rfl (Nat.le_of_ble_eq_true rfl) (Nat.le_refl _) (Nat.le_refl _) (ctX16_plain e180 ?_)
  show pm_G g 227 [(10, .int y1), (0, .ref a0), (1, .int p1), (2, .long p2), (4, .long p3), (6, .long p4), (8, .long p5)] [.long v179] h 0 0
  cases hf
  exact pm_lret C X dX16_short32_227 rfl (Nat.le_refl _) (Nat.le_refl _) q
