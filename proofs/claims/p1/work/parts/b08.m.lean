theorem dX10_alongTable_0 : decode cX10_alongTable 0 = .ok (.iload_n 2, 1) := by decide +kernel
theorem dX10_alongTable_1 : decode cX10_alongTable 1 = .ok (.sipush 313, 3) := by decide +kernel
theorem dX10_alongTable_4 : decode cX10_alongTable 4 = .ok (.if_icmp .ne 14, 3) := by decide +kernel
theorem dX10_alongTable_7 : decode cX10_alongTable 7 = .ok (.aload_n 1, 1) := by decide +kernel
theorem dX10_alongTable_8 : decode cX10_alongTable 8 = .ok (.getfield 244, 3) := by decide +kernel
theorem dX10_alongTable_11 : decode cX10_alongTable 11 = .ok (.iload_n 3, 1) := by decide +kernel
theorem dX10_alongTable_12 : decode cX10_alongTable 12 = .ok (.iconst 0, 1) := by decide +kernel
theorem dX10_alongTable_13 : decode cX10_alongTable 13 = .ok (.invokestatic 184, 3) := by decide +kernel
theorem dX10_alongTable_16 : decode cX10_alongTable 16 = .ok (.lconst 0, 1) := by decide +kernel
theorem dX10_alongTable_17 : decode cX10_alongTable 17 = .ok (.lreturn, 1) := by decide +kernel
theorem dX10_alongTable_18 : decode cX10_alongTable 18 = .ok (.aload_n 1, 1) := by decide +kernel
theorem dX10_alongTable_19 : decode cX10_alongTable 19 = .ok (.getfield 191, 3) := by decide +kernel
theorem dX10_alongTable_22 : decode cX10_alongTable 22 = .ok (.iload_n 2, 1) := by decide +kernel
theorem dX10_alongTable_23 : decode cX10_alongTable 23 = .ok (.sipush 312, 3) := by decide +kernel
theorem dX10_alongTable_26 : decode cX10_alongTable 26 = .ok (.if_icmp .ne 8, 3) := by decide +kernel
theorem dX10_alongTable_29 : decode cX10_alongTable 29 = .ok (.iload 4, 2) := by decide +kernel
theorem dX10_alongTable_31 : decode cX10_alongTable 31 = .ok (.goto 4, 3) := by decide +kernel
theorem dX10_alongTable_34 : decode cX10_alongTable 34 = .ok (.iload_n 3, 1) := by decide +kernel
theorem dX10_alongTable_35 : decode cX10_alongTable 35 = .ok (.invokestatic 104, 3) := by decide +kernel
theorem dX10_alongTable_38 : decode cX10_alongTable 38 = .ok (.istore 11, 2) := by decide +kernel
theorem dX10_alongTable_40 : decode cX10_alongTable 40 = .ok (.aload_n 1, 1) := by decide +kernel
theorem dX10_alongTable_41 : decode cX10_alongTable 41 = .ok (.getfield 191, 3) := by decide +kernel
theorem dX10_alongTable_44 : decode cX10_alongTable 44 = .ok (.iload 4, 2) := by decide +kernel
theorem dX10_alongTable_46 : decode cX10_alongTable 46 = .ok (.invokestatic 104, 3) := by decide +kernel
theorem dX10_alongTable_49 : decode cX10_alongTable 49 = .ok (.istore 12, 2) := by decide +kernel
theorem dX10_alongTable_51 : decode cX10_alongTable 51 = .ok (.iload_n 2, 1) := by decide +kernel
theorem dX10_alongTable_52 : decode cX10_alongTable 52 = .ok (.sipush 315, 3) := by decide +kernel
theorem dX10_alongTable_55 : decode cX10_alongTable 55 = .ok (.if_icmp .ne 23, 3) := by decide +kernel
theorem dX10_alongTable_58 : decode cX10_alongTable 58 = .ok (.aload_n 0, 1) := by decide +kernel
theorem dX10_alongTable_59 : decode cX10_alongTable 59 = .ok (.getfield 12, 3) := by decide +kernel
theorem dX10_alongTable_62 : decode cX10_alongTable 62 = .ok (.iload 11, 2) := by decide +kernel
theorem dX10_alongTable_64 : decode cX10_alongTable 64 = .ok (.lload 7, 2) := by decide +kernel
theorem dX10_alongTable_66 : decode cX10_alongTable 66 = .ok (.lload 5, 2) := by decide +kernel
theorem dX10_alongTable_68 : decode cX10_alongTable 68 = .ok (.l2i, 1) := by decide +kernel
theorem dX10_alongTable_69 : decode cX10_alongTable 69 = .ok (.invokevirtual 333, 3) := by decide +kernel
theorem dX10_alongTable_72 : decode cX10_alongTable 72 = .ok (.i2l, 1) := by decide +kernel
theorem dX10_alongTable_73 : decode cX10_alongTable 73 = .ok (.ldc2_w 293, 3) := by decide +kernel
theorem dX10_alongTable_76 : decode cX10_alongTable 76 = .ok (.land, 1) := by decide +kernel
theorem dX10_alongTable_77 : decode cX10_alongTable 77 = .ok (.lreturn, 1) := by decide +kernel
theorem dX10_alongTable_78 : decode cX10_alongTable 78 = .ok (.iload_n 2, 1) := by decide +kernel
theorem dX10_alongTable_79 : decode cX10_alongTable 79 = .ok (.sipush 316, 3) := by decide +kernel
theorem dX10_alongTable_82 : decode cX10_alongTable 82 = .ok (.if_icmp .ne 17, 3) := by decide +kernel
theorem dX10_alongTable_85 : decode cX10_alongTable 85 = .ok (.aload_n 0, 1) := by decide +kernel
theorem dX10_alongTable_86 : decode cX10_alongTable 86 = .ok (.getfield 12, 3) := by decide +kernel
theorem dX10_alongTable_89 : decode cX10_alongTable 89 = .ok (.getfield 132, 3) := by decide +kernel
theorem dX10_alongTable_92 : decode cX10_alongTable 92 = .ok (.iload 11, 2) := by decide +kernel
theorem dX10_alongTable_94 : decode cX10_alongTable 94 = .ok (.invokestatic 104, 3) := by decide +kernel
theorem dX10_alongTable_97 : decode cX10_alongTable 97 = .ok (.i2l, 1) := by decide +kernel
theorem dX10_alongTable_98 : decode cX10_alongTable 98 = .ok (.lreturn, 1) := by decide +kernel
theorem dX10_alongTable_99 : decode cX10_alongTable 99 = .ok (.aload_n 0, 1) := by decide +kernel
theorem dX10_alongTable_100 : decode cX10_alongTable 100 = .ok (.getfield 12, 3) := by decide +kernel
theorem dX10_alongTable_103 : decode cX10_alongTable 103 = .ok (.iload 11, 2) := by decide +kernel
theorem dX10_alongTable_105 : decode cX10_alongTable 105 = .ok (.lload 5, 2) := by decide +kernel
theorem dX10_alongTable_107 : decode cX10_alongTable 107 = .ok (.lload 9, 2) := by decide +kernel
theorem dX10_alongTable_109 : decode cX10_alongTable 109 = .ok (.invokevirtual 326, 3) := by decide +kernel
theorem dX10_alongTable_112 : decode cX10_alongTable 112 = .ok (.istore 13, 2) := by decide +kernel
theorem dX10_alongTable_114 : decode cX10_alongTable 114 = .ok (.iload_n 2, 1) := by decide +kernel
theorem dX10_alongTable_115 : decode cX10_alongTable 115 = .ok (.sipush 312, 3) := by decide +kernel
theorem dX10_alongTable_118 : decode cX10_alongTable 118 = .ok (.if_icmp .ne 24, 3) := by decide +kernel
theorem dX10_alongTable_121 : decode cX10_alongTable 121 = .ok (.lload 7, 2) := by decide +kernel
theorem dX10_alongTable_123 : decode cX10_alongTable 123 = .ok (.lload 9, 2) := by decide +kernel
theorem dX10_alongTable_125 : decode cX10_alongTable 125 = .ok (.ladd, 1) := by decide +kernel
theorem dX10_alongTable_126 : decode cX10_alongTable 126 = .ok (.aload_n 1, 1) := by decide +kernel
theorem dX10_alongTable_127 : decode cX10_alongTable 127 = .ok (.getfield 244, 3) := by decide +kernel
theorem dX10_alongTable_130 : decode cX10_alongTable 130 = .ok (.iload_n 3, 1) := by decide +kernel
theorem dX10_alongTable_131 : decode cX10_alongTable 131 = .ok (.invokestatic 104, 3) := by decide +kernel
theorem dX10_alongTable_134 : decode cX10_alongTable 134 = .ok (.i2l, 1) := by decide +kernel
theorem dX10_alongTable_135 : decode cX10_alongTable 135 = .ok (.lcmp, 1) := by decide +kernel
theorem dX10_alongTable_136 : decode cX10_alongTable 136 = .ok (.ifCond .le 6, 3) := by decide +kernel
theorem dX10_alongTable_139 : decode cX10_alongTable 139 = .ok (.iconst 0, 1) := by decide +kernel
theorem dX10_alongTable_140 : decode cX10_alongTable 140 = .ok (.istore 13, 2) := by decide +kernel
theorem dX10_alongTable_142 : decode cX10_alongTable 142 = .ok (.iload_n 2, 1) := by decide +kernel
theorem dX10_alongTable_143 : decode cX10_alongTable 143 = .ok (.sipush 314, 3) := by decide +kernel
theorem dX10_alongTable_146 : decode cX10_alongTable 146 = .ok (.if_icmp .ne 22, 3) := by decide +kernel
theorem dX10_alongTable_149 : decode cX10_alongTable 149 = .ok (.aload_n 0, 1) := by decide +kernel
theorem dX10_alongTable_150 : decode cX10_alongTable 150 = .ok (.getfield 12, 3) := by decide +kernel
theorem dX10_alongTable_153 : decode cX10_alongTable 153 = .ok (.iload 12, 2) := by decide +kernel
theorem dX10_alongTable_155 : decode cX10_alongTable 155 = .ok (.lload 7, 2) := by decide +kernel
theorem dX10_alongTable_157 : decode cX10_alongTable 157 = .ok (.lload 9, 2) := by decide +kernel
theorem dX10_alongTable_159 : decode cX10_alongTable 159 = .ok (.invokevirtual 326, 3) := by decide +kernel
theorem dX10_alongTable_162 : decode cX10_alongTable 162 = .ok (.ifCond .ne 6, 3) := by decide +kernel
theorem dX10_alongTable_165 : decode cX10_alongTable 165 = .ok (.iconst 0, 1) := by decide +kernel
theorem dX10_alongTable_166 : decode cX10_alongTable 166 = .ok (.istore 13, 2) := by decide +kernel
theorem dX10_alongTable_168 : decode cX10_alongTable 168 = .ok (.iload 13, 2) := by decide +kernel
theorem dX10_alongTable_170 : decode cX10_alongTable 170 = .ok (.ifCond .ne 11, 3) := by decide +kernel
theorem dX10_alongTable_173 : decode cX10_alongTable 173 = .ok (.aload_n 0, 1) := by decide +kernel
theorem dX10_alongTable_174 : decode cX10_alongTable 174 = .ok (.bipush 6, 2) := by decide +kernel
theorem dX10_alongTable_176 : decode cX10_alongTable 176 = .ok (.putfield 263, 3) := by decide +kernel
theorem dX10_alongTable_179 : decode cX10_alongTable 179 = .ok (.lconst 0, 1) := by decide +kernel
theorem dX10_alongTable_180 : decode cX10_alongTable 180 = .ok (.lreturn, 1) := by decide +kernel
theorem dX10_alongTable_181 : decode cX10_alongTable 181 = .ok (.iload_n 2, 1) := by decide +kernel
theorem dX10_alongTable_182 : decode cX10_alongTable 182 = .ok (.sipush 312, 3) := by decide +kernel
theorem dX10_alongTable_185 : decode cX10_alongTable 185 = .ok (.if_icmp .ne 37, 3) := by decide +kernel
theorem dX10_alongTable_188 : decode cX10_alongTable 188 = .ok (.iload_n 3, 1) := by decide +kernel
theorem dX10_alongTable_189 : decode cX10_alongTable 189 = .ok (.ifCond .lt 33, 3) := by decide +kernel
theorem dX10_alongTable_192 : decode cX10_alongTable 192 = .ok (.iload_n 3, 1) := by decide +kernel
theorem dX10_alongTable_193 : decode cX10_alongTable 193 = .ok (.aload_n 1, 1) := by decide +kernel
theorem dX10_alongTable_194 : decode cX10_alongTable 194 = .ok (.getfield 209, 3) := by decide +kernel
theorem dX10_alongTable_197 : decode cX10_alongTable 197 = .ok (.arraylength, 1) := by decide +kernel
theorem dX10_alongTable_198 : decode cX10_alongTable 198 = .ok (.if_icmp .ge 24, 3) := by decide +kernel
theorem dX10_alongTable_201 : decode cX10_alongTable 201 = .ok (.aload_n 0, 1) := by decide +kernel
theorem dX10_alongTable_202 : decode cX10_alongTable 202 = .ok (.getfield 12, 3) := by decide +kernel
theorem dX10_alongTable_205 : decode cX10_alongTable 205 = .ok (.aload_n 1, 1) := by decide +kernel
theorem dX10_alongTable_206 : decode cX10_alongTable 206 = .ok (.getfield 209, 3) := by decide +kernel
theorem dX10_alongTable_209 : decode cX10_alongTable 209 = .ok (.iload_n 3, 1) := by decide +kernel
theorem dX10_alongTable_210 : decode cX10_alongTable 210 = .ok (.aaload, 1) := by decide +kernel
theorem dX10_alongTable_211 : decode cX10_alongTable 211 = .ok (.iload 11, 2) := by decide +kernel
theorem dX10_alongTable_213 : decode cX10_alongTable 213 = .ok (.lload 5, 2) := by decide +kernel
theorem dX10_alongTable_215 : decode cX10_alongTable 215 = .ok (.lload 7, 2) := by decide +kernel
theorem dX10_alongTable_217 : decode cX10_alongTable 217 = .ok (.lload 9, 2) := by decide +kernel
theorem dX10_alongTable_219 : decode cX10_alongTable 219 = .ok (.invokevirtual 336, 3) := by decide +kernel
theorem dX10_alongTable_222 : decode cX10_alongTable 222 = .ok (.iload_n 2, 1) := by decide +kernel
theorem dX10_alongTable_223 : decode cX10_alongTable 223 = .ok (.sipush 314, 3) := by decide +kernel
theorem dX10_alongTable_226 : decode cX10_alongTable 226 = .ok (.if_icmp .ne 20, 3) := by decide +kernel
theorem dX10_alongTable_229 : decode cX10_alongTable 229 = .ok (.aload_n 0, 1) := by decide +kernel
theorem dX10_alongTable_230 : decode cX10_alongTable 230 = .ok (.getfield 12, 3) := by decide +kernel
theorem dX10_alongTable_233 : decode cX10_alongTable 233 = .ok (.iload 11, 2) := by decide +kernel
theorem dX10_alongTable_235 : decode cX10_alongTable 235 = .ok (.iload 12, 2) := by decide +kernel
theorem dX10_alongTable_237 : decode cX10_alongTable 237 = .ok (.lload 5, 2) := by decide +kernel
theorem dX10_alongTable_239 : decode cX10_alongTable 239 = .ok (.lload 7, 2) := by decide +kernel
theorem dX10_alongTable_241 : decode cX10_alongTable 241 = .ok (.lload 9, 2) := by decide +kernel
theorem dX10_alongTable_243 : decode cX10_alongTable 243 = .ok (.invokevirtual 340, 3) := by decide +kernel
theorem dX10_alongTable_246 : decode cX10_alongTable 246 = .ok (.iload_n 2, 1) := by decide +kernel
theorem dX10_alongTable_247 : decode cX10_alongTable 247 = .ok (.sipush 317, 3) := by decide +kernel
theorem dX10_alongTable_250 : decode cX10_alongTable 250 = .ok (.if_icmp .ne 19, 3) := by decide +kernel
theorem dX10_alongTable_253 : decode cX10_alongTable 253 = .ok (.aload_n 0, 1) := by decide +kernel
theorem dX10_alongTable_254 : decode cX10_alongTable 254 = .ok (.getfield 12, 3) := by decide +kernel
theorem dX10_alongTable_257 : decode cX10_alongTable 257 = .ok (.iload 11, 2) := by decide +kernel
theorem dX10_alongTable_259 : decode cX10_alongTable 259 = .ok (.lload 5, 2) := by decide +kernel
theorem dX10_alongTable_261 : decode cX10_alongTable 261 = .ok (.lload 7, 2) := by decide +kernel
theorem dX10_alongTable_263 : decode cX10_alongTable 263 = .ok (.l2i, 1) := by decide +kernel
theorem dX10_alongTable_264 : decode cX10_alongTable 264 = .ok (.lload 9, 2) := by decide +kernel
theorem dX10_alongTable_266 : decode cX10_alongTable 266 = .ok (.invokevirtual 343, 3) := by decide +kernel
theorem dX10_alongTable_269 : decode cX10_alongTable 269 = .ok (.lconst 0, 1) := by decide +kernel
theorem dX10_alongTable_270 : decode cX10_alongTable 270 = .ok (.lreturn, 1) := by decide +kernel
noncomputable def fX10_alongTable_b222 (h : pm_H) (x0 : Nat) (x2 : Int32) (x5 : Int64) (x7 : Int64) (x9 : Int64) (x11 : Int32) (x12 : Int32) : Option (Int64 × pm_H) := if x2 = 314 then (if pm_kd h x0 = 10 then (pm_R h x0 4).bind fun v84 => if pm_kd h v84 = 11 then (fX11_copy h v84 x11 x12 x5 x7 x9).bind fun v87 => if x2 = 317 then (if pm_kd v87 x0 = 10 then (pm_R v87 x0 4).bind fun v92 => if pm_kd v87 v92 = 11 then (fX11_fill v87 v92 x11 x5 x7.toInt32 x9).bind fun v95 => some ((0, v95)) else none else none) else (some ((0, v87))) else none else none) else (if x2 = 317 then (if pm_kd h x0 = 10 then (pm_R h x0 4).bind fun v77 => if pm_kd h v77 = 11 then (fX11_fill h v77 x11 x5 x7.toInt32 x9).bind fun v80 => some ((0, v80)) else none else none) else (some ((0, h))))
noncomputable def fX10_alongTable_b168 (h : pm_H) (x0 : Nat) (x1 : Nat) (x2 : Int32) (x3 : Int32) (x5 : Int64) (x7 : Int64) (x9 : Int64) (x11 : Int32) (x12 : Int32) (x13 : Int32) : Option (Int64 × pm_H) := if x13 = 0 then (if pm_kd h x0 = 10 then some ((0, pm_setI h x0 0 6)) else none) else (if x2 = 312 then (if x3 < 0 then (fX10_alongTable_b222 h x0 x2 x5 x7 x9 x11 x12) else (if pm_kd h x1 = 4 then (pm_R h x1 5).bind fun v59 => if pm_kd h v59 = 36 then if (Int32.ofNat (pm_ln h v59)) ≤ x3 then (fX10_alongTable_b222 h x0 x2 x5 x7 x9 x11 x12) else (if pm_kd h x0 = 10 then (pm_R h x0 4).bind fun v64 => if pm_in x3 (pm_ln h v59) then (pm_R h v59 x3.toNatClampNeg).bind fun v67 => if pm_kd h v64 = 11 then (fX11_copyFrom h v64 v67 x11 x5 x7 x9).bind fun v70 => fX10_alongTable_b222 v70 x0 x2 x5 x7 x9 x11 x12 else none else none else none) else none else none)) else (fX10_alongTable_b222 h x0 x2 x5 x7 x9 x11 x12))
noncomputable def fX10_alongTable_b72 (h : pm_H) (s0 : Int32) : Option (Int64 × pm_H) := some ((s0.toInt64 &&& 4294967295, h))
noncomputable def fX10_alongTable_b142 (h : pm_H) (x0 : Nat) (x1 : Nat) (x2 : Int32) (x3 : Int32) (x5 : Int64) (x7 : Int64) (x9 : Int64) (x11 : Int32) (x12 : Int32) (x13 : Int32) : Option (Int64 × pm_H) := if x2 = 314 then (if pm_kd h x0 = 10 then (pm_R h x0 4).bind fun v49 => if pm_kd h v49 = 11 then (fX11_reaches h v49 x12 x7 x9).bind fun v52 => if v52 = 0 then (fX10_alongTable_b168 h x0 x1 x2 x3 x5 x7 x9 x11 x12 0) else (fX10_alongTable_b168 h x0 x1 x2 x3 x5 x7 x9 x11 x12 x13) else none else none) else (fX10_alongTable_b168 h x0 x1 x2 x3 x5 x7 x9 x11 x12 x13)
noncomputable def fX10_alongTable_b35 (h : pm_H) (x0 : Nat) (x1 : Nat) (x2 : Int32) (x3 : Int32) (x4 : Int32) (x5 : Int64) (x7 : Int64) (x9 : Int64) (s0 : Int32) (s1 : Nat) : Option (Int64 × pm_H) := (fX12_item h s1 s0).bind fun v12 => if pm_kd h x1 = 4 then (pm_R h x1 2).bind fun v15 => (fX12_item h v15 x4).bind fun v17 => if x2 = 315 then (if pm_kd h x0 = 10 then (pm_R h x0 4).bind fun v42 => if pm_kd h v42 = 11 then (fX11_grow h v42 v12 x7 x5.toInt32).bind fun v45 => fX10_alongTable_b72 v45.2 v45.1 else none else none) else (if x2 = 316 then (if pm_kd h x0 = 10 then (pm_R h x0 4).bind fun v34 => if pm_kd h v34 = 11 then (pm_R h v34 3).bind fun v37 => (fX12_item h v37 v12).bind fun v39 => some ((v39.toInt64, h)) else none else none) else (if pm_kd h x0 = 10 then (pm_R h x0 4).bind fun v22 => if pm_kd h v22 = 11 then (fX11_reaches h v22 v12 x5 x9).bind fun v25 => if x2 = 312 then ((pm_R h x1 6).bind fun v28 => (fX12_item h v28 x3).bind fun v30 => if (x7 + x9) ≤ v30.toInt64 then (fX10_alongTable_b142 h x0 x1 x2 x3 x5 x7 x9 v12 v17 v25) else (fX10_alongTable_b142 h x0 x1 x2 x3 x5 x7 x9 v12 v17 0)) else (fX10_alongTable_b142 h x0 x1 x2 x3 x5 x7 x9 v12 v17 v25) else none else none)) else none
noncomputable def fX10_alongTable_b0 (h : pm_H) (x0 : Nat) (x1 : Nat) (x2 : Int32) (x3 : Int32) (x4 : Int32) (x5 : Int64) (x7 : Int64) (x9 : Int64) : Option (Int64 × pm_H) := if x2 = 313 then (if pm_kd h x1 = 4 then (pm_R h x1 6).bind fun v7 => (fX12_setItem h v7 x3 0).bind fun v9 => some ((0, v9)) else none) else (if pm_kd h x1 = 4 then (pm_R h x1 2).bind fun v3 => if x2 = 312 then (fX10_alongTable_b35 h x0 x1 x2 x3 x4 x5 x7 x9 x4 v3) else (fX10_alongTable_b35 h x0 x1 x2 x3 x4 x5 x7 x9 x3 v3) else none)
noncomputable def fX10_alongTable (h : pm_H) (a0 : Nat) (p1 : Nat) (p2 : Int32) (p3 : Int32) (p4 : Int32) (p5 : Int64) (p6 : Int64) (p7 : Int64) : Option (Int64 × pm_H) := fX10_alongTable_b0 h a0 p1 p2 p3 p4 p5 p6 p7
set_option maxHeartbeats 4000000 in
set_option maxRecDepth 100000 in
theorem moX10_alongTable_b222 {h : pm_H} {x0 : Nat} {x2 : Int32} {x5 : Int64} {x7 : Int64} {x9 : Int64} {x11 : Int32} {x12 : Int32} {r : (Int64 × pm_H)} (hf : fX10_alongTable_b222 h x0 x2 x5 x7 x9 x11 x12 = some r) : pm_Le h r.2 := by
  unfold fX10_alongTable_b222 at hf
  have K0 := pm_S3.rf h
  by_cases c74 : x2 = 314
  · have hf := pm_it hf c74
    obtain ⟨k75, hf⟩ := pm_if hf
    obtain ⟨v76, e77, hf⟩ := pm_bd hf
    obtain ⟨k78, hf⟩ := pm_if hf
    obtain ⟨v79, e80, hf⟩ := pm_bd hf
    have K81 := pm_S3.trans (kpX11_copy e80) K0
    by_cases c82 : x2 = 317
    · have hf := pm_it hf c82
      obtain ⟨k83, hf⟩ := pm_if hf
      obtain ⟨v84, e85, hf⟩ := pm_bd hf
      obtain ⟨k86, hf⟩ := pm_if hf
      obtain ⟨v87, e88, hf⟩ := pm_bd hf
      have K89 := pm_S3.trans (kpX11_fill e88) K81
      have hf := Option.some.inj hf
      subst hf
      exact pm_S3.le K89
    · have hf := pm_ie hf c82
      have hf := Option.some.inj hf
      subst hf
      exact pm_S3.le K81
  · have hf := pm_ie hf c74
    by_cases c90 : x2 = 317
    · have hf := pm_it hf c90
      obtain ⟨k91, hf⟩ := pm_if hf
      obtain ⟨v92, e93, hf⟩ := pm_bd hf
      obtain ⟨k94, hf⟩ := pm_if hf
      obtain ⟨v95, e96, hf⟩ := pm_bd hf
      have K97 := pm_S3.trans (kpX11_fill e96) K0
      have hf := Option.some.inj hf
      subst hf
      exact pm_S3.le K97
    · have hf := pm_ie hf c90
      have hf := Option.some.inj hf
      subst hf
      exact pm_S3.le K0
set_option maxHeartbeats 4000000 in
set_option maxRecDepth 100000 in
theorem moX10_alongTable_b168 {h : pm_H} {x0 : Nat} {x1 : Nat} {x2 : Int32} {x3 : Int32} {x5 : Int64} {x7 : Int64} {x9 : Int64} {x11 : Int32} {x12 : Int32} {x13 : Int32} {r : (Int64 × pm_H)} (hf : fX10_alongTable_b168 h x0 x1 x2 x3 x5 x7 x9 x11 x12 x13 = some r) : pm_Le h r.2 := by
  unfold fX10_alongTable_b168 at hf
  have K0 := pm_S3.rf h
  by_cases c55 : x13 = 0
  · have hf := pm_it hf c55
    obtain ⟨k56, hf⟩ := pm_if hf
    have hf := Option.some.inj hf
    subst hf
    exact pm_S3.le (pm_S3I K0)
  · have hf := pm_ie hf c55
    by_cases c57 : x2 = 312
    · have hf := pm_it hf c57
      by_cases c58 : x3 < 0
      · have hf := pm_it hf c58
        exact (pm_S3.le K0).trans (moX10_alongTable_b222 hf)
      · have hf := pm_ie hf c58
        obtain ⟨k59, hf⟩ := pm_if hf
        obtain ⟨v60, e61, hf⟩ := pm_bd hf
        obtain ⟨k62, hf⟩ := pm_if hf
        by_cases c63 : (Int32.ofNat (pm_ln h v60)) ≤ x3
        · have hf := pm_it hf c63
          exact (pm_S3.le K0).trans (moX10_alongTable_b222 hf)
        · have hf := pm_ie hf c63
          obtain ⟨k64, hf⟩ := pm_if hf
          obtain ⟨v65, e66, hf⟩ := pm_bd hf
          obtain ⟨u67, hf⟩ := pm_if hf
          obtain ⟨v68, e69, hf⟩ := pm_bd hf
          obtain ⟨k70, hf⟩ := pm_if hf
          obtain ⟨v71, e72, hf⟩ := pm_bd hf
          have K73 := pm_S3.trans (kpX11_copyFrom e72) K0
          exact (pm_S3.le K73).trans (moX10_alongTable_b222 hf)
    · have hf := pm_ie hf c57
      exact (pm_S3.le K0).trans (moX10_alongTable_b222 hf)
set_option maxHeartbeats 4000000 in
set_option maxRecDepth 100000 in
theorem moX10_alongTable_b72 {h : pm_H} {s0 : Int32} {r : (Int64 × pm_H)} (hf : fX10_alongTable_b72 h s0 = some r) : pm_Le h r.2 := by
  unfold fX10_alongTable_b72 at hf
  have K0 := pm_S3.rf h
  have hf := Option.some.inj hf
  subst hf
  exact pm_S3.le K0
set_option maxHeartbeats 4000000 in
set_option maxRecDepth 100000 in
theorem moX10_alongTable_b142 {h : pm_H} {x0 : Nat} {x1 : Nat} {x2 : Int32} {x3 : Int32} {x5 : Int64} {x7 : Int64} {x9 : Int64} {x11 : Int32} {x12 : Int32} {x13 : Int32} {r : (Int64 × pm_H)} (hf : fX10_alongTable_b142 h x0 x1 x2 x3 x5 x7 x9 x11 x12 x13 = some r) : pm_Le h r.2 := by
  unfold fX10_alongTable_b142 at hf
  have K0 := pm_S3.rf h
  by_cases c47 : x2 = 314
  · have hf := pm_it hf c47
    obtain ⟨k48, hf⟩ := pm_if hf
    obtain ⟨v49, e50, hf⟩ := pm_bd hf
    obtain ⟨k51, hf⟩ := pm_if hf
    obtain ⟨v52, e53, hf⟩ := pm_bd hf
    by_cases c54 : v52 = 0
    · have hf := pm_it hf c54
      exact (pm_S3.le K0).trans (moX10_alongTable_b168 hf)
    · have hf := pm_ie hf c54
      exact (pm_S3.le K0).trans (moX10_alongTable_b168 hf)
  · have hf := pm_ie hf c47
    exact (pm_S3.le K0).trans (moX10_alongTable_b168 hf)
set_option maxHeartbeats 4000000 in
set_option maxRecDepth 100000 in
theorem moX10_alongTable_b35 {h : pm_H} {x0 : Nat} {x1 : Nat} {x2 : Int32} {x3 : Int32} {x4 : Int32} {x5 : Int64} {x7 : Int64} {x9 : Int64} {s0 : Int32} {s1 : Nat} {r : (Int64 × pm_H)} (hf : fX10_alongTable_b35 h x0 x1 x2 x3 x4 x5 x7 x9 s0 s1 = some r) : pm_Le h r.2 := by
  unfold fX10_alongTable_b35 at hf
  have K0 := pm_S3.rf h
  obtain ⟨v12, e13, hf⟩ := pm_bd hf
  obtain ⟨k14, hf⟩ := pm_if hf
  obtain ⟨v15, e16, hf⟩ := pm_bd hf
  obtain ⟨v17, e18, hf⟩ := pm_bd hf
  by_cases c19 : x2 = 315
  · have hf := pm_it hf c19
    obtain ⟨k20, hf⟩ := pm_if hf
    obtain ⟨v21, e22, hf⟩ := pm_bd hf
    obtain ⟨k23, hf⟩ := pm_if hf
    obtain ⟨v24, e25, hf⟩ := pm_bd hf
    exact ((pm_S3.le K0).trans (moX11_grow e25)).trans (moX10_alongTable_b72 hf)
  · have hf := pm_ie hf c19
    by_cases c26 : x2 = 316
    · have hf := pm_it hf c26
      obtain ⟨k27, hf⟩ := pm_if hf
      obtain ⟨v28, e29, hf⟩ := pm_bd hf
      obtain ⟨k30, hf⟩ := pm_if hf
      obtain ⟨v31, e32, hf⟩ := pm_bd hf
      obtain ⟨v33, e34, hf⟩ := pm_bd hf
      have hf := Option.some.inj hf
      subst hf
      exact pm_S3.le K0
    · have hf := pm_ie hf c26
      obtain ⟨k35, hf⟩ := pm_if hf
      obtain ⟨v36, e37, hf⟩ := pm_bd hf
      obtain ⟨k38, hf⟩ := pm_if hf
      obtain ⟨v39, e40, hf⟩ := pm_bd hf
      by_cases c41 : x2 = 312
      · have hf := pm_it hf c41
        obtain ⟨v42, e43, hf⟩ := pm_bd hf
        obtain ⟨v44, e45, hf⟩ := pm_bd hf
        by_cases c46 : (x7 + x9) ≤ v44.toInt64
        · have hf := pm_it hf c46
          exact (pm_S3.le K0).trans (moX10_alongTable_b142 hf)
        · have hf := pm_ie hf c46
          exact (pm_S3.le K0).trans (moX10_alongTable_b142 hf)
      · have hf := pm_ie hf c41
        exact (pm_S3.le K0).trans (moX10_alongTable_b142 hf)
set_option maxHeartbeats 4000000 in
set_option maxRecDepth 100000 in
theorem moX10_alongTable_b0 {h : pm_H} {x0 : Nat} {x1 : Nat} {x2 : Int32} {x3 : Int32} {x4 : Int32} {x5 : Int64} {x7 : Int64} {x9 : Int64} {r : (Int64 × pm_H)} (hf : fX10_alongTable_b0 h x0 x1 x2 x3 x4 x5 x7 x9 = some r) : pm_Le h r.2 := by
  unfold fX10_alongTable_b0 at hf
  have K0 := pm_S3.rf h
  by_cases c1 : x2 = 313
  · have hf := pm_it hf c1
    obtain ⟨k2, hf⟩ := pm_if hf
    obtain ⟨v3, e4, hf⟩ := pm_bd hf
    obtain ⟨v5, e6, hf⟩ := pm_bd hf
    have K7 := pm_S3.trans (kpX12_setItem e6) K0
    have hf := Option.some.inj hf
    subst hf
    exact pm_S3.le K7
  · have hf := pm_ie hf c1
    obtain ⟨k8, hf⟩ := pm_if hf
    obtain ⟨v9, e10, hf⟩ := pm_bd hf
    by_cases c11 : x2 = 312
    · have hf := pm_it hf c11
      exact (pm_S3.le K0).trans (moX10_alongTable_b35 hf)
    · have hf := pm_ie hf c11
      exact (pm_S3.le K0).trans (moX10_alongTable_b35 hf)
set_option maxHeartbeats 4000000 in
set_option maxRecDepth 100000 in
theorem moX10_alongTable {h : pm_H} {a0 : Nat} {p1 : Nat} {p2 : Int32} {p3 : Int32} {p4 : Int32} {p5 : Int64} {p6 : Int64} {p7 : Int64} {r : (Int64 × pm_H)} (hf : fX10_alongTable h a0 p1 p2 p3 p4 p5 p6 p7 = some r) : pm_Le h r.2 := by
  unfold fX10_alongTable at hf
  have K0 := pm_S3.rf h
  exact (pm_S3.le K0).trans (moX10_alongTable_b0 hf)
set_option maxHeartbeats 4000000 in
set_option maxRecDepth 100000 in
theorem bX10_alongTable_222 {g : pm_Gm} {l : Launch} {G : pm_Gl} {Qr : Option Value → pm_H → Prop} (C : pm_C g cX10_alongTable RX10) {h0 h : pm_H} {x0 : Nat} {x2 : Int32} {x5 : Int64} {x7 : Int64} {x9 : Int64} {x11 : Int32} {x12 : Int32} {r : (Int64 × pm_H)} (X : pm_X g l G mX10_alongTable (pm_sz r.2 - pm_sz h0) (pm_us r.2 - pm_us h0) Qr) (m0 : pm_Le h0 h) (hf : fX10_alongTable_b222 h x0 x2 x5 x7 x9 x11 x12 = some r) (q : Qr (some (.long r.1)) r.2) : pm_G g 222 [(0, .ref x0), (2, .int x2), (5, .long x5), (7, .long x7), (9, .long x9), (11, .int x11), (12, .int x12)] [] h (pm_sz h - pm_sz h0) (pm_us h - pm_us h0) := by
  have le0 := moX10_alongTable_b222 hf
  have kc1 := Nat.sub_le_sub_right le0.1 (pm_sz h0)
  have kc2 := Nat.sub_le_sub_right le0.2 (pm_us h0)
  have K0 := pm_S3.rf h
  unfold fX10_alongTable_b222 at hf
  refine pm_iload_n C dX10_alongTable_222 rfl rfl ?_
  refine pm_sipush (v := 314) C dX10_alongTable_223 (by decide) ?_
  refine pm_icmp_ne (tgt := 246) C dX10_alongTable_226 (by decide) (fun c74 => ?_) (fun c74 => ?_)
  · have hf := pm_ie hf c74
    refine pm_iload_n C dX10_alongTable_246 rfl rfl ?_
    refine pm_sipush (v := 317) C dX10_alongTable_247 (by decide) ?_
    refine pm_icmp_ne (tgt := 269) C dX10_alongTable_250 (by decide) (fun c75 => ?_) (fun c75 => ?_)
    · have hf := pm_ie hf c75
      refine pm_lconst (v := 0) C dX10_alongTable_269 (by decide) ?_
      have hf := Option.some.inj hf
      subst hf
      exact pm_lret C X dX10_alongTable_270 rfl kc1 kc2 q
    · have hf := pm_it hf c75
      refine pm_aload_n C dX10_alongTable_253 rfl rfl ?_
      obtain ⟨k76, hf⟩ := pm_if hf
      obtain ⟨v77, e78, hf⟩ := pm_bd hf
      refine pm_getR C dX10_alongTable_254 flX10_12 rfl k76 e78 ?_
      refine pm_iload C dX10_alongTable_257 rfl ?_
      refine pm_lload C dX10_alongTable_259 rfl ?_
      refine pm_lload C dX10_alongTable_261 rfl ?_
      refine pm_l2i C dX10_alongTable_263 ?_
      refine pm_lload C dX10_alongTable_264 rfl ?_
      obtain ⟨k79, hf⟩ := pm_if hf
      obtain ⟨v80, e81, hf⟩ := pm_bd hf
      refine pm_callV (as := [.int x11, .long x5, .int x7.toInt32, .long x9]) (st := []) C X dX10_alongTable_266 lnX10_343 myX11_fill viX11_fill ⟨by decide, by decide⟩ rfl rfl k79 (Nat.le_of_ble_eq_true rfl) kc1 kc2 (ctX11_fill e81 ?_)
      have K82 := pm_S3.trans (kpX11_fill e81) K0
      show pm_G g 269 [(0, .ref x0), (2, .int x2), (5, .long x5), (7, .long x7), (9, .long x9), (11, .int x11), (12, .int x12)] [] v80 (pm_sz h - pm_sz h0) (pm_us h - pm_us h0)
      refine pm_lconst (v := 0) C dX10_alongTable_269 (by decide) ?_
      have hf := Option.some.inj hf
      subst hf
      exact pm_lret C X dX10_alongTable_270 rfl kc1 kc2 q
  · have hf := pm_it hf c74
    refine pm_aload_n C dX10_alongTable_229 rfl rfl ?_
    obtain ⟨k83, hf⟩ := pm_if hf
    obtain ⟨v84, e85, hf⟩ := pm_bd hf
    refine pm_getR C dX10_alongTable_230 flX10_12 rfl k83 e85 ?_
    refine pm_iload C dX10_alongTable_233 rfl ?_
    refine pm_iload C dX10_alongTable_235 rfl ?_
    refine pm_lload C dX10_alongTable_237 rfl ?_
    refine pm_lload C dX10_alongTable_239 rfl ?_
    refine pm_lload C dX10_alongTable_241 rfl ?_
    obtain ⟨k86, hf⟩ := pm_if hf
    obtain ⟨v87, e88, hf⟩ := pm_bd hf
    refine pm_callV (as := [.int x11, .int x12, .long x5, .long x7, .long x9]) (st := []) C X dX10_alongTable_243 lnX10_340 myX11_copy viX11_copy ⟨by decide, by decide⟩ rfl rfl k86 (Nat.le_of_ble_eq_true rfl) kc1 kc2 (ctX11_copy e88 ?_)
    have K89 := pm_S3.trans (kpX11_copy e88) K0
    show pm_G g 246 [(0, .ref x0), (2, .int x2), (5, .long x5), (7, .long x7), (9, .long x9), (11, .int x11), (12, .int x12)] [] v87 (pm_sz h - pm_sz h0) (pm_us h - pm_us h0)
    refine pm_iload_n C dX10_alongTable_246 rfl rfl ?_
    refine pm_sipush (v := 317) C dX10_alongTable_247 (by decide) ?_
    refine pm_icmp_ne (tgt := 269) C dX10_alongTable_250 (by decide) (fun c90 => ?_) (fun c90 => ?_)
    · have hf := pm_ie hf c90
      refine pm_lconst (v := 0) C dX10_alongTable_269 (by decide) ?_
      have hf := Option.some.inj hf
      subst hf
      exact pm_lret C X dX10_alongTable_270 rfl kc1 kc2 q
    · have hf := pm_it hf c90
      refine pm_aload_n C dX10_alongTable_253 rfl rfl ?_
      obtain ⟨k91, hf⟩ := pm_if hf
      obtain ⟨v92, e93, hf⟩ := pm_bd hf
      refine pm_getR C dX10_alongTable_254 flX10_12 rfl k91 e93 ?_
      refine pm_iload C dX10_alongTable_257 rfl ?_
      refine pm_lload C dX10_alongTable_259 rfl ?_
      refine pm_lload C dX10_alongTable_261 rfl ?_
      refine pm_l2i C dX10_alongTable_263 ?_
      refine pm_lload C dX10_alongTable_264 rfl ?_
      obtain ⟨k94, hf⟩ := pm_if hf
      obtain ⟨v95, e96, hf⟩ := pm_bd hf
      refine pm_callV (as := [.int x11, .long x5, .int x7.toInt32, .long x9]) (st := []) C X dX10_alongTable_266 lnX10_343 myX11_fill viX11_fill ⟨by decide, by decide⟩ rfl rfl k94 (Nat.le_of_ble_eq_true rfl) kc1 kc2 (ctX11_fill e96 ?_)
      have K97 := pm_S3.trans (kpX11_fill e96) K89
      show pm_G g 269 [(0, .ref x0), (2, .int x2), (5, .long x5), (7, .long x7), (9, .long x9), (11, .int x11), (12, .int x12)] [] v95 (pm_sz h - pm_sz h0) (pm_us h - pm_us h0)
      refine pm_lconst (v := 0) C dX10_alongTable_269 (by decide) ?_
      have hf := Option.some.inj hf
      subst hf
      exact pm_lret C X dX10_alongTable_270 rfl kc1 kc2 q
set_option maxHeartbeats 4000000 in
set_option maxRecDepth 100000 in
theorem bX10_alongTable_168 {g : pm_Gm} {l : Launch} {G : pm_Gl} {Qr : Option Value → pm_H → Prop} (C : pm_C g cX10_alongTable RX10) {h0 h : pm_H} {x0 : Nat} {x1 : Nat} {x2 : Int32} {x3 : Int32} {x5 : Int64} {x7 : Int64} {x9 : Int64} {x11 : Int32} {x12 : Int32} {x13 : Int32} {r : (Int64 × pm_H)} (X : pm_X g l G mX10_alongTable (pm_sz r.2 - pm_sz h0) (pm_us r.2 - pm_us h0) Qr) (m0 : pm_Le h0 h) (hf : fX10_alongTable_b168 h x0 x1 x2 x3 x5 x7 x9 x11 x12 x13 = some r) (q : Qr (some (.long r.1)) r.2) : pm_G g 168 [(0, .ref x0), (1, .ref x1), (2, .int x2), (3, .int x3), (5, .long x5), (7, .long x7), (9, .long x9), (11, .int x11), (12, .int x12), (13, .int x13)] [] h (pm_sz h - pm_sz h0) (pm_us h - pm_us h0) := by
  have le0 := moX10_alongTable_b168 hf
  have kc1 := Nat.sub_le_sub_right le0.1 (pm_sz h0)
  have kc2 := Nat.sub_le_sub_right le0.2 (pm_us h0)
  have K0 := pm_S3.rf h
  unfold fX10_alongTable_b168 at hf
  refine pm_iload C dX10_alongTable_168 rfl ?_
  refine pm_if_ne (tgt := 181) C dX10_alongTable_170 (by decide) (fun c55 => ?_) (fun c55 => ?_)
  · have hf := pm_ie hf c55
    refine pm_iload_n C dX10_alongTable_181 rfl rfl ?_
    refine pm_sipush (v := 312) C dX10_alongTable_182 (by decide) ?_
    refine pm_icmp_ne (tgt := 222) C dX10_alongTable_185 (by decide) (fun c56 => ?_) (fun c56 => ?_)
    · have hf := pm_ie hf c56
      exact pa_join K0 (pm_sub [0, 2, 4, 5, 6, 7, 8] rfl (bX10_alongTable_222 C X (m0.trans (pm_S3.le K0)) hf q))
    · have hf := pm_it hf c56
      refine pm_iload_n C dX10_alongTable_188 rfl rfl ?_
      refine pm_if_lt (tgt := 222) C dX10_alongTable_189 (by decide) (fun c57 => ?_) (fun c57 => ?_)
      · have hf := pm_it hf c57
        exact pa_join K0 (pm_sub [0, 2, 4, 5, 6, 7, 8] rfl (bX10_alongTable_222 C X (m0.trans (pm_S3.le K0)) hf q))
      · have hf := pm_ie hf c57
        refine pm_iload_n C dX10_alongTable_192 rfl rfl ?_
        refine pm_aload_n C dX10_alongTable_193 rfl rfl ?_
        obtain ⟨k58, hf⟩ := pm_if hf
        obtain ⟨v59, e60, hf⟩ := pm_bd hf
        refine pm_getR C dX10_alongTable_194 flX10_209 rfl k58 e60 ?_
        obtain ⟨k61, hf⟩ := pm_if hf
        refine pm_alen (t := 4) C dX10_alongTable_197 (by decide) k61 rfl ?_
        refine pm_icmp_ge (tgt := 222) C dX10_alongTable_198 (by decide) (fun c62 => ?_) (fun c62 => ?_)
        · have hf := pm_it hf c62
          exact pa_join K0 (pm_sub [0, 2, 4, 5, 6, 7, 8] rfl (bX10_alongTable_222 C X (m0.trans (pm_S3.le K0)) hf q))
        · have hf := pm_ie hf c62
          refine pm_aload_n C dX10_alongTable_201 rfl rfl ?_
          obtain ⟨k63, hf⟩ := pm_if hf
          obtain ⟨v64, e65, hf⟩ := pm_bd hf
          refine pm_getR C dX10_alongTable_202 flX10_12 rfl k63 e65 ?_
          refine pm_aload_n C dX10_alongTable_205 rfl rfl ?_
          refine pm_getR C dX10_alongTable_206 flX10_209 rfl k58 e60 ?_
          refine pm_iload_n C dX10_alongTable_209 rfl rfl ?_
          obtain ⟨u66, hf⟩ := pm_if hf
          obtain ⟨v67, e68, hf⟩ := pm_bd hf
          refine pm_ald (t := 4) C dX10_alongTable_210 (by decide) rfl k61 u66 e68 ?_
          refine pm_iload C dX10_alongTable_211 rfl ?_
          refine pm_lload C dX10_alongTable_213 rfl ?_
          refine pm_lload C dX10_alongTable_215 rfl ?_
          refine pm_lload C dX10_alongTable_217 rfl ?_
          obtain ⟨k69, hf⟩ := pm_if hf
          obtain ⟨v70, e71, hf⟩ := pm_bd hf
          refine pm_callV (as := [.ref v67, .int x11, .long x5, .long x7, .long x9]) (st := []) C X dX10_alongTable_219 lnX10_336 myX11_copyFrom viX11_copyFrom ⟨by decide, by decide⟩ rfl rfl k69 (Nat.le_of_ble_eq_true rfl) kc1 kc2 (ctX11_copyFrom e71 ?_)
          have K72 := pm_S3.trans (kpX11_copyFrom e71) K0
          show pm_G g 222 [(0, .ref x0), (1, .ref x1), (2, .int x2), (3, .int x3), (5, .long x5), (7, .long x7), (9, .long x9), (11, .int x11), (12, .int x12), (13, .int x13)] [] v70 (pm_sz h - pm_sz h0) (pm_us h - pm_us h0)
          exact pa_join K72 (pm_sub [0, 2, 4, 5, 6, 7, 8] rfl (bX10_alongTable_222 C X (m0.trans (pm_S3.le K72)) hf q))
  · have hf := pm_it hf c55
    refine pm_aload_n C dX10_alongTable_173 rfl rfl ?_
    refine pm_bipush (v := 6) C dX10_alongTable_174 (by decide) ?_
    obtain ⟨k73, hf⟩ := pm_if hf
    refine pm_putI C dX10_alongTable_176 flX10_263 rfl rfl k73 rfl rfl ?_
    refine pm_lconst (v := 0) C dX10_alongTable_179 (by decide) ?_
    have hf := Option.some.inj hf
    subst hf
    exact pm_lret C X dX10_alongTable_180 rfl kc1 kc2 q
set_option maxHeartbeats 4000000 in
set_option maxRecDepth 100000 in
theorem bX10_alongTable_72 {g : pm_Gm} {l : Launch} {G : pm_Gl} {Qr : Option Value → pm_H → Prop} (C : pm_C g cX10_alongTable RX10) {h0 h : pm_H} {s0 : Int32} {r : (Int64 × pm_H)} (X : pm_X g l G mX10_alongTable (pm_sz r.2 - pm_sz h0) (pm_us r.2 - pm_us h0) Qr) (m0 : pm_Le h0 h) (hf : fX10_alongTable_b72 h s0 = some r) (q : Qr (some (.long r.1)) r.2) : pm_G g 72 [] [.int s0] h (pm_sz h - pm_sz h0) (pm_us h - pm_us h0) := by
  have le0 := moX10_alongTable_b72 hf
  have kc1 := Nat.sub_le_sub_right le0.1 (pm_sz h0)
  have kc2 := Nat.sub_le_sub_right le0.2 (pm_us h0)
  have K0 := pm_S3.rf h
  unfold fX10_alongTable_b72 at hf
  refine pm_i2l C dX10_alongTable_72 ?_
  refine pm_ldc2 C dX10_alongTable_73 cnX10_293 ?_
  refine pm_land C dX10_alongTable_76 ?_
  have hf := Option.some.inj hf
  subst hf
  exact pm_lret C X dX10_alongTable_77 rfl kc1 kc2 q
set_option maxHeartbeats 4000000 in
set_option maxRecDepth 100000 in
theorem bX10_alongTable_142 {g : pm_Gm} {l : Launch} {G : pm_Gl} {Qr : Option Value → pm_H → Prop} (C : pm_C g cX10_alongTable RX10) {h0 h : pm_H} {x0 : Nat} {x1 : Nat} {x2 : Int32} {x3 : Int32} {x5 : Int64} {x7 : Int64} {x9 : Int64} {x11 : Int32} {x12 : Int32} {x13 : Int32} {r : (Int64 × pm_H)} (X : pm_X g l G mX10_alongTable (pm_sz r.2 - pm_sz h0) (pm_us r.2 - pm_us h0) Qr) (m0 : pm_Le h0 h) (hf : fX10_alongTable_b142 h x0 x1 x2 x3 x5 x7 x9 x11 x12 x13 = some r) (q : Qr (some (.long r.1)) r.2) : pm_G g 142 [(0, .ref x0), (1, .ref x1), (2, .int x2), (3, .int x3), (5, .long x5), (7, .long x7), (9, .long x9), (11, .int x11), (12, .int x12), (13, .int x13)] [] h (pm_sz h - pm_sz h0) (pm_us h - pm_us h0) := by
  have le0 := moX10_alongTable_b142 hf
  have kc1 := Nat.sub_le_sub_right le0.1 (pm_sz h0)
  have kc2 := Nat.sub_le_sub_right le0.2 (pm_us h0)
  have K0 := pm_S3.rf h
  unfold fX10_alongTable_b142 at hf
  refine pm_iload_n C dX10_alongTable_142 rfl rfl ?_
  refine pm_sipush (v := 314) C dX10_alongTable_143 (by decide) ?_
  refine pm_icmp_ne (tgt := 168) C dX10_alongTable_146 (by decide) (fun c47 => ?_) (fun c47 => ?_)
  · have hf := pm_ie hf c47
    exact pa_join K0 (pm_sub [0, 1, 2, 3, 4, 5, 6, 7, 8, 9] rfl (bX10_alongTable_168 C X (m0.trans (pm_S3.le K0)) hf q))
  · have hf := pm_it hf c47
    refine pm_aload_n C dX10_alongTable_149 rfl rfl ?_
    obtain ⟨k48, hf⟩ := pm_if hf
    obtain ⟨v49, e50, hf⟩ := pm_bd hf
    refine pm_getR C dX10_alongTable_150 flX10_12 rfl k48 e50 ?_
    refine pm_iload C dX10_alongTable_153 rfl ?_
    refine pm_lload C dX10_alongTable_155 rfl ?_
    refine pm_lload C dX10_alongTable_157 rfl ?_
    obtain ⟨k51, hf⟩ := pm_if hf
    obtain ⟨v52, e53, hf⟩ := pm_bd hf
    refine pm_callV (as := [.int x12, .long x7, .long x9]) (st := []) C X dX10_alongTable_159 lnX10_326 myX11_reaches viX11_reaches ⟨by decide, by decide⟩ rfl rfl k51 (Nat.le_of_ble_eq_true rfl) kc1 kc2 (ctX11_reaches e53 ?_)
    show pm_G g 162 [(0, .ref x0), (1, .ref x1), (2, .int x2), (3, .int x3), (5, .long x5), (7, .long x7), (9, .long x9), (11, .int x11), (12, .int x12), (13, .int x13)] [.int v52] h (pm_sz h - pm_sz h0) (pm_us h - pm_us h0)
    refine pm_if_ne (tgt := 168) C dX10_alongTable_162 (by decide) (fun c54 => ?_) (fun c54 => ?_)
    · have hf := pm_ie hf c54
      exact pa_join K0 (pm_sub [0, 1, 2, 3, 4, 5, 6, 7, 8, 9] rfl (bX10_alongTable_168 C X (m0.trans (pm_S3.le K0)) hf q))
    · have hf := pm_it hf c54
      refine pm_iconst (v := 0) C dX10_alongTable_165 (by decide) ?_
      refine pm_istore (lv' := [(13, .int 0), (0, .ref x0), (1, .ref x1), (2, .int x2), (3, .int x3), (5, .long x5), (7, .long x7), (9, .long x9), (11, .int x11), (12, .int x12)]) C dX10_alongTable_166 (pm_nl X (by decide)) rfl ?_
      exact pa_join K0 (pm_sub [1, 2, 3, 4, 5, 6, 7, 8, 9, 0] rfl (bX10_alongTable_168 C X (m0.trans (pm_S3.le K0)) hf q))
set_option maxHeartbeats 4000000 in
set_option maxRecDepth 100000 in
theorem bX10_alongTable_35 {g : pm_Gm} {l : Launch} {G : pm_Gl} {Qr : Option Value → pm_H → Prop} (C : pm_C g cX10_alongTable RX10) {h0 h : pm_H} {x0 : Nat} {x1 : Nat} {x2 : Int32} {x3 : Int32} {x4 : Int32} {x5 : Int64} {x7 : Int64} {x9 : Int64} {s0 : Int32} {s1 : Nat} {r : (Int64 × pm_H)} (X : pm_X g l G mX10_alongTable (pm_sz r.2 - pm_sz h0) (pm_us r.2 - pm_us h0) Qr) (m0 : pm_Le h0 h) (hf : fX10_alongTable_b35 h x0 x1 x2 x3 x4 x5 x7 x9 s0 s1 = some r) (q : Qr (some (.long r.1)) r.2) : pm_G g 35 [(0, .ref x0), (1, .ref x1), (2, .int x2), (3, .int x3), (4, .int x4), (5, .long x5), (7, .long x7), (9, .long x9)] [.int s0, .ref s1] h (pm_sz h - pm_sz h0) (pm_us h - pm_us h0) := by
  have le0 := moX10_alongTable_b35 hf
  have kc1 := Nat.sub_le_sub_right le0.1 (pm_sz h0)
  have kc2 := Nat.sub_le_sub_right le0.2 (pm_us h0)
  have K0 := pm_S3.rf h
  unfold fX10_alongTable_b35 at hf
  obtain ⟨v12, e13, hf⟩ := pm_bd hf
  refine pm_callS (as := [.ref s1, .int s0]) (st := []) C X dX10_alongTable_35 lnX10_104 myX12_item stX12_item ⟨by decide, by decide⟩ rfl rfl (Nat.le_of_ble_eq_true rfl) kc1 kc2 (ctX12_item e13 ?_)
  show pm_G g 38 [(0, .ref x0), (1, .ref x1), (2, .int x2), (3, .int x3), (4, .int x4), (5, .long x5), (7, .long x7), (9, .long x9)] [.int v12] h (pm_sz h - pm_sz h0) (pm_us h - pm_us h0)
  refine pm_istore (lv' := [(11, .int v12), (0, .ref x0), (1, .ref x1), (2, .int x2), (3, .int x3), (4, .int x4), (5, .long x5), (7, .long x7), (9, .long x9)]) C dX10_alongTable_38 (pm_nl X (by decide)) rfl ?_
  refine pm_aload_n C dX10_alongTable_40 rfl rfl ?_
  obtain ⟨k14, hf⟩ := pm_if hf
  obtain ⟨v15, e16, hf⟩ := pm_bd hf
  refine pm_getR C dX10_alongTable_41 flX10_191 rfl k14 e16 ?_
  refine pm_iload C dX10_alongTable_44 rfl ?_
  obtain ⟨v17, e18, hf⟩ := pm_bd hf
  refine pm_callS (as := [.ref v15, .int x4]) (st := []) C X dX10_alongTable_46 lnX10_104 myX12_item stX12_item ⟨by decide, by decide⟩ rfl rfl (Nat.le_of_ble_eq_true rfl) kc1 kc2 (ctX12_item e18 ?_)
  show pm_G g 49 [(11, .int v12), (0, .ref x0), (1, .ref x1), (2, .int x2), (3, .int x3), (4, .int x4), (5, .long x5), (7, .long x7), (9, .long x9)] [.int v17] h (pm_sz h - pm_sz h0) (pm_us h - pm_us h0)
  refine pm_istore (lv' := [(12, .int v17), (11, .int v12), (0, .ref x0), (1, .ref x1), (2, .int x2), (3, .int x3), (4, .int x4), (5, .long x5), (7, .long x7), (9, .long x9)]) C dX10_alongTable_49 (pm_nl X (by decide)) rfl ?_
  refine pm_iload_n C dX10_alongTable_51 rfl rfl ?_
  refine pm_sipush (v := 315) C dX10_alongTable_52 (by decide) ?_
  refine pm_icmp_ne (tgt := 78) C dX10_alongTable_55 (by decide) (fun c19 => ?_) (fun c19 => ?_)
  · have hf := pm_ie hf c19
    refine pm_iload_n C dX10_alongTable_78 rfl rfl ?_
    refine pm_sipush (v := 316) C dX10_alongTable_79 (by decide) ?_
    refine pm_icmp_ne (tgt := 99) C dX10_alongTable_82 (by decide) (fun c20 => ?_) (fun c20 => ?_)
    · have hf := pm_ie hf c20
      refine pm_aload_n C dX10_alongTable_99 rfl rfl ?_
      obtain ⟨k21, hf⟩ := pm_if hf
      obtain ⟨v22, e23, hf⟩ := pm_bd hf
      refine pm_getR C dX10_alongTable_100 flX10_12 rfl k21 e23 ?_
      refine pm_iload C dX10_alongTable_103 rfl ?_
      refine pm_lload C dX10_alongTable_105 rfl ?_
      refine pm_lload C dX10_alongTable_107 rfl ?_
      obtain ⟨k24, hf⟩ := pm_if hf
      obtain ⟨v25, e26, hf⟩ := pm_bd hf
      refine pm_callV (as := [.int v12, .long x5, .long x9]) (st := []) C X dX10_alongTable_109 lnX10_326 myX11_reaches viX11_reaches ⟨by decide, by decide⟩ rfl rfl k24 (Nat.le_of_ble_eq_true rfl) kc1 kc2 (ctX11_reaches e26 ?_)
      show pm_G g 112 [(12, .int v17), (11, .int v12), (0, .ref x0), (1, .ref x1), (2, .int x2), (3, .int x3), (4, .int x4), (5, .long x5), (7, .long x7), (9, .long x9)] [.int v25] h (pm_sz h - pm_sz h0) (pm_us h - pm_us h0)
      refine pm_istore (lv' := [(13, .int v25), (12, .int v17), (11, .int v12), (0, .ref x0), (1, .ref x1), (2, .int x2), (3, .int x3), (4, .int x4), (5, .long x5), (7, .long x7), (9, .long x9)]) C dX10_alongTable_112 (pm_nl X (by decide)) rfl ?_
      refine pm_iload_n C dX10_alongTable_114 rfl rfl ?_
      refine pm_sipush (v := 312) C dX10_alongTable_115 (by decide) ?_
      refine pm_icmp_ne (tgt := 142) C dX10_alongTable_118 (by decide) (fun c27 => ?_) (fun c27 => ?_)
      · have hf := pm_ie hf c27
        exact pa_join K0 (pm_sub [3, 4, 5, 6, 8, 9, 10, 2, 1, 0] rfl (bX10_alongTable_142 C X (m0.trans (pm_S3.le K0)) hf q))
      · have hf := pm_it hf c27
        refine pm_lload C dX10_alongTable_121 rfl ?_
        refine pm_lload C dX10_alongTable_123 rfl ?_
        refine pm_ladd C dX10_alongTable_125 ?_
        refine pm_aload_n C dX10_alongTable_126 rfl rfl ?_
        obtain ⟨v28, e29, hf⟩ := pm_bd hf
        refine pm_getR C dX10_alongTable_127 flX10_244 rfl k14 e29 ?_
        refine pm_iload_n C dX10_alongTable_130 rfl rfl ?_
        obtain ⟨v30, e31, hf⟩ := pm_bd hf
        refine pm_callS (as := [.ref v28, .int x3]) (st := [.long (x7 + x9)]) C X dX10_alongTable_131 lnX10_104 myX12_item stX12_item ⟨by decide, by decide⟩ rfl rfl (Nat.le_of_ble_eq_true rfl) kc1 kc2 (ctX12_item e31 ?_)
        show pm_G g 134 [(13, .int v25), (12, .int v17), (11, .int v12), (0, .ref x0), (1, .ref x1), (2, .int x2), (3, .int x3), (4, .int x4), (5, .long x5), (7, .long x7), (9, .long x9)] [.int v30, .long (x7 + x9)] h (pm_sz h - pm_sz h0) (pm_us h - pm_us h0)
        refine pm_i2l C dX10_alongTable_134 ?_
        refine pm_lcmp C dX10_alongTable_135 ?_
        refine pm_if_le (tgt := 142) C dX10_alongTable_136 (by decide) (fun c32 => ?_) (fun c32 => ?_)
        · have hf := pm_it hf ((pm_lg_le _ _).mp c32)
          exact pa_join K0 (pm_sub [3, 4, 5, 6, 8, 9, 10, 2, 1, 0] rfl (bX10_alongTable_142 C X (m0.trans (pm_S3.le K0)) hf q))
        · have hf := pm_ie hf ((fun z => c32 ((pm_lg_le _ _).mpr z)))
          refine pm_iconst (v := 0) C dX10_alongTable_139 (by decide) ?_
          refine pm_istore (lv' := [(13, .int 0), (12, .int v17), (11, .int v12), (0, .ref x0), (1, .ref x1), (2, .int x2), (3, .int x3), (4, .int x4), (5, .long x5), (7, .long x7), (9, .long x9)]) C dX10_alongTable_140 (pm_nl X (by decide)) rfl ?_
          exact pa_join K0 (pm_sub [3, 4, 5, 6, 8, 9, 10, 2, 1, 0] rfl (bX10_alongTable_142 C X (m0.trans (pm_S3.le K0)) hf q))
    · have hf := pm_it hf c20
      refine pm_aload_n C dX10_alongTable_85 rfl rfl ?_
      obtain ⟨k33, hf⟩ := pm_if hf
      obtain ⟨v34, e35, hf⟩ := pm_bd hf
      refine pm_getR C dX10_alongTable_86 flX10_12 rfl k33 e35 ?_
      obtain ⟨k36, hf⟩ := pm_if hf
      obtain ⟨v37, e38, hf⟩ := pm_bd hf
      refine pm_getR C dX10_alongTable_89 flX10_132 rfl k36 e38 ?_
      refine pm_iload C dX10_alongTable_92 rfl ?_
      obtain ⟨v39, e40, hf⟩ := pm_bd hf
      refine pm_callS (as := [.ref v37, .int v12]) (st := []) C X dX10_alongTable_94 lnX10_104 myX12_item stX12_item ⟨by decide, by decide⟩ rfl rfl (Nat.le_of_ble_eq_true rfl) kc1 kc2 (ctX12_item e40 ?_)
      show pm_G g 97 [(12, .int v17), (11, .int v12), (0, .ref x0), (1, .ref x1), (2, .int x2), (3, .int x3), (4, .int x4), (5, .long x5), (7, .long x7), (9, .long x9)] [.int v39] h (pm_sz h - pm_sz h0) (pm_us h - pm_us h0)
      refine pm_i2l C dX10_alongTable_97 ?_
      have hf := Option.some.inj hf
      subst hf
      exact pm_lret C X dX10_alongTable_98 rfl kc1 kc2 q
  · have hf := pm_it hf c19
    refine pm_aload_n C dX10_alongTable_58 rfl rfl ?_
    obtain ⟨k41, hf⟩ := pm_if hf
    obtain ⟨v42, e43, hf⟩ := pm_bd hf
    refine pm_getR C dX10_alongTable_59 flX10_12 rfl k41 e43 ?_
    refine pm_iload C dX10_alongTable_62 rfl ?_
    refine pm_lload C dX10_alongTable_64 rfl ?_
    refine pm_lload C dX10_alongTable_66 rfl ?_
    refine pm_l2i C dX10_alongTable_68 ?_
    obtain ⟨k44, hf⟩ := pm_if hf
    obtain ⟨v45, e46, hf⟩ := pm_bd hf
    refine pm_callV (as := [.int v12, .long x7, .int x5.toInt32]) (st := []) C X dX10_alongTable_69 lnX10_333 myX11_grow viX11_grow ⟨by decide, by decide⟩ rfl rfl k44 (Nat.le_of_ble_eq_true rfl) (pa_le1 K0 m0 (moX11_grow e46) (moX10_alongTable_b72 hf)) (pa_le2 K0 m0 (moX11_grow e46) (moX10_alongTable_b72 hf)) (ctX11_grow e46 ?_)
    show pm_G g 72 [(12, .int v17), (11, .int v12), (0, .ref x0), (1, .ref x1), (2, .int x2), (3, .int x3), (4, .int x4), (5, .long x5), (7, .long x7), (9, .long x9)] [.int v45.1] v45.2 (pm_sz h - pm_sz h0 + (pm_sz v45.2 - pm_sz h)) (pm_us h - pm_us h0 + (pm_us v45.2 - pm_us h))
    refine pa_fin K0 m0 (moX11_grow e46) ?_
    exact pm_sub [] rfl (bX10_alongTable_72 C X ((m0.trans (pm_S3.le K0)).trans (moX11_grow e46)) hf q)
set_option maxHeartbeats 4000000 in
set_option maxRecDepth 100000 in
theorem bX10_alongTable_0 {g : pm_Gm} {l : Launch} {G : pm_Gl} {Qr : Option Value → pm_H → Prop} (C : pm_C g cX10_alongTable RX10) {h0 h : pm_H} {x0 : Nat} {x1 : Nat} {x2 : Int32} {x3 : Int32} {x4 : Int32} {x5 : Int64} {x7 : Int64} {x9 : Int64} {r : (Int64 × pm_H)} (X : pm_X g l G mX10_alongTable (pm_sz r.2 - pm_sz h0) (pm_us r.2 - pm_us h0) Qr) (m0 : pm_Le h0 h) (hf : fX10_alongTable_b0 h x0 x1 x2 x3 x4 x5 x7 x9 = some r) (q : Qr (some (.long r.1)) r.2) : pm_G g 0 [(0, .ref x0), (1, .ref x1), (2, .int x2), (3, .int x3), (4, .int x4), (5, .long x5), (7, .long x7), (9, .long x9)] [] h (pm_sz h - pm_sz h0) (pm_us h - pm_us h0) := by
  have le0 := moX10_alongTable_b0 hf
  have kc1 := Nat.sub_le_sub_right le0.1 (pm_sz h0)
  have kc2 := Nat.sub_le_sub_right le0.2 (pm_us h0)
  have K0 := pm_S3.rf h
  unfold fX10_alongTable_b0 at hf
  refine pm_iload_n C dX10_alongTable_0 rfl rfl ?_
  refine pm_sipush (v := 313) C dX10_alongTable_1 (by decide) ?_
  refine pm_icmp_ne (tgt := 18) C dX10_alongTable_4 (by decide) (fun c1 => ?_) (fun c1 => ?_)
  · have hf := pm_ie hf c1
    refine pm_aload_n C dX10_alongTable_18 rfl rfl ?_
    obtain ⟨k2, hf⟩ := pm_if hf
    obtain ⟨v3, e4, hf⟩ := pm_bd hf
    refine pm_getR C dX10_alongTable_19 flX10_191 rfl k2 e4 ?_
    refine pm_iload_n C dX10_alongTable_22 rfl rfl ?_
    refine pm_sipush (v := 312) C dX10_alongTable_23 (by decide) ?_
    refine pm_icmp_ne (tgt := 34) C dX10_alongTable_26 (by decide) (fun c5 => ?_) (fun c5 => ?_)
    · have hf := pm_ie hf c5
      refine pm_iload_n C dX10_alongTable_34 rfl rfl ?_
      exact pa_join K0 (pm_sub [0, 1, 2, 3, 4, 5, 6, 7] rfl (bX10_alongTable_35 C X (m0.trans (pm_S3.le K0)) hf q))
    · have hf := pm_it hf c5
      refine pm_iload C dX10_alongTable_29 rfl ?_
      refine pm_goto (tgt := 35) C dX10_alongTable_31 (by decide) ?_
      exact pa_join K0 (pm_sub [0, 1, 2, 3, 4, 5, 6, 7] rfl (bX10_alongTable_35 C X (m0.trans (pm_S3.le K0)) hf q))
  · have hf := pm_it hf c1
    refine pm_aload_n C dX10_alongTable_7 rfl rfl ?_
    obtain ⟨k6, hf⟩ := pm_if hf
    obtain ⟨v7, e8, hf⟩ := pm_bd hf
    refine pm_getR C dX10_alongTable_8 flX10_244 rfl k6 e8 ?_
    refine pm_iload_n C dX10_alongTable_11 rfl rfl ?_
    refine pm_iconst (v := 0) C dX10_alongTable_12 (by decide) ?_
    obtain ⟨v9, e10, hf⟩ := pm_bd hf
    refine pm_callS (as := [.ref v7, .int x3, .int 0]) (st := []) C X dX10_alongTable_13 lnX10_184 myX12_setItem stX12_setItem ⟨by decide, by decide⟩ rfl rfl (Nat.le_of_ble_eq_true rfl) kc1 kc2 (ctX12_setItem e10 ?_)
    have K11 := pm_S3.trans (kpX12_setItem e10) K0
    show pm_G g 16 [(0, .ref x0), (1, .ref x1), (2, .int x2), (3, .int x3), (4, .int x4), (5, .long x5), (7, .long x7), (9, .long x9)] [] v9 (pm_sz h - pm_sz h0) (pm_us h - pm_us h0)
    refine pm_lconst (v := 0) C dX10_alongTable_16 (by decide) ?_
    have hf := Option.some.inj hf
    subst hf
    exact pm_lret C X dX10_alongTable_17 rfl kc1 kc2 q
set_option maxHeartbeats 4000000 in
set_option maxRecDepth 100000 in
theorem ctX10_alongTable {l : Launch} {G : pm_Gl} {h : pm_H} {a0 : Nat} {p1 : Nat} {p2 : Int32} {p3 : Int32} {p4 : Int32} {p5 : Int64} {p6 : Int64} {p7 : Int64} {r : (Int64 × pm_H)} {Qr : Option Value → pm_H → Prop} (hf : fX10_alongTable h a0 p1 p2 p3 p4 p5 p6 p7 = some r) (q : Qr (some (.long r.1)) r.2) : pm_Ct l G mX10_alongTable [.ref a0, .ref p1, .int p2, .int p3, .int p4, .long p5, .long p6, .long p7] h (pm_sz r.2 - pm_sz h) (pm_us r.2 - pm_us h) Qr := by
  refine pm_body pnX10 (Nat.le_of_ble_eq_true rfl) (fun g C X => ?_)
  have C : pm_C g cX10_alongTable RX10 := C
  show pm_G g 0 [(0, .ref a0), (1, .ref p1), (2, .int p2), (3, .int p3), (4, .int p4), (5, .long p5), (7, .long p6), (9, .long p7)] [] h 0 0
  unfold fX10_alongTable at hf
  exact pa_start (pm_sub [0, 1, 2, 3, 4, 5, 6, 7] rfl (bX10_alongTable_0 C X (pm_Le.rf h) hf q))
