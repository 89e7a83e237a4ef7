theorem dX8_add_0 : decode cX8_add 0 = .ok (.iload_n 0, 1) := by decide +kernel
theorem dX8_add_1 : decode cX8_add 1 = .ok (.lload_n 1, 1) := by decide +kernel
theorem dX8_add_2 : decode cX8_add 2 = .ok (.invokestatic 155, 3) := by decide +kernel
theorem dX8_add_5 : decode cX8_add 5 = .ok (.ifCond .eq 26, 3) := by decide +kernel
theorem dX8_add_8 : decode cX8_add 8 = .ok (.iload_n 0, 1) := by decide +kernel
theorem dX8_add_9 : decode cX8_add 9 = .ok (.lload_n 3, 1) := by decide +kernel
theorem dX8_add_10 : decode cX8_add 10 = .ok (.invokestatic 155, 3) := by decide +kernel
theorem dX8_add_13 : decode cX8_add 13 = .ok (.ifCond .eq 16, 3) := by decide +kernel
theorem dX8_add_16 : decode cX8_add 16 = .ok (.lload_n 1, 1) := by decide +kernel
theorem dX8_add_17 : decode cX8_add 17 = .ok (.lload_n 3, 1) := by decide +kernel
theorem dX8_add_18 : decode cX8_add 18 = .ok (.lcmp, 1) := by decide +kernel
theorem dX8_add_19 : decode cX8_add 19 = .ok (.ifCond .eq 10, 3) := by decide +kernel
theorem dX8_add_22 : decode cX8_add 22 = .ok (.iload_n 0, 1) := by decide +kernel
theorem dX8_add_23 : decode cX8_add 23 = .ok (.invokestatic 136, 3) := by decide +kernel
theorem dX8_add_26 : decode cX8_add 26 = .ok (.goto 4, 3) := by decide +kernel
theorem dX8_add_29 : decode cX8_add 29 = .ok (.lload_n 1, 1) := by decide +kernel
theorem dX8_add_30 : decode cX8_add 30 = .ok (.lreturn, 1) := by decide +kernel
theorem dX8_add_31 : decode cX8_add 31 = .ok (.iload_n 0, 1) := by decide +kernel
theorem dX8_add_32 : decode cX8_add 32 = .ok (.lload_n 3, 1) := by decide +kernel
theorem dX8_add_33 : decode cX8_add 33 = .ok (.invokestatic 155, 3) := by decide +kernel
theorem dX8_add_36 : decode cX8_add 36 = .ok (.ifCond .eq 5, 3) := by decide +kernel
theorem dX8_add_39 : decode cX8_add 39 = .ok (.lload_n 3, 1) := by decide +kernel
theorem dX8_add_40 : decode cX8_add 40 = .ok (.lreturn, 1) := by decide +kernel
theorem dX8_add_41 : decode cX8_add 41 = .ok (.iload_n 0, 1) := by decide +kernel
theorem dX8_add_42 : decode cX8_add 42 = .ok (.lload_n 1, 1) := by decide +kernel
theorem dX8_add_43 : decode cX8_add 43 = .ok (.invokestatic 78, 3) := by decide +kernel
theorem dX8_add_46 : decode cX8_add 46 = .ok (.ifCond .eq 15, 3) := by decide +kernel
theorem dX8_add_49 : decode cX8_add 49 = .ok (.iload_n 0, 1) := by decide +kernel
theorem dX8_add_50 : decode cX8_add 50 = .ok (.lload_n 3, 1) := by decide +kernel
theorem dX8_add_51 : decode cX8_add 51 = .ok (.invokestatic 78, 3) := by decide +kernel
theorem dX8_add_54 : decode cX8_add 54 = .ok (.ifCond .eq 7, 3) := by decide +kernel
theorem dX8_add_57 : decode cX8_add 57 = .ok (.lload_n 1, 1) := by decide +kernel
theorem dX8_add_58 : decode cX8_add 58 = .ok (.lload_n 3, 1) := by decide +kernel
theorem dX8_add_59 : decode cX8_add 59 = .ok (.land, 1) := by decide +kernel
theorem dX8_add_60 : decode cX8_add 60 = .ok (.lreturn, 1) := by decide +kernel
theorem dX8_add_61 : decode cX8_add 61 = .ok (.iload_n 0, 1) := by decide +kernel
theorem dX8_add_62 : decode cX8_add 62 = .ok (.lload_n 1, 1) := by decide +kernel
theorem dX8_add_63 : decode cX8_add 63 = .ok (.invokestatic 78, 3) := by decide +kernel
theorem dX8_add_66 : decode cX8_add 66 = .ok (.ifCond .eq 5, 3) := by decide +kernel
theorem dX8_add_69 : decode cX8_add 69 = .ok (.lload_n 3, 1) := by decide +kernel
theorem dX8_add_70 : decode cX8_add 70 = .ok (.lreturn, 1) := by decide +kernel
theorem dX8_add_71 : decode cX8_add 71 = .ok (.iload_n 0, 1) := by decide +kernel
theorem dX8_add_72 : decode cX8_add 72 = .ok (.lload_n 3, 1) := by decide +kernel
theorem dX8_add_73 : decode cX8_add 73 = .ok (.invokestatic 78, 3) := by decide +kernel
theorem dX8_add_76 : decode cX8_add 76 = .ok (.ifCond .eq 5, 3) := by decide +kernel
theorem dX8_add_79 : decode cX8_add 79 = .ok (.lload_n 1, 1) := by decide +kernel
theorem dX8_add_80 : decode cX8_add 80 = .ok (.lreturn, 1) := by decide +kernel
theorem dX8_add_81 : decode cX8_add 81 = .ok (.iload_n 0, 1) := by decide +kernel
theorem dX8_add_82 : decode cX8_add 82 = .ok (.lload_n 1, 1) := by decide +kernel
theorem dX8_add_83 : decode cX8_add 83 = .ok (.invokestatic 158, 3) := by decide +kernel
theorem dX8_add_86 : decode cX8_add 86 = .ok (.iload_n 0, 1) := by decide +kernel
theorem dX8_add_87 : decode cX8_add 87 = .ok (.lload_n 3, 1) := by decide +kernel
theorem dX8_add_88 : decode cX8_add 88 = .ok (.invokestatic 158, 3) := by decide +kernel
theorem dX8_add_91 : decode cX8_add 91 = .ok (.if_icmp .lt 7, 3) := by decide +kernel
theorem dX8_add_94 : decode cX8_add 94 = .ok (.iconst 1, 1) := by decide +kernel
theorem dX8_add_95 : decode cX8_add 95 = .ok (.goto 4, 3) := by decide +kernel
theorem dX8_add_98 : decode cX8_add 98 = .ok (.iconst 0, 1) := by decide +kernel
theorem dX8_add_99 : decode cX8_add 99 = .ok (.istore 5, 2) := by decide +kernel
theorem dX8_add_101 : decode cX8_add 101 = .ok (.iload 5, 2) := by decide +kernel
theorem dX8_add_103 : decode cX8_add 103 = .ok (.ifCond .eq 7, 3) := by decide +kernel
theorem dX8_add_106 : decode cX8_add 106 = .ok (.lload_n 1, 1) := by decide +kernel
theorem dX8_add_107 : decode cX8_add 107 = .ok (.goto 4, 3) := by decide +kernel
theorem dX8_add_110 : decode cX8_add 110 = .ok (.lload_n 3, 1) := by decide +kernel
theorem dX8_add_111 : decode cX8_add 111 = .ok (.lstore 6, 2) := by decide +kernel
theorem dX8_add_113 : decode cX8_add 113 = .ok (.iload 5, 2) := by decide +kernel
theorem dX8_add_115 : decode cX8_add 115 = .ok (.ifCond .eq 7, 3) := by decide +kernel
theorem dX8_add_118 : decode cX8_add 118 = .ok (.lload_n 3, 1) := by decide +kernel
theorem dX8_add_119 : decode cX8_add 119 = .ok (.goto 4, 3) := by decide +kernel
theorem dX8_add_122 : decode cX8_add 122 = .ok (.lload_n 1, 1) := by decide +kernel
theorem dX8_add_123 : decode cX8_add 123 = .ok (.lstore 8, 2) := by decide +kernel
theorem dX8_add_125 : decode cX8_add 125 = .ok (.iload_n 0, 1) := by decide +kernel
theorem dX8_add_126 : decode cX8_add 126 = .ok (.lload 6, 2) := by decide +kernel
theorem dX8_add_128 : decode cX8_add 128 = .ok (.invokestatic 158, 3) := by decide +kernel
theorem dX8_add_131 : decode cX8_add 131 = .ok (.iload_n 0, 1) := by decide +kernel
theorem dX8_add_132 : decode cX8_add 132 = .ok (.lload 8, 2) := by decide +kernel
theorem dX8_add_134 : decode cX8_add 134 = .ok (.invokestatic 158, 3) := by decide +kernel
theorem dX8_add_137 : decode cX8_add 137 = .ok (.isub, 1) := by decide +kernel
theorem dX8_add_138 : decode cX8_add 138 = .ok (.istore 10, 2) := by decide +kernel
theorem dX8_add_140 : decode cX8_add 140 = .ok (.iload_n 0, 1) := by decide +kernel
theorem dX8_add_141 : decode cX8_add 141 = .ok (.lload 6, 2) := by decide +kernel
theorem dX8_add_143 : decode cX8_add 143 = .ok (.invokestatic 165, 3) := by decide +kernel
theorem dX8_add_146 : decode cX8_add 146 = .ok (.bipush 9, 2) := by decide +kernel
theorem dX8_add_148 : decode cX8_add 148 = .ok (.lshl, 1) := by decide +kernel
theorem dX8_add_149 : decode cX8_add 149 = .ok (.lstore 11, 2) := by decide +kernel
theorem dX8_add_151 : decode cX8_add 151 = .ok (.iload_n 0, 1) := by decide +kernel
theorem dX8_add_152 : decode cX8_add 152 = .ok (.lload 8, 2) := by decide +kernel
theorem dX8_add_154 : decode cX8_add 154 = .ok (.invokestatic 165, 3) := by decide +kernel
theorem dX8_add_157 : decode cX8_add 157 = .ok (.bipush 9, 2) := by decide +kernel
theorem dX8_add_159 : decode cX8_add 159 = .ok (.lshl, 1) := by decide +kernel
theorem dX8_add_160 : decode cX8_add 160 = .ok (.lstore 13, 2) := by decide +kernel
theorem dX8_add_162 : decode cX8_add 162 = .ok (.iload 10, 2) := by decide +kernel
theorem dX8_add_164 : decode cX8_add 164 = .ok (.bipush 62, 2) := by decide +kernel
theorem dX8_add_166 : decode cX8_add 166 = .ok (.if_icmp .le 9, 3) := by decide +kernel
theorem dX8_add_169 : decode cX8_add 169 = .ok (.lconst 1, 1) := by decide +kernel
theorem dX8_add_170 : decode cX8_add 170 = .ok (.lstore 13, 2) := by decide +kernel
theorem dX8_add_172 : decode cX8_add 172 = .ok (.goto 36, 3) := by decide +kernel
theorem dX8_add_175 : decode cX8_add 175 = .ok (.iload 10, 2) := by decide +kernel
theorem dX8_add_177 : decode cX8_add 177 = .ok (.ifCond .le 31, 3) := by decide +kernel
theorem dX8_add_180 : decode cX8_add 180 = .ok (.lload 13, 2) := by decide +kernel
theorem dX8_add_182 : decode cX8_add 182 = .ok (.iload 10, 2) := by decide +kernel
theorem dX8_add_184 : decode cX8_add 184 = .ok (.lushr, 1) := by decide +kernel
theorem dX8_add_185 : decode cX8_add 185 = .ok (.lload 13, 2) := by decide +kernel
theorem dX8_add_187 : decode cX8_add 187 = .ok (.lconst 1, 1) := by decide +kernel
theorem dX8_add_188 : decode cX8_add 188 = .ok (.iload 10, 2) := by decide +kernel
theorem dX8_add_190 : decode cX8_add 190 = .ok (.lshl, 1) := by decide +kernel
theorem dX8_add_191 : decode cX8_add 191 = .ok (.lconst 1, 1) := by decide +kernel
theorem dX8_add_192 : decode cX8_add 192 = .ok (.lsub, 1) := by decide +kernel
theorem dX8_add_193 : decode cX8_add 193 = .ok (.land, 1) := by decide +kernel
theorem dX8_add_194 : decode cX8_add 194 = .ok (.lconst 0, 1) := by decide +kernel
theorem dX8_add_195 : decode cX8_add 195 = .ok (.lcmp, 1) := by decide +kernel
theorem dX8_add_196 : decode cX8_add 196 = .ok (.ifCond .eq 7, 3) := by decide +kernel
theorem dX8_add_199 : decode cX8_add 199 = .ok (.iconst 1, 1) := by decide +kernel
theorem dX8_add_200 : decode cX8_add 200 = .ok (.goto 4, 3) := by decide +kernel
theorem dX8_add_203 : decode cX8_add 203 = .ok (.iconst 0, 1) := by decide +kernel
theorem dX8_add_204 : decode cX8_add 204 = .ok (.i2l, 1) := by decide +kernel
theorem dX8_add_205 : decode cX8_add 205 = .ok (.lor, 1) := by decide +kernel
theorem dX8_add_206 : decode cX8_add 206 = .ok (.lstore 13, 2) := by decide +kernel
theorem dX8_add_208 : decode cX8_add 208 = .ok (.iload_n 0, 1) := by decide +kernel
theorem dX8_add_209 : decode cX8_add 209 = .ok (.lload 6, 2) := by decide +kernel
theorem dX8_add_211 : decode cX8_add 211 = .ok (.invokestatic 162, 3) := by decide +kernel
theorem dX8_add_214 : decode cX8_add 214 = .ok (.ifCond .eq 9, 3) := by decide +kernel
theorem dX8_add_217 : decode cX8_add 217 = .ok (.lload 11, 2) := by decide +kernel
theorem dX8_add_219 : decode cX8_add 219 = .ok (.lneg, 1) := by decide +kernel
theorem dX8_add_220 : decode cX8_add 220 = .ok (.goto 5, 3) := by decide +kernel
theorem dX8_add_223 : decode cX8_add 223 = .ok (.lload 11, 2) := by decide +kernel
theorem dX8_add_225 : decode cX8_add 225 = .ok (.iload_n 0, 1) := by decide +kernel
theorem dX8_add_226 : decode cX8_add 226 = .ok (.lload 8, 2) := by decide +kernel
theorem dX8_add_228 : decode cX8_add 228 = .ok (.invokestatic 162, 3) := by decide +kernel
theorem dX8_add_231 : decode cX8_add 231 = .ok (.ifCond .eq 9, 3) := by decide +kernel
theorem dX8_add_234 : decode cX8_add 234 = .ok (.lload 13, 2) := by decide +kernel
theorem dX8_add_236 : decode cX8_add 236 = .ok (.lneg, 1) := by decide +kernel
theorem dX8_add_237 : decode cX8_add 237 = .ok (.goto 5, 3) := by decide +kernel
theorem dX8_add_240 : decode cX8_add 240 = .ok (.lload 13, 2) := by decide +kernel
theorem dX8_add_242 : decode cX8_add 242 = .ok (.ladd, 1) := by decide +kernel
theorem dX8_add_243 : decode cX8_add 243 = .ok (.lstore 15, 2) := by decide +kernel
theorem dX8_add_245 : decode cX8_add 245 = .ok (.iload_n 0, 1) := by decide +kernel
theorem dX8_add_246 : decode cX8_add 246 = .ok (.lload 15, 2) := by decide +kernel
theorem dX8_add_248 : decode cX8_add 248 = .ok (.lconst 0, 1) := by decide +kernel
theorem dX8_add_249 : decode cX8_add 249 = .ok (.lcmp, 1) := by decide +kernel
theorem dX8_add_250 : decode cX8_add 250 = .ok (.ifCond .ge 7, 3) := by decide +kernel
theorem dX8_add_253 : decode cX8_add 253 = .ok (.iconst 1, 1) := by decide +kernel
theorem dX8_add_254 : decode cX8_add 254 = .ok (.goto 4, 3) := by decide +kernel
theorem dX8_add_257 : decode cX8_add 257 = .ok (.iconst 0, 1) := by decide +kernel
theorem dX8_add_258 : decode cX8_add 258 = .ok (.lload 15, 2) := by decide +kernel
theorem dX8_add_260 : decode cX8_add 260 = .ok (.invokestatic 174, 3) := by decide +kernel
theorem dX8_add_263 : decode cX8_add 263 = .ok (.iload_n 0, 1) := by decide +kernel
theorem dX8_add_264 : decode cX8_add 264 = .ok (.lload 6, 2) := by decide +kernel
theorem dX8_add_266 : decode cX8_add 266 = .ok (.invokestatic 158, 3) := by decide +kernel
theorem dX8_add_269 : decode cX8_add 269 = .ok (.bipush 9, 2) := by decide +kernel
theorem dX8_add_271 : decode cX8_add 271 = .ok (.isub, 1) := by decide +kernel
theorem dX8_add_272 : decode cX8_add 272 = .ok (.invokestatic 168, 3) := by decide +kernel
theorem dX8_add_275 : decode cX8_add 275 = .ok (.lreturn, 1) := by decide +kernel
def fX8_add_b225 (x0 : Int32) (x6 : Int64) (x8 : Int64) (x13 : Int64) (s0 : Int64) : Int64 := pm_let (fX8_isMinus x0 x8) fun v56 => if v56 = 0 then (pm_let (s0 + x13) fun y59 => if 0 ≤ y59 then (pm_let (fX8_scale x0 x6) fun v62 => pm_let (fX8_round x0 0 (if 0 < y59 then y59 else -y59) (v62 - 9)) fun v64 => v64) else (pm_let (fX8_scale x0 x6) fun v66 => pm_let (fX8_round x0 1 (if 0 < y59 then y59 else -y59) (v66 - 9)) fun v68 => v68)) else (pm_let (s0 + (-x13)) fun y70 => if 0 ≤ y70 then (pm_let (fX8_scale x0 x6) fun v73 => pm_let (fX8_round x0 0 (if 0 < y70 then y70 else -y70) (v73 - 9)) fun v75 => v75) else (pm_let (fX8_scale x0 x6) fun v77 => pm_let (fX8_round x0 1 (if 0 < y70 then y70 else -y70) (v77 - 9)) fun v79 => v79))
def fX8_add_b208 (x0 : Int32) (x6 : Int64) (x8 : Int64) (x11 : Int64) (x13 : Int64) : Int64 := pm_let (fX8_isMinus x0 x6) fun v53 => if v53 = 0 then (fX8_add_b225 x0 x6 x8 x13 x11) else (fX8_add_b225 x0 x6 x8 x13 (-x11))
def fX8_add_b123 (x0 : Int32) (x6 : Int64) (s0 : Int64) : Int64 := pm_let (fX8_scale x0 x6) fun v32 => pm_let (fX8_scale x0 s0) fun v34 => pm_let (v32 - v34) fun y36 => pm_let (fX8_significand x0 x6) fun v38 => pm_let (v38 <<< ((9 : Int32).toInt64 &&& 63)) fun y40 => pm_let (fX8_significand x0 s0) fun v42 => pm_let (v42 <<< ((9 : Int32).toInt64 &&& 63)) fun y44 => if y36 ≤ 62 then (if y36 ≤ 0 then (fX8_add_b208 x0 x6 s0 y40 y44) else (if (y44 &&& (((1 : Int64) <<< (y36.toInt64 &&& 63)) - 1)) = 0 then (pm_let (((y44.toUInt64 >>> (y36.toInt64.toUInt64 &&& Int64.toUInt64 63)).toInt64) ||| ((0 : Int32).toInt64)) fun y49 => fX8_add_b208 x0 x6 s0 y40 y49) else (pm_let (((y44.toUInt64 >>> (y36.toInt64.toUInt64 &&& Int64.toUInt64 63)).toInt64) ||| ((1 : Int32).toInt64)) fun y51 => fX8_add_b208 x0 x6 s0 y40 y51))) else (fX8_add_b208 x0 x6 s0 y40 1)
def fX8_add_b111 (x0 : Int32) (x1 : Int64) (x3 : Int64) (x5 : Int32) (s0 : Int64) : Int64 := if x5 = 0 then (fX8_add_b123 x0 s0 x1) else (fX8_add_b123 x0 s0 x3)
def fX8_add_b99 (x0 : Int32) (x1 : Int64) (x3 : Int64) (s0 : Int32) : Int64 := if s0 = 0 then (fX8_add_b111 x0 x1 x3 s0 x3) else (fX8_add_b111 x0 x1 x3 s0 x1)
def fX8_add_b61 (x0 : Int32) (x1 : Int64) (x3 : Int64) : Int64 := pm_let (fX8_isZero x0 x1) fun v19 => if v19 = 0 then (pm_let (fX8_isZero x0 x3) fun v22 => if v22 = 0 then (pm_let (fX8_scale x0 x1) fun v25 => pm_let (fX8_scale x0 x3) fun v27 => if v25 < v27 then (fX8_add_b99 x0 x1 x3 0) else (fX8_add_b99 x0 x1 x3 1)) else (x1)) else (x3)
def fX8_add (p1 : Int32) (p2 : Int64) (p3 : Int64) : Int64 := pm_let (fX8_isInfinite p1 p2) fun v1 => if v1 = 0 then (pm_let (fX8_isInfinite p1 p3) fun v4 => if v4 = 0 then (pm_let (fX8_isZero p1 p2) fun v7 => if v7 = 0 then (fX8_add_b61 p1 p2 p3) else (pm_let (fX8_isZero p1 p3) fun v10 => if v10 = 0 then (fX8_add_b61 p1 p2 p3) else (p2 &&& p3))) else (p3)) else (pm_let (fX8_isInfinite p1 p3) fun v13 => if v13 = 0 then (p2) else (if p2 = p3 then (p2) else (pm_let (fX8_none p1) fun v17 => v17)))
set_option maxHeartbeats 4000000 in
set_option maxRecDepth 100000 in
theorem bX8_add_225 {g : pm_Gm} {l : Launch} {G : pm_Gl} {Qr : Option Value → pm_H → Prop} (C : pm_C g cX8_add RX8) (X : pm_X g l G mX8_add 0 0 Qr) {h : pm_H} {x0 : Int32} {x6 : Int64} {x8 : Int64} {x13 : Int64} {s0 : Int64} {r : Int64} (hf : fX8_add_b225 x0 x6 x8 x13 s0 = r) (q : Qr (some (.long r)) h) : pm_G g 225 [(0, .int x0), (6, .long x6), (8, .long x8), (13, .long x13)] [.long s0] h 0 0 := by
  unfold fX8_add_b225 at hf
  refine pm_iload_n C dX8_add_225 rfl rfl ?_
  refine pm_lload C dX8_add_226 rfl ?_
  obtain ⟨v56, e57, hf⟩ := pm_lt hf
  refine pm_callS (as := [.int x0, .long x8]) (st := [.long s0]) C X dX8_add_228 lnX8_162 myX8_isMinus stX8_isMinus ⟨by decide, by decide⟩ rfl rfl (Nat.le_of_ble_eq_true rfl) (Nat.le_refl _) (Nat.le_refl _) (ctX8_isMinus e57 ?_)
  show pm_G g 231 [(0, .int x0), (6, .long x6), (8, .long x8), (13, .long x13)] [.int v56, .long s0] h 0 0
  refine pm_if_eq (tgt := 240) C dX8_add_231 (by decide) (fun c58 => ?_) (fun c58 => ?_)
  · have hf := pm_it hf c58
    refine pm_lload C dX8_add_240 rfl ?_
    refine pm_ladd C dX8_add_242 ?_
    obtain ⟨y59, e60, hf⟩ := pm_lt hf
    refine pm_topL e60 ?_
    refine pm_lstore (lv' := [(15, .long y59), (0, .int x0), (6, .long x6), (8, .long x8), (13, .long x13)]) C dX8_add_243 (pm_nl X (by decide)) rfl ?_
    refine pm_iload_n C dX8_add_245 rfl rfl ?_
    refine pm_lload C dX8_add_246 rfl ?_
    refine pm_lconst (v := 0) C dX8_add_248 (by decide) ?_
    refine pm_lcmp C dX8_add_249 ?_
    refine pm_if_ge (tgt := 257) C dX8_add_250 (by decide) (fun c61 => ?_) (fun c61 => ?_)
    · have hf := pm_it hf ((pm_lg_ge _ _).mp c61)
      refine pm_iconst (v := 0) C dX8_add_257 (by decide) ?_
      refine pm_lload C dX8_add_258 rfl ?_
      refine pm_mabsJ C (pm_XR X) dX8_add_260 mtX8_174 (by decide) (by decide) (Nat.le_of_ble_eq_true rfl) (Nat.zero_le _) (Nat.zero_le _) ?_
      refine pm_iload_n C dX8_add_263 rfl rfl ?_
      refine pm_lload C dX8_add_264 rfl ?_
      obtain ⟨v62, e63, hf⟩ := pm_lt hf
      refine pm_callS (as := [.int x0, .long x6]) (st := [.long (if 0 < y59 then y59 else -y59), .int 0, .int x0]) C X dX8_add_266 lnX8_158 myX8_scale stX8_scale ⟨by decide, by decide⟩ rfl rfl (Nat.le_of_ble_eq_true rfl) (Nat.le_refl _) (Nat.le_refl _) (ctX8_scale e63 ?_)
      show pm_G g 269 [(15, .long y59), (0, .int x0), (6, .long x6), (8, .long x8), (13, .long x13)] [.int v62, .long (if 0 < y59 then y59 else -y59), .int 0, .int x0] h 0 0
      refine pm_bipush (v := 9) C dX8_add_269 (by decide) ?_
      refine pm_isub C dX8_add_271 ?_
      obtain ⟨v64, e65, hf⟩ := pm_lt hf
      refine pm_callS (as := [.int x0, .int 0, .long (if 0 < y59 then y59 else -y59), .int (v62 - 9)]) (st := []) C X dX8_add_272 lnX8_168 myX8_round stX8_round ⟨by decide, by decide⟩ rfl rfl (Nat.le_of_ble_eq_true rfl) (Nat.le_refl _) (Nat.le_refl _) (ctX8_round e65 ?_)
      show pm_G g 275 [(15, .long y59), (0, .int x0), (6, .long x6), (8, .long x8), (13, .long x13)] [.long v64] h 0 0
      subst hf
      exact pm_lret C X dX8_add_275 rfl (Nat.le_refl _) (Nat.le_refl _) q
    · have hf := pm_ie hf ((fun z => c61 ((pm_lg_ge _ _).mpr z)))
      refine pm_iconst (v := 1) C dX8_add_253 (by decide) ?_
      refine pm_goto (tgt := 258) C dX8_add_254 (by decide) ?_
      refine pm_lload C dX8_add_258 rfl ?_
      refine pm_mabsJ C (pm_XR X) dX8_add_260 mtX8_174 (by decide) (by decide) (Nat.le_of_ble_eq_true rfl) (Nat.zero_le _) (Nat.zero_le _) ?_
      refine pm_iload_n C dX8_add_263 rfl rfl ?_
      refine pm_lload C dX8_add_264 rfl ?_
      obtain ⟨v66, e67, hf⟩ := pm_lt hf
      refine pm_callS (as := [.int x0, .long x6]) (st := [.long (if 0 < y59 then y59 else -y59), .int 1, .int x0]) C X dX8_add_266 lnX8_158 myX8_scale stX8_scale ⟨by decide, by decide⟩ rfl rfl (Nat.le_of_ble_eq_true rfl) (Nat.le_refl _) (Nat.le_refl _) (ctX8_scale e67 ?_)
      show pm_G g 269 [(15, .long y59), (0, .int x0), (6, .long x6), (8, .long x8), (13, .long x13)] [.int v66, .long (if 0 < y59 then y59 else -y59), .int 1, .int x0] h 0 0
      refine pm_bipush (v := 9) C dX8_add_269 (by decide) ?_
      refine pm_isub C dX8_add_271 ?_
      obtain ⟨v68, e69, hf⟩ := pm_lt hf
      refine pm_callS (as := [.int x0, .int 1, .long (if 0 < y59 then y59 else -y59), .int (v66 - 9)]) (st := []) C X dX8_add_272 lnX8_168 myX8_round stX8_round ⟨by decide, by decide⟩ rfl rfl (Nat.le_of_ble_eq_true rfl) (Nat.le_refl _) (Nat.le_refl _) (ctX8_round e69 ?_)
      show pm_G g 275 [(15, .long y59), (0, .int x0), (6, .long x6), (8, .long x8), (13, .long x13)] [.long v68] h 0 0
      subst hf
      exact pm_lret C X dX8_add_275 rfl (Nat.le_refl _) (Nat.le_refl _) q
  · have hf := pm_ie hf c58
    refine pm_lload C dX8_add_234 rfl ?_
    refine pm_lneg C dX8_add_236 ?_
    refine pm_goto (tgt := 242) C dX8_add_237 (by decide) ?_
    refine pm_ladd C dX8_add_242 ?_
    obtain ⟨y70, e71, hf⟩ := pm_lt hf
    refine pm_topL e71 ?_
    refine pm_lstore (lv' := [(15, .long y70), (0, .int x0), (6, .long x6), (8, .long x8), (13, .long x13)]) C dX8_add_243 (pm_nl X (by decide)) rfl ?_
    refine pm_iload_n C dX8_add_245 rfl rfl ?_
    refine pm_lload C dX8_add_246 rfl ?_
    refine pm_lconst (v := 0) C dX8_add_248 (by decide) ?_
    refine pm_lcmp C dX8_add_249 ?_
    refine pm_if_ge (tgt := 257) C dX8_add_250 (by decide) (fun c72 => ?_) (fun c72 => ?_)
    · have hf := pm_it hf ((pm_lg_ge _ _).mp c72)
      refine pm_iconst (v := 0) C dX8_add_257 (by decide) ?_
      refine pm_lload C dX8_add_258 rfl ?_
      refine pm_mabsJ C (pm_XR X) dX8_add_260 mtX8_174 (by decide) (by decide) (Nat.le_of_ble_eq_true rfl) (Nat.zero_le _) (Nat.zero_le _) ?_
      refine pm_iload_n C dX8_add_263 rfl rfl ?_
      refine pm_lload C dX8_add_264 rfl ?_
      obtain ⟨v73, e74, hf⟩ := pm_lt hf
      refine pm_callS (as := [.int x0, .long x6]) (st := [.long (if 0 < y70 then y70 else -y70), .int 0, .int x0]) C X dX8_add_266 lnX8_158 myX8_scale stX8_scale ⟨by decide, by decide⟩ rfl rfl (Nat.le_of_ble_eq_true rfl) (Nat.le_refl _) (Nat.le_refl _) (ctX8_scale e74 ?_)
      show pm_G g 269 [(15, .long y70), (0, .int x0), (6, .long x6), (8, .long x8), (13, .long x13)] [.int v73, .long (if 0 < y70 then y70 else -y70), .int 0, .int x0] h 0 0
      refine pm_bipush (v := 9) C dX8_add_269 (by decide) ?_
      refine pm_isub C dX8_add_271 ?_
      obtain ⟨v75, e76, hf⟩ := pm_lt hf
      refine pm_callS (as := [.int x0, .int 0, .long (if 0 < y70 then y70 else -y70), .int (v73 - 9)]) (st := []) C X dX8_add_272 lnX8_168 myX8_round stX8_round ⟨by decide, by decide⟩ rfl rfl (Nat.le_of_ble_eq_true rfl) (Nat.le_refl _) (Nat.le_refl _) (ctX8_round e76 ?_)
      show pm_G g 275 [(15, .long y70), (0, .int x0), (6, .long x6), (8, .long x8), (13, .long x13)] [.long v75] h 0 0
      subst hf
      exact pm_lret C X dX8_add_275 rfl (Nat.le_refl _) (Nat.le_refl _) q
    · have hf := pm_ie hf ((fun z => c72 ((pm_lg_ge _ _).mpr z)))
      refine pm_iconst (v := 1) C dX8_add_253 (by decide) ?_
      refine pm_goto (tgt := 258) C dX8_add_254 (by decide) ?_
      refine pm_lload C dX8_add_258 rfl ?_
      refine pm_mabsJ C (pm_XR X) dX8_add_260 mtX8_174 (by decide) (by decide) (Nat.le_of_ble_eq_true rfl) (Nat.zero_le _) (Nat.zero_le _) ?_
      refine pm_iload_n C dX8_add_263 rfl rfl ?_
      refine pm_lload C dX8_add_264 rfl ?_
      obtain ⟨v77, e78, hf⟩ := pm_lt hf
      refine pm_callS (as := [.int x0, .long x6]) (st := [.long (if 0 < y70 then y70 else -y70), .int 1, .int x0]) C X dX8_add_266 lnX8_158 myX8_scale stX8_scale ⟨by decide, by decide⟩ rfl rfl (Nat.le_of_ble_eq_true rfl) (Nat.le_refl _) (Nat.le_refl _) (ctX8_scale e78 ?_)
      show pm_G g 269 [(15, .long y70), (0, .int x0), (6, .long x6), (8, .long x8), (13, .long x13)] [.int v77, .long (if 0 < y70 then y70 else -y70), .int 1, .int x0] h 0 0
      refine pm_bipush (v := 9) C dX8_add_269 (by decide) ?_
      refine pm_isub C dX8_add_271 ?_
      obtain ⟨v79, e80, hf⟩ := pm_lt hf
      refine pm_callS (as := [.int x0, .int 1, .long (if 0 < y70 then y70 else -y70), .int (v77 - 9)]) (st := []) C X dX8_add_272 lnX8_168 myX8_round stX8_round ⟨by decide, by decide⟩ rfl rfl (Nat.le_of_ble_eq_true rfl) (Nat.le_refl _) (Nat.le_refl _) (ctX8_round e80 ?_)
      show pm_G g 275 [(15, .long y70), (0, .int x0), (6, .long x6), (8, .long x8), (13, .long x13)] [.long v79] h 0 0
      subst hf
      exact pm_lret C X dX8_add_275 rfl (Nat.le_refl _) (Nat.le_refl _) q
set_option maxHeartbeats 4000000 in
set_option maxRecDepth 100000 in
theorem bX8_add_208 {g : pm_Gm} {l : Launch} {G : pm_Gl} {Qr : Option Value → pm_H → Prop} (C : pm_C g cX8_add RX8) (X : pm_X g l G mX8_add 0 0 Qr) {h : pm_H} {x0 : Int32} {x6 : Int64} {x8 : Int64} {x11 : Int64} {x13 : Int64} {r : Int64} (hf : fX8_add_b208 x0 x6 x8 x11 x13 = r) (q : Qr (some (.long r)) h) : pm_G g 208 [(0, .int x0), (6, .long x6), (8, .long x8), (11, .long x11), (13, .long x13)] [] h 0 0 := by
  unfold fX8_add_b208 at hf
  refine pm_iload_n C dX8_add_208 rfl rfl ?_
  refine pm_lload C dX8_add_209 rfl ?_
  obtain ⟨v53, e54, hf⟩ := pm_lt hf
  refine pm_callS (as := [.int x0, .long x6]) (st := []) C X dX8_add_211 lnX8_162 myX8_isMinus stX8_isMinus ⟨by decide, by decide⟩ rfl rfl (Nat.le_of_ble_eq_true rfl) (Nat.le_refl _) (Nat.le_refl _) (ctX8_isMinus e54 ?_)
  show pm_G g 214 [(0, .int x0), (6, .long x6), (8, .long x8), (11, .long x11), (13, .long x13)] [.int v53] h 0 0
  refine pm_if_eq (tgt := 223) C dX8_add_214 (by decide) (fun c55 => ?_) (fun c55 => ?_)
  · have hf := pm_it hf c55
    refine pm_lload C dX8_add_223 rfl ?_
    exact pm_sub [0, 1, 2, 4] rfl (bX8_add_225 C X hf q)
  · have hf := pm_ie hf c55
    refine pm_lload C dX8_add_217 rfl ?_
    refine pm_lneg C dX8_add_219 ?_
    refine pm_goto (tgt := 225) C dX8_add_220 (by decide) ?_
    exact pm_sub [0, 1, 2, 4] rfl (bX8_add_225 C X hf q)
set_option maxHeartbeats 4000000 in
set_option maxRecDepth 100000 in
theorem bX8_add_123 {g : pm_Gm} {l : Launch} {G : pm_Gl} {Qr : Option Value → pm_H → Prop} (C : pm_C g cX8_add RX8) (X : pm_X g l G mX8_add 0 0 Qr) {h : pm_H} {x0 : Int32} {x6 : Int64} {s0 : Int64} {r : Int64} (hf : fX8_add_b123 x0 x6 s0 = r) (q : Qr (some (.long r)) h) : pm_G g 123 [(0, .int x0), (6, .long x6)] [.long s0] h 0 0 := by
  unfold fX8_add_b123 at hf
  refine pm_lstore (lv' := [(8, .long s0), (0, .int x0), (6, .long x6)]) C dX8_add_123 (pm_nl X (by decide)) rfl ?_
  refine pm_iload_n C dX8_add_125 rfl rfl ?_
  refine pm_lload C dX8_add_126 rfl ?_
  obtain ⟨v32, e33, hf⟩ := pm_lt hf
  refine pm_callS (as := [.int x0, .long x6]) (st := []) C X dX8_add_128 lnX8_158 myX8_scale stX8_scale ⟨by decide, by decide⟩ rfl rfl (Nat.le_of_ble_eq_true rfl) (Nat.le_refl _) (Nat.le_refl _) (ctX8_scale e33 ?_)
  show pm_G g 131 [(8, .long s0), (0, .int x0), (6, .long x6)] [.int v32] h 0 0
  refine pm_iload_n C dX8_add_131 rfl rfl ?_
  refine pm_lload C dX8_add_132 rfl ?_
  obtain ⟨v34, e35, hf⟩ := pm_lt hf
  refine pm_callS (as := [.int x0, .long s0]) (st := [.int v32]) C X dX8_add_134 lnX8_158 myX8_scale stX8_scale ⟨by decide, by decide⟩ rfl rfl (Nat.le_of_ble_eq_true rfl) (Nat.le_refl _) (Nat.le_refl _) (ctX8_scale e35 ?_)
  show pm_G g 137 [(8, .long s0), (0, .int x0), (6, .long x6)] [.int v34, .int v32] h 0 0
  refine pm_isub C dX8_add_137 ?_
  obtain ⟨y36, e37, hf⟩ := pm_lt hf
  refine pm_topI e37 ?_
  refine pm_istore (lv' := [(10, .int y36), (8, .long s0), (0, .int x0), (6, .long x6)]) C dX8_add_138 (pm_nl X (by decide)) rfl ?_
  refine pm_iload_n C dX8_add_140 rfl rfl ?_
  refine pm_lload C dX8_add_141 rfl ?_
  obtain ⟨v38, e39, hf⟩ := pm_lt hf
  refine pm_callS (as := [.int x0, .long x6]) (st := []) C X dX8_add_143 lnX8_165 myX8_significand stX8_significand ⟨by decide, by decide⟩ rfl rfl (Nat.le_of_ble_eq_true rfl) (Nat.le_refl _) (Nat.le_refl _) (ctX8_significand e39 ?_)
  show pm_G g 146 [(10, .int y36), (8, .long s0), (0, .int x0), (6, .long x6)] [.long v38] h 0 0
  refine pm_bipush (v := 9) C dX8_add_146 (by decide) ?_
  refine pm_lshl C dX8_add_148 ?_
  obtain ⟨y40, e41, hf⟩ := pm_lt hf
  refine pm_topL e41 ?_
  refine pm_lstore (lv' := [(11, .long y40), (10, .int y36), (8, .long s0), (0, .int x0), (6, .long x6)]) C dX8_add_149 (pm_nl X (by decide)) rfl ?_
  refine pm_iload_n C dX8_add_151 rfl rfl ?_
  refine pm_lload C dX8_add_152 rfl ?_
  obtain ⟨v42, e43, hf⟩ := pm_lt hf
  refine pm_callS (as := [.int x0, .long s0]) (st := []) C X dX8_add_154 lnX8_165 myX8_significand stX8_significand ⟨by decide, by decide⟩ rfl rfl (Nat.le_of_ble_eq_true rfl) (Nat.le_refl _) (Nat.le_refl _) (ctX8_significand e43 ?_)
  show pm_G g 157 [(11, .long y40), (10, .int y36), (8, .long s0), (0, .int x0), (6, .long x6)] [.long v42] h 0 0
  refine pm_bipush (v := 9) C dX8_add_157 (by decide) ?_
  refine pm_lshl C dX8_add_159 ?_
  obtain ⟨y44, e45, hf⟩ := pm_lt hf
  refine pm_topL e45 ?_
  refine pm_lstore (lv' := [(13, .long y44), (11, .long y40), (10, .int y36), (8, .long s0), (0, .int x0), (6, .long x6)]) C dX8_add_160 (pm_nl X (by decide)) rfl ?_
  refine pm_iload C dX8_add_162 rfl ?_
  refine pm_bipush (v := 62) C dX8_add_164 (by decide) ?_
  refine pm_icmp_le (tgt := 175) C dX8_add_166 (by decide) (fun c46 => ?_) (fun c46 => ?_)
  · have hf := pm_it hf c46
    refine pm_iload C dX8_add_175 rfl ?_
    refine pm_if_le (tgt := 208) C dX8_add_177 (by decide) (fun c47 => ?_) (fun c47 => ?_)
    · have hf := pm_it hf c47
      exact pm_sub [4, 5, 3, 1, 0] rfl (bX8_add_208 C X hf q)
    · have hf := pm_ie hf c47
      refine pm_lload C dX8_add_180 rfl ?_
      refine pm_iload C dX8_add_182 rfl ?_
      refine pm_lushr C dX8_add_184 ?_
      refine pm_lload C dX8_add_185 rfl ?_
      refine pm_lconst (v := 1) C dX8_add_187 (by decide) ?_
      refine pm_iload C dX8_add_188 rfl ?_
      refine pm_lshl C dX8_add_190 ?_
      refine pm_lconst (v := 1) C dX8_add_191 (by decide) ?_
      refine pm_lsub C dX8_add_192 ?_
      refine pm_land C dX8_add_193 ?_
      refine pm_lconst (v := 0) C dX8_add_194 (by decide) ?_
      refine pm_lcmp C dX8_add_195 ?_
      refine pm_if_eq (tgt := 203) C dX8_add_196 (by decide) (fun c48 => ?_) (fun c48 => ?_)
      · have hf := pm_it hf ((pm_lg_eq _ _).mp c48)
        refine pm_iconst (v := 0) C dX8_add_203 (by decide) ?_
        refine pm_i2l C dX8_add_204 ?_
        refine pm_lor C dX8_add_205 ?_
        obtain ⟨y49, e50, hf⟩ := pm_lt hf
        refine pm_topL e50 ?_
        refine pm_lstore (lv' := [(13, .long y49), (11, .long y40), (10, .int y36), (8, .long s0), (0, .int x0), (6, .long x6)]) C dX8_add_206 (pm_nl X (by decide)) rfl ?_
        exact pm_sub [4, 5, 3, 1, 0] rfl (bX8_add_208 C X hf q)
      · have hf := pm_ie hf ((fun z => c48 ((pm_lg_eq _ _).mpr z)))
        refine pm_iconst (v := 1) C dX8_add_199 (by decide) ?_
        refine pm_goto (tgt := 204) C dX8_add_200 (by decide) ?_
        refine pm_i2l C dX8_add_204 ?_
        refine pm_lor C dX8_add_205 ?_
        obtain ⟨y51, e52, hf⟩ := pm_lt hf
        refine pm_topL e52 ?_
        refine pm_lstore (lv' := [(13, .long y51), (11, .long y40), (10, .int y36), (8, .long s0), (0, .int x0), (6, .long x6)]) C dX8_add_206 (pm_nl X (by decide)) rfl ?_
        exact pm_sub [4, 5, 3, 1, 0] rfl (bX8_add_208 C X hf q)
  · have hf := pm_ie hf c46
    refine pm_lconst (v := 1) C dX8_add_169 (by decide) ?_
    refine pm_lstore (lv' := [(13, .long 1), (11, .long y40), (10, .int y36), (8, .long s0), (0, .int x0), (6, .long x6)]) C dX8_add_170 (pm_nl X (by decide)) rfl ?_
    refine pm_goto (tgt := 208) C dX8_add_172 (by decide) ?_
    exact pm_sub [4, 5, 3, 1, 0] rfl (bX8_add_208 C X hf q)
set_option maxHeartbeats 4000000 in
set_option maxRecDepth 100000 in
theorem bX8_add_111 {g : pm_Gm} {l : Launch} {G : pm_Gl} {Qr : Option Value → pm_H → Prop} (C : pm_C g cX8_add RX8) (X : pm_X g l G mX8_add 0 0 Qr) {h : pm_H} {x0 : Int32} {x1 : Int64} {x3 : Int64} {x5 : Int32} {s0 : Int64} {r : Int64} (hf : fX8_add_b111 x0 x1 x3 x5 s0 = r) (q : Qr (some (.long r)) h) : pm_G g 111 [(0, .int x0), (1, .long x1), (3, .long x3), (5, .int x5)] [.long s0] h 0 0 := by
  unfold fX8_add_b111 at hf
  refine pm_lstore (lv' := [(6, .long s0), (0, .int x0), (1, .long x1), (3, .long x3), (5, .int x5)]) C dX8_add_111 (pm_nl X (by decide)) rfl ?_
  refine pm_iload C dX8_add_113 rfl ?_
  refine pm_if_eq (tgt := 122) C dX8_add_115 (by decide) (fun c31 => ?_) (fun c31 => ?_)
  · have hf := pm_it hf c31
    refine pm_lload_n C dX8_add_122 rfl rfl ?_
    exact pm_sub [1, 0] rfl (bX8_add_123 C X hf q)
  · have hf := pm_ie hf c31
    refine pm_lload_n C dX8_add_118 rfl rfl ?_
    refine pm_goto (tgt := 123) C dX8_add_119 (by decide) ?_
    exact pm_sub [1, 0] rfl (bX8_add_123 C X hf q)
set_option maxHeartbeats 4000000 in
set_option maxRecDepth 100000 in
theorem bX8_add_99 {g : pm_Gm} {l : Launch} {G : pm_Gl} {Qr : Option Value → pm_H → Prop} (C : pm_C g cX8_add RX8) (X : pm_X g l G mX8_add 0 0 Qr) {h : pm_H} {x0 : Int32} {x1 : Int64} {x3 : Int64} {s0 : Int32} {r : Int64} (hf : fX8_add_b99 x0 x1 x3 s0 = r) (q : Qr (some (.long r)) h) : pm_G g 99 [(0, .int x0), (1, .long x1), (3, .long x3)] [.int s0] h 0 0 := by
  unfold fX8_add_b99 at hf
  refine pm_istore (lv' := [(5, .int s0), (0, .int x0), (1, .long x1), (3, .long x3)]) C dX8_add_99 (pm_nl X (by decide)) rfl ?_
  refine pm_iload C dX8_add_101 rfl ?_
  refine pm_if_eq (tgt := 110) C dX8_add_103 (by decide) (fun c30 => ?_) (fun c30 => ?_)
  · have hf := pm_it hf c30
    refine pm_lload_n C dX8_add_110 rfl rfl ?_
    exact pm_sub [1, 2, 3, 0] rfl (bX8_add_111 C X hf q)
  · have hf := pm_ie hf c30
    refine pm_lload_n C dX8_add_106 rfl rfl ?_
    refine pm_goto (tgt := 111) C dX8_add_107 (by decide) ?_
    exact pm_sub [1, 2, 3, 0] rfl (bX8_add_111 C X hf q)
set_option maxHeartbeats 4000000 in
set_option maxRecDepth 100000 in
theorem bX8_add_61 {g : pm_Gm} {l : Launch} {G : pm_Gl} {Qr : Option Value → pm_H → Prop} (C : pm_C g cX8_add RX8) (X : pm_X g l G mX8_add 0 0 Qr) {h : pm_H} {x0 : Int32} {x1 : Int64} {x3 : Int64} {r : Int64} (hf : fX8_add_b61 x0 x1 x3 = r) (q : Qr (some (.long r)) h) : pm_G g 61 [(0, .int x0), (1, .long x1), (3, .long x3)] [] h 0 0 := by
  unfold fX8_add_b61 at hf
  refine pm_iload_n C dX8_add_61 rfl rfl ?_
  refine pm_lload_n C dX8_add_62 rfl rfl ?_
  obtain ⟨v19, e20, hf⟩ := pm_lt hf
  refine pm_callS (as := [.int x0, .long x1]) (st := []) C X dX8_add_63 lnX8_78 myX8_isZero stX8_isZero ⟨by decide, by decide⟩ rfl rfl (Nat.le_of_ble_eq_true rfl) (Nat.le_refl _) (Nat.le_refl _) (ctX8_isZero e20 ?_)
  show pm_G g 66 [(0, .int x0), (1, .long x1), (3, .long x3)] [.int v19] h 0 0
  refine pm_if_eq (tgt := 71) C dX8_add_66 (by decide) (fun c21 => ?_) (fun c21 => ?_)
  · have hf := pm_it hf c21
    refine pm_iload_n C dX8_add_71 rfl rfl ?_
    refine pm_lload_n C dX8_add_72 rfl rfl ?_
    obtain ⟨v22, e23, hf⟩ := pm_lt hf
    refine pm_callS (as := [.int x0, .long x3]) (st := []) C X dX8_add_73 lnX8_78 myX8_isZero stX8_isZero ⟨by decide, by decide⟩ rfl rfl (Nat.le_of_ble_eq_true rfl) (Nat.le_refl _) (Nat.le_refl _) (ctX8_isZero e23 ?_)
    show pm_G g 76 [(0, .int x0), (1, .long x1), (3, .long x3)] [.int v22] h 0 0
    refine pm_if_eq (tgt := 81) C dX8_add_76 (by decide) (fun c24 => ?_) (fun c24 => ?_)
    · have hf := pm_it hf c24
      refine pm_iload_n C dX8_add_81 rfl rfl ?_
      refine pm_lload_n C dX8_add_82 rfl rfl ?_
      obtain ⟨v25, e26, hf⟩ := pm_lt hf
      refine pm_callS (as := [.int x0, .long x1]) (st := []) C X dX8_add_83 lnX8_158 myX8_scale stX8_scale ⟨by decide, by decide⟩ rfl rfl (Nat.le_of_ble_eq_true rfl) (Nat.le_refl _) (Nat.le_refl _) (ctX8_scale e26 ?_)
      show pm_G g 86 [(0, .int x0), (1, .long x1), (3, .long x3)] [.int v25] h 0 0
      refine pm_iload_n C dX8_add_86 rfl rfl ?_
      refine pm_lload_n C dX8_add_87 rfl rfl ?_
      obtain ⟨v27, e28, hf⟩ := pm_lt hf
      refine pm_callS (as := [.int x0, .long x3]) (st := [.int v25]) C X dX8_add_88 lnX8_158 myX8_scale stX8_scale ⟨by decide, by decide⟩ rfl rfl (Nat.le_of_ble_eq_true rfl) (Nat.le_refl _) (Nat.le_refl _) (ctX8_scale e28 ?_)
      show pm_G g 91 [(0, .int x0), (1, .long x1), (3, .long x3)] [.int v27, .int v25] h 0 0
      refine pm_icmp_lt (tgt := 98) C dX8_add_91 (by decide) (fun c29 => ?_) (fun c29 => ?_)
      · have hf := pm_it hf c29
        refine pm_iconst (v := 0) C dX8_add_98 (by decide) ?_
        exact pm_sub [0, 1, 2] rfl (bX8_add_99 C X hf q)
      · have hf := pm_ie hf c29
        refine pm_iconst (v := 1) C dX8_add_94 (by decide) ?_
        refine pm_goto (tgt := 99) C dX8_add_95 (by decide) ?_
        exact pm_sub [0, 1, 2] rfl (bX8_add_99 C X hf q)
    · have hf := pm_ie hf c24
      refine pm_lload_n C dX8_add_79 rfl rfl ?_
      subst hf
      exact pm_lret C X dX8_add_80 rfl (Nat.le_refl _) (Nat.le_refl _) q
  · have hf := pm_ie hf c21
    refine pm_lload_n C dX8_add_69 rfl rfl ?_
    subst hf
    exact pm_lret C X dX8_add_70 rfl (Nat.le_refl _) (Nat.le_refl _) q
set_option maxHeartbeats 4000000 in
set_option maxRecDepth 100000 in
theorem ctX8_add {l : Launch} {G : pm_Gl} {h : pm_H} {p1 : Int32} {p2 : Int64} {p3 : Int64} {r : Int64} {Qr : Option Value → pm_H → Prop} (hf : fX8_add p1 p2 p3 = r) (q : Qr (some (.long r)) h) : pm_Ct l G mX8_add [.int p1, .long p2, .long p3] h 0 0 Qr := by
  refine pm_body pnX8 (Nat.le_of_ble_eq_true rfl) (fun g C X => ?_)
  have C : pm_C g cX8_add RX8 := C
  show pm_G g 0 [(0, .int p1), (1, .long p2), (3, .long p3)] [] h 0 0
  unfold fX8_add at hf
  refine pm_iload_n C dX8_add_0 rfl rfl ?_
  refine pm_lload_n C dX8_add_1 rfl rfl ?_
  obtain ⟨v1, e2, hf⟩ := pm_lt hf
  refine pm_callS (as := [.int p1, .long p2]) (st := []) C X dX8_add_2 lnX8_155 myX8_isInfinite stX8_isInfinite ⟨by decide, by decide⟩ rfl rfl (Nat.le_of_ble_eq_true rfl) (Nat.le_refl _) (Nat.le_refl _) (ctX8_isInfinite e2 ?_)
  show pm_G g 5 [(0, .int p1), (1, .long p2), (3, .long p3)] [.int v1] h 0 0
  refine pm_if_eq (tgt := 31) C dX8_add_5 (by decide) (fun c3 => ?_) (fun c3 => ?_)
  · have hf := pm_it hf c3
    refine pm_iload_n C dX8_add_31 rfl rfl ?_
    refine pm_lload_n C dX8_add_32 rfl rfl ?_
    obtain ⟨v4, e5, hf⟩ := pm_lt hf
    refine pm_callS (as := [.int p1, .long p3]) (st := []) C X dX8_add_33 lnX8_155 myX8_isInfinite stX8_isInfinite ⟨by decide, by decide⟩ rfl rfl (Nat.le_of_ble_eq_true rfl) (Nat.le_refl _) (Nat.le_refl _) (ctX8_isInfinite e5 ?_)
    show pm_G g 36 [(0, .int p1), (1, .long p2), (3, .long p3)] [.int v4] h 0 0
    refine pm_if_eq (tgt := 41) C dX8_add_36 (by decide) (fun c6 => ?_) (fun c6 => ?_)
    · have hf := pm_it hf c6
      refine pm_iload_n C dX8_add_41 rfl rfl ?_
      refine pm_lload_n C dX8_add_42 rfl rfl ?_
      obtain ⟨v7, e8, hf⟩ := pm_lt hf
      refine pm_callS (as := [.int p1, .long p2]) (st := []) C X dX8_add_43 lnX8_78 myX8_isZero stX8_isZero ⟨by decide, by decide⟩ rfl rfl (Nat.le_of_ble_eq_true rfl) (Nat.le_refl _) (Nat.le_refl _) (ctX8_isZero e8 ?_)
      show pm_G g 46 [(0, .int p1), (1, .long p2), (3, .long p3)] [.int v7] h 0 0
      refine pm_if_eq (tgt := 61) C dX8_add_46 (by decide) (fun c9 => ?_) (fun c9 => ?_)
      · have hf := pm_it hf c9
        exact pm_sub [0, 1, 2] rfl (bX8_add_61 C X hf q)
      · have hf := pm_ie hf c9
        refine pm_iload_n C dX8_add_49 rfl rfl ?_
        refine pm_lload_n C dX8_add_50 rfl rfl ?_
        obtain ⟨v10, e11, hf⟩ := pm_lt hf
        refine pm_callS (as := [.int p1, .long p3]) (st := []) C X dX8_add_51 lnX8_78 myX8_isZero stX8_isZero ⟨by decide, by decide⟩ rfl rfl (Nat.le_of_ble_eq_true rfl) (Nat.le_refl _) (Nat.le_refl _) (ctX8_isZero e11 ?_)
        show pm_G g 54 [(0, .int p1), (1, .long p2), (3, .long p3)] [.int v10] h 0 0
        refine pm_if_eq (tgt := 61) C dX8_add_54 (by decide) (fun c12 => ?_) (fun c12 => ?_)
        · have hf := pm_it hf c12
          exact pm_sub [0, 1, 2] rfl (bX8_add_61 C X hf q)
        · have hf := pm_ie hf c12
          refine pm_lload_n C dX8_add_57 rfl rfl ?_
          refine pm_lload_n C dX8_add_58 rfl rfl ?_
          refine pm_land C dX8_add_59 ?_
          subst hf
          exact pm_lret C X dX8_add_60 rfl (Nat.le_refl _) (Nat.le_refl _) q
    · have hf := pm_ie hf c6
      refine pm_lload_n C dX8_add_39 rfl rfl ?_
      subst hf
      exact pm_lret C X dX8_add_40 rfl (Nat.le_refl _) (Nat.le_refl _) q
  · have hf := pm_ie hf c3
    refine pm_iload_n C dX8_add_8 rfl rfl ?_
    refine pm_lload_n C dX8_add_9 rfl rfl ?_
    obtain ⟨v13, e14, hf⟩ := pm_lt hf
    refine pm_callS (as := [.int p1, .long p3]) (st := []) C X dX8_add_10 lnX8_155 myX8_isInfinite stX8_isInfinite ⟨by decide, by decide⟩ rfl rfl (Nat.le_of_ble_eq_true rfl) (Nat.le_refl _) (Nat.le_refl _) (ctX8_isInfinite e14 ?_)
    show pm_G g 13 [(0, .int p1), (1, .long p2), (3, .long p3)] [.int v13] h 0 0
    refine pm_if_eq (tgt := 29) C dX8_add_13 (by decide) (fun c15 => ?_) (fun c15 => ?_)
    · have hf := pm_it hf c15
      refine pm_lload_n C dX8_add_29 rfl rfl ?_
      subst hf
      exact pm_lret C X dX8_add_30 rfl (Nat.le_refl _) (Nat.le_refl _) q
    · have hf := pm_ie hf c15
      refine pm_lload_n C dX8_add_16 rfl rfl ?_
      refine pm_lload_n C dX8_add_17 rfl rfl ?_
      refine pm_lcmp C dX8_add_18 ?_
      refine pm_if_eq (tgt := 29) C dX8_add_19 (by decide) (fun c16 => ?_) (fun c16 => ?_)
      · have hf := pm_it hf ((pm_lg_eq _ _).mp c16)
        refine pm_lload_n C dX8_add_29 rfl rfl ?_
        subst hf
        exact pm_lret C X dX8_add_30 rfl (Nat.le_refl _) (Nat.le_refl _) q
      · have hf := pm_ie hf ((fun z => c16 ((pm_lg_eq _ _).mpr z)))
        refine pm_iload_n C dX8_add_22 rfl rfl ?_
        obtain ⟨v17, e18, hf⟩ := pm_lt hf
        refine pm_callS (as := [.int p1]) (st := []) C X dX8_add_23 lnX8_136 myX8_none stX8_none ⟨by decide, by decide⟩ rfl rfl (Nat.le_of_ble_eq_true rfl) (Nat.le_refl _) (Nat.le_refl _) (ctX8_none e18 ?_)
        show pm_G g 26 [(0, .int p1), (1, .long p2), (3, .long p3)] [.long v17] h 0 0
        refine pm_goto (tgt := 30) C dX8_add_26 (by decide) ?_
        subst hf
        exact pm_lret C X dX8_add_30 rfl (Nat.le_refl _) (Nat.le_refl _) q
theorem dX8_divide_0 : decode cX8_divide 0 = .ok (.iload_n 0, 1) := by decide +kernel
theorem dX8_divide_1 : decode cX8_divide 1 = .ok (.lload_n 1, 1) := by decide +kernel
theorem dX8_divide_2 : decode cX8_divide 2 = .ok (.invokestatic 162, 3) := by decide +kernel
theorem dX8_divide_5 : decode cX8_divide 5 = .ok (.iload_n 0, 1) := by decide +kernel
theorem dX8_divide_6 : decode cX8_divide 6 = .ok (.lload_n 3, 1) := by decide +kernel
theorem dX8_divide_7 : decode cX8_divide 7 = .ok (.invokestatic 162, 3) := by decide +kernel
theorem dX8_divide_10 : decode cX8_divide 10 = .ok (.if_icmp .eq 7, 3) := by decide +kernel
theorem dX8_divide_13 : decode cX8_divide 13 = .ok (.iconst 1, 1) := by decide +kernel
theorem dX8_divide_14 : decode cX8_divide 14 = .ok (.goto 4, 3) := by decide +kernel
theorem dX8_divide_17 : decode cX8_divide 17 = .ok (.iconst 0, 1) := by decide +kernel
theorem dX8_divide_18 : decode cX8_divide 18 = .ok (.istore 5, 2) := by decide +kernel
theorem dX8_divide_20 : decode cX8_divide 20 = .ok (.iload 5, 2) := by decide +kernel
theorem dX8_divide_22 : decode cX8_divide 22 = .ok (.ifCond .eq 10, 3) := by decide +kernel
theorem dX8_divide_25 : decode cX8_divide 25 = .ok (.iload_n 0, 1) := by decide +kernel
theorem dX8_divide_26 : decode cX8_divide 26 = .ok (.invokestatic 132, 3) := by decide +kernel
theorem dX8_divide_29 : decode cX8_divide 29 = .ok (.goto 4, 3) := by decide +kernel
theorem dX8_divide_32 : decode cX8_divide 32 = .ok (.lconst 0, 1) := by decide +kernel
theorem dX8_divide_33 : decode cX8_divide 33 = .ok (.lstore 6, 2) := by decide +kernel
theorem dX8_divide_35 : decode cX8_divide 35 = .ok (.iload_n 0, 1) := by decide +kernel
theorem dX8_divide_36 : decode cX8_divide 36 = .ok (.lload_n 1, 1) := by decide +kernel
theorem dX8_divide_37 : decode cX8_divide 37 = .ok (.invokestatic 155, 3) := by decide +kernel
theorem dX8_divide_40 : decode cX8_divide 40 = .ok (.ifCond .eq 26, 3) := by decide +kernel
theorem dX8_divide_43 : decode cX8_divide 43 = .ok (.iload_n 0, 1) := by decide +kernel
theorem dX8_divide_44 : decode cX8_divide 44 = .ok (.lload_n 3, 1) := by decide +kernel
theorem dX8_divide_45 : decode cX8_divide 45 = .ok (.invokestatic 155, 3) := by decide +kernel
theorem dX8_divide_48 : decode cX8_divide 48 = .ok (.ifCond .eq 10, 3) := by decide +kernel
theorem dX8_divide_51 : decode cX8_divide 51 = .ok (.iload_n 0, 1) := by decide +kernel
theorem dX8_divide_52 : decode cX8_divide 52 = .ok (.invokestatic 136, 3) := by decide +kernel
theorem dX8_divide_55 : decode cX8_divide 55 = .ok (.goto 10, 3) := by decide +kernel
theorem dX8_divide_58 : decode cX8_divide 58 = .ok (.lload 6, 2) := by decide +kernel
theorem dX8_divide_60 : decode cX8_divide 60 = .ok (.iload_n 0, 1) := by decide +kernel
theorem dX8_divide_61 : decode cX8_divide 61 = .ok (.invokestatic 178, 3) := by decide +kernel
theorem dX8_divide_64 : decode cX8_divide 64 = .ok (.lor, 1) := by decide +kernel
theorem dX8_divide_65 : decode cX8_divide 65 = .ok (.lreturn, 1) := by decide +kernel
theorem dX8_divide_66 : decode cX8_divide 66 = .ok (.iload_n 0, 1) := by decide +kernel
theorem dX8_divide_67 : decode cX8_divide 67 = .ok (.lload_n 3, 1) := by decide +kernel
theorem dX8_divide_68 : decode cX8_divide 68 = .ok (.invokestatic 155, 3) := by decide +kernel
theorem dX8_divide_71 : decode cX8_divide 71 = .ok (.ifCond .eq 6, 3) := by decide +kernel
theorem dX8_divide_74 : decode cX8_divide 74 = .ok (.lload 6, 2) := by decide +kernel
theorem dX8_divide_76 : decode cX8_divide 76 = .ok (.lreturn, 1) := by decide +kernel
theorem dX8_divide_77 : decode cX8_divide 77 = .ok (.iload_n 0, 1) := by decide +kernel
theorem dX8_divide_78 : decode cX8_divide 78 = .ok (.lload_n 3, 1) := by decide +kernel
theorem dX8_divide_79 : decode cX8_divide 79 = .ok (.invokestatic 78, 3) := by decide +kernel
theorem dX8_divide_82 : decode cX8_divide 82 = .ok (.ifCond .eq 26, 3) := by decide +kernel
theorem dX8_divide_85 : decode cX8_divide 85 = .ok (.iload_n 0, 1) := by decide +kernel
theorem dX8_divide_86 : decode cX8_divide 86 = .ok (.lload_n 1, 1) := by decide +kernel
theorem dX8_divide_87 : decode cX8_divide 87 = .ok (.invokestatic 78, 3) := by decide +kernel
theorem dX8_divide_90 : decode cX8_divide 90 = .ok (.ifCond .eq 10, 3) := by decide +kernel
theorem dX8_divide_93 : decode cX8_divide 93 = .ok (.iload_n 0, 1) := by decide +kernel
theorem dX8_divide_94 : decode cX8_divide 94 = .ok (.invokestatic 136, 3) := by decide +kernel
theorem dX8_divide_97 : decode cX8_divide 97 = .ok (.goto 10, 3) := by decide +kernel
theorem dX8_divide_100 : decode cX8_divide 100 = .ok (.lload 6, 2) := by decide +kernel
theorem dX8_divide_102 : decode cX8_divide 102 = .ok (.iload_n 0, 1) := by decide +kernel
theorem dX8_divide_103 : decode cX8_divide 103 = .ok (.invokestatic 178, 3) := by decide +kernel
theorem dX8_divide_106 : decode cX8_divide 106 = .ok (.lor, 1) := by decide +kernel
theorem dX8_divide_107 : decode cX8_divide 107 = .ok (.lreturn, 1) := by decide +kernel
theorem dX8_divide_108 : decode cX8_divide 108 = .ok (.iload_n 0, 1) := by decide +kernel
theorem dX8_divide_109 : decode cX8_divide 109 = .ok (.lload_n 1, 1) := by decide +kernel
theorem dX8_divide_110 : decode cX8_divide 110 = .ok (.invokestatic 78, 3) := by decide +kernel
theorem dX8_divide_113 : decode cX8_divide 113 = .ok (.ifCond .eq 6, 3) := by decide +kernel
theorem dX8_divide_116 : decode cX8_divide 116 = .ok (.lload 6, 2) := by decide +kernel
theorem dX8_divide_118 : decode cX8_divide 118 = .ok (.lreturn, 1) := by decide +kernel
theorem dX8_divide_119 : decode cX8_divide 119 = .ok (.iload_n 0, 1) := by decide +kernel
theorem dX8_divide_120 : decode cX8_divide 120 = .ok (.lload_n 1, 1) := by decide +kernel
theorem dX8_divide_121 : decode cX8_divide 121 = .ok (.invokestatic 165, 3) := by decide +kernel
theorem dX8_divide_124 : decode cX8_divide 124 = .ok (.lstore 8, 2) := by decide +kernel
theorem dX8_divide_126 : decode cX8_divide 126 = .ok (.lconst 1, 1) := by decide +kernel
theorem dX8_divide_127 : decode cX8_divide 127 = .ok (.iload_n 0, 1) := by decide +kernel
theorem dX8_divide_128 : decode cX8_divide 128 = .ok (.lload_n 3, 1) := by decide +kernel
theorem dX8_divide_129 : decode cX8_divide 129 = .ok (.invokestatic 165, 3) := by decide +kernel
theorem dX8_divide_132 : decode cX8_divide 132 = .ok (.invokestatic 187, 3) := by decide +kernel
theorem dX8_divide_135 : decode cX8_divide 135 = .ok (.lstore 10, 2) := by decide +kernel
theorem dX8_divide_137 : decode cX8_divide 137 = .ok (.lload 8, 2) := by decide +kernel
theorem dX8_divide_139 : decode cX8_divide 139 = .ok (.lload 10, 2) := by decide +kernel
theorem dX8_divide_141 : decode cX8_divide 141 = .ok (.ldiv, 1) := by decide +kernel
theorem dX8_divide_142 : decode cX8_divide 142 = .ok (.lstore 12, 2) := by decide +kernel
theorem dX8_divide_144 : decode cX8_divide 144 = .ok (.lload 8, 2) := by decide +kernel
theorem dX8_divide_146 : decode cX8_divide 146 = .ok (.lload 10, 2) := by decide +kernel
theorem dX8_divide_148 : decode cX8_divide 148 = .ok (.lrem, 1) := by decide +kernel
theorem dX8_divide_149 : decode cX8_divide 149 = .ok (.lstore 8, 2) := by decide +kernel
theorem dX8_divide_151 : decode cX8_divide 151 = .ok (.iconst 0, 1) := by decide +kernel
theorem dX8_divide_152 : decode cX8_divide 152 = .ok (.istore 14, 2) := by decide +kernel
theorem dX8_divide_154 : decode cX8_divide 154 = .ok (.iload 14, 2) := by decide +kernel
theorem dX8_divide_156 : decode cX8_divide 156 = .ok (.bipush 6, 2) := by decide +kernel
theorem dX8_divide_158 : decode cX8_divide 158 = .ok (.if_icmp .ge 36, 3) := by decide +kernel
theorem dX8_divide_161 : decode cX8_divide 161 = .ok (.lload 8, 2) := by decide +kernel
theorem dX8_divide_163 : decode cX8_divide 163 = .ok (.bipush 10, 2) := by decide +kernel
theorem dX8_divide_165 : decode cX8_divide 165 = .ok (.lshl, 1) := by decide +kernel
theorem dX8_divide_166 : decode cX8_divide 166 = .ok (.lstore 8, 2) := by decide +kernel
theorem dX8_divide_168 : decode cX8_divide 168 = .ok (.lload 12, 2) := by decide +kernel
theorem dX8_divide_170 : decode cX8_divide 170 = .ok (.bipush 10, 2) := by decide +kernel
theorem dX8_divide_172 : decode cX8_divide 172 = .ok (.lshl, 1) := by decide +kernel
theorem dX8_divide_173 : decode cX8_divide 173 = .ok (.lload 8, 2) := by decide +kernel
theorem dX8_divide_175 : decode cX8_divide 175 = .ok (.lload 10, 2) := by decide +kernel
theorem dX8_divide_177 : decode cX8_divide 177 = .ok (.ldiv, 1) := by decide +kernel
theorem dX8_divide_178 : decode cX8_divide 178 = .ok (.lor, 1) := by decide +kernel
theorem dX8_divide_179 : decode cX8_divide 179 = .ok (.lstore 12, 2) := by decide +kernel
theorem dX8_divide_181 : decode cX8_divide 181 = .ok (.lload 8, 2) := by decide +kernel
theorem dX8_divide_183 : decode cX8_divide 183 = .ok (.lload 10, 2) := by decide +kernel
theorem dX8_divide_185 : decode cX8_divide 185 = .ok (.lrem, 1) := by decide +kernel
theorem dX8_divide_186 : decode cX8_divide 186 = .ok (.lstore 8, 2) := by decide +kernel
theorem dX8_divide_188 : decode cX8_divide 188 = .ok (.iinc 14 1, 3) := by decide +kernel
theorem dX8_divide_191 : decode cX8_divide 191 = .ok (.goto (-37), 3) := by decide +kernel
theorem dX8_divide_194 : decode cX8_divide 194 = .ok (.iload_n 0, 1) := by decide +kernel
theorem dX8_divide_195 : decode cX8_divide 195 = .ok (.iload 5, 2) := by decide +kernel
theorem dX8_divide_197 : decode cX8_divide 197 = .ok (.lload 8, 2) := by decide +kernel
theorem dX8_divide_199 : decode cX8_divide 199 = .ok (.lconst 0, 1) := by decide +kernel
theorem dX8_divide_200 : decode cX8_divide 200 = .ok (.lcmp, 1) := by decide +kernel
theorem dX8_divide_201 : decode cX8_divide 201 = .ok (.ifCond .eq 10, 3) := by decide +kernel
theorem dX8_divide_204 : decode cX8_divide 204 = .ok (.lload 12, 2) := by decide +kernel
theorem dX8_divide_206 : decode cX8_divide 206 = .ok (.lconst 1, 1) := by decide +kernel
theorem dX8_divide_207 : decode cX8_divide 207 = .ok (.lor, 1) := by decide +kernel
theorem dX8_divide_208 : decode cX8_divide 208 = .ok (.goto 5, 3) := by decide +kernel
theorem dX8_divide_211 : decode cX8_divide 211 = .ok (.lload 12, 2) := by decide +kernel
theorem dX8_divide_213 : decode cX8_divide 213 = .ok (.iload_n 0, 1) := by decide +kernel
theorem dX8_divide_214 : decode cX8_divide 214 = .ok (.lload_n 1, 1) := by decide +kernel
theorem dX8_divide_215 : decode cX8_divide 215 = .ok (.invokestatic 158, 3) := by decide +kernel
theorem dX8_divide_218 : decode cX8_divide 218 = .ok (.iload_n 0, 1) := by decide +kernel
theorem dX8_divide_219 : decode cX8_divide 219 = .ok (.lload_n 3, 1) := by decide +kernel
theorem dX8_divide_220 : decode cX8_divide 220 = .ok (.invokestatic 158, 3) := by decide +kernel
theorem dX8_divide_223 : decode cX8_divide 223 = .ok (.isub, 1) := by decide +kernel
theorem dX8_divide_224 : decode cX8_divide 224 = .ok (.bipush 60, 2) := by decide +kernel
theorem dX8_divide_226 : decode cX8_divide 226 = .ok (.isub, 1) := by decide +kernel
theorem dX8_divide_227 : decode cX8_divide 227 = .ok (.invokestatic 168, 3) := by decide +kernel
theorem dX8_divide_230 : decode cX8_divide 230 = .ok (.lreturn, 1) := by decide +kernel
def tX8_divide_18 (x0 : Int32) (x1 : Int64) (x3 : Int64) (s0 : Int32) : Option (((Int32 × Int64 × Int64 × Int32) ⊕ (Int32 × Int64 × Int64 × Int32 × Int64) ⊕ (Int32 × Int64 × Int64 × Int32 × Int64 × Int64 × Int64 × Int32)) ⊕ Int64) := if s0 = 0 then (some (.inl (.inr (.inl ((x0, x1, x3, s0, 0)))))) else (pm_let (fX8_sign x0) fun v7 => some (.inl (.inr (.inl ((x0, x1, x3, s0, v7))))))
def tX8_divide_33 (x0 : Int32) (x1 : Int64) (x3 : Int64) (x5 : Int32) (s0 : Int64) : Option (((Int32 × Int64 × Int64 × Int32) ⊕ (Int32 × Int64 × Int64 × Int32 × Int64) ⊕ (Int32 × Int64 × Int64 × Int32 × Int64 × Int64 × Int64 × Int32)) ⊕ Int64) := pm_let (fX8_isInfinite x0 x1) fun v9 => if v9 = 0 then (pm_let (fX8_isInfinite x0 x3) fun v12 => if v12 = 0 then (pm_let (fX8_isZero x0 x3) fun v15 => if v15 = 0 then (pm_let (fX8_isZero x0 x1) fun v18 => if v18 = 0 then (pm_let (fX8_significand x0 x1) fun v21 => pm_let (fX8_significand x0 x3) fun v23 => pm_let (if v23 < (1 : Int64) then (1 : Int64) else v23) fun y25 => if ¬ y25 = 0 then pm_let (v21 / y25) fun y28 => if ¬ y25 = 0 then pm_let (v21 - v21 / y25 * y25) fun y31 => some (.inl (.inr (.inr ((x0, x1, x3, x5, y31, y25, y28, 0))))) else none else none) else (some (.inr (s0)))) else (pm_let (fX8_isZero x0 x1) fun v33 => if v33 = 0 then (pm_let (fX8_infinite x0) fun v36 => some (.inr (s0 ||| v36))) else (pm_let (fX8_none x0) fun v38 => some (.inr (v38))))) else (some (.inr (s0)))) else (pm_let (fX8_isInfinite x0 x3) fun v40 => if v40 = 0 then (pm_let (fX8_infinite x0) fun v43 => some (.inr (s0 ||| v43))) else (pm_let (fX8_none x0) fun v45 => some (.inr (v45))))
def tX8_divide_154 (x0 : Int32) (x1 : Int64) (x3 : Int64) (x5 : Int32) (x8 : Int64) (x10 : Int64) (x12 : Int64) (x14 : Int32) : Option (((Int32 × Int64 × Int64 × Int32) ⊕ (Int32 × Int64 × Int64 × Int32 × Int64) ⊕ (Int32 × Int64 × Int64 × Int32 × Int64 × Int64 × Int64 × Int32)) ⊕ Int64) := if 6 ≤ x14 then (if x8 = 0 then (pm_let (fX8_scale x0 x1) fun v49 => pm_let (fX8_scale x0 x3) fun v51 => pm_let (fX8_round x0 x5 x12 ((v49 - v51) - 60)) fun v53 => some (.inr (v53))) else (pm_let (fX8_scale x0 x1) fun v55 => pm_let (fX8_scale x0 x3) fun v57 => pm_let (fX8_round x0 x5 (x12 ||| 1) ((v55 - v57) - 60)) fun v59 => some (.inr (v59)))) else (pm_let (x8 <<< ((10 : Int32).toInt64 &&& 63)) fun y61 => if ¬ x10 = 0 then pm_let ((x12 <<< ((10 : Int32).toInt64 &&& 63)) ||| (y61 / x10)) fun y64 => if ¬ x10 = 0 then pm_let (y61 - y61 / x10 * x10) fun y67 => pm_let (x14 + 1) fun y69 => some (.inl (.inr (.inr ((x0, x1, x3, x5, y67, x10, y64, y69))))) else none else none)
def sX8_divide : ((Int32 × Int64 × Int64 × Int32) ⊕ (Int32 × Int64 × Int64 × Int32 × Int64) ⊕ (Int32 × Int64 × Int64 × Int32 × Int64 × Int64 × Int64 × Int32)) → Option (((Int32 × Int64 × Int64 × Int32) ⊕ (Int32 × Int64 × Int64 × Int32 × Int64) ⊕ (Int32 × Int64 × Int64 × Int32 × Int64 × Int64 × Int64 × Int32)) ⊕ Int64) := fun z => match z with
  | .inl (x0, x1, x3, s0) => tX8_divide_18 x0 x1 x3 s0
  | .inr (.inl (x0, x1, x3, x5, s0)) => tX8_divide_33 x0 x1 x3 x5 s0
  | .inr (.inr (x0, x1, x3, x5, x8, x10, x12, x14)) => tX8_divide_154 x0 x1 x3 x5 x8 x10 x12 x14
noncomputable def fX8_divide (p1 : Int32) (p2 : Int64) (p3 : Int64) : Option Int64 := pm_let (fX8_isMinus p1 p2) fun v1 => pm_let (fX8_isMinus p1 p3) fun v3 => if v1 = v3 then (pm_lim sX8_divide (.inl ((p1, p2, p3, 0)))) else (pm_lim sX8_divide (.inl ((p1, p2, p3, 1))))
set_option maxHeartbeats 4000000 in
set_option maxRecDepth 100000 in
theorem lpX8_divide {g : pm_Gm} {l : Launch} {G : pm_Gl} {Qr : Option Value → pm_H → Prop} (C : pm_C g cX8_divide RX8) (X : pm_X g l G mX8_divide 0 0 Qr) {h : pm_H} {r : Int64} (q : Qr (some (.long r)) h) : ∀ n : Nat, (∀ (x0 : Int32) (x1 : Int64) (x3 : Int64) (s0 : Int32), pm_iter sX8_divide n (.inl (x0, x1, x3, s0)) = some r → pm_G g 18 [(0, .int x0), (1, .long x1), (3, .long x3)] [.int s0] h 0 0) ∧ (∀ (x0 : Int32) (x1 : Int64) (x3 : Int64) (x5 : Int32) (s0 : Int64), pm_iter sX8_divide n (.inr (.inl (x0, x1, x3, x5, s0))) = some r → pm_G g 33 [(0, .int x0), (1, .long x1), (3, .long x3), (5, .int x5)] [.long s0] h 0 0) ∧ (∀ (x0 : Int32) (x1 : Int64) (x3 : Int64) (x5 : Int32) (x8 : Int64) (x10 : Int64) (x12 : Int64) (x14 : Int32), pm_iter sX8_divide n (.inr (.inr (x0, x1, x3, x5, x8, x10, x12, x14))) = some r → pm_G g 154 [(0, .int x0), (1, .long x1), (3, .long x3), (5, .int x5), (8, .long x8), (10, .long x10), (12, .long x12), (14, .int x14)] [] h 0 0) := by
  intro n
  induction n with
  | zero => exact ⟨fun _ _ _ _ hf => (by cases hf), fun _ _ _ _ _ hf => (by cases hf), fun _ _ _ _ _ _ _ _ hf => (by cases hf)⟩
  | succ n ih =>
    refine ⟨fun x0 x1 x3 s0 hf => ?_, ?_⟩
    · obtain ⟨y, hf, hi⟩ := pm_iter_s hf
      have hf : tX8_divide_18 x0 x1 x3 s0 = some y := hf
      unfold tX8_divide_18 at hf
      refine pm_istore (lv' := [(5, .int s0), (0, .int x0), (1, .long x1), (3, .long x3)]) C dX8_divide_18 (pm_nl X (by decide)) rfl ?_
      refine pm_iload C dX8_divide_20 rfl ?_
      refine pm_if_eq (tgt := 32) C dX8_divide_22 (by decide) (fun c6 => ?_) (fun c6 => ?_)
      · have hf := pm_it hf c6
        refine pm_lconst (v := 0) C dX8_divide_32 (by decide) ?_
        cases hf
        exact pm_sub [1, 2, 3, 0] rfl (ih.2.1 x0 x1 x3 s0 0 hi)
      · have hf := pm_ie hf c6
        refine pm_iload_n C dX8_divide_25 rfl rfl ?_
        obtain ⟨v7, e8, hf⟩ := pm_lt hf
        refine pm_callS (as := [.int x0]) (st := []) C X dX8_divide_26 lnX8_132 myX8_sign stX8_sign ⟨by decide, by decide⟩ rfl rfl (Nat.le_of_ble_eq_true rfl) (Nat.le_refl _) (Nat.le_refl _) (ctX8_sign e8 ?_)
        show pm_G g 29 [(5, .int s0), (0, .int x0), (1, .long x1), (3, .long x3)] [.long v7] h 0 0
        refine pm_goto (tgt := 33) C dX8_divide_29 (by decide) ?_
        cases hf
        exact pm_sub [1, 2, 3, 0] rfl (ih.2.1 x0 x1 x3 s0 v7 hi)
    refine ⟨fun x0 x1 x3 x5 s0 hf => ?_, ?_⟩
    · obtain ⟨y, hf, hi⟩ := pm_iter_s hf
      have hf : tX8_divide_33 x0 x1 x3 x5 s0 = some y := hf
      unfold tX8_divide_33 at hf
      refine pm_lstore (lv' := [(6, .long s0), (0, .int x0), (1, .long x1), (3, .long x3), (5, .int x5)]) C dX8_divide_33 (pm_nl X (by decide)) rfl ?_
      refine pm_iload_n C dX8_divide_35 rfl rfl ?_
      refine pm_lload_n C dX8_divide_36 rfl rfl ?_
      obtain ⟨v9, e10, hf⟩ := pm_lt hf
      refine pm_callS (as := [.int x0, .long x1]) (st := []) C X dX8_divide_37 lnX8_155 myX8_isInfinite stX8_isInfinite ⟨by decide, by decide⟩ rfl rfl (Nat.le_of_ble_eq_true rfl) (Nat.le_refl _) (Nat.le_refl _) (ctX8_isInfinite e10 ?_)
      show pm_G g 40 [(6, .long s0), (0, .int x0), (1, .long x1), (3, .long x3), (5, .int x5)] [.int v9] h 0 0
      refine pm_if_eq (tgt := 66) C dX8_divide_40 (by decide) (fun c11 => ?_) (fun c11 => ?_)
      · have hf := pm_it hf c11
        refine pm_iload_n C dX8_divide_66 rfl rfl ?_
        refine pm_lload_n C dX8_divide_67 rfl rfl ?_
        obtain ⟨v12, e13, hf⟩ := pm_lt hf
        refine pm_callS (as := [.int x0, .long x3]) (st := []) C X dX8_divide_68 lnX8_155 myX8_isInfinite stX8_isInfinite ⟨by decide, by decide⟩ rfl rfl (Nat.le_of_ble_eq_true rfl) (Nat.le_refl _) (Nat.le_refl _) (ctX8_isInfinite e13 ?_)
        show pm_G g 71 [(6, .long s0), (0, .int x0), (1, .long x1), (3, .long x3), (5, .int x5)] [.int v12] h 0 0
        refine pm_if_eq (tgt := 77) C dX8_divide_71 (by decide) (fun c14 => ?_) (fun c14 => ?_)
        · have hf := pm_it hf c14
          refine pm_iload_n C dX8_divide_77 rfl rfl ?_
          refine pm_lload_n C dX8_divide_78 rfl rfl ?_
          obtain ⟨v15, e16, hf⟩ := pm_lt hf
          refine pm_callS (as := [.int x0, .long x3]) (st := []) C X dX8_divide_79 lnX8_78 myX8_isZero stX8_isZero ⟨by decide, by decide⟩ rfl rfl (Nat.le_of_ble_eq_true rfl) (Nat.le_refl _) (Nat.le_refl _) (ctX8_isZero e16 ?_)
          show pm_G g 82 [(6, .long s0), (0, .int x0), (1, .long x1), (3, .long x3), (5, .int x5)] [.int v15] h 0 0
          refine pm_if_eq (tgt := 108) C dX8_divide_82 (by decide) (fun c17 => ?_) (fun c17 => ?_)
          · have hf := pm_it hf c17
            refine pm_iload_n C dX8_divide_108 rfl rfl ?_
            refine pm_lload_n C dX8_divide_109 rfl rfl ?_
            obtain ⟨v18, e19, hf⟩ := pm_lt hf
            refine pm_callS (as := [.int x0, .long x1]) (st := []) C X dX8_divide_110 lnX8_78 myX8_isZero stX8_isZero ⟨by decide, by decide⟩ rfl rfl (Nat.le_of_ble_eq_true rfl) (Nat.le_refl _) (Nat.le_refl _) (ctX8_isZero e19 ?_)
            show pm_G g 113 [(6, .long s0), (0, .int x0), (1, .long x1), (3, .long x3), (5, .int x5)] [.int v18] h 0 0
            refine pm_if_eq (tgt := 119) C dX8_divide_113 (by decide) (fun c20 => ?_) (fun c20 => ?_)
            · have hf := pm_it hf c20
              refine pm_iload_n C dX8_divide_119 rfl rfl ?_
              refine pm_lload_n C dX8_divide_120 rfl rfl ?_
              obtain ⟨v21, e22, hf⟩ := pm_lt hf
              refine pm_callS (as := [.int x0, .long x1]) (st := []) C X dX8_divide_121 lnX8_165 myX8_significand stX8_significand ⟨by decide, by decide⟩ rfl rfl (Nat.le_of_ble_eq_true rfl) (Nat.le_refl _) (Nat.le_refl _) (ctX8_significand e22 ?_)
              show pm_G g 124 [(6, .long s0), (0, .int x0), (1, .long x1), (3, .long x3), (5, .int x5)] [.long v21] h 0 0
              refine pm_lstore (lv' := [(8, .long v21), (6, .long s0), (0, .int x0), (1, .long x1), (3, .long x3), (5, .int x5)]) C dX8_divide_124 (pm_nl X (by decide)) rfl ?_
              refine pm_lconst (v := 1) C dX8_divide_126 (by decide) ?_
              refine pm_iload_n C dX8_divide_127 rfl rfl ?_
              refine pm_lload_n C dX8_divide_128 rfl rfl ?_
              obtain ⟨v23, e24, hf⟩ := pm_lt hf
              refine pm_callS (as := [.int x0, .long x3]) (st := [.long 1]) C X dX8_divide_129 lnX8_165 myX8_significand stX8_significand ⟨by decide, by decide⟩ rfl rfl (Nat.le_of_ble_eq_true rfl) (Nat.le_refl _) (Nat.le_refl _) (ctX8_significand e24 ?_)
              show pm_G g 132 [(8, .long v21), (6, .long s0), (0, .int x0), (1, .long x1), (3, .long x3), (5, .int x5)] [.long v23, .long 1] h 0 0
              refine pm_mmaxJ C (pm_XR X) dX8_divide_132 mtX8_187 (by decide) (by decide) (Nat.le_of_ble_eq_true rfl) (Nat.zero_le _) (Nat.zero_le _) ?_
              obtain ⟨y25, e26, hf⟩ := pm_lt hf
              refine pm_topL e26 ?_
              refine pm_lstore (lv' := [(10, .long y25), (8, .long v21), (6, .long s0), (0, .int x0), (1, .long x1), (3, .long x3), (5, .int x5)]) C dX8_divide_135 (pm_nl X (by decide)) rfl ?_
              refine pm_lload C dX8_divide_137 rfl ?_
              refine pm_lload C dX8_divide_139 rfl ?_
              obtain ⟨u27, hf⟩ := pm_if hf
              refine pm_ldiv C dX8_divide_141 u27 ?_
              obtain ⟨y28, e29, hf⟩ := pm_lt hf
              refine pm_topL e29 ?_
              refine pm_lstore (lv' := [(12, .long y28), (10, .long y25), (8, .long v21), (6, .long s0), (0, .int x0), (1, .long x1), (3, .long x3), (5, .int x5)]) C dX8_divide_142 (pm_nl X (by decide)) rfl ?_
              refine pm_lload C dX8_divide_144 rfl ?_
              refine pm_lload C dX8_divide_146 rfl ?_
              obtain ⟨u30, hf⟩ := pm_if hf
              refine pm_lrem C dX8_divide_148 u30 ?_
              obtain ⟨y31, e32, hf⟩ := pm_lt hf
              refine pm_topL e32 ?_
              refine pm_lstore (lv' := [(8, .long y31), (12, .long y28), (10, .long y25), (6, .long s0), (0, .int x0), (1, .long x1), (3, .long x3), (5, .int x5)]) C dX8_divide_149 (pm_nl X (by decide)) rfl ?_
              refine pm_iconst (v := 0) C dX8_divide_151 (by decide) ?_
              refine pm_istore (lv' := [(14, .int 0), (8, .long y31), (12, .long y28), (10, .long y25), (6, .long s0), (0, .int x0), (1, .long x1), (3, .long x3), (5, .int x5)]) C dX8_divide_152 (pm_nl X (by decide)) rfl ?_
              cases hf
              exact pm_sub [5, 6, 7, 8, 1, 3, 2, 0] rfl (ih.2.2 x0 x1 x3 x5 y31 y25 y28 0 hi)
            · have hf := pm_ie hf c20
              refine pm_lload C dX8_divide_116 rfl ?_
              cases hf
              cases hi
              exact pm_lret C X dX8_divide_118 rfl (Nat.le_refl _) (Nat.le_refl _) q
          · have hf := pm_ie hf c17
            refine pm_iload_n C dX8_divide_85 rfl rfl ?_
            refine pm_lload_n C dX8_divide_86 rfl rfl ?_
            obtain ⟨v33, e34, hf⟩ := pm_lt hf
            refine pm_callS (as := [.int x0, .long x1]) (st := []) C X dX8_divide_87 lnX8_78 myX8_isZero stX8_isZero ⟨by decide, by decide⟩ rfl rfl (Nat.le_of_ble_eq_true rfl) (Nat.le_refl _) (Nat.le_refl _) (ctX8_isZero e34 ?_)
            show pm_G g 90 [(6, .long s0), (0, .int x0), (1, .long x1), (3, .long x3), (5, .int x5)] [.int v33] h 0 0
            refine pm_if_eq (tgt := 100) C dX8_divide_90 (by decide) (fun c35 => ?_) (fun c35 => ?_)
            · have hf := pm_it hf c35
              refine pm_lload C dX8_divide_100 rfl ?_
              refine pm_iload_n C dX8_divide_102 rfl rfl ?_
              obtain ⟨v36, e37, hf⟩ := pm_lt hf
              refine pm_callS (as := [.int x0]) (st := [.long s0]) C X dX8_divide_103 lnX8_178 myX8_infinite stX8_infinite ⟨by decide, by decide⟩ rfl rfl (Nat.le_of_ble_eq_true rfl) (Nat.le_refl _) (Nat.le_refl _) (ctX8_infinite e37 ?_)
              show pm_G g 106 [(6, .long s0), (0, .int x0), (1, .long x1), (3, .long x3), (5, .int x5)] [.long v36, .long s0] h 0 0
              refine pm_lor C dX8_divide_106 ?_
              cases hf
              cases hi
              exact pm_lret C X dX8_divide_107 rfl (Nat.le_refl _) (Nat.le_refl _) q
            · have hf := pm_ie hf c35
              refine pm_iload_n C dX8_divide_93 rfl rfl ?_
              obtain ⟨v38, e39, hf⟩ := pm_lt hf
              refine pm_callS (as := [.int x0]) (st := []) C X dX8_divide_94 lnX8_136 myX8_none stX8_none ⟨by decide, by decide⟩ rfl rfl (Nat.le_of_ble_eq_true rfl) (Nat.le_refl _) (Nat.le_refl _) (ctX8_none e39 ?_)
              show pm_G g 97 [(6, .long s0), (0, .int x0), (1, .long x1), (3, .long x3), (5, .int x5)] [.long v38] h 0 0
              refine pm_goto (tgt := 107) C dX8_divide_97 (by decide) ?_
              cases hf
              cases hi
              exact pm_lret C X dX8_divide_107 rfl (Nat.le_refl _) (Nat.le_refl _) q
        · have hf := pm_ie hf c14
          refine pm_lload C dX8_divide_74 rfl ?_
          cases hf
          cases hi
          exact pm_lret C X dX8_divide_76 rfl (Nat.le_refl _) (Nat.le_refl _) q
      · have hf := pm_ie hf c11
        refine pm_iload_n C dX8_divide_43 rfl rfl ?_
        refine pm_lload_n C dX8_divide_44 rfl rfl ?_
        obtain ⟨v40, e41, hf⟩ := pm_lt hf
        refine pm_callS (as := [.int x0, .long x3]) (st := []) C X dX8_divide_45 lnX8_155 myX8_isInfinite stX8_isInfinite ⟨by decide, by decide⟩ rfl rfl (Nat.le_of_ble_eq_true rfl) (Nat.le_refl _) (Nat.le_refl _) (ctX8_isInfinite e41 ?_)
        show pm_G g 48 [(6, .long s0), (0, .int x0), (1, .long x1), (3, .long x3), (5, .int x5)] [.int v40] h 0 0
        refine pm_if_eq (tgt := 58) C dX8_divide_48 (by decide) (fun c42 => ?_) (fun c42 => ?_)
        · have hf := pm_it hf c42
          refine pm_lload C dX8_divide_58 rfl ?_
          refine pm_iload_n C dX8_divide_60 rfl rfl ?_
          obtain ⟨v43, e44, hf⟩ := pm_lt hf
          refine pm_callS (as := [.int x0]) (st := [.long s0]) C X dX8_divide_61 lnX8_178 myX8_infinite stX8_infinite ⟨by decide, by decide⟩ rfl rfl (Nat.le_of_ble_eq_true rfl) (Nat.le_refl _) (Nat.le_refl _) (ctX8_infinite e44 ?_)
          show pm_G g 64 [(6, .long s0), (0, .int x0), (1, .long x1), (3, .long x3), (5, .int x5)] [.long v43, .long s0] h 0 0
          refine pm_lor C dX8_divide_64 ?_
          cases hf
          cases hi
          exact pm_lret C X dX8_divide_65 rfl (Nat.le_refl _) (Nat.le_refl _) q
        · have hf := pm_ie hf c42
          refine pm_iload_n C dX8_divide_51 rfl rfl ?_
          obtain ⟨v45, e46, hf⟩ := pm_lt hf
          refine pm_callS (as := [.int x0]) (st := []) C X dX8_divide_52 lnX8_136 myX8_none stX8_none ⟨by decide, by decide⟩ rfl rfl (Nat.le_of_ble_eq_true rfl) (Nat.le_refl _) (Nat.le_refl _) (ctX8_none e46 ?_)
          show pm_G g 55 [(6, .long s0), (0, .int x0), (1, .long x1), (3, .long x3), (5, .int x5)] [.long v45] h 0 0
          refine pm_goto (tgt := 65) C dX8_divide_55 (by decide) ?_
          cases hf
          cases hi
          exact pm_lret C X dX8_divide_65 rfl (Nat.le_refl _) (Nat.le_refl _) q
    refine fun x0 x1 x3 x5 x8 x10 x12 x14 hf => ?_
    obtain ⟨y, hf, hi⟩ := pm_iter_s hf
    have hf : tX8_divide_154 x0 x1 x3 x5 x8 x10 x12 x14 = some y := hf
    unfold tX8_divide_154 at hf
    refine pm_iload C dX8_divide_154 rfl ?_
    refine pm_bipush (v := 6) C dX8_divide_156 (by decide) ?_
    refine pm_icmp_ge (tgt := 194) C dX8_divide_158 (by decide) (fun c47 => ?_) (fun c47 => ?_)
    · have hf := pm_it hf c47
      refine pm_iload_n C dX8_divide_194 rfl rfl ?_
      refine pm_iload C dX8_divide_195 rfl ?_
      refine pm_lload C dX8_divide_197 rfl ?_
      refine pm_lconst (v := 0) C dX8_divide_199 (by decide) ?_
      refine pm_lcmp C dX8_divide_200 ?_
      refine pm_if_eq (tgt := 211) C dX8_divide_201 (by decide) (fun c48 => ?_) (fun c48 => ?_)
      · have hf := pm_it hf ((pm_lg_eq _ _).mp c48)
        refine pm_lload C dX8_divide_211 rfl ?_
        refine pm_iload_n C dX8_divide_213 rfl rfl ?_
        refine pm_lload_n C dX8_divide_214 rfl rfl ?_
        obtain ⟨v49, e50, hf⟩ := pm_lt hf
        refine pm_callS (as := [.int x0, .long x1]) (st := [.long x12, .int x5, .int x0]) C X dX8_divide_215 lnX8_158 myX8_scale stX8_scale ⟨by decide, by decide⟩ rfl rfl (Nat.le_of_ble_eq_true rfl) (Nat.le_refl _) (Nat.le_refl _) (ctX8_scale e50 ?_)
        show pm_G g 218 [(0, .int x0), (1, .long x1), (3, .long x3), (5, .int x5), (8, .long x8), (10, .long x10), (12, .long x12), (14, .int x14)] [.int v49, .long x12, .int x5, .int x0] h 0 0
        refine pm_iload_n C dX8_divide_218 rfl rfl ?_
        refine pm_lload_n C dX8_divide_219 rfl rfl ?_
        obtain ⟨v51, e52, hf⟩ := pm_lt hf
        refine pm_callS (as := [.int x0, .long x3]) (st := [.int v49, .long x12, .int x5, .int x0]) C X dX8_divide_220 lnX8_158 myX8_scale stX8_scale ⟨by decide, by decide⟩ rfl rfl (Nat.le_of_ble_eq_true rfl) (Nat.le_refl _) (Nat.le_refl _) (ctX8_scale e52 ?_)
        show pm_G g 223 [(0, .int x0), (1, .long x1), (3, .long x3), (5, .int x5), (8, .long x8), (10, .long x10), (12, .long x12), (14, .int x14)] [.int v51, .int v49, .long x12, .int x5, .int x0] h 0 0
        refine pm_isub C dX8_divide_223 ?_
        refine pm_bipush (v := 60) C dX8_divide_224 (by decide) ?_
        refine pm_isub C dX8_divide_226 ?_
        obtain ⟨v53, e54, hf⟩ := pm_lt hf
        refine pm_callS (as := [.int x0, .int x5, .long x12, .int ((v49 - v51) - 60)]) (st := []) C X dX8_divide_227 lnX8_168 myX8_round stX8_round ⟨by decide, by decide⟩ rfl rfl (Nat.le_of_ble_eq_true rfl) (Nat.le_refl _) (Nat.le_refl _) (ctX8_round e54 ?_)
        show pm_G g 230 [(0, .int x0), (1, .long x1), (3, .long x3), (5, .int x5), (8, .long x8), (10, .long x10), (12, .long x12), (14, .int x14)] [.long v53] h 0 0
        cases hf
        cases hi
        exact pm_lret C X dX8_divide_230 rfl (Nat.le_refl _) (Nat.le_refl _) q
      · have hf := pm_ie hf ((fun z => c48 ((pm_lg_eq _ _).mpr z)))
        refine pm_lload C dX8_divide_204 rfl ?_
        refine pm_lconst (v := 1) C dX8_divide_206 (by decide) ?_
        refine pm_lor C dX8_divide_207 ?_
        refine pm_goto (tgt := 213) C dX8_divide_208 (by decide) ?_
        refine pm_iload_n C dX8_divide_213 rfl rfl ?_
        refine pm_lload_n C dX8_divide_214 rfl rfl ?_
        obtain ⟨v55, e56, hf⟩ := pm_lt hf
        refine pm_callS (as := [.int x0, .long x1]) (st := [.long (x12 ||| 1), .int x5, .int x0]) C X dX8_divide_215 lnX8_158 myX8_scale stX8_scale ⟨by decide, by decide⟩ rfl rfl (Nat.le_of_ble_eq_true rfl) (Nat.le_refl _) (Nat.le_refl _) (ctX8_scale e56 ?_)
        show pm_G g 218 [(0, .int x0), (1, .long x1), (3, .long x3), (5, .int x5), (8, .long x8), (10, .long x10), (12, .long x12), (14, .int x14)] [.int v55, .long (x12 ||| 1), .int x5, .int x0] h 0 0
        refine pm_iload_n C dX8_divide_218 rfl rfl ?_
        refine pm_lload_n C dX8_divide_219 rfl rfl ?_
        obtain ⟨v57, e58, hf⟩ := pm_lt hf
        refine pm_callS (as := [.int x0, .long x3]) (st := [.int v55, .long (x12 ||| 1), .int x5, .int x0]) C X dX8_divide_220 lnX8_158 myX8_scale stX8_scale ⟨by decide, by decide⟩ rfl rfl (Nat.le_of_ble_eq_true rfl) (Nat.le_refl _) (Nat.le_refl _) (ctX8_scale e58 ?_)
        show pm_G g 223 [(0, .int x0), (1, .long x1), (3, .long x3), (5, .int x5), (8, .long x8), (10, .long x10), (12, .long x12), (14, .int x14)] [.int v57, .int v55, .long (x12 ||| 1), .int x5, .int x0] h 0 0
        refine pm_isub C dX8_divide_223 ?_
        refine pm_bipush (v := 60) C dX8_divide_224 (by decide) ?_
        refine pm_isub C dX8_divide_226 ?_
        obtain ⟨v59, e60, hf⟩ := pm_lt hf
        refine pm_callS (as := [.int x0, .int x5, .long (x12 ||| 1), .int ((v55 - v57) - 60)]) (st := []) C X dX8_divide_227 lnX8_168 myX8_round stX8_round ⟨by decide, by decide⟩ rfl rfl (Nat.le_of_ble_eq_true rfl) (Nat.le_refl _) (Nat.le_refl _) (ctX8_round e60 ?_)
        show pm_G g 230 [(0, .int x0), (1, .long x1), (3, .long x3), (5, .int x5), (8, .long x8), (10, .long x10), (12, .long x12), (14, .int x14)] [.long v59] h 0 0
        cases hf
        cases hi
        exact pm_lret C X dX8_divide_230 rfl (Nat.le_refl _) (Nat.le_refl _) q
    · have hf := pm_ie hf c47
      refine pm_lload C dX8_divide_161 rfl ?_
      refine pm_bipush (v := 10) C dX8_divide_163 (by decide) ?_
      refine pm_lshl C dX8_divide_165 ?_
      obtain ⟨y61, e62, hf⟩ := pm_lt hf
      refine pm_topL e62 ?_
      refine pm_lstore (lv' := [(8, .long y61), (0, .int x0), (1, .long x1), (3, .long x3), (5, .int x5), (10, .long x10), (12, .long x12), (14, .int x14)]) C dX8_divide_166 (pm_nl X (by decide)) rfl ?_
      refine pm_lload C dX8_divide_168 rfl ?_
      refine pm_bipush (v := 10) C dX8_divide_170 (by decide) ?_
      refine pm_lshl C dX8_divide_172 ?_
      refine pm_lload C dX8_divide_173 rfl ?_
      refine pm_lload C dX8_divide_175 rfl ?_
      obtain ⟨u63, hf⟩ := pm_if hf
      refine pm_ldiv C dX8_divide_177 u63 ?_
      refine pm_lor C dX8_divide_178 ?_
      obtain ⟨y64, e65, hf⟩ := pm_lt hf
      refine pm_topL e65 ?_
      refine pm_lstore (lv' := [(12, .long y64), (8, .long y61), (0, .int x0), (1, .long x1), (3, .long x3), (5, .int x5), (10, .long x10), (14, .int x14)]) C dX8_divide_179 (pm_nl X (by decide)) rfl ?_
      refine pm_lload C dX8_divide_181 rfl ?_
      refine pm_lload C dX8_divide_183 rfl ?_
      obtain ⟨u66, hf⟩ := pm_if hf
      refine pm_lrem C dX8_divide_185 u66 ?_
      obtain ⟨y67, e68, hf⟩ := pm_lt hf
      refine pm_topL e68 ?_
      refine pm_lstore (lv' := [(8, .long y67), (12, .long y64), (0, .int x0), (1, .long x1), (3, .long x3), (5, .int x5), (10, .long x10), (14, .int x14)]) C dX8_divide_186 (pm_nl X (by decide)) rfl ?_
      obtain ⟨y69, e70, hf⟩ := pm_lt hf
      refine pm_iinc (v := y69) (lv' := [(14, .int y69), (8, .long y67), (12, .long y64), (0, .int x0), (1, .long x1), (3, .long x3), (5, .int x5), (10, .long x10)]) C dX8_divide_188 rfl ((congrArg (x14 + ·) (by decide : Int32.ofInt 1 = 1)).trans e70) (pm_nl X (by decide)) rfl ?_
      refine pm_goto (tgt := 154) C dX8_divide_191 (by decide) ?_
      cases hf
      exact pm_sub [3, 4, 5, 6, 1, 7, 2, 0] rfl (ih.2.2 x0 x1 x3 x5 y67 x10 y64 y69 hi)
set_option maxHeartbeats 4000000 in
set_option maxRecDepth 100000 in
theorem ctX8_divide {l : Launch} {G : pm_Gl} {h : pm_H} {p1 : Int32} {p2 : Int64} {p3 : Int64} {r : Int64} {Qr : Option Value → pm_H → Prop} (hf : fX8_divide p1 p2 p3 = some r) (q : Qr (some (.long r)) h) : pm_Ct l G mX8_divide [.int p1, .long p2, .long p3] h 0 0 Qr := by
  refine pm_body pnX8 (Nat.le_of_ble_eq_true rfl) (fun g C X => ?_)
  have C : pm_C g cX8_divide RX8 := C
  show pm_G g 0 [(0, .int p1), (1, .long p2), (3, .long p3)] [] h 0 0
  unfold fX8_divide at hf
  refine pm_iload_n C dX8_divide_0 rfl rfl ?_
  refine pm_lload_n C dX8_divide_1 rfl rfl ?_
  obtain ⟨v1, e2, hf⟩ := pm_lt hf
  refine pm_callS (as := [.int p1, .long p2]) (st := []) C X dX8_divide_2 lnX8_162 myX8_isMinus stX8_isMinus ⟨by decide, by decide⟩ rfl rfl (Nat.le_of_ble_eq_true rfl) (Nat.le_refl _) (Nat.le_refl _) (ctX8_isMinus e2 ?_)
  show pm_G g 5 [(0, .int p1), (1, .long p2), (3, .long p3)] [.int v1] h 0 0
  refine pm_iload_n C dX8_divide_5 rfl rfl ?_
  refine pm_lload_n C dX8_divide_6 rfl rfl ?_
  obtain ⟨v3, e4, hf⟩ := pm_lt hf
  refine pm_callS (as := [.int p1, .long p3]) (st := [.int v1]) C X dX8_divide_7 lnX8_162 myX8_isMinus stX8_isMinus ⟨by decide, by decide⟩ rfl rfl (Nat.le_of_ble_eq_true rfl) (Nat.le_refl _) (Nat.le_refl _) (ctX8_isMinus e4 ?_)
  show pm_G g 10 [(0, .int p1), (1, .long p2), (3, .long p3)] [.int v3, .int v1] h 0 0
  refine pm_icmp_eq (tgt := 17) C dX8_divide_10 (by decide) (fun c5 => ?_) (fun c5 => ?_)
  · have hf := pm_it hf c5
    refine pm_iconst (v := 0) C dX8_divide_17 (by decide) ?_
    obtain ⟨n, hn⟩ := pm_lim_iter hf
    exact pm_sub [0, 1, 2] rfl ((lpX8_divide C X q n).1 p1 p2 p3 0 hn)
  · have hf := pm_ie hf c5
    refine pm_iconst (v := 1) C dX8_divide_13 (by decide) ?_
    refine pm_goto (tgt := 18) C dX8_divide_14 (by decide) ?_
    obtain ⟨n, hn⟩ := pm_lim_iter hf
    exact pm_sub [0, 1, 2] rfl ((lpX8_divide C X q n).1 p1 p2 p3 1 hn)
theorem dX8_fromWhole_0 : decode cX8_fromWhole 0 = .ok (.lload_n 1, 1) := by decide +kernel
theorem dX8_fromWhole_1 : decode cX8_fromWhole 1 = .ok (.lconst 0, 1) := by decide +kernel
theorem dX8_fromWhole_2 : decode cX8_fromWhole 2 = .ok (.lcmp, 1) := by decide +kernel
theorem dX8_fromWhole_3 : decode cX8_fromWhole 3 = .ok (.ifCond .ge 11, 3) := by decide +kernel
theorem dX8_fromWhole_6 : decode cX8_fromWhole 6 = .ok (.iload_n 3, 1) := by decide +kernel
theorem dX8_fromWhole_7 : decode cX8_fromWhole 7 = .ok (.ifCond .ne 7, 3) := by decide +kernel
theorem dX8_fromWhole_10 : decode cX8_fromWhole 10 = .ok (.iconst 1, 1) := by decide +kernel
theorem dX8_fromWhole_11 : decode cX8_fromWhole 11 = .ok (.goto 4, 3) := by decide +kernel
theorem dX8_fromWhole_14 : decode cX8_fromWhole 14 = .ok (.iconst 0, 1) := by decide +kernel
theorem dX8_fromWhole_15 : decode cX8_fromWhole 15 = .ok (.istore 4, 2) := by decide +kernel
theorem dX8_fromWhole_17 : decode cX8_fromWhole 17 = .ok (.iload_n 0, 1) := by decide +kernel
theorem dX8_fromWhole_18 : decode cX8_fromWhole 18 = .ok (.iload 4, 2) := by decide +kernel
theorem dX8_fromWhole_20 : decode cX8_fromWhole 20 = .ok (.iload 4, 2) := by decide +kernel
theorem dX8_fromWhole_22 : decode cX8_fromWhole 22 = .ok (.ifCond .eq 8, 3) := by decide +kernel
theorem dX8_fromWhole_25 : decode cX8_fromWhole 25 = .ok (.lload_n 1, 1) := by decide +kernel
theorem dX8_fromWhole_26 : decode cX8_fromWhole 26 = .ok (.lneg, 1) := by decide +kernel
theorem dX8_fromWhole_27 : decode cX8_fromWhole 27 = .ok (.goto 4, 3) := by decide +kernel
theorem dX8_fromWhole_30 : decode cX8_fromWhole 30 = .ok (.lload_n 1, 1) := by decide +kernel
theorem dX8_fromWhole_31 : decode cX8_fromWhole 31 = .ok (.iconst 0, 1) := by decide +kernel
theorem dX8_fromWhole_32 : decode cX8_fromWhole 32 = .ok (.invokestatic 168, 3) := by decide +kernel
theorem dX8_fromWhole_35 : decode cX8_fromWhole 35 = .ok (.lreturn, 1) := by decide +kernel
def fX8_fromWhole (p1 : Int32) (p2 : Int64) (p3 : Int32) : Int64 := if 0 ≤ p2 then (if (0 : Int32) = (0 : Int32) then (pm_let (fX8_round p1 0 p2 0) fun v3 => v3) else (pm_let (fX8_round p1 0 (-p2) 0) fun v5 => v5)) else (if p3 = 0 then (if (1 : Int32) = (0 : Int32) then (pm_let (fX8_round p1 1 p2 0) fun v14 => v14) else (pm_let (fX8_round p1 1 (-p2) 0) fun v16 => v16)) else (if (0 : Int32) = (0 : Int32) then (pm_let (fX8_round p1 0 p2 0) fun v9 => v9) else (pm_let (fX8_round p1 0 (-p2) 0) fun v11 => v11)))
set_option maxHeartbeats 4000000 in
set_option maxRecDepth 100000 in
theorem ctX8_fromWhole {l : Launch} {G : pm_Gl} {h : pm_H} {p1 : Int32} {p2 : Int64} {p3 : Int32} {r : Int64} {Qr : Option Value → pm_H → Prop} (hf : fX8_fromWhole p1 p2 p3 = r) (q : Qr (some (.long r)) h) : pm_Ct l G mX8_fromWhole [.int p1, .long p2, .int p3] h 0 0 Qr := by
  refine pm_body pnX8 (Nat.le_of_ble_eq_true rfl) (fun g C X => ?_)
  have C : pm_C g cX8_fromWhole RX8 := C
  show pm_G g 0 [(0, .int p1), (1, .long p2), (3, .int p3)] [] h 0 0
  unfold fX8_fromWhole at hf
  refine pm_lload_n C dX8_fromWhole_0 rfl rfl ?_
  refine pm_lconst (v := 0) C dX8_fromWhole_1 (by decide) ?_
  refine pm_lcmp C dX8_fromWhole_2 ?_
  refine pm_if_ge (tgt := 14) C dX8_fromWhole_3 (by decide) (fun c1 => ?_) (fun c1 => ?_)
  · have hf := pm_it hf ((pm_lg_ge _ _).mp c1)
    refine pm_iconst (v := 0) C dX8_fromWhole_14 (by decide) ?_
    refine pm_istore (lv' := [(4, .int 0), (0, .int p1), (1, .long p2), (3, .int p3)]) C dX8_fromWhole_15 (pm_nl X (by decide)) rfl ?_
    refine pm_iload_n C dX8_fromWhole_17 rfl rfl ?_
    refine pm_iload C dX8_fromWhole_18 rfl ?_
    refine pm_iload C dX8_fromWhole_20 rfl ?_
    refine pm_if_eq (tgt := 30) C dX8_fromWhole_22 (by decide) (fun c2 => ?_) (fun c2 => ?_)
    · have hf := pm_it hf c2
      refine pm_lload_n C dX8_fromWhole_30 rfl rfl ?_
      refine pm_iconst (v := 0) C dX8_fromWhole_31 (by decide) ?_
      obtain ⟨v3, e4, hf⟩ := pm_lt hf
      refine pm_callS (as := [.int p1, .int 0, .long p2, .int 0]) (st := []) C X dX8_fromWhole_32 lnX8_168 myX8_round stX8_round ⟨by decide, by decide⟩ rfl rfl (Nat.le_of_ble_eq_true rfl) (Nat.le_refl _) (Nat.le_refl _) (ctX8_round e4 ?_)
      show pm_G g 35 [(4, .int 0), (0, .int p1), (1, .long p2), (3, .int p3)] [.long v3] h 0 0
      subst hf
      exact pm_lret C X dX8_fromWhole_35 rfl (Nat.le_refl _) (Nat.le_refl _) q
    · have hf := pm_ie hf c2
      refine pm_lload_n C dX8_fromWhole_25 rfl rfl ?_
      refine pm_lneg C dX8_fromWhole_26 ?_
      refine pm_goto (tgt := 31) C dX8_fromWhole_27 (by decide) ?_
      refine pm_iconst (v := 0) C dX8_fromWhole_31 (by decide) ?_
      obtain ⟨v5, e6, hf⟩ := pm_lt hf
      refine pm_callS (as := [.int p1, .int 0, .long (-p2), .int 0]) (st := []) C X dX8_fromWhole_32 lnX8_168 myX8_round stX8_round ⟨by decide, by decide⟩ rfl rfl (Nat.le_of_ble_eq_true rfl) (Nat.le_refl _) (Nat.le_refl _) (ctX8_round e6 ?_)
      show pm_G g 35 [(4, .int 0), (0, .int p1), (1, .long p2), (3, .int p3)] [.long v5] h 0 0
      subst hf
      exact pm_lret C X dX8_fromWhole_35 rfl (Nat.le_refl _) (Nat.le_refl _) q
  · have hf := pm_ie hf ((fun z => c1 ((pm_lg_ge _ _).mpr z)))
    refine pm_iload_n C dX8_fromWhole_6 rfl rfl ?_
    refine pm_if_ne (tgt := 14) C dX8_fromWhole_7 (by decide) (fun c7 => ?_) (fun c7 => ?_)
    · have hf := pm_ie hf c7
      refine pm_iconst (v := 0) C dX8_fromWhole_14 (by decide) ?_
      refine pm_istore (lv' := [(4, .int 0), (0, .int p1), (1, .long p2), (3, .int p3)]) C dX8_fromWhole_15 (pm_nl X (by decide)) rfl ?_
      refine pm_iload_n C dX8_fromWhole_17 rfl rfl ?_
      refine pm_iload C dX8_fromWhole_18 rfl ?_
      refine pm_iload C dX8_fromWhole_20 rfl ?_
      refine pm_if_eq (tgt := 30) C dX8_fromWhole_22 (by decide) (fun c8 => ?_) (fun c8 => ?_)
      · have hf := pm_it hf c8
        refine pm_lload_n C dX8_fromWhole_30 rfl rfl ?_
        refine pm_iconst (v := 0) C dX8_fromWhole_31 (by decide) ?_
        obtain ⟨v9, e10, hf⟩ := pm_lt hf
        refine pm_callS (as := [.int p1, .int 0, .long p2, .int 0]) (st := []) C X dX8_fromWhole_32 lnX8_168 myX8_round stX8_round ⟨by decide, by decide⟩ rfl rfl (Nat.le_of_ble_eq_true rfl) (Nat.le_refl _) (Nat.le_refl _) (ctX8_round e10 ?_)
        show pm_G g 35 [(4, .int 0), (0, .int p1), (1, .long p2), (3, .int p3)] [.long v9] h 0 0
        subst hf
        exact pm_lret C X dX8_fromWhole_35 rfl (Nat.le_refl _) (Nat.le_refl _) q
      · have hf := pm_ie hf c8
        refine pm_lload_n C dX8_fromWhole_25 rfl rfl ?_
        refine pm_lneg C dX8_fromWhole_26 ?_
        refine pm_goto (tgt := 31) C dX8_fromWhole_27 (by decide) ?_
        refine pm_iconst (v := 0) C dX8_fromWhole_31 (by decide) ?_
        obtain ⟨v11, e12, hf⟩ := pm_lt hf
        refine pm_callS (as := [.int p1, .int 0, .long (-p2), .int 0]) (st := []) C X dX8_fromWhole_32 lnX8_168 myX8_round stX8_round ⟨by decide, by decide⟩ rfl rfl (Nat.le_of_ble_eq_true rfl) (Nat.le_refl _) (Nat.le_refl _) (ctX8_round e12 ?_)
        show pm_G g 35 [(4, .int 0), (0, .int p1), (1, .long p2), (3, .int p3)] [.long v11] h 0 0
        subst hf
        exact pm_lret C X dX8_fromWhole_35 rfl (Nat.le_refl _) (Nat.le_refl _) q
    · have hf := pm_it hf c7
      refine pm_iconst (v := 1) C dX8_fromWhole_10 (by decide) ?_
      refine pm_goto (tgt := 15) C dX8_fromWhole_11 (by decide) ?_
      refine pm_istore (lv' := [(4, .int 1), (0, .int p1), (1, .long p2), (3, .int p3)]) C dX8_fromWhole_15 (pm_nl X (by decide)) rfl ?_
      refine pm_iload_n C dX8_fromWhole_17 rfl rfl ?_
      refine pm_iload C dX8_fromWhole_18 rfl ?_
      refine pm_iload C dX8_fromWhole_20 rfl ?_
      refine pm_if_eq (tgt := 30) C dX8_fromWhole_22 (by decide) (fun c13 => ?_) (fun c13 => ?_)
      · have hf := pm_it hf c13
        refine pm_lload_n C dX8_fromWhole_30 rfl rfl ?_
        refine pm_iconst (v := 0) C dX8_fromWhole_31 (by decide) ?_
        obtain ⟨v14, e15, hf⟩ := pm_lt hf
        refine pm_callS (as := [.int p1, .int 1, .long p2, .int 0]) (st := []) C X dX8_fromWhole_32 lnX8_168 myX8_round stX8_round ⟨by decide, by decide⟩ rfl rfl (Nat.le_of_ble_eq_true rfl) (Nat.le_refl _) (Nat.le_refl _) (ctX8_round e15 ?_)
        show pm_G g 35 [(4, .int 1), (0, .int p1), (1, .long p2), (3, .int p3)] [.long v14] h 0 0
        subst hf
        exact pm_lret C X dX8_fromWhole_35 rfl (Nat.le_refl _) (Nat.le_refl _) q
      · have hf := pm_ie hf c13
        refine pm_lload_n C dX8_fromWhole_25 rfl rfl ?_
        refine pm_lneg C dX8_fromWhole_26 ?_
        refine pm_goto (tgt := 31) C dX8_fromWhole_27 (by decide) ?_
        refine pm_iconst (v := 0) C dX8_fromWhole_31 (by decide) ?_
        obtain ⟨v16, e17, hf⟩ := pm_lt hf
        refine pm_callS (as := [.int p1, .int 1, .long (-p2), .int 0]) (st := []) C X dX8_fromWhole_32 lnX8_168 myX8_round stX8_round ⟨by decide, by decide⟩ rfl rfl (Nat.le_of_ble_eq_true rfl) (Nat.le_refl _) (Nat.le_refl _) (ctX8_round e17 ?_)
        show pm_G g 35 [(4, .int 1), (0, .int p1), (1, .long p2), (3, .int p3)] [.long v16] h 0 0
        subst hf
        exact pm_lret C X dX8_fromWhole_35 rfl (Nat.le_refl _) (Nat.le_refl _) q
theorem dX8_multiply_0 : decode cX8_multiply 0 = .ok (.iload_n 0, 1) := by decide +kernel
theorem dX8_multiply_1 : decode cX8_multiply 1 = .ok (.lload_n 1, 1) := by decide +kernel
theorem dX8_multiply_2 : decode cX8_multiply 2 = .ok (.invokestatic 162, 3) := by decide +kernel
theorem dX8_multiply_5 : decode cX8_multiply 5 = .ok (.iload_n 0, 1) := by decide +kernel
theorem dX8_multiply_6 : decode cX8_multiply 6 = .ok (.lload_n 3, 1) := by decide +kernel
theorem dX8_multiply_7 : decode cX8_multiply 7 = .ok (.invokestatic 162, 3) := by decide +kernel
theorem dX8_multiply_10 : decode cX8_multiply 10 = .ok (.if_icmp .eq 7, 3) := by decide +kernel
theorem dX8_multiply_13 : decode cX8_multiply 13 = .ok (.iconst 1, 1) := by decide +kernel
theorem dX8_multiply_14 : decode cX8_multiply 14 = .ok (.goto 4, 3) := by decide +kernel
theorem dX8_multiply_17 : decode cX8_multiply 17 = .ok (.iconst 0, 1) := by decide +kernel
theorem dX8_multiply_18 : decode cX8_multiply 18 = .ok (.istore 5, 2) := by decide +kernel
theorem dX8_multiply_20 : decode cX8_multiply 20 = .ok (.iload 5, 2) := by decide +kernel
theorem dX8_multiply_22 : decode cX8_multiply 22 = .ok (.ifCond .eq 10, 3) := by decide +kernel
theorem dX8_multiply_25 : decode cX8_multiply 25 = .ok (.iload_n 0, 1) := by decide +kernel
theorem dX8_multiply_26 : decode cX8_multiply 26 = .ok (.invokestatic 132, 3) := by decide +kernel
theorem dX8_multiply_29 : decode cX8_multiply 29 = .ok (.goto 4, 3) := by decide +kernel
theorem dX8_multiply_32 : decode cX8_multiply 32 = .ok (.lconst 0, 1) := by decide +kernel
theorem dX8_multiply_33 : decode cX8_multiply 33 = .ok (.lstore 6, 2) := by decide +kernel
theorem dX8_multiply_35 : decode cX8_multiply 35 = .ok (.iload_n 0, 1) := by decide +kernel
theorem dX8_multiply_36 : decode cX8_multiply 36 = .ok (.lload_n 1, 1) := by decide +kernel
theorem dX8_multiply_37 : decode cX8_multiply 37 = .ok (.invokestatic 78, 3) := by decide +kernel
theorem dX8_multiply_40 : decode cX8_multiply 40 = .ok (.ifCond .ne 11, 3) := by decide +kernel
theorem dX8_multiply_43 : decode cX8_multiply 43 = .ok (.iload_n 0, 1) := by decide +kernel
theorem dX8_multiply_44 : decode cX8_multiply 44 = .ok (.lload_n 3, 1) := by decide +kernel
theorem dX8_multiply_45 : decode cX8_multiply 45 = .ok (.invokestatic 78, 3) := by decide +kernel
theorem dX8_multiply_48 : decode cX8_multiply 48 = .ok (.ifCond .eq 7, 3) := by decide +kernel
theorem dX8_multiply_51 : decode cX8_multiply 51 = .ok (.iconst 1, 1) := by decide +kernel
theorem dX8_multiply_52 : decode cX8_multiply 52 = .ok (.goto 4, 3) := by decide +kernel
theorem dX8_multiply_55 : decode cX8_multiply 55 = .ok (.iconst 0, 1) := by decide +kernel
theorem dX8_multiply_56 : decode cX8_multiply 56 = .ok (.istore 8, 2) := by decide +kernel
theorem dX8_multiply_58 : decode cX8_multiply 58 = .ok (.iload_n 0, 1) := by decide +kernel
theorem dX8_multiply_59 : decode cX8_multiply 59 = .ok (.lload_n 1, 1) := by decide +kernel
theorem dX8_multiply_60 : decode cX8_multiply 60 = .ok (.invokestatic 155, 3) := by decide +kernel
theorem dX8_multiply_63 : decode cX8_multiply 63 = .ok (.ifCond .ne 11, 3) := by decide +kernel
theorem dX8_multiply_66 : decode cX8_multiply 66 = .ok (.iload_n 0, 1) := by decide +kernel
theorem dX8_multiply_67 : decode cX8_multiply 67 = .ok (.lload_n 3, 1) := by decide +kernel
theorem dX8_multiply_68 : decode cX8_multiply 68 = .ok (.invokestatic 155, 3) := by decide +kernel
theorem dX8_multiply_71 : decode cX8_multiply 71 = .ok (.ifCond .eq 23, 3) := by decide +kernel
theorem dX8_multiply_74 : decode cX8_multiply 74 = .ok (.iload 8, 2) := by decide +kernel
theorem dX8_multiply_76 : decode cX8_multiply 76 = .ok (.ifCond .eq 10, 3) := by decide +kernel
theorem dX8_multiply_79 : decode cX8_multiply 79 = .ok (.iload_n 0, 1) := by decide +kernel
theorem dX8_multiply_80 : decode cX8_multiply 80 = .ok (.invokestatic 136, 3) := by decide +kernel
theorem dX8_multiply_83 : decode cX8_multiply 83 = .ok (.goto 10, 3) := by decide +kernel
theorem dX8_multiply_86 : decode cX8_multiply 86 = .ok (.lload 6, 2) := by decide +kernel
theorem dX8_multiply_88 : decode cX8_multiply 88 = .ok (.iload_n 0, 1) := by decide +kernel
theorem dX8_multiply_89 : decode cX8_multiply 89 = .ok (.invokestatic 178, 3) := by decide +kernel
theorem dX8_multiply_92 : decode cX8_multiply 92 = .ok (.lor, 1) := by decide +kernel
theorem dX8_multiply_93 : decode cX8_multiply 93 = .ok (.lreturn, 1) := by decide +kernel
theorem dX8_multiply_94 : decode cX8_multiply 94 = .ok (.iload 8, 2) := by decide +kernel
theorem dX8_multiply_96 : decode cX8_multiply 96 = .ok (.ifCond .eq 6, 3) := by decide +kernel
theorem dX8_multiply_99 : decode cX8_multiply 99 = .ok (.lload 6, 2) := by decide +kernel
theorem dX8_multiply_101 : decode cX8_multiply 101 = .ok (.lreturn, 1) := by decide +kernel
theorem dX8_multiply_102 : decode cX8_multiply 102 = .ok (.iload_n 0, 1) := by decide +kernel
theorem dX8_multiply_103 : decode cX8_multiply 103 = .ok (.lload_n 1, 1) := by decide +kernel
theorem dX8_multiply_104 : decode cX8_multiply 104 = .ok (.invokestatic 165, 3) := by decide +kernel
theorem dX8_multiply_107 : decode cX8_multiply 107 = .ok (.lstore 9, 2) := by decide +kernel
theorem dX8_multiply_109 : decode cX8_multiply 109 = .ok (.iload_n 0, 1) := by decide +kernel
theorem dX8_multiply_110 : decode cX8_multiply 110 = .ok (.lload_n 3, 1) := by decide +kernel
theorem dX8_multiply_111 : decode cX8_multiply 111 = .ok (.invokestatic 165, 3) := by decide +kernel
theorem dX8_multiply_114 : decode cX8_multiply 114 = .ok (.lstore 11, 2) := by decide +kernel
theorem dX8_multiply_116 : decode cX8_multiply 116 = .ok (.ldc2_w 181, 3) := by decide +kernel
theorem dX8_multiply_119 : decode cX8_multiply 119 = .ok (.lstore 13, 2) := by decide +kernel
theorem dX8_multiply_121 : decode cX8_multiply 121 = .ok (.lload 9, 2) := by decide +kernel
theorem dX8_multiply_123 : decode cX8_multiply 123 = .ok (.bipush 27, 2) := by decide +kernel
theorem dX8_multiply_125 : decode cX8_multiply 125 = .ok (.lushr, 1) := by decide +kernel
theorem dX8_multiply_126 : decode cX8_multiply 126 = .ok (.lload 11, 2) := by decide +kernel
theorem dX8_multiply_128 : decode cX8_multiply 128 = .ok (.lload 13, 2) := by decide +kernel
theorem dX8_multiply_130 : decode cX8_multiply 130 = .ok (.land, 1) := by decide +kernel
theorem dX8_multiply_131 : decode cX8_multiply 131 = .ok (.lmul, 1) := by decide +kernel
theorem dX8_multiply_132 : decode cX8_multiply 132 = .ok (.lload 9, 2) := by decide +kernel
theorem dX8_multiply_134 : decode cX8_multiply 134 = .ok (.lload 13, 2) := by decide +kernel
theorem dX8_multiply_136 : decode cX8_multiply 136 = .ok (.land, 1) := by decide +kernel
theorem dX8_multiply_137 : decode cX8_multiply 137 = .ok (.lload 11, 2) := by decide +kernel
theorem dX8_multiply_139 : decode cX8_multiply 139 = .ok (.bipush 27, 2) := by decide +kernel
theorem dX8_multiply_141 : decode cX8_multiply 141 = .ok (.lushr, 1) := by decide +kernel
theorem dX8_multiply_142 : decode cX8_multiply 142 = .ok (.lmul, 1) := by decide +kernel
theorem dX8_multiply_143 : decode cX8_multiply 143 = .ok (.ladd, 1) := by decide +kernel
theorem dX8_multiply_144 : decode cX8_multiply 144 = .ok (.lstore 15, 2) := by decide +kernel
theorem dX8_multiply_146 : decode cX8_multiply 146 = .ok (.lload 9, 2) := by decide +kernel
theorem dX8_multiply_148 : decode cX8_multiply 148 = .ok (.lload 13, 2) := by decide +kernel
theorem dX8_multiply_150 : decode cX8_multiply 150 = .ok (.land, 1) := by decide +kernel
theorem dX8_multiply_151 : decode cX8_multiply 151 = .ok (.lload 11, 2) := by decide +kernel
theorem dX8_multiply_153 : decode cX8_multiply 153 = .ok (.lload 13, 2) := by decide +kernel
theorem dX8_multiply_155 : decode cX8_multiply 155 = .ok (.land, 1) := by decide +kernel
theorem dX8_multiply_156 : decode cX8_multiply 156 = .ok (.lmul, 1) := by decide +kernel
theorem dX8_multiply_157 : decode cX8_multiply 157 = .ok (.lload 15, 2) := by decide +kernel
theorem dX8_multiply_159 : decode cX8_multiply 159 = .ok (.lload 13, 2) := by decide +kernel
theorem dX8_multiply_161 : decode cX8_multiply 161 = .ok (.land, 1) := by decide +kernel
theorem dX8_multiply_162 : decode cX8_multiply 162 = .ok (.bipush 27, 2) := by decide +kernel
theorem dX8_multiply_164 : decode cX8_multiply 164 = .ok (.lshl, 1) := by decide +kernel
theorem dX8_multiply_165 : decode cX8_multiply 165 = .ok (.ladd, 1) := by decide +kernel
theorem dX8_multiply_166 : decode cX8_multiply 166 = .ok (.lstore 17, 2) := by decide +kernel
theorem dX8_multiply_168 : decode cX8_multiply 168 = .ok (.lload 9, 2) := by decide +kernel
theorem dX8_multiply_170 : decode cX8_multiply 170 = .ok (.bipush 27, 2) := by decide +kernel
theorem dX8_multiply_172 : decode cX8_multiply 172 = .ok (.lushr, 1) := by decide +kernel
theorem dX8_multiply_173 : decode cX8_multiply 173 = .ok (.lload 11, 2) := by decide +kernel
theorem dX8_multiply_175 : decode cX8_multiply 175 = .ok (.bipush 27, 2) := by decide +kernel
theorem dX8_multiply_177 : decode cX8_multiply 177 = .ok (.lushr, 1) := by decide +kernel
theorem dX8_multiply_178 : decode cX8_multiply 178 = .ok (.lmul, 1) := by decide +kernel
theorem dX8_multiply_179 : decode cX8_multiply 179 = .ok (.lload 15, 2) := by decide +kernel
theorem dX8_multiply_181 : decode cX8_multiply 181 = .ok (.bipush 27, 2) := by decide +kernel
theorem dX8_multiply_183 : decode cX8_multiply 183 = .ok (.lushr, 1) := by decide +kernel
theorem dX8_multiply_184 : decode cX8_multiply 184 = .ok (.ladd, 1) := by decide +kernel
theorem dX8_multiply_185 : decode cX8_multiply 185 = .ok (.lload 17, 2) := by decide +kernel
theorem dX8_multiply_187 : decode cX8_multiply 187 = .ok (.bipush 54, 2) := by decide +kernel
theorem dX8_multiply_189 : decode cX8_multiply 189 = .ok (.lushr, 1) := by decide +kernel
theorem dX8_multiply_190 : decode cX8_multiply 190 = .ok (.ladd, 1) := by decide +kernel
theorem dX8_multiply_191 : decode cX8_multiply 191 = .ok (.lstore 19, 2) := by decide +kernel
theorem dX8_multiply_193 : decode cX8_multiply 193 = .ok (.lload 17, 2) := by decide +kernel
theorem dX8_multiply_195 : decode cX8_multiply 195 = .ok (.ldc2_w 183, 3) := by decide +kernel
theorem dX8_multiply_198 : decode cX8_multiply 198 = .ok (.land, 1) := by decide +kernel
theorem dX8_multiply_199 : decode cX8_multiply 199 = .ok (.lstore 17, 2) := by decide +kernel
theorem dX8_multiply_201 : decode cX8_multiply 201 = .ok (.lload 19, 2) := by decide +kernel
theorem dX8_multiply_203 : decode cX8_multiply 203 = .ok (.bipush 10, 2) := by decide +kernel
theorem dX8_multiply_205 : decode cX8_multiply 205 = .ok (.lshl, 1) := by decide +kernel
theorem dX8_multiply_206 : decode cX8_multiply 206 = .ok (.lload 17, 2) := by decide +kernel
theorem dX8_multiply_208 : decode cX8_multiply 208 = .ok (.bipush 44, 2) := by decide +kernel
theorem dX8_multiply_210 : decode cX8_multiply 210 = .ok (.lushr, 1) := by decide +kernel
theorem dX8_multiply_211 : decode cX8_multiply 211 = .ok (.lor, 1) := by decide +kernel
theorem dX8_multiply_212 : decode cX8_multiply 212 = .ok (.lload 17, 2) := by decide +kernel
theorem dX8_multiply_214 : decode cX8_multiply 214 = .ok (.ldc2_w 185, 3) := by decide +kernel
theorem dX8_multiply_217 : decode cX8_multiply 217 = .ok (.land, 1) := by decide +kernel
theorem dX8_multiply_218 : decode cX8_multiply 218 = .ok (.lconst 0, 1) := by decide +kernel
theorem dX8_multiply_219 : decode cX8_multiply 219 = .ok (.lcmp, 1) := by decide +kernel
theorem dX8_multiply_220 : decode cX8_multiply 220 = .ok (.ifCond .eq 7, 3) := by decide +kernel
theorem dX8_multiply_223 : decode cX8_multiply 223 = .ok (.iconst 1, 1) := by decide +kernel
theorem dX8_multiply_224 : decode cX8_multiply 224 = .ok (.goto 4, 3) := by decide +kernel
theorem dX8_multiply_227 : decode cX8_multiply 227 = .ok (.iconst 0, 1) := by decide +kernel
theorem dX8_multiply_228 : decode cX8_multiply 228 = .ok (.i2l, 1) := by decide +kernel
theorem dX8_multiply_229 : decode cX8_multiply 229 = .ok (.lor, 1) := by decide +kernel
theorem dX8_multiply_230 : decode cX8_multiply 230 = .ok (.lstore 21, 2) := by decide +kernel
theorem dX8_multiply_232 : decode cX8_multiply 232 = .ok (.iload_n 0, 1) := by decide +kernel
theorem dX8_multiply_233 : decode cX8_multiply 233 = .ok (.iload 5, 2) := by decide +kernel
theorem dX8_multiply_235 : decode cX8_multiply 235 = .ok (.lload 21, 2) := by decide +kernel
theorem dX8_multiply_237 : decode cX8_multiply 237 = .ok (.iload_n 0, 1) := by decide +kernel
theorem dX8_multiply_238 : decode cX8_multiply 238 = .ok (.lload_n 1, 1) := by decide +kernel
theorem dX8_multiply_239 : decode cX8_multiply 239 = .ok (.invokestatic 158, 3) := by decide +kernel
theorem dX8_multiply_242 : decode cX8_multiply 242 = .ok (.iload_n 0, 1) := by decide +kernel
theorem dX8_multiply_243 : decode cX8_multiply 243 = .ok (.lload_n 3, 1) := by decide +kernel
theorem dX8_multiply_244 : decode cX8_multiply 244 = .ok (.invokestatic 158, 3) := by decide +kernel
theorem dX8_multiply_247 : decode cX8_multiply 247 = .ok (.iadd, 1) := by decide +kernel
theorem dX8_multiply_248 : decode cX8_multiply 248 = .ok (.bipush 44, 2) := by decide +kernel
theorem dX8_multiply_250 : decode cX8_multiply 250 = .ok (.iadd, 1) := by decide +kernel
theorem dX8_multiply_251 : decode cX8_multiply 251 = .ok (.invokestatic 168, 3) := by decide +kernel
theorem dX8_multiply_254 : decode cX8_multiply 254 = .ok (.lreturn, 1) := by decide +kernel
def fX8_multiply_b56 (x0 : Int32) (x1 : Int64) (x3 : Int64) (x5 : Int32) (x6 : Int64) (s0 : Int32) : Int64 := pm_let (fX8_isInfinite x0 x1) fun v15 => if v15 = 0 then (pm_let (fX8_isInfinite x0 x3) fun v23 => if v23 = 0 then (if s0 = 0 then (pm_let (fX8_significand x0 x1) fun v27 => pm_let (fX8_significand x0 x3) fun v29 => pm_let ((((v27.toUInt64 >>> ((27 : Int32).toInt64.toUInt64 &&& Int64.toUInt64 63)).toInt64) * (v29 &&& 134217727)) + ((v27 &&& 134217727) * ((v29.toUInt64 >>> ((27 : Int32).toInt64.toUInt64 &&& Int64.toUInt64 63)).toInt64))) fun y31 => pm_let (((v27 &&& 134217727) * (v29 &&& 134217727)) + ((y31 &&& 134217727) <<< ((27 : Int32).toInt64 &&& 63))) fun y33 => pm_let (((((v27.toUInt64 >>> ((27 : Int32).toInt64.toUInt64 &&& Int64.toUInt64 63)).toInt64) * ((v29.toUInt64 >>> ((27 : Int32).toInt64.toUInt64 &&& Int64.toUInt64 63)).toInt64)) + ((y31.toUInt64 >>> ((27 : Int32).toInt64.toUInt64 &&& Int64.toUInt64 63)).toInt64)) + ((y33.toUInt64 >>> ((54 : Int32).toInt64.toUInt64 &&& Int64.toUInt64 63)).toInt64)) fun y35 => pm_let (y33 &&& 18014398509481983) fun y37 => if (y37 &&& 17592186044415) = 0 then (pm_let (((y35 <<< ((10 : Int32).toInt64 &&& 63)) ||| ((y37.toUInt64 >>> ((44 : Int32).toInt64.toUInt64 &&& Int64.toUInt64 63)).toInt64)) ||| ((0 : Int32).toInt64)) fun y40 => pm_let (fX8_scale x0 x1) fun v42 => pm_let (fX8_scale x0 x3) fun v44 => pm_let (fX8_round x0 x5 y40 ((v42 + v44) + 44)) fun v46 => v46) else (pm_let (((y35 <<< ((10 : Int32).toInt64 &&& 63)) ||| ((y37.toUInt64 >>> ((44 : Int32).toInt64.toUInt64 &&& Int64.toUInt64 63)).toInt64)) ||| ((1 : Int32).toInt64)) fun y48 => pm_let (fX8_scale x0 x1) fun v50 => pm_let (fX8_scale x0 x3) fun v52 => pm_let (fX8_round x0 x5 y48 ((v50 + v52) + 44)) fun v54 => v54)) else (x6)) else (if s0 = 0 then (pm_let (fX8_infinite x0) fun v57 => x6 ||| v57) else (pm_let (fX8_none x0) fun v59 => v59))) else (if s0 = 0 then (pm_let (fX8_infinite x0) fun v19 => x6 ||| v19) else (pm_let (fX8_none x0) fun v21 => v21))
def fX8_multiply_b51 (x0 : Int32) (x1 : Int64) (x3 : Int64) (x5 : Int32) (x6 : Int64) : Int64 := fX8_multiply_b56 x0 x1 x3 x5 x6 1
def fX8_multiply_b33 (x0 : Int32) (x1 : Int64) (x3 : Int64) (x5 : Int32) (s0 : Int64) : Int64 := pm_let (fX8_isZero x0 x1) fun v9 => if v9 = 0 then (pm_let (fX8_isZero x0 x3) fun v12 => if v12 = 0 then (fX8_multiply_b56 x0 x1 x3 x5 s0 0) else (fX8_multiply_b51 x0 x1 x3 x5 s0)) else (fX8_multiply_b51 x0 x1 x3 x5 s0)
def fX8_multiply_b18 (x0 : Int32) (x1 : Int64) (x3 : Int64) (s0 : Int32) : Int64 := if s0 = 0 then (fX8_multiply_b33 x0 x1 x3 s0 0) else (pm_let (fX8_sign x0) fun v7 => fX8_multiply_b33 x0 x1 x3 s0 v7)
def fX8_multiply (p1 : Int32) (p2 : Int64) (p3 : Int64) : Int64 := pm_let (fX8_isMinus p1 p2) fun v1 => pm_let (fX8_isMinus p1 p3) fun v3 => if v1 = v3 then (fX8_multiply_b18 p1 p2 p3 0) else (fX8_multiply_b18 p1 p2 p3 1)
set_option maxHeartbeats 4000000 in
set_option maxRecDepth 100000 in
theorem bX8_multiply_56 {g : pm_Gm} {l : Launch} {G : pm_Gl} {Qr : Option Value → pm_H → Prop} (C : pm_C g cX8_multiply RX8) (X : pm_X g l G mX8_multiply 0 0 Qr) {h : pm_H} {x0 : Int32} {x1 : Int64} {x3 : Int64} {x5 : Int32} {x6 : Int64} {s0 : Int32} {r : Int64} (hf : fX8_multiply_b56 x0 x1 x3 x5 x6 s0 = r) (q : Qr (some (.long r)) h) : pm_G g 56 [(0, .int x0), (1, .long x1), (3, .long x3), (5, .int x5), (6, .long x6)] [.int s0] h 0 0 := by
  unfold fX8_multiply_b56 at hf
  refine pm_istore (lv' := [(8, .int s0), (0, .int x0), (1, .long x1), (3, .long x3), (5, .int x5), (6, .long x6)]) C dX8_multiply_56 (pm_nl X (by decide)) rfl ?_
  refine pm_iload_n C dX8_multiply_58 rfl rfl ?_
  refine pm_lload_n C dX8_multiply_59 rfl rfl ?_
  obtain ⟨v15, e16, hf⟩ := pm_lt hf
  refine pm_callS (as := [.int x0, .long x1]) (st := []) C X dX8_multiply_60 lnX8_155 myX8_isInfinite stX8_isInfinite ⟨by decide, by decide⟩ rfl rfl (Nat.le_of_ble_eq_true rfl) (Nat.le_refl _) (Nat.le_refl _) (ctX8_isInfinite e16 ?_)
  show pm_G g 63 [(8, .int s0), (0, .int x0), (1, .long x1), (3, .long x3), (5, .int x5), (6, .long x6)] [.int v15] h 0 0
  refine pm_if_ne (tgt := 74) C dX8_multiply_63 (by decide) (fun c17 => ?_) (fun c17 => ?_)
  · have hf := pm_ie hf c17
    refine pm_iload C dX8_multiply_74 rfl ?_
    refine pm_if_eq (tgt := 86) C dX8_multiply_76 (by decide) (fun c18 => ?_) (fun c18 => ?_)
    · have hf := pm_it hf c18
      refine pm_lload C dX8_multiply_86 rfl ?_
      refine pm_iload_n C dX8_multiply_88 rfl rfl ?_
      obtain ⟨v19, e20, hf⟩ := pm_lt hf
      refine pm_callS (as := [.int x0]) (st := [.long x6]) C X dX8_multiply_89 lnX8_178 myX8_infinite stX8_infinite ⟨by decide, by decide⟩ rfl rfl (Nat.le_of_ble_eq_true rfl) (Nat.le_refl _) (Nat.le_refl _) (ctX8_infinite e20 ?_)
      show pm_G g 92 [(8, .int s0), (0, .int x0), (1, .long x1), (3, .long x3), (5, .int x5), (6, .long x6)] [.long v19, .long x6] h 0 0
      refine pm_lor C dX8_multiply_92 ?_
      subst hf
      exact pm_lret C X dX8_multiply_93 rfl (Nat.le_refl _) (Nat.le_refl _) q
    · have hf := pm_ie hf c18
      refine pm_iload_n C dX8_multiply_79 rfl rfl ?_
      obtain ⟨v21, e22, hf⟩ := pm_lt hf
      refine pm_callS (as := [.int x0]) (st := []) C X dX8_multiply_80 lnX8_136 myX8_none stX8_none ⟨by decide, by decide⟩ rfl rfl (Nat.le_of_ble_eq_true rfl) (Nat.le_refl _) (Nat.le_refl _) (ctX8_none e22 ?_)
      show pm_G g 83 [(8, .int s0), (0, .int x0), (1, .long x1), (3, .long x3), (5, .int x5), (6, .long x6)] [.long v21] h 0 0
      refine pm_goto (tgt := 93) C dX8_multiply_83 (by decide) ?_
      subst hf
      exact pm_lret C X dX8_multiply_93 rfl (Nat.le_refl _) (Nat.le_refl _) q
  · have hf := pm_it hf c17
    refine pm_iload_n C dX8_multiply_66 rfl rfl ?_
    refine pm_lload_n C dX8_multiply_67 rfl rfl ?_
    obtain ⟨v23, e24, hf⟩ := pm_lt hf
    refine pm_callS (as := [.int x0, .long x3]) (st := []) C X dX8_multiply_68 lnX8_155 myX8_isInfinite stX8_isInfinite ⟨by decide, by decide⟩ rfl rfl (Nat.le_of_ble_eq_true rfl) (Nat.le_refl _) (Nat.le_refl _) (ctX8_isInfinite e24 ?_)
    show pm_G g 71 [(8, .int s0), (0, .int x0), (1, .long x1), (3, .long x3), (5, .int x5), (6, .long x6)] [.int v23] h 0 0
    refine pm_if_eq (tgt := 94) C dX8_multiply_71 (by decide) (fun c25 => ?_) (fun c25 => ?_)
    · have hf := pm_it hf c25
      refine pm_iload C dX8_multiply_94 rfl ?_
      refine pm_if_eq (tgt := 102) C dX8_multiply_96 (by decide) (fun c26 => ?_) (fun c26 => ?_)
      · have hf := pm_it hf c26
        refine pm_iload_n C dX8_multiply_102 rfl rfl ?_
        refine pm_lload_n C dX8_multiply_103 rfl rfl ?_
        obtain ⟨v27, e28, hf⟩ := pm_lt hf
        refine pm_callS (as := [.int x0, .long x1]) (st := []) C X dX8_multiply_104 lnX8_165 myX8_significand stX8_significand ⟨by decide, by decide⟩ rfl rfl (Nat.le_of_ble_eq_true rfl) (Nat.le_refl _) (Nat.le_refl _) (ctX8_significand e28 ?_)
        show pm_G g 107 [(8, .int s0), (0, .int x0), (1, .long x1), (3, .long x3), (5, .int x5), (6, .long x6)] [.long v27] h 0 0
        refine pm_lstore (lv' := [(9, .long v27), (8, .int s0), (0, .int x0), (1, .long x1), (3, .long x3), (5, .int x5), (6, .long x6)]) C dX8_multiply_107 (pm_nl X (by decide)) rfl ?_
        refine pm_iload_n C dX8_multiply_109 rfl rfl ?_
        refine pm_lload_n C dX8_multiply_110 rfl rfl ?_
        obtain ⟨v29, e30, hf⟩ := pm_lt hf
        refine pm_callS (as := [.int x0, .long x3]) (st := []) C X dX8_multiply_111 lnX8_165 myX8_significand stX8_significand ⟨by decide, by decide⟩ rfl rfl (Nat.le_of_ble_eq_true rfl) (Nat.le_refl _) (Nat.le_refl _) (ctX8_significand e30 ?_)
        show pm_G g 114 [(9, .long v27), (8, .int s0), (0, .int x0), (1, .long x1), (3, .long x3), (5, .int x5), (6, .long x6)] [.long v29] h 0 0
        refine pm_lstore (lv' := [(11, .long v29), (9, .long v27), (8, .int s0), (0, .int x0), (1, .long x1), (3, .long x3), (5, .int x5), (6, .long x6)]) C dX8_multiply_114 (pm_nl X (by decide)) rfl ?_
        refine pm_ldc2 C dX8_multiply_116 cnX8_181 ?_
        refine pm_lstore (lv' := [(13, .long 134217727), (11, .long v29), (9, .long v27), (8, .int s0), (0, .int x0), (1, .long x1), (3, .long x3), (5, .int x5), (6, .long x6)]) C dX8_multiply_119 (pm_nl X (by decide)) rfl ?_
        refine pm_lload C dX8_multiply_121 rfl ?_
        refine pm_bipush (v := 27) C dX8_multiply_123 (by decide) ?_
        refine pm_lushr C dX8_multiply_125 ?_
        refine pm_lload C dX8_multiply_126 rfl ?_
        refine pm_lload C dX8_multiply_128 rfl ?_
        refine pm_land C dX8_multiply_130 ?_
        refine pm_lmul C dX8_multiply_131 ?_
        refine pm_lload C dX8_multiply_132 rfl ?_
        refine pm_lload C dX8_multiply_134 rfl ?_
        refine pm_land C dX8_multiply_136 ?_
        refine pm_lload C dX8_multiply_137 rfl ?_
        refine pm_bipush (v := 27) C dX8_multiply_139 (by decide) ?_
        refine pm_lushr C dX8_multiply_141 ?_
        refine pm_lmul C dX8_multiply_142 ?_
        refine pm_ladd C dX8_multiply_143 ?_
        obtain ⟨y31, e32, hf⟩ := pm_lt hf
        refine pm_topL e32 ?_
        refine pm_lstore (lv' := [(15, .long y31), (13, .long 134217727), (11, .long v29), (9, .long v27), (8, .int s0), (0, .int x0), (1, .long x1), (3, .long x3), (5, .int x5), (6, .long x6)]) C dX8_multiply_144 (pm_nl X (by decide)) rfl ?_
        refine pm_lload C dX8_multiply_146 rfl ?_
        refine pm_lload C dX8_multiply_148 rfl ?_
        refine pm_land C dX8_multiply_150 ?_
        refine pm_lload C dX8_multiply_151 rfl ?_
        refine pm_lload C dX8_multiply_153 rfl ?_
        refine pm_land C dX8_multiply_155 ?_
        refine pm_lmul C dX8_multiply_156 ?_
        refine pm_lload C dX8_multiply_157 rfl ?_
        refine pm_lload C dX8_multiply_159 rfl ?_
        refine pm_land C dX8_multiply_161 ?_
        refine pm_bipush (v := 27) C dX8_multiply_162 (by decide) ?_
        refine pm_lshl C dX8_multiply_164 ?_
        refine pm_ladd C dX8_multiply_165 ?_
        obtain ⟨y33, e34, hf⟩ := pm_lt hf
        refine pm_topL e34 ?_
        refine pm_lstore (lv' := [(17, .long y33), (15, .long y31), (13, .long 134217727), (11, .long v29), (9, .long v27), (8, .int s0), (0, .int x0), (1, .long x1), (3, .long x3), (5, .int x5), (6, .long x6)]) C dX8_multiply_166 (pm_nl X (by decide)) rfl ?_
        refine pm_lload C dX8_multiply_168 rfl ?_
        refine pm_bipush (v := 27) C dX8_multiply_170 (by decide) ?_
        refine pm_lushr C dX8_multiply_172 ?_
        refine pm_lload C dX8_multiply_173 rfl ?_
        refine pm_bipush (v := 27) C dX8_multiply_175 (by decide) ?_
        refine pm_lushr C dX8_multiply_177 ?_
        refine pm_lmul C dX8_multiply_178 ?_
        refine pm_lload C dX8_multiply_179 rfl ?_
        refine pm_bipush (v := 27) C dX8_multiply_181 (by decide) ?_
        refine pm_lushr C dX8_multiply_183 ?_
        refine pm_ladd C dX8_multiply_184 ?_
        refine pm_lload C dX8_multiply_185 rfl ?_
        refine pm_bipush (v := 54) C dX8_multiply_187 (by decide) ?_
        refine pm_lushr C dX8_multiply_189 ?_
        refine pm_ladd C dX8_multiply_190 ?_
        obtain ⟨y35, e36, hf⟩ := pm_lt hf
        refine pm_topL e36 ?_
        refine pm_lstore (lv' := [(19, .long y35), (17, .long y33), (15, .long y31), (13, .long 134217727), (11, .long v29), (9, .long v27), (8, .int s0), (0, .int x0), (1, .long x1), (3, .long x3), (5, .int x5), (6, .long x6)]) C dX8_multiply_191 (pm_nl X (by decide)) rfl ?_
        refine pm_lload C dX8_multiply_193 rfl ?_
        refine pm_ldc2 C dX8_multiply_195 cnX8_183 ?_
        refine pm_land C dX8_multiply_198 ?_
        obtain ⟨y37, e38, hf⟩ := pm_lt hf
        refine pm_topL e38 ?_
        refine pm_lstore (lv' := [(17, .long y37), (19, .long y35), (15, .long y31), (13, .long 134217727), (11, .long v29), (9, .long v27), (8, .int s0), (0, .int x0), (1, .long x1), (3, .long x3), (5, .int x5), (6, .long x6)]) C dX8_multiply_199 (pm_nl X (by decide)) rfl ?_
        refine pm_lload C dX8_multiply_201 rfl ?_
        refine pm_bipush (v := 10) C dX8_multiply_203 (by decide) ?_
        refine pm_lshl C dX8_multiply_205 ?_
        refine pm_lload C dX8_multiply_206 rfl ?_
        refine pm_bipush (v := 44) C dX8_multiply_208 (by decide) ?_
        refine pm_lushr C dX8_multiply_210 ?_
        refine pm_lor C dX8_multiply_211 ?_
        refine pm_lload C dX8_multiply_212 rfl ?_
        refine pm_ldc2 C dX8_multiply_214 cnX8_185 ?_
        refine pm_land C dX8_multiply_217 ?_
        refine pm_lconst (v := 0) C dX8_multiply_218 (by decide) ?_
        refine pm_lcmp C dX8_multiply_219 ?_
        refine pm_if_eq (tgt := 227) C dX8_multiply_220 (by decide) (fun c39 => ?_) (fun c39 => ?_)
        · have hf := pm_it hf ((pm_lg_eq _ _).mp c39)
          refine pm_iconst (v := 0) C dX8_multiply_227 (by decide) ?_
          refine pm_i2l C dX8_multiply_228 ?_
          refine pm_lor C dX8_multiply_229 ?_
          obtain ⟨y40, e41, hf⟩ := pm_lt hf
          refine pm_topL e41 ?_
          refine pm_lstore (lv' := [(21, .long y40), (17, .long y37), (19, .long y35), (15, .long y31), (13, .long 134217727), (11, .long v29), (9, .long v27), (8, .int s0), (0, .int x0), (1, .long x1), (3, .long x3), (5, .int x5), (6, .long x6)]) C dX8_multiply_230 (pm_nl X (by decide)) rfl ?_
          refine pm_iload_n C dX8_multiply_232 rfl rfl ?_
          refine pm_iload C dX8_multiply_233 rfl ?_
          refine pm_lload C dX8_multiply_235 rfl ?_
          refine pm_iload_n C dX8_multiply_237 rfl rfl ?_
          refine pm_lload_n C dX8_multiply_238 rfl rfl ?_
          obtain ⟨v42, e43, hf⟩ := pm_lt hf
          refine pm_callS (as := [.int x0, .long x1]) (st := [.long y40, .int x5, .int x0]) C X dX8_multiply_239 lnX8_158 myX8_scale stX8_scale ⟨by decide, by decide⟩ rfl rfl (Nat.le_of_ble_eq_true rfl) (Nat.le_refl _) (Nat.le_refl _) (ctX8_scale e43 ?_)
          show pm_G g 242 [(21, .long y40), (17, .long y37), (19, .long y35), (15, .long y31), (13, .long 134217727), (11, .long v29), (9, .long v27), (8, .int s0), (0, .int x0), (1, .long x1), (3, .long x3), (5, .int x5), (6, .long x6)] [.int v42, .long y40, .int x5, .int x0] h 0 0
          refine pm_iload_n C dX8_multiply_242 rfl rfl ?_
          refine pm_lload_n C dX8_multiply_243 rfl rfl ?_
          obtain ⟨v44, e45, hf⟩ := pm_lt hf
          refine pm_callS (as := [.int x0, .long x3]) (st := [.int v42, .long y40, .int x5, .int x0]) C X dX8_multiply_244 lnX8_158 myX8_scale stX8_scale ⟨by decide, by decide⟩ rfl rfl (Nat.le_of_ble_eq_true rfl) (Nat.le_refl _) (Nat.le_refl _) (ctX8_scale e45 ?_)
          show pm_G g 247 [(21, .long y40), (17, .long y37), (19, .long y35), (15, .long y31), (13, .long 134217727), (11, .long v29), (9, .long v27), (8, .int s0), (0, .int x0), (1, .long x1), (3, .long x3), (5, .int x5), (6, .long x6)] [.int v44, .int v42, .long y40, .int x5, .int x0] h 0 0
          refine pm_iadd C dX8_multiply_247 ?_
          refine pm_bipush (v := 44) C dX8_multiply_248 (by decide) ?_
          refine pm_iadd C dX8_multiply_250 ?_
          obtain ⟨v46, e47, hf⟩ := pm_lt hf
          refine pm_callS (as := [.int x0, .int x5, .long y40, .int ((v42 + v44) + 44)]) (st := []) C X dX8_multiply_251 lnX8_168 myX8_round stX8_round ⟨by decide, by decide⟩ rfl rfl (Nat.le_of_ble_eq_true rfl) (Nat.le_refl _) (Nat.le_refl _) (ctX8_round e47 ?_)
          show pm_G g 254 [(21, .long y40), (17, .long y37), (19, .long y35), (15, .long y31), (13, .long 134217727), (11, .long v29), (9, .long v27), (8, .int s0), (0, .int x0), (1, .long x1), (3, .long x3), (5, .int x5), (6, .long x6)] [.long v46] h 0 0
          subst hf
          exact pm_lret C X dX8_multiply_254 rfl (Nat.le_refl _) (Nat.le_refl _) q
        · have hf := pm_ie hf ((fun z => c39 ((pm_lg_eq _ _).mpr z)))
          refine pm_iconst (v := 1) C dX8_multiply_223 (by decide) ?_
          refine pm_goto (tgt := 228) C dX8_multiply_224 (by decide) ?_
          refine pm_i2l C dX8_multiply_228 ?_
          refine pm_lor C dX8_multiply_229 ?_
          obtain ⟨y48, e49, hf⟩ := pm_lt hf
          refine pm_topL e49 ?_
          refine pm_lstore (lv' := [(21, .long y48), (17, .long y37), (19, .long y35), (15, .long y31), (13, .long 134217727), (11, .long v29), (9, .long v27), (8, .int s0), (0, .int x0), (1, .long x1), (3, .long x3), (5, .int x5), (6, .long x6)]) C dX8_multiply_230 (pm_nl X (by decide)) rfl ?_
          refine pm_iload_n C dX8_multiply_232 rfl rfl ?_
          refine pm_iload C dX8_multiply_233 rfl ?_
          refine pm_lload C dX8_multiply_235 rfl ?_
          refine pm_iload_n C dX8_multiply_237 rfl rfl ?_
          refine pm_lload_n C dX8_multiply_238 rfl rfl ?_
          obtain ⟨v50, e51, hf⟩ := pm_lt hf
          refine pm_callS (as := [.int x0, .long x1]) (st := [.long y48, .int x5, .int x0]) C X dX8_multiply_239 lnX8_158 myX8_scale stX8_scale ⟨by decide, by decide⟩ rfl rfl (Nat.le_of_ble_eq_true rfl) (Nat.le_refl _) (Nat.le_refl _) (ctX8_scale e51 ?_)
          show pm_G g 242 [(21, .long y48), (17, .long y37), (19, .long y35), (15, .long y31), (13, .long 134217727), (11, .long v29), (9, .long v27), (8, .int s0), (0, .int x0), (1, .long x1), (3, .long x3), (5, .int x5), (6, .long x6)] [.int v50, .long y48, .int x5, .int x0] h 0 0
          refine pm_iload_n C dX8_multiply_242 rfl rfl ?_
          refine pm_lload_n C dX8_multiply_243 rfl rfl ?_
          obtain ⟨v52, e53, hf⟩ := pm_lt hf
          refine pm_callS (as := [.int x0, .long x3]) (st := [.int v50, .long y48, .int x5, .int x0]) C X dX8_multiply_244 lnX8_158 myX8_scale stX8_scale ⟨by decide, by decide⟩ rfl rfl (Nat.le_of_ble_eq_true rfl) (Nat.le_refl _) (Nat.le_refl _) (ctX8_scale e53 ?_)
          show pm_G g 247 [(21, .long y48), (17, .long y37), (19, .long y35), (15, .long y31), (13, .long 134217727), (11, .long v29), (9, .long v27), (8, .int s0), (0, .int x0), (1, .long x1), (3, .long x3), (5, .int x5), (6, .long x6)] [.int v52, .int v50, .long y48, .int x5, .int x0] h 0 0
          refine pm_iadd C dX8_multiply_247 ?_
          refine pm_bipush (v := 44) C dX8_multiply_248 (by decide) ?_
          refine pm_iadd C dX8_multiply_250 ?_
          obtain ⟨v54, e55, hf⟩ := pm_lt hf
          refine pm_callS (as := [.int x0, .int x5, .long y48, .int ((v50 + v52) + 44)]) (st := []) C X dX8_multiply_251 lnX8_168 myX8_round stX8_round ⟨by decide, by decide⟩ rfl rfl (Nat.le_of_ble_eq_true rfl) (Nat.le_refl _) (Nat.le_refl _) (ctX8_round e55 ?_)
          show pm_G g 254 [(21, .long y48), (17, .long y37), (19, .long y35), (15, .long y31), (13, .long 134217727), (11, .long v29), (9, .long v27), (8, .int s0), (0, .int x0), (1, .long x1), (3, .long x3), (5, .int x5), (6, .long x6)] [.long v54] h 0 0
          subst hf
          exact pm_lret C X dX8_multiply_254 rfl (Nat.le_refl _) (Nat.le_refl _) q
      · have hf := pm_ie hf c26
        refine pm_lload C dX8_multiply_99 rfl ?_
        subst hf
        exact pm_lret C X dX8_multiply_101 rfl (Nat.le_refl _) (Nat.le_refl _) q
    · have hf := pm_ie hf c25
      refine pm_iload C dX8_multiply_74 rfl ?_
      refine pm_if_eq (tgt := 86) C dX8_multiply_76 (by decide) (fun c56 => ?_) (fun c56 => ?_)
      · have hf := pm_it hf c56
        refine pm_lload C dX8_multiply_86 rfl ?_
        refine pm_iload_n C dX8_multiply_88 rfl rfl ?_
        obtain ⟨v57, e58, hf⟩ := pm_lt hf
        refine pm_callS (as := [.int x0]) (st := [.long x6]) C X dX8_multiply_89 lnX8_178 myX8_infinite stX8_infinite ⟨by decide, by decide⟩ rfl rfl (Nat.le_of_ble_eq_true rfl) (Nat.le_refl _) (Nat.le_refl _) (ctX8_infinite e58 ?_)
        show pm_G g 92 [(8, .int s0), (0, .int x0), (1, .long x1), (3, .long x3), (5, .int x5), (6, .long x6)] [.long v57, .long x6] h 0 0
        refine pm_lor C dX8_multiply_92 ?_
        subst hf
        exact pm_lret C X dX8_multiply_93 rfl (Nat.le_refl _) (Nat.le_refl _) q
      · have hf := pm_ie hf c56
        refine pm_iload_n C dX8_multiply_79 rfl rfl ?_
        obtain ⟨v59, e60, hf⟩ := pm_lt hf
        refine pm_callS (as := [.int x0]) (st := []) C X dX8_multiply_80 lnX8_136 myX8_none stX8_none ⟨by decide, by decide⟩ rfl rfl (Nat.le_of_ble_eq_true rfl) (Nat.le_refl _) (Nat.le_refl _) (ctX8_none e60 ?_)
        show pm_G g 83 [(8, .int s0), (0, .int x0), (1, .long x1), (3, .long x3), (5, .int x5), (6, .long x6)] [.long v59] h 0 0
        refine pm_goto (tgt := 93) C dX8_multiply_83 (by decide) ?_
        subst hf
        exact pm_lret C X dX8_multiply_93 rfl (Nat.le_refl _) (Nat.le_refl _) q
set_option maxHeartbeats 4000000 in
set_option maxRecDepth 100000 in
theorem bX8_multiply_51 {g : pm_Gm} {l : Launch} {G : pm_Gl} {Qr : Option Value → pm_H → Prop} (C : pm_C g cX8_multiply RX8) (X : pm_X g l G mX8_multiply 0 0 Qr) {h : pm_H} {x0 : Int32} {x1 : Int64} {x3 : Int64} {x5 : Int32} {x6 : Int64} {r : Int64} (hf : fX8_multiply_b51 x0 x1 x3 x5 x6 = r) (q : Qr (some (.long r)) h) : pm_G g 51 [(0, .int x0), (1, .long x1), (3, .long x3), (5, .int x5), (6, .long x6)] [] h 0 0 := by
  unfold fX8_multiply_b51 at hf
  refine pm_iconst (v := 1) C dX8_multiply_51 (by decide) ?_
  refine pm_goto (tgt := 56) C dX8_multiply_52 (by decide) ?_
  exact pm_sub [0, 1, 2, 3, 4] rfl (bX8_multiply_56 C X hf q)
set_option maxHeartbeats 4000000 in
set_option maxRecDepth 100000 in
theorem bX8_multiply_33 {g : pm_Gm} {l : Launch} {G : pm_Gl} {Qr : Option Value → pm_H → Prop} (C : pm_C g cX8_multiply RX8) (X : pm_X g l G mX8_multiply 0 0 Qr) {h : pm_H} {x0 : Int32} {x1 : Int64} {x3 : Int64} {x5 : Int32} {s0 : Int64} {r : Int64} (hf : fX8_multiply_b33 x0 x1 x3 x5 s0 = r) (q : Qr (some (.long r)) h) : pm_G g 33 [(0, .int x0), (1, .long x1), (3, .long x3), (5, .int x5)] [.long s0] h 0 0 := by
  unfold fX8_multiply_b33 at hf
  refine pm_lstore (lv' := [(6, .long s0), (0, .int x0), (1, .long x1), (3, .long x3), (5, .int x5)]) C dX8_multiply_33 (pm_nl X (by decide)) rfl ?_
  refine pm_iload_n C dX8_multiply_35 rfl rfl ?_
  refine pm_lload_n C dX8_multiply_36 rfl rfl ?_
  obtain ⟨v9, e10, hf⟩ := pm_lt hf
  refine pm_callS (as := [.int x0, .long x1]) (st := []) C X dX8_multiply_37 lnX8_78 myX8_isZero stX8_isZero ⟨by decide, by decide⟩ rfl rfl (Nat.le_of_ble_eq_true rfl) (Nat.le_refl _) (Nat.le_refl _) (ctX8_isZero e10 ?_)
  show pm_G g 40 [(6, .long s0), (0, .int x0), (1, .long x1), (3, .long x3), (5, .int x5)] [.int v9] h 0 0
  refine pm_if_ne (tgt := 51) C dX8_multiply_40 (by decide) (fun c11 => ?_) (fun c11 => ?_)
  · have hf := pm_ie hf c11
    exact pm_sub [1, 2, 3, 4, 0] rfl (bX8_multiply_51 C X hf q)
  · have hf := pm_it hf c11
    refine pm_iload_n C dX8_multiply_43 rfl rfl ?_
    refine pm_lload_n C dX8_multiply_44 rfl rfl ?_
    obtain ⟨v12, e13, hf⟩ := pm_lt hf
    refine pm_callS (as := [.int x0, .long x3]) (st := []) C X dX8_multiply_45 lnX8_78 myX8_isZero stX8_isZero ⟨by decide, by decide⟩ rfl rfl (Nat.le_of_ble_eq_true rfl) (Nat.le_refl _) (Nat.le_refl _) (ctX8_isZero e13 ?_)
    show pm_G g 48 [(6, .long s0), (0, .int x0), (1, .long x1), (3, .long x3), (5, .int x5)] [.int v12] h 0 0
    refine pm_if_eq (tgt := 55) C dX8_multiply_48 (by decide) (fun c14 => ?_) (fun c14 => ?_)
    · have hf := pm_it hf c14
      refine pm_iconst (v := 0) C dX8_multiply_55 (by decide) ?_
      exact pm_sub [1, 2, 3, 4, 0] rfl (bX8_multiply_56 C X hf q)
    · have hf := pm_ie hf c14
      exact pm_sub [1, 2, 3, 4, 0] rfl (bX8_multiply_51 C X hf q)
set_option maxHeartbeats 4000000 in
set_option maxRecDepth 100000 in
theorem bX8_multiply_18 {g : pm_Gm} {l : Launch} {G : pm_Gl} {Qr : Option Value → pm_H → Prop} (C : pm_C g cX8_multiply RX8) (X : pm_X g l G mX8_multiply 0 0 Qr) {h : pm_H} {x0 : Int32} {x1 : Int64} {x3 : Int64} {s0 : Int32} {r : Int64} (hf : fX8_multiply_b18 x0 x1 x3 s0 = r) (q : Qr (some (.long r)) h) : pm_G g 18 [(0, .int x0), (1, .long x1), (3, .long x3)] [.int s0] h 0 0 := by
  unfold fX8_multiply_b18 at hf
  refine pm_istore (lv' := [(5, .int s0), (0, .int x0), (1, .long x1), (3, .long x3)]) C dX8_multiply_18 (pm_nl X (by decide)) rfl ?_
  refine pm_iload C dX8_multiply_20 rfl ?_
  refine pm_if_eq (tgt := 32) C dX8_multiply_22 (by decide) (fun c6 => ?_) (fun c6 => ?_)
  · have hf := pm_it hf c6
    refine pm_lconst (v := 0) C dX8_multiply_32 (by decide) ?_
    exact pm_sub [1, 2, 3, 0] rfl (bX8_multiply_33 C X hf q)
  · have hf := pm_ie hf c6
    refine pm_iload_n C dX8_multiply_25 rfl rfl ?_
    obtain ⟨v7, e8, hf⟩ := pm_lt hf
    refine pm_callS (as := [.int x0]) (st := []) C X dX8_multiply_26 lnX8_132 myX8_sign stX8_sign ⟨by decide, by decide⟩ rfl rfl (Nat.le_of_ble_eq_true rfl) (Nat.le_refl _) (Nat.le_refl _) (ctX8_sign e8 ?_)
    show pm_G g 29 [(5, .int s0), (0, .int x0), (1, .long x1), (3, .long x3)] [.long v7] h 0 0
    refine pm_goto (tgt := 33) C dX8_multiply_29 (by decide) ?_
    exact pm_sub [1, 2, 3, 0] rfl (bX8_multiply_33 C X hf q)
set_option maxHeartbeats 4000000 in
set_option maxRecDepth 100000 in
theorem ctX8_multiply {l : Launch} {G : pm_Gl} {h : pm_H} {p1 : Int32} {p2 : Int64} {p3 : Int64} {r : Int64} {Qr : Option Value → pm_H → Prop} (hf : fX8_multiply p1 p2 p3 = r) (q : Qr (some (.long r)) h) : pm_Ct l G mX8_multiply [.int p1, .long p2, .long p3] h 0 0 Qr := by
  refine pm_body pnX8 (Nat.le_of_ble_eq_true rfl) (fun g C X => ?_)
  have C : pm_C g cX8_multiply RX8 := C
  show pm_G g 0 [(0, .int p1), (1, .long p2), (3, .long p3)] [] h 0 0
  unfold fX8_multiply at hf
  refine pm_iload_n C dX8_multiply_0 rfl rfl ?_
  refine pm_lload_n C dX8_multiply_1 rfl rfl ?_
  obtain ⟨v1, e2, hf⟩ := pm_lt hf
  refine pm_callS (as := [.int p1, .long p2]) (st := []) C X dX8_multiply_2 lnX8_162 myX8_isMinus stX8_isMinus ⟨by decide, by decide⟩ rfl rfl (Nat.le_of_ble_eq_true rfl) (Nat.le_refl _) (Nat.le_refl _) (ctX8_isMinus e2 ?_)
  show pm_G g 5 [(0, .int p1), (1, .long p2), (3, .long p3)] [.int v1] h 0 0
  refine pm_iload_n C dX8_multiply_5 rfl rfl ?_
  refine pm_lload_n C dX8_multiply_6 rfl rfl ?_
  obtain ⟨v3, e4, hf⟩ := pm_lt hf
  refine pm_callS (as := [.int p1, .long p3]) (st := [.int v1]) C X dX8_multiply_7 lnX8_162 myX8_isMinus stX8_isMinus ⟨by decide, by decide⟩ rfl rfl (Nat.le_of_ble_eq_true rfl) (Nat.le_refl _) (Nat.le_refl _) (ctX8_isMinus e4 ?_)
  show pm_G g 10 [(0, .int p1), (1, .long p2), (3, .long p3)] [.int v3, .int v1] h 0 0
  refine pm_icmp_eq (tgt := 17) C dX8_multiply_10 (by decide) (fun c5 => ?_) (fun c5 => ?_)
  · have hf := pm_it hf c5
    refine pm_iconst (v := 0) C dX8_multiply_17 (by decide) ?_
    exact pm_sub [0, 1, 2] rfl (bX8_multiply_18 C X hf q)
  · have hf := pm_ie hf c5
    refine pm_iconst (v := 1) C dX8_multiply_13 (by decide) ?_
    refine pm_goto (tgt := 18) C dX8_multiply_14 (by decide) ?_
    exact pm_sub [0, 1, 2] rfl (bX8_multiply_18 C X hf q)
