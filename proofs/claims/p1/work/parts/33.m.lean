theorem dX16_wholeOf_0 : decode cX16_wholeOf 0 = .ok (.aload_n 0, 1) := by decide +kernel
theorem dX16_wholeOf_1 : decode cX16_wholeOf 1 = .ok (.getfield 61, 3) := by decide +kernel
theorem dX16_wholeOf_4 : decode cX16_wholeOf 4 = .ok (.iload_n 2, 1) := by decide +kernel
theorem dX16_wholeOf_5 : decode cX16_wholeOf 5 = .ok (.lload_n 3, 1) := by decide +kernel
theorem dX16_wholeOf_6 : decode cX16_wholeOf 6 = .ok (.invokevirtual 868, 3) := by decide +kernel
theorem dX16_wholeOf_9 : decode cX16_wholeOf 9 = .ok (.aload_n 0, 1) := by decide +kernel
theorem dX16_wholeOf_10 : decode cX16_wholeOf 10 = .ok (.getfield 61, 3) := by decide +kernel
theorem dX16_wholeOf_13 : decode cX16_wholeOf 13 = .ok (.getfield 871, 3) := by decide +kernel
theorem dX16_wholeOf_16 : decode cX16_wholeOf 16 = .ok (.iconst 3, 1) := by decide +kernel
theorem dX16_wholeOf_17 : decode cX16_wholeOf 17 = .ok (.if_icmp .ne 8, 3) := by decide +kernel
theorem dX16_wholeOf_20 : decode cX16_wholeOf 20 = .ok (.iload_n 2, 1) := by decide +kernel
theorem dX16_wholeOf_21 : decode cX16_wholeOf 21 = .ok (.invokestatic 910, 3) := by decide +kernel
theorem dX16_wholeOf_24 : decode cX16_wholeOf 24 = .ok (.lreturn, 1) := by decide +kernel
theorem dX16_wholeOf_25 : decode cX16_wholeOf 25 = .ok (.aload_n 0, 1) := by decide +kernel
theorem dX16_wholeOf_26 : decode cX16_wholeOf 26 = .ok (.getfield 61, 3) := by decide +kernel
theorem dX16_wholeOf_29 : decode cX16_wholeOf 29 = .ok (.getfield 871, 3) := by decide +kernel
theorem dX16_wholeOf_32 : decode cX16_wholeOf 32 = .ok (.ifCond .ne 13, 3) := by decide +kernel
theorem dX16_wholeOf_35 : decode cX16_wholeOf 35 = .ok (.aload_n 0, 1) := by decide +kernel
theorem dX16_wholeOf_36 : decode cX16_wholeOf 36 = .ok (.getfield 61, 3) := by decide +kernel
theorem dX16_wholeOf_39 : decode cX16_wholeOf 39 = .ok (.getfield 913, 3) := by decide +kernel
theorem dX16_wholeOf_42 : decode cX16_wholeOf 42 = .ok (.ifCond .lt 5, 3) := by decide +kernel
theorem dX16_wholeOf_45 : decode cX16_wholeOf 45 = .ok (.lload_n 3, 1) := by decide +kernel
theorem dX16_wholeOf_46 : decode cX16_wholeOf 46 = .ok (.lreturn, 1) := by decide +kernel
theorem dX16_wholeOf_47 : decode cX16_wholeOf 47 = .ok (.aload_n 0, 1) := by decide +kernel
theorem dX16_wholeOf_48 : decode cX16_wholeOf 48 = .ok (.getfield 61, 3) := by decide +kernel
theorem dX16_wholeOf_51 : decode cX16_wholeOf 51 = .ok (.getfield 913, 3) := by decide +kernel
theorem dX16_wholeOf_54 : decode cX16_wholeOf 54 = .ok (.ineg, 1) := by decide +kernel
theorem dX16_wholeOf_55 : decode cX16_wholeOf 55 = .ok (.istore 5, 2) := by decide +kernel
theorem dX16_wholeOf_57 : decode cX16_wholeOf 57 = .ok (.iload 5, 2) := by decide +kernel
theorem dX16_wholeOf_59 : decode cX16_wholeOf 59 = .ok (.bipush 62, 2) := by decide +kernel
theorem dX16_wholeOf_61 : decode cX16_wholeOf 61 = .ok (.if_icmp .le 7, 3) := by decide +kernel
theorem dX16_wholeOf_64 : decode cX16_wholeOf 64 = .ok (.lconst 0, 1) := by decide +kernel
theorem dX16_wholeOf_65 : decode cX16_wholeOf 65 = .ok (.goto 13, 3) := by decide +kernel
theorem dX16_wholeOf_68 : decode cX16_wholeOf 68 = .ok (.aload_n 0, 1) := by decide +kernel
theorem dX16_wholeOf_69 : decode cX16_wholeOf 69 = .ok (.getfield 61, 3) := by decide +kernel
theorem dX16_wholeOf_72 : decode cX16_wholeOf 72 = .ok (.getfield 916, 3) := by decide +kernel
theorem dX16_wholeOf_75 : decode cX16_wholeOf 75 = .ok (.iload 5, 2) := by decide +kernel
theorem dX16_wholeOf_77 : decode cX16_wholeOf 77 = .ok (.lushr, 1) := by decide +kernel
theorem dX16_wholeOf_78 : decode cX16_wholeOf 78 = .ok (.lstore 6, 2) := by decide +kernel
theorem dX16_wholeOf_80 : decode cX16_wholeOf 80 = .ok (.iload 5, 2) := by decide +kernel
theorem dX16_wholeOf_82 : decode cX16_wholeOf 82 = .ok (.bipush 62, 2) := by decide +kernel
theorem dX16_wholeOf_84 : decode cX16_wholeOf 84 = .ok (.if_icmp .le 13, 3) := by decide +kernel
theorem dX16_wholeOf_87 : decode cX16_wholeOf 87 = .ok (.aload_n 0, 1) := by decide +kernel
theorem dX16_wholeOf_88 : decode cX16_wholeOf 88 = .ok (.getfield 61, 3) := by decide +kernel
theorem dX16_wholeOf_91 : decode cX16_wholeOf 91 = .ok (.getfield 916, 3) := by decide +kernel
theorem dX16_wholeOf_94 : decode cX16_wholeOf 94 = .ok (.goto 16, 3) := by decide +kernel
theorem dX16_wholeOf_97 : decode cX16_wholeOf 97 = .ok (.aload_n 0, 1) := by decide +kernel
theorem dX16_wholeOf_98 : decode cX16_wholeOf 98 = .ok (.getfield 61, 3) := by decide +kernel
theorem dX16_wholeOf_101 : decode cX16_wholeOf 101 = .ok (.getfield 916, 3) := by decide +kernel
theorem dX16_wholeOf_104 : decode cX16_wholeOf 104 = .ok (.lload 6, 2) := by decide +kernel
theorem dX16_wholeOf_106 : decode cX16_wholeOf 106 = .ok (.iload 5, 2) := by decide +kernel
theorem dX16_wholeOf_108 : decode cX16_wholeOf 108 = .ok (.lshl, 1) := by decide +kernel
theorem dX16_wholeOf_109 : decode cX16_wholeOf 109 = .ok (.lsub, 1) := by decide +kernel
theorem dX16_wholeOf_110 : decode cX16_wholeOf 110 = .ok (.lstore 8, 2) := by decide +kernel
theorem dX16_wholeOf_112 : decode cX16_wholeOf 112 = .ok (.iload 5, 2) := by decide +kernel
theorem dX16_wholeOf_114 : decode cX16_wholeOf 114 = .ok (.bipush 62, 2) := by decide +kernel
theorem dX16_wholeOf_116 : decode cX16_wholeOf 116 = .ok (.if_icmp .le 9, 3) := by decide +kernel
theorem dX16_wholeOf_119 : decode cX16_wholeOf 119 = .ok (.ldc2_w 919, 3) := by decide +kernel
theorem dX16_wholeOf_122 : decode cX16_wholeOf 122 = .ok (.goto 9, 3) := by decide +kernel
theorem dX16_wholeOf_125 : decode cX16_wholeOf 125 = .ok (.lconst 1, 1) := by decide +kernel
theorem dX16_wholeOf_126 : decode cX16_wholeOf 126 = .ok (.iload 5, 2) := by decide +kernel
theorem dX16_wholeOf_128 : decode cX16_wholeOf 128 = .ok (.iconst 1, 1) := by decide +kernel
theorem dX16_wholeOf_129 : decode cX16_wholeOf 129 = .ok (.isub, 1) := by decide +kernel
theorem dX16_wholeOf_130 : decode cX16_wholeOf 130 = .ok (.lshl, 1) := by decide +kernel
theorem dX16_wholeOf_131 : decode cX16_wholeOf 131 = .ok (.lstore 10, 2) := by decide +kernel
theorem dX16_wholeOf_133 : decode cX16_wholeOf 133 = .ok (.lload 8, 2) := by decide +kernel
theorem dX16_wholeOf_135 : decode cX16_wholeOf 135 = .ok (.lconst 0, 1) := by decide +kernel
theorem dX16_wholeOf_136 : decode cX16_wholeOf 136 = .ok (.lcmp, 1) := by decide +kernel
theorem dX16_wholeOf_137 : decode cX16_wholeOf 137 = .ok (.ifCond .eq 66, 3) := by decide +kernel
theorem dX16_wholeOf_140 : decode cX16_wholeOf 140 = .ok (.iload_n 1, 1) := by decide +kernel
theorem dX16_wholeOf_141 : decode cX16_wholeOf 141 = .ok (.ifCond .ne 13, 3) := by decide +kernel
theorem dX16_wholeOf_144 : decode cX16_wholeOf 144 = .ok (.aload_n 0, 1) := by decide +kernel
theorem dX16_wholeOf_145 : decode cX16_wholeOf 145 = .ok (.getfield 61, 3) := by decide +kernel
theorem dX16_wholeOf_148 : decode cX16_wholeOf 148 = .ok (.getfield 921, 3) := by decide +kernel
theorem dX16_wholeOf_151 : decode cX16_wholeOf 151 = .ok (.ifCond .eq 48, 3) := by decide +kernel
theorem dX16_wholeOf_154 : decode cX16_wholeOf 154 = .ok (.iload_n 1, 1) := by decide +kernel
theorem dX16_wholeOf_155 : decode cX16_wholeOf 155 = .ok (.iconst 1, 1) := by decide +kernel
theorem dX16_wholeOf_156 : decode cX16_wholeOf 156 = .ok (.if_icmp .ne 13, 3) := by decide +kernel
theorem dX16_wholeOf_159 : decode cX16_wholeOf 159 = .ok (.aload_n 0, 1) := by decide +kernel
theorem dX16_wholeOf_160 : decode cX16_wholeOf 160 = .ok (.getfield 61, 3) := by decide +kernel
theorem dX16_wholeOf_163 : decode cX16_wholeOf 163 = .ok (.getfield 921, 3) := by decide +kernel
theorem dX16_wholeOf_166 : decode cX16_wholeOf 166 = .ok (.ifCond .ne 33, 3) := by decide +kernel
theorem dX16_wholeOf_169 : decode cX16_wholeOf 169 = .ok (.iload_n 1, 1) := by decide +kernel
theorem dX16_wholeOf_170 : decode cX16_wholeOf 170 = .ok (.iconst 3, 1) := by decide +kernel
theorem dX16_wholeOf_171 : decode cX16_wholeOf 171 = .ok (.if_icmp .ne 32, 3) := by decide +kernel
theorem dX16_wholeOf_174 : decode cX16_wholeOf 174 = .ok (.lload 8, 2) := by decide +kernel
theorem dX16_wholeOf_176 : decode cX16_wholeOf 176 = .ok (.lload 10, 2) := by decide +kernel
theorem dX16_wholeOf_178 : decode cX16_wholeOf 178 = .ok (.lcmp, 1) := by decide +kernel
theorem dX16_wholeOf_179 : decode cX16_wholeOf 179 = .ok (.ifCond .gt 20, 3) := by decide +kernel
theorem dX16_wholeOf_182 : decode cX16_wholeOf 182 = .ok (.lload 8, 2) := by decide +kernel
theorem dX16_wholeOf_184 : decode cX16_wholeOf 184 = .ok (.lload 10, 2) := by decide +kernel
theorem dX16_wholeOf_186 : decode cX16_wholeOf 186 = .ok (.lcmp, 1) := by decide +kernel
theorem dX16_wholeOf_187 : decode cX16_wholeOf 187 = .ok (.ifCond .ne 16, 3) := by decide +kernel
theorem dX16_wholeOf_190 : decode cX16_wholeOf 190 = .ok (.lload 6, 2) := by decide +kernel
theorem dX16_wholeOf_192 : decode cX16_wholeOf 192 = .ok (.lconst 1, 1) := by decide +kernel
theorem dX16_wholeOf_193 : decode cX16_wholeOf 193 = .ok (.land, 1) := by decide +kernel
theorem dX16_wholeOf_194 : decode cX16_wholeOf 194 = .ok (.lconst 1, 1) := by decide +kernel
theorem dX16_wholeOf_195 : decode cX16_wholeOf 195 = .ok (.lcmp, 1) := by decide +kernel
theorem dX16_wholeOf_196 : decode cX16_wholeOf 196 = .ok (.ifCond .ne 7, 3) := by decide +kernel
theorem dX16_wholeOf_199 : decode cX16_wholeOf 199 = .ok (.iconst 1, 1) := by decide +kernel
theorem dX16_wholeOf_200 : decode cX16_wholeOf 200 = .ok (.goto 4, 3) := by decide +kernel
theorem dX16_wholeOf_203 : decode cX16_wholeOf 203 = .ok (.iconst 0, 1) := by decide +kernel
theorem dX16_wholeOf_204 : decode cX16_wholeOf 204 = .ok (.istore 12, 2) := by decide +kernel
theorem dX16_wholeOf_206 : decode cX16_wholeOf 206 = .ok (.iload 12, 2) := by decide +kernel
theorem dX16_wholeOf_208 : decode cX16_wholeOf 208 = .ok (.ifCond .eq 10, 3) := by decide +kernel
theorem dX16_wholeOf_211 : decode cX16_wholeOf 211 = .ok (.lload 6, 2) := by decide +kernel
theorem dX16_wholeOf_213 : decode cX16_wholeOf 213 = .ok (.lconst 1, 1) := by decide +kernel
theorem dX16_wholeOf_214 : decode cX16_wholeOf 214 = .ok (.ladd, 1) := by decide +kernel
theorem dX16_wholeOf_215 : decode cX16_wholeOf 215 = .ok (.goto 5, 3) := by decide +kernel
theorem dX16_wholeOf_218 : decode cX16_wholeOf 218 = .ok (.lload 6, 2) := by decide +kernel
theorem dX16_wholeOf_220 : decode cX16_wholeOf 220 = .ok (.lstore 6, 2) := by decide +kernel
theorem dX16_wholeOf_222 : decode cX16_wholeOf 222 = .ok (.lload 6, 2) := by decide +kernel
theorem dX16_wholeOf_224 : decode cX16_wholeOf 224 = .ok (.lconst 0, 1) := by decide +kernel
theorem dX16_wholeOf_225 : decode cX16_wholeOf 225 = .ok (.lcmp, 1) := by decide +kernel
theorem dX16_wholeOf_226 : decode cX16_wholeOf 226 = .ok (.ifCond .ne 18, 3) := by decide +kernel
theorem dX16_wholeOf_229 : decode cX16_wholeOf 229 = .ok (.iload_n 2, 1) := by decide +kernel
theorem dX16_wholeOf_230 : decode cX16_wholeOf 230 = .ok (.aload_n 0, 1) := by decide +kernel
theorem dX16_wholeOf_231 : decode cX16_wholeOf 231 = .ok (.getfield 61, 3) := by decide +kernel
theorem dX16_wholeOf_234 : decode cX16_wholeOf 234 = .ok (.getfield 921, 3) := by decide +kernel
theorem dX16_wholeOf_237 : decode cX16_wholeOf 237 = .ok (.lconst 0, 1) := by decide +kernel
theorem dX16_wholeOf_238 : decode cX16_wholeOf 238 = .ok (.invokestatic 882, 3) := by decide +kernel
theorem dX16_wholeOf_241 : decode cX16_wholeOf 241 = .ok (.goto 19, 3) := by decide +kernel
theorem dX16_wholeOf_244 : decode cX16_wholeOf 244 = .ok (.iload_n 2, 1) := by decide +kernel
theorem dX16_wholeOf_245 : decode cX16_wholeOf 245 = .ok (.aload_n 0, 1) := by decide +kernel
theorem dX16_wholeOf_246 : decode cX16_wholeOf 246 = .ok (.getfield 61, 3) := by decide +kernel
theorem dX16_wholeOf_249 : decode cX16_wholeOf 249 = .ok (.getfield 921, 3) := by decide +kernel
theorem dX16_wholeOf_252 : decode cX16_wholeOf 252 = .ok (.lconst 0, 1) := by decide +kernel
theorem dX16_wholeOf_253 : decode cX16_wholeOf 253 = .ok (.lload 6, 2) := by decide +kernel
theorem dX16_wholeOf_255 : decode cX16_wholeOf 255 = .ok (.iconst 0, 1) := by decide +kernel
theorem dX16_wholeOf_256 : decode cX16_wholeOf 256 = .ok (.iconst 0, 1) := by decide +kernel
theorem dX16_wholeOf_257 : decode cX16_wholeOf 257 = .ok (.invokestatic 924, 3) := by decide +kernel
theorem dX16_wholeOf_260 : decode cX16_wholeOf 260 = .ok (.lreturn, 1) := by decide +kernel
noncomputable def fX16_wholeOf_b204 (h : pm_H) (x0 : Nat) (x2 : Int32) (x6 : Int64) (s0 : Int32) : Option (Int64 × pm_H) := if s0 = 0 then (if x6 = 0 then (if pm_kd h x0 = 16 then (pm_R h x0 34).bind fun v51 => if pm_kd h v51 = 15 then pm_let (fX16_withSign x2 (pm_I h v51 0) 0) fun v54 => some ((v54, h)) else none else none) else (if pm_kd h x0 = 16 then (pm_R h x0 34).bind fun v45 => if pm_kd h v45 = 15 then (fX16_rounded x2 (pm_I h v45 0) 0 x6 0 0).bind fun v48 => some ((v48, h)) else none else none)) else (pm_let (x6 + 1) fun y56 => if y56 = 0 then (if pm_kd h x0 = 16 then (pm_R h x0 34).bind fun v66 => if pm_kd h v66 = 15 then pm_let (fX16_withSign x2 (pm_I h v66 0) 0) fun v69 => some ((v69, h)) else none else none) else (if pm_kd h x0 = 16 then (pm_R h x0 34).bind fun v60 => if pm_kd h v60 = 15 then (fX16_rounded x2 (pm_I h v60 0) 0 y56 0 0).bind fun v63 => some ((v63, h)) else none else none))
noncomputable def fX16_wholeOf_b203 (h : pm_H) (x0 : Nat) (x2 : Int32) (x6 : Int64) : Option (Int64 × pm_H) := fX16_wholeOf_b204 h x0 x2 x6 0
noncomputable def fX16_wholeOf_b199 (h : pm_H) (x0 : Nat) (x2 : Int32) (x6 : Int64) : Option (Int64 × pm_H) := fX16_wholeOf_b204 h x0 x2 x6 1
noncomputable def fX16_wholeOf_b169 (h : pm_H) (x0 : Nat) (x1 : Int32) (x2 : Int32) (x6 : Int64) (x8 : Int64) (x10 : Int64) : Option (Int64 × pm_H) := if x1 = 3 then (if x10 < x8 then (fX16_wholeOf_b199 h x0 x2 x6) else (if x8 = x10 then (if (x6 &&& 1) = 1 then (fX16_wholeOf_b199 h x0 x2 x6) else (fX16_wholeOf_b203 h x0 x2 x6)) else (fX16_wholeOf_b203 h x0 x2 x6))) else (fX16_wholeOf_b203 h x0 x2 x6)
noncomputable def fX16_wholeOf_b154 (h : pm_H) (x0 : Nat) (x1 : Int32) (x2 : Int32) (x6 : Int64) (x8 : Int64) (x10 : Int64) : Option (Int64 × pm_H) := if x1 = 1 then (if pm_kd h x0 = 16 then (pm_R h x0 34).bind fun v38 => if pm_kd h v38 = 15 then if (pm_I h v38 0) = 0 then (fX16_wholeOf_b169 h x0 x1 x2 x6 x8 x10) else (fX16_wholeOf_b199 h x0 x2 x6) else none else none) else (fX16_wholeOf_b169 h x0 x1 x2 x6 x8 x10)
noncomputable def fX16_wholeOf_b131 (h : pm_H) (x0 : Nat) (x1 : Int32) (x2 : Int32) (x6 : Int64) (x8 : Int64) (s0 : Int64) : Option (Int64 × pm_H) := if x8 = 0 then (fX16_wholeOf_b203 h x0 x2 x6) else (if x1 = 0 then (if pm_kd h x0 = 16 then (pm_R h x0 34).bind fun v32 => if pm_kd h v32 = 15 then if (pm_I h v32 0) = 0 then (fX16_wholeOf_b199 h x0 x2 x6) else (fX16_wholeOf_b154 h x0 x1 x2 x6 x8 s0) else none else none) else (fX16_wholeOf_b154 h x0 x1 x2 x6 x8 s0))
noncomputable def fX16_wholeOf_b110 (h : pm_H) (x0 : Nat) (x1 : Int32) (x2 : Int32) (x5 : Int32) (x6 : Int64) (s0 : Int64) : Option (Int64 × pm_H) := if x5 ≤ 62 then (fX16_wholeOf_b131 h x0 x1 x2 x6 s0 ((1 : Int64) <<< ((x5 - 1).toInt64 &&& 63))) else (fX16_wholeOf_b131 h x0 x1 x2 x6 s0 9223372036854775807)
noncomputable def fX16_wholeOf_b78 (h : pm_H) (x0 : Nat) (x1 : Int32) (x2 : Int32) (x5 : Int32) (s0 : Int64) : Option (Int64 × pm_H) := if x5 ≤ 62 then (if pm_kd h x0 = 16 then (pm_R h x0 34).bind fun v21 => if pm_kd h v21 = 15 then fX16_wholeOf_b110 h x0 x1 x2 x5 s0 ((pm_L h v21 2) - (s0 <<< (x5.toInt64 &&& 63))) else none else none) else (if pm_kd h x0 = 16 then (pm_R h x0 34).bind fun v25 => if pm_kd h v25 = 15 then fX16_wholeOf_b110 h x0 x1 x2 x5 s0 (pm_L h v25 2) else none else none)
noncomputable def fX16_wholeOf (h : pm_H) (a0 : Nat) (p1 : Int32) (p2 : Int32) (p3 : Int64) : Option (Int64 × pm_H) := if pm_kd h a0 = 16 then (pm_R h a0 34).bind fun v2 => if pm_kd h v2 = 15 then (fX15_read h v2 p2 p3).bind fun v5 => if pm_kd v5 a0 = 16 then (pm_R v5 a0 34).bind fun v8 => if pm_kd v5 v8 = 15 then if (pm_I v5 v8 1) = 3 then (pm_let (fX16_noneOf p2) fun v17 => some ((v17, v5))) else (if (pm_I v5 v8 1) = 0 then (if (pm_I v5 v8 3) < 0 then (pm_let (-(pm_I v5 v8 3)) fun y14 => if y14 ≤ 62 then (fX16_wholeOf_b78 v5 a0 p1 p2 y14 (((pm_L v5 v8 2).toUInt64 >>> (y14.toInt64.toUInt64 &&& Int64.toUInt64 63)).toInt64)) else (fX16_wholeOf_b78 v5 a0 p1 p2 y14 0)) else (some ((p3, v5)))) else (some ((p3, v5)))) else none else none else none else none
set_option maxHeartbeats 4000000 in
set_option maxRecDepth 100000 in
theorem bX16_wholeOf_204 {g : pm_Gm} {l : Launch} {G : pm_Gl} {Qr : Option Value → pm_H → Prop} (C : pm_C g cX16_wholeOf RX16) (X : pm_X g l G mX16_wholeOf 0 0 Qr) {h : pm_H} {x0 : Nat} {x2 : Int32} {x6 : Int64} {s0 : Int32} {r : (Int64 × pm_H)} (hf : fX16_wholeOf_b204 h x0 x2 x6 s0 = some r) (q : Qr (some (.long r.1)) r.2) : pm_G g 204 [(0, .ref x0), (2, .int x2), (6, .long x6)] [.int s0] h 0 0 := by
  unfold fX16_wholeOf_b204 at hf
  refine pm_istore (lv' := [(12, .int s0), (0, .ref x0), (2, .int x2), (6, .long x6)]) C dX16_wholeOf_204 (pm_nl X (by decide)) rfl ?_
  refine pm_iload C dX16_wholeOf_206 rfl ?_
  refine pm_if_eq (tgt := 218) C dX16_wholeOf_208 (by decide) (fun c42 => ?_) (fun c42 => ?_)
  · have hf := pm_it hf c42
    refine pm_lload C dX16_wholeOf_218 rfl ?_
    refine pm_lstore (lv' := [(6, .long x6), (12, .int s0), (0, .ref x0), (2, .int x2)]) C dX16_wholeOf_220 (pm_nl X (by decide)) rfl ?_
    refine pm_lload C dX16_wholeOf_222 rfl ?_
    refine pm_lconst (v := 0) C dX16_wholeOf_224 (by decide) ?_
    refine pm_lcmp C dX16_wholeOf_225 ?_
    refine pm_if_ne (tgt := 244) C dX16_wholeOf_226 (by decide) (fun c43 => ?_) (fun c43 => ?_)
    · have hf := pm_ie hf ((fun z => c43 ((pm_lg_eq _ _).mpr z)))
      refine pm_iload_n C dX16_wholeOf_244 rfl rfl ?_
      refine pm_aload_n C dX16_wholeOf_245 rfl rfl ?_
      obtain ⟨k44, hf⟩ := pm_if hf
      obtain ⟨v45, e46, hf⟩ := pm_bd hf
      refine pm_getR C dX16_wholeOf_246 flX16_61 rfl k44 e46 ?_
      obtain ⟨k47, hf⟩ := pm_if hf
      refine pm_getI C dX16_wholeOf_249 flX16_921 rfl k47 rfl ?_
      refine pm_lconst (v := 0) C dX16_wholeOf_252 (by decide) ?_
      refine pm_lload C dX16_wholeOf_253 rfl ?_
      refine pm_iconst (v := 0) C dX16_wholeOf_255 (by decide) ?_
      refine pm_iconst (v := 0) C dX16_wholeOf_256 (by decide) ?_
      obtain ⟨v48, e49, hf⟩ := pm_bd hf
      refine pm_callS (as := [.int x2, .int (pm_I h v45 0), .long 0, .long x6, .int 0, .int 0]) (st := []) C X dX16_wholeOf_257 lnX16_924 myX16_rounded stX16_rounded ⟨by decide, by decide⟩ rfl rfl (Nat.le_of_ble_eq_true rfl) (Nat.le_refl _) (Nat.le_refl _) (ctX16_rounded e49 ?_)
      show pm_G g 260 [(6, .long x6), (12, .int s0), (0, .ref x0), (2, .int x2)] [.long v48] h 0 0
      cases hf
      exact pm_lret C X dX16_wholeOf_260 rfl (Nat.le_refl _) (Nat.le_refl _) q
    · have hf := pm_it hf ((pm_lg_eq _ _).mp c43)
      refine pm_iload_n C dX16_wholeOf_229 rfl rfl ?_
      refine pm_aload_n C dX16_wholeOf_230 rfl rfl ?_
      obtain ⟨k50, hf⟩ := pm_if hf
      obtain ⟨v51, e52, hf⟩ := pm_bd hf
      refine pm_getR C dX16_wholeOf_231 flX16_61 rfl k50 e52 ?_
      obtain ⟨k53, hf⟩ := pm_if hf
      refine pm_getI C dX16_wholeOf_234 flX16_921 rfl k53 rfl ?_
      refine pm_lconst (v := 0) C dX16_wholeOf_237 (by decide) ?_
      obtain ⟨v54, e55, hf⟩ := pm_lt hf
      refine pm_callS (as := [.int x2, .int (pm_I h v51 0), .long 0]) (st := []) C X dX16_wholeOf_238 lnX16_882 myX16_withSign stX16_withSign ⟨by decide, by decide⟩ rfl rfl (Nat.le_of_ble_eq_true rfl) (Nat.le_refl _) (Nat.le_refl _) (ctX16_withSign e55 ?_)
      show pm_G g 241 [(6, .long x6), (12, .int s0), (0, .ref x0), (2, .int x2)] [.long v54] h 0 0
      refine pm_goto (tgt := 260) C dX16_wholeOf_241 (by decide) ?_
      cases hf
      exact pm_lret C X dX16_wholeOf_260 rfl (Nat.le_refl _) (Nat.le_refl _) q
  · have hf := pm_ie hf c42
    refine pm_lload C dX16_wholeOf_211 rfl ?_
    refine pm_lconst (v := 1) C dX16_wholeOf_213 (by decide) ?_
    refine pm_ladd C dX16_wholeOf_214 ?_
    refine pm_goto (tgt := 220) C dX16_wholeOf_215 (by decide) ?_
    obtain ⟨y56, e57, hf⟩ := pm_lt hf
    refine pm_topL e57 ?_
    refine pm_lstore (lv' := [(6, .long y56), (12, .int s0), (0, .ref x0), (2, .int x2)]) C dX16_wholeOf_220 (pm_nl X (by decide)) rfl ?_
    refine pm_lload C dX16_wholeOf_222 rfl ?_
    refine pm_lconst (v := 0) C dX16_wholeOf_224 (by decide) ?_
    refine pm_lcmp C dX16_wholeOf_225 ?_
    refine pm_if_ne (tgt := 244) C dX16_wholeOf_226 (by decide) (fun c58 => ?_) (fun c58 => ?_)
    · have hf := pm_ie hf ((fun z => c58 ((pm_lg_eq _ _).mpr z)))
      refine pm_iload_n C dX16_wholeOf_244 rfl rfl ?_
      refine pm_aload_n C dX16_wholeOf_245 rfl rfl ?_
      obtain ⟨k59, hf⟩ := pm_if hf
      obtain ⟨v60, e61, hf⟩ := pm_bd hf
      refine pm_getR C dX16_wholeOf_246 flX16_61 rfl k59 e61 ?_
      obtain ⟨k62, hf⟩ := pm_if hf
      refine pm_getI C dX16_wholeOf_249 flX16_921 rfl k62 rfl ?_
      refine pm_lconst (v := 0) C dX16_wholeOf_252 (by decide) ?_
      refine pm_lload C dX16_wholeOf_253 rfl ?_
      refine pm_iconst (v := 0) C dX16_wholeOf_255 (by decide) ?_
      refine pm_iconst (v := 0) C dX16_wholeOf_256 (by decide) ?_
      obtain ⟨v63, e64, hf⟩ := pm_bd hf
      refine pm_callS (as := [.int x2, .int (pm_I h v60 0), .long 0, .long y56, .int 0, .int 0]) (st := []) C X dX16_wholeOf_257 lnX16_924 myX16_rounded stX16_rounded ⟨by decide, by decide⟩ rfl rfl (Nat.le_of_ble_eq_true rfl) (Nat.le_refl _) (Nat.le_refl _) (ctX16_rounded e64 ?_)
      show pm_G g 260 [(6, .long y56), (12, .int s0), (0, .ref x0), (2, .int x2)] [.long v63] h 0 0
      cases hf
      exact pm_lret C X dX16_wholeOf_260 rfl (Nat.le_refl _) (Nat.le_refl _) q
    · have hf := pm_it hf ((pm_lg_eq _ _).mp c58)
      refine pm_iload_n C dX16_wholeOf_229 rfl rfl ?_
      refine pm_aload_n C dX16_wholeOf_230 rfl rfl ?_
      obtain ⟨k65, hf⟩ := pm_if hf
      obtain ⟨v66, e67, hf⟩ := pm_bd hf
      refine pm_getR C dX16_wholeOf_231 flX16_61 rfl k65 e67 ?_
      obtain ⟨k68, hf⟩ := pm_if hf
      refine pm_getI C dX16_wholeOf_234 flX16_921 rfl k68 rfl ?_
      refine pm_lconst (v := 0) C dX16_wholeOf_237 (by decide) ?_
      obtain ⟨v69, e70, hf⟩ := pm_lt hf
      refine pm_callS (as := [.int x2, .int (pm_I h v66 0), .long 0]) (st := []) C X dX16_wholeOf_238 lnX16_882 myX16_withSign stX16_withSign ⟨by decide, by decide⟩ rfl rfl (Nat.le_of_ble_eq_true rfl) (Nat.le_refl _) (Nat.le_refl _) (ctX16_withSign e70 ?_)
      show pm_G g 241 [(6, .long y56), (12, .int s0), (0, .ref x0), (2, .int x2)] [.long v69] h 0 0
      refine pm_goto (tgt := 260) C dX16_wholeOf_241 (by decide) ?_
      cases hf
      exact pm_lret C X dX16_wholeOf_260 rfl (Nat.le_refl _) (Nat.le_refl _) q
set_option maxHeartbeats 4000000 in
set_option maxRecDepth 100000 in
theorem bX16_wholeOf_203 {g : pm_Gm} {l : Launch} {G : pm_Gl} {Qr : Option Value → pm_H → Prop} (C : pm_C g cX16_wholeOf RX16) (X : pm_X g l G mX16_wholeOf 0 0 Qr) {h : pm_H} {x0 : Nat} {x2 : Int32} {x6 : Int64} {r : (Int64 × pm_H)} (hf : fX16_wholeOf_b203 h x0 x2 x6 = some r) (q : Qr (some (.long r.1)) r.2) : pm_G g 203 [(0, .ref x0), (2, .int x2), (6, .long x6)] [] h 0 0 := by
  unfold fX16_wholeOf_b203 at hf
  refine pm_iconst (v := 0) C dX16_wholeOf_203 (by decide) ?_
  exact pm_sub [0, 1, 2] rfl (bX16_wholeOf_204 C X hf q)
set_option maxHeartbeats 4000000 in
set_option maxRecDepth 100000 in
theorem bX16_wholeOf_199 {g : pm_Gm} {l : Launch} {G : pm_Gl} {Qr : Option Value → pm_H → Prop} (C : pm_C g cX16_wholeOf RX16) (X : pm_X g l G mX16_wholeOf 0 0 Qr) {h : pm_H} {x0 : Nat} {x2 : Int32} {x6 : Int64} {r : (Int64 × pm_H)} (hf : fX16_wholeOf_b199 h x0 x2 x6 = some r) (q : Qr (some (.long r.1)) r.2) : pm_G g 199 [(0, .ref x0), (2, .int x2), (6, .long x6)] [] h 0 0 := by
  unfold fX16_wholeOf_b199 at hf
  refine pm_iconst (v := 1) C dX16_wholeOf_199 (by decide) ?_
  refine pm_goto (tgt := 204) C dX16_wholeOf_200 (by decide) ?_
  exact pm_sub [0, 1, 2] rfl (bX16_wholeOf_204 C X hf q)
set_option maxHeartbeats 4000000 in
set_option maxRecDepth 100000 in
theorem bX16_wholeOf_169 {g : pm_Gm} {l : Launch} {G : pm_Gl} {Qr : Option Value → pm_H → Prop} (C : pm_C g cX16_wholeOf RX16) (X : pm_X g l G mX16_wholeOf 0 0 Qr) {h : pm_H} {x0 : Nat} {x1 : Int32} {x2 : Int32} {x6 : Int64} {x8 : Int64} {x10 : Int64} {r : (Int64 × pm_H)} (hf : fX16_wholeOf_b169 h x0 x1 x2 x6 x8 x10 = some r) (q : Qr (some (.long r.1)) r.2) : pm_G g 169 [(0, .ref x0), (1, .int x1), (2, .int x2), (6, .long x6), (8, .long x8), (10, .long x10)] [] h 0 0 := by
  unfold fX16_wholeOf_b169 at hf
  refine pm_iload_n C dX16_wholeOf_169 rfl rfl ?_
  refine pm_iconst (v := 3) C dX16_wholeOf_170 (by decide) ?_
  refine pm_icmp_ne (tgt := 203) C dX16_wholeOf_171 (by decide) (fun c71 => ?_) (fun c71 => ?_)
  · have hf := pm_ie hf c71
    exact pm_sub [0, 2, 3] rfl (bX16_wholeOf_203 C X hf q)
  · have hf := pm_it hf c71
    refine pm_lload C dX16_wholeOf_174 rfl ?_
    refine pm_lload C dX16_wholeOf_176 rfl ?_
    refine pm_lcmp C dX16_wholeOf_178 ?_
    refine pm_if_gt (tgt := 199) C dX16_wholeOf_179 (by decide) (fun c72 => ?_) (fun c72 => ?_)
    · have hf := pm_it hf ((pm_lg_gt _ _).mp c72)
      exact pm_sub [0, 2, 3] rfl (bX16_wholeOf_199 C X hf q)
    · have hf := pm_ie hf ((fun z => c72 ((pm_lg_gt _ _).mpr z)))
      refine pm_lload C dX16_wholeOf_182 rfl ?_
      refine pm_lload C dX16_wholeOf_184 rfl ?_
      refine pm_lcmp C dX16_wholeOf_186 ?_
      refine pm_if_ne (tgt := 203) C dX16_wholeOf_187 (by decide) (fun c73 => ?_) (fun c73 => ?_)
      · have hf := pm_ie hf ((fun z => c73 ((pm_lg_eq _ _).mpr z)))
        exact pm_sub [0, 2, 3] rfl (bX16_wholeOf_203 C X hf q)
      · have hf := pm_it hf ((pm_lg_eq _ _).mp c73)
        refine pm_lload C dX16_wholeOf_190 rfl ?_
        refine pm_lconst (v := 1) C dX16_wholeOf_192 (by decide) ?_
        refine pm_land C dX16_wholeOf_193 ?_
        refine pm_lconst (v := 1) C dX16_wholeOf_194 (by decide) ?_
        refine pm_lcmp C dX16_wholeOf_195 ?_
        refine pm_if_ne (tgt := 203) C dX16_wholeOf_196 (by decide) (fun c74 => ?_) (fun c74 => ?_)
        · have hf := pm_ie hf ((fun z => c74 ((pm_lg_eq _ _).mpr z)))
          exact pm_sub [0, 2, 3] rfl (bX16_wholeOf_203 C X hf q)
        · have hf := pm_it hf ((pm_lg_eq _ _).mp c74)
          exact pm_sub [0, 2, 3] rfl (bX16_wholeOf_199 C X hf q)
set_option maxHeartbeats 4000000 in
set_option maxRecDepth 100000 in
theorem bX16_wholeOf_154 {g : pm_Gm} {l : Launch} {G : pm_Gl} {Qr : Option Value → pm_H → Prop} (C : pm_C g cX16_wholeOf RX16) (X : pm_X g l G mX16_wholeOf 0 0 Qr) {h : pm_H} {x0 : Nat} {x1 : Int32} {x2 : Int32} {x6 : Int64} {x8 : Int64} {x10 : Int64} {r : (Int64 × pm_H)} (hf : fX16_wholeOf_b154 h x0 x1 x2 x6 x8 x10 = some r) (q : Qr (some (.long r.1)) r.2) : pm_G g 154 [(0, .ref x0), (1, .int x1), (2, .int x2), (6, .long x6), (8, .long x8), (10, .long x10)] [] h 0 0 := by
  unfold fX16_wholeOf_b154 at hf
  refine pm_iload_n C dX16_wholeOf_154 rfl rfl ?_
  refine pm_iconst (v := 1) C dX16_wholeOf_155 (by decide) ?_
  refine pm_icmp_ne (tgt := 169) C dX16_wholeOf_156 (by decide) (fun c36 => ?_) (fun c36 => ?_)
  · have hf := pm_ie hf c36
    exact pm_sub [0, 1, 2, 3, 4, 5] rfl (bX16_wholeOf_169 C X hf q)
  · have hf := pm_it hf c36
    refine pm_aload_n C dX16_wholeOf_159 rfl rfl ?_
    obtain ⟨k37, hf⟩ := pm_if hf
    obtain ⟨v38, e39, hf⟩ := pm_bd hf
    refine pm_getR C dX16_wholeOf_160 flX16_61 rfl k37 e39 ?_
    obtain ⟨k40, hf⟩ := pm_if hf
    refine pm_getI C dX16_wholeOf_163 flX16_921 rfl k40 rfl ?_
    refine pm_if_ne (tgt := 199) C dX16_wholeOf_166 (by decide) (fun c41 => ?_) (fun c41 => ?_)
    · have hf := pm_ie hf c41
      exact pm_sub [0, 2, 3] rfl (bX16_wholeOf_199 C X hf q)
    · have hf := pm_it hf c41
      exact pm_sub [0, 1, 2, 3, 4, 5] rfl (bX16_wholeOf_169 C X hf q)
set_option maxHeartbeats 4000000 in
set_option maxRecDepth 100000 in
theorem bX16_wholeOf_131 {g : pm_Gm} {l : Launch} {G : pm_Gl} {Qr : Option Value → pm_H → Prop} (C : pm_C g cX16_wholeOf RX16) (X : pm_X g l G mX16_wholeOf 0 0 Qr) {h : pm_H} {x0 : Nat} {x1 : Int32} {x2 : Int32} {x6 : Int64} {x8 : Int64} {s0 : Int64} {r : (Int64 × pm_H)} (hf : fX16_wholeOf_b131 h x0 x1 x2 x6 x8 s0 = some r) (q : Qr (some (.long r.1)) r.2) : pm_G g 131 [(0, .ref x0), (1, .int x1), (2, .int x2), (6, .long x6), (8, .long x8)] [.long s0] h 0 0 := by
  unfold fX16_wholeOf_b131 at hf
  refine pm_lstore (lv' := [(10, .long s0), (0, .ref x0), (1, .int x1), (2, .int x2), (6, .long x6), (8, .long x8)]) C dX16_wholeOf_131 (pm_nl X (by decide)) rfl ?_
  refine pm_lload C dX16_wholeOf_133 rfl ?_
  refine pm_lconst (v := 0) C dX16_wholeOf_135 (by decide) ?_
  refine pm_lcmp C dX16_wholeOf_136 ?_
  refine pm_if_eq (tgt := 203) C dX16_wholeOf_137 (by decide) (fun c29 => ?_) (fun c29 => ?_)
  · have hf := pm_it hf ((pm_lg_eq _ _).mp c29)
    exact pm_sub [1, 3, 4] rfl (bX16_wholeOf_203 C X hf q)
  · have hf := pm_ie hf ((fun z => c29 ((pm_lg_eq _ _).mpr z)))
    refine pm_iload_n C dX16_wholeOf_140 rfl rfl ?_
    refine pm_if_ne (tgt := 154) C dX16_wholeOf_141 (by decide) (fun c30 => ?_) (fun c30 => ?_)
    · have hf := pm_ie hf c30
      exact pm_sub [1, 2, 3, 4, 5, 0] rfl (bX16_wholeOf_154 C X hf q)
    · have hf := pm_it hf c30
      refine pm_aload_n C dX16_wholeOf_144 rfl rfl ?_
      obtain ⟨k31, hf⟩ := pm_if hf
      obtain ⟨v32, e33, hf⟩ := pm_bd hf
      refine pm_getR C dX16_wholeOf_145 flX16_61 rfl k31 e33 ?_
      obtain ⟨k34, hf⟩ := pm_if hf
      refine pm_getI C dX16_wholeOf_148 flX16_921 rfl k34 rfl ?_
      refine pm_if_eq (tgt := 199) C dX16_wholeOf_151 (by decide) (fun c35 => ?_) (fun c35 => ?_)
      · have hf := pm_it hf c35
        exact pm_sub [1, 3, 4] rfl (bX16_wholeOf_199 C X hf q)
      · have hf := pm_ie hf c35
        exact pm_sub [1, 2, 3, 4, 5, 0] rfl (bX16_wholeOf_154 C X hf q)
set_option maxHeartbeats 4000000 in
set_option maxRecDepth 100000 in
theorem bX16_wholeOf_110 {g : pm_Gm} {l : Launch} {G : pm_Gl} {Qr : Option Value → pm_H → Prop} (C : pm_C g cX16_wholeOf RX16) (X : pm_X g l G mX16_wholeOf 0 0 Qr) {h : pm_H} {x0 : Nat} {x1 : Int32} {x2 : Int32} {x5 : Int32} {x6 : Int64} {s0 : Int64} {r : (Int64 × pm_H)} (hf : fX16_wholeOf_b110 h x0 x1 x2 x5 x6 s0 = some r) (q : Qr (some (.long r.1)) r.2) : pm_G g 110 [(0, .ref x0), (1, .int x1), (2, .int x2), (5, .int x5), (6, .long x6)] [.long s0] h 0 0 := by
  unfold fX16_wholeOf_b110 at hf
  refine pm_lstore (lv' := [(8, .long s0), (0, .ref x0), (1, .int x1), (2, .int x2), (5, .int x5), (6, .long x6)]) C dX16_wholeOf_110 (pm_nl X (by decide)) rfl ?_
  refine pm_iload C dX16_wholeOf_112 rfl ?_
  refine pm_bipush (v := 62) C dX16_wholeOf_114 (by decide) ?_
  refine pm_icmp_le (tgt := 125) C dX16_wholeOf_116 (by decide) (fun c28 => ?_) (fun c28 => ?_)
  · have hf := pm_it hf c28
    refine pm_lconst (v := 1) C dX16_wholeOf_125 (by decide) ?_
    refine pm_iload C dX16_wholeOf_126 rfl ?_
    refine pm_iconst (v := 1) C dX16_wholeOf_128 (by decide) ?_
    refine pm_isub C dX16_wholeOf_129 ?_
    refine pm_lshl C dX16_wholeOf_130 ?_
    exact pm_sub [1, 2, 3, 5, 0] rfl (bX16_wholeOf_131 C X hf q)
  · have hf := pm_ie hf c28
    refine pm_ldc2 C dX16_wholeOf_119 cnX16_919 ?_
    refine pm_goto (tgt := 131) C dX16_wholeOf_122 (by decide) ?_
    exact pm_sub [1, 2, 3, 5, 0] rfl (bX16_wholeOf_131 C X hf q)
set_option maxHeartbeats 4000000 in
set_option maxRecDepth 100000 in
theorem bX16_wholeOf_78 {g : pm_Gm} {l : Launch} {G : pm_Gl} {Qr : Option Value → pm_H → Prop} (C : pm_C g cX16_wholeOf RX16) (X : pm_X g l G mX16_wholeOf 0 0 Qr) {h : pm_H} {x0 : Nat} {x1 : Int32} {x2 : Int32} {x5 : Int32} {s0 : Int64} {r : (Int64 × pm_H)} (hf : fX16_wholeOf_b78 h x0 x1 x2 x5 s0 = some r) (q : Qr (some (.long r.1)) r.2) : pm_G g 78 [(0, .ref x0), (1, .int x1), (2, .int x2), (5, .int x5)] [.long s0] h 0 0 := by
  unfold fX16_wholeOf_b78 at hf
  refine pm_lstore (lv' := [(6, .long s0), (0, .ref x0), (1, .int x1), (2, .int x2), (5, .int x5)]) C dX16_wholeOf_78 (pm_nl X (by decide)) rfl ?_
  refine pm_iload C dX16_wholeOf_80 rfl ?_
  refine pm_bipush (v := 62) C dX16_wholeOf_82 (by decide) ?_
  refine pm_icmp_le (tgt := 97) C dX16_wholeOf_84 (by decide) (fun c19 => ?_) (fun c19 => ?_)
  · have hf := pm_it hf c19
    refine pm_aload_n C dX16_wholeOf_97 rfl rfl ?_
    obtain ⟨k20, hf⟩ := pm_if hf
    obtain ⟨v21, e22, hf⟩ := pm_bd hf
    refine pm_getR C dX16_wholeOf_98 flX16_61 rfl k20 e22 ?_
    obtain ⟨k23, hf⟩ := pm_if hf
    refine pm_getL C dX16_wholeOf_101 flX16_916 rfl k23 rfl ?_
    refine pm_lload C dX16_wholeOf_104 rfl ?_
    refine pm_iload C dX16_wholeOf_106 rfl ?_
    refine pm_lshl C dX16_wholeOf_108 ?_
    refine pm_lsub C dX16_wholeOf_109 ?_
    exact pm_sub [1, 2, 3, 4, 0] rfl (bX16_wholeOf_110 C X hf q)
  · have hf := pm_ie hf c19
    refine pm_aload_n C dX16_wholeOf_87 rfl rfl ?_
    obtain ⟨k24, hf⟩ := pm_if hf
    obtain ⟨v25, e26, hf⟩ := pm_bd hf
    refine pm_getR C dX16_wholeOf_88 flX16_61 rfl k24 e26 ?_
    obtain ⟨k27, hf⟩ := pm_if hf
    refine pm_getL C dX16_wholeOf_91 flX16_916 rfl k27 rfl ?_
    refine pm_goto (tgt := 110) C dX16_wholeOf_94 (by decide) ?_
    exact pm_sub [1, 2, 3, 4, 0] rfl (bX16_wholeOf_110 C X hf q)
set_option maxHeartbeats 4000000 in
set_option maxRecDepth 100000 in
theorem ctX16_wholeOf {l : Launch} {G : pm_Gl} {h : pm_H} {a0 : Nat} {p1 : Int32} {p2 : Int32} {p3 : Int64} {r : (Int64 × pm_H)} {Qr : Option Value → pm_H → Prop} (hf : fX16_wholeOf h a0 p1 p2 p3 = some r) (q : Qr (some (.long r.1)) r.2) : pm_Ct l G mX16_wholeOf [.ref a0, .int p1, .int p2, .long p3] h 0 0 Qr := by
  refine pm_body pnX16 (Nat.le_of_ble_eq_true rfl) (fun g C X => ?_)
  have C : pm_C g cX16_wholeOf RX16 := C
  show pm_G g 0 [(0, .ref a0), (1, .int p1), (2, .int p2), (3, .long p3)] [] h 0 0
  unfold fX16_wholeOf at hf
  refine pm_aload_n C dX16_wholeOf_0 rfl rfl ?_
  obtain ⟨k1, hf⟩ := pm_if hf
  obtain ⟨v2, e3, hf⟩ := pm_bd hf
  refine pm_getR C dX16_wholeOf_1 flX16_61 rfl k1 e3 ?_
  refine pm_iload_n C dX16_wholeOf_4 rfl rfl ?_
  refine pm_lload_n C dX16_wholeOf_5 rfl rfl ?_
  obtain ⟨k4, hf⟩ := pm_if hf
  obtain ⟨v5, e6, hf⟩ := pm_bd hf
  refine pm_callV (as := [.int p2, .long p3]) (st := []) C X dX16_wholeOf_6 lnX16_868 myX15_read viX15_read ⟨by decide, by decide⟩ rfl rfl k4 (Nat.le_of_ble_eq_true rfl) (Nat.le_refl _) (Nat.le_refl _) (ctX15_read e6 ?_)
  show pm_G g 9 [(0, .ref a0), (1, .int p1), (2, .int p2), (3, .long p3)] [] v5 0 0
  refine pm_aload_n C dX16_wholeOf_9 rfl rfl ?_
  obtain ⟨k7, hf⟩ := pm_if hf
  obtain ⟨v8, e9, hf⟩ := pm_bd hf
  refine pm_getR C dX16_wholeOf_10 flX16_61 rfl k7 e9 ?_
  obtain ⟨k10, hf⟩ := pm_if hf
  refine pm_getI C dX16_wholeOf_13 flX16_871 rfl k10 rfl ?_
  refine pm_iconst (v := 3) C dX16_wholeOf_16 (by decide) ?_
  refine pm_icmp_ne (tgt := 25) C dX16_wholeOf_17 (by decide) (fun c11 => ?_) (fun c11 => ?_)
  · have hf := pm_ie hf c11
    refine pm_aload_n C dX16_wholeOf_25 rfl rfl ?_
    refine pm_getR C dX16_wholeOf_26 flX16_61 rfl k7 e9 ?_
    refine pm_getI C dX16_wholeOf_29 flX16_871 rfl k10 rfl ?_
    refine pm_if_ne (tgt := 45) C dX16_wholeOf_32 (by decide) (fun c12 => ?_) (fun c12 => ?_)
    · have hf := pm_ie hf c12
      refine pm_lload_n C dX16_wholeOf_45 rfl rfl ?_
      cases hf
      exact pm_lret C X dX16_wholeOf_46 rfl (Nat.le_refl _) (Nat.le_refl _) q
    · have hf := pm_it hf c12
      refine pm_aload_n C dX16_wholeOf_35 rfl rfl ?_
      refine pm_getR C dX16_wholeOf_36 flX16_61 rfl k7 e9 ?_
      refine pm_getI C dX16_wholeOf_39 flX16_913 rfl k10 rfl ?_
      refine pm_if_lt (tgt := 47) C dX16_wholeOf_42 (by decide) (fun c13 => ?_) (fun c13 => ?_)
      · have hf := pm_it hf c13
        refine pm_aload_n C dX16_wholeOf_47 rfl rfl ?_
        refine pm_getR C dX16_wholeOf_48 flX16_61 rfl k7 e9 ?_
        refine pm_getI C dX16_wholeOf_51 flX16_913 rfl k10 rfl ?_
        refine pm_ineg C dX16_wholeOf_54 ?_
        obtain ⟨y14, e15, hf⟩ := pm_lt hf
        refine pm_topI e15 ?_
        refine pm_istore (lv' := [(5, .int y14), (0, .ref a0), (1, .int p1), (2, .int p2), (3, .long p3)]) C dX16_wholeOf_55 (pm_nl X (by decide)) rfl ?_
        refine pm_iload C dX16_wholeOf_57 rfl ?_
        refine pm_bipush (v := 62) C dX16_wholeOf_59 (by decide) ?_
        refine pm_icmp_le (tgt := 68) C dX16_wholeOf_61 (by decide) (fun c16 => ?_) (fun c16 => ?_)
        · have hf := pm_it hf c16
          refine pm_aload_n C dX16_wholeOf_68 rfl rfl ?_
          refine pm_getR C dX16_wholeOf_69 flX16_61 rfl k7 e9 ?_
          refine pm_getL C dX16_wholeOf_72 flX16_916 rfl k10 rfl ?_
          refine pm_iload C dX16_wholeOf_75 rfl ?_
          refine pm_lushr C dX16_wholeOf_77 ?_
          exact pm_sub [1, 2, 3, 0] rfl (bX16_wholeOf_78 C X hf q)
        · have hf := pm_ie hf c16
          refine pm_lconst (v := 0) C dX16_wholeOf_64 (by decide) ?_
          refine pm_goto (tgt := 78) C dX16_wholeOf_65 (by decide) ?_
          exact pm_sub [1, 2, 3, 0] rfl (bX16_wholeOf_78 C X hf q)
      · have hf := pm_ie hf c13
        refine pm_lload_n C dX16_wholeOf_45 rfl rfl ?_
        cases hf
        exact pm_lret C X dX16_wholeOf_46 rfl (Nat.le_refl _) (Nat.le_refl _) q
  · have hf := pm_it hf c11
    refine pm_iload_n C dX16_wholeOf_20 rfl rfl ?_
    obtain ⟨v17, e18, hf⟩ := pm_lt hf
    refine pm_callS (as := [.int p2]) (st := []) C X dX16_wholeOf_21 lnX16_910 myX16_noneOf stX16_noneOf ⟨by decide, by decide⟩ rfl rfl (Nat.le_of_ble_eq_true rfl) (Nat.le_refl _) (Nat.le_refl _) (ctX16_noneOf e18 ?_)
    show pm_G g 24 [(0, .ref a0), (1, .int p1), (2, .int p2), (3, .long p3)] [.long v17] v5 0 0
    cases hf
    exact pm_lret C X dX16_wholeOf_24 rfl (Nat.le_refl _) (Nat.le_refl _) q
theorem dX1_constantType_0 : decode cX1_constantType 0 = .ok (.aload_n 0, 1) := by decide +kernel
theorem dX1_constantType_1 : decode cX1_constantType 1 = .ok (.getfield 36, 3) := by decide +kernel
theorem dX1_constantType_4 : decode cX1_constantType 4 = .ok (.getfield 191, 3) := by decide +kernel
theorem dX1_constantType_7 : decode cX1_constantType 7 = .ok (.istore_n 1, 1) := by decide +kernel
theorem dX1_constantType_8 : decode cX1_constantType 8 = .ok (.iload_n 1, 1) := by decide +kernel
theorem dX1_constantType_9 : decode cX1_constantType 9 = .ok (.bipush 65, 2) := by decide +kernel
theorem dX1_constantType_11 : decode cX1_constantType 11 = .ok (.if_icmp .lt 17, 3) := by decide +kernel
theorem dX1_constantType_14 : decode cX1_constantType 14 = .ok (.iload_n 1, 1) := by decide +kernel
theorem dX1_constantType_15 : decode cX1_constantType 15 = .ok (.bipush 68, 2) := by decide +kernel
theorem dX1_constantType_17 : decode cX1_constantType 17 = .ok (.if_icmp .gt 11, 3) := by decide +kernel
theorem dX1_constantType_20 : decode cX1_constantType 20 = .ok (.bipush 127, 2) := by decide +kernel
theorem dX1_constantType_22 : decode cX1_constantType 22 = .ok (.iload_n 1, 1) := by decide +kernel
theorem dX1_constantType_23 : decode cX1_constantType 23 = .ok (.bipush 65, 2) := by decide +kernel
theorem dX1_constantType_25 : decode cX1_constantType 25 = .ok (.isub, 1) := by decide +kernel
theorem dX1_constantType_26 : decode cX1_constantType 26 = .ok (.isub, 1) := by decide +kernel
theorem dX1_constantType_27 : decode cX1_constantType 27 = .ok (.ireturn, 1) := by decide +kernel
theorem dX1_constantType_28 : decode cX1_constantType 28 = .ok (.iload_n 1, 1) := by decide +kernel
theorem dX1_constantType_29 : decode cX1_constantType 29 = .ok (.sipush 208, 3) := by decide +kernel
theorem dX1_constantType_32 : decode cX1_constantType 32 = .ok (.if_icmp .ne 12, 3) := by decide +kernel
theorem dX1_constantType_35 : decode cX1_constantType 35 = .ok (.aload_n 0, 1) := by decide +kernel
theorem dX1_constantType_36 : decode cX1_constantType 36 = .ok (.getfield 36, 3) := by decide +kernel
theorem dX1_constantType_39 : decode cX1_constantType 39 = .ok (.getfield 201, 3) := by decide +kernel
theorem dX1_constantType_42 : decode cX1_constantType 42 = .ok (.l2i, 1) := by decide +kernel
theorem dX1_constantType_43 : decode cX1_constantType 43 = .ok (.ireturn, 1) := by decide +kernel
theorem dX1_constantType_44 : decode cX1_constantType 44 = .ok (.iload_n 1, 1) := by decide +kernel
theorem dX1_constantType_45 : decode cX1_constantType 45 = .ok (.sipush 210, 3) := by decide +kernel
theorem dX1_constantType_48 : decode cX1_constantType 48 = .ok (.if_icmp .ne 6, 3) := by decide +kernel
theorem dX1_constantType_51 : decode cX1_constantType 51 = .ok (.bipush 112, 2) := by decide +kernel
theorem dX1_constantType_53 : decode cX1_constantType 53 = .ok (.ireturn, 1) := by decide +kernel
theorem dX1_constantType_54 : decode cX1_constantType 54 = .ok (.iload_n 1, 1) := by decide +kernel
theorem dX1_constantType_55 : decode cX1_constantType 55 = .ok (.bipush 35, 2) := by decide +kernel
theorem dX1_constantType_57 : decode cX1_constantType 57 = .ok (.if_icmp .ne 23, 3) := by decide +kernel
theorem dX1_constantType_60 : decode cX1_constantType 60 = .ok (.aload_n 0, 1) := by decide +kernel
theorem dX1_constantType_61 : decode cX1_constantType 61 = .ok (.getfield 36, 3) := by decide +kernel
theorem dX1_constantType_64 : decode cX1_constantType 64 = .ok (.getfield 201, 3) := by decide +kernel
theorem dX1_constantType_67 : decode cX1_constantType 67 = .ok (.aload_n 0, 1) := by decide +kernel
theorem dX1_constantType_68 : decode cX1_constantType 68 = .ok (.getfield 40, 3) := by decide +kernel
theorem dX1_constantType_71 : decode cX1_constantType 71 = .ok (.iconst 3, 1) := by decide +kernel
theorem dX1_constantType_72 : decode cX1_constantType 72 = .ok (.invokevirtual 130, 3) := by decide +kernel
theorem dX1_constantType_75 : decode cX1_constantType 75 = .ok (.i2l, 1) := by decide +kernel
theorem dX1_constantType_76 : decode cX1_constantType 76 = .ok (.lcmp, 1) := by decide +kernel
theorem dX1_constantType_77 : decode cX1_constantType 77 = .ok (.ifCond .lt 5, 3) := by decide +kernel
theorem dX1_constantType_80 : decode cX1_constantType 80 = .ok (.iconst 0, 1) := by decide +kernel
theorem dX1_constantType_81 : decode cX1_constantType 81 = .ok (.ireturn, 1) := by decide +kernel
theorem dX1_constantType_82 : decode cX1_constantType 82 = .ok (.aload_n 0, 1) := by decide +kernel
theorem dX1_constantType_83 : decode cX1_constantType 83 = .ok (.getfield 36, 3) := by decide +kernel
theorem dX1_constantType_86 : decode cX1_constantType 86 = .ok (.getfield 201, 3) := by decide +kernel
theorem dX1_constantType_89 : decode cX1_constantType 89 = .ok (.l2i, 1) := by decide +kernel
theorem dX1_constantType_90 : decode cX1_constantType 90 = .ok (.istore_n 2, 1) := by decide +kernel
theorem dX1_constantType_91 : decode cX1_constantType 91 = .ok (.aload_n 0, 1) := by decide +kernel
theorem dX1_constantType_92 : decode cX1_constantType 92 = .ok (.getfield 40, 3) := by decide +kernel
theorem dX1_constantType_95 : decode cX1_constantType 95 = .ok (.iconst 3, 1) := by decide +kernel
theorem dX1_constantType_96 : decode cX1_constantType 96 = .ok (.iload_n 2, 1) := by decide +kernel
theorem dX1_constantType_97 : decode cX1_constantType 97 = .ok (.iconst 2, 1) := by decide +kernel
theorem dX1_constantType_98 : decode cX1_constantType 98 = .ok (.invokevirtual 122, 3) := by decide +kernel
theorem dX1_constantType_101 : decode cX1_constantType 101 = .ok (.lconst 0, 1) := by decide +kernel
theorem dX1_constantType_102 : decode cX1_constantType 102 = .ok (.lcmp, 1) := by decide +kernel
theorem dX1_constantType_103 : decode cX1_constantType 103 = .ok (.ifCond .ne 17, 3) := by decide +kernel
theorem dX1_constantType_106 : decode cX1_constantType 106 = .ok (.aload_n 0, 1) := by decide +kernel
theorem dX1_constantType_107 : decode cX1_constantType 107 = .ok (.getfield 40, 3) := by decide +kernel
theorem dX1_constantType_110 : decode cX1_constantType 110 = .ok (.iconst 3, 1) := by decide +kernel
theorem dX1_constantType_111 : decode cX1_constantType 111 = .ok (.iload_n 2, 1) := by decide +kernel
theorem dX1_constantType_112 : decode cX1_constantType 112 = .ok (.iconst 1, 1) := by decide +kernel
theorem dX1_constantType_113 : decode cX1_constantType 113 = .ok (.invokevirtual 122, 3) := by decide +kernel
theorem dX1_constantType_116 : decode cX1_constantType 116 = .ok (.l2i, 1) := by decide +kernel
theorem dX1_constantType_117 : decode cX1_constantType 117 = .ok (.goto 4, 3) := by decide +kernel
theorem dX1_constantType_120 : decode cX1_constantType 120 = .ok (.iconst 0, 1) := by decide +kernel
theorem dX1_constantType_121 : decode cX1_constantType 121 = .ok (.ireturn, 1) := by decide +kernel
noncomputable def fX1_constantType_b28 (h : pm_H) (x0 : Nat) (x1 : Int32) : Option Int32 := if x1 = 208 then (if pm_kd h x0 = 1 then (pm_R h x0 3).bind fun v30 => if pm_kd h v30 = 9 then some ((pm_L h v30 8).toInt32) else none else none) else (if x1 = 210 then (some 112) else (if x1 = 35 then (if pm_kd h x0 = 1 then (pm_R h x0 3).bind fun v13 => if pm_kd h v13 = 9 then (pm_R h x0 2).bind fun v16 => if pm_kd h v16 = 7 then (fX7_imported h v16 3).bind fun v19 => if (pm_L h v13 8) < v19.toInt64 then (pm_let ((pm_L h v13 8).toInt32) fun y22 => (fX7_of h v16 3 y22 2).bind fun v24 => if v24 = 0 then ((fX7_of h v16 3 y22 1).bind fun v27 => some v27.toInt32) else (some 0)) else (some 0) else none else none else none) else (some 0)))
noncomputable def fX1_constantType (h : pm_H) (a0 : Nat) : Option Int32 := if pm_kd h a0 = 1 then (pm_R h a0 3).bind fun v2 => if pm_kd h v2 = 9 then pm_let (pm_I h v2 6) fun y5 => if y5 < 65 then (fX1_constantType_b28 h a0 y5) else (if 68 < y5 then (fX1_constantType_b28 h a0 y5) else (some (127 - (y5 - 65)))) else none else none
set_option maxHeartbeats 4000000 in
set_option maxRecDepth 100000 in
theorem bX1_constantType_28 {g : pm_Gm} {l : Launch} {G : pm_Gl} {Qr : Option Value → pm_H → Prop} (C : pm_C g cX1_constantType RX1) (X : pm_X g l G mX1_constantType 0 0 Qr) {h : pm_H} {x0 : Nat} {x1 : Int32} {r : Int32} (hf : fX1_constantType_b28 h x0 x1 = some r) (q : Qr (some (.int r)) h) : pm_G g 28 [(0, .ref x0), (1, .int x1)] [] h 0 0 := by
  unfold fX1_constantType_b28 at hf
  refine pm_iload_n C dX1_constantType_28 rfl rfl ?_
  refine pm_sipush (v := 208) C dX1_constantType_29 (by decide) ?_
  refine pm_icmp_ne (tgt := 44) C dX1_constantType_32 (by decide) (fun c9 => ?_) (fun c9 => ?_)
  · have hf := pm_ie hf c9
    refine pm_iload_n C dX1_constantType_44 rfl rfl ?_
    refine pm_sipush (v := 210) C dX1_constantType_45 (by decide) ?_
    refine pm_icmp_ne (tgt := 54) C dX1_constantType_48 (by decide) (fun c10 => ?_) (fun c10 => ?_)
    · have hf := pm_ie hf c10
      refine pm_iload_n C dX1_constantType_54 rfl rfl ?_
      refine pm_bipush (v := 35) C dX1_constantType_55 (by decide) ?_
      refine pm_icmp_ne (tgt := 80) C dX1_constantType_57 (by decide) (fun c11 => ?_) (fun c11 => ?_)
      · have hf := pm_ie hf c11
        refine pm_iconst (v := 0) C dX1_constantType_80 (by decide) ?_
        cases hf
        exact pm_iret C X dX1_constantType_81 rfl (Nat.le_refl _) (Nat.le_refl _) q
      · have hf := pm_it hf c11
        refine pm_aload_n C dX1_constantType_60 rfl rfl ?_
        obtain ⟨k12, hf⟩ := pm_if hf
        obtain ⟨v13, e14, hf⟩ := pm_bd hf
        refine pm_getR C dX1_constantType_61 flX1_36 rfl k12 e14 ?_
        obtain ⟨k15, hf⟩ := pm_if hf
        refine pm_getL C dX1_constantType_64 flX1_201 rfl k15 rfl ?_
        refine pm_aload_n C dX1_constantType_67 rfl rfl ?_
        obtain ⟨v16, e17, hf⟩ := pm_bd hf
        refine pm_getR C dX1_constantType_68 flX1_40 rfl k12 e17 ?_
        refine pm_iconst (v := 3) C dX1_constantType_71 (by decide) ?_
        obtain ⟨k18, hf⟩ := pm_if hf
        obtain ⟨v19, e20, hf⟩ := pm_bd hf
        refine pm_callV (as := [.int 3]) (st := [.long (pm_L h v13 8)]) C X dX1_constantType_72 lnX1_130 myX7_imported viX7_imported ⟨by decide, by decide⟩ rfl rfl k18 (Nat.le_of_ble_eq_true rfl) (Nat.le_refl _) (Nat.le_refl _) (ctX7_imported e20 ?_)
        show pm_G g 75 [(0, .ref x0), (1, .int x1)] [.int v19, .long (pm_L h v13 8)] h 0 0
        refine pm_i2l C dX1_constantType_75 ?_
        refine pm_lcmp C dX1_constantType_76 ?_
        refine pm_if_lt (tgt := 82) C dX1_constantType_77 (by decide) (fun c21 => ?_) (fun c21 => ?_)
        · have hf := pm_it hf ((pm_lg_lt _ _).mp c21)
          refine pm_aload_n C dX1_constantType_82 rfl rfl ?_
          refine pm_getR C dX1_constantType_83 flX1_36 rfl k12 e14 ?_
          refine pm_getL C dX1_constantType_86 flX1_201 rfl k15 rfl ?_
          refine pm_l2i C dX1_constantType_89 ?_
          obtain ⟨y22, e23, hf⟩ := pm_lt hf
          refine pm_topI e23 ?_
          refine pm_istore_n (lv' := [(2, .int y22), (0, .ref x0), (1, .int x1)]) C dX1_constantType_90 rfl (pm_nl X (by decide)) rfl ?_
          refine pm_aload_n C dX1_constantType_91 rfl rfl ?_
          refine pm_getR C dX1_constantType_92 flX1_40 rfl k12 e17 ?_
          refine pm_iconst (v := 3) C dX1_constantType_95 (by decide) ?_
          refine pm_iload_n C dX1_constantType_96 rfl rfl ?_
          refine pm_iconst (v := 2) C dX1_constantType_97 (by decide) ?_
          obtain ⟨v24, e25, hf⟩ := pm_bd hf
          refine pm_callV (as := [.int 3, .int y22, .int 2]) (st := []) C X dX1_constantType_98 lnX1_122 myX7_of viX7_of ⟨by decide, by decide⟩ rfl rfl k18 (Nat.le_of_ble_eq_true rfl) (Nat.le_refl _) (Nat.le_refl _) (ctX7_of e25 ?_)
          show pm_G g 101 [(2, .int y22), (0, .ref x0), (1, .int x1)] [.long v24] h 0 0
          refine pm_lconst (v := 0) C dX1_constantType_101 (by decide) ?_
          refine pm_lcmp C dX1_constantType_102 ?_
          refine pm_if_ne (tgt := 120) C dX1_constantType_103 (by decide) (fun c26 => ?_) (fun c26 => ?_)
          · have hf := pm_ie hf ((fun z => c26 ((pm_lg_eq _ _).mpr z)))
            refine pm_iconst (v := 0) C dX1_constantType_120 (by decide) ?_
            cases hf
            exact pm_iret C X dX1_constantType_121 rfl (Nat.le_refl _) (Nat.le_refl _) q
          · have hf := pm_it hf ((pm_lg_eq _ _).mp c26)
            refine pm_aload_n C dX1_constantType_106 rfl rfl ?_
            refine pm_getR C dX1_constantType_107 flX1_40 rfl k12 e17 ?_
            refine pm_iconst (v := 3) C dX1_constantType_110 (by decide) ?_
            refine pm_iload_n C dX1_constantType_111 rfl rfl ?_
            refine pm_iconst (v := 1) C dX1_constantType_112 (by decide) ?_
            obtain ⟨v27, e28, hf⟩ := pm_bd hf
            refine pm_callV (as := [.int 3, .int y22, .int 1]) (st := []) C X dX1_constantType_113 lnX1_122 myX7_of viX7_of ⟨by decide, by decide⟩ rfl rfl k18 (Nat.le_of_ble_eq_true rfl) (Nat.le_refl _) (Nat.le_refl _) (ctX7_of e28 ?_)
            show pm_G g 116 [(2, .int y22), (0, .ref x0), (1, .int x1)] [.long v27] h 0 0
            refine pm_l2i C dX1_constantType_116 ?_
            refine pm_goto (tgt := 121) C dX1_constantType_117 (by decide) ?_
            cases hf
            exact pm_iret C X dX1_constantType_121 rfl (Nat.le_refl _) (Nat.le_refl _) q
        · have hf := pm_ie hf ((fun z => c21 ((pm_lg_lt _ _).mpr z)))
          refine pm_iconst (v := 0) C dX1_constantType_80 (by decide) ?_
          cases hf
          exact pm_iret C X dX1_constantType_81 rfl (Nat.le_refl _) (Nat.le_refl _) q
    · have hf := pm_it hf c10
      refine pm_bipush (v := 112) C dX1_constantType_51 (by decide) ?_
      cases hf
      exact pm_iret C X dX1_constantType_53 rfl (Nat.le_refl _) (Nat.le_refl _) q
  · have hf := pm_it hf c9
    refine pm_aload_n C dX1_constantType_35 rfl rfl ?_
    obtain ⟨k29, hf⟩ := pm_if hf
    obtain ⟨v30, e31, hf⟩ := pm_bd hf
    refine pm_getR C dX1_constantType_36 flX1_36 rfl k29 e31 ?_
    obtain ⟨k32, hf⟩ := pm_if hf
    refine pm_getL C dX1_constantType_39 flX1_201 rfl k32 rfl ?_
    refine pm_l2i C dX1_constantType_42 ?_
    cases hf
    exact pm_iret C X dX1_constantType_43 rfl (Nat.le_refl _) (Nat.le_refl _) q
set_option maxHeartbeats 4000000 in
set_option maxRecDepth 100000 in
theorem ctX1_constantType {l : Launch} {G : pm_Gl} {h : pm_H} {a0 : Nat} {r : Int32} {Qr : Option Value → pm_H → Prop} (hf : fX1_constantType h a0 = some r) (q : Qr (some (.int r)) h) : pm_Ct l G mX1_constantType [.ref a0] h 0 0 Qr := by
  refine pm_body pnX1 (Nat.le_of_ble_eq_true rfl) (fun g C X => ?_)
  have C : pm_C g cX1_constantType RX1 := C
  show pm_G g 0 [(0, .ref a0)] [] h 0 0
  unfold fX1_constantType at hf
  refine pm_aload_n C dX1_constantType_0 rfl rfl ?_
  obtain ⟨k1, hf⟩ := pm_if hf
  obtain ⟨v2, e3, hf⟩ := pm_bd hf
  refine pm_getR C dX1_constantType_1 flX1_36 rfl k1 e3 ?_
  obtain ⟨k4, hf⟩ := pm_if hf
  refine pm_getI C dX1_constantType_4 flX1_191 rfl k4 rfl ?_
  obtain ⟨y5, e6, hf⟩ := pm_lt hf
  refine pm_topI e6 ?_
  refine pm_istore_n (lv' := [(1, .int y5), (0, .ref a0)]) C dX1_constantType_7 rfl (pm_nl X (by decide)) rfl ?_
  refine pm_iload_n C dX1_constantType_8 rfl rfl ?_
  refine pm_bipush (v := 65) C dX1_constantType_9 (by decide) ?_
  refine pm_icmp_lt (tgt := 28) C dX1_constantType_11 (by decide) (fun c7 => ?_) (fun c7 => ?_)
  · have hf := pm_it hf c7
    exact pm_sub [1, 0] rfl (bX1_constantType_28 C X hf q)
  · have hf := pm_ie hf c7
    refine pm_iload_n C dX1_constantType_14 rfl rfl ?_
    refine pm_bipush (v := 68) C dX1_constantType_15 (by decide) ?_
    refine pm_icmp_gt (tgt := 28) C dX1_constantType_17 (by decide) (fun c8 => ?_) (fun c8 => ?_)
    · have hf := pm_it hf c8
      exact pm_sub [1, 0] rfl (bX1_constantType_28 C X hf q)
    · have hf := pm_ie hf c8
      refine pm_bipush (v := 127) C dX1_constantType_20 (by decide) ?_
      refine pm_iload_n C dX1_constantType_22 rfl rfl ?_
      refine pm_bipush (v := 65) C dX1_constantType_23 (by decide) ?_
      refine pm_isub C dX1_constantType_25 ?_
      refine pm_isub C dX1_constantType_26 ?_
      cases hf
      exact pm_iret C X dX1_constantType_27 rfl (Nat.le_refl _) (Nat.le_refl _) q
theorem dX1_die_0 : decode cX1_die 0 = .ok (.aload_n 0, 1) := by decide +kernel
theorem dX1_die_1 : decode cX1_die 1 = .ok (.getfield 220, 3) := by decide +kernel
theorem dX1_die_4 : decode cX1_die 4 = .ok (.iconst 1, 1) := by decide +kernel
theorem dX1_die_5 : decode cX1_die 5 = .ok (.isub, 1) := by decide +kernel
theorem dX1_die_6 : decode cX1_die 6 = .ok (.istore_n 1, 1) := by decide +kernel
theorem dX1_die_7 : decode cX1_die 7 = .ok (.aload_n 0, 1) := by decide +kernel
theorem dX1_die_8 : decode cX1_die 8 = .ok (.aload_n 0, 1) := by decide +kernel
theorem dX1_die_9 : decode cX1_die 9 = .ok (.iload_n 1, 1) := by decide +kernel
theorem dX1_die_10 : decode cX1_die 10 = .ok (.iconst 2, 1) := by decide +kernel
theorem dX1_die_11 : decode cX1_die 11 = .ok (.invokevirtual 284, 3) := by decide +kernel
theorem dX1_die_14 : decode cX1_die 14 = .ok (.putfield 214, 3) := by decide +kernel
theorem dX1_die_17 : decode cX1_die 17 = .ok (.aload_n 0, 1) := by decide +kernel
theorem dX1_die_18 : decode cX1_die 18 = .ok (.iload_n 1, 1) := by decide +kernel
theorem dX1_die_19 : decode cX1_die 19 = .ok (.iconst 3, 1) := by decide +kernel
theorem dX1_die_20 : decode cX1_die 20 = .ok (.iconst 1, 1) := by decide +kernel
theorem dX1_die_21 : decode cX1_die 21 = .ok (.invokevirtual 280, 3) := by decide +kernel
theorem dX1_die_24 : decode cX1_die 24 = .ok (.return_, 1) := by decide +kernel
def fX1_die (h : pm_H) (a0 : Nat) : Option pm_H := if pm_kd h a0 = 1 then pm_let ((pm_I h a0 10) - 1) fun y2 => (fX1_label h a0 y2 2).bind fun v4 => (fX1_setLabel (pm_setI h a0 6 v4) a0 y2 3 1).bind fun v6 => some v6 else none
set_option maxHeartbeats 4000000 in
set_option maxRecDepth 100000 in
theorem ctX1_die {l : Launch} {G : pm_Gl} {h : pm_H} {a0 : Nat} {r : pm_H} {Qr : Option Value → pm_H → Prop} (hf : fX1_die h a0 = some r) (q : Qr none r) : pm_Ct l G mX1_die [.ref a0] h 0 0 Qr := by
  refine pm_body pnX1 (Nat.le_of_ble_eq_true rfl) (fun g C X => ?_)
  have C : pm_C g cX1_die RX1 := C
  show pm_G g 0 [(0, .ref a0)] [] h 0 0
  unfold fX1_die at hf
  refine pm_aload_n C dX1_die_0 rfl rfl ?_
  obtain ⟨k1, hf⟩ := pm_if hf
  refine pm_getI C dX1_die_1 flX1_220 rfl k1 rfl ?_
  refine pm_iconst (v := 1) C dX1_die_4 (by decide) ?_
  refine pm_isub C dX1_die_5 ?_
  obtain ⟨y2, e3, hf⟩ := pm_lt hf
  refine pm_topI e3 ?_
  refine pm_istore_n (lv' := [(1, .int y2), (0, .ref a0)]) C dX1_die_6 rfl (pm_nl X (by decide)) rfl ?_
  refine pm_aload_n C dX1_die_7 rfl rfl ?_
  refine pm_aload_n C dX1_die_8 rfl rfl ?_
  refine pm_iload_n C dX1_die_9 rfl rfl ?_
  refine pm_iconst (v := 2) C dX1_die_10 (by decide) ?_
  obtain ⟨v4, e5, hf⟩ := pm_bd hf
  refine pm_callV (as := [.int y2, .int 2]) (st := [.ref a0]) C X dX1_die_11 lnX1_284 myX1_label viX1_label ⟨by decide, by decide⟩ rfl rfl k1 (Nat.le_of_ble_eq_true rfl) (Nat.le_refl _) (Nat.le_refl _) (ctX1_label e5 ?_)
  show pm_G g 14 [(1, .int y2), (0, .ref a0)] [.int v4, .ref a0] h 0 0
  refine pm_putI C dX1_die_14 flX1_214 rfl rfl k1 rfl rfl ?_
  refine pm_aload_n C dX1_die_17 rfl rfl ?_
  refine pm_iload_n C dX1_die_18 rfl rfl ?_
  refine pm_iconst (v := 3) C dX1_die_19 (by decide) ?_
  refine pm_iconst (v := 1) C dX1_die_20 (by decide) ?_
  obtain ⟨v6, e7, hf⟩ := pm_bd hf
  refine pm_callV (as := [.int y2, .int 3, .int 1]) (st := []) C X dX1_die_21 lnX1_280 myX1_setLabel viX1_setLabel ⟨by decide, by decide⟩ rfl rfl k1 (Nat.le_of_ble_eq_true rfl) (Nat.le_refl _) (Nat.le_refl _) (ctX1_setLabel e7 ?_)
  show pm_G g 24 [(1, .int y2), (0, .ref a0)] [] v6 0 0
  cases hf
  exact pm_vret C X dX1_die_24 rfl (Nat.le_refl _) (Nat.le_refl _) q
theorem dX1_emit_0 : decode cX1_emit 0 = .ok (.aload_n 0, 1) := by decide +kernel
theorem dX1_emit_1 : decode cX1_emit 1 = .ok (.invokevirtual 314, 3) := by decide +kernel
theorem dX1_emit_4 : decode cX1_emit 4 = .ok (.ifCond .eq 22, 3) := by decide +kernel
theorem dX1_emit_7 : decode cX1_emit 7 = .ok (.aload_n 0, 1) := by decide +kernel
theorem dX1_emit_8 : decode cX1_emit 8 = .ok (.getfield 49, 3) := by decide +kernel
theorem dX1_emit_11 : decode cX1_emit 11 = .ok (.iload_n 1, 1) := by decide +kernel
theorem dX1_emit_12 : decode cX1_emit 12 = .ok (.iload_n 2, 1) := by decide +kernel
theorem dX1_emit_13 : decode cX1_emit 13 = .ok (.iload_n 3, 1) := by decide +kernel
theorem dX1_emit_14 : decode cX1_emit 14 = .ok (.iload 4, 2) := by decide +kernel
theorem dX1_emit_16 : decode cX1_emit 16 = .ok (.aload_n 0, 1) := by decide +kernel
theorem dX1_emit_17 : decode cX1_emit 17 = .ok (.getfield 227, 3) := by decide +kernel
theorem dX1_emit_20 : decode cX1_emit 20 = .ok (.invokevirtual 318, 3) := by decide +kernel
theorem dX1_emit_23 : decode cX1_emit 23 = .ok (.goto 4, 3) := by decide +kernel
theorem dX1_emit_26 : decode cX1_emit 26 = .ok (.iconst (-1), 1) := by decide +kernel
theorem dX1_emit_27 : decode cX1_emit 27 = .ok (.ireturn, 1) := by decide +kernel
def fX1_emit (h : pm_H) (a0 : Nat) (p1 : Int32) (p2 : Int32) (p3 : Int32) (p4 : Int32) : Option (Int32 × pm_H) := if pm_kd h a0 = 1 then (fX1_isEmitting h a0).bind fun v2 => if v2 = 0 then (some (((-1), h))) else ((pm_R h a0 17).bind fun v5 => if pm_kd h v5 = 0 then (fX0_emit h v5 p1 p2 p3 p4 (pm_I h a0 7)).bind fun v8 => some ((v8.1, v8.2)) else none) else none
set_option maxHeartbeats 4000000 in
set_option maxRecDepth 100000 in
theorem ctX1_emit {l : Launch} {G : pm_Gl} {h : pm_H} {a0 : Nat} {p1 : Int32} {p2 : Int32} {p3 : Int32} {p4 : Int32} {r : (Int32 × pm_H)} {Qr : Option Value → pm_H → Prop} (hf : fX1_emit h a0 p1 p2 p3 p4 = some r) (q : Qr (some (.int r.1)) r.2) : pm_Ct l G mX1_emit [.ref a0, .int p1, .int p2, .int p3, .int p4] h 0 0 Qr := by
  refine pm_body pnX1 (Nat.le_of_ble_eq_true rfl) (fun g C X => ?_)
  have C : pm_C g cX1_emit RX1 := C
  show pm_G g 0 [(0, .ref a0), (1, .int p1), (2, .int p2), (3, .int p3), (4, .int p4)] [] h 0 0
  unfold fX1_emit at hf
  refine pm_aload_n C dX1_emit_0 rfl rfl ?_
  obtain ⟨k1, hf⟩ := pm_if hf
  obtain ⟨v2, e3, hf⟩ := pm_bd hf
  refine pm_callV (as := []) (st := []) C X dX1_emit_1 lnX1_314 myX1_isEmitting viX1_isEmitting ⟨by decide, by decide⟩ rfl rfl k1 (Nat.le_of_ble_eq_true rfl) (Nat.le_refl _) (Nat.le_refl _) (ctX1_isEmitting e3 ?_)
  show pm_G g 4 [(0, .ref a0), (1, .int p1), (2, .int p2), (3, .int p3), (4, .int p4)] [.int v2] h 0 0
  refine pm_if_eq (tgt := 26) C dX1_emit_4 (by decide) (fun c4 => ?_) (fun c4 => ?_)
  · have hf := pm_it hf c4
    refine pm_iconst (v := (-1)) C dX1_emit_26 (by decide) ?_
    cases hf
    exact pm_iret C X dX1_emit_27 rfl (Nat.le_refl _) (Nat.le_refl _) q
  · have hf := pm_ie hf c4
    refine pm_aload_n C dX1_emit_7 rfl rfl ?_
    obtain ⟨v5, e6, hf⟩ := pm_bd hf
    refine pm_getR C dX1_emit_8 flX1_49 rfl k1 e6 ?_
    refine pm_iload_n C dX1_emit_11 rfl rfl ?_
    refine pm_iload_n C dX1_emit_12 rfl rfl ?_
    refine pm_iload_n C dX1_emit_13 rfl rfl ?_
    refine pm_iload C dX1_emit_14 rfl ?_
    refine pm_aload_n C dX1_emit_16 rfl rfl ?_
    refine pm_getI C dX1_emit_17 flX1_227 rfl k1 rfl ?_
    obtain ⟨k7, hf⟩ := pm_if hf
    obtain ⟨v8, e9, hf⟩ := pm_bd hf
    refine pm_callV (as := [.int p1, .int p2, .int p3, .int p4, .int (pm_I h a0 7)]) (st := []) C X dX1_emit_20 lnX1_318 myX0_emit viX0_emit ⟨by decide, by decide⟩ rfl rfl k7 (Nat.le_of_ble_eq_true rfl) (Nat.le_refl _) (Nat.le_refl _) (ctX0_emit e9 ?_)
    show pm_G g 23 [(0, .ref a0), (1, .int p1), (2, .int p2), (3, .int p3), (4, .int p4)] [.int v8.1] v8.2 0 0
    refine pm_goto (tgt := 27) C dX1_emit_23 (by decide) ?_
    cases hf
    exact pm_iret C X dX1_emit_27 rfl (Nat.le_refl _) (Nat.le_refl _) q
theorem dX1_emitPlain_0 : decode cX1_emitPlain 0 = .ok (.aload_n 0, 1) := by decide +kernel
theorem dX1_emitPlain_1 : decode cX1_emitPlain 1 = .ok (.aload_n 0, 1) := by decide +kernel
theorem dX1_emitPlain_2 : decode cX1_emitPlain 2 = .ok (.getfield 36, 3) := by decide +kernel
theorem dX1_emitPlain_5 : decode cX1_emitPlain 5 = .ok (.getfield 191, 3) := by decide +kernel
theorem dX1_emitPlain_8 : decode cX1_emitPlain 8 = .ok (.aload_n 0, 1) := by decide +kernel
theorem dX1_emitPlain_9 : decode cX1_emitPlain 9 = .ok (.getfield 36, 3) := by decide +kernel
theorem dX1_emitPlain_12 : decode cX1_emitPlain 12 = .ok (.getfield 201, 3) := by decide +kernel
theorem dX1_emitPlain_15 : decode cX1_emitPlain 15 = .ok (.l2i, 1) := by decide +kernel
theorem dX1_emitPlain_16 : decode cX1_emitPlain 16 = .ok (.aload_n 0, 1) := by decide +kernel
theorem dX1_emitPlain_17 : decode cX1_emitPlain 17 = .ok (.getfield 36, 3) := by decide +kernel
theorem dX1_emitPlain_20 : decode cX1_emitPlain 20 = .ok (.getfield 325, 3) := by decide +kernel
theorem dX1_emitPlain_23 : decode cX1_emitPlain 23 = .ok (.l2i, 1) := by decide +kernel
theorem dX1_emitPlain_24 : decode cX1_emitPlain 24 = .ok (.iconst 2, 1) := by decide +kernel
theorem dX1_emitPlain_25 : decode cX1_emitPlain 25 = .ok (.iload_n 1, 1) := by decide +kernel
theorem dX1_emitPlain_26 : decode cX1_emitPlain 26 = .ok (.imul, 1) := by decide +kernel
theorem dX1_emitPlain_27 : decode cX1_emitPlain 27 = .ok (.iload_n 2, 1) := by decide +kernel
theorem dX1_emitPlain_28 : decode cX1_emitPlain 28 = .ok (.ifCond .eq 7, 3) := by decide +kernel
theorem dX1_emitPlain_31 : decode cX1_emitPlain 31 = .ok (.iconst 1, 1) := by decide +kernel
theorem dX1_emitPlain_32 : decode cX1_emitPlain 32 = .ok (.goto 4, 3) := by decide +kernel
theorem dX1_emitPlain_35 : decode cX1_emitPlain 35 = .ok (.iconst 0, 1) := by decide +kernel
theorem dX1_emitPlain_36 : decode cX1_emitPlain 36 = .ok (.iadd, 1) := by decide +kernel
theorem dX1_emitPlain_37 : decode cX1_emitPlain 37 = .ok (.invokevirtual 322, 3) := by decide +kernel
theorem dX1_emitPlain_40 : decode cX1_emitPlain 40 = .ok (.pop, 1) := by decide +kernel
theorem dX1_emitPlain_41 : decode cX1_emitPlain 41 = .ok (.return_, 1) := by decide +kernel
def fX1_emitPlain (h : pm_H) (a0 : Nat) (p1 : Int32) (p2 : Int32) : Option pm_H := if pm_kd h a0 = 1 then (pm_R h a0 3).bind fun v2 => if pm_kd h v2 = 9 then if p2 = 0 then ((fX1_emit h a0 (pm_I h v2 6) ((pm_L h v2 8).toInt32) ((pm_L h v2 9).toInt32) ((2 * p1) + 0)).bind fun v6 => some v6.2) else ((fX1_emit h a0 (pm_I h v2 6) ((pm_L h v2 8).toInt32) ((pm_L h v2 9).toInt32) ((2 * p1) + 1)).bind fun v8 => some v8.2) else none else none
set_option maxHeartbeats 4000000 in
set_option maxRecDepth 100000 in
theorem ctX1_emitPlain {l : Launch} {G : pm_Gl} {h : pm_H} {a0 : Nat} {p1 : Int32} {p2 : Int32} {r : pm_H} {Qr : Option Value → pm_H → Prop} (hf : fX1_emitPlain h a0 p1 p2 = some r) (q : Qr none r) : pm_Ct l G mX1_emitPlain [.ref a0, .int p1, .int p2] h 0 0 Qr := by
  refine pm_body pnX1 (Nat.le_of_ble_eq_true rfl) (fun g C X => ?_)
  have C : pm_C g cX1_emitPlain RX1 := C
  show pm_G g 0 [(0, .ref a0), (1, .int p1), (2, .int p2)] [] h 0 0
  unfold fX1_emitPlain at hf
  refine pm_aload_n C dX1_emitPlain_0 rfl rfl ?_
  refine pm_aload_n C dX1_emitPlain_1 rfl rfl ?_
  obtain ⟨k1, hf⟩ := pm_if hf
  obtain ⟨v2, e3, hf⟩ := pm_bd hf
  refine pm_getR C dX1_emitPlain_2 flX1_36 rfl k1 e3 ?_
  obtain ⟨k4, hf⟩ := pm_if hf
  refine pm_getI C dX1_emitPlain_5 flX1_191 rfl k4 rfl ?_
  refine pm_aload_n C dX1_emitPlain_8 rfl rfl ?_
  refine pm_getR C dX1_emitPlain_9 flX1_36 rfl k1 e3 ?_
  refine pm_getL C dX1_emitPlain_12 flX1_201 rfl k4 rfl ?_
  refine pm_l2i C dX1_emitPlain_15 ?_
  refine pm_aload_n C dX1_emitPlain_16 rfl rfl ?_
  refine pm_getR C dX1_emitPlain_17 flX1_36 rfl k1 e3 ?_
  refine pm_getL C dX1_emitPlain_20 flX1_325 rfl k4 rfl ?_
  refine pm_l2i C dX1_emitPlain_23 ?_
  refine pm_iconst (v := 2) C dX1_emitPlain_24 (by decide) ?_
  refine pm_iload_n C dX1_emitPlain_25 rfl rfl ?_
  refine pm_imul C dX1_emitPlain_26 ?_
  refine pm_iload_n C dX1_emitPlain_27 rfl rfl ?_
  refine pm_if_eq (tgt := 35) C dX1_emitPlain_28 (by decide) (fun c5 => ?_) (fun c5 => ?_)
  · have hf := pm_it hf c5
    refine pm_iconst (v := 0) C dX1_emitPlain_35 (by decide) ?_
    refine pm_iadd C dX1_emitPlain_36 ?_
    obtain ⟨v6, e7, hf⟩ := pm_bd hf
    refine pm_callV (as := [.int (pm_I h v2 6), .int ((pm_L h v2 8).toInt32), .int ((pm_L h v2 9).toInt32), .int ((2 * p1) + 0)]) (st := []) C X dX1_emitPlain_37 lnX1_322 myX1_emit viX1_emit ⟨by decide, by decide⟩ rfl rfl k1 (Nat.le_of_ble_eq_true rfl) (Nat.le_refl _) (Nat.le_refl _) (ctX1_emit e7 ?_)
    show pm_G g 40 [(0, .ref a0), (1, .int p1), (2, .int p2)] [.int v6.1] v6.2 0 0
    refine pm_pop C dX1_emitPlain_40 rfl ?_
    cases hf
    exact pm_vret C X dX1_emitPlain_41 rfl (Nat.le_refl _) (Nat.le_refl _) q
  · have hf := pm_ie hf c5
    refine pm_iconst (v := 1) C dX1_emitPlain_31 (by decide) ?_
    refine pm_goto (tgt := 36) C dX1_emitPlain_32 (by decide) ?_
    refine pm_iadd C dX1_emitPlain_36 ?_
    obtain ⟨v8, e9, hf⟩ := pm_bd hf
    refine pm_callV (as := [.int (pm_I h v2 6), .int ((pm_L h v2 8).toInt32), .int ((pm_L h v2 9).toInt32), .int ((2 * p1) + 1)]) (st := []) C X dX1_emitPlain_37 lnX1_322 myX1_emit viX1_emit ⟨by decide, by decide⟩ rfl rfl k1 (Nat.le_of_ble_eq_true rfl) (Nat.le_refl _) (Nat.le_refl _) (ctX1_emit e9 ?_)
    show pm_G g 40 [(0, .ref a0), (1, .int p1), (2, .int p2)] [.int v8.1] v8.2 0 0
    refine pm_pop C dX1_emitPlain_40 rfl ?_
    cases hf
    exact pm_vret C X dX1_emitPlain_41 rfl (Nat.le_refl _) (Nat.le_refl _) q
theorem dX1_exportsAreRight_0 : decode cX1_exportsAreRight 0 = .ok (.iconst 0, 1) := by decide +kernel
theorem dX1_exportsAreRight_1 : decode cX1_exportsAreRight 1 = .ok (.istore_n 1, 1) := by decide +kernel
theorem dX1_exportsAreRight_2 : decode cX1_exportsAreRight 2 = .ok (.iload_n 1, 1) := by decide +kernel
theorem dX1_exportsAreRight_3 : decode cX1_exportsAreRight 3 = .ok (.aload_n 0, 1) := by decide +kernel
theorem dX1_exportsAreRight_4 : decode cX1_exportsAreRight 4 = .ok (.getfield 40, 3) := by decide +kernel
theorem dX1_exportsAreRight_7 : decode cX1_exportsAreRight 7 = .ok (.getfield 143, 3) := by decide +kernel
theorem dX1_exportsAreRight_10 : decode cX1_exportsAreRight 10 = .ok (.arraylength, 1) := by decide +kernel
theorem dX1_exportsAreRight_11 : decode cX1_exportsAreRight 11 = .ok (.if_icmp .ge 101, 3) := by decide +kernel
theorem dX1_exportsAreRight_14 : decode cX1_exportsAreRight 14 = .ok (.aload_n 0, 1) := by decide +kernel
theorem dX1_exportsAreRight_15 : decode cX1_exportsAreRight 15 = .ok (.getfield 40, 3) := by decide +kernel
theorem dX1_exportsAreRight_18 : decode cX1_exportsAreRight 18 = .ok (.getfield 143, 3) := by decide +kernel
theorem dX1_exportsAreRight_21 : decode cX1_exportsAreRight 21 = .ok (.iload_n 1, 1) := by decide +kernel
theorem dX1_exportsAreRight_22 : decode cX1_exportsAreRight 22 = .ok (.iconst 2, 1) := by decide +kernel
theorem dX1_exportsAreRight_23 : decode cX1_exportsAreRight 23 = .ok (.iadd, 1) := by decide +kernel
theorem dX1_exportsAreRight_24 : decode cX1_exportsAreRight 24 = .ok (.invokestatic 105, 3) := by decide +kernel
theorem dX1_exportsAreRight_27 : decode cX1_exportsAreRight 27 = .ok (.istore_n 2, 1) := by decide +kernel
theorem dX1_exportsAreRight_28 : decode cX1_exportsAreRight 28 = .ok (.aload_n 0, 1) := by decide +kernel
theorem dX1_exportsAreRight_29 : decode cX1_exportsAreRight 29 = .ok (.getfield 40, 3) := by decide +kernel
theorem dX1_exportsAreRight_32 : decode cX1_exportsAreRight 32 = .ok (.getfield 143, 3) := by decide +kernel
theorem dX1_exportsAreRight_35 : decode cX1_exportsAreRight 35 = .ok (.iload_n 1, 1) := by decide +kernel
theorem dX1_exportsAreRight_36 : decode cX1_exportsAreRight 36 = .ok (.iconst 3, 1) := by decide +kernel
theorem dX1_exportsAreRight_37 : decode cX1_exportsAreRight 37 = .ok (.iadd, 1) := by decide +kernel
theorem dX1_exportsAreRight_38 : decode cX1_exportsAreRight 38 = .ok (.invokestatic 105, 3) := by decide +kernel
theorem dX1_exportsAreRight_41 : decode cX1_exportsAreRight 41 = .ok (.istore_n 3, 1) := by decide +kernel
theorem dX1_exportsAreRight_42 : decode cX1_exportsAreRight 42 = .ok (.aload_n 0, 1) := by decide +kernel
theorem dX1_exportsAreRight_43 : decode cX1_exportsAreRight 43 = .ok (.getfield 40, 3) := by decide +kernel
theorem dX1_exportsAreRight_46 : decode cX1_exportsAreRight 46 = .ok (.iload_n 2, 1) := by decide +kernel
theorem dX1_exportsAreRight_47 : decode cX1_exportsAreRight 47 = .ok (.iload_n 3, 1) := by decide +kernel
theorem dX1_exportsAreRight_48 : decode cX1_exportsAreRight 48 = .ok (.i2l, 1) := by decide +kernel
theorem dX1_exportsAreRight_49 : decode cX1_exportsAreRight 49 = .ok (.invokevirtual 146, 3) := by decide +kernel
theorem dX1_exportsAreRight_52 : decode cX1_exportsAreRight 52 = .ok (.ifCond .ne 11, 3) := by decide +kernel
theorem dX1_exportsAreRight_55 : decode cX1_exportsAreRight 55 = .ok (.aload_n 0, 1) := by decide +kernel
theorem dX1_exportsAreRight_56 : decode cX1_exportsAreRight 56 = .ok (.bipush 24, 2) := by decide +kernel
theorem dX1_exportsAreRight_58 : decode cX1_exportsAreRight 58 = .ok (.bipush 7, 2) := by decide +kernel
theorem dX1_exportsAreRight_60 : decode cX1_exportsAreRight 60 = .ok (.invokevirtual 119, 3) := by decide +kernel
theorem dX1_exportsAreRight_63 : decode cX1_exportsAreRight 63 = .ok (.iload_n 2, 1) := by decide +kernel
theorem dX1_exportsAreRight_64 : decode cX1_exportsAreRight 64 = .ok (.ifCond .ne 9, 3) := by decide +kernel
theorem dX1_exportsAreRight_67 : decode cX1_exportsAreRight 67 = .ok (.aload_n 0, 1) := by decide +kernel
theorem dX1_exportsAreRight_68 : decode cX1_exportsAreRight 68 = .ok (.iload_n 3, 1) := by decide +kernel
theorem dX1_exportsAreRight_69 : decode cX1_exportsAreRight 69 = .ok (.i2l, 1) := by decide +kernel
theorem dX1_exportsAreRight_70 : decode cX1_exportsAreRight 70 = .ok (.invokevirtual 150, 3) := by decide +kernel
theorem dX1_exportsAreRight_73 : decode cX1_exportsAreRight 73 = .ok (.iconst 0, 1) := by decide +kernel
theorem dX1_exportsAreRight_74 : decode cX1_exportsAreRight 74 = .ok (.istore 4, 2) := by decide +kernel
theorem dX1_exportsAreRight_76 : decode cX1_exportsAreRight 76 = .ok (.iload 4, 2) := by decide +kernel
theorem dX1_exportsAreRight_78 : decode cX1_exportsAreRight 78 = .ok (.iload_n 1, 1) := by decide +kernel
theorem dX1_exportsAreRight_79 : decode cX1_exportsAreRight 79 = .ok (.if_icmp .ge 27, 3) := by decide +kernel
theorem dX1_exportsAreRight_82 : decode cX1_exportsAreRight 82 = .ok (.aload_n 0, 1) := by decide +kernel
theorem dX1_exportsAreRight_83 : decode cX1_exportsAreRight 83 = .ok (.iload_n 1, 1) := by decide +kernel
theorem dX1_exportsAreRight_84 : decode cX1_exportsAreRight 84 = .ok (.iload 4, 2) := by decide +kernel
theorem dX1_exportsAreRight_86 : decode cX1_exportsAreRight 86 = .ok (.invokevirtual 154, 3) := by decide +kernel
theorem dX1_exportsAreRight_89 : decode cX1_exportsAreRight 89 = .ok (.ifCond .eq 11, 3) := by decide +kernel
theorem dX1_exportsAreRight_92 : decode cX1_exportsAreRight 92 = .ok (.aload_n 0, 1) := by decide +kernel
theorem dX1_exportsAreRight_93 : decode cX1_exportsAreRight 93 = .ok (.bipush 23, 2) := by decide +kernel
theorem dX1_exportsAreRight_95 : decode cX1_exportsAreRight 95 = .ok (.bipush 7, 2) := by decide +kernel
theorem dX1_exportsAreRight_97 : decode cX1_exportsAreRight 97 = .ok (.invokevirtual 119, 3) := by decide +kernel
theorem dX1_exportsAreRight_100 : decode cX1_exportsAreRight 100 = .ok (.iinc 4 4, 3) := by decide +kernel
theorem dX1_exportsAreRight_103 : decode cX1_exportsAreRight 103 = .ok (.goto (-27), 3) := by decide +kernel
theorem dX1_exportsAreRight_106 : decode cX1_exportsAreRight 106 = .ok (.iinc 1 4, 3) := by decide +kernel
theorem dX1_exportsAreRight_109 : decode cX1_exportsAreRight 109 = .ok (.goto (-107), 3) := by decide +kernel
theorem dX1_exportsAreRight_112 : decode cX1_exportsAreRight 112 = .ok (.return_, 1) := by decide +kernel
noncomputable def tX1_exportsAreRight_2 (x0 : Nat) (x1 : Int32) (h : pm_H) : Option (((Nat × Int32 × pm_H) ⊕ (Nat × Int32 × Int32 × pm_H)) ⊕ pm_H) := if pm_kd h x0 = 1 then (pm_R h x0 2).bind fun v2 => if pm_kd h v2 = 7 then (pm_R h v2 8).bind fun v5 => if pm_kd h v5 = 34 then if (Int32.ofNat (pm_ln h v5)) ≤ x1 then (some (.inr (h))) else ((fX12_item h v5 (x1 + 2)).bind fun v9 => (fX12_item h v5 (x1 + 3)).bind fun v11 => (fX7_has h v2 v9 v11.toInt64).bind fun v13 => if v13 = 0 then ((fX1_failSection h x0 24 7).bind fun v19 => if v9 = 0 then (if pm_kd v19 x0 = 1 then (fX1_declare v19 x0 v11.toInt64).bind fun v23 => some (.inl (.inr ((x0, x1, 0, v23)))) else none) else (some (.inl (.inr ((x0, x1, 0, v19)))))) else (if v9 = 0 then ((fX1_declare h x0 v11.toInt64).bind fun v17 => some (.inl (.inr ((x0, x1, 0, v17))))) else (some (.inl (.inr ((x0, x1, 0, h))))))) else none else none else none
noncomputable def tX1_exportsAreRight_76 (x0 : Nat) (x1 : Int32) (x4 : Int32) (h : pm_H) : Option (((Nat × Int32 × pm_H) ⊕ (Nat × Int32 × Int32 × pm_H)) ⊕ pm_H) := if x1 ≤ x4 then (pm_let (x1 + 4) fun y26 => some (.inl (.inl ((x0, y26, h))))) else (if pm_kd h x0 = 1 then (fX1_isSameName h x0 x1 x4).bind fun v29 => if v29 = 0 then (pm_let (x4 + 4) fun y32 => some (.inl (.inr ((x0, x1, y32, h))))) else ((fX1_failSection h x0 23 7).bind fun v34 => pm_let (x4 + 4) fun y36 => some (.inl (.inr ((x0, x1, y36, v34))))) else none)
noncomputable def sX1_exportsAreRight : ((Nat × Int32 × pm_H) ⊕ (Nat × Int32 × Int32 × pm_H)) → Option (((Nat × Int32 × pm_H) ⊕ (Nat × Int32 × Int32 × pm_H)) ⊕ pm_H) := fun z => match z with
  | .inl (x0, x1, h) => tX1_exportsAreRight_2 x0 x1 h
  | .inr (x0, x1, x4, h) => tX1_exportsAreRight_76 x0 x1 x4 h
noncomputable def fX1_exportsAreRight (h : pm_H) (a0 : Nat) : Option pm_H := pm_lim sX1_exportsAreRight (.inl ((a0, 0, h)))
set_option maxHeartbeats 4000000 in
set_option maxRecDepth 100000 in
theorem lpX1_exportsAreRight {g : pm_Gm} {l : Launch} {G : pm_Gl} {Qr : Option Value → pm_H → Prop} (C : pm_C g cX1_exportsAreRight RX1) (X : pm_X g l G mX1_exportsAreRight 0 0 Qr) {r : pm_H} (q : Qr none r) : ∀ n : Nat, (∀ (x0 : Nat) (x1 : Int32) (h : pm_H), pm_iter sX1_exportsAreRight n (.inl (x0, x1, h)) = some r → pm_G g 2 [(0, .ref x0), (1, .int x1)] [] h 0 0) ∧ (∀ (x0 : Nat) (x1 : Int32) (x4 : Int32) (h : pm_H), pm_iter sX1_exportsAreRight n (.inr (x0, x1, x4, h)) = some r → pm_G g 76 [(0, .ref x0), (1, .int x1), (4, .int x4)] [] h 0 0) := by
  intro n
  induction n with
  | zero => exact ⟨fun _ _ _ hf => (by cases hf), fun _ _ _ _ hf => (by cases hf)⟩
  | succ n ih =>
    refine ⟨fun x0 x1 h hf => ?_, ?_⟩
    · obtain ⟨y, hf, hi⟩ := pm_iter_s hf
      have hf : tX1_exportsAreRight_2 x0 x1 h = some y := hf
      unfold tX1_exportsAreRight_2 at hf
      refine pm_iload_n C dX1_exportsAreRight_2 rfl rfl ?_
      refine pm_aload_n C dX1_exportsAreRight_3 rfl rfl ?_
      obtain ⟨k1, hf⟩ := pm_if hf
      obtain ⟨v2, e3, hf⟩ := pm_bd hf
      refine pm_getR C dX1_exportsAreRight_4 flX1_40 rfl k1 e3 ?_
      obtain ⟨k4, hf⟩ := pm_if hf
      obtain ⟨v5, e6, hf⟩ := pm_bd hf
      refine pm_getR C dX1_exportsAreRight_7 flX1_143 rfl k4 e6 ?_
      obtain ⟨k7, hf⟩ := pm_if hf
      refine pm_alen (t := 2) C dX1_exportsAreRight_10 (by decide) k7 rfl ?_
      refine pm_icmp_ge (tgt := 112) C dX1_exportsAreRight_11 (by decide) (fun c8 => ?_) (fun c8 => ?_)
      · have hf := pm_it hf c8
        cases hf
        cases hi
        exact pm_vret C X dX1_exportsAreRight_112 rfl (Nat.le_refl _) (Nat.le_refl _) q
      · have hf := pm_ie hf c8
        refine pm_aload_n C dX1_exportsAreRight_14 rfl rfl ?_
        refine pm_getR C dX1_exportsAreRight_15 flX1_40 rfl k1 e3 ?_
        refine pm_getR C dX1_exportsAreRight_18 flX1_143 rfl k4 e6 ?_
        refine pm_iload_n C dX1_exportsAreRight_21 rfl rfl ?_
        refine pm_iconst (v := 2) C dX1_exportsAreRight_22 (by decide) ?_
        refine pm_iadd C dX1_exportsAreRight_23 ?_
        obtain ⟨v9, e10, hf⟩ := pm_bd hf
        refine pm_callS (as := [.ref v5, .int (x1 + 2)]) (st := []) C X dX1_exportsAreRight_24 lnX1_105 myX12_item stX12_item ⟨by decide, by decide⟩ rfl rfl (Nat.le_of_ble_eq_true rfl) (Nat.le_refl _) (Nat.le_refl _) (ctX12_item e10 ?_)
        show pm_G g 27 [(0, .ref x0), (1, .int x1)] [.int v9] h 0 0
        refine pm_istore_n (lv' := [(2, .int v9), (0, .ref x0), (1, .int x1)]) C dX1_exportsAreRight_27 rfl (pm_nl X (by decide)) rfl ?_
        refine pm_aload_n C dX1_exportsAreRight_28 rfl rfl ?_
        refine pm_getR C dX1_exportsAreRight_29 flX1_40 rfl k1 e3 ?_
        refine pm_getR C dX1_exportsAreRight_32 flX1_143 rfl k4 e6 ?_
        refine pm_iload_n C dX1_exportsAreRight_35 rfl rfl ?_
        refine pm_iconst (v := 3) C dX1_exportsAreRight_36 (by decide) ?_
        refine pm_iadd C dX1_exportsAreRight_37 ?_
        obtain ⟨v11, e12, hf⟩ := pm_bd hf
        refine pm_callS (as := [.ref v5, .int (x1 + 3)]) (st := []) C X dX1_exportsAreRight_38 lnX1_105 myX12_item stX12_item ⟨by decide, by decide⟩ rfl rfl (Nat.le_of_ble_eq_true rfl) (Nat.le_refl _) (Nat.le_refl _) (ctX12_item e12 ?_)
        show pm_G g 41 [(2, .int v9), (0, .ref x0), (1, .int x1)] [.int v11] h 0 0
        refine pm_istore_n (lv' := [(3, .int v11), (2, .int v9), (0, .ref x0), (1, .int x1)]) C dX1_exportsAreRight_41 rfl (pm_nl X (by decide)) rfl ?_
        refine pm_aload_n C dX1_exportsAreRight_42 rfl rfl ?_
        refine pm_getR C dX1_exportsAreRight_43 flX1_40 rfl k1 e3 ?_
        refine pm_iload_n C dX1_exportsAreRight_46 rfl rfl ?_
        refine pm_iload_n C dX1_exportsAreRight_47 rfl rfl ?_
        refine pm_i2l C dX1_exportsAreRight_48 ?_
        obtain ⟨v13, e14, hf⟩ := pm_bd hf
        refine pm_callV (as := [.int v9, .long v11.toInt64]) (st := []) C X dX1_exportsAreRight_49 lnX1_146 myX7_has viX7_has ⟨by decide, by decide⟩ rfl rfl k4 (Nat.le_of_ble_eq_true rfl) (Nat.le_refl _) (Nat.le_refl _) (ctX7_has e14 ?_)
        show pm_G g 52 [(3, .int v11), (2, .int v9), (0, .ref x0), (1, .int x1)] [.int v13] h 0 0
        refine pm_if_ne (tgt := 63) C dX1_exportsAreRight_52 (by decide) (fun c15 => ?_) (fun c15 => ?_)
        · have hf := pm_ie hf c15
          refine pm_iload_n C dX1_exportsAreRight_63 rfl rfl ?_
          refine pm_if_ne (tgt := 73) C dX1_exportsAreRight_64 (by decide) (fun c16 => ?_) (fun c16 => ?_)
          · have hf := pm_ie hf c16
            refine pm_iconst (v := 0) C dX1_exportsAreRight_73 (by decide) ?_
            refine pm_istore (lv' := [(4, .int 0), (3, .int v11), (2, .int v9), (0, .ref x0), (1, .int x1)]) C dX1_exportsAreRight_74 (pm_nl X (by decide)) rfl ?_
            cases hf
            exact pm_sub [3, 4, 0] rfl (ih.2 x0 x1 0 h hi)
          · have hf := pm_it hf c16
            refine pm_aload_n C dX1_exportsAreRight_67 rfl rfl ?_
            refine pm_iload_n C dX1_exportsAreRight_68 rfl rfl ?_
            refine pm_i2l C dX1_exportsAreRight_69 ?_
            obtain ⟨v17, e18, hf⟩ := pm_bd hf
            refine pm_callV (as := [.long v11.toInt64]) (st := []) C X dX1_exportsAreRight_70 lnX1_150 myX1_declare viX1_declare ⟨by decide, by decide⟩ rfl rfl k1 (Nat.le_of_ble_eq_true rfl) (Nat.le_refl _) (Nat.le_refl _) (ctX1_declare e18 ?_)
            show pm_G g 73 [(3, .int v11), (2, .int v9), (0, .ref x0), (1, .int x1)] [] v17 0 0
            refine pm_iconst (v := 0) C dX1_exportsAreRight_73 (by decide) ?_
            refine pm_istore (lv' := [(4, .int 0), (3, .int v11), (2, .int v9), (0, .ref x0), (1, .int x1)]) C dX1_exportsAreRight_74 (pm_nl X (by decide)) rfl ?_
            cases hf
            exact pm_sub [3, 4, 0] rfl (ih.2 x0 x1 0 v17 hi)
        · have hf := pm_it hf c15
          refine pm_aload_n C dX1_exportsAreRight_55 rfl rfl ?_
          refine pm_bipush (v := 24) C dX1_exportsAreRight_56 (by decide) ?_
          refine pm_bipush (v := 7) C dX1_exportsAreRight_58 (by decide) ?_
          obtain ⟨v19, e20, hf⟩ := pm_bd hf
          refine pm_callV (as := [.int 24, .int 7]) (st := []) C X dX1_exportsAreRight_60 lnX1_119 myX1_failSection viX1_failSection ⟨by decide, by decide⟩ rfl rfl k1 (Nat.le_of_ble_eq_true rfl) (Nat.le_refl _) (Nat.le_refl _) (ctX1_failSection e20 ?_)
          show pm_G g 63 [(3, .int v11), (2, .int v9), (0, .ref x0), (1, .int x1)] [] v19 0 0
          refine pm_iload_n C dX1_exportsAreRight_63 rfl rfl ?_
          refine pm_if_ne (tgt := 73) C dX1_exportsAreRight_64 (by decide) (fun c21 => ?_) (fun c21 => ?_)
          · have hf := pm_ie hf c21
            refine pm_iconst (v := 0) C dX1_exportsAreRight_73 (by decide) ?_
            refine pm_istore (lv' := [(4, .int 0), (3, .int v11), (2, .int v9), (0, .ref x0), (1, .int x1)]) C dX1_exportsAreRight_74 (pm_nl X (by decide)) rfl ?_
            cases hf
            exact pm_sub [3, 4, 0] rfl (ih.2 x0 x1 0 v19 hi)
          · have hf := pm_it hf c21
            refine pm_aload_n C dX1_exportsAreRight_67 rfl rfl ?_
            refine pm_iload_n C dX1_exportsAreRight_68 rfl rfl ?_
            refine pm_i2l C dX1_exportsAreRight_69 ?_
            obtain ⟨k22, hf⟩ := pm_if hf
            obtain ⟨v23, e24, hf⟩ := pm_bd hf
            refine pm_callV (as := [.long v11.toInt64]) (st := []) C X dX1_exportsAreRight_70 lnX1_150 myX1_declare viX1_declare ⟨by decide, by decide⟩ rfl rfl k22 (Nat.le_of_ble_eq_true rfl) (Nat.le_refl _) (Nat.le_refl _) (ctX1_declare e24 ?_)
            show pm_G g 73 [(3, .int v11), (2, .int v9), (0, .ref x0), (1, .int x1)] [] v23 0 0
            refine pm_iconst (v := 0) C dX1_exportsAreRight_73 (by decide) ?_
            refine pm_istore (lv' := [(4, .int 0), (3, .int v11), (2, .int v9), (0, .ref x0), (1, .int x1)]) C dX1_exportsAreRight_74 (pm_nl X (by decide)) rfl ?_
            cases hf
            exact pm_sub [3, 4, 0] rfl (ih.2 x0 x1 0 v23 hi)
    refine fun x0 x1 x4 h hf => ?_
    obtain ⟨y, hf, hi⟩ := pm_iter_s hf
    have hf : tX1_exportsAreRight_76 x0 x1 x4 h = some y := hf
    unfold tX1_exportsAreRight_76 at hf
    refine pm_iload C dX1_exportsAreRight_76 rfl ?_
    refine pm_iload_n C dX1_exportsAreRight_78 rfl rfl ?_
    refine pm_icmp_ge (tgt := 106) C dX1_exportsAreRight_79 (by decide) (fun c25 => ?_) (fun c25 => ?_)
    · have hf := pm_it hf c25
      obtain ⟨y26, e27, hf⟩ := pm_lt hf
      refine pm_iinc (v := y26) (lv' := [(1, .int y26), (0, .ref x0), (4, .int x4)]) C dX1_exportsAreRight_106 rfl ((congrArg (x1 + ·) (by decide : Int32.ofInt 4 = 4)).trans e27) (pm_nl X (by decide)) rfl ?_
      refine pm_goto (tgt := 2) C dX1_exportsAreRight_109 (by decide) ?_
      cases hf
      exact pm_sub [1, 0] rfl (ih.1 x0 y26 h hi)
    · have hf := pm_ie hf c25
      refine pm_aload_n C dX1_exportsAreRight_82 rfl rfl ?_
      refine pm_iload_n C dX1_exportsAreRight_83 rfl rfl ?_
      refine pm_iload C dX1_exportsAreRight_84 rfl ?_
      obtain ⟨k28, hf⟩ := pm_if hf
      obtain ⟨v29, e30, hf⟩ := pm_bd hf
      refine pm_callV (as := [.int x1, .int x4]) (st := []) C X dX1_exportsAreRight_86 lnX1_154 myX1_isSameName viX1_isSameName ⟨by decide, by decide⟩ rfl rfl k28 (Nat.le_of_ble_eq_true rfl) (Nat.le_refl _) (Nat.le_refl _) (ctX1_isSameName e30 ?_)
      show pm_G g 89 [(0, .ref x0), (1, .int x1), (4, .int x4)] [.int v29] h 0 0
      refine pm_if_eq (tgt := 100) C dX1_exportsAreRight_89 (by decide) (fun c31 => ?_) (fun c31 => ?_)
      · have hf := pm_it hf c31
        obtain ⟨y32, e33, hf⟩ := pm_lt hf
        refine pm_iinc (v := y32) (lv' := [(4, .int y32), (0, .ref x0), (1, .int x1)]) C dX1_exportsAreRight_100 rfl ((congrArg (x4 + ·) (by decide : Int32.ofInt 4 = 4)).trans e33) (pm_nl X (by decide)) rfl ?_
        refine pm_goto (tgt := 76) C dX1_exportsAreRight_103 (by decide) ?_
        cases hf
        exact pm_sub [1, 2, 0] rfl (ih.2 x0 x1 y32 h hi)
      · have hf := pm_ie hf c31
        refine pm_aload_n C dX1_exportsAreRight_92 rfl rfl ?_
        refine pm_bipush (v := 23) C dX1_exportsAreRight_93 (by decide) ?_
        refine pm_bipush (v := 7) C dX1_exportsAreRight_95 (by decide) ?_
        obtain ⟨v34, e35, hf⟩ := pm_bd hf
        refine pm_callV (as := [.int 23, .int 7]) (st := []) C X dX1_exportsAreRight_97 lnX1_119 myX1_failSection viX1_failSection ⟨by decide, by decide⟩ rfl rfl k28 (Nat.le_of_ble_eq_true rfl) (Nat.le_refl _) (Nat.le_refl _) (ctX1_failSection e35 ?_)
        show pm_G g 100 [(0, .ref x0), (1, .int x1), (4, .int x4)] [] v34 0 0
        obtain ⟨y36, e37, hf⟩ := pm_lt hf
        refine pm_iinc (v := y36) (lv' := [(4, .int y36), (0, .ref x0), (1, .int x1)]) C dX1_exportsAreRight_100 rfl ((congrArg (x4 + ·) (by decide : Int32.ofInt 4 = 4)).trans e37) (pm_nl X (by decide)) rfl ?_
        refine pm_goto (tgt := 76) C dX1_exportsAreRight_103 (by decide) ?_
        cases hf
        exact pm_sub [1, 2, 0] rfl (ih.2 x0 x1 y36 v34 hi)
set_option maxHeartbeats 4000000 in
set_option maxRecDepth 100000 in
theorem ctX1_exportsAreRight {l : Launch} {G : pm_Gl} {h : pm_H} {a0 : Nat} {r : pm_H} {Qr : Option Value → pm_H → Prop} (hf : fX1_exportsAreRight h a0 = some r) (q : Qr none r) : pm_Ct l G mX1_exportsAreRight [.ref a0] h 0 0 Qr := by
  refine pm_body pnX1 (Nat.le_of_ble_eq_true rfl) (fun g C X => ?_)
  have C : pm_C g cX1_exportsAreRight RX1 := C
  show pm_G g 0 [(0, .ref a0)] [] h 0 0
  unfold fX1_exportsAreRight at hf
  refine pm_iconst (v := 0) C dX1_exportsAreRight_0 (by decide) ?_
  refine pm_istore_n (lv' := [(1, .int 0), (0, .ref a0)]) C dX1_exportsAreRight_1 rfl (pm_nl X (by decide)) rfl ?_
  obtain ⟨n, hn⟩ := pm_lim_iter hf
  exact pm_sub [1, 0] rfl ((lpX1_exportsAreRight C X q n).1 a0 0 h hn)
theorem dX1_limitsAreRight_0 : decode cX1_limitsAreRight 0 = .ok (.iconst 0, 1) := by decide +kernel
theorem dX1_limitsAreRight_1 : decode cX1_limitsAreRight 1 = .ok (.istore_n 1, 1) := by decide +kernel
theorem dX1_limitsAreRight_2 : decode cX1_limitsAreRight 2 = .ok (.iload_n 1, 1) := by decide +kernel
theorem dX1_limitsAreRight_3 : decode cX1_limitsAreRight 3 = .ok (.aload_n 0, 1) := by decide +kernel
theorem dX1_limitsAreRight_4 : decode cX1_limitsAreRight 4 = .ok (.getfield 40, 3) := by decide +kernel
theorem dX1_limitsAreRight_7 : decode cX1_limitsAreRight 7 = .ok (.getfield 109, 3) := by decide +kernel
theorem dX1_limitsAreRight_10 : decode cX1_limitsAreRight 10 = .ok (.arraylength, 1) := by decide +kernel
theorem dX1_limitsAreRight_11 : decode cX1_limitsAreRight 11 = .ok (.if_icmp .ge 30, 3) := by decide +kernel
theorem dX1_limitsAreRight_14 : decode cX1_limitsAreRight 14 = .ok (.aload_n 0, 1) := by decide +kernel
theorem dX1_limitsAreRight_15 : decode cX1_limitsAreRight 15 = .ok (.getfield 40, 3) := by decide +kernel
theorem dX1_limitsAreRight_18 : decode cX1_limitsAreRight 18 = .ok (.getfield 109, 3) := by decide +kernel
theorem dX1_limitsAreRight_21 : decode cX1_limitsAreRight 21 = .ok (.iload_n 1, 1) := by decide +kernel
theorem dX1_limitsAreRight_22 : decode cX1_limitsAreRight 22 = .ok (.invokestatic 126, 3) := by decide +kernel
theorem dX1_limitsAreRight_25 : decode cX1_limitsAreRight 25 = .ok (.ifCond .ne 10, 3) := by decide +kernel
theorem dX1_limitsAreRight_28 : decode cX1_limitsAreRight 28 = .ok (.aload_n 0, 1) := by decide +kernel
theorem dX1_limitsAreRight_29 : decode cX1_limitsAreRight 29 = .ok (.bipush 21, 2) := by decide +kernel
theorem dX1_limitsAreRight_31 : decode cX1_limitsAreRight 31 = .ok (.iconst 2, 1) := by decide +kernel
theorem dX1_limitsAreRight_32 : decode cX1_limitsAreRight 32 = .ok (.invokevirtual 119, 3) := by decide +kernel
theorem dX1_limitsAreRight_35 : decode cX1_limitsAreRight 35 = .ok (.iinc 1 6, 3) := by decide +kernel
theorem dX1_limitsAreRight_38 : decode cX1_limitsAreRight 38 = .ok (.goto (-36), 3) := by decide +kernel
theorem dX1_limitsAreRight_41 : decode cX1_limitsAreRight 41 = .ok (.aload_n 0, 1) := by decide +kernel
theorem dX1_limitsAreRight_42 : decode cX1_limitsAreRight 42 = .ok (.getfield 40, 3) := by decide +kernel
theorem dX1_limitsAreRight_45 : decode cX1_limitsAreRight 45 = .ok (.iconst 1, 1) := by decide +kernel
theorem dX1_limitsAreRight_46 : decode cX1_limitsAreRight 46 = .ok (.invokevirtual 130, 3) := by decide +kernel
theorem dX1_limitsAreRight_49 : decode cX1_limitsAreRight 49 = .ok (.istore_n 1, 1) := by decide +kernel
theorem dX1_limitsAreRight_50 : decode cX1_limitsAreRight 50 = .ok (.iload_n 1, 1) := by decide +kernel
theorem dX1_limitsAreRight_51 : decode cX1_limitsAreRight 51 = .ok (.aload_n 0, 1) := by decide +kernel
theorem dX1_limitsAreRight_52 : decode cX1_limitsAreRight 52 = .ok (.getfield 40, 3) := by decide +kernel
theorem dX1_limitsAreRight_55 : decode cX1_limitsAreRight 55 = .ok (.iconst 1, 1) := by decide +kernel
theorem dX1_limitsAreRight_56 : decode cX1_limitsAreRight 56 = .ok (.invokevirtual 60, 3) := by decide +kernel
theorem dX1_limitsAreRight_59 : decode cX1_limitsAreRight 59 = .ok (.if_icmp .ge 33, 3) := by decide +kernel
theorem dX1_limitsAreRight_62 : decode cX1_limitsAreRight 62 = .ok (.aload_n 0, 1) := by decide +kernel
theorem dX1_limitsAreRight_63 : decode cX1_limitsAreRight 63 = .ok (.getfield 40, 3) := by decide +kernel
theorem dX1_limitsAreRight_66 : decode cX1_limitsAreRight 66 = .ok (.getfield 133, 3) := by decide +kernel
theorem dX1_limitsAreRight_69 : decode cX1_limitsAreRight 69 = .ok (.iload_n 1, 1) := by decide +kernel
theorem dX1_limitsAreRight_70 : decode cX1_limitsAreRight 70 = .ok (.bipush 6, 2) := by decide +kernel
theorem dX1_limitsAreRight_72 : decode cX1_limitsAreRight 72 = .ok (.imul, 1) := by decide +kernel
theorem dX1_limitsAreRight_73 : decode cX1_limitsAreRight 73 = .ok (.invokestatic 126, 3) := by decide +kernel
theorem dX1_limitsAreRight_76 : decode cX1_limitsAreRight 76 = .ok (.ifCond .ne 10, 3) := by decide +kernel
theorem dX1_limitsAreRight_79 : decode cX1_limitsAreRight 79 = .ok (.aload_n 0, 1) := by decide +kernel
theorem dX1_limitsAreRight_80 : decode cX1_limitsAreRight 80 = .ok (.bipush 21, 2) := by decide +kernel
theorem dX1_limitsAreRight_82 : decode cX1_limitsAreRight 82 = .ok (.iconst 4, 1) := by decide +kernel
theorem dX1_limitsAreRight_83 : decode cX1_limitsAreRight 83 = .ok (.invokevirtual 119, 3) := by decide +kernel
theorem dX1_limitsAreRight_86 : decode cX1_limitsAreRight 86 = .ok (.iinc 1 1, 3) := by decide +kernel
theorem dX1_limitsAreRight_89 : decode cX1_limitsAreRight 89 = .ok (.goto (-39), 3) := by decide +kernel
theorem dX1_limitsAreRight_92 : decode cX1_limitsAreRight 92 = .ok (.aload_n 0, 1) := by decide +kernel
theorem dX1_limitsAreRight_93 : decode cX1_limitsAreRight 93 = .ok (.getfield 40, 3) := by decide +kernel
theorem dX1_limitsAreRight_96 : decode cX1_limitsAreRight 96 = .ok (.iconst 2, 1) := by decide +kernel
theorem dX1_limitsAreRight_97 : decode cX1_limitsAreRight 97 = .ok (.invokevirtual 130, 3) := by decide +kernel
theorem dX1_limitsAreRight_100 : decode cX1_limitsAreRight 100 = .ok (.istore_n 1, 1) := by decide +kernel
theorem dX1_limitsAreRight_101 : decode cX1_limitsAreRight 101 = .ok (.iload_n 1, 1) := by decide +kernel
theorem dX1_limitsAreRight_102 : decode cX1_limitsAreRight 102 = .ok (.aload_n 0, 1) := by decide +kernel
theorem dX1_limitsAreRight_103 : decode cX1_limitsAreRight 103 = .ok (.getfield 40, 3) := by decide +kernel
theorem dX1_limitsAreRight_106 : decode cX1_limitsAreRight 106 = .ok (.iconst 2, 1) := by decide +kernel
theorem dX1_limitsAreRight_107 : decode cX1_limitsAreRight 107 = .ok (.invokevirtual 60, 3) := by decide +kernel
theorem dX1_limitsAreRight_110 : decode cX1_limitsAreRight 110 = .ok (.if_icmp .ge 33, 3) := by decide +kernel
theorem dX1_limitsAreRight_113 : decode cX1_limitsAreRight 113 = .ok (.aload_n 0, 1) := by decide +kernel
theorem dX1_limitsAreRight_114 : decode cX1_limitsAreRight 114 = .ok (.getfield 40, 3) := by decide +kernel
theorem dX1_limitsAreRight_117 : decode cX1_limitsAreRight 117 = .ok (.getfield 136, 3) := by decide +kernel
theorem dX1_limitsAreRight_120 : decode cX1_limitsAreRight 120 = .ok (.iload_n 1, 1) := by decide +kernel
theorem dX1_limitsAreRight_121 : decode cX1_limitsAreRight 121 = .ok (.bipush 6, 2) := by decide +kernel
theorem dX1_limitsAreRight_123 : decode cX1_limitsAreRight 123 = .ok (.imul, 1) := by decide +kernel
theorem dX1_limitsAreRight_124 : decode cX1_limitsAreRight 124 = .ok (.invokestatic 126, 3) := by decide +kernel
theorem dX1_limitsAreRight_127 : decode cX1_limitsAreRight 127 = .ok (.ifCond .ne 10, 3) := by decide +kernel
theorem dX1_limitsAreRight_130 : decode cX1_limitsAreRight 130 = .ok (.aload_n 0, 1) := by decide +kernel
theorem dX1_limitsAreRight_131 : decode cX1_limitsAreRight 131 = .ok (.bipush 21, 2) := by decide +kernel
theorem dX1_limitsAreRight_133 : decode cX1_limitsAreRight 133 = .ok (.iconst 5, 1) := by decide +kernel
theorem dX1_limitsAreRight_134 : decode cX1_limitsAreRight 134 = .ok (.invokevirtual 119, 3) := by decide +kernel
theorem dX1_limitsAreRight_137 : decode cX1_limitsAreRight 137 = .ok (.iinc 1 1, 3) := by decide +kernel
theorem dX1_limitsAreRight_140 : decode cX1_limitsAreRight 140 = .ok (.goto (-39), 3) := by decide +kernel
theorem dX1_limitsAreRight_143 : decode cX1_limitsAreRight 143 = .ok (.return_, 1) := by decide +kernel
noncomputable def tX1_limitsAreRight_2 (x0 : Nat) (x1 : Int32) (h : pm_H) : Option (((Nat × Int32 × pm_H) ⊕ (Nat × Int32 × pm_H) ⊕ (Nat × Int32 × pm_H)) ⊕ pm_H) := if pm_kd h x0 = 1 then (pm_R h x0 2).bind fun v2 => if pm_kd h v2 = 7 then (pm_R h v2 3).bind fun v5 => if pm_kd h v5 = 35 then if (Int32.ofNat (pm_ln h v5)) ≤ x1 then ((fX7_imported h v2 1).bind fun v9 => some (.inl (.inr (.inl ((x0, v9, h)))))) else ((fX1_isLimited h v5 x1).bind fun v11 => if v11 = 0 then ((fX1_failSection h x0 21 2).bind fun v16 => pm_let (x1 + 6) fun y18 => some (.inl (.inl ((x0, y18, v16))))) else (pm_let (x1 + 6) fun y14 => some (.inl (.inl ((x0, y14, h)))))) else none else none else none
noncomputable def tX1_limitsAreRight_50 (x0 : Nat) (x1 : Int32) (h : pm_H) : Option (((Nat × Int32 × pm_H) ⊕ (Nat × Int32 × pm_H) ⊕ (Nat × Int32 × pm_H)) ⊕ pm_H) := if pm_kd h x0 = 1 then (pm_R h x0 2).bind fun v21 => if pm_kd h v21 = 7 then (fX7_count h v21 1).bind fun v24 => if v24 ≤ x1 then ((fX7_imported h v21 2).bind fun v27 => some (.inl (.inr (.inr ((x0, v27, h)))))) else ((pm_R h v21 5).bind fun v29 => (fX1_isLimited h v29 (x1 * 6)).bind fun v31 => if v31 = 0 then ((fX1_failSection h x0 21 4).bind fun v36 => pm_let (x1 + 1) fun y38 => some (.inl (.inr (.inl ((x0, y38, v36)))))) else (pm_let (x1 + 1) fun y34 => some (.inl (.inr (.inl ((x0, y34, h))))))) else none else none
noncomputable def tX1_limitsAreRight_101 (x0 : Nat) (x1 : Int32) (h : pm_H) : Option (((Nat × Int32 × pm_H) ⊕ (Nat × Int32 × pm_H) ⊕ (Nat × Int32 × pm_H)) ⊕ pm_H) := if pm_kd h x0 = 1 then (pm_R h x0 2).bind fun v41 => if pm_kd h v41 = 7 then (fX7_count h v41 2).bind fun v44 => if v44 ≤ x1 then (some (.inr (h))) else ((pm_R h v41 6).bind fun v47 => (fX1_isLimited h v47 (x1 * 6)).bind fun v49 => if v49 = 0 then ((fX1_failSection h x0 21 5).bind fun v54 => pm_let (x1 + 1) fun y56 => some (.inl (.inr (.inr ((x0, y56, v54)))))) else (pm_let (x1 + 1) fun y52 => some (.inl (.inr (.inr ((x0, y52, h))))))) else none else none
noncomputable def sX1_limitsAreRight : ((Nat × Int32 × pm_H) ⊕ (Nat × Int32 × pm_H) ⊕ (Nat × Int32 × pm_H)) → Option (((Nat × Int32 × pm_H) ⊕ (Nat × Int32 × pm_H) ⊕ (Nat × Int32 × pm_H)) ⊕ pm_H) := fun z => match z with
  | .inl (x0, x1, h) => tX1_limitsAreRight_2 x0 x1 h
  | .inr (.inl (x0, x1, h)) => tX1_limitsAreRight_50 x0 x1 h
  | .inr (.inr (x0, x1, h)) => tX1_limitsAreRight_101 x0 x1 h
noncomputable def fX1_limitsAreRight (h : pm_H) (a0 : Nat) : Option pm_H := pm_lim sX1_limitsAreRight (.inl ((a0, 0, h)))
set_option maxHeartbeats 4000000 in
set_option maxRecDepth 100000 in
theorem lpX1_limitsAreRight {g : pm_Gm} {l : Launch} {G : pm_Gl} {Qr : Option Value → pm_H → Prop} (C : pm_C g cX1_limitsAreRight RX1) (X : pm_X g l G mX1_limitsAreRight 0 0 Qr) {r : pm_H} (q : Qr none r) : ∀ n : Nat, (∀ (x0 : Nat) (x1 : Int32) (h : pm_H), pm_iter sX1_limitsAreRight n (.inl (x0, x1, h)) = some r → pm_G g 2 [(0, .ref x0), (1, .int x1)] [] h 0 0) ∧ (∀ (x0 : Nat) (x1 : Int32) (h : pm_H), pm_iter sX1_limitsAreRight n (.inr (.inl (x0, x1, h))) = some r → pm_G g 50 [(0, .ref x0), (1, .int x1)] [] h 0 0) ∧ (∀ (x0 : Nat) (x1 : Int32) (h : pm_H), pm_iter sX1_limitsAreRight n (.inr (.inr (x0, x1, h))) = some r → pm_G g 101 [(0, .ref x0), (1, .int x1)] [] h 0 0) := by
  intro n
  induction n with
  | zero => exact ⟨fun _ _ _ hf => (by cases hf), fun _ _ _ hf => (by cases hf), fun _ _ _ hf => (by cases hf)⟩
  | succ n ih =>
    refine ⟨fun x0 x1 h hf => ?_, ?_⟩
    · obtain ⟨y, hf, hi⟩ := pm_iter_s hf
      have hf : tX1_limitsAreRight_2 x0 x1 h = some y := hf
      unfold tX1_limitsAreRight_2 at hf
      refine pm_iload_n C dX1_limitsAreRight_2 rfl rfl ?_
      refine pm_aload_n C dX1_limitsAreRight_3 rfl rfl ?_
      obtain ⟨k1, hf⟩ := pm_if hf
      obtain ⟨v2, e3, hf⟩ := pm_bd hf
      refine pm_getR C dX1_limitsAreRight_4 flX1_40 rfl k1 e3 ?_
      obtain ⟨k4, hf⟩ := pm_if hf
      obtain ⟨v5, e6, hf⟩ := pm_bd hf
      refine pm_getR C dX1_limitsAreRight_7 flX1_109 rfl k4 e6 ?_
      obtain ⟨k7, hf⟩ := pm_if hf
      refine pm_alen (t := 3) C dX1_limitsAreRight_10 (by decide) k7 rfl ?_
      refine pm_icmp_ge (tgt := 41) C dX1_limitsAreRight_11 (by decide) (fun c8 => ?_) (fun c8 => ?_)
      · have hf := pm_it hf c8
        refine pm_aload_n C dX1_limitsAreRight_41 rfl rfl ?_
        refine pm_getR C dX1_limitsAreRight_42 flX1_40 rfl k1 e3 ?_
        refine pm_iconst (v := 1) C dX1_limitsAreRight_45 (by decide) ?_
        obtain ⟨v9, e10, hf⟩ := pm_bd hf
        refine pm_callV (as := [.int 1]) (st := []) C X dX1_limitsAreRight_46 lnX1_130 myX7_imported viX7_imported ⟨by decide, by decide⟩ rfl rfl k4 (Nat.le_of_ble_eq_true rfl) (Nat.le_refl _) (Nat.le_refl _) (ctX7_imported e10 ?_)
        show pm_G g 49 [(0, .ref x0), (1, .int x1)] [.int v9] h 0 0
        refine pm_istore_n (lv' := [(1, .int v9), (0, .ref x0)]) C dX1_limitsAreRight_49 rfl (pm_nl X (by decide)) rfl ?_
        cases hf
        exact pm_sub [1, 0] rfl (ih.2.1 x0 v9 h hi)
      · have hf := pm_ie hf c8
        refine pm_aload_n C dX1_limitsAreRight_14 rfl rfl ?_
        refine pm_getR C dX1_limitsAreRight_15 flX1_40 rfl k1 e3 ?_
        refine pm_getR C dX1_limitsAreRight_18 flX1_109 rfl k4 e6 ?_
        refine pm_iload_n C dX1_limitsAreRight_21 rfl rfl ?_
        obtain ⟨v11, e12, hf⟩ := pm_bd hf
        refine pm_callS (as := [.ref v5, .int x1]) (st := []) C X dX1_limitsAreRight_22 lnX1_126 myX1_isLimited stX1_isLimited ⟨by decide, by decide⟩ rfl rfl (Nat.le_of_ble_eq_true rfl) (Nat.le_refl _) (Nat.le_refl _) (ctX1_isLimited e12 ?_)
        show pm_G g 25 [(0, .ref x0), (1, .int x1)] [.int v11] h 0 0
        refine pm_if_ne (tgt := 35) C dX1_limitsAreRight_25 (by decide) (fun c13 => ?_) (fun c13 => ?_)
        · have hf := pm_ie hf c13
          obtain ⟨y14, e15, hf⟩ := pm_lt hf
          refine pm_iinc (v := y14) (lv' := [(1, .int y14), (0, .ref x0)]) C dX1_limitsAreRight_35 rfl ((congrArg (x1 + ·) (by decide : Int32.ofInt 6 = 6)).trans e15) (pm_nl X (by decide)) rfl ?_
          refine pm_goto (tgt := 2) C dX1_limitsAreRight_38 (by decide) ?_
          cases hf
          exact pm_sub [1, 0] rfl (ih.1 x0 y14 h hi)
        · have hf := pm_it hf c13
          refine pm_aload_n C dX1_limitsAreRight_28 rfl rfl ?_
          refine pm_bipush (v := 21) C dX1_limitsAreRight_29 (by decide) ?_
          refine pm_iconst (v := 2) C dX1_limitsAreRight_31 (by decide) ?_
          obtain ⟨v16, e17, hf⟩ := pm_bd hf
          refine pm_callV (as := [.int 21, .int 2]) (st := []) C X dX1_limitsAreRight_32 lnX1_119 myX1_failSection viX1_failSection ⟨by decide, by decide⟩ rfl rfl k1 (Nat.le_of_ble_eq_true rfl) (Nat.le_refl _) (Nat.le_refl _) (ctX1_failSection e17 ?_)
          show pm_G g 35 [(0, .ref x0), (1, .int x1)] [] v16 0 0
          obtain ⟨y18, e19, hf⟩ := pm_lt hf
          refine pm_iinc (v := y18) (lv' := [(1, .int y18), (0, .ref x0)]) C dX1_limitsAreRight_35 rfl ((congrArg (x1 + ·) (by decide : Int32.ofInt 6 = 6)).trans e19) (pm_nl X (by decide)) rfl ?_
          refine pm_goto (tgt := 2) C dX1_limitsAreRight_38 (by decide) ?_
          cases hf
          exact pm_sub [1, 0] rfl (ih.1 x0 y18 v16 hi)
    refine ⟨fun x0 x1 h hf => ?_, ?_⟩
    · obtain ⟨y, hf, hi⟩ := pm_iter_s hf
      have hf : tX1_limitsAreRight_50 x0 x1 h = some y := hf
      unfold tX1_limitsAreRight_50 at hf
      refine pm_iload_n C dX1_limitsAreRight_50 rfl rfl ?_
      refine pm_aload_n C dX1_limitsAreRight_51 rfl rfl ?_
      obtain ⟨k20, hf⟩ := pm_if hf
      obtain ⟨v21, e22, hf⟩ := pm_bd hf
      refine pm_getR C dX1_limitsAreRight_52 flX1_40 rfl k20 e22 ?_
      refine pm_iconst (v := 1) C dX1_limitsAreRight_55 (by decide) ?_
      obtain ⟨k23, hf⟩ := pm_if hf
      obtain ⟨v24, e25, hf⟩ := pm_bd hf
      refine pm_callV (as := [.int 1]) (st := [.int x1]) C X dX1_limitsAreRight_56 lnX1_60 myX7_count viX7_count ⟨by decide, by decide⟩ rfl rfl k23 (Nat.le_of_ble_eq_true rfl) (Nat.le_refl _) (Nat.le_refl _) (ctX7_count e25 ?_)
      show pm_G g 59 [(0, .ref x0), (1, .int x1)] [.int v24, .int x1] h 0 0
      refine pm_icmp_ge (tgt := 92) C dX1_limitsAreRight_59 (by decide) (fun c26 => ?_) (fun c26 => ?_)
      · have hf := pm_it hf c26
        refine pm_aload_n C dX1_limitsAreRight_92 rfl rfl ?_
        refine pm_getR C dX1_limitsAreRight_93 flX1_40 rfl k20 e22 ?_
        refine pm_iconst (v := 2) C dX1_limitsAreRight_96 (by decide) ?_
        obtain ⟨v27, e28, hf⟩ := pm_bd hf
        refine pm_callV (as := [.int 2]) (st := []) C X dX1_limitsAreRight_97 lnX1_130 myX7_imported viX7_imported ⟨by decide, by decide⟩ rfl rfl k23 (Nat.le_of_ble_eq_true rfl) (Nat.le_refl _) (Nat.le_refl _) (ctX7_imported e28 ?_)
        show pm_G g 100 [(0, .ref x0), (1, .int x1)] [.int v27] h 0 0
        refine pm_istore_n (lv' := [(1, .int v27), (0, .ref x0)]) C dX1_limitsAreRight_100 rfl (pm_nl X (by decide)) rfl ?_
        cases hf
        exact pm_sub [1, 0] rfl (ih.2.2 x0 v27 h hi)
      · have hf := pm_ie hf c26
        refine pm_aload_n C dX1_limitsAreRight_62 rfl rfl ?_
        refine pm_getR C dX1_limitsAreRight_63 flX1_40 rfl k20 e22 ?_
        obtain ⟨v29, e30, hf⟩ := pm_bd hf
        refine pm_getR C dX1_limitsAreRight_66 flX1_133 rfl k23 e30 ?_
        refine pm_iload_n C dX1_limitsAreRight_69 rfl rfl ?_
        refine pm_bipush (v := 6) C dX1_limitsAreRight_70 (by decide) ?_
        refine pm_imul C dX1_limitsAreRight_72 ?_
        obtain ⟨v31, e32, hf⟩ := pm_bd hf
        refine pm_callS (as := [.ref v29, .int (x1 * 6)]) (st := []) C X dX1_limitsAreRight_73 lnX1_126 myX1_isLimited stX1_isLimited ⟨by decide, by decide⟩ rfl rfl (Nat.le_of_ble_eq_true rfl) (Nat.le_refl _) (Nat.le_refl _) (ctX1_isLimited e32 ?_)
        show pm_G g 76 [(0, .ref x0), (1, .int x1)] [.int v31] h 0 0
        refine pm_if_ne (tgt := 86) C dX1_limitsAreRight_76 (by decide) (fun c33 => ?_) (fun c33 => ?_)
        · have hf := pm_ie hf c33
          obtain ⟨y34, e35, hf⟩ := pm_lt hf
          refine pm_iinc (v := y34) (lv' := [(1, .int y34), (0, .ref x0)]) C dX1_limitsAreRight_86 rfl ((congrArg (x1 + ·) (by decide : Int32.ofInt 1 = 1)).trans e35) (pm_nl X (by decide)) rfl ?_
          refine pm_goto (tgt := 50) C dX1_limitsAreRight_89 (by decide) ?_
          cases hf
          exact pm_sub [1, 0] rfl (ih.2.1 x0 y34 h hi)
        · have hf := pm_it hf c33
          refine pm_aload_n C dX1_limitsAreRight_79 rfl rfl ?_
          refine pm_bipush (v := 21) C dX1_limitsAreRight_80 (by decide) ?_
          refine pm_iconst (v := 4) C dX1_limitsAreRight_82 (by decide) ?_
          obtain ⟨v36, e37, hf⟩ := pm_bd hf
          refine pm_callV (as := [.int 21, .int 4]) (st := []) C X dX1_limitsAreRight_83 lnX1_119 myX1_failSection viX1_failSection ⟨by decide, by decide⟩ rfl rfl k20 (Nat.le_of_ble_eq_true rfl) (Nat.le_refl _) (Nat.le_refl _) (ctX1_failSection e37 ?_)
          show pm_G g 86 [(0, .ref x0), (1, .int x1)] [] v36 0 0
          obtain ⟨y38, e39, hf⟩ := pm_lt hf
          refine pm_iinc (v := y38) (lv' := [(1, .int y38), (0, .ref x0)]) C dX1_limitsAreRight_86 rfl ((congrArg (x1 + ·) (by decide : Int32.ofInt 1 = 1)).trans e39) (pm_nl X (by decide)) rfl ?_
          refine pm_goto (tgt := 50) C dX1_limitsAreRight_89 (by decide) ?_
          cases hf
          exact pm_sub [1, 0] rfl (ih.2.1 x0 y38 v36 hi)
    refine fun x0 x1 h hf => ?_
    obtain ⟨y, hf, hi⟩ := pm_iter_s hf
    have hf : tX1_limitsAreRight_101 x0 x1 h = some y := hf
    unfold tX1_limitsAreRight_101 at hf
    refine pm_iload_n C dX1_limitsAreRight_101 rfl rfl ?_
    refine pm_aload_n C dX1_limitsAreRight_102 rfl rfl ?_
    obtain ⟨k40, hf⟩ := pm_if hf
    obtain ⟨v41, e42, hf⟩ := pm_bd hf
    refine pm_getR C dX1_limitsAreRight_103 flX1_40 rfl k40 e42 ?_
    refine pm_iconst (v := 2) C dX1_limitsAreRight_106 (by decide) ?_
    obtain ⟨k43, hf⟩ := pm_if hf
    obtain ⟨v44, e45, hf⟩ := pm_bd hf
    refine pm_callV (as := [.int 2]) (st := [.int x1]) C X dX1_limitsAreRight_107 lnX1_60 myX7_count viX7_count ⟨by decide, by decide⟩ rfl rfl k43 (Nat.le_of_ble_eq_true rfl) (Nat.le_refl _) (Nat.le_refl _) (ctX7_count e45 ?_)
    show pm_G g 110 [(0, .ref x0), (1, .int x1)] [.int v44, .int x1] h 0 0
    refine pm_icmp_ge (tgt := 143) C dX1_limitsAreRight_110 (by decide) (fun c46 => ?_) (fun c46 => ?_)
    · have hf := pm_it hf c46
      cases hf
      cases hi
      exact pm_vret C X dX1_limitsAreRight_143 rfl (Nat.le_refl _) (Nat.le_refl _) q
    · have hf := pm_ie hf c46
      refine pm_aload_n C dX1_limitsAreRight_113 rfl rfl ?_
      refine pm_getR C dX1_limitsAreRight_114 flX1_40 rfl k40 e42 ?_
      obtain ⟨v47, e48, hf⟩ := pm_bd hf
      refine pm_getR C dX1_limitsAreRight_117 flX1_136 rfl k43 e48 ?_
      refine pm_iload_n C dX1_limitsAreRight_120 rfl rfl ?_
      refine pm_bipush (v := 6) C dX1_limitsAreRight_121 (by decide) ?_
      refine pm_imul C dX1_limitsAreRight_123 ?_
      obtain ⟨v49, e50, hf⟩ := pm_bd hf
      refine pm_callS (as := [.ref v47, .int (x1 * 6)]) (st := []) C X dX1_limitsAreRight_124 lnX1_126 myX1_isLimited stX1_isLimited ⟨by decide, by decide⟩ rfl rfl (Nat.le_of_ble_eq_true rfl) (Nat.le_refl _) (Nat.le_refl _) (ctX1_isLimited e50 ?_)
      show pm_G g 127 [(0, .ref x0), (1, .int x1)] [.int v49] h 0 0
      refine pm_if_ne (tgt := 137) C dX1_limitsAreRight_127 (by decide) (fun c51 => ?_) (fun c51 => ?_)
      · have hf := pm_ie hf c51
        obtain ⟨y52, e53, hf⟩ := pm_lt hf
        refine pm_iinc (v := y52) (lv' := [(1, .int y52), (0, .ref x0)]) C dX1_limitsAreRight_137 rfl ((congrArg (x1 + ·) (by decide : Int32.ofInt 1 = 1)).trans e53) (pm_nl X (by decide)) rfl ?_
        refine pm_goto (tgt := 101) C dX1_limitsAreRight_140 (by decide) ?_
        cases hf
        exact pm_sub [1, 0] rfl (ih.2.2 x0 y52 h hi)
      · have hf := pm_it hf c51
        refine pm_aload_n C dX1_limitsAreRight_130 rfl rfl ?_
        refine pm_bipush (v := 21) C dX1_limitsAreRight_131 (by decide) ?_
        refine pm_iconst (v := 5) C dX1_limitsAreRight_133 (by decide) ?_
        obtain ⟨v54, e55, hf⟩ := pm_bd hf
        refine pm_callV (as := [.int 21, .int 5]) (st := []) C X dX1_limitsAreRight_134 lnX1_119 myX1_failSection viX1_failSection ⟨by decide, by decide⟩ rfl rfl k40 (Nat.le_of_ble_eq_true rfl) (Nat.le_refl _) (Nat.le_refl _) (ctX1_failSection e55 ?_)
        show pm_G g 137 [(0, .ref x0), (1, .int x1)] [] v54 0 0
        obtain ⟨y56, e57, hf⟩ := pm_lt hf
        refine pm_iinc (v := y56) (lv' := [(1, .int y56), (0, .ref x0)]) C dX1_limitsAreRight_137 rfl ((congrArg (x1 + ·) (by decide : Int32.ofInt 1 = 1)).trans e57) (pm_nl X (by decide)) rfl ?_
        refine pm_goto (tgt := 101) C dX1_limitsAreRight_140 (by decide) ?_
        cases hf
        exact pm_sub [1, 0] rfl (ih.2.2 x0 y56 v54 hi)
set_option maxHeartbeats 4000000 in
set_option maxRecDepth 100000 in
theorem ctX1_limitsAreRight {l : Launch} {G : pm_Gl} {h : pm_H} {a0 : Nat} {r : pm_H} {Qr : Option Value → pm_H → Prop} (hf : fX1_limitsAreRight h a0 = some r) (q : Qr none r) : pm_Ct l G mX1_limitsAreRight [.ref a0] h 0 0 Qr := by
  refine pm_body pnX1 (Nat.le_of_ble_eq_true rfl) (fun g C X => ?_)
  have C : pm_C g cX1_limitsAreRight RX1 := C
  show pm_G g 0 [(0, .ref a0)] [] h 0 0
  unfold fX1_limitsAreRight at hf
  refine pm_iconst (v := 0) C dX1_limitsAreRight_0 (by decide) ?_
  refine pm_istore_n (lv' := [(1, .int 0), (0, .ref a0)]) C dX1_limitsAreRight_1 rfl (pm_nl X (by decide)) rfl ?_
  obtain ⟨n, hn⟩ := pm_lim_iter hf
  exact pm_sub [1, 0] rfl ((lpX1_limitsAreRight C X q n).1 a0 0 h hn)
theorem dX1_memoryIsOne_0 : decode cX1_memoryIsOne 0 = .ok (.aload_n 0, 1) := by decide +kernel
theorem dX1_memoryIsOne_1 : decode cX1_memoryIsOne 1 = .ok (.getfield 40, 3) := by decide +kernel
theorem dX1_memoryIsOne_4 : decode cX1_memoryIsOne 4 = .ok (.iconst 2, 1) := by decide +kernel
theorem dX1_memoryIsOne_5 : decode cX1_memoryIsOne 5 = .ok (.invokevirtual 60, 3) := by decide +kernel
theorem dX1_memoryIsOne_8 : decode cX1_memoryIsOne 8 = .ok (.iconst 1, 1) := by decide +kernel
theorem dX1_memoryIsOne_9 : decode cX1_memoryIsOne 9 = .ok (.if_icmp .gt 4, 3) := by decide +kernel
theorem dX1_memoryIsOne_12 : decode cX1_memoryIsOne 12 = .ok (.return_, 1) := by decide +kernel
theorem dX1_memoryIsOne_13 : decode cX1_memoryIsOne 13 = .ok (.aload_n 0, 1) := by decide +kernel
theorem dX1_memoryIsOne_14 : decode cX1_memoryIsOne 14 = .ok (.bipush 22, 2) := by decide +kernel
theorem dX1_memoryIsOne_16 : decode cX1_memoryIsOne 16 = .ok (.aload_n 0, 1) := by decide +kernel
theorem dX1_memoryIsOne_17 : decode cX1_memoryIsOne 17 = .ok (.getfield 40, 3) := by decide +kernel
theorem dX1_memoryIsOne_20 : decode cX1_memoryIsOne 20 = .ok (.getfield 102, 3) := by decide +kernel
theorem dX1_memoryIsOne_23 : decode cX1_memoryIsOne 23 = .ok (.iconst 5, 1) := by decide +kernel
theorem dX1_memoryIsOne_24 : decode cX1_memoryIsOne 24 = .ok (.invokestatic 105, 3) := by decide +kernel
theorem dX1_memoryIsOne_27 : decode cX1_memoryIsOne 27 = .ok (.ifCond .lt 7, 3) := by decide +kernel
theorem dX1_memoryIsOne_30 : decode cX1_memoryIsOne 30 = .ok (.iconst 5, 1) := by decide +kernel
theorem dX1_memoryIsOne_31 : decode cX1_memoryIsOne 31 = .ok (.goto 4, 3) := by decide +kernel
theorem dX1_memoryIsOne_34 : decode cX1_memoryIsOne 34 = .ok (.iconst 2, 1) := by decide +kernel
theorem dX1_memoryIsOne_35 : decode cX1_memoryIsOne 35 = .ok (.invokevirtual 119, 3) := by decide +kernel
theorem dX1_memoryIsOne_38 : decode cX1_memoryIsOne 38 = .ok (.return_, 1) := by decide +kernel
def fX1_memoryIsOne (h : pm_H) (a0 : Nat) : Option pm_H := if pm_kd h a0 = 1 then (pm_R h a0 2).bind fun v2 => if pm_kd h v2 = 7 then (fX7_count h v2 2).bind fun v5 => if 1 < v5 then ((pm_R h v2 1).bind fun v8 => (fX12_item h v8 5).bind fun v10 => if v10 < 0 then ((fX1_failSection h a0 22 2).bind fun v13 => some v13) else ((fX1_failSection h a0 22 5).bind fun v15 => some v15)) else (some h) else none else none
set_option maxHeartbeats 4000000 in
set_option maxRecDepth 100000 in
theorem ctX1_memoryIsOne {l : Launch} {G : pm_Gl} {h : pm_H} {a0 : Nat} {r : pm_H} {Qr : Option Value → pm_H → Prop} (hf : fX1_memoryIsOne h a0 = some r) (q : Qr none r) : pm_Ct l G mX1_memoryIsOne [.ref a0] h 0 0 Qr := by
  refine pm_body pnX1 (Nat.le_of_ble_eq_true rfl) (fun g C X => ?_)
  have C : pm_C g cX1_memoryIsOne RX1 := C
  show pm_G g 0 [(0, .ref a0)] [] h 0 0
  unfold fX1_memoryIsOne at hf
  refine pm_aload_n C dX1_memoryIsOne_0 rfl rfl ?_
  obtain ⟨k1, hf⟩ := pm_if hf
  obtain ⟨v2, e3, hf⟩ := pm_bd hf
  refine pm_getR C dX1_memoryIsOne_1 flX1_40 rfl k1 e3 ?_
  refine pm_iconst (v := 2) C dX1_memoryIsOne_4 (by decide) ?_
  obtain ⟨k4, hf⟩ := pm_if hf
  obtain ⟨v5, e6, hf⟩ := pm_bd hf
  refine pm_callV (as := [.int 2]) (st := []) C X dX1_memoryIsOne_5 lnX1_60 myX7_count viX7_count ⟨by decide, by decide⟩ rfl rfl k4 (Nat.le_of_ble_eq_true rfl) (Nat.le_refl _) (Nat.le_refl _) (ctX7_count e6 ?_)
  show pm_G g 8 [(0, .ref a0)] [.int v5] h 0 0
  refine pm_iconst (v := 1) C dX1_memoryIsOne_8 (by decide) ?_
  refine pm_icmp_gt (tgt := 13) C dX1_memoryIsOne_9 (by decide) (fun c7 => ?_) (fun c7 => ?_)
  · have hf := pm_it hf c7
    refine pm_aload_n C dX1_memoryIsOne_13 rfl rfl ?_
    refine pm_bipush (v := 22) C dX1_memoryIsOne_14 (by decide) ?_
    refine pm_aload_n C dX1_memoryIsOne_16 rfl rfl ?_
    refine pm_getR C dX1_memoryIsOne_17 flX1_40 rfl k1 e3 ?_
    obtain ⟨v8, e9, hf⟩ := pm_bd hf
    refine pm_getR C dX1_memoryIsOne_20 flX1_102 rfl k4 e9 ?_
    refine pm_iconst (v := 5) C dX1_memoryIsOne_23 (by decide) ?_
    obtain ⟨v10, e11, hf⟩ := pm_bd hf
    refine pm_callS (as := [.ref v8, .int 5]) (st := [.int 22, .ref a0]) C X dX1_memoryIsOne_24 lnX1_105 myX12_item stX12_item ⟨by decide, by decide⟩ rfl rfl (Nat.le_of_ble_eq_true rfl) (Nat.le_refl _) (Nat.le_refl _) (ctX12_item e11 ?_)
    show pm_G g 27 [(0, .ref a0)] [.int v10, .int 22, .ref a0] h 0 0
    refine pm_if_lt (tgt := 34) C dX1_memoryIsOne_27 (by decide) (fun c12 => ?_) (fun c12 => ?_)
    · have hf := pm_it hf c12
      refine pm_iconst (v := 2) C dX1_memoryIsOne_34 (by decide) ?_
      obtain ⟨v13, e14, hf⟩ := pm_bd hf
      refine pm_callV (as := [.int 22, .int 2]) (st := []) C X dX1_memoryIsOne_35 lnX1_119 myX1_failSection viX1_failSection ⟨by decide, by decide⟩ rfl rfl k1 (Nat.le_of_ble_eq_true rfl) (Nat.le_refl _) (Nat.le_refl _) (ctX1_failSection e14 ?_)
      show pm_G g 38 [(0, .ref a0)] [] v13 0 0
      cases hf
      exact pm_vret C X dX1_memoryIsOne_38 rfl (Nat.le_refl _) (Nat.le_refl _) q
    · have hf := pm_ie hf c12
      refine pm_iconst (v := 5) C dX1_memoryIsOne_30 (by decide) ?_
      refine pm_goto (tgt := 35) C dX1_memoryIsOne_31 (by decide) ?_
      obtain ⟨v15, e16, hf⟩ := pm_bd hf
      refine pm_callV (as := [.int 22, .int 5]) (st := []) C X dX1_memoryIsOne_35 lnX1_119 myX1_failSection viX1_failSection ⟨by decide, by decide⟩ rfl rfl k1 (Nat.le_of_ble_eq_true rfl) (Nat.le_refl _) (Nat.le_refl _) (ctX1_failSection e16 ?_)
      show pm_G g 38 [(0, .ref a0)] [] v15 0 0
      cases hf
      exact pm_vret C X dX1_memoryIsOne_38 rfl (Nat.le_refl _) (Nat.le_refl _) q
  · have hf := pm_ie hf c7
    cases hf
    exact pm_vret C X dX1_memoryIsOne_12 rfl (Nat.le_refl _) (Nat.le_refl _) q
theorem dX1_openLabel_0 : decode cX1_openLabel 0 = .ok (.aload_n 0, 1) := by decide +kernel
theorem dX1_openLabel_1 : decode cX1_openLabel 1 = .ok (.getfield 220, 3) := by decide +kernel
theorem dX1_openLabel_4 : decode cX1_openLabel 4 = .ok (.istore 5, 2) := by decide +kernel
theorem dX1_openLabel_6 : decode cX1_openLabel 6 = .ok (.aload_n 0, 1) := by decide +kernel
theorem dX1_openLabel_7 : decode cX1_openLabel 7 = .ok (.dup, 1) := by decide +kernel
theorem dX1_openLabel_8 : decode cX1_openLabel 8 = .ok (.getfield 220, 3) := by decide +kernel
theorem dX1_openLabel_11 : decode cX1_openLabel 11 = .ok (.iconst 1, 1) := by decide +kernel
theorem dX1_openLabel_12 : decode cX1_openLabel 12 = .ok (.iadd, 1) := by decide +kernel
theorem dX1_openLabel_13 : decode cX1_openLabel 13 = .ok (.putfield 220, 3) := by decide +kernel
theorem dX1_openLabel_16 : decode cX1_openLabel 16 = .ok (.aload_n 0, 1) := by decide +kernel
theorem dX1_openLabel_17 : decode cX1_openLabel 17 = .ok (.iload 5, 2) := by decide +kernel
theorem dX1_openLabel_19 : decode cX1_openLabel 19 = .ok (.iconst 0, 1) := by decide +kernel
theorem dX1_openLabel_20 : decode cX1_openLabel 20 = .ok (.iload_n 1, 1) := by decide +kernel
theorem dX1_openLabel_21 : decode cX1_openLabel 21 = .ok (.invokevirtual 280, 3) := by decide +kernel
theorem dX1_openLabel_24 : decode cX1_openLabel 24 = .ok (.aload_n 0, 1) := by decide +kernel
theorem dX1_openLabel_25 : decode cX1_openLabel 25 = .ok (.iload 5, 2) := by decide +kernel
theorem dX1_openLabel_27 : decode cX1_openLabel 27 = .ok (.iconst 1, 1) := by decide +kernel
theorem dX1_openLabel_28 : decode cX1_openLabel 28 = .ok (.iload_n 2, 1) := by decide +kernel
theorem dX1_openLabel_29 : decode cX1_openLabel 29 = .ok (.invokevirtual 280, 3) := by decide +kernel
theorem dX1_openLabel_32 : decode cX1_openLabel 32 = .ok (.aload_n 0, 1) := by decide +kernel
theorem dX1_openLabel_33 : decode cX1_openLabel 33 = .ok (.iload 5, 2) := by decide +kernel
theorem dX1_openLabel_35 : decode cX1_openLabel 35 = .ok (.iconst 2, 1) := by decide +kernel
theorem dX1_openLabel_36 : decode cX1_openLabel 36 = .ok (.aload_n 0, 1) := by decide +kernel
theorem dX1_openLabel_37 : decode cX1_openLabel 37 = .ok (.getfield 214, 3) := by decide +kernel
theorem dX1_openLabel_40 : decode cX1_openLabel 40 = .ok (.invokevirtual 280, 3) := by decide +kernel
theorem dX1_openLabel_43 : decode cX1_openLabel 43 = .ok (.aload_n 0, 1) := by decide +kernel
theorem dX1_openLabel_44 : decode cX1_openLabel 44 = .ok (.iload 5, 2) := by decide +kernel
theorem dX1_openLabel_46 : decode cX1_openLabel 46 = .ok (.iconst 3, 1) := by decide +kernel
theorem dX1_openLabel_47 : decode cX1_openLabel 47 = .ok (.iconst 0, 1) := by decide +kernel
theorem dX1_openLabel_48 : decode cX1_openLabel 48 = .ok (.invokevirtual 280, 3) := by decide +kernel
theorem dX1_openLabel_51 : decode cX1_openLabel 51 = .ok (.aload_n 0, 1) := by decide +kernel
theorem dX1_openLabel_52 : decode cX1_openLabel 52 = .ok (.iload 5, 2) := by decide +kernel
theorem dX1_openLabel_54 : decode cX1_openLabel 54 = .ok (.iconst 4, 1) := by decide +kernel
theorem dX1_openLabel_55 : decode cX1_openLabel 55 = .ok (.iload_n 3, 1) := by decide +kernel
theorem dX1_openLabel_56 : decode cX1_openLabel 56 = .ok (.ifCond .eq 7, 3) := by decide +kernel
theorem dX1_openLabel_59 : decode cX1_openLabel 59 = .ok (.iconst 1, 1) := by decide +kernel
theorem dX1_openLabel_60 : decode cX1_openLabel 60 = .ok (.goto 4, 3) := by decide +kernel
theorem dX1_openLabel_63 : decode cX1_openLabel 63 = .ok (.iconst 0, 1) := by decide +kernel
theorem dX1_openLabel_64 : decode cX1_openLabel 64 = .ok (.invokevirtual 280, 3) := by decide +kernel
theorem dX1_openLabel_67 : decode cX1_openLabel 67 = .ok (.aload_n 0, 1) := by decide +kernel
theorem dX1_openLabel_68 : decode cX1_openLabel 68 = .ok (.iload 5, 2) := by decide +kernel
theorem dX1_openLabel_70 : decode cX1_openLabel 70 = .ok (.iconst 5, 1) := by decide +kernel
theorem dX1_openLabel_71 : decode cX1_openLabel 71 = .ok (.iconst (-1), 1) := by decide +kernel
theorem dX1_openLabel_72 : decode cX1_openLabel 72 = .ok (.invokevirtual 280, 3) := by decide +kernel
theorem dX1_openLabel_75 : decode cX1_openLabel 75 = .ok (.aload_n 0, 1) := by decide +kernel
theorem dX1_openLabel_76 : decode cX1_openLabel 76 = .ok (.iload 5, 2) := by decide +kernel
theorem dX1_openLabel_78 : decode cX1_openLabel 78 = .ok (.bipush 6, 2) := by decide +kernel
theorem dX1_openLabel_80 : decode cX1_openLabel 80 = .ok (.iload 4, 2) := by decide +kernel
theorem dX1_openLabel_82 : decode cX1_openLabel 82 = .ok (.invokevirtual 280, 3) := by decide +kernel
theorem dX1_openLabel_85 : decode cX1_openLabel 85 = .ok (.return_, 1) := by decide +kernel
def fX1_openLabel (h : pm_H) (a0 : Nat) (p1 : Int32) (p2 : Int32) (p3 : Int32) (p4 : Int32) : Option pm_H := if pm_kd h a0 = 1 then pm_let (pm_I h a0 10) fun y2 => pm_let ((pm_I h a0 10) + 1) fun y4 => (fX1_setLabel (pm_setI h a0 10 y4) a0 y2 0 p1).bind fun v6 => if pm_kd v6 a0 = 1 then (fX1_setLabel v6 a0 y2 1 p2).bind fun v9 => if pm_kd v9 a0 = 1 then (fX1_setLabel v9 a0 y2 2 (pm_I v9 a0 6)).bind fun v12 => if pm_kd v12 a0 = 1 then (fX1_setLabel v12 a0 y2 3 0).bind fun v15 => if p3 = 0 then (if pm_kd v15 a0 = 1 then (fX1_setLabel v15 a0 y2 4 0).bind fun v19 => if pm_kd v19 a0 = 1 then (fX1_setLabel v19 a0 y2 5 (-1)).bind fun v22 => if pm_kd v22 a0 = 1 then (fX1_setLabel v22 a0 y2 6 p4).bind fun v25 => some v25 else none else none else none) else (if pm_kd v15 a0 = 1 then (fX1_setLabel v15 a0 y2 4 1).bind fun v28 => if pm_kd v28 a0 = 1 then (fX1_setLabel v28 a0 y2 5 (-1)).bind fun v31 => if pm_kd v31 a0 = 1 then (fX1_setLabel v31 a0 y2 6 p4).bind fun v34 => some v34 else none else none else none) else none else none else none else none
set_option maxHeartbeats 4000000 in
set_option maxRecDepth 100000 in
theorem ctX1_openLabel {l : Launch} {G : pm_Gl} {h : pm_H} {a0 : Nat} {p1 : Int32} {p2 : Int32} {p3 : Int32} {p4 : Int32} {r : pm_H} {Qr : Option Value → pm_H → Prop} (hf : fX1_openLabel h a0 p1 p2 p3 p4 = some r) (q : Qr none r) : pm_Ct l G mX1_openLabel [.ref a0, .int p1, .int p2, .int p3, .int p4] h 0 0 Qr := by
  refine pm_body pnX1 (Nat.le_of_ble_eq_true rfl) (fun g C X => ?_)
  have C : pm_C g cX1_openLabel RX1 := C
  show pm_G g 0 [(0, .ref a0), (1, .int p1), (2, .int p2), (3, .int p3), (4, .int p4)] [] h 0 0
  unfold fX1_openLabel at hf
  refine pm_aload_n C dX1_openLabel_0 rfl rfl ?_
  obtain ⟨k1, hf⟩ := pm_if hf
  refine pm_getI C dX1_openLabel_1 flX1_220 rfl k1 rfl ?_
  obtain ⟨y2, e3, hf⟩ := pm_lt hf
  refine pm_topI e3 ?_
  refine pm_istore (lv' := [(5, .int y2), (0, .ref a0), (1, .int p1), (2, .int p2), (3, .int p3), (4, .int p4)]) C dX1_openLabel_4 (pm_nl X (by decide)) rfl ?_
  refine pm_aload_n C dX1_openLabel_6 rfl rfl ?_
  refine pm_dup C dX1_openLabel_7 rfl ?_
  refine pm_getI C dX1_openLabel_8 flX1_220 rfl k1 rfl ?_
  refine pm_iconst (v := 1) C dX1_openLabel_11 (by decide) ?_
  refine pm_iadd C dX1_openLabel_12 ?_
  obtain ⟨y4, e5, hf⟩ := pm_lt hf
  refine pm_topI e5 ?_
  refine pm_putI C dX1_openLabel_13 flX1_220 rfl rfl k1 rfl rfl ?_
  refine pm_aload_n C dX1_openLabel_16 rfl rfl ?_
  refine pm_iload C dX1_openLabel_17 rfl ?_
  refine pm_iconst (v := 0) C dX1_openLabel_19 (by decide) ?_
  refine pm_iload_n C dX1_openLabel_20 rfl rfl ?_
  obtain ⟨v6, e7, hf⟩ := pm_bd hf
  refine pm_callV (as := [.int y2, .int 0, .int p1]) (st := []) C X dX1_openLabel_21 lnX1_280 myX1_setLabel viX1_setLabel ⟨by decide, by decide⟩ rfl rfl k1 (Nat.le_of_ble_eq_true rfl) (Nat.le_refl _) (Nat.le_refl _) (ctX1_setLabel e7 ?_)
  show pm_G g 24 [(5, .int y2), (0, .ref a0), (1, .int p1), (2, .int p2), (3, .int p3), (4, .int p4)] [] v6 0 0
  refine pm_aload_n C dX1_openLabel_24 rfl rfl ?_
  refine pm_iload C dX1_openLabel_25 rfl ?_
  refine pm_iconst (v := 1) C dX1_openLabel_27 (by decide) ?_
  refine pm_iload_n C dX1_openLabel_28 rfl rfl ?_
  obtain ⟨k8, hf⟩ := pm_if hf
  obtain ⟨v9, e10, hf⟩ := pm_bd hf
  refine pm_callV (as := [.int y2, .int 1, .int p2]) (st := []) C X dX1_openLabel_29 lnX1_280 myX1_setLabel viX1_setLabel ⟨by decide, by decide⟩ rfl rfl k8 (Nat.le_of_ble_eq_true rfl) (Nat.le_refl _) (Nat.le_refl _) (ctX1_setLabel e10 ?_)
  show pm_G g 32 [(5, .int y2), (0, .ref a0), (1, .int p1), (2, .int p2), (3, .int p3), (4, .int p4)] [] v9 0 0
  refine pm_aload_n C dX1_openLabel_32 rfl rfl ?_
  refine pm_iload C dX1_openLabel_33 rfl ?_
  refine pm_iconst (v := 2) C dX1_openLabel_35 (by decide) ?_
  refine pm_aload_n C dX1_openLabel_36 rfl rfl ?_
  obtain ⟨k11, hf⟩ := pm_if hf
  refine pm_getI C dX1_openLabel_37 flX1_214 rfl k11 rfl ?_
  obtain ⟨v12, e13, hf⟩ := pm_bd hf
  refine pm_callV (as := [.int y2, .int 2, .int (pm_I v9 a0 6)]) (st := []) C X dX1_openLabel_40 lnX1_280 myX1_setLabel viX1_setLabel ⟨by decide, by decide⟩ rfl rfl k11 (Nat.le_of_ble_eq_true rfl) (Nat.le_refl _) (Nat.le_refl _) (ctX1_setLabel e13 ?_)
  show pm_G g 43 [(5, .int y2), (0, .ref a0), (1, .int p1), (2, .int p2), (3, .int p3), (4, .int p4)] [] v12 0 0
  refine pm_aload_n C dX1_openLabel_43 rfl rfl ?_
  refine pm_iload C dX1_openLabel_44 rfl ?_
  refine pm_iconst (v := 3) C dX1_openLabel_46 (by decide) ?_
  refine pm_iconst (v := 0) C dX1_openLabel_47 (by decide) ?_
  obtain ⟨k14, hf⟩ := pm_if hf
  obtain ⟨v15, e16, hf⟩ := pm_bd hf
  refine pm_callV (as := [.int y2, .int 3, .int 0]) (st := []) C X dX1_openLabel_48 lnX1_280 myX1_setLabel viX1_setLabel ⟨by decide, by decide⟩ rfl rfl k14 (Nat.le_of_ble_eq_true rfl) (Nat.le_refl _) (Nat.le_refl _) (ctX1_setLabel e16 ?_)
  show pm_G g 51 [(5, .int y2), (0, .ref a0), (1, .int p1), (2, .int p2), (3, .int p3), (4, .int p4)] [] v15 0 0
  refine pm_aload_n C dX1_openLabel_51 rfl rfl ?_
  refine pm_iload C dX1_openLabel_52 rfl ?_
  refine pm_iconst (v := 4) C dX1_openLabel_54 (by decide) ?_
  refine pm_iload_n C dX1_openLabel_55 rfl rfl ?_
  refine pm_if_eq (tgt := 63) C dX1_openLabel_56 (by decide) (fun c17 => ?_) (fun c17 => ?_)
  · have hf := pm_it hf c17
    refine pm_iconst (v := 0) C dX1_openLabel_63 (by decide) ?_
    obtain ⟨k18, hf⟩ := pm_if hf
    obtain ⟨v19, e20, hf⟩ := pm_bd hf
    refine pm_callV (as := [.int y2, .int 4, .int 0]) (st := []) C X dX1_openLabel_64 lnX1_280 myX1_setLabel viX1_setLabel ⟨by decide, by decide⟩ rfl rfl k18 (Nat.le_of_ble_eq_true rfl) (Nat.le_refl _) (Nat.le_refl _) (ctX1_setLabel e20 ?_)
    show pm_G g 67 [(5, .int y2), (0, .ref a0), (1, .int p1), (2, .int p2), (3, .int p3), (4, .int p4)] [] v19 0 0
    refine pm_aload_n C dX1_openLabel_67 rfl rfl ?_
    refine pm_iload C dX1_openLabel_68 rfl ?_
    refine pm_iconst (v := 5) C dX1_openLabel_70 (by decide) ?_
    refine pm_iconst (v := (-1)) C dX1_openLabel_71 (by decide) ?_
    obtain ⟨k21, hf⟩ := pm_if hf
    obtain ⟨v22, e23, hf⟩ := pm_bd hf
    refine pm_callV (as := [.int y2, .int 5, .int (-1)]) (st := []) C X dX1_openLabel_72 lnX1_280 myX1_setLabel viX1_setLabel ⟨by decide, by decide⟩ rfl rfl k21 (Nat.le_of_ble_eq_true rfl) (Nat.le_refl _) (Nat.le_refl _) (ctX1_setLabel e23 ?_)
    show pm_G g 75 [(5, .int y2), (0, .ref a0), (1, .int p1), (2, .int p2), (3, .int p3), (4, .int p4)] [] v22 0 0
    refine pm_aload_n C dX1_openLabel_75 rfl rfl ?_
    refine pm_iload C dX1_openLabel_76 rfl ?_
    refine pm_bipush (v := 6) C dX1_openLabel_78 (by decide) ?_
    refine pm_iload C dX1_openLabel_80 rfl ?_
    obtain ⟨k24, hf⟩ := pm_if hf
    obtain ⟨v25, e26, hf⟩ := pm_bd hf
    refine pm_callV (as := [.int y2, .int 6, .int p4]) (st := []) C X dX1_openLabel_82 lnX1_280 myX1_setLabel viX1_setLabel ⟨by decide, by decide⟩ rfl rfl k24 (Nat.le_of_ble_eq_true rfl) (Nat.le_refl _) (Nat.le_refl _) (ctX1_setLabel e26 ?_)
    show pm_G g 85 [(5, .int y2), (0, .ref a0), (1, .int p1), (2, .int p2), (3, .int p3), (4, .int p4)] [] v25 0 0
    cases hf
    exact pm_vret C X dX1_openLabel_85 rfl (Nat.le_refl _) (Nat.le_refl _) q
  · have hf := pm_ie hf c17
    refine pm_iconst (v := 1) C dX1_openLabel_59 (by decide) ?_
    refine pm_goto (tgt := 64) C dX1_openLabel_60 (by decide) ?_
    obtain ⟨k27, hf⟩ := pm_if hf
    obtain ⟨v28, e29, hf⟩ := pm_bd hf
    refine pm_callV (as := [.int y2, .int 4, .int 1]) (st := []) C X dX1_openLabel_64 lnX1_280 myX1_setLabel viX1_setLabel ⟨by decide, by decide⟩ rfl rfl k27 (Nat.le_of_ble_eq_true rfl) (Nat.le_refl _) (Nat.le_refl _) (ctX1_setLabel e29 ?_)
    show pm_G g 67 [(5, .int y2), (0, .ref a0), (1, .int p1), (2, .int p2), (3, .int p3), (4, .int p4)] [] v28 0 0
    refine pm_aload_n C dX1_openLabel_67 rfl rfl ?_
    refine pm_iload C dX1_openLabel_68 rfl ?_
    refine pm_iconst (v := 5) C dX1_openLabel_70 (by decide) ?_
    refine pm_iconst (v := (-1)) C dX1_openLabel_71 (by decide) ?_
    obtain ⟨k30, hf⟩ := pm_if hf
    obtain ⟨v31, e32, hf⟩ := pm_bd hf
    refine pm_callV (as := [.int y2, .int 5, .int (-1)]) (st := []) C X dX1_openLabel_72 lnX1_280 myX1_setLabel viX1_setLabel ⟨by decide, by decide⟩ rfl rfl k30 (Nat.le_of_ble_eq_true rfl) (Nat.le_refl _) (Nat.le_refl _) (ctX1_setLabel e32 ?_)
    show pm_G g 75 [(5, .int y2), (0, .ref a0), (1, .int p1), (2, .int p2), (3, .int p3), (4, .int p4)] [] v31 0 0
    refine pm_aload_n C dX1_openLabel_75 rfl rfl ?_
    refine pm_iload C dX1_openLabel_76 rfl ?_
    refine pm_bipush (v := 6) C dX1_openLabel_78 (by decide) ?_
    refine pm_iload C dX1_openLabel_80 rfl ?_
    obtain ⟨k33, hf⟩ := pm_if hf
    obtain ⟨v34, e35, hf⟩ := pm_bd hf
    refine pm_callV (as := [.int y2, .int 6, .int p4]) (st := []) C X dX1_openLabel_82 lnX1_280 myX1_setLabel viX1_setLabel ⟨by decide, by decide⟩ rfl rfl k33 (Nat.le_of_ble_eq_true rfl) (Nat.le_refl _) (Nat.le_refl _) (ctX1_setLabel e35 ?_)
    show pm_G g 85 [(5, .int y2), (0, .ref a0), (1, .int p1), (2, .int p2), (3, .int p3), (4, .int p4)] [] v34 0 0
    cases hf
    exact pm_vret C X dX1_openLabel_85 rfl (Nat.le_refl _) (Nat.le_refl _) q
