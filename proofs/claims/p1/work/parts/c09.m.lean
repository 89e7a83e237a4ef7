theorem dX10_init_0 : decode cX10_init 0 = .ok (.aload_n 0, 1) := by decide +kernel
theorem dX10_init_1 : decode cX10_init 1 = .ok (.invokespecial 3, 3) := by decide +kernel
theorem dX10_init_4 : decode cX10_init 4 = .ok (.aload_n 0, 1) := by decide +kernel
theorem dX10_init_5 : decode cX10_init 5 = .ok (.new 9, 3) := by decide +kernel
theorem dX10_init_8 : decode cX10_init 8 = .ok (.dup, 1) := by decide +kernel
theorem dX10_init_9 : decode cX10_init 9 = .ok (.invokespecial 11, 3) := by decide +kernel
theorem dX10_init_12 : decode cX10_init 12 = .ok (.putfield 12, 3) := by decide +kernel
theorem dX10_init_15 : decode cX10_init 15 = .ok (.aload_n 0, 1) := by decide +kernel
theorem dX10_init_16 : decode cX10_init 16 = .ok (.new 18, 3) := by decide +kernel
theorem dX10_init_19 : decode cX10_init 19 = .ok (.dup, 1) := by decide +kernel
theorem dX10_init_20 : decode cX10_init 20 = .ok (.invokespecial 20, 3) := by decide +kernel
theorem dX10_init_23 : decode cX10_init 23 = .ok (.putfield 21, 3) := by decide +kernel
theorem dX10_init_26 : decode cX10_init 26 = .ok (.aload_n 0, 1) := by decide +kernel
theorem dX10_init_27 : decode cX10_init 27 = .ok (.sipush 256, 3) := by decide +kernel
theorem dX10_init_30 : decode cX10_init 30 = .ok (.newarray .int, 2) := by decide +kernel
theorem dX10_init_32 : decode cX10_init 32 = .ok (.putfield 25, 3) := by decide +kernel
theorem dX10_init_35 : decode cX10_init 35 = .ok (.aload_n 0, 1) := by decide +kernel
theorem dX10_init_36 : decode cX10_init 36 = .ok (.sipush 256, 3) := by decide +kernel
theorem dX10_init_39 : decode cX10_init 39 = .ok (.newarray .long, 2) := by decide +kernel
theorem dX10_init_41 : decode cX10_init 41 = .ok (.putfield 29, 3) := by decide +kernel
theorem dX10_init_44 : decode cX10_init 44 = .ok (.aload_n 0, 1) := by decide +kernel
theorem dX10_init_45 : decode cX10_init 45 = .ok (.sipush 256, 3) := by decide +kernel
theorem dX10_init_48 : decode cX10_init 48 = .ok (.newarray .boolean, 2) := by decide +kernel
theorem dX10_init_50 : decode cX10_init 50 = .ok (.putfield 33, 3) := by decide +kernel
theorem dX10_init_53 : decode cX10_init 53 = .ok (.aload_n 0, 1) := by decide +kernel
theorem dX10_init_54 : decode cX10_init 54 = .ok (.sipush 512, 3) := by decide +kernel
theorem dX10_init_57 : decode cX10_init 57 = .ok (.anewarray 37, 3) := by decide +kernel
theorem dX10_init_60 : decode cX10_init 60 = .ok (.putfield 39, 3) := by decide +kernel
theorem dX10_init_63 : decode cX10_init 63 = .ok (.aload_n 0, 1) := by decide +kernel
theorem dX10_init_64 : decode cX10_init 64 = .ok (.sipush 512, 3) := by decide +kernel
theorem dX10_init_67 : decode cX10_init 67 = .ok (.anewarray 43, 3) := by decide +kernel
theorem dX10_init_70 : decode cX10_init 70 = .ok (.putfield 45, 3) := by decide +kernel
theorem dX10_init_73 : decode cX10_init 73 = .ok (.aload_n 0, 1) := by decide +kernel
theorem dX10_init_74 : decode cX10_init 74 = .ok (.sipush 512, 3) := by decide +kernel
theorem dX10_init_77 : decode cX10_init 77 = .ok (.newarray .int, 2) := by decide +kernel
theorem dX10_init_79 : decode cX10_init 79 = .ok (.putfield 49, 3) := by decide +kernel
theorem dX10_init_82 : decode cX10_init 82 = .ok (.aload_n 0, 1) := by decide +kernel
theorem dX10_init_83 : decode cX10_init 83 = .ok (.sipush 512, 3) := by decide +kernel
theorem dX10_init_86 : decode cX10_init 86 = .ok (.newarray .int, 2) := by decide +kernel
theorem dX10_init_88 : decode cX10_init 88 = .ok (.putfield 52, 3) := by decide +kernel
theorem dX10_init_91 : decode cX10_init 91 = .ok (.aload_n 0, 1) := by decide +kernel
theorem dX10_init_92 : decode cX10_init 92 = .ok (.sipush 512, 3) := by decide +kernel
theorem dX10_init_95 : decode cX10_init 95 = .ok (.newarray .boolean, 2) := by decide +kernel
theorem dX10_init_97 : decode cX10_init 97 = .ok (.putfield 55, 3) := by decide +kernel
theorem dX10_init_100 : decode cX10_init 100 = .ok (.aload_n 0, 1) := by decide +kernel
theorem dX10_init_101 : decode cX10_init 101 = .ok (.bipush 16, 2) := by decide +kernel
theorem dX10_init_103 : decode cX10_init 103 = .ok (.anewarray 43, 3) := by decide +kernel
theorem dX10_init_106 : decode cX10_init 106 = .ok (.putfield 58, 3) := by decide +kernel
theorem dX10_init_109 : decode cX10_init 109 = .ok (.aload_n 0, 1) := by decide +kernel
theorem dX10_init_110 : decode cX10_init 110 = .ok (.sipush 2048, 3) := by decide +kernel
theorem dX10_init_113 : decode cX10_init 113 = .ok (.putfield 61, 3) := by decide +kernel
theorem dX10_init_116 : decode cX10_init 116 = .ok (.aload_n 0, 1) := by decide +kernel
theorem dX10_init_117 : decode cX10_init 117 = .ok (.new 65, 3) := by decide +kernel
theorem dX10_init_120 : decode cX10_init 120 = .ok (.dup, 1) := by decide +kernel
theorem dX10_init_121 : decode cX10_init 121 = .ok (.invokespecial 67, 3) := by decide +kernel
theorem dX10_init_124 : decode cX10_init 124 = .ok (.putfield 68, 3) := by decide +kernel
theorem dX10_init_127 : decode cX10_init 127 = .ok (.aload_n 0, 1) := by decide +kernel
theorem dX10_init_128 : decode cX10_init 128 = .ok (.aload_n 1, 1) := by decide +kernel
theorem dX10_init_129 : decode cX10_init 129 = .ok (.putfield 72, 3) := by decide +kernel
theorem dX10_init_132 : decode cX10_init 132 = .ok (.aload_n 0, 1) := by decide +kernel
theorem dX10_init_133 : decode cX10_init 133 = .ok (.new 43, 3) := by decide +kernel
theorem dX10_init_136 : decode cX10_init 136 = .ok (.dup, 1) := by decide +kernel
theorem dX10_init_137 : decode cX10_init 137 = .ok (.aload_n 2, 1) := by decide +kernel
theorem dX10_init_138 : decode cX10_init 138 = .ok (.invokespecial 76, 3) := by decide +kernel
theorem dX10_init_141 : decode cX10_init 141 = .ok (.putfield 79, 3) := by decide +kernel
theorem dX10_init_144 : decode cX10_init 144 = .ok (.new 37, 3) := by decide +kernel
theorem dX10_init_147 : decode cX10_init 147 = .ok (.dup, 1) := by decide +kernel
theorem dX10_init_148 : decode cX10_init 148 = .ok (.iconst 2, 1) := by decide +kernel
theorem dX10_init_149 : decode cX10_init 149 = .ok (.newarray .int, 2) := by decide +kernel
theorem dX10_init_151 : decode cX10_init 151 = .ok (.iconst 0, 1) := by decide +kernel
theorem dX10_init_152 : decode cX10_init 152 = .ok (.invokespecial 83, 3) := by decide +kernel
theorem dX10_init_155 : decode cX10_init 155 = .ok (.astore_n 3, 1) := by decide +kernel
theorem dX10_init_156 : decode cX10_init 156 = .ok (.iconst 0, 1) := by decide +kernel
theorem dX10_init_157 : decode cX10_init 157 = .ok (.istore 4, 2) := by decide +kernel
theorem dX10_init_159 : decode cX10_init 159 = .ok (.iload 4, 2) := by decide +kernel
theorem dX10_init_161 : decode cX10_init 161 = .ok (.aload_n 0, 1) := by decide +kernel
theorem dX10_init_162 : decode cX10_init 162 = .ok (.getfield 39, 3) := by decide +kernel
theorem dX10_init_165 : decode cX10_init 165 = .ok (.arraylength, 1) := by decide +kernel
theorem dX10_init_166 : decode cX10_init 166 = .ok (.if_icmp .ge 17, 3) := by decide +kernel
theorem dX10_init_169 : decode cX10_init 169 = .ok (.aload_n 0, 1) := by decide +kernel
theorem dX10_init_170 : decode cX10_init 170 = .ok (.getfield 39, 3) := by decide +kernel
theorem dX10_init_173 : decode cX10_init 173 = .ok (.iload 4, 2) := by decide +kernel
theorem dX10_init_175 : decode cX10_init 175 = .ok (.aload_n 3, 1) := by decide +kernel
theorem dX10_init_176 : decode cX10_init 176 = .ok (.aastore, 1) := by decide +kernel
theorem dX10_init_177 : decode cX10_init 177 = .ok (.iinc 4 1, 3) := by decide +kernel
theorem dX10_init_180 : decode cX10_init 180 = .ok (.goto (-21), 3) := by decide +kernel
theorem dX10_init_183 : decode cX10_init 183 = .ok (.iconst 0, 1) := by decide +kernel
theorem dX10_init_184 : decode cX10_init 184 = .ok (.istore 4, 2) := by decide +kernel
theorem dX10_init_186 : decode cX10_init 186 = .ok (.iload 4, 2) := by decide +kernel
theorem dX10_init_188 : decode cX10_init 188 = .ok (.aload_n 0, 1) := by decide +kernel
theorem dX10_init_189 : decode cX10_init 189 = .ok (.getfield 45, 3) := by decide +kernel
theorem dX10_init_192 : decode cX10_init 192 = .ok (.arraylength, 1) := by decide +kernel
theorem dX10_init_193 : decode cX10_init 193 = .ok (.if_icmp .ge 20, 3) := by decide +kernel
theorem dX10_init_196 : decode cX10_init 196 = .ok (.aload_n 0, 1) := by decide +kernel
theorem dX10_init_197 : decode cX10_init 197 = .ok (.getfield 45, 3) := by decide +kernel
theorem dX10_init_200 : decode cX10_init 200 = .ok (.iload 4, 2) := by decide +kernel
theorem dX10_init_202 : decode cX10_init 202 = .ok (.aload_n 0, 1) := by decide +kernel
theorem dX10_init_203 : decode cX10_init 203 = .ok (.getfield 79, 3) := by decide +kernel
theorem dX10_init_206 : decode cX10_init 206 = .ok (.aastore, 1) := by decide +kernel
theorem dX10_init_207 : decode cX10_init 207 = .ok (.iinc 4 1, 3) := by decide +kernel
theorem dX10_init_210 : decode cX10_init 210 = .ok (.goto (-24), 3) := by decide +kernel
theorem dX10_init_213 : decode cX10_init 213 = .ok (.iconst 0, 1) := by decide +kernel
theorem dX10_init_214 : decode cX10_init 214 = .ok (.istore 4, 2) := by decide +kernel
theorem dX10_init_216 : decode cX10_init 216 = .ok (.iload 4, 2) := by decide +kernel
theorem dX10_init_218 : decode cX10_init 218 = .ok (.aload_n 0, 1) := by decide +kernel
theorem dX10_init_219 : decode cX10_init 219 = .ok (.getfield 58, 3) := by decide +kernel
theorem dX10_init_222 : decode cX10_init 222 = .ok (.arraylength, 1) := by decide +kernel
theorem dX10_init_223 : decode cX10_init 223 = .ok (.if_icmp .ge 20, 3) := by decide +kernel
theorem dX10_init_226 : decode cX10_init 226 = .ok (.aload_n 0, 1) := by decide +kernel
theorem dX10_init_227 : decode cX10_init 227 = .ok (.getfield 58, 3) := by decide +kernel
theorem dX10_init_230 : decode cX10_init 230 = .ok (.iload 4, 2) := by decide +kernel
theorem dX10_init_232 : decode cX10_init 232 = .ok (.aload_n 0, 1) := by decide +kernel
theorem dX10_init_233 : decode cX10_init 233 = .ok (.getfield 79, 3) := by decide +kernel
theorem dX10_init_236 : decode cX10_init 236 = .ok (.aastore, 1) := by decide +kernel
theorem dX10_init_237 : decode cX10_init 237 = .ok (.iinc 4 1, 3) := by decide +kernel
theorem dX10_init_240 : decode cX10_init 240 = .ok (.goto (-24), 3) := by decide +kernel
theorem dX10_init_243 : decode cX10_init 243 = .ok (.return_, 1) := by decide +kernel
def tX10_init_0 (x0 : Nat) (x1 : Nat) (x2 : Nat) (h : pm_H) : Option (((Nat × Nat × Nat × pm_H) ⊕ (Nat × Nat × Nat × Nat × Nat × pm_H) ⊕ (Nat × Nat × Nat × Nat × Nat × pm_H) ⊕ (Nat × Nat × Nat × Nat × Nat × pm_H) ⊕ (Nat × Nat × Nat × Nat × Nat × pm_H) ⊕ (Nat × Nat × Nat × Nat × Nat × pm_H) ⊕ (Nat × Nat × Nat × Nat × Nat × pm_H) ⊕ (Nat × Nat × Nat × Nat × Nat × pm_H) ⊕ (Nat × Nat × Nat × Nat × Nat × pm_H) ⊕ (Nat × Nat × Nat × Nat × Nat × pm_H) ⊕ (Nat × Nat × Nat × Nat × Nat × pm_H) ⊕ (Nat × Nat × Nat × Nat × Nat × pm_H) ⊕ (Nat × Nat × Nat × Nat × Nat × pm_H) ⊕ (Nat × Nat × Nat × Nat × Nat × pm_H) ⊕ (Nat × Nat × Nat × Nat × Nat × pm_H) ⊕ (Nat × Nat × Nat × Nat × pm_H) ⊕ (Nat × Nat × Nat × pm_H) ⊕ (Nat × Nat × pm_H) ⊕ (Nat × Nat × Nat × Nat × pm_H) ⊕ (Nat × Nat × pm_H) ⊕ (Nat × Nat × Int32 × pm_H) ⊕ (Nat × Int32 × pm_H) ⊕ (Nat × Int32 × pm_H)) ⊕ pm_H) := some (.inl (.inr (.inl ((x0, x1, x2, pm_sz h, x0, pm_new h 11 0)))))
def tX10_init_8 (x0 : Nat) (x1 : Nat) (x2 : Nat) (s0 : Nat) (s1 : Nat) (h : pm_H) : Option (((Nat × Nat × Nat × pm_H) ⊕ (Nat × Nat × Nat × Nat × Nat × pm_H) ⊕ (Nat × Nat × Nat × Nat × Nat × pm_H) ⊕ (Nat × Nat × Nat × Nat × Nat × pm_H) ⊕ (Nat × Nat × Nat × Nat × Nat × pm_H) ⊕ (Nat × Nat × Nat × Nat × Nat × pm_H) ⊕ (Nat × Nat × Nat × Nat × Nat × pm_H) ⊕ (Nat × Nat × Nat × Nat × Nat × pm_H) ⊕ (Nat × Nat × Nat × Nat × Nat × pm_H) ⊕ (Nat × Nat × Nat × Nat × Nat × pm_H) ⊕ (Nat × Nat × Nat × Nat × Nat × pm_H) ⊕ (Nat × Nat × Nat × Nat × Nat × pm_H) ⊕ (Nat × Nat × Nat × Nat × Nat × pm_H) ⊕ (Nat × Nat × Nat × Nat × Nat × pm_H) ⊕ (Nat × Nat × Nat × Nat × Nat × pm_H) ⊕ (Nat × Nat × Nat × Nat × pm_H) ⊕ (Nat × Nat × Nat × pm_H) ⊕ (Nat × Nat × pm_H) ⊕ (Nat × Nat × Nat × Nat × pm_H) ⊕ (Nat × Nat × pm_H) ⊕ (Nat × Nat × Int32 × pm_H) ⊕ (Nat × Int32 × pm_H) ⊕ (Nat × Int32 × pm_H)) ⊕ pm_H) := (fX11_init h s0).bind fun v1 => some (.inl (.inr (.inr (.inl ((x0, x1, x2, s0, s1, v1))))))
def tX10_init_12 (x0 : Nat) (x1 : Nat) (x2 : Nat) (s0 : Nat) (s1 : Nat) (h : pm_H) : Option (((Nat × Nat × Nat × pm_H) ⊕ (Nat × Nat × Nat × Nat × Nat × pm_H) ⊕ (Nat × Nat × Nat × Nat × Nat × pm_H) ⊕ (Nat × Nat × Nat × Nat × Nat × pm_H) ⊕ (Nat × Nat × Nat × Nat × Nat × pm_H) ⊕ (Nat × Nat × Nat × Nat × Nat × pm_H) ⊕ (Nat × Nat × Nat × Nat × Nat × pm_H) ⊕ (Nat × Nat × Nat × Nat × Nat × pm_H) ⊕ (Nat × Nat × Nat × Nat × Nat × pm_H) ⊕ (Nat × Nat × Nat × Nat × Nat × pm_H) ⊕ (Nat × Nat × Nat × Nat × Nat × pm_H) ⊕ (Nat × Nat × Nat × Nat × Nat × pm_H) ⊕ (Nat × Nat × Nat × Nat × Nat × pm_H) ⊕ (Nat × Nat × Nat × Nat × Nat × pm_H) ⊕ (Nat × Nat × Nat × Nat × Nat × pm_H) ⊕ (Nat × Nat × Nat × Nat × pm_H) ⊕ (Nat × Nat × Nat × pm_H) ⊕ (Nat × Nat × pm_H) ⊕ (Nat × Nat × Nat × Nat × pm_H) ⊕ (Nat × Nat × pm_H) ⊕ (Nat × Nat × Int32 × pm_H) ⊕ (Nat × Int32 × pm_H) ⊕ (Nat × Int32 × pm_H)) ⊕ pm_H) := if pm_kd h s1 = 10 then some (.inl (.inr (.inr (.inr (.inl ((x0, x1, x2, pm_sz (pm_setR h s1 4 (some s0)), x0, pm_new (pm_setR h s1 4 (some s0)) 6 0))))))) else none
def tX10_init_19 (x0 : Nat) (x1 : Nat) (x2 : Nat) (s0 : Nat) (s1 : Nat) (h : pm_H) : Option (((Nat × Nat × Nat × pm_H) ⊕ (Nat × Nat × Nat × Nat × Nat × pm_H) ⊕ (Nat × Nat × Nat × Nat × Nat × pm_H) ⊕ (Nat × Nat × Nat × Nat × Nat × pm_H) ⊕ (Nat × Nat × Nat × Nat × Nat × pm_H) ⊕ (Nat × Nat × Nat × Nat × Nat × pm_H) ⊕ (Nat × Nat × Nat × Nat × Nat × pm_H) ⊕ (Nat × Nat × Nat × Nat × Nat × pm_H) ⊕ (Nat × Nat × Nat × Nat × Nat × pm_H) ⊕ (Nat × Nat × Nat × Nat × Nat × pm_H) ⊕ (Nat × Nat × Nat × Nat × Nat × pm_H) ⊕ (Nat × Nat × Nat × Nat × Nat × pm_H) ⊕ (Nat × Nat × Nat × Nat × Nat × pm_H) ⊕ (Nat × Nat × Nat × Nat × Nat × pm_H) ⊕ (Nat × Nat × Nat × Nat × Nat × pm_H) ⊕ (Nat × Nat × Nat × Nat × pm_H) ⊕ (Nat × Nat × Nat × pm_H) ⊕ (Nat × Nat × pm_H) ⊕ (Nat × Nat × Nat × Nat × pm_H) ⊕ (Nat × Nat × pm_H) ⊕ (Nat × Nat × Int32 × pm_H) ⊕ (Nat × Int32 × pm_H) ⊕ (Nat × Int32 × pm_H)) ⊕ pm_H) := (fX6_init h s0).bind fun v4 => some (.inl (.inr (.inr (.inr (.inr (.inl ((x0, x1, x2, s0, s1, v4))))))))
def tX10_init_23 (x0 : Nat) (x1 : Nat) (x2 : Nat) (s0 : Nat) (s1 : Nat) (h : pm_H) : Option (((Nat × Nat × Nat × pm_H) ⊕ (Nat × Nat × Nat × Nat × Nat × pm_H) ⊕ (Nat × Nat × Nat × Nat × Nat × pm_H) ⊕ (Nat × Nat × Nat × Nat × Nat × pm_H) ⊕ (Nat × Nat × Nat × Nat × Nat × pm_H) ⊕ (Nat × Nat × Nat × Nat × Nat × pm_H) ⊕ (Nat × Nat × Nat × Nat × Nat × pm_H) ⊕ (Nat × Nat × Nat × Nat × Nat × pm_H) ⊕ (Nat × Nat × Nat × Nat × Nat × pm_H) ⊕ (Nat × Nat × Nat × Nat × Nat × pm_H) ⊕ (Nat × Nat × Nat × Nat × Nat × pm_H) ⊕ (Nat × Nat × Nat × Nat × Nat × pm_H) ⊕ (Nat × Nat × Nat × Nat × Nat × pm_H) ⊕ (Nat × Nat × Nat × Nat × Nat × pm_H) ⊕ (Nat × Nat × Nat × Nat × Nat × pm_H) ⊕ (Nat × Nat × Nat × Nat × pm_H) ⊕ (Nat × Nat × Nat × pm_H) ⊕ (Nat × Nat × pm_H) ⊕ (Nat × Nat × Nat × Nat × pm_H) ⊕ (Nat × Nat × pm_H) ⊕ (Nat × Nat × Int32 × pm_H) ⊕ (Nat × Int32 × pm_H) ⊕ (Nat × Int32 × pm_H)) ⊕ pm_H) := if pm_kd h s1 = 10 then some (.inl (.inr (.inr (.inr (.inr (.inr (.inl ((x0, x1, x2, pm_sz (pm_setR h s1 5 (some s0)), x0, pm_new (pm_setR h s1 5 (some s0)) 34 256))))))))) else none
def tX10_init_32 (x0 : Nat) (x1 : Nat) (x2 : Nat) (s0 : Nat) (s1 : Nat) (h : pm_H) : Option (((Nat × Nat × Nat × pm_H) ⊕ (Nat × Nat × Nat × Nat × Nat × pm_H) ⊕ (Nat × Nat × Nat × Nat × Nat × pm_H) ⊕ (Nat × Nat × Nat × Nat × Nat × pm_H) ⊕ (Nat × Nat × Nat × Nat × Nat × pm_H) ⊕ (Nat × Nat × Nat × Nat × Nat × pm_H) ⊕ (Nat × Nat × Nat × Nat × Nat × pm_H) ⊕ (Nat × Nat × Nat × Nat × Nat × pm_H) ⊕ (Nat × Nat × Nat × Nat × Nat × pm_H) ⊕ (Nat × Nat × Nat × Nat × Nat × pm_H) ⊕ (Nat × Nat × Nat × Nat × Nat × pm_H) ⊕ (Nat × Nat × Nat × Nat × Nat × pm_H) ⊕ (Nat × Nat × Nat × Nat × Nat × pm_H) ⊕ (Nat × Nat × Nat × Nat × Nat × pm_H) ⊕ (Nat × Nat × Nat × Nat × Nat × pm_H) ⊕ (Nat × Nat × Nat × Nat × pm_H) ⊕ (Nat × Nat × Nat × pm_H) ⊕ (Nat × Nat × pm_H) ⊕ (Nat × Nat × Nat × Nat × pm_H) ⊕ (Nat × Nat × pm_H) ⊕ (Nat × Nat × Int32 × pm_H) ⊕ (Nat × Int32 × pm_H) ⊕ (Nat × Int32 × pm_H)) ⊕ pm_H) := if pm_kd h s1 = 10 then some (.inl (.inr (.inr (.inr (.inr (.inr (.inr (.inl ((x0, x1, x2, pm_sz (pm_setR h s1 6 (some s0)), x0, pm_new (pm_setR h s1 6 (some s0)) 35 256)))))))))) else none
def tX10_init_41 (x0 : Nat) (x1 : Nat) (x2 : Nat) (s0 : Nat) (s1 : Nat) (h : pm_H) : Option (((Nat × Nat × Nat × pm_H) ⊕ (Nat × Nat × Nat × Nat × Nat × pm_H) ⊕ (Nat × Nat × Nat × Nat × Nat × pm_H) ⊕ (Nat × Nat × Nat × Nat × Nat × pm_H) ⊕ (Nat × Nat × Nat × Nat × Nat × pm_H) ⊕ (Nat × Nat × Nat × Nat × Nat × pm_H) ⊕ (Nat × Nat × Nat × Nat × Nat × pm_H) ⊕ (Nat × Nat × Nat × Nat × Nat × pm_H) ⊕ (Nat × Nat × Nat × Nat × Nat × pm_H) ⊕ (Nat × Nat × Nat × Nat × Nat × pm_H) ⊕ (Nat × Nat × Nat × Nat × Nat × pm_H) ⊕ (Nat × Nat × Nat × Nat × Nat × pm_H) ⊕ (Nat × Nat × Nat × Nat × Nat × pm_H) ⊕ (Nat × Nat × Nat × Nat × Nat × pm_H) ⊕ (Nat × Nat × Nat × Nat × Nat × pm_H) ⊕ (Nat × Nat × Nat × Nat × pm_H) ⊕ (Nat × Nat × Nat × pm_H) ⊕ (Nat × Nat × pm_H) ⊕ (Nat × Nat × Nat × Nat × pm_H) ⊕ (Nat × Nat × pm_H) ⊕ (Nat × Nat × Int32 × pm_H) ⊕ (Nat × Int32 × pm_H) ⊕ (Nat × Int32 × pm_H)) ⊕ pm_H) := if pm_kd h s1 = 10 then some (.inl (.inr (.inr (.inr (.inr (.inr (.inr (.inr (.inl ((x0, x1, x2, pm_sz (pm_setR h s1 7 (some s0)), x0, pm_new (pm_setR h s1 7 (some s0)) 32 256))))))))))) else none
def tX10_init_50 (x0 : Nat) (x1 : Nat) (x2 : Nat) (s0 : Nat) (s1 : Nat) (h : pm_H) : Option (((Nat × Nat × Nat × pm_H) ⊕ (Nat × Nat × Nat × Nat × Nat × pm_H) ⊕ (Nat × Nat × Nat × Nat × Nat × pm_H) ⊕ (Nat × Nat × Nat × Nat × Nat × pm_H) ⊕ (Nat × Nat × Nat × Nat × Nat × pm_H) ⊕ (Nat × Nat × Nat × Nat × Nat × pm_H) ⊕ (Nat × Nat × Nat × Nat × Nat × pm_H) ⊕ (Nat × Nat × Nat × Nat × Nat × pm_H) ⊕ (Nat × Nat × Nat × Nat × Nat × pm_H) ⊕ (Nat × Nat × Nat × Nat × Nat × pm_H) ⊕ (Nat × Nat × Nat × Nat × Nat × pm_H) ⊕ (Nat × Nat × Nat × Nat × Nat × pm_H) ⊕ (Nat × Nat × Nat × Nat × Nat × pm_H) ⊕ (Nat × Nat × Nat × Nat × Nat × pm_H) ⊕ (Nat × Nat × Nat × Nat × Nat × pm_H) ⊕ (Nat × Nat × Nat × Nat × pm_H) ⊕ (Nat × Nat × Nat × pm_H) ⊕ (Nat × Nat × pm_H) ⊕ (Nat × Nat × Nat × Nat × pm_H) ⊕ (Nat × Nat × pm_H) ⊕ (Nat × Nat × Int32 × pm_H) ⊕ (Nat × Int32 × pm_H) ⊕ (Nat × Int32 × pm_H)) ⊕ pm_H) := if pm_kd h s1 = 10 then some (.inl (.inr (.inr (.inr (.inr (.inr (.inr (.inr (.inr (.inl ((x0, x1, x2, pm_sz (pm_setR h s1 8 (some s0)), x0, pm_new (pm_setR h s1 8 (some s0)) 38 512)))))))))))) else none
def tX10_init_60 (x0 : Nat) (x1 : Nat) (x2 : Nat) (s0 : Nat) (s1 : Nat) (h : pm_H) : Option (((Nat × Nat × Nat × pm_H) ⊕ (Nat × Nat × Nat × Nat × Nat × pm_H) ⊕ (Nat × Nat × Nat × Nat × Nat × pm_H) ⊕ (Nat × Nat × Nat × Nat × Nat × pm_H) ⊕ (Nat × Nat × Nat × Nat × Nat × pm_H) ⊕ (Nat × Nat × Nat × Nat × Nat × pm_H) ⊕ (Nat × Nat × Nat × Nat × Nat × pm_H) ⊕ (Nat × Nat × Nat × Nat × Nat × pm_H) ⊕ (Nat × Nat × Nat × Nat × Nat × pm_H) ⊕ (Nat × Nat × Nat × Nat × Nat × pm_H) ⊕ (Nat × Nat × Nat × Nat × Nat × pm_H) ⊕ (Nat × Nat × Nat × Nat × Nat × pm_H) ⊕ (Nat × Nat × Nat × Nat × Nat × pm_H) ⊕ (Nat × Nat × Nat × Nat × Nat × pm_H) ⊕ (Nat × Nat × Nat × Nat × Nat × pm_H) ⊕ (Nat × Nat × Nat × Nat × pm_H) ⊕ (Nat × Nat × Nat × pm_H) ⊕ (Nat × Nat × pm_H) ⊕ (Nat × Nat × Nat × Nat × pm_H) ⊕ (Nat × Nat × pm_H) ⊕ (Nat × Nat × Int32 × pm_H) ⊕ (Nat × Int32 × pm_H) ⊕ (Nat × Int32 × pm_H)) ⊕ pm_H) := if pm_kd h s1 = 10 then some (.inl (.inr (.inr (.inr (.inr (.inr (.inr (.inr (.inr (.inr (.inl ((x0, x1, x2, pm_sz (pm_setR h s1 10 (some s0)), x0, pm_new (pm_setR h s1 10 (some s0)) 40 512))))))))))))) else none
def tX10_init_70 (x0 : Nat) (x1 : Nat) (x2 : Nat) (s0 : Nat) (s1 : Nat) (h : pm_H) : Option (((Nat × Nat × Nat × pm_H) ⊕ (Nat × Nat × Nat × Nat × Nat × pm_H) ⊕ (Nat × Nat × Nat × Nat × Nat × pm_H) ⊕ (Nat × Nat × Nat × Nat × Nat × pm_H) ⊕ (Nat × Nat × Nat × Nat × Nat × pm_H) ⊕ (Nat × Nat × Nat × Nat × Nat × pm_H) ⊕ (Nat × Nat × Nat × Nat × Nat × pm_H) ⊕ (Nat × Nat × Nat × Nat × Nat × pm_H) ⊕ (Nat × Nat × Nat × Nat × Nat × pm_H) ⊕ (Nat × Nat × Nat × Nat × Nat × pm_H) ⊕ (Nat × Nat × Nat × Nat × Nat × pm_H) ⊕ (Nat × Nat × Nat × Nat × Nat × pm_H) ⊕ (Nat × Nat × Nat × Nat × Nat × pm_H) ⊕ (Nat × Nat × Nat × Nat × Nat × pm_H) ⊕ (Nat × Nat × Nat × Nat × Nat × pm_H) ⊕ (Nat × Nat × Nat × Nat × pm_H) ⊕ (Nat × Nat × Nat × pm_H) ⊕ (Nat × Nat × pm_H) ⊕ (Nat × Nat × Nat × Nat × pm_H) ⊕ (Nat × Nat × pm_H) ⊕ (Nat × Nat × Int32 × pm_H) ⊕ (Nat × Int32 × pm_H) ⊕ (Nat × Int32 × pm_H)) ⊕ pm_H) := if pm_kd h s1 = 10 then some (.inl (.inr (.inr (.inr (.inr (.inr (.inr (.inr (.inr (.inr (.inr (.inl ((x0, x1, x2, pm_sz (pm_setR h s1 11 (some s0)), x0, pm_new (pm_setR h s1 11 (some s0)) 34 512)))))))))))))) else none
def tX10_init_79 (x0 : Nat) (x1 : Nat) (x2 : Nat) (s0 : Nat) (s1 : Nat) (h : pm_H) : Option (((Nat × Nat × Nat × pm_H) ⊕ (Nat × Nat × Nat × Nat × Nat × pm_H) ⊕ (Nat × Nat × Nat × Nat × Nat × pm_H) ⊕ (Nat × Nat × Nat × Nat × Nat × pm_H) ⊕ (Nat × Nat × Nat × Nat × Nat × pm_H) ⊕ (Nat × Nat × Nat × Nat × Nat × pm_H) ⊕ (Nat × Nat × Nat × Nat × Nat × pm_H) ⊕ (Nat × Nat × Nat × Nat × Nat × pm_H) ⊕ (Nat × Nat × Nat × Nat × Nat × pm_H) ⊕ (Nat × Nat × Nat × Nat × Nat × pm_H) ⊕ (Nat × Nat × Nat × Nat × Nat × pm_H) ⊕ (Nat × Nat × Nat × Nat × Nat × pm_H) ⊕ (Nat × Nat × Nat × Nat × Nat × pm_H) ⊕ (Nat × Nat × Nat × Nat × Nat × pm_H) ⊕ (Nat × Nat × Nat × Nat × Nat × pm_H) ⊕ (Nat × Nat × Nat × Nat × pm_H) ⊕ (Nat × Nat × Nat × pm_H) ⊕ (Nat × Nat × pm_H) ⊕ (Nat × Nat × Nat × Nat × pm_H) ⊕ (Nat × Nat × pm_H) ⊕ (Nat × Nat × Int32 × pm_H) ⊕ (Nat × Int32 × pm_H) ⊕ (Nat × Int32 × pm_H)) ⊕ pm_H) := if pm_kd h s1 = 10 then some (.inl (.inr (.inr (.inr (.inr (.inr (.inr (.inr (.inr (.inr (.inr (.inr (.inl ((x0, x1, x2, pm_sz (pm_setR h s1 12 (some s0)), x0, pm_new (pm_setR h s1 12 (some s0)) 34 512))))))))))))))) else none
def tX10_init_88 (x0 : Nat) (x1 : Nat) (x2 : Nat) (s0 : Nat) (s1 : Nat) (h : pm_H) : Option (((Nat × Nat × Nat × pm_H) ⊕ (Nat × Nat × Nat × Nat × Nat × pm_H) ⊕ (Nat × Nat × Nat × Nat × Nat × pm_H) ⊕ (Nat × Nat × Nat × Nat × Nat × pm_H) ⊕ (Nat × Nat × Nat × Nat × Nat × pm_H) ⊕ (Nat × Nat × Nat × Nat × Nat × pm_H) ⊕ (Nat × Nat × Nat × Nat × Nat × pm_H) ⊕ (Nat × Nat × Nat × Nat × Nat × pm_H) ⊕ (Nat × Nat × Nat × Nat × Nat × pm_H) ⊕ (Nat × Nat × Nat × Nat × Nat × pm_H) ⊕ (Nat × Nat × Nat × Nat × Nat × pm_H) ⊕ (Nat × Nat × Nat × Nat × Nat × pm_H) ⊕ (Nat × Nat × Nat × Nat × Nat × pm_H) ⊕ (Nat × Nat × Nat × Nat × Nat × pm_H) ⊕ (Nat × Nat × Nat × Nat × Nat × pm_H) ⊕ (Nat × Nat × Nat × Nat × pm_H) ⊕ (Nat × Nat × Nat × pm_H) ⊕ (Nat × Nat × pm_H) ⊕ (Nat × Nat × Nat × Nat × pm_H) ⊕ (Nat × Nat × pm_H) ⊕ (Nat × Nat × Int32 × pm_H) ⊕ (Nat × Int32 × pm_H) ⊕ (Nat × Int32 × pm_H)) ⊕ pm_H) := if pm_kd h s1 = 10 then some (.inl (.inr (.inr (.inr (.inr (.inr (.inr (.inr (.inr (.inr (.inr (.inr (.inr (.inl ((x0, x1, x2, pm_sz (pm_setR h s1 13 (some s0)), x0, pm_new (pm_setR h s1 13 (some s0)) 32 512)))))))))))))))) else none
def tX10_init_97 (x0 : Nat) (x1 : Nat) (x2 : Nat) (s0 : Nat) (s1 : Nat) (h : pm_H) : Option (((Nat × Nat × Nat × pm_H) ⊕ (Nat × Nat × Nat × Nat × Nat × pm_H) ⊕ (Nat × Nat × Nat × Nat × Nat × pm_H) ⊕ (Nat × Nat × Nat × Nat × Nat × pm_H) ⊕ (Nat × Nat × Nat × Nat × Nat × pm_H) ⊕ (Nat × Nat × Nat × Nat × Nat × pm_H) ⊕ (Nat × Nat × Nat × Nat × Nat × pm_H) ⊕ (Nat × Nat × Nat × Nat × Nat × pm_H) ⊕ (Nat × Nat × Nat × Nat × Nat × pm_H) ⊕ (Nat × Nat × Nat × Nat × Nat × pm_H) ⊕ (Nat × Nat × Nat × Nat × Nat × pm_H) ⊕ (Nat × Nat × Nat × Nat × Nat × pm_H) ⊕ (Nat × Nat × Nat × Nat × Nat × pm_H) ⊕ (Nat × Nat × Nat × Nat × Nat × pm_H) ⊕ (Nat × Nat × Nat × Nat × Nat × pm_H) ⊕ (Nat × Nat × Nat × Nat × pm_H) ⊕ (Nat × Nat × Nat × pm_H) ⊕ (Nat × Nat × pm_H) ⊕ (Nat × Nat × Nat × Nat × pm_H) ⊕ (Nat × Nat × pm_H) ⊕ (Nat × Nat × Int32 × pm_H) ⊕ (Nat × Int32 × pm_H) ⊕ (Nat × Int32 × pm_H)) ⊕ pm_H) := if pm_kd h s1 = 10 then some (.inl (.inr (.inr (.inr (.inr (.inr (.inr (.inr (.inr (.inr (.inr (.inr (.inr (.inr (.inl ((x0, x1, x2, pm_sz (pm_setR h s1 14 (some s0)), x0, pm_new (pm_setR h s1 14 (some s0)) 40 16))))))))))))))))) else none
def tX10_init_106 (x0 : Nat) (x1 : Nat) (x2 : Nat) (s0 : Nat) (s1 : Nat) (h : pm_H) : Option (((Nat × Nat × Nat × pm_H) ⊕ (Nat × Nat × Nat × Nat × Nat × pm_H) ⊕ (Nat × Nat × Nat × Nat × Nat × pm_H) ⊕ (Nat × Nat × Nat × Nat × Nat × pm_H) ⊕ (Nat × Nat × Nat × Nat × Nat × pm_H) ⊕ (Nat × Nat × Nat × Nat × Nat × pm_H) ⊕ (Nat × Nat × Nat × Nat × Nat × pm_H) ⊕ (Nat × Nat × Nat × Nat × Nat × pm_H) ⊕ (Nat × Nat × Nat × Nat × Nat × pm_H) ⊕ (Nat × Nat × Nat × Nat × Nat × pm_H) ⊕ (Nat × Nat × Nat × Nat × Nat × pm_H) ⊕ (Nat × Nat × Nat × Nat × Nat × pm_H) ⊕ (Nat × Nat × Nat × Nat × Nat × pm_H) ⊕ (Nat × Nat × Nat × Nat × Nat × pm_H) ⊕ (Nat × Nat × Nat × Nat × Nat × pm_H) ⊕ (Nat × Nat × Nat × Nat × pm_H) ⊕ (Nat × Nat × Nat × pm_H) ⊕ (Nat × Nat × pm_H) ⊕ (Nat × Nat × Nat × Nat × pm_H) ⊕ (Nat × Nat × pm_H) ⊕ (Nat × Nat × Int32 × pm_H) ⊕ (Nat × Int32 × pm_H) ⊕ (Nat × Int32 × pm_H)) ⊕ pm_H) := if pm_kd h s1 = 10 then if pm_kd (pm_setR h s1 15 (some s0)) x0 = 10 then some (.inl (.inr (.inr (.inr (.inr (.inr (.inr (.inr (.inr (.inr (.inr (.inr (.inr (.inr (.inr (.inl ((x0, x1, x2, pm_sz (pm_setI (pm_setR h s1 15 (some s0)) x0 17 2048), x0, pm_new (pm_setI (pm_setR h s1 15 (some s0)) x0 17 2048) 8 0)))))))))))))))))) else none else none
def tX10_init_120 (x0 : Nat) (x1 : Nat) (x2 : Nat) (s0 : Nat) (s1 : Nat) (h : pm_H) : Option (((Nat × Nat × Nat × pm_H) ⊕ (Nat × Nat × Nat × Nat × Nat × pm_H) ⊕ (Nat × Nat × Nat × Nat × Nat × pm_H) ⊕ (Nat × Nat × Nat × Nat × Nat × pm_H) ⊕ (Nat × Nat × Nat × Nat × Nat × pm_H) ⊕ (Nat × Nat × Nat × Nat × Nat × pm_H) ⊕ (Nat × Nat × Nat × Nat × Nat × pm_H) ⊕ (Nat × Nat × Nat × Nat × Nat × pm_H) ⊕ (Nat × Nat × Nat × Nat × Nat × pm_H) ⊕ (Nat × Nat × Nat × Nat × Nat × pm_H) ⊕ (Nat × Nat × Nat × Nat × Nat × pm_H) ⊕ (Nat × Nat × Nat × Nat × Nat × pm_H) ⊕ (Nat × Nat × Nat × Nat × Nat × pm_H) ⊕ (Nat × Nat × Nat × Nat × Nat × pm_H) ⊕ (Nat × Nat × Nat × Nat × Nat × pm_H) ⊕ (Nat × Nat × Nat × Nat × pm_H) ⊕ (Nat × Nat × Nat × pm_H) ⊕ (Nat × Nat × pm_H) ⊕ (Nat × Nat × Nat × Nat × pm_H) ⊕ (Nat × Nat × pm_H) ⊕ (Nat × Nat × Int32 × pm_H) ⊕ (Nat × Int32 × pm_H) ⊕ (Nat × Int32 × pm_H)) ⊕ pm_H) := pm_let (fX8_init s0) fun v17 => if pm_kd h s1 = 10 then if pm_kd (pm_setR h s1 19 (some s0)) x0 = 10 then some (.inl (.inr (.inr (.inr (.inr (.inr (.inr (.inr (.inr (.inr (.inr (.inr (.inr (.inr (.inr (.inr (.inl ((x0, x2, pm_sz (pm_setR (pm_setR h s1 19 (some s0)) x0 18 (some x1)), x0, pm_new (pm_setR (pm_setR h s1 19 (some s0)) x0 18 (some x1)) 4 0))))))))))))))))))) else none else none
def tX10_init_136 (x0 : Nat) (x2 : Nat) (s0 : Nat) (s1 : Nat) (h : pm_H) : Option (((Nat × Nat × Nat × pm_H) ⊕ (Nat × Nat × Nat × Nat × Nat × pm_H) ⊕ (Nat × Nat × Nat × Nat × Nat × pm_H) ⊕ (Nat × Nat × Nat × Nat × Nat × pm_H) ⊕ (Nat × Nat × Nat × Nat × Nat × pm_H) ⊕ (Nat × Nat × Nat × Nat × Nat × pm_H) ⊕ (Nat × Nat × Nat × Nat × Nat × pm_H) ⊕ (Nat × Nat × Nat × Nat × Nat × pm_H) ⊕ (Nat × Nat × Nat × Nat × Nat × pm_H) ⊕ (Nat × Nat × Nat × Nat × Nat × pm_H) ⊕ (Nat × Nat × Nat × Nat × Nat × pm_H) ⊕ (Nat × Nat × Nat × Nat × Nat × pm_H) ⊕ (Nat × Nat × Nat × Nat × Nat × pm_H) ⊕ (Nat × Nat × Nat × Nat × Nat × pm_H) ⊕ (Nat × Nat × Nat × Nat × Nat × pm_H) ⊕ (Nat × Nat × Nat × Nat × pm_H) ⊕ (Nat × Nat × Nat × pm_H) ⊕ (Nat × Nat × pm_H) ⊕ (Nat × Nat × Nat × Nat × pm_H) ⊕ (Nat × Nat × pm_H) ⊕ (Nat × Nat × Int32 × pm_H) ⊕ (Nat × Int32 × pm_H) ⊕ (Nat × Int32 × pm_H)) ⊕ pm_H) := (fX4_init h s0 x2).bind fun v21 => some (.inl (.inr (.inr (.inr (.inr (.inr (.inr (.inr (.inr (.inr (.inr (.inr (.inr (.inr (.inr (.inr (.inr (.inl ((x0, s0, s1, v21))))))))))))))))))))
def tX10_init_141 (x0 : Nat) (s0 : Nat) (s1 : Nat) (h : pm_H) : Option (((Nat × Nat × Nat × pm_H) ⊕ (Nat × Nat × Nat × Nat × Nat × pm_H) ⊕ (Nat × Nat × Nat × Nat × Nat × pm_H) ⊕ (Nat × Nat × Nat × Nat × Nat × pm_H) ⊕ (Nat × Nat × Nat × Nat × Nat × pm_H) ⊕ (Nat × Nat × Nat × Nat × Nat × pm_H) ⊕ (Nat × Nat × Nat × Nat × Nat × pm_H) ⊕ (Nat × Nat × Nat × Nat × Nat × pm_H) ⊕ (Nat × Nat × Nat × Nat × Nat × pm_H) ⊕ (Nat × Nat × Nat × Nat × Nat × pm_H) ⊕ (Nat × Nat × Nat × Nat × Nat × pm_H) ⊕ (Nat × Nat × Nat × Nat × Nat × pm_H) ⊕ (Nat × Nat × Nat × Nat × Nat × pm_H) ⊕ (Nat × Nat × Nat × Nat × Nat × pm_H) ⊕ (Nat × Nat × Nat × Nat × Nat × pm_H) ⊕ (Nat × Nat × Nat × Nat × pm_H) ⊕ (Nat × Nat × Nat × pm_H) ⊕ (Nat × Nat × pm_H) ⊕ (Nat × Nat × Nat × Nat × pm_H) ⊕ (Nat × Nat × pm_H) ⊕ (Nat × Nat × Int32 × pm_H) ⊕ (Nat × Int32 × pm_H) ⊕ (Nat × Int32 × pm_H)) ⊕ pm_H) := if pm_kd h s1 = 10 then some (.inl (.inr (.inr (.inr (.inr (.inr (.inr (.inr (.inr (.inr (.inr (.inr (.inr (.inr (.inr (.inr (.inr (.inr (.inl ((x0, pm_sz (pm_setR h s1 16 (some s0)), pm_new (pm_setR h s1 16 (some s0)) 0 0))))))))))))))))))))) else none
def tX10_init_147 (x0 : Nat) (s0 : Nat) (h : pm_H) : Option (((Nat × Nat × Nat × pm_H) ⊕ (Nat × Nat × Nat × Nat × Nat × pm_H) ⊕ (Nat × Nat × Nat × Nat × Nat × pm_H) ⊕ (Nat × Nat × Nat × Nat × Nat × pm_H) ⊕ (Nat × Nat × Nat × Nat × Nat × pm_H) ⊕ (Nat × Nat × Nat × Nat × Nat × pm_H) ⊕ (Nat × Nat × Nat × Nat × Nat × pm_H) ⊕ (Nat × Nat × Nat × Nat × Nat × pm_H) ⊕ (Nat × Nat × Nat × Nat × Nat × pm_H) ⊕ (Nat × Nat × Nat × Nat × Nat × pm_H) ⊕ (Nat × Nat × Nat × Nat × Nat × pm_H) ⊕ (Nat × Nat × Nat × Nat × Nat × pm_H) ⊕ (Nat × Nat × Nat × Nat × Nat × pm_H) ⊕ (Nat × Nat × Nat × Nat × Nat × pm_H) ⊕ (Nat × Nat × Nat × Nat × Nat × pm_H) ⊕ (Nat × Nat × Nat × Nat × pm_H) ⊕ (Nat × Nat × Nat × pm_H) ⊕ (Nat × Nat × pm_H) ⊕ (Nat × Nat × Nat × Nat × pm_H) ⊕ (Nat × Nat × pm_H) ⊕ (Nat × Nat × Int32 × pm_H) ⊕ (Nat × Int32 × pm_H) ⊕ (Nat × Int32 × pm_H)) ⊕ pm_H) := some (.inl (.inr (.inr (.inr (.inr (.inr (.inr (.inr (.inr (.inr (.inr (.inr (.inr (.inr (.inr (.inr (.inr (.inr (.inr (.inl ((x0, pm_sz h, s0, s0, pm_new h 34 2))))))))))))))))))))))
def tX10_init_151 (x0 : Nat) (s0 : Nat) (s1 : Nat) (s2 : Nat) (h : pm_H) : Option (((Nat × Nat × Nat × pm_H) ⊕ (Nat × Nat × Nat × Nat × Nat × pm_H) ⊕ (Nat × Nat × Nat × Nat × Nat × pm_H) ⊕ (Nat × Nat × Nat × Nat × Nat × pm_H) ⊕ (Nat × Nat × Nat × Nat × Nat × pm_H) ⊕ (Nat × Nat × Nat × Nat × Nat × pm_H) ⊕ (Nat × Nat × Nat × Nat × Nat × pm_H) ⊕ (Nat × Nat × Nat × Nat × Nat × pm_H) ⊕ (Nat × Nat × Nat × Nat × Nat × pm_H) ⊕ (Nat × Nat × Nat × Nat × Nat × pm_H) ⊕ (Nat × Nat × Nat × Nat × Nat × pm_H) ⊕ (Nat × Nat × Nat × Nat × Nat × pm_H) ⊕ (Nat × Nat × Nat × Nat × Nat × pm_H) ⊕ (Nat × Nat × Nat × Nat × Nat × pm_H) ⊕ (Nat × Nat × Nat × Nat × Nat × pm_H) ⊕ (Nat × Nat × Nat × Nat × pm_H) ⊕ (Nat × Nat × Nat × pm_H) ⊕ (Nat × Nat × pm_H) ⊕ (Nat × Nat × Nat × Nat × pm_H) ⊕ (Nat × Nat × pm_H) ⊕ (Nat × Nat × Int32 × pm_H) ⊕ (Nat × Int32 × pm_H) ⊕ (Nat × Int32 × pm_H)) ⊕ pm_H) := (fX0_init h s1 s0 0).bind fun v24 => some (.inl (.inr (.inr (.inr (.inr (.inr (.inr (.inr (.inr (.inr (.inr (.inr (.inr (.inr (.inr (.inr (.inr (.inr (.inr (.inr (.inl ((x0, s2, v24)))))))))))))))))))))))
def tX10_init_155 (x0 : Nat) (s0 : Nat) (h : pm_H) : Option (((Nat × Nat × Nat × pm_H) ⊕ (Nat × Nat × Nat × Nat × Nat × pm_H) ⊕ (Nat × Nat × Nat × Nat × Nat × pm_H) ⊕ (Nat × Nat × Nat × Nat × Nat × pm_H) ⊕ (Nat × Nat × Nat × Nat × Nat × pm_H) ⊕ (Nat × Nat × Nat × Nat × Nat × pm_H) ⊕ (Nat × Nat × Nat × Nat × Nat × pm_H) ⊕ (Nat × Nat × Nat × Nat × Nat × pm_H) ⊕ (Nat × Nat × Nat × Nat × Nat × pm_H) ⊕ (Nat × Nat × Nat × Nat × Nat × pm_H) ⊕ (Nat × Nat × Nat × Nat × Nat × pm_H) ⊕ (Nat × Nat × Nat × Nat × Nat × pm_H) ⊕ (Nat × Nat × Nat × Nat × Nat × pm_H) ⊕ (Nat × Nat × Nat × Nat × Nat × pm_H) ⊕ (Nat × Nat × Nat × Nat × Nat × pm_H) ⊕ (Nat × Nat × Nat × Nat × pm_H) ⊕ (Nat × Nat × Nat × pm_H) ⊕ (Nat × Nat × pm_H) ⊕ (Nat × Nat × Nat × Nat × pm_H) ⊕ (Nat × Nat × pm_H) ⊕ (Nat × Nat × Int32 × pm_H) ⊕ (Nat × Int32 × pm_H) ⊕ (Nat × Int32 × pm_H)) ⊕ pm_H) := some (.inl (.inr (.inr (.inr (.inr (.inr (.inr (.inr (.inr (.inr (.inr (.inr (.inr (.inr (.inr (.inr (.inr (.inr (.inr (.inr (.inr (.inl ((x0, s0, 0, h))))))))))))))))))))))))
def tX10_init_159 (x0 : Nat) (x3 : Nat) (x4 : Int32) (h : pm_H) : Option (((Nat × Nat × Nat × pm_H) ⊕ (Nat × Nat × Nat × Nat × Nat × pm_H) ⊕ (Nat × Nat × Nat × Nat × Nat × pm_H) ⊕ (Nat × Nat × Nat × Nat × Nat × pm_H) ⊕ (Nat × Nat × Nat × Nat × Nat × pm_H) ⊕ (Nat × Nat × Nat × Nat × Nat × pm_H) ⊕ (Nat × Nat × Nat × Nat × Nat × pm_H) ⊕ (Nat × Nat × Nat × Nat × Nat × pm_H) ⊕ (Nat × Nat × Nat × Nat × Nat × pm_H) ⊕ (Nat × Nat × Nat × Nat × Nat × pm_H) ⊕ (Nat × Nat × Nat × Nat × Nat × pm_H) ⊕ (Nat × Nat × Nat × Nat × Nat × pm_H) ⊕ (Nat × Nat × Nat × Nat × Nat × pm_H) ⊕ (Nat × Nat × Nat × Nat × Nat × pm_H) ⊕ (Nat × Nat × Nat × Nat × Nat × pm_H) ⊕ (Nat × Nat × Nat × Nat × pm_H) ⊕ (Nat × Nat × Nat × pm_H) ⊕ (Nat × Nat × pm_H) ⊕ (Nat × Nat × Nat × Nat × pm_H) ⊕ (Nat × Nat × pm_H) ⊕ (Nat × Nat × Int32 × pm_H) ⊕ (Nat × Int32 × pm_H) ⊕ (Nat × Int32 × pm_H)) ⊕ pm_H) := if pm_kd h x0 = 10 then (pm_R h x0 10).bind fun v27 => if pm_kd h v27 = 38 then if (Int32.ofNat (pm_ln h v27)) ≤ x4 then (some (.inl (.inr (.inr (.inr (.inr (.inr (.inr (.inr (.inr (.inr (.inr (.inr (.inr (.inr (.inr (.inr (.inr (.inr (.inr (.inr (.inr (.inr (.inl ((x0, 0, h)))))))))))))))))))))))))) else (if pm_kd h x3 = 0 then if pm_in x4 (pm_ln h v27) then pm_let (x4 + 1) fun y33 => some (.inl (.inr (.inr (.inr (.inr (.inr (.inr (.inr (.inr (.inr (.inr (.inr (.inr (.inr (.inr (.inr (.inr (.inr (.inr (.inr (.inr (.inl ((x0, x3, y33, pm_setR h v27 x4.toNatClampNeg (some x3))))))))))))))))))))))))) else none else none) else none else none
def tX10_init_186 (x0 : Nat) (x4 : Int32) (h : pm_H) : Option (((Nat × Nat × Nat × pm_H) ⊕ (Nat × Nat × Nat × Nat × Nat × pm_H) ⊕ (Nat × Nat × Nat × Nat × Nat × pm_H) ⊕ (Nat × Nat × Nat × Nat × Nat × pm_H) ⊕ (Nat × Nat × Nat × Nat × Nat × pm_H) ⊕ (Nat × Nat × Nat × Nat × Nat × pm_H) ⊕ (Nat × Nat × Nat × Nat × Nat × pm_H) ⊕ (Nat × Nat × Nat × Nat × Nat × pm_H) ⊕ (Nat × Nat × Nat × Nat × Nat × pm_H) ⊕ (Nat × Nat × Nat × Nat × Nat × pm_H) ⊕ (Nat × Nat × Nat × Nat × Nat × pm_H) ⊕ (Nat × Nat × Nat × Nat × Nat × pm_H) ⊕ (Nat × Nat × Nat × Nat × Nat × pm_H) ⊕ (Nat × Nat × Nat × Nat × Nat × pm_H) ⊕ (Nat × Nat × Nat × Nat × Nat × pm_H) ⊕ (Nat × Nat × Nat × Nat × pm_H) ⊕ (Nat × Nat × Nat × pm_H) ⊕ (Nat × Nat × pm_H) ⊕ (Nat × Nat × Nat × Nat × pm_H) ⊕ (Nat × Nat × pm_H) ⊕ (Nat × Nat × Int32 × pm_H) ⊕ (Nat × Int32 × pm_H) ⊕ (Nat × Int32 × pm_H)) ⊕ pm_H) := if pm_kd h x0 = 10 then (pm_R h x0 11).bind fun v36 => if pm_kd h v36 = 40 then if (Int32.ofNat (pm_ln h v36)) ≤ x4 then (some (.inl (.inr (.inr (.inr (.inr (.inr (.inr (.inr (.inr (.inr (.inr (.inr (.inr (.inr (.inr (.inr (.inr (.inr (.inr (.inr (.inr (.inr (.inr ((x0, 0, h)))))))))))))))))))))))))) else ((pm_R h x0 16).bind fun v40 => if pm_kd h v40 = 4 then if pm_in x4 (pm_ln h v36) then pm_let (x4 + 1) fun y44 => some (.inl (.inr (.inr (.inr (.inr (.inr (.inr (.inr (.inr (.inr (.inr (.inr (.inr (.inr (.inr (.inr (.inr (.inr (.inr (.inr (.inr (.inr (.inl ((x0, y44, pm_setR h v36 x4.toNatClampNeg (some v40)))))))))))))))))))))))))) else none else none) else none else none
def tX10_init_216 (x0 : Nat) (x4 : Int32) (h : pm_H) : Option (((Nat × Nat × Nat × pm_H) ⊕ (Nat × Nat × Nat × Nat × Nat × pm_H) ⊕ (Nat × Nat × Nat × Nat × Nat × pm_H) ⊕ (Nat × Nat × Nat × Nat × Nat × pm_H) ⊕ (Nat × Nat × Nat × Nat × Nat × pm_H) ⊕ (Nat × Nat × Nat × Nat × Nat × pm_H) ⊕ (Nat × Nat × Nat × Nat × Nat × pm_H) ⊕ (Nat × Nat × Nat × Nat × Nat × pm_H) ⊕ (Nat × Nat × Nat × Nat × Nat × pm_H) ⊕ (Nat × Nat × Nat × Nat × Nat × pm_H) ⊕ (Nat × Nat × Nat × Nat × Nat × pm_H) ⊕ (Nat × Nat × Nat × Nat × Nat × pm_H) ⊕ (Nat × Nat × Nat × Nat × Nat × pm_H) ⊕ (Nat × Nat × Nat × Nat × Nat × pm_H) ⊕ (Nat × Nat × Nat × Nat × Nat × pm_H) ⊕ (Nat × Nat × Nat × Nat × pm_H) ⊕ (Nat × Nat × Nat × pm_H) ⊕ (Nat × Nat × pm_H) ⊕ (Nat × Nat × Nat × Nat × pm_H) ⊕ (Nat × Nat × pm_H) ⊕ (Nat × Nat × Int32 × pm_H) ⊕ (Nat × Int32 × pm_H) ⊕ (Nat × Int32 × pm_H)) ⊕ pm_H) := if pm_kd h x0 = 10 then (pm_R h x0 15).bind fun v47 => if pm_kd h v47 = 40 then if (Int32.ofNat (pm_ln h v47)) ≤ x4 then (some (.inr (h))) else ((pm_R h x0 16).bind fun v51 => if pm_kd h v51 = 4 then if pm_in x4 (pm_ln h v47) then pm_let (x4 + 1) fun y55 => some (.inl (.inr (.inr (.inr (.inr (.inr (.inr (.inr (.inr (.inr (.inr (.inr (.inr (.inr (.inr (.inr (.inr (.inr (.inr (.inr (.inr (.inr (.inr ((x0, y55, pm_setR h v47 x4.toNatClampNeg (some v51)))))))))))))))))))))))))) else none else none) else none else none
def sX10_init : ((Nat × Nat × Nat × pm_H) ⊕ (Nat × Nat × Nat × Nat × Nat × pm_H) ⊕ (Nat × Nat × Nat × Nat × Nat × pm_H) ⊕ (Nat × Nat × Nat × Nat × Nat × pm_H) ⊕ (Nat × Nat × Nat × Nat × Nat × pm_H) ⊕ (Nat × Nat × Nat × Nat × Nat × pm_H) ⊕ (Nat × Nat × Nat × Nat × Nat × pm_H) ⊕ (Nat × Nat × Nat × Nat × Nat × pm_H) ⊕ (Nat × Nat × Nat × Nat × Nat × pm_H) ⊕ (Nat × Nat × Nat × Nat × Nat × pm_H) ⊕ (Nat × Nat × Nat × Nat × Nat × pm_H) ⊕ (Nat × Nat × Nat × Nat × Nat × pm_H) ⊕ (Nat × Nat × Nat × Nat × Nat × pm_H) ⊕ (Nat × Nat × Nat × Nat × Nat × pm_H) ⊕ (Nat × Nat × Nat × Nat × Nat × pm_H) ⊕ (Nat × Nat × Nat × Nat × pm_H) ⊕ (Nat × Nat × Nat × pm_H) ⊕ (Nat × Nat × pm_H) ⊕ (Nat × Nat × Nat × Nat × pm_H) ⊕ (Nat × Nat × pm_H) ⊕ (Nat × Nat × Int32 × pm_H) ⊕ (Nat × Int32 × pm_H) ⊕ (Nat × Int32 × pm_H)) → Option (((Nat × Nat × Nat × pm_H) ⊕ (Nat × Nat × Nat × Nat × Nat × pm_H) ⊕ (Nat × Nat × Nat × Nat × Nat × pm_H) ⊕ (Nat × Nat × Nat × Nat × Nat × pm_H) ⊕ (Nat × Nat × Nat × Nat × Nat × pm_H) ⊕ (Nat × Nat × Nat × Nat × Nat × pm_H) ⊕ (Nat × Nat × Nat × Nat × Nat × pm_H) ⊕ (Nat × Nat × Nat × Nat × Nat × pm_H) ⊕ (Nat × Nat × Nat × Nat × Nat × pm_H) ⊕ (Nat × Nat × Nat × Nat × Nat × pm_H) ⊕ (Nat × Nat × Nat × Nat × Nat × pm_H) ⊕ (Nat × Nat × Nat × Nat × Nat × pm_H) ⊕ (Nat × Nat × Nat × Nat × Nat × pm_H) ⊕ (Nat × Nat × Nat × Nat × Nat × pm_H) ⊕ (Nat × Nat × Nat × Nat × Nat × pm_H) ⊕ (Nat × Nat × Nat × Nat × pm_H) ⊕ (Nat × Nat × Nat × pm_H) ⊕ (Nat × Nat × pm_H) ⊕ (Nat × Nat × Nat × Nat × pm_H) ⊕ (Nat × Nat × pm_H) ⊕ (Nat × Nat × Int32 × pm_H) ⊕ (Nat × Int32 × pm_H) ⊕ (Nat × Int32 × pm_H)) ⊕ pm_H) := fun z => match z with
  | .inl (x0, x1, x2, h) => tX10_init_0 x0 x1 x2 h
  | .inr (.inl (x0, x1, x2, s0, s1, h)) => tX10_init_8 x0 x1 x2 s0 s1 h
  | .inr (.inr (.inl (x0, x1, x2, s0, s1, h))) => tX10_init_12 x0 x1 x2 s0 s1 h
  | .inr (.inr (.inr (.inl (x0, x1, x2, s0, s1, h)))) => tX10_init_19 x0 x1 x2 s0 s1 h
  | .inr (.inr (.inr (.inr (.inl (x0, x1, x2, s0, s1, h))))) => tX10_init_23 x0 x1 x2 s0 s1 h
  | .inr (.inr (.inr (.inr (.inr (.inl (x0, x1, x2, s0, s1, h)))))) => tX10_init_32 x0 x1 x2 s0 s1 h
  | .inr (.inr (.inr (.inr (.inr (.inr (.inl (x0, x1, x2, s0, s1, h))))))) => tX10_init_41 x0 x1 x2 s0 s1 h
  | .inr (.inr (.inr (.inr (.inr (.inr (.inr (.inl (x0, x1, x2, s0, s1, h)))))))) => tX10_init_50 x0 x1 x2 s0 s1 h
  | .inr (.inr (.inr (.inr (.inr (.inr (.inr (.inr (.inl (x0, x1, x2, s0, s1, h))))))))) => tX10_init_60 x0 x1 x2 s0 s1 h
  | .inr (.inr (.inr (.inr (.inr (.inr (.inr (.inr (.inr (.inl (x0, x1, x2, s0, s1, h)))))))))) => tX10_init_70 x0 x1 x2 s0 s1 h
  | .inr (.inr (.inr (.inr (.inr (.inr (.inr (.inr (.inr (.inr (.inl (x0, x1, x2, s0, s1, h))))))))))) => tX10_init_79 x0 x1 x2 s0 s1 h
  | .inr (.inr (.inr (.inr (.inr (.inr (.inr (.inr (.inr (.inr (.inr (.inl (x0, x1, x2, s0, s1, h)))))))))))) => tX10_init_88 x0 x1 x2 s0 s1 h
  | .inr (.inr (.inr (.inr (.inr (.inr (.inr (.inr (.inr (.inr (.inr (.inr (.inl (x0, x1, x2, s0, s1, h))))))))))))) => tX10_init_97 x0 x1 x2 s0 s1 h
  | .inr (.inr (.inr (.inr (.inr (.inr (.inr (.inr (.inr (.inr (.inr (.inr (.inr (.inl (x0, x1, x2, s0, s1, h)))))))))))))) => tX10_init_106 x0 x1 x2 s0 s1 h
  | .inr (.inr (.inr (.inr (.inr (.inr (.inr (.inr (.inr (.inr (.inr (.inr (.inr (.inr (.inl (x0, x1, x2, s0, s1, h))))))))))))))) => tX10_init_120 x0 x1 x2 s0 s1 h
  | .inr (.inr (.inr (.inr (.inr (.inr (.inr (.inr (.inr (.inr (.inr (.inr (.inr (.inr (.inr (.inl (x0, x2, s0, s1, h)))))))))))))))) => tX10_init_136 x0 x2 s0 s1 h
  | .inr (.inr (.inr (.inr (.inr (.inr (.inr (.inr (.inr (.inr (.inr (.inr (.inr (.inr (.inr (.inr (.inl (x0, s0, s1, h))))))))))))))))) => tX10_init_141 x0 s0 s1 h
  | .inr (.inr (.inr (.inr (.inr (.inr (.inr (.inr (.inr (.inr (.inr (.inr (.inr (.inr (.inr (.inr (.inr (.inl (x0, s0, h)))))))))))))))))) => tX10_init_147 x0 s0 h
  | .inr (.inr (.inr (.inr (.inr (.inr (.inr (.inr (.inr (.inr (.inr (.inr (.inr (.inr (.inr (.inr (.inr (.inr (.inl (x0, s0, s1, s2, h))))))))))))))))))) => tX10_init_151 x0 s0 s1 s2 h
  | .inr (.inr (.inr (.inr (.inr (.inr (.inr (.inr (.inr (.inr (.inr (.inr (.inr (.inr (.inr (.inr (.inr (.inr (.inr (.inl (x0, s0, h)))))))))))))))))))) => tX10_init_155 x0 s0 h
  | .inr (.inr (.inr (.inr (.inr (.inr (.inr (.inr (.inr (.inr (.inr (.inr (.inr (.inr (.inr (.inr (.inr (.inr (.inr (.inr (.inl (x0, x3, x4, h))))))))))))))))))))) => tX10_init_159 x0 x3 x4 h
  | .inr (.inr (.inr (.inr (.inr (.inr (.inr (.inr (.inr (.inr (.inr (.inr (.inr (.inr (.inr (.inr (.inr (.inr (.inr (.inr (.inr (.inl (x0, x4, h)))))))))))))))))))))) => tX10_init_186 x0 x4 h
  | .inr (.inr (.inr (.inr (.inr (.inr (.inr (.inr (.inr (.inr (.inr (.inr (.inr (.inr (.inr (.inr (.inr (.inr (.inr (.inr (.inr (.inr (x0, x4, h)))))))))))))))))))))) => tX10_init_216 x0 x4 h
noncomputable def fX10_init (h : pm_H) (a0 : Nat) (p1 : Nat) (p2 : Nat) : Option pm_H := pm_lim sX10_init (.inl ((a0, p1, p2, h)))
set_option maxHeartbeats 4000000 in
set_option maxRecDepth 100000 in
theorem mlX10_init {r : pm_H} : ∀ n : Nat, (∀ (x0 : Nat) (x1 : Nat) (x2 : Nat) (h : pm_H), pm_iter sX10_init n (.inl (x0, x1, x2, h)) = some r → pm_Le h r) ∧ (∀ (x0 : Nat) (x1 : Nat) (x2 : Nat) (s0 : Nat) (s1 : Nat) (h : pm_H), pm_iter sX10_init n (.inr (.inl (x0, x1, x2, s0, s1, h))) = some r → pm_Le h r) ∧ (∀ (x0 : Nat) (x1 : Nat) (x2 : Nat) (s0 : Nat) (s1 : Nat) (h : pm_H), pm_iter sX10_init n (.inr (.inr (.inl (x0, x1, x2, s0, s1, h)))) = some r → pm_Le h r) ∧ (∀ (x0 : Nat) (x1 : Nat) (x2 : Nat) (s0 : Nat) (s1 : Nat) (h : pm_H), pm_iter sX10_init n (.inr (.inr (.inr (.inl (x0, x1, x2, s0, s1, h))))) = some r → pm_Le h r) ∧ (∀ (x0 : Nat) (x1 : Nat) (x2 : Nat) (s0 : Nat) (s1 : Nat) (h : pm_H), pm_iter sX10_init n (.inr (.inr (.inr (.inr (.inl (x0, x1, x2, s0, s1, h)))))) = some r → pm_Le h r) ∧ (∀ (x0 : Nat) (x1 : Nat) (x2 : Nat) (s0 : Nat) (s1 : Nat) (h : pm_H), pm_iter sX10_init n (.inr (.inr (.inr (.inr (.inr (.inl (x0, x1, x2, s0, s1, h))))))) = some r → pm_Le h r) ∧ (∀ (x0 : Nat) (x1 : Nat) (x2 : Nat) (s0 : Nat) (s1 : Nat) (h : pm_H), pm_iter sX10_init n (.inr (.inr (.inr (.inr (.inr (.inr (.inl (x0, x1, x2, s0, s1, h)))))))) = some r → pm_Le h r) ∧ (∀ (x0 : Nat) (x1 : Nat) (x2 : Nat) (s0 : Nat) (s1 : Nat) (h : pm_H), pm_iter sX10_init n (.inr (.inr (.inr (.inr (.inr (.inr (.inr (.inl (x0, x1, x2, s0, s1, h))))))))) = some r → pm_Le h r) ∧ (∀ (x0 : Nat) (x1 : Nat) (x2 : Nat) (s0 : Nat) (s1 : Nat) (h : pm_H), pm_iter sX10_init n (.inr (.inr (.inr (.inr (.inr (.inr (.inr (.inr (.inl (x0, x1, x2, s0, s1, h)))))))))) = some r → pm_Le h r) ∧ (∀ (x0 : Nat) (x1 : Nat) (x2 : Nat) (s0 : Nat) (s1 : Nat) (h : pm_H), pm_iter sX10_init n (.inr (.inr (.inr (.inr (.inr (.inr (.inr (.inr (.inr (.inl (x0, x1, x2, s0, s1, h))))))))))) = some r → pm_Le h r) ∧ (∀ (x0 : Nat) (x1 : Nat) (x2 : Nat) (s0 : Nat) (s1 : Nat) (h : pm_H), pm_iter sX10_init n (.inr (.inr (.inr (.inr (.inr (.inr (.inr (.inr (.inr (.inr (.inl (x0, x1, x2, s0, s1, h)))))))))))) = some r → pm_Le h r) ∧ (∀ (x0 : Nat) (x1 : Nat) (x2 : Nat) (s0 : Nat) (s1 : Nat) (h : pm_H), pm_iter sX10_init n (.inr (.inr (.inr (.inr (.inr (.inr (.inr (.inr (.inr (.inr (.inr (.inl (x0, x1, x2, s0, s1, h))))))))))))) = some r → pm_Le h r) ∧ (∀ (x0 : Nat) (x1 : Nat) (x2 : Nat) (s0 : Nat) (s1 : Nat) (h : pm_H), pm_iter sX10_init n (.inr (.inr (.inr (.inr (.inr (.inr (.inr (.inr (.inr (.inr (.inr (.inr (.inl (x0, x1, x2, s0, s1, h)))))))))))))) = some r → pm_Le h r) ∧ (∀ (x0 : Nat) (x1 : Nat) (x2 : Nat) (s0 : Nat) (s1 : Nat) (h : pm_H), pm_iter sX10_init n (.inr (.inr (.inr (.inr (.inr (.inr (.inr (.inr (.inr (.inr (.inr (.inr (.inr (.inl (x0, x1, x2, s0, s1, h))))))))))))))) = some r → pm_Le h r) ∧ (∀ (x0 : Nat) (x1 : Nat) (x2 : Nat) (s0 : Nat) (s1 : Nat) (h : pm_H), pm_iter sX10_init n (.inr (.inr (.inr (.inr (.inr (.inr (.inr (.inr (.inr (.inr (.inr (.inr (.inr (.inr (.inl (x0, x1, x2, s0, s1, h)))))))))))))))) = some r → pm_Le h r) ∧ (∀ (x0 : Nat) (x2 : Nat) (s0 : Nat) (s1 : Nat) (h : pm_H), pm_iter sX10_init n (.inr (.inr (.inr (.inr (.inr (.inr (.inr (.inr (.inr (.inr (.inr (.inr (.inr (.inr (.inr (.inl (x0, x2, s0, s1, h))))))))))))))))) = some r → pm_Le h r) ∧ (∀ (x0 : Nat) (s0 : Nat) (s1 : Nat) (h : pm_H), pm_iter sX10_init n (.inr (.inr (.inr (.inr (.inr (.inr (.inr (.inr (.inr (.inr (.inr (.inr (.inr (.inr (.inr (.inr (.inl (x0, s0, s1, h)))))))))))))))))) = some r → pm_Le h r) ∧ (∀ (x0 : Nat) (s0 : Nat) (h : pm_H), pm_iter sX10_init n (.inr (.inr (.inr (.inr (.inr (.inr (.inr (.inr (.inr (.inr (.inr (.inr (.inr (.inr (.inr (.inr (.inr (.inl (x0, s0, h))))))))))))))))))) = some r → pm_Le h r) ∧ (∀ (x0 : Nat) (s0 : Nat) (s1 : Nat) (s2 : Nat) (h : pm_H), pm_iter sX10_init n (.inr (.inr (.inr (.inr (.inr (.inr (.inr (.inr (.inr (.inr (.inr (.inr (.inr (.inr (.inr (.inr (.inr (.inr (.inl (x0, s0, s1, s2, h)))))))))))))))))))) = some r → pm_Le h r) ∧ (∀ (x0 : Nat) (s0 : Nat) (h : pm_H), pm_iter sX10_init n (.inr (.inr (.inr (.inr (.inr (.inr (.inr (.inr (.inr (.inr (.inr (.inr (.inr (.inr (.inr (.inr (.inr (.inr (.inr (.inl (x0, s0, h))))))))))))))))))))) = some r → pm_Le h r) ∧ (∀ (x0 : Nat) (x3 : Nat) (x4 : Int32) (h : pm_H), pm_iter sX10_init n (.inr (.inr (.inr (.inr (.inr (.inr (.inr (.inr (.inr (.inr (.inr (.inr (.inr (.inr (.inr (.inr (.inr (.inr (.inr (.inr (.inl (x0, x3, x4, h)))))))))))))))))))))) = some r → pm_Le h r) ∧ (∀ (x0 : Nat) (x4 : Int32) (h : pm_H), pm_iter sX10_init n (.inr (.inr (.inr (.inr (.inr (.inr (.inr (.inr (.inr (.inr (.inr (.inr (.inr (.inr (.inr (.inr (.inr (.inr (.inr (.inr (.inr (.inl (x0, x4, h))))))))))))))))))))))) = some r → pm_Le h r) ∧ (∀ (x0 : Nat) (x4 : Int32) (h : pm_H), pm_iter sX10_init n (.inr (.inr (.inr (.inr (.inr (.inr (.inr (.inr (.inr (.inr (.inr (.inr (.inr (.inr (.inr (.inr (.inr (.inr (.inr (.inr (.inr (.inr (x0, x4, h))))))))))))))))))))))) = some r → pm_Le h r) := by
  intro n
  induction n with
  | zero => exact ⟨fun _ _ _ _ hf => (by cases hf), fun _ _ _ _ _ _ hf => (by cases hf), fun _ _ _ _ _ _ hf => (by cases hf), fun _ _ _ _ _ _ hf => (by cases hf), fun _ _ _ _ _ _ hf => (by cases hf), fun _ _ _ _ _ _ hf => (by cases hf), fun _ _ _ _ _ _ hf => (by cases hf), fun _ _ _ _ _ _ hf => (by cases hf), fun _ _ _ _ _ _ hf => (by cases hf), fun _ _ _ _ _ _ hf => (by cases hf), fun _ _ _ _ _ _ hf => (by cases hf), fun _ _ _ _ _ _ hf => (by cases hf), fun _ _ _ _ _ _ hf => (by cases hf), fun _ _ _ _ _ _ hf => (by cases hf), fun _ _ _ _ _ _ hf => (by cases hf), fun _ _ _ _ _ hf => (by cases hf), fun _ _ _ _ hf => (by cases hf), fun _ _ _ hf => (by cases hf), fun _ _ _ _ _ hf => (by cases hf), fun _ _ _ hf => (by cases hf), fun _ _ _ _ hf => (by cases hf), fun _ _ _ hf => (by cases hf), fun _ _ _ hf => (by cases hf)⟩
  | succ n ih =>
    refine ⟨fun x0 x1 x2 h hf => ?_, ?_⟩
    · obtain ⟨y, hf, hi⟩ := pm_iter_s hf
      have hf : tX10_init_0 x0 x1 x2 h = some y := hf
      unfold tX10_init_0 at hf
      have K0 := pm_S3.rf h
      cases hf
      exact ((pm_S3.le K0).trans (pm_Le_new _ _ _)).trans (ih.2.1 x0 x1 x2 (pm_sz h) x0 (pm_new h 11 0) hi)
    refine ⟨fun x0 x1 x2 s0 s1 h hf => ?_, ?_⟩
    · obtain ⟨y, hf, hi⟩ := pm_iter_s hf
      have hf : tX10_init_8 x0 x1 x2 s0 s1 h = some y := hf
      unfold tX10_init_8 at hf
      have K0 := pm_S3.rf h
      obtain ⟨v1, e2, hf⟩ := pm_bd hf
      cases hf
      exact ((pm_S3.le K0).trans (moX11_init e2)).trans (ih.2.2.1 x0 x1 x2 s0 s1 v1 hi)
    refine ⟨fun x0 x1 x2 s0 s1 h hf => ?_, ?_⟩
    · obtain ⟨y, hf, hi⟩ := pm_iter_s hf
      have hf : tX10_init_12 x0 x1 x2 s0 s1 h = some y := hf
      unfold tX10_init_12 at hf
      have K0 := pm_S3.rf h
      obtain ⟨k3, hf⟩ := pm_if hf
      cases hf
      exact ((pm_S3.le (pm_S3R K0)).trans (pm_Le_new _ _ _)).trans (ih.2.2.2.1 x0 x1 x2 (pm_sz (pm_setR h s1 4 (some s0))) x0 (pm_new (pm_setR h s1 4 (some s0)) 6 0) hi)
    refine ⟨fun x0 x1 x2 s0 s1 h hf => ?_, ?_⟩
    · obtain ⟨y, hf, hi⟩ := pm_iter_s hf
      have hf : tX10_init_19 x0 x1 x2 s0 s1 h = some y := hf
      unfold tX10_init_19 at hf
      have K0 := pm_S3.rf h
      obtain ⟨v4, e5, hf⟩ := pm_bd hf
      cases hf
      exact ((pm_S3.le K0).trans (moX6_init e5)).trans (ih.2.2.2.2.1 x0 x1 x2 s0 s1 v4 hi)
    refine ⟨fun x0 x1 x2 s0 s1 h hf => ?_, ?_⟩
    · obtain ⟨y, hf, hi⟩ := pm_iter_s hf
      have hf : tX10_init_23 x0 x1 x2 s0 s1 h = some y := hf
      unfold tX10_init_23 at hf
      have K0 := pm_S3.rf h
      obtain ⟨k6, hf⟩ := pm_if hf
      cases hf
      exact ((pm_S3.le (pm_S3R K0)).trans (pm_Le_new _ _ _)).trans (ih.2.2.2.2.2.1 x0 x1 x2 (pm_sz (pm_setR h s1 5 (some s0))) x0 (pm_new (pm_setR h s1 5 (some s0)) 34 256) hi)
    refine ⟨fun x0 x1 x2 s0 s1 h hf => ?_, ?_⟩
    · obtain ⟨y, hf, hi⟩ := pm_iter_s hf
      have hf : tX10_init_32 x0 x1 x2 s0 s1 h = some y := hf
      unfold tX10_init_32 at hf
      have K0 := pm_S3.rf h
      obtain ⟨k7, hf⟩ := pm_if hf
      cases hf
      exact ((pm_S3.le (pm_S3R K0)).trans (pm_Le_new _ _ _)).trans (ih.2.2.2.2.2.2.1 x0 x1 x2 (pm_sz (pm_setR h s1 6 (some s0))) x0 (pm_new (pm_setR h s1 6 (some s0)) 35 256) hi)
    refine ⟨fun x0 x1 x2 s0 s1 h hf => ?_, ?_⟩
    · obtain ⟨y, hf, hi⟩ := pm_iter_s hf
      have hf : tX10_init_41 x0 x1 x2 s0 s1 h = some y := hf
      unfold tX10_init_41 at hf
      have K0 := pm_S3.rf h
      obtain ⟨k8, hf⟩ := pm_if hf
      cases hf
      exact ((pm_S3.le (pm_S3R K0)).trans (pm_Le_new _ _ _)).trans (ih.2.2.2.2.2.2.2.1 x0 x1 x2 (pm_sz (pm_setR h s1 7 (some s0))) x0 (pm_new (pm_setR h s1 7 (some s0)) 32 256) hi)
    refine ⟨fun x0 x1 x2 s0 s1 h hf => ?_, ?_⟩
    · obtain ⟨y, hf, hi⟩ := pm_iter_s hf
      have hf : tX10_init_50 x0 x1 x2 s0 s1 h = some y := hf
      unfold tX10_init_50 at hf
      have K0 := pm_S3.rf h
      obtain ⟨k9, hf⟩ := pm_if hf
      cases hf
      exact ((pm_S3.le (pm_S3R K0)).trans (pm_Le_new _ _ _)).trans (ih.2.2.2.2.2.2.2.2.1 x0 x1 x2 (pm_sz (pm_setR h s1 8 (some s0))) x0 (pm_new (pm_setR h s1 8 (some s0)) 38 512) hi)
    refine ⟨fun x0 x1 x2 s0 s1 h hf => ?_, ?_⟩
    · obtain ⟨y, hf, hi⟩ := pm_iter_s hf
      have hf : tX10_init_60 x0 x1 x2 s0 s1 h = some y := hf
      unfold tX10_init_60 at hf
      have K0 := pm_S3.rf h
      obtain ⟨k10, hf⟩ := pm_if hf
      cases hf
      exact ((pm_S3.le (pm_S3R K0)).trans (pm_Le_new _ _ _)).trans (ih.2.2.2.2.2.2.2.2.2.1 x0 x1 x2 (pm_sz (pm_setR h s1 10 (some s0))) x0 (pm_new (pm_setR h s1 10 (some s0)) 40 512) hi)
    refine ⟨fun x0 x1 x2 s0 s1 h hf => ?_, ?_⟩
    · obtain ⟨y, hf, hi⟩ := pm_iter_s hf
      have hf : tX10_init_70 x0 x1 x2 s0 s1 h = some y := hf
      unfold tX10_init_70 at hf
      have K0 := pm_S3.rf h
      obtain ⟨k11, hf⟩ := pm_if hf
      cases hf
      exact ((pm_S3.le (pm_S3R K0)).trans (pm_Le_new _ _ _)).trans (ih.2.2.2.2.2.2.2.2.2.2.1 x0 x1 x2 (pm_sz (pm_setR h s1 11 (some s0))) x0 (pm_new (pm_setR h s1 11 (some s0)) 34 512) hi)
    refine ⟨fun x0 x1 x2 s0 s1 h hf => ?_, ?_⟩
    · obtain ⟨y, hf, hi⟩ := pm_iter_s hf
      have hf : tX10_init_79 x0 x1 x2 s0 s1 h = some y := hf
      unfold tX10_init_79 at hf
      have K0 := pm_S3.rf h
      obtain ⟨k12, hf⟩ := pm_if hf
      cases hf
      exact ((pm_S3.le (pm_S3R K0)).trans (pm_Le_new _ _ _)).trans (ih.2.2.2.2.2.2.2.2.2.2.2.1 x0 x1 x2 (pm_sz (pm_setR h s1 12 (some s0))) x0 (pm_new (pm_setR h s1 12 (some s0)) 34 512) hi)
    refine ⟨fun x0 x1 x2 s0 s1 h hf => ?_, ?_⟩
    · obtain ⟨y, hf, hi⟩ := pm_iter_s hf
      have hf : tX10_init_88 x0 x1 x2 s0 s1 h = some y := hf
      unfold tX10_init_88 at hf
      have K0 := pm_S3.rf h
      obtain ⟨k13, hf⟩ := pm_if hf
      cases hf
      exact ((pm_S3.le (pm_S3R K0)).trans (pm_Le_new _ _ _)).trans (ih.2.2.2.2.2.2.2.2.2.2.2.2.1 x0 x1 x2 (pm_sz (pm_setR h s1 13 (some s0))) x0 (pm_new (pm_setR h s1 13 (some s0)) 32 512) hi)
    refine ⟨fun x0 x1 x2 s0 s1 h hf => ?_, ?_⟩
    · obtain ⟨y, hf, hi⟩ := pm_iter_s hf
      have hf : tX10_init_97 x0 x1 x2 s0 s1 h = some y := hf
      unfold tX10_init_97 at hf
      have K0 := pm_S3.rf h
      obtain ⟨k14, hf⟩ := pm_if hf
      cases hf
      exact ((pm_S3.le (pm_S3R K0)).trans (pm_Le_new _ _ _)).trans (ih.2.2.2.2.2.2.2.2.2.2.2.2.2.1 x0 x1 x2 (pm_sz (pm_setR h s1 14 (some s0))) x0 (pm_new (pm_setR h s1 14 (some s0)) 40 16) hi)
    refine ⟨fun x0 x1 x2 s0 s1 h hf => ?_, ?_⟩
    · obtain ⟨y, hf, hi⟩ := pm_iter_s hf
      have hf : tX10_init_106 x0 x1 x2 s0 s1 h = some y := hf
      unfold tX10_init_106 at hf
      have K0 := pm_S3.rf h
      obtain ⟨k15, hf⟩ := pm_if hf
      obtain ⟨k16, hf⟩ := pm_if hf
      cases hf
      exact ((pm_S3.le (pm_S3I (pm_S3R K0))).trans (pm_Le_new _ _ _)).trans (ih.2.2.2.2.2.2.2.2.2.2.2.2.2.2.1 x0 x1 x2 (pm_sz (pm_setI (pm_setR h s1 15 (some s0)) x0 17 2048)) x0 (pm_new (pm_setI (pm_setR h s1 15 (some s0)) x0 17 2048) 8 0) hi)
    refine ⟨fun x0 x1 x2 s0 s1 h hf => ?_, ?_⟩
    · obtain ⟨y, hf, hi⟩ := pm_iter_s hf
      have hf : tX10_init_120 x0 x1 x2 s0 s1 h = some y := hf
      unfold tX10_init_120 at hf
      have K0 := pm_S3.rf h
      obtain ⟨v17, e18, hf⟩ := pm_lt hf
      obtain ⟨k19, hf⟩ := pm_if hf
      obtain ⟨k20, hf⟩ := pm_if hf
      cases hf
      exact ((pm_S3.le (pm_S3R (pm_S3R K0))).trans (pm_Le_new _ _ _)).trans (ih.2.2.2.2.2.2.2.2.2.2.2.2.2.2.2.1 x0 x2 (pm_sz (pm_setR (pm_setR h s1 19 (some s0)) x0 18 (some x1))) x0 (pm_new (pm_setR (pm_setR h s1 19 (some s0)) x0 18 (some x1)) 4 0) hi)
    refine ⟨fun x0 x2 s0 s1 h hf => ?_, ?_⟩
    · obtain ⟨y, hf, hi⟩ := pm_iter_s hf
      have hf : tX10_init_136 x0 x2 s0 s1 h = some y := hf
      unfold tX10_init_136 at hf
      have K0 := pm_S3.rf h
      obtain ⟨v21, e22, hf⟩ := pm_bd hf
      cases hf
      exact ((pm_S3.le K0).trans (moX4_init e22)).trans (ih.2.2.2.2.2.2.2.2.2.2.2.2.2.2.2.2.1 x0 s0 s1 v21 hi)
    refine ⟨fun x0 s0 s1 h hf => ?_, ?_⟩
    · obtain ⟨y, hf, hi⟩ := pm_iter_s hf
      have hf : tX10_init_141 x0 s0 s1 h = some y := hf
      unfold tX10_init_141 at hf
      have K0 := pm_S3.rf h
      obtain ⟨k23, hf⟩ := pm_if hf
      cases hf
      exact ((pm_S3.le (pm_S3R K0)).trans (pm_Le_new _ _ _)).trans (ih.2.2.2.2.2.2.2.2.2.2.2.2.2.2.2.2.2.1 x0 (pm_sz (pm_setR h s1 16 (some s0))) (pm_new (pm_setR h s1 16 (some s0)) 0 0) hi)
    refine ⟨fun x0 s0 h hf => ?_, ?_⟩
    · obtain ⟨y, hf, hi⟩ := pm_iter_s hf
      have hf : tX10_init_147 x0 s0 h = some y := hf
      unfold tX10_init_147 at hf
      have K0 := pm_S3.rf h
      cases hf
      exact ((pm_S3.le K0).trans (pm_Le_new _ _ _)).trans (ih.2.2.2.2.2.2.2.2.2.2.2.2.2.2.2.2.2.2.1 x0 (pm_sz h) s0 s0 (pm_new h 34 2) hi)
    refine ⟨fun x0 s0 s1 s2 h hf => ?_, ?_⟩
    · obtain ⟨y, hf, hi⟩ := pm_iter_s hf
      have hf : tX10_init_151 x0 s0 s1 s2 h = some y := hf
      unfold tX10_init_151 at hf
      have K0 := pm_S3.rf h
      obtain ⟨v24, e25, hf⟩ := pm_bd hf
      cases hf
      exact ((pm_S3.le K0).trans (moX0_init e25)).trans (ih.2.2.2.2.2.2.2.2.2.2.2.2.2.2.2.2.2.2.2.1 x0 s2 v24 hi)
    refine ⟨fun x0 s0 h hf => ?_, ?_⟩
    · obtain ⟨y, hf, hi⟩ := pm_iter_s hf
      have hf : tX10_init_155 x0 s0 h = some y := hf
      unfold tX10_init_155 at hf
      have K0 := pm_S3.rf h
      cases hf
      exact (pm_S3.le K0).trans (ih.2.2.2.2.2.2.2.2.2.2.2.2.2.2.2.2.2.2.2.2.1 x0 s0 0 h hi)
    refine ⟨fun x0 x3 x4 h hf => ?_, ?_⟩
    · obtain ⟨y, hf, hi⟩ := pm_iter_s hf
      have hf : tX10_init_159 x0 x3 x4 h = some y := hf
      unfold tX10_init_159 at hf
      have K0 := pm_S3.rf h
      obtain ⟨k26, hf⟩ := pm_if hf
      obtain ⟨v27, e28, hf⟩ := pm_bd hf
      obtain ⟨k29, hf⟩ := pm_if hf
      by_cases c30 : (Int32.ofNat (pm_ln h v27)) ≤ x4
      · have hf := pm_it hf c30
        cases hf
        exact (pm_S3.le K0).trans (ih.2.2.2.2.2.2.2.2.2.2.2.2.2.2.2.2.2.2.2.2.2.1 x0 0 h hi)
      · have hf := pm_ie hf c30
        obtain ⟨k31, hf⟩ := pm_if hf
        obtain ⟨u32, hf⟩ := pm_if hf
        obtain ⟨y33, e34, hf⟩ := pm_lt hf
        cases hf
        exact (pm_S3.le (pm_S3R K0)).trans (ih.2.2.2.2.2.2.2.2.2.2.2.2.2.2.2.2.2.2.2.2.1 x0 x3 y33 (pm_setR h v27 x4.toNatClampNeg (some x3)) hi)
    refine ⟨fun x0 x4 h hf => ?_, ?_⟩
    · obtain ⟨y, hf, hi⟩ := pm_iter_s hf
      have hf : tX10_init_186 x0 x4 h = some y := hf
      unfold tX10_init_186 at hf
      have K0 := pm_S3.rf h
      obtain ⟨k35, hf⟩ := pm_if hf
      obtain ⟨v36, e37, hf⟩ := pm_bd hf
      obtain ⟨k38, hf⟩ := pm_if hf
      by_cases c39 : (Int32.ofNat (pm_ln h v36)) ≤ x4
      · have hf := pm_it hf c39
        cases hf
        exact (pm_S3.le K0).trans (ih.2.2.2.2.2.2.2.2.2.2.2.2.2.2.2.2.2.2.2.2.2.2 x0 0 h hi)
      · have hf := pm_ie hf c39
        obtain ⟨v40, e41, hf⟩ := pm_bd hf
        obtain ⟨k42, hf⟩ := pm_if hf
        obtain ⟨u43, hf⟩ := pm_if hf
        obtain ⟨y44, e45, hf⟩ := pm_lt hf
        cases hf
        exact (pm_S3.le (pm_S3R K0)).trans (ih.2.2.2.2.2.2.2.2.2.2.2.2.2.2.2.2.2.2.2.2.2.1 x0 y44 (pm_setR h v36 x4.toNatClampNeg (some v40)) hi)
    refine fun x0 x4 h hf => ?_
    obtain ⟨y, hf, hi⟩ := pm_iter_s hf
    have hf : tX10_init_216 x0 x4 h = some y := hf
    unfold tX10_init_216 at hf
    have K0 := pm_S3.rf h
    obtain ⟨k46, hf⟩ := pm_if hf
    obtain ⟨v47, e48, hf⟩ := pm_bd hf
    obtain ⟨k49, hf⟩ := pm_if hf
    by_cases c50 : (Int32.ofNat (pm_ln h v47)) ≤ x4
    · have hf := pm_it hf c50
      have hf := Option.some.inj hf
      subst hf
      have hi := Option.some.inj (show some _ = some r from hi)
      subst hi
      exact pm_S3.le K0
    · have hf := pm_ie hf c50
      obtain ⟨v51, e52, hf⟩ := pm_bd hf
      obtain ⟨k53, hf⟩ := pm_if hf
      obtain ⟨u54, hf⟩ := pm_if hf
      obtain ⟨y55, e56, hf⟩ := pm_lt hf
      cases hf
      exact (pm_S3.le (pm_S3R K0)).trans (ih.2.2.2.2.2.2.2.2.2.2.2.2.2.2.2.2.2.2.2.2.2.2 x0 y55 (pm_setR h v47 x4.toNatClampNeg (some v51)) hi)
set_option maxHeartbeats 4000000 in
set_option maxRecDepth 100000 in
theorem moX10_init {h : pm_H} {a0 : Nat} {p1 : Nat} {p2 : Nat} {r : pm_H} (hf : fX10_init h a0 p1 p2 = some r) : pm_Le h r := by
  unfold fX10_init at hf
  have K0 := pm_S3.rf h
  obtain ⟨n, hn⟩ := pm_lim_iter hf
  exact (mlX10_init n).1 a0 p1 p2 h hn
set_option maxHeartbeats 4000000 in
set_option maxRecDepth 100000 in
theorem lpX10_init {g : pm_Gm} {l : Launch} {G : pm_Gl} {Qr : Option Value → pm_H → Prop} (C : pm_C g cX10_init RX10) {h0 : pm_H} {r : pm_H} (X : pm_X g l G mX10_init (pm_sz r - pm_sz h0) (pm_us r - pm_us h0) Qr) (q : Qr none r) (nm : g.2.2.2.2.2.2.2.2.1.name = "<init>") : ∀ n : Nat, (∀ (x0 : Nat) (x1 : Nat) (x2 : Nat) (h : pm_H), pm_Le h0 h → pm_iter sX10_init n (.inl (x0, x1, x2, h)) = some r → pm_G g 0 [(0, .ref x0), (1, .ref x1), (2, .ref x2)] [] h (pm_sz h - pm_sz h0) (pm_us h - pm_us h0)) ∧ (∀ (x0 : Nat) (x1 : Nat) (x2 : Nat) (s0 : Nat) (s1 : Nat) (h : pm_H), pm_Le h0 h → pm_iter sX10_init n (.inr (.inl (x0, x1, x2, s0, s1, h))) = some r → pm_G g 8 [(0, .ref x0), (1, .ref x1), (2, .ref x2)] [.ref s0, .ref s1] h (pm_sz h - pm_sz h0) (pm_us h - pm_us h0)) ∧ (∀ (x0 : Nat) (x1 : Nat) (x2 : Nat) (s0 : Nat) (s1 : Nat) (h : pm_H), pm_Le h0 h → pm_iter sX10_init n (.inr (.inr (.inl (x0, x1, x2, s0, s1, h)))) = some r → pm_G g 12 [(0, .ref x0), (1, .ref x1), (2, .ref x2)] [.ref s0, .ref s1] h (pm_sz h - pm_sz h0) (pm_us h - pm_us h0)) ∧ (∀ (x0 : Nat) (x1 : Nat) (x2 : Nat) (s0 : Nat) (s1 : Nat) (h : pm_H), pm_Le h0 h → pm_iter sX10_init n (.inr (.inr (.inr (.inl (x0, x1, x2, s0, s1, h))))) = some r → pm_G g 19 [(0, .ref x0), (1, .ref x1), (2, .ref x2)] [.ref s0, .ref s1] h (pm_sz h - pm_sz h0) (pm_us h - pm_us h0)) ∧ (∀ (x0 : Nat) (x1 : Nat) (x2 : Nat) (s0 : Nat) (s1 : Nat) (h : pm_H), pm_Le h0 h → pm_iter sX10_init n (.inr (.inr (.inr (.inr (.inl (x0, x1, x2, s0, s1, h)))))) = some r → pm_G g 23 [(0, .ref x0), (1, .ref x1), (2, .ref x2)] [.ref s0, .ref s1] h (pm_sz h - pm_sz h0) (pm_us h - pm_us h0)) ∧ (∀ (x0 : Nat) (x1 : Nat) (x2 : Nat) (s0 : Nat) (s1 : Nat) (h : pm_H), pm_Le h0 h → pm_iter sX10_init n (.inr (.inr (.inr (.inr (.inr (.inl (x0, x1, x2, s0, s1, h))))))) = some r → pm_G g 32 [(0, .ref x0), (1, .ref x1), (2, .ref x2)] [.ref s0, .ref s1] h (pm_sz h - pm_sz h0) (pm_us h - pm_us h0)) ∧ (∀ (x0 : Nat) (x1 : Nat) (x2 : Nat) (s0 : Nat) (s1 : Nat) (h : pm_H), pm_Le h0 h → pm_iter sX10_init n (.inr (.inr (.inr (.inr (.inr (.inr (.inl (x0, x1, x2, s0, s1, h)))))))) = some r → pm_G g 41 [(0, .ref x0), (1, .ref x1), (2, .ref x2)] [.ref s0, .ref s1] h (pm_sz h - pm_sz h0) (pm_us h - pm_us h0)) ∧ (∀ (x0 : Nat) (x1 : Nat) (x2 : Nat) (s0 : Nat) (s1 : Nat) (h : pm_H), pm_Le h0 h → pm_iter sX10_init n (.inr (.inr (.inr (.inr (.inr (.inr (.inr (.inl (x0, x1, x2, s0, s1, h))))))))) = some r → pm_G g 50 [(0, .ref x0), (1, .ref x1), (2, .ref x2)] [.ref s0, .ref s1] h (pm_sz h - pm_sz h0) (pm_us h - pm_us h0)) ∧ (∀ (x0 : Nat) (x1 : Nat) (x2 : Nat) (s0 : Nat) (s1 : Nat) (h : pm_H), pm_Le h0 h → pm_iter sX10_init n (.inr (.inr (.inr (.inr (.inr (.inr (.inr (.inr (.inl (x0, x1, x2, s0, s1, h)))))))))) = some r → pm_G g 60 [(0, .ref x0), (1, .ref x1), (2, .ref x2)] [.ref s0, .ref s1] h (pm_sz h - pm_sz h0) (pm_us h - pm_us h0)) ∧ (∀ (x0 : Nat) (x1 : Nat) (x2 : Nat) (s0 : Nat) (s1 : Nat) (h : pm_H), pm_Le h0 h → pm_iter sX10_init n (.inr (.inr (.inr (.inr (.inr (.inr (.inr (.inr (.inr (.inl (x0, x1, x2, s0, s1, h))))))))))) = some r → pm_G g 70 [(0, .ref x0), (1, .ref x1), (2, .ref x2)] [.ref s0, .ref s1] h (pm_sz h - pm_sz h0) (pm_us h - pm_us h0)) ∧ (∀ (x0 : Nat) (x1 : Nat) (x2 : Nat) (s0 : Nat) (s1 : Nat) (h : pm_H), pm_Le h0 h → pm_iter sX10_init n (.inr (.inr (.inr (.inr (.inr (.inr (.inr (.inr (.inr (.inr (.inl (x0, x1, x2, s0, s1, h)))))))))))) = some r → pm_G g 79 [(0, .ref x0), (1, .ref x1), (2, .ref x2)] [.ref s0, .ref s1] h (pm_sz h - pm_sz h0) (pm_us h - pm_us h0)) ∧ (∀ (x0 : Nat) (x1 : Nat) (x2 : Nat) (s0 : Nat) (s1 : Nat) (h : pm_H), pm_Le h0 h → pm_iter sX10_init n (.inr (.inr (.inr (.inr (.inr (.inr (.inr (.inr (.inr (.inr (.inr (.inl (x0, x1, x2, s0, s1, h))))))))))))) = some r → pm_G g 88 [(0, .ref x0), (1, .ref x1), (2, .ref x2)] [.ref s0, .ref s1] h (pm_sz h - pm_sz h0) (pm_us h - pm_us h0)) ∧ (∀ (x0 : Nat) (x1 : Nat) (x2 : Nat) (s0 : Nat) (s1 : Nat) (h : pm_H), pm_Le h0 h → pm_iter sX10_init n (.inr (.inr (.inr (.inr (.inr (.inr (.inr (.inr (.inr (.inr (.inr (.inr (.inl (x0, x1, x2, s0, s1, h)))))))))))))) = some r → pm_G g 97 [(0, .ref x0), (1, .ref x1), (2, .ref x2)] [.ref s0, .ref s1] h (pm_sz h - pm_sz h0) (pm_us h - pm_us h0)) ∧ (∀ (x0 : Nat) (x1 : Nat) (x2 : Nat) (s0 : Nat) (s1 : Nat) (h : pm_H), pm_Le h0 h → pm_iter sX10_init n (.inr (.inr (.inr (.inr (.inr (.inr (.inr (.inr (.inr (.inr (.inr (.inr (.inr (.inl (x0, x1, x2, s0, s1, h))))))))))))))) = some r → pm_G g 106 [(0, .ref x0), (1, .ref x1), (2, .ref x2)] [.ref s0, .ref s1] h (pm_sz h - pm_sz h0) (pm_us h - pm_us h0)) ∧ (∀ (x0 : Nat) (x1 : Nat) (x2 : Nat) (s0 : Nat) (s1 : Nat) (h : pm_H), pm_Le h0 h → pm_iter sX10_init n (.inr (.inr (.inr (.inr (.inr (.inr (.inr (.inr (.inr (.inr (.inr (.inr (.inr (.inr (.inl (x0, x1, x2, s0, s1, h)))))))))))))))) = some r → pm_G g 120 [(0, .ref x0), (1, .ref x1), (2, .ref x2)] [.ref s0, .ref s1] h (pm_sz h - pm_sz h0) (pm_us h - pm_us h0)) ∧ (∀ (x0 : Nat) (x2 : Nat) (s0 : Nat) (s1 : Nat) (h : pm_H), pm_Le h0 h → pm_iter sX10_init n (.inr (.inr (.inr (.inr (.inr (.inr (.inr (.inr (.inr (.inr (.inr (.inr (.inr (.inr (.inr (.inl (x0, x2, s0, s1, h))))))))))))))))) = some r → pm_G g 136 [(0, .ref x0), (2, .ref x2)] [.ref s0, .ref s1] h (pm_sz h - pm_sz h0) (pm_us h - pm_us h0)) ∧ (∀ (x0 : Nat) (s0 : Nat) (s1 : Nat) (h : pm_H), pm_Le h0 h → pm_iter sX10_init n (.inr (.inr (.inr (.inr (.inr (.inr (.inr (.inr (.inr (.inr (.inr (.inr (.inr (.inr (.inr (.inr (.inl (x0, s0, s1, h)))))))))))))))))) = some r → pm_G g 141 [(0, .ref x0)] [.ref s0, .ref s1] h (pm_sz h - pm_sz h0) (pm_us h - pm_us h0)) ∧ (∀ (x0 : Nat) (s0 : Nat) (h : pm_H), pm_Le h0 h → pm_iter sX10_init n (.inr (.inr (.inr (.inr (.inr (.inr (.inr (.inr (.inr (.inr (.inr (.inr (.inr (.inr (.inr (.inr (.inr (.inl (x0, s0, h))))))))))))))))))) = some r → pm_G g 147 [(0, .ref x0)] [.ref s0] h (pm_sz h - pm_sz h0) (pm_us h - pm_us h0)) ∧ (∀ (x0 : Nat) (s0 : Nat) (s1 : Nat) (s2 : Nat) (h : pm_H), pm_Le h0 h → pm_iter sX10_init n (.inr (.inr (.inr (.inr (.inr (.inr (.inr (.inr (.inr (.inr (.inr (.inr (.inr (.inr (.inr (.inr (.inr (.inr (.inl (x0, s0, s1, s2, h)))))))))))))))))))) = some r → pm_G g 151 [(0, .ref x0)] [.ref s0, .ref s1, .ref s2] h (pm_sz h - pm_sz h0) (pm_us h - pm_us h0)) ∧ (∀ (x0 : Nat) (s0 : Nat) (h : pm_H), pm_Le h0 h → pm_iter sX10_init n (.inr (.inr (.inr (.inr (.inr (.inr (.inr (.inr (.inr (.inr (.inr (.inr (.inr (.inr (.inr (.inr (.inr (.inr (.inr (.inl (x0, s0, h))))))))))))))))))))) = some r → pm_G g 155 [(0, .ref x0)] [.ref s0] h (pm_sz h - pm_sz h0) (pm_us h - pm_us h0)) ∧ (∀ (x0 : Nat) (x3 : Nat) (x4 : Int32) (h : pm_H), pm_Le h0 h → pm_iter sX10_init n (.inr (.inr (.inr (.inr (.inr (.inr (.inr (.inr (.inr (.inr (.inr (.inr (.inr (.inr (.inr (.inr (.inr (.inr (.inr (.inr (.inl (x0, x3, x4, h)))))))))))))))))))))) = some r → pm_G g 159 [(0, .ref x0), (3, .ref x3), (4, .int x4)] [] h (pm_sz h - pm_sz h0) (pm_us h - pm_us h0)) ∧ (∀ (x0 : Nat) (x4 : Int32) (h : pm_H), pm_Le h0 h → pm_iter sX10_init n (.inr (.inr (.inr (.inr (.inr (.inr (.inr (.inr (.inr (.inr (.inr (.inr (.inr (.inr (.inr (.inr (.inr (.inr (.inr (.inr (.inr (.inl (x0, x4, h))))))))))))))))))))))) = some r → pm_G g 186 [(0, .ref x0), (4, .int x4)] [] h (pm_sz h - pm_sz h0) (pm_us h - pm_us h0)) ∧ (∀ (x0 : Nat) (x4 : Int32) (h : pm_H), pm_Le h0 h → pm_iter sX10_init n (.inr (.inr (.inr (.inr (.inr (.inr (.inr (.inr (.inr (.inr (.inr (.inr (.inr (.inr (.inr (.inr (.inr (.inr (.inr (.inr (.inr (.inr (x0, x4, h))))))))))))))))))))))) = some r → pm_G g 216 [(0, .ref x0), (4, .int x4)] [] h (pm_sz h - pm_sz h0) (pm_us h - pm_us h0)) := by
  intro n
  induction n with
  | zero => exact ⟨fun _ _ _ _ _ hf => (by cases hf), fun _ _ _ _ _ _ _ hf => (by cases hf), fun _ _ _ _ _ _ _ hf => (by cases hf), fun _ _ _ _ _ _ _ hf => (by cases hf), fun _ _ _ _ _ _ _ hf => (by cases hf), fun _ _ _ _ _ _ _ hf => (by cases hf), fun _ _ _ _ _ _ _ hf => (by cases hf), fun _ _ _ _ _ _ _ hf => (by cases hf), fun _ _ _ _ _ _ _ hf => (by cases hf), fun _ _ _ _ _ _ _ hf => (by cases hf), fun _ _ _ _ _ _ _ hf => (by cases hf), fun _ _ _ _ _ _ _ hf => (by cases hf), fun _ _ _ _ _ _ _ hf => (by cases hf), fun _ _ _ _ _ _ _ hf => (by cases hf), fun _ _ _ _ _ _ _ hf => (by cases hf), fun _ _ _ _ _ _ hf => (by cases hf), fun _ _ _ _ _ hf => (by cases hf), fun _ _ _ _ hf => (by cases hf), fun _ _ _ _ _ _ hf => (by cases hf), fun _ _ _ _ hf => (by cases hf), fun _ _ _ _ _ hf => (by cases hf), fun _ _ _ _ hf => (by cases hf), fun _ _ _ _ hf => (by cases hf)⟩
  | succ n ih =>
    refine ⟨fun x0 x1 x2 h m0 hf => ?_, ?_⟩
    · have le0 := (mlX10_init (n + 1)).1 x0 x1 x2 h hf
      have kc1 := Nat.sub_le_sub_right le0.1 (pm_sz h0)
      have kc2 := Nat.sub_le_sub_right le0.2 (pm_us h0)
      have K0 := pm_S3.rf h
      obtain ⟨y, hf, hi⟩ := pm_iter_s hf
      have hf : tX10_init_0 x0 x1 x2 h = some y := hf
      unfold tX10_init_0 at hf
      refine pm_aload_n C dX10_init_0 rfl rfl ?_
      refine pm_obj C X dX10_init_1 obX10_3 obI obC (by decide) (by decide) (Nat.le_of_ble_eq_true rfl) ?_
      refine pm_aload_n C dX10_init_4 rfl rfl ?_
      cases hf
      refine pa_newo (hb := h) (h0 := h0) C X K0 m0 dX10_init_5 pm_Cl11 ckX10_9 cc11.1 cc11.2 ((mlX10_init n).2.1 x0 x1 x2 (pm_sz h) x0 (pm_new h 11 0) hi) ?_
      exact pm_sub [0, 1, 2] rfl (ih.2.1 x0 x1 x2 (pm_sz h) x0 (pm_new h 11 0) ((m0.trans (pm_S3.le K0)).trans (pm_Le_new _ _ _)) hi)
    refine ⟨fun x0 x1 x2 s0 s1 h m0 hf => ?_, ?_⟩
    · have le0 := (mlX10_init (n + 1)).2.1 x0 x1 x2 s0 s1 h hf
      have kc1 := Nat.sub_le_sub_right le0.1 (pm_sz h0)
      have kc2 := Nat.sub_le_sub_right le0.2 (pm_us h0)
      have K0 := pm_S3.rf h
      obtain ⟨y, hf, hi⟩ := pm_iter_s hf
      have hf : tX10_init_8 x0 x1 x2 s0 s1 h = some y := hf
      unfold tX10_init_8 at hf
      refine pm_dup C dX10_init_8 rfl ?_
      obtain ⟨v1, e2, hf⟩ := pm_bd hf
      cases hf
      refine pm_callI (as := []) (st := [.ref s0, .ref s1]) C X dX10_init_9 lnX10_11 myX11_init iiX11_init ⟨by decide, by decide⟩ rfl rfl (Nat.le_of_ble_eq_true rfl) (pa_le1 K0 m0 (moX11_init e2) ((mlX10_init n).2.2.1 x0 x1 x2 s0 s1 v1 hi)) (pa_le2 K0 m0 (moX11_init e2) ((mlX10_init n).2.2.1 x0 x1 x2 s0 s1 v1 hi)) (ctX11_init e2 ?_)
      show pm_G g 12 [(0, .ref x0), (1, .ref x1), (2, .ref x2)] [.ref s0, .ref s1] v1 (pm_sz h - pm_sz h0 + (pm_sz v1 - pm_sz h)) (pm_us h - pm_us h0 + (pm_us v1 - pm_us h))
      refine pa_fin K0 m0 (moX11_init e2) ?_
      exact pm_sub [0, 1, 2] rfl (ih.2.2.1 x0 x1 x2 s0 s1 v1 ((m0.trans (pm_S3.le K0)).trans (moX11_init e2)) hi)
    refine ⟨fun x0 x1 x2 s0 s1 h m0 hf => ?_, ?_⟩
    · have le0 := (mlX10_init (n + 1)).2.2.1 x0 x1 x2 s0 s1 h hf
      have kc1 := Nat.sub_le_sub_right le0.1 (pm_sz h0)
      have kc2 := Nat.sub_le_sub_right le0.2 (pm_us h0)
      have K0 := pm_S3.rf h
      obtain ⟨y, hf, hi⟩ := pm_iter_s hf
      have hf : tX10_init_12 x0 x1 x2 s0 s1 h = some y := hf
      unfold tX10_init_12 at hf
      obtain ⟨k3, hf⟩ := pm_if hf
      refine pm_putRF C dX10_init_12 flX10_12 rfl nm rfl fwX10_12 rfl k3 ?_
      refine pm_aload_n C dX10_init_15 rfl rfl ?_
      cases hf
      refine pa_newo (hb := h) (h0 := h0) C X (pm_S3R K0) m0 dX10_init_16 pm_Cl6 ckX10_18 cc6.1 cc6.2 ((mlX10_init n).2.2.2.1 x0 x1 x2 (pm_sz (pm_setR h s1 4 (some s0))) x0 (pm_new (pm_setR h s1 4 (some s0)) 6 0) hi) ?_
      exact pm_sub [0, 1, 2] rfl (ih.2.2.2.1 x0 x1 x2 (pm_sz (pm_setR h s1 4 (some s0))) x0 (pm_new (pm_setR h s1 4 (some s0)) 6 0) ((m0.trans (pm_S3.le (pm_S3R K0))).trans (pm_Le_new _ _ _)) hi)
    refine ⟨fun x0 x1 x2 s0 s1 h m0 hf => ?_, ?_⟩
    · have le0 := (mlX10_init (n + 1)).2.2.2.1 x0 x1 x2 s0 s1 h hf
      have kc1 := Nat.sub_le_sub_right le0.1 (pm_sz h0)
      have kc2 := Nat.sub_le_sub_right le0.2 (pm_us h0)
      have K0 := pm_S3.rf h
      obtain ⟨y, hf, hi⟩ := pm_iter_s hf
      have hf : tX10_init_19 x0 x1 x2 s0 s1 h = some y := hf
      unfold tX10_init_19 at hf
      refine pm_dup C dX10_init_19 rfl ?_
      obtain ⟨v4, e5, hf⟩ := pm_bd hf
      cases hf
      refine pm_callI (as := []) (st := [.ref s0, .ref s1]) C X dX10_init_20 lnX10_20 myX6_init iiX6_init ⟨by decide, by decide⟩ rfl rfl (Nat.le_of_ble_eq_true rfl) (pa_le1 K0 m0 (moX6_init e5) ((mlX10_init n).2.2.2.2.1 x0 x1 x2 s0 s1 v4 hi)) (pa_le2 K0 m0 (moX6_init e5) ((mlX10_init n).2.2.2.2.1 x0 x1 x2 s0 s1 v4 hi)) (ctX6_init e5 ?_)
      show pm_G g 23 [(0, .ref x0), (1, .ref x1), (2, .ref x2)] [.ref s0, .ref s1] v4 (pm_sz h - pm_sz h0 + (pm_sz v4 - pm_sz h)) (pm_us h - pm_us h0 + (pm_us v4 - pm_us h))
      refine pa_fin K0 m0 (moX6_init e5) ?_
      exact pm_sub [0, 1, 2] rfl (ih.2.2.2.2.1 x0 x1 x2 s0 s1 v4 ((m0.trans (pm_S3.le K0)).trans (moX6_init e5)) hi)
    refine ⟨fun x0 x1 x2 s0 s1 h m0 hf => ?_, ?_⟩
    · have le0 := (mlX10_init (n + 1)).2.2.2.2.1 x0 x1 x2 s0 s1 h hf
      have kc1 := Nat.sub_le_sub_right le0.1 (pm_sz h0)
      have kc2 := Nat.sub_le_sub_right le0.2 (pm_us h0)
      have K0 := pm_S3.rf h
      obtain ⟨y, hf, hi⟩ := pm_iter_s hf
      have hf : tX10_init_23 x0 x1 x2 s0 s1 h = some y := hf
      unfold tX10_init_23 at hf
      obtain ⟨k6, hf⟩ := pm_if hf
      refine pm_putRF C dX10_init_23 flX10_21 rfl nm rfl fwX10_21 rfl k6 ?_
      refine pm_aload_n C dX10_init_26 rfl rfl ?_
      refine pm_sipush (v := 256) C dX10_init_27 (by decide) ?_
      cases hf
      refine pa_newa (hb := h) (h0 := h0) (t := 2) (N := 256) C X (pm_S3R K0) m0 dX10_init_30 (by decide) rfl al2 (by decide) (by decide +kernel) (by decide +kernel) ((mlX10_init n).2.2.2.2.2.1 x0 x1 x2 (pm_sz (pm_setR h s1 5 (some s0))) x0 (pm_new (pm_setR h s1 5 (some s0)) 34 256) hi) ?_
      exact pm_sub [0, 1, 2] rfl (ih.2.2.2.2.2.1 x0 x1 x2 (pm_sz (pm_setR h s1 5 (some s0))) x0 (pm_new (pm_setR h s1 5 (some s0)) 34 256) ((m0.trans (pm_S3.le (pm_S3R K0))).trans (pm_Le_new _ _ _)) hi)
    refine ⟨fun x0 x1 x2 s0 s1 h m0 hf => ?_, ?_⟩
    · have le0 := (mlX10_init (n + 1)).2.2.2.2.2.1 x0 x1 x2 s0 s1 h hf
      have kc1 := Nat.sub_le_sub_right le0.1 (pm_sz h0)
      have kc2 := Nat.sub_le_sub_right le0.2 (pm_us h0)
      have K0 := pm_S3.rf h
      obtain ⟨y, hf, hi⟩ := pm_iter_s hf
      have hf : tX10_init_32 x0 x1 x2 s0 s1 h = some y := hf
      unfold tX10_init_32 at hf
      obtain ⟨k7, hf⟩ := pm_if hf
      refine pm_putRF C dX10_init_32 flX10_25 rfl nm rfl fwX10_25 rfl k7 ?_
      refine pm_aload_n C dX10_init_35 rfl rfl ?_
      refine pm_sipush (v := 256) C dX10_init_36 (by decide) ?_
      cases hf
      refine pa_newa (hb := h) (h0 := h0) (t := 3) (N := 256) C X (pm_S3R K0) m0 dX10_init_39 (by decide) rfl al3 (by decide) (by decide +kernel) (by decide +kernel) ((mlX10_init n).2.2.2.2.2.2.1 x0 x1 x2 (pm_sz (pm_setR h s1 6 (some s0))) x0 (pm_new (pm_setR h s1 6 (some s0)) 35 256) hi) ?_
      exact pm_sub [0, 1, 2] rfl (ih.2.2.2.2.2.2.1 x0 x1 x2 (pm_sz (pm_setR h s1 6 (some s0))) x0 (pm_new (pm_setR h s1 6 (some s0)) 35 256) ((m0.trans (pm_S3.le (pm_S3R K0))).trans (pm_Le_new _ _ _)) hi)
    refine ⟨fun x0 x1 x2 s0 s1 h m0 hf => ?_, ?_⟩
    · have le0 := (mlX10_init (n + 1)).2.2.2.2.2.2.1 x0 x1 x2 s0 s1 h hf
      have kc1 := Nat.sub_le_sub_right le0.1 (pm_sz h0)
      have kc2 := Nat.sub_le_sub_right le0.2 (pm_us h0)
      have K0 := pm_S3.rf h
      obtain ⟨y, hf, hi⟩ := pm_iter_s hf
      have hf : tX10_init_41 x0 x1 x2 s0 s1 h = some y := hf
      unfold tX10_init_41 at hf
      obtain ⟨k8, hf⟩ := pm_if hf
      refine pm_putRF C dX10_init_41 flX10_29 rfl nm rfl fwX10_29 rfl k8 ?_
      refine pm_aload_n C dX10_init_44 rfl rfl ?_
      refine pm_sipush (v := 256) C dX10_init_45 (by decide) ?_
      cases hf
      refine pa_newa (hb := h) (h0 := h0) (t := 0) (N := 256) C X (pm_S3R K0) m0 dX10_init_48 (by decide) rfl al0 (by decide) (by decide +kernel) (by decide +kernel) ((mlX10_init n).2.2.2.2.2.2.2.1 x0 x1 x2 (pm_sz (pm_setR h s1 7 (some s0))) x0 (pm_new (pm_setR h s1 7 (some s0)) 32 256) hi) ?_
      exact pm_sub [0, 1, 2] rfl (ih.2.2.2.2.2.2.2.1 x0 x1 x2 (pm_sz (pm_setR h s1 7 (some s0))) x0 (pm_new (pm_setR h s1 7 (some s0)) 32 256) ((m0.trans (pm_S3.le (pm_S3R K0))).trans (pm_Le_new _ _ _)) hi)
    refine ⟨fun x0 x1 x2 s0 s1 h m0 hf => ?_, ?_⟩
    · have le0 := (mlX10_init (n + 1)).2.2.2.2.2.2.2.1 x0 x1 x2 s0 s1 h hf
      have kc1 := Nat.sub_le_sub_right le0.1 (pm_sz h0)
      have kc2 := Nat.sub_le_sub_right le0.2 (pm_us h0)
      have K0 := pm_S3.rf h
      obtain ⟨y, hf, hi⟩ := pm_iter_s hf
      have hf : tX10_init_50 x0 x1 x2 s0 s1 h = some y := hf
      unfold tX10_init_50 at hf
      obtain ⟨k9, hf⟩ := pm_if hf
      refine pm_putRF C dX10_init_50 flX10_33 rfl nm rfl fwX10_33 rfl k9 ?_
      refine pm_aload_n C dX10_init_53 rfl rfl ?_
      refine pm_sipush (v := 512) C dX10_init_54 (by decide) ?_
      cases hf
      refine pa_newq (hb := h) (h0 := h0) (t := 6) (c := 0) (N := 512) C X (pm_S3R K0) m0 dX10_init_57 (by decide) rfl ao0 ckX10_37 (by decide) (by decide +kernel) (by decide +kernel) ((mlX10_init n).2.2.2.2.2.2.2.2.1 x0 x1 x2 (pm_sz (pm_setR h s1 8 (some s0))) x0 (pm_new (pm_setR h s1 8 (some s0)) 38 512) hi) ?_
      exact pm_sub [0, 1, 2] rfl (ih.2.2.2.2.2.2.2.2.1 x0 x1 x2 (pm_sz (pm_setR h s1 8 (some s0))) x0 (pm_new (pm_setR h s1 8 (some s0)) 38 512) ((m0.trans (pm_S3.le (pm_S3R K0))).trans (pm_Le_new _ _ _)) hi)
    refine ⟨fun x0 x1 x2 s0 s1 h m0 hf => ?_, ?_⟩
    · have le0 := (mlX10_init (n + 1)).2.2.2.2.2.2.2.2.1 x0 x1 x2 s0 s1 h hf
      have kc1 := Nat.sub_le_sub_right le0.1 (pm_sz h0)
      have kc2 := Nat.sub_le_sub_right le0.2 (pm_us h0)
      have K0 := pm_S3.rf h
      obtain ⟨y, hf, hi⟩ := pm_iter_s hf
      have hf : tX10_init_60 x0 x1 x2 s0 s1 h = some y := hf
      unfold tX10_init_60 at hf
      obtain ⟨k10, hf⟩ := pm_if hf
      refine pm_putRF C dX10_init_60 flX10_39 rfl nm rfl fwX10_39 rfl k10 ?_
      refine pm_aload_n C dX10_init_63 rfl rfl ?_
      refine pm_sipush (v := 512) C dX10_init_64 (by decide) ?_
      cases hf
      refine pa_newq (hb := h) (h0 := h0) (t := 8) (c := 4) (N := 512) C X (pm_S3R K0) m0 dX10_init_67 (by decide) rfl ao4 ckX10_43 (by decide) (by decide +kernel) (by decide +kernel) ((mlX10_init n).2.2.2.2.2.2.2.2.2.1 x0 x1 x2 (pm_sz (pm_setR h s1 10 (some s0))) x0 (pm_new (pm_setR h s1 10 (some s0)) 40 512) hi) ?_
      exact pm_sub [0, 1, 2] rfl (ih.2.2.2.2.2.2.2.2.2.1 x0 x1 x2 (pm_sz (pm_setR h s1 10 (some s0))) x0 (pm_new (pm_setR h s1 10 (some s0)) 40 512) ((m0.trans (pm_S3.le (pm_S3R K0))).trans (pm_Le_new _ _ _)) hi)
    refine ⟨fun x0 x1 x2 s0 s1 h m0 hf => ?_, ?_⟩
    · have le0 := (mlX10_init (n + 1)).2.2.2.2.2.2.2.2.2.1 x0 x1 x2 s0 s1 h hf
      have kc1 := Nat.sub_le_sub_right le0.1 (pm_sz h0)
      have kc2 := Nat.sub_le_sub_right le0.2 (pm_us h0)
      have K0 := pm_S3.rf h
      obtain ⟨y, hf, hi⟩ := pm_iter_s hf
      have hf : tX10_init_70 x0 x1 x2 s0 s1 h = some y := hf
      unfold tX10_init_70 at hf
      obtain ⟨k11, hf⟩ := pm_if hf
      refine pm_putRF C dX10_init_70 flX10_45 rfl nm rfl fwX10_45 rfl k11 ?_
      refine pm_aload_n C dX10_init_73 rfl rfl ?_
      refine pm_sipush (v := 512) C dX10_init_74 (by decide) ?_
      cases hf
      refine pa_newa (hb := h) (h0 := h0) (t := 2) (N := 512) C X (pm_S3R K0) m0 dX10_init_77 (by decide) rfl al2 (by decide) (by decide +kernel) (by decide +kernel) ((mlX10_init n).2.2.2.2.2.2.2.2.2.2.1 x0 x1 x2 (pm_sz (pm_setR h s1 11 (some s0))) x0 (pm_new (pm_setR h s1 11 (some s0)) 34 512) hi) ?_
      exact pm_sub [0, 1, 2] rfl (ih.2.2.2.2.2.2.2.2.2.2.1 x0 x1 x2 (pm_sz (pm_setR h s1 11 (some s0))) x0 (pm_new (pm_setR h s1 11 (some s0)) 34 512) ((m0.trans (pm_S3.le (pm_S3R K0))).trans (pm_Le_new _ _ _)) hi)
    refine ⟨fun x0 x1 x2 s0 s1 h m0 hf => ?_, ?_⟩
    · have le0 := (mlX10_init (n + 1)).2.2.2.2.2.2.2.2.2.2.1 x0 x1 x2 s0 s1 h hf
      have kc1 := Nat.sub_le_sub_right le0.1 (pm_sz h0)
      have kc2 := Nat.sub_le_sub_right le0.2 (pm_us h0)
      have K0 := pm_S3.rf h
      obtain ⟨y, hf, hi⟩ := pm_iter_s hf
      have hf : tX10_init_79 x0 x1 x2 s0 s1 h = some y := hf
      unfold tX10_init_79 at hf
      obtain ⟨k12, hf⟩ := pm_if hf
      refine pm_putRF C dX10_init_79 flX10_49 rfl nm rfl fwX10_49 rfl k12 ?_
      refine pm_aload_n C dX10_init_82 rfl rfl ?_
      refine pm_sipush (v := 512) C dX10_init_83 (by decide) ?_
      cases hf
      refine pa_newa (hb := h) (h0 := h0) (t := 2) (N := 512) C X (pm_S3R K0) m0 dX10_init_86 (by decide) rfl al2 (by decide) (by decide +kernel) (by decide +kernel) ((mlX10_init n).2.2.2.2.2.2.2.2.2.2.2.1 x0 x1 x2 (pm_sz (pm_setR h s1 12 (some s0))) x0 (pm_new (pm_setR h s1 12 (some s0)) 34 512) hi) ?_
      exact pm_sub [0, 1, 2] rfl (ih.2.2.2.2.2.2.2.2.2.2.2.1 x0 x1 x2 (pm_sz (pm_setR h s1 12 (some s0))) x0 (pm_new (pm_setR h s1 12 (some s0)) 34 512) ((m0.trans (pm_S3.le (pm_S3R K0))).trans (pm_Le_new _ _ _)) hi)
    refine ⟨fun x0 x1 x2 s0 s1 h m0 hf => ?_, ?_⟩
    · have le0 := (mlX10_init (n + 1)).2.2.2.2.2.2.2.2.2.2.2.1 x0 x1 x2 s0 s1 h hf
      have kc1 := Nat.sub_le_sub_right le0.1 (pm_sz h0)
      have kc2 := Nat.sub_le_sub_right le0.2 (pm_us h0)
      have K0 := pm_S3.rf h
      obtain ⟨y, hf, hi⟩ := pm_iter_s hf
      have hf : tX10_init_88 x0 x1 x2 s0 s1 h = some y := hf
      unfold tX10_init_88 at hf
      obtain ⟨k13, hf⟩ := pm_if hf
      refine pm_putRF C dX10_init_88 flX10_52 rfl nm rfl fwX10_52 rfl k13 ?_
      refine pm_aload_n C dX10_init_91 rfl rfl ?_
      refine pm_sipush (v := 512) C dX10_init_92 (by decide) ?_
      cases hf
      refine pa_newa (hb := h) (h0 := h0) (t := 0) (N := 512) C X (pm_S3R K0) m0 dX10_init_95 (by decide) rfl al0 (by decide) (by decide +kernel) (by decide +kernel) ((mlX10_init n).2.2.2.2.2.2.2.2.2.2.2.2.1 x0 x1 x2 (pm_sz (pm_setR h s1 13 (some s0))) x0 (pm_new (pm_setR h s1 13 (some s0)) 32 512) hi) ?_
      exact pm_sub [0, 1, 2] rfl (ih.2.2.2.2.2.2.2.2.2.2.2.2.1 x0 x1 x2 (pm_sz (pm_setR h s1 13 (some s0))) x0 (pm_new (pm_setR h s1 13 (some s0)) 32 512) ((m0.trans (pm_S3.le (pm_S3R K0))).trans (pm_Le_new _ _ _)) hi)
    refine ⟨fun x0 x1 x2 s0 s1 h m0 hf => ?_, ?_⟩
    · have le0 := (mlX10_init (n + 1)).2.2.2.2.2.2.2.2.2.2.2.2.1 x0 x1 x2 s0 s1 h hf
      have kc1 := Nat.sub_le_sub_right le0.1 (pm_sz h0)
      have kc2 := Nat.sub_le_sub_right le0.2 (pm_us h0)
      have K0 := pm_S3.rf h
      obtain ⟨y, hf, hi⟩ := pm_iter_s hf
      have hf : tX10_init_97 x0 x1 x2 s0 s1 h = some y := hf
      unfold tX10_init_97 at hf
      obtain ⟨k14, hf⟩ := pm_if hf
      refine pm_putRF C dX10_init_97 flX10_55 rfl nm rfl fwX10_55 rfl k14 ?_
      refine pm_aload_n C dX10_init_100 rfl rfl ?_
      refine pm_bipush (v := 16) C dX10_init_101 (by decide) ?_
      cases hf
      refine pa_newq (hb := h) (h0 := h0) (t := 8) (c := 4) (N := 16) C X (pm_S3R K0) m0 dX10_init_103 (by decide) rfl ao4 ckX10_43 (by decide) (by decide +kernel) (by decide +kernel) ((mlX10_init n).2.2.2.2.2.2.2.2.2.2.2.2.2.1 x0 x1 x2 (pm_sz (pm_setR h s1 14 (some s0))) x0 (pm_new (pm_setR h s1 14 (some s0)) 40 16) hi) ?_
      exact pm_sub [0, 1, 2] rfl (ih.2.2.2.2.2.2.2.2.2.2.2.2.2.1 x0 x1 x2 (pm_sz (pm_setR h s1 14 (some s0))) x0 (pm_new (pm_setR h s1 14 (some s0)) 40 16) ((m0.trans (pm_S3.le (pm_S3R K0))).trans (pm_Le_new _ _ _)) hi)
    refine ⟨fun x0 x1 x2 s0 s1 h m0 hf => ?_, ?_⟩
    · have le0 := (mlX10_init (n + 1)).2.2.2.2.2.2.2.2.2.2.2.2.2.1 x0 x1 x2 s0 s1 h hf
      have kc1 := Nat.sub_le_sub_right le0.1 (pm_sz h0)
      have kc2 := Nat.sub_le_sub_right le0.2 (pm_us h0)
      have K0 := pm_S3.rf h
      obtain ⟨y, hf, hi⟩ := pm_iter_s hf
      have hf : tX10_init_106 x0 x1 x2 s0 s1 h = some y := hf
      unfold tX10_init_106 at hf
      obtain ⟨k15, hf⟩ := pm_if hf
      refine pm_putRF C dX10_init_106 flX10_58 rfl nm rfl fwX10_58 rfl k15 ?_
      refine pm_aload_n C dX10_init_109 rfl rfl ?_
      refine pm_sipush (v := 2048) C dX10_init_110 (by decide) ?_
      obtain ⟨k16, hf⟩ := pm_if hf
      refine pm_putI C dX10_init_113 flX10_61 rfl rfl k16 rfl rfl ?_
      refine pm_aload_n C dX10_init_116 rfl rfl ?_
      cases hf
      refine pa_newo (hb := h) (h0 := h0) C X (pm_S3I (pm_S3R K0)) m0 dX10_init_117 pm_Cl8 ckX10_65 cc8.1 cc8.2 ((mlX10_init n).2.2.2.2.2.2.2.2.2.2.2.2.2.2.1 x0 x1 x2 (pm_sz (pm_setI (pm_setR h s1 15 (some s0)) x0 17 2048)) x0 (pm_new (pm_setI (pm_setR h s1 15 (some s0)) x0 17 2048) 8 0) hi) ?_
      exact pm_sub [0, 1, 2] rfl (ih.2.2.2.2.2.2.2.2.2.2.2.2.2.2.1 x0 x1 x2 (pm_sz (pm_setI (pm_setR h s1 15 (some s0)) x0 17 2048)) x0 (pm_new (pm_setI (pm_setR h s1 15 (some s0)) x0 17 2048) 8 0) ((m0.trans (pm_S3.le (pm_S3I (pm_S3R K0)))).trans (pm_Le_new _ _ _)) hi)
    refine ⟨fun x0 x1 x2 s0 s1 h m0 hf => ?_, ?_⟩
    · have le0 := (mlX10_init (n + 1)).2.2.2.2.2.2.2.2.2.2.2.2.2.2.1 x0 x1 x2 s0 s1 h hf
      have kc1 := Nat.sub_le_sub_right le0.1 (pm_sz h0)
      have kc2 := Nat.sub_le_sub_right le0.2 (pm_us h0)
      have K0 := pm_S3.rf h
      obtain ⟨y, hf, hi⟩ := pm_iter_s hf
      have hf : tX10_init_120 x0 x1 x2 s0 s1 h = some y := hf
      unfold tX10_init_120 at hf
      refine pm_dup C dX10_init_120 rfl ?_
      obtain ⟨v17, e18, hf⟩ := pm_lt hf
      refine pm_callI (as := []) (st := [.ref s0, .ref s1]) C X dX10_init_121 lnX10_67 myX8_init iiX8_init ⟨by decide, by decide⟩ rfl rfl (Nat.le_of_ble_eq_true rfl) kc1 kc2 (ctX8_init e18 ?_)
      show pm_G g 124 [(0, .ref x0), (1, .ref x1), (2, .ref x2)] [.ref s0, .ref s1] h (pm_sz h - pm_sz h0) (pm_us h - pm_us h0)
      obtain ⟨k19, hf⟩ := pm_if hf
      refine pm_putRF C dX10_init_124 flX10_68 rfl nm rfl fwX10_68 rfl k19 ?_
      refine pm_aload_n C dX10_init_127 rfl rfl ?_
      refine pm_aload_n C dX10_init_128 rfl rfl ?_
      obtain ⟨k20, hf⟩ := pm_if hf
      refine pm_putRF C dX10_init_129 flX10_72 rfl nm rfl fwX10_72 rfl k20 ?_
      refine pm_aload_n C dX10_init_132 rfl rfl ?_
      cases hf
      refine pa_newo (hb := h) (h0 := h0) C X (pm_S3R (pm_S3R K0)) m0 dX10_init_133 pm_Cl4 ckX10_43 cc4.1 cc4.2 ((mlX10_init n).2.2.2.2.2.2.2.2.2.2.2.2.2.2.2.1 x0 x2 (pm_sz (pm_setR (pm_setR h s1 19 (some s0)) x0 18 (some x1))) x0 (pm_new (pm_setR (pm_setR h s1 19 (some s0)) x0 18 (some x1)) 4 0) hi) ?_
      exact pm_sub [0, 2] rfl (ih.2.2.2.2.2.2.2.2.2.2.2.2.2.2.2.1 x0 x2 (pm_sz (pm_setR (pm_setR h s1 19 (some s0)) x0 18 (some x1))) x0 (pm_new (pm_setR (pm_setR h s1 19 (some s0)) x0 18 (some x1)) 4 0) ((m0.trans (pm_S3.le (pm_S3R (pm_S3R K0)))).trans (pm_Le_new _ _ _)) hi)
    refine ⟨fun x0 x2 s0 s1 h m0 hf => ?_, ?_⟩
    · have le0 := (mlX10_init (n + 1)).2.2.2.2.2.2.2.2.2.2.2.2.2.2.2.1 x0 x2 s0 s1 h hf
      have kc1 := Nat.sub_le_sub_right le0.1 (pm_sz h0)
      have kc2 := Nat.sub_le_sub_right le0.2 (pm_us h0)
      have K0 := pm_S3.rf h
      obtain ⟨y, hf, hi⟩ := pm_iter_s hf
      have hf : tX10_init_136 x0 x2 s0 s1 h = some y := hf
      unfold tX10_init_136 at hf
      refine pm_dup C dX10_init_136 rfl ?_
      refine pm_aload_n C dX10_init_137 rfl rfl ?_
      obtain ⟨v21, e22, hf⟩ := pm_bd hf
      cases hf
      refine pm_callI (as := [.ref x2]) (st := [.ref s0, .ref s1]) C X dX10_init_138 lnX10_76 myX4_init iiX4_init ⟨by decide, by decide⟩ rfl rfl (Nat.le_of_ble_eq_true rfl) (pa_le1 K0 m0 (moX4_init e22) ((mlX10_init n).2.2.2.2.2.2.2.2.2.2.2.2.2.2.2.2.1 x0 s0 s1 v21 hi)) (pa_le2 K0 m0 (moX4_init e22) ((mlX10_init n).2.2.2.2.2.2.2.2.2.2.2.2.2.2.2.2.1 x0 s0 s1 v21 hi)) (ctX4_init e22 ?_)
      show pm_G g 141 [(0, .ref x0), (2, .ref x2)] [.ref s0, .ref s1] v21 (pm_sz h - pm_sz h0 + (pm_sz v21 - pm_sz h)) (pm_us h - pm_us h0 + (pm_us v21 - pm_us h))
      refine pa_fin K0 m0 (moX4_init e22) ?_
      exact pm_sub [0] rfl (ih.2.2.2.2.2.2.2.2.2.2.2.2.2.2.2.2.1 x0 s0 s1 v21 ((m0.trans (pm_S3.le K0)).trans (moX4_init e22)) hi)
    refine ⟨fun x0 s0 s1 h m0 hf => ?_, ?_⟩
    · have le0 := (mlX10_init (n + 1)).2.2.2.2.2.2.2.2.2.2.2.2.2.2.2.2.1 x0 s0 s1 h hf
      have kc1 := Nat.sub_le_sub_right le0.1 (pm_sz h0)
      have kc2 := Nat.sub_le_sub_right le0.2 (pm_us h0)
      have K0 := pm_S3.rf h
      obtain ⟨y, hf, hi⟩ := pm_iter_s hf
      have hf : tX10_init_141 x0 s0 s1 h = some y := hf
      unfold tX10_init_141 at hf
      obtain ⟨k23, hf⟩ := pm_if hf
      refine pm_putRF C dX10_init_141 flX10_79 rfl nm rfl fwX10_79 rfl k23 ?_
      cases hf
      refine pa_newo (hb := h) (h0 := h0) C X (pm_S3R K0) m0 dX10_init_144 pm_Cl0 ckX10_37 cc0.1 cc0.2 ((mlX10_init n).2.2.2.2.2.2.2.2.2.2.2.2.2.2.2.2.2.1 x0 (pm_sz (pm_setR h s1 16 (some s0))) (pm_new (pm_setR h s1 16 (some s0)) 0 0) hi) ?_
      exact pm_sub [0] rfl (ih.2.2.2.2.2.2.2.2.2.2.2.2.2.2.2.2.2.1 x0 (pm_sz (pm_setR h s1 16 (some s0))) (pm_new (pm_setR h s1 16 (some s0)) 0 0) ((m0.trans (pm_S3.le (pm_S3R K0))).trans (pm_Le_new _ _ _)) hi)
    refine ⟨fun x0 s0 h m0 hf => ?_, ?_⟩
    · have le0 := (mlX10_init (n + 1)).2.2.2.2.2.2.2.2.2.2.2.2.2.2.2.2.2.1 x0 s0 h hf
      have kc1 := Nat.sub_le_sub_right le0.1 (pm_sz h0)
      have kc2 := Nat.sub_le_sub_right le0.2 (pm_us h0)
      have K0 := pm_S3.rf h
      obtain ⟨y, hf, hi⟩ := pm_iter_s hf
      have hf : tX10_init_147 x0 s0 h = some y := hf
      unfold tX10_init_147 at hf
      refine pm_dup C dX10_init_147 rfl ?_
      refine pm_iconst (v := 2) C dX10_init_148 (by decide) ?_
      cases hf
      refine pa_newa (hb := h) (h0 := h0) (t := 2) (N := 2) C X K0 m0 dX10_init_149 (by decide) rfl al2 (by decide) (by decide +kernel) (by decide +kernel) ((mlX10_init n).2.2.2.2.2.2.2.2.2.2.2.2.2.2.2.2.2.2.1 x0 (pm_sz h) s0 s0 (pm_new h 34 2) hi) ?_
      exact pm_sub [0] rfl (ih.2.2.2.2.2.2.2.2.2.2.2.2.2.2.2.2.2.2.1 x0 (pm_sz h) s0 s0 (pm_new h 34 2) ((m0.trans (pm_S3.le K0)).trans (pm_Le_new _ _ _)) hi)
    refine ⟨fun x0 s0 s1 s2 h m0 hf => ?_, ?_⟩
    · have le0 := (mlX10_init (n + 1)).2.2.2.2.2.2.2.2.2.2.2.2.2.2.2.2.2.2.1 x0 s0 s1 s2 h hf
      have kc1 := Nat.sub_le_sub_right le0.1 (pm_sz h0)
      have kc2 := Nat.sub_le_sub_right le0.2 (pm_us h0)
      have K0 := pm_S3.rf h
      obtain ⟨y, hf, hi⟩ := pm_iter_s hf
      have hf : tX10_init_151 x0 s0 s1 s2 h = some y := hf
      unfold tX10_init_151 at hf
      refine pm_iconst (v := 0) C dX10_init_151 (by decide) ?_
      obtain ⟨v24, e25, hf⟩ := pm_bd hf
      cases hf
      refine pm_callI (as := [.ref s0, .int 0]) (st := [.ref s2]) C X dX10_init_152 lnX10_83 myX0_init iiX0_init ⟨by decide, by decide⟩ rfl rfl (Nat.le_of_ble_eq_true rfl) (pa_le1 K0 m0 (moX0_init e25) ((mlX10_init n).2.2.2.2.2.2.2.2.2.2.2.2.2.2.2.2.2.2.2.1 x0 s2 v24 hi)) (pa_le2 K0 m0 (moX0_init e25) ((mlX10_init n).2.2.2.2.2.2.2.2.2.2.2.2.2.2.2.2.2.2.2.1 x0 s2 v24 hi)) (ctX0_init e25 ?_)
      show pm_G g 155 [(0, .ref x0)] [.ref s2] v24 (pm_sz h - pm_sz h0 + (pm_sz v24 - pm_sz h)) (pm_us h - pm_us h0 + (pm_us v24 - pm_us h))
      refine pa_fin K0 m0 (moX0_init e25) ?_
      exact pm_sub [0] rfl (ih.2.2.2.2.2.2.2.2.2.2.2.2.2.2.2.2.2.2.2.1 x0 s2 v24 ((m0.trans (pm_S3.le K0)).trans (moX0_init e25)) hi)
    refine ⟨fun x0 s0 h m0 hf => ?_, ?_⟩
    · have le0 := (mlX10_init (n + 1)).2.2.2.2.2.2.2.2.2.2.2.2.2.2.2.2.2.2.2.1 x0 s0 h hf
      have kc1 := Nat.sub_le_sub_right le0.1 (pm_sz h0)
      have kc2 := Nat.sub_le_sub_right le0.2 (pm_us h0)
      have K0 := pm_S3.rf h
      obtain ⟨y, hf, hi⟩ := pm_iter_s hf
      have hf : tX10_init_155 x0 s0 h = some y := hf
      unfold tX10_init_155 at hf
      refine pm_astore_n (lv' := [(3, .ref s0), (0, .ref x0)]) C dX10_init_155 rfl (pm_nl X (by decide)) rfl ?_
      refine pm_iconst (v := 0) C dX10_init_156 (by decide) ?_
      refine pm_istore (lv' := [(4, .int 0), (3, .ref s0), (0, .ref x0)]) C dX10_init_157 (pm_nl X (by decide)) rfl ?_
      cases hf
      exact pa_join K0 (pm_sub [2, 1, 0] rfl (ih.2.2.2.2.2.2.2.2.2.2.2.2.2.2.2.2.2.2.2.2.1 x0 s0 0 h (m0.trans (pm_S3.le K0)) hi))
    refine ⟨fun x0 x3 x4 h m0 hf => ?_, ?_⟩
    · have le0 := (mlX10_init (n + 1)).2.2.2.2.2.2.2.2.2.2.2.2.2.2.2.2.2.2.2.2.1 x0 x3 x4 h hf
      have kc1 := Nat.sub_le_sub_right le0.1 (pm_sz h0)
      have kc2 := Nat.sub_le_sub_right le0.2 (pm_us h0)
      have K0 := pm_S3.rf h
      obtain ⟨y, hf, hi⟩ := pm_iter_s hf
      have hf : tX10_init_159 x0 x3 x4 h = some y := hf
      unfold tX10_init_159 at hf
      refine pm_iload C dX10_init_159 rfl ?_
      refine pm_aload_n C dX10_init_161 rfl rfl ?_
      obtain ⟨k26, hf⟩ := pm_if hf
      obtain ⟨v27, e28, hf⟩ := pm_bd hf
      refine pm_getR C dX10_init_162 flX10_39 rfl k26 e28 ?_
      obtain ⟨k29, hf⟩ := pm_if hf
      refine pm_alen (t := 6) C dX10_init_165 (by decide) k29 rfl ?_
      refine pm_icmp_ge (tgt := 183) C dX10_init_166 (by decide) (fun c30 => ?_) (fun c30 => ?_)
      · have hf := pm_it hf c30
        refine pm_iconst (v := 0) C dX10_init_183 (by decide) ?_
        refine pm_istore (lv' := [(4, .int 0), (0, .ref x0), (3, .ref x3)]) C dX10_init_184 (pm_nl X (by decide)) rfl ?_
        cases hf
        exact pa_join K0 (pm_sub [1, 0] rfl (ih.2.2.2.2.2.2.2.2.2.2.2.2.2.2.2.2.2.2.2.2.2.1 x0 0 h (m0.trans (pm_S3.le K0)) hi))
      · have hf := pm_ie hf c30
        refine pm_aload_n C dX10_init_169 rfl rfl ?_
        refine pm_getR C dX10_init_170 flX10_39 rfl k26 e28 ?_
        refine pm_iload C dX10_init_173 rfl ?_
        refine pm_aload_n C dX10_init_175 rfl rfl ?_
        obtain ⟨k31, hf⟩ := pm_if hf
        obtain ⟨u32, hf⟩ := pm_if hf
        refine pm_aast (t := 6) C dX10_init_176 (by decide) pm_Cl0 rfl k29 k31 u32 ?_
        obtain ⟨y33, e34, hf⟩ := pm_lt hf
        refine pm_iinc (v := y33) (lv' := [(4, .int y33), (0, .ref x0), (3, .ref x3)]) C dX10_init_177 rfl ((congrArg (x4 + ·) (by decide : Int32.ofInt 1 = 1)).trans e34) (pm_nl X (by decide)) rfl ?_
        refine pm_goto (tgt := 159) C dX10_init_180 (by decide) ?_
        cases hf
        exact pa_join (pm_S3R K0) (pm_sub [1, 2, 0] rfl (ih.2.2.2.2.2.2.2.2.2.2.2.2.2.2.2.2.2.2.2.2.1 x0 x3 y33 (pm_setR h v27 x4.toNatClampNeg (some x3)) (m0.trans (pm_S3.le (pm_S3R K0))) hi))
    refine ⟨fun x0 x4 h m0 hf => ?_, ?_⟩
    · have le0 := (mlX10_init (n + 1)).2.2.2.2.2.2.2.2.2.2.2.2.2.2.2.2.2.2.2.2.2.1 x0 x4 h hf
      have kc1 := Nat.sub_le_sub_right le0.1 (pm_sz h0)
      have kc2 := Nat.sub_le_sub_right le0.2 (pm_us h0)
      have K0 := pm_S3.rf h
      obtain ⟨y, hf, hi⟩ := pm_iter_s hf
      have hf : tX10_init_186 x0 x4 h = some y := hf
      unfold tX10_init_186 at hf
      refine pm_iload C dX10_init_186 rfl ?_
      refine pm_aload_n C dX10_init_188 rfl rfl ?_
      obtain ⟨k35, hf⟩ := pm_if hf
      obtain ⟨v36, e37, hf⟩ := pm_bd hf
      refine pm_getR C dX10_init_189 flX10_45 rfl k35 e37 ?_
      obtain ⟨k38, hf⟩ := pm_if hf
      refine pm_alen (t := 8) C dX10_init_192 (by decide) k38 rfl ?_
      refine pm_icmp_ge (tgt := 213) C dX10_init_193 (by decide) (fun c39 => ?_) (fun c39 => ?_)
      · have hf := pm_it hf c39
        refine pm_iconst (v := 0) C dX10_init_213 (by decide) ?_
        refine pm_istore (lv' := [(4, .int 0), (0, .ref x0)]) C dX10_init_214 (pm_nl X (by decide)) rfl ?_
        cases hf
        exact pa_join K0 (pm_sub [1, 0] rfl (ih.2.2.2.2.2.2.2.2.2.2.2.2.2.2.2.2.2.2.2.2.2.2 x0 0 h (m0.trans (pm_S3.le K0)) hi))
      · have hf := pm_ie hf c39
        refine pm_aload_n C dX10_init_196 rfl rfl ?_
        refine pm_getR C dX10_init_197 flX10_45 rfl k35 e37 ?_
        refine pm_iload C dX10_init_200 rfl ?_
        refine pm_aload_n C dX10_init_202 rfl rfl ?_
        obtain ⟨v40, e41, hf⟩ := pm_bd hf
        refine pm_getR C dX10_init_203 flX10_79 rfl k35 e41 ?_
        obtain ⟨k42, hf⟩ := pm_if hf
        obtain ⟨u43, hf⟩ := pm_if hf
        refine pm_aast (t := 8) C dX10_init_206 (by decide) pm_Cl4 rfl k38 k42 u43 ?_
        obtain ⟨y44, e45, hf⟩ := pm_lt hf
        refine pm_iinc (v := y44) (lv' := [(4, .int y44), (0, .ref x0)]) C dX10_init_207 rfl ((congrArg (x4 + ·) (by decide : Int32.ofInt 1 = 1)).trans e45) (pm_nl X (by decide)) rfl ?_
        refine pm_goto (tgt := 186) C dX10_init_210 (by decide) ?_
        cases hf
        exact pa_join (pm_S3R K0) (pm_sub [1, 0] rfl (ih.2.2.2.2.2.2.2.2.2.2.2.2.2.2.2.2.2.2.2.2.2.1 x0 y44 (pm_setR h v36 x4.toNatClampNeg (some v40)) (m0.trans (pm_S3.le (pm_S3R K0))) hi))
    refine fun x0 x4 h m0 hf => ?_
    have le0 := (mlX10_init (n + 1)).2.2.2.2.2.2.2.2.2.2.2.2.2.2.2.2.2.2.2.2.2.2 x0 x4 h hf
    have kc1 := Nat.sub_le_sub_right le0.1 (pm_sz h0)
    have kc2 := Nat.sub_le_sub_right le0.2 (pm_us h0)
    have K0 := pm_S3.rf h
    obtain ⟨y, hf, hi⟩ := pm_iter_s hf
    have hf : tX10_init_216 x0 x4 h = some y := hf
    unfold tX10_init_216 at hf
    refine pm_iload C dX10_init_216 rfl ?_
    refine pm_aload_n C dX10_init_218 rfl rfl ?_
    obtain ⟨k46, hf⟩ := pm_if hf
    obtain ⟨v47, e48, hf⟩ := pm_bd hf
    refine pm_getR C dX10_init_219 flX10_58 rfl k46 e48 ?_
    obtain ⟨k49, hf⟩ := pm_if hf
    refine pm_alen (t := 8) C dX10_init_222 (by decide) k49 rfl ?_
    refine pm_icmp_ge (tgt := 243) C dX10_init_223 (by decide) (fun c50 => ?_) (fun c50 => ?_)
    · have hf := pm_it hf c50
      have hf := Option.some.inj hf
      subst hf
      have hi := Option.some.inj (show some _ = some r from hi)
      subst hi
      exact pm_vret C X dX10_init_243 rfl kc1 kc2 q
    · have hf := pm_ie hf c50
      refine pm_aload_n C dX10_init_226 rfl rfl ?_
      refine pm_getR C dX10_init_227 flX10_58 rfl k46 e48 ?_
      refine pm_iload C dX10_init_230 rfl ?_
      refine pm_aload_n C dX10_init_232 rfl rfl ?_
      obtain ⟨v51, e52, hf⟩ := pm_bd hf
      refine pm_getR C dX10_init_233 flX10_79 rfl k46 e52 ?_
      obtain ⟨k53, hf⟩ := pm_if hf
      obtain ⟨u54, hf⟩ := pm_if hf
      refine pm_aast (t := 8) C dX10_init_236 (by decide) pm_Cl4 rfl k49 k53 u54 ?_
      obtain ⟨y55, e56, hf⟩ := pm_lt hf
      refine pm_iinc (v := y55) (lv' := [(4, .int y55), (0, .ref x0)]) C dX10_init_237 rfl ((congrArg (x4 + ·) (by decide : Int32.ofInt 1 = 1)).trans e56) (pm_nl X (by decide)) rfl ?_
      refine pm_goto (tgt := 216) C dX10_init_240 (by decide) ?_
      cases hf
      exact pa_join (pm_S3R K0) (pm_sub [1, 0] rfl (ih.2.2.2.2.2.2.2.2.2.2.2.2.2.2.2.2.2.2.2.2.2.2 x0 y55 (pm_setR h v47 x4.toNatClampNeg (some v51)) (m0.trans (pm_S3.le (pm_S3R K0))) hi))
set_option maxHeartbeats 4000000 in
set_option maxRecDepth 100000 in
theorem ctX10_init {l : Launch} {G : pm_Gl} {h : pm_H} {a0 : Nat} {p1 : Nat} {p2 : Nat} {r : pm_H} {Qr : Option Value → pm_H → Prop} (hf : fX10_init h a0 p1 p2 = some r) (q : Qr none r) : pm_Ct l G mX10_init [.ref a0, .ref p1, .ref p2] h (pm_sz r - pm_sz h) (pm_us r - pm_us h) Qr := by
  refine pm_bodyN pnX10 (Nat.le_of_ble_eq_true rfl) (fun g C X nm => ?_)
  have C : pm_C g cX10_init RX10 := C
  show pm_G g 0 [(0, .ref a0), (1, .ref p1), (2, .ref p2)] [] h 0 0
  unfold fX10_init at hf
  obtain ⟨n, hn⟩ := pm_lim_iter hf
  exact pa_start (pm_sub [0, 1, 2] rfl ((lpX10_init C X q nm n).1 a0 p1 p2 h (pm_Le.rf h) hn))
