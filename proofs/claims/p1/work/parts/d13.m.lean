theorem dX12_module_0 : decode cX12_module 0 = .ok (.iload_n 1, 1) := by decide +kernel
theorem dX12_module_1 : decode cX12_module 1 = .ok (.ifCond .lt 29, 3) := by decide +kernel
theorem dX12_module_4 : decode cX12_module 4 = .ok (.iload_n 1, 1) := by decide +kernel
theorem dX12_module_5 : decode cX12_module 5 = .ok (.aload_n 0, 1) := by decide +kernel
theorem dX12_module_6 : decode cX12_module 6 = .ok (.getfield 70, 3) := by decide +kernel
theorem dX12_module_9 : decode cX12_module 9 = .ok (.if_icmp .gt 21, 3) := by decide +kernel
theorem dX12_module_12 : decode cX12_module 12 = .ok (.iload_n 1, 1) := by decide +kernel
theorem dX12_module_13 : decode cX12_module 13 = .ok (.ldc 9, 2) := by decide +kernel
theorem dX12_module_15 : decode cX12_module 15 = .ok (.if_icmp .gt 15, 3) := by decide +kernel
theorem dX12_module_18 : decode cX12_module 18 = .ok (.aload_n 0, 1) := by decide +kernel
theorem dX12_module_19 : decode cX12_module 19 = .ok (.getfield 77, 3) := by decide +kernel
theorem dX12_module_22 : decode cX12_module 22 = .ok (.aload_n 0, 1) := by decide +kernel
theorem dX12_module_23 : decode cX12_module 23 = .ok (.getfield 16, 3) := by decide +kernel
theorem dX12_module_26 : decode cX12_module 26 = .ok (.arraylength, 1) := by decide +kernel
theorem dX12_module_27 : decode cX12_module 27 = .ok (.if_icmp .lt 6, 3) := by decide +kernel
theorem dX12_module_30 : decode cX12_module 30 = .ok (.bipush (-2), 2) := by decide +kernel
theorem dX12_module_32 : decode cX12_module 32 = .ok (.ireturn, 1) := by decide +kernel
theorem dX12_module_33 : decode cX12_module 33 = .ok (.new 14, 3) := by decide +kernel
theorem dX12_module_36 : decode cX12_module 36 = .ok (.dup, 1) := by decide +kernel
theorem dX12_module_37 : decode cX12_module 37 = .ok (.aload_n 0, 1) := by decide +kernel
theorem dX12_module_38 : decode cX12_module 38 = .ok (.getfield 10, 3) := by decide +kernel
theorem dX12_module_41 : decode cX12_module 41 = .ok (.iload_n 1, 1) := by decide +kernel
theorem dX12_module_42 : decode cX12_module 42 = .ok (.invokestatic 80, 3) := by decide +kernel
theorem dX12_module_45 : decode cX12_module 45 = .ok (.invokespecial 28, 3) := by decide +kernel
theorem dX12_module_48 : decode cX12_module 48 = .ok (.astore_n 2, 1) := by decide +kernel
theorem dX12_module_49 : decode cX12_module 49 = .ok (.aload_n 0, 1) := by decide +kernel
theorem dX12_module_50 : decode cX12_module 50 = .ok (.iconst 0, 1) := by decide +kernel
theorem dX12_module_51 : decode cX12_module 51 = .ok (.putfield 70, 3) := by decide +kernel
theorem dX12_module_54 : decode cX12_module 54 = .ok (.aload_n 0, 1) := by decide +kernel
theorem dX12_module_55 : decode cX12_module 55 = .ok (.iconst 1, 1) := by decide +kernel
theorem dX12_module_56 : decode cX12_module 56 = .ok (.putfield 86, 3) := by decide +kernel
theorem dX12_module_59 : decode cX12_module 59 = .ok (.aload_n 0, 1) := by decide +kernel
theorem dX12_module_60 : decode cX12_module 60 = .ok (.getfield 36, 3) := by decide +kernel
theorem dX12_module_63 : decode cX12_module 63 = .ok (.aload_n 2, 1) := by decide +kernel
theorem dX12_module_64 : decode cX12_module 64 = .ok (.invokevirtual 90, 3) := by decide +kernel
theorem dX12_module_67 : decode cX12_module 67 = .ok (.iconst 0, 1) := by decide +kernel
theorem dX12_module_68 : decode cX12_module 68 = .ok (.istore_n 3, 1) := by decide +kernel
theorem dX12_module_69 : decode cX12_module 69 = .ok (.iload_n 3, 1) := by decide +kernel
theorem dX12_module_70 : decode cX12_module 70 = .ok (.iload_n 1, 1) := by decide +kernel
theorem dX12_module_71 : decode cX12_module 71 = .ok (.if_icmp .ge 26, 3) := by decide +kernel
theorem dX12_module_74 : decode cX12_module 74 = .ok (.aload_n 0, 1) := by decide +kernel
theorem dX12_module_75 : decode cX12_module 75 = .ok (.getfield 36, 3) := by decide +kernel
theorem dX12_module_78 : decode cX12_module 78 = .ok (.invokevirtual 93, 3) := by decide +kernel
theorem dX12_module_81 : decode cX12_module 81 = .ok (.ifCond .eq 16, 3) := by decide +kernel
theorem dX12_module_84 : decode cX12_module 84 = .ok (.aload_n 0, 1) := by decide +kernel
theorem dX12_module_85 : decode cX12_module 85 = .ok (.getfield 36, 3) := by decide +kernel
theorem dX12_module_88 : decode cX12_module 88 = .ok (.invokevirtual 97, 3) := by decide +kernel
theorem dX12_module_91 : decode cX12_module 91 = .ok (.iinc 3 1, 3) := by decide +kernel
theorem dX12_module_94 : decode cX12_module 94 = .ok (.goto (-25), 3) := by decide +kernel
theorem dX12_module_97 : decode cX12_module 97 = .ok (.aload_n 0, 1) := by decide +kernel
theorem dX12_module_98 : decode cX12_module 98 = .ok (.getfield 36, 3) := by decide +kernel
theorem dX12_module_101 : decode cX12_module 101 = .ok (.invokevirtual 100, 3) := by decide +kernel
theorem dX12_module_104 : decode cX12_module 104 = .ok (.aload_n 0, 1) := by decide +kernel
theorem dX12_module_105 : decode cX12_module 105 = .ok (.aload_n 0, 1) := by decide +kernel
theorem dX12_module_106 : decode cX12_module 106 = .ok (.getfield 36, 3) := by decide +kernel
theorem dX12_module_109 : decode cX12_module 109 = .ok (.getfield 103, 3) := by decide +kernel
theorem dX12_module_112 : decode cX12_module 112 = .ok (.putfield 106, 3) := by decide +kernel
theorem dX12_module_115 : decode cX12_module 115 = .ok (.aload_n 0, 1) := by decide +kernel
theorem dX12_module_116 : decode cX12_module 116 = .ok (.aload_n 0, 1) := by decide +kernel
theorem dX12_module_117 : decode cX12_module 117 = .ok (.getfield 36, 3) := by decide +kernel
theorem dX12_module_120 : decode cX12_module 120 = .ok (.getfield 109, 3) := by decide +kernel
theorem dX12_module_123 : decode cX12_module 123 = .ok (.putfield 112, 3) := by decide +kernel
theorem dX12_module_126 : decode cX12_module 126 = .ok (.aload_n 0, 1) := by decide +kernel
theorem dX12_module_127 : decode cX12_module 127 = .ok (.getfield 106, 3) := by decide +kernel
theorem dX12_module_130 : decode cX12_module 130 = .ok (.ifCond .ne 75, 3) := by decide +kernel
theorem dX12_module_133 : decode cX12_module 133 = .ok (.aload_n 0, 1) := by decide +kernel
theorem dX12_module_134 : decode cX12_module 134 = .ok (.getfield 45, 3) := by decide +kernel
theorem dX12_module_137 : decode cX12_module 137 = .ok (.aload_n 2, 1) := by decide +kernel
theorem dX12_module_138 : decode cX12_module 138 = .ok (.aload_n 0, 1) := by decide +kernel
theorem dX12_module_139 : decode cX12_module 139 = .ok (.getfield 36, 3) := by decide +kernel
theorem dX12_module_142 : decode cX12_module 142 = .ok (.getfield 115, 3) := by decide +kernel
theorem dX12_module_145 : decode cX12_module 145 = .ok (.invokevirtual 118, 3) := by decide +kernel
theorem dX12_module_148 : decode cX12_module 148 = .ok (.iconst 0, 1) := by decide +kernel
theorem dX12_module_149 : decode cX12_module 149 = .ok (.istore_n 3, 1) := by decide +kernel
theorem dX12_module_150 : decode cX12_module 150 = .ok (.iload_n 3, 1) := by decide +kernel
theorem dX12_module_151 : decode cX12_module 151 = .ok (.aload_n 2, 1) := by decide +kernel
theorem dX12_module_152 : decode cX12_module 152 = .ok (.getfield 122, 3) := by decide +kernel
theorem dX12_module_155 : decode cX12_module 155 = .ok (.arraylength, 1) := by decide +kernel
theorem dX12_module_156 : decode cX12_module 156 = .ok (.if_icmp .ge 27, 3) := by decide +kernel
theorem dX12_module_159 : decode cX12_module 159 = .ok (.aload_n 0, 1) := by decide +kernel
theorem dX12_module_160 : decode cX12_module 160 = .ok (.getfield 45, 3) := by decide +kernel
theorem dX12_module_163 : decode cX12_module 163 = .ok (.getfield 126, 3) := by decide +kernel
theorem dX12_module_166 : decode cX12_module 166 = .ok (.ifCond .ne 17, 3) := by decide +kernel
theorem dX12_module_169 : decode cX12_module 169 = .ok (.aload_n 0, 1) := by decide +kernel
theorem dX12_module_170 : decode cX12_module 170 = .ok (.getfield 45, 3) := by decide +kernel
theorem dX12_module_173 : decode cX12_module 173 = .ok (.iload_n 3, 1) := by decide +kernel
theorem dX12_module_174 : decode cX12_module 174 = .ok (.invokevirtual 127, 3) := by decide +kernel
theorem dX12_module_177 : decode cX12_module 177 = .ok (.iinc 3 1, 3) := by decide +kernel
theorem dX12_module_180 : decode cX12_module 180 = .ok (.goto (-30), 3) := by decide +kernel
theorem dX12_module_183 : decode cX12_module 183 = .ok (.aload_n 0, 1) := by decide +kernel
theorem dX12_module_184 : decode cX12_module 184 = .ok (.aload_n 0, 1) := by decide +kernel
theorem dX12_module_185 : decode cX12_module 185 = .ok (.getfield 45, 3) := by decide +kernel
theorem dX12_module_188 : decode cX12_module 188 = .ok (.getfield 126, 3) := by decide +kernel
theorem dX12_module_191 : decode cX12_module 191 = .ok (.putfield 106, 3) := by decide +kernel
theorem dX12_module_194 : decode cX12_module 194 = .ok (.aload_n 0, 1) := by decide +kernel
theorem dX12_module_195 : decode cX12_module 195 = .ok (.aload_n 0, 1) := by decide +kernel
theorem dX12_module_196 : decode cX12_module 196 = .ok (.getfield 45, 3) := by decide +kernel
theorem dX12_module_199 : decode cX12_module 199 = .ok (.getfield 131, 3) := by decide +kernel
theorem dX12_module_202 : decode cX12_module 202 = .ok (.putfield 112, 3) := by decide +kernel
theorem dX12_module_205 : decode cX12_module 205 = .ok (.aload_n 0, 1) := by decide +kernel
theorem dX12_module_206 : decode cX12_module 206 = .ok (.getfield 106, 3) := by decide +kernel
theorem dX12_module_209 : decode cX12_module 209 = .ok (.ifCond .eq 5, 3) := by decide +kernel
theorem dX12_module_212 : decode cX12_module 212 = .ok (.iconst (-1), 1) := by decide +kernel
theorem dX12_module_213 : decode cX12_module 213 = .ok (.ireturn, 1) := by decide +kernel
theorem dX12_module_214 : decode cX12_module 214 = .ok (.aload_n 0, 1) := by decide +kernel
theorem dX12_module_215 : decode cX12_module 215 = .ok (.iconst (-1), 1) := by decide +kernel
theorem dX12_module_216 : decode cX12_module 216 = .ok (.putfield 112, 3) := by decide +kernel
theorem dX12_module_219 : decode cX12_module 219 = .ok (.aload_n 0, 1) := by decide +kernel
theorem dX12_module_220 : decode cX12_module 220 = .ok (.getfield 16, 3) := by decide +kernel
theorem dX12_module_223 : decode cX12_module 223 = .ok (.aload_n 0, 1) := by decide +kernel
theorem dX12_module_224 : decode cX12_module 224 = .ok (.getfield 77, 3) := by decide +kernel
theorem dX12_module_227 : decode cX12_module 227 = .ok (.aload_n 2, 1) := by decide +kernel
theorem dX12_module_228 : decode cX12_module 228 = .ok (.aastore, 1) := by decide +kernel
theorem dX12_module_229 : decode cX12_module 229 = .ok (.aload_n 0, 1) := by decide +kernel
theorem dX12_module_230 : decode cX12_module 230 = .ok (.dup, 1) := by decide +kernel
theorem dX12_module_231 : decode cX12_module 231 = .ok (.getfield 77, 3) := by decide +kernel
theorem dX12_module_234 : decode cX12_module 234 = .ok (.iconst 1, 1) := by decide +kernel
theorem dX12_module_235 : decode cX12_module 235 = .ok (.iadd, 1) := by decide +kernel
theorem dX12_module_236 : decode cX12_module 236 = .ok (.putfield 77, 3) := by decide +kernel
theorem dX12_module_239 : decode cX12_module 239 = .ok (.aload_n 0, 1) := by decide +kernel
theorem dX12_module_240 : decode cX12_module 240 = .ok (.getfield 77, 3) := by decide +kernel
theorem dX12_module_243 : decode cX12_module 243 = .ok (.iconst 1, 1) := by decide +kernel
theorem dX12_module_244 : decode cX12_module 244 = .ok (.isub, 1) := by decide +kernel
theorem dX12_module_245 : decode cX12_module 245 = .ok (.ireturn, 1) := by decide +kernel
noncomputable def tX12_module_0 (x0 : Nat) (x1 : Int32) (h : pm_H) : Option (((Nat × Int32 × pm_H) ⊕ (Nat × Int32 × Nat × pm_H) ⊕ (Nat × Int32 × Nat × Nat × Nat × pm_H) ⊕ (Nat × Int32 × Nat × pm_H) ⊕ (Nat × Int32 × Nat × Int32 × pm_H) ⊕ (Nat × Nat × pm_H) ⊕ (Nat × Int32 × Nat × Int32 × pm_H) ⊕ (Nat × Nat × pm_H) ⊕ (Nat × Nat × Int32 × pm_H) ⊕ (Nat × Nat × pm_H) ⊕ (Nat × Nat × Int32 × pm_H)) ⊕ (Int32 × pm_H)) := if x1 < 0 then (some (.inr (((-2), h)))) else (if pm_kd h x0 = 12 then if (pm_I h x0 1) < x1 then (some (.inr (((-2), h)))) else (if 40960 < x1 then (some (.inr (((-2), h)))) else ((pm_R h x0 3).bind fun v5 => if pm_kd h v5 = 41 then if (pm_I h x0 4) < (Int32.ofNat (pm_ln h v5)) then (some (.inl (.inr (.inl ((x0, x1, pm_sz h, pm_new h 7 0)))))) else (some (.inr (((-2), h)))) else none)) else none)
noncomputable def tX12_module_36 (x0 : Nat) (x1 : Int32) (s0 : Nat) (h : pm_H) : Option (((Nat × Int32 × pm_H) ⊕ (Nat × Int32 × Nat × pm_H) ⊕ (Nat × Int32 × Nat × Nat × Nat × pm_H) ⊕ (Nat × Int32 × Nat × pm_H) ⊕ (Nat × Int32 × Nat × Int32 × pm_H) ⊕ (Nat × Nat × pm_H) ⊕ (Nat × Int32 × Nat × Int32 × pm_H) ⊕ (Nat × Nat × pm_H) ⊕ (Nat × Nat × Int32 × pm_H) ⊕ (Nat × Nat × pm_H) ⊕ (Nat × Nat × Int32 × pm_H)) ⊕ (Int32 × pm_H)) := if pm_kd h x0 = 12 then (pm_R h x0 0).bind fun v10 => (fJ7_copyOf_9075b h v10 x1).bind fun v12 => some (.inl (.inr (.inr (.inl ((x0, x1, v12.1, s0, s0, v12.2)))))) else none
noncomputable def tX12_module_45 (x0 : Nat) (x1 : Int32) (s0 : Nat) (s1 : Nat) (s2 : Nat) (h : pm_H) : Option (((Nat × Int32 × pm_H) ⊕ (Nat × Int32 × Nat × pm_H) ⊕ (Nat × Int32 × Nat × Nat × Nat × pm_H) ⊕ (Nat × Int32 × Nat × pm_H) ⊕ (Nat × Int32 × Nat × Int32 × pm_H) ⊕ (Nat × Nat × pm_H) ⊕ (Nat × Int32 × Nat × Int32 × pm_H) ⊕ (Nat × Nat × pm_H) ⊕ (Nat × Nat × Int32 × pm_H) ⊕ (Nat × Nat × pm_H) ⊕ (Nat × Nat × Int32 × pm_H)) ⊕ (Int32 × pm_H)) := (fX7_init h s1 s0).bind fun v14 => some (.inl (.inr (.inr (.inr (.inl ((x0, x1, s2, v14)))))))
noncomputable def tX12_module_48 (x0 : Nat) (x1 : Int32) (s0 : Nat) (h : pm_H) : Option (((Nat × Int32 × pm_H) ⊕ (Nat × Int32 × Nat × pm_H) ⊕ (Nat × Int32 × Nat × Nat × Nat × pm_H) ⊕ (Nat × Int32 × Nat × pm_H) ⊕ (Nat × Int32 × Nat × Int32 × pm_H) ⊕ (Nat × Nat × pm_H) ⊕ (Nat × Int32 × Nat × Int32 × pm_H) ⊕ (Nat × Nat × pm_H) ⊕ (Nat × Nat × Int32 × pm_H) ⊕ (Nat × Nat × pm_H) ⊕ (Nat × Nat × Int32 × pm_H)) ⊕ (Int32 × pm_H)) := if pm_kd h x0 = 12 then (pm_R (pm_setI (pm_setI h x0 1 0) x0 5 1) x0 8).bind fun v17 => if pm_kd (pm_setI (pm_setI h x0 1 0) x0 5 1) v17 = 9 then (fX9_begin (pm_setI (pm_setI h x0 1 0) x0 5 1) v17 s0).bind fun v20 => some (.inl (.inr (.inr (.inr (.inr (.inl ((x0, x1, s0, 0, v20)))))))) else none else none
noncomputable def tX12_module_69 (x0 : Nat) (x1 : Int32) (x2 : Nat) (x3 : Int32) (h : pm_H) : Option (((Nat × Int32 × pm_H) ⊕ (Nat × Int32 × Nat × pm_H) ⊕ (Nat × Int32 × Nat × Nat × Nat × pm_H) ⊕ (Nat × Int32 × Nat × pm_H) ⊕ (Nat × Int32 × Nat × Int32 × pm_H) ⊕ (Nat × Nat × pm_H) ⊕ (Nat × Int32 × Nat × Int32 × pm_H) ⊕ (Nat × Nat × pm_H) ⊕ (Nat × Nat × Int32 × pm_H) ⊕ (Nat × Nat × pm_H) ⊕ (Nat × Nat × Int32 × pm_H)) ⊕ (Int32 × pm_H)) := if x1 ≤ x3 then (some (.inl (.inr (.inr (.inr (.inr (.inr (.inl ((x0, x2, h)))))))))) else (if pm_kd h x0 = 12 then (pm_R h x0 8).bind fun v25 => if pm_kd h v25 = 9 then (fX9_goesOn h v25).bind fun v28 => if v28 = 0 then (some (.inl (.inr (.inr (.inr (.inr (.inr (.inl ((x0, x2, h)))))))))) else ((fX9_advance h v25).bind fun v31 => some (.inl (.inr (.inr (.inr (.inr (.inr (.inr (.inl ((x0, x1, x2, x3, v31))))))))))) else none else none)
noncomputable def tX12_module_97 (x0 : Nat) (x2 : Nat) (h : pm_H) : Option (((Nat × Int32 × pm_H) ⊕ (Nat × Int32 × Nat × pm_H) ⊕ (Nat × Int32 × Nat × Nat × Nat × pm_H) ⊕ (Nat × Int32 × Nat × pm_H) ⊕ (Nat × Int32 × Nat × Int32 × pm_H) ⊕ (Nat × Nat × pm_H) ⊕ (Nat × Int32 × Nat × Int32 × pm_H) ⊕ (Nat × Nat × pm_H) ⊕ (Nat × Nat × Int32 × pm_H) ⊕ (Nat × Nat × pm_H) ⊕ (Nat × Nat × Int32 × pm_H)) ⊕ (Int32 × pm_H)) := if pm_kd h x0 = 12 then (pm_R h x0 8).bind fun v34 => if pm_kd h v34 = 9 then (fX9_finish h v34).bind fun v37 => if pm_kd v37 x0 = 12 then (pm_R v37 x0 8).bind fun v41 => if pm_kd v37 v41 = 9 then pm_let (pm_I v37 v41 3) fun y44 => pm_let (pm_I (pm_setI v37 x0 6 y44) v41 4) fun y46 => if (pm_I (pm_setI (pm_setI v37 x0 6 y44) x0 7 y46) x0 6) = 0 then ((pm_R (pm_setI (pm_setI v37 x0 6 y44) x0 7 y46) x0 9).bind fun v57 => if pm_kd (pm_setI (pm_setI v37 x0 6 y44) x0 7 y46) v57 = 1 then (fX1_check (pm_setI (pm_setI v37 x0 6 y44) x0 7 y46) v57 x2 (pm_I (pm_setI (pm_setI v37 x0 6 y44) x0 7 y46) v41 5)).bind fun v60 => some (.inl (.inr (.inr (.inr (.inr (.inr (.inr (.inr (.inl ((x0, x2, v60))))))))))) else none) else (if (pm_I (pm_setI (pm_setI v37 x0 6 y44) x0 7 y46) x0 6) = 0 then ((pm_R (pm_setI (pm_setI (pm_setI v37 x0 6 y44) x0 7 y46) x0 7 (-1)) x0 3).bind fun v50 => if pm_kd (pm_setI (pm_setI (pm_setI v37 x0 6 y44) x0 7 y46) x0 7 (-1)) v50 = 41 then if pm_kd (pm_setI (pm_setI (pm_setI v37 x0 6 y44) x0 7 y46) x0 7 (-1)) x2 = 7 then if pm_in (pm_I (pm_setI (pm_setI (pm_setI v37 x0 6 y44) x0 7 y46) x0 7 (-1)) x0 4) (pm_ln (pm_setI (pm_setI (pm_setI v37 x0 6 y44) x0 7 y46) x0 7 (-1)) v50) then pm_let ((pm_I (pm_setR (pm_setI (pm_setI (pm_setI v37 x0 6 y44) x0 7 y46) x0 7 (-1)) v50 ((pm_I (pm_setI (pm_setI (pm_setI v37 x0 6 y44) x0 7 y46) x0 7 (-1)) x0 4).toNatClampNeg) (some x2)) x0 4) + 1) fun y55 => some (.inr (((pm_I (pm_setI (pm_setR (pm_setI (pm_setI (pm_setI v37 x0 6 y44) x0 7 y46) x0 7 (-1)) v50 ((pm_I (pm_setI (pm_setI (pm_setI v37 x0 6 y44) x0 7 y46) x0 7 (-1)) x0 4).toNatClampNeg) (some x2)) x0 4 y55) x0 4) - 1, pm_setI (pm_setR (pm_setI (pm_setI (pm_setI v37 x0 6 y44) x0 7 y46) x0 7 (-1)) v50 ((pm_I (pm_setI (pm_setI (pm_setI v37 x0 6 y44) x0 7 y46) x0 7 (-1)) x0 4).toNatClampNeg) (some x2)) x0 4 y55))) else none else none else none) else (some (.inr (((-1), pm_setI (pm_setI v37 x0 6 y44) x0 7 y46))))) else none else none else none else none
noncomputable def tX12_module_91 (x0 : Nat) (x1 : Int32) (x2 : Nat) (x3 : Int32) (h : pm_H) : Option (((Nat × Int32 × pm_H) ⊕ (Nat × Int32 × Nat × pm_H) ⊕ (Nat × Int32 × Nat × Nat × Nat × pm_H) ⊕ (Nat × Int32 × Nat × pm_H) ⊕ (Nat × Int32 × Nat × Int32 × pm_H) ⊕ (Nat × Nat × pm_H) ⊕ (Nat × Int32 × Nat × Int32 × pm_H) ⊕ (Nat × Nat × pm_H) ⊕ (Nat × Nat × Int32 × pm_H) ⊕ (Nat × Nat × pm_H) ⊕ (Nat × Nat × Int32 × pm_H)) ⊕ (Int32 × pm_H)) := pm_let (x3 + 1) fun y62 => some (.inl (.inr (.inr (.inr (.inr (.inl ((x0, x1, x2, y62, h))))))))
noncomputable def tX12_module_148 (x0 : Nat) (x2 : Nat) (h : pm_H) : Option (((Nat × Int32 × pm_H) ⊕ (Nat × Int32 × Nat × pm_H) ⊕ (Nat × Int32 × Nat × Nat × Nat × pm_H) ⊕ (Nat × Int32 × Nat × pm_H) ⊕ (Nat × Int32 × Nat × Int32 × pm_H) ⊕ (Nat × Nat × pm_H) ⊕ (Nat × Int32 × Nat × Int32 × pm_H) ⊕ (Nat × Nat × pm_H) ⊕ (Nat × Nat × Int32 × pm_H) ⊕ (Nat × Nat × pm_H) ⊕ (Nat × Nat × Int32 × pm_H)) ⊕ (Int32 × pm_H)) := some (.inl (.inr (.inr (.inr (.inr (.inr (.inr (.inr (.inr (.inl ((x0, x2, 0, h))))))))))))
noncomputable def tX12_module_150 (x0 : Nat) (x2 : Nat) (x3 : Int32) (h : pm_H) : Option (((Nat × Int32 × pm_H) ⊕ (Nat × Int32 × Nat × pm_H) ⊕ (Nat × Int32 × Nat × Nat × Nat × pm_H) ⊕ (Nat × Int32 × Nat × pm_H) ⊕ (Nat × Int32 × Nat × Int32 × pm_H) ⊕ (Nat × Nat × pm_H) ⊕ (Nat × Int32 × Nat × Int32 × pm_H) ⊕ (Nat × Nat × pm_H) ⊕ (Nat × Nat × Int32 × pm_H) ⊕ (Nat × Nat × pm_H) ⊕ (Nat × Nat × Int32 × pm_H)) ⊕ (Int32 × pm_H)) := if pm_kd h x2 = 7 then (pm_R h x2 12).bind fun v65 => if pm_kd h v65 = 38 then if (Int32.ofNat (pm_ln h v65)) ≤ x3 then (some (.inl (.inr (.inr (.inr (.inr (.inr (.inr (.inr (.inr (.inr (.inl ((x0, x2, h)))))))))))))) else (if pm_kd h x0 = 12 then (pm_R h x0 9).bind fun v70 => if pm_kd h v70 = 1 then if (pm_I h v70 0) = 0 then ((fX1_body h v70 x3).bind fun v74 => some (.inl (.inr (.inr (.inr (.inr (.inr (.inr (.inr (.inr (.inr (.inr ((x0, x2, x3, v74)))))))))))))) else (some (.inl (.inr (.inr (.inr (.inr (.inr (.inr (.inr (.inr (.inr (.inl ((x0, x2, h)))))))))))))) else none else none) else none else none
noncomputable def tX12_module_183 (x0 : Nat) (x2 : Nat) (h : pm_H) : Option (((Nat × Int32 × pm_H) ⊕ (Nat × Int32 × Nat × pm_H) ⊕ (Nat × Int32 × Nat × Nat × Nat × pm_H) ⊕ (Nat × Int32 × Nat × pm_H) ⊕ (Nat × Int32 × Nat × Int32 × pm_H) ⊕ (Nat × Nat × pm_H) ⊕ (Nat × Int32 × Nat × Int32 × pm_H) ⊕ (Nat × Nat × pm_H) ⊕ (Nat × Nat × Int32 × pm_H) ⊕ (Nat × Nat × pm_H) ⊕ (Nat × Nat × Int32 × pm_H)) ⊕ (Int32 × pm_H)) := if pm_kd h x0 = 12 then (pm_R h x0 9).bind fun v77 => if pm_kd h v77 = 1 then pm_let (pm_I h v77 0) fun y80 => pm_let (pm_I (pm_setI h x0 6 y80) v77 1) fun y82 => if (pm_I (pm_setI (pm_setI h x0 6 y80) x0 7 y82) x0 6) = 0 then ((pm_R (pm_setI (pm_setI (pm_setI h x0 6 y80) x0 7 y82) x0 7 (-1)) x0 3).bind fun v85 => if pm_kd (pm_setI (pm_setI (pm_setI h x0 6 y80) x0 7 y82) x0 7 (-1)) v85 = 41 then if pm_kd (pm_setI (pm_setI (pm_setI h x0 6 y80) x0 7 y82) x0 7 (-1)) x2 = 7 then if pm_in (pm_I (pm_setI (pm_setI (pm_setI h x0 6 y80) x0 7 y82) x0 7 (-1)) x0 4) (pm_ln (pm_setI (pm_setI (pm_setI h x0 6 y80) x0 7 y82) x0 7 (-1)) v85) then pm_let ((pm_I (pm_setR (pm_setI (pm_setI (pm_setI h x0 6 y80) x0 7 y82) x0 7 (-1)) v85 ((pm_I (pm_setI (pm_setI (pm_setI h x0 6 y80) x0 7 y82) x0 7 (-1)) x0 4).toNatClampNeg) (some x2)) x0 4) + 1) fun y90 => some (.inr (((pm_I (pm_setI (pm_setR (pm_setI (pm_setI (pm_setI h x0 6 y80) x0 7 y82) x0 7 (-1)) v85 ((pm_I (pm_setI (pm_setI (pm_setI h x0 6 y80) x0 7 y82) x0 7 (-1)) x0 4).toNatClampNeg) (some x2)) x0 4 y90) x0 4) - 1, pm_setI (pm_setR (pm_setI (pm_setI (pm_setI h x0 6 y80) x0 7 y82) x0 7 (-1)) v85 ((pm_I (pm_setI (pm_setI (pm_setI h x0 6 y80) x0 7 y82) x0 7 (-1)) x0 4).toNatClampNeg) (some x2)) x0 4 y90))) else none else none else none) else (some (.inr (((-1), pm_setI (pm_setI h x0 6 y80) x0 7 y82)))) else none else none
noncomputable def tX12_module_177 (x0 : Nat) (x2 : Nat) (x3 : Int32) (h : pm_H) : Option (((Nat × Int32 × pm_H) ⊕ (Nat × Int32 × Nat × pm_H) ⊕ (Nat × Int32 × Nat × Nat × Nat × pm_H) ⊕ (Nat × Int32 × Nat × pm_H) ⊕ (Nat × Int32 × Nat × Int32 × pm_H) ⊕ (Nat × Nat × pm_H) ⊕ (Nat × Int32 × Nat × Int32 × pm_H) ⊕ (Nat × Nat × pm_H) ⊕ (Nat × Nat × Int32 × pm_H) ⊕ (Nat × Nat × pm_H) ⊕ (Nat × Nat × Int32 × pm_H)) ⊕ (Int32 × pm_H)) := pm_let (x3 + 1) fun y92 => some (.inl (.inr (.inr (.inr (.inr (.inr (.inr (.inr (.inr (.inl ((x0, x2, y92, h))))))))))))
noncomputable def sX12_module : ((Nat × Int32 × pm_H) ⊕ (Nat × Int32 × Nat × pm_H) ⊕ (Nat × Int32 × Nat × Nat × Nat × pm_H) ⊕ (Nat × Int32 × Nat × pm_H) ⊕ (Nat × Int32 × Nat × Int32 × pm_H) ⊕ (Nat × Nat × pm_H) ⊕ (Nat × Int32 × Nat × Int32 × pm_H) ⊕ (Nat × Nat × pm_H) ⊕ (Nat × Nat × Int32 × pm_H) ⊕ (Nat × Nat × pm_H) ⊕ (Nat × Nat × Int32 × pm_H)) → Option (((Nat × Int32 × pm_H) ⊕ (Nat × Int32 × Nat × pm_H) ⊕ (Nat × Int32 × Nat × Nat × Nat × pm_H) ⊕ (Nat × Int32 × Nat × pm_H) ⊕ (Nat × Int32 × Nat × Int32 × pm_H) ⊕ (Nat × Nat × pm_H) ⊕ (Nat × Int32 × Nat × Int32 × pm_H) ⊕ (Nat × Nat × pm_H) ⊕ (Nat × Nat × Int32 × pm_H) ⊕ (Nat × Nat × pm_H) ⊕ (Nat × Nat × Int32 × pm_H)) ⊕ (Int32 × pm_H)) := fun z => match z with
  | .inl (x0, x1, h) => tX12_module_0 x0 x1 h
  | .inr (.inl (x0, x1, s0, h)) => tX12_module_36 x0 x1 s0 h
  | .inr (.inr (.inl (x0, x1, s0, s1, s2, h))) => tX12_module_45 x0 x1 s0 s1 s2 h
  | .inr (.inr (.inr (.inl (x0, x1, s0, h)))) => tX12_module_48 x0 x1 s0 h
  | .inr (.inr (.inr (.inr (.inl (x0, x1, x2, x3, h))))) => tX12_module_69 x0 x1 x2 x3 h
  | .inr (.inr (.inr (.inr (.inr (.inl (x0, x2, h)))))) => tX12_module_97 x0 x2 h
  | .inr (.inr (.inr (.inr (.inr (.inr (.inl (x0, x1, x2, x3, h))))))) => tX12_module_91 x0 x1 x2 x3 h
  | .inr (.inr (.inr (.inr (.inr (.inr (.inr (.inl (x0, x2, h)))))))) => tX12_module_148 x0 x2 h
  | .inr (.inr (.inr (.inr (.inr (.inr (.inr (.inr (.inl (x0, x2, x3, h))))))))) => tX12_module_150 x0 x2 x3 h
  | .inr (.inr (.inr (.inr (.inr (.inr (.inr (.inr (.inr (.inl (x0, x2, h)))))))))) => tX12_module_183 x0 x2 h
  | .inr (.inr (.inr (.inr (.inr (.inr (.inr (.inr (.inr (.inr (x0, x2, x3, h)))))))))) => tX12_module_177 x0 x2 x3 h
noncomputable def fX12_module (h : pm_H) (a0 : Nat) (p1 : Int32) : Option (Int32 × pm_H) := pm_lim sX12_module (.inl ((a0, p1, h)))
set_option maxHeartbeats 4000000 in
set_option maxRecDepth 100000 in
theorem mlX12_module {r : (Int32 × pm_H)} : ∀ n : Nat, (∀ (x0 : Nat) (x1 : Int32) (h : pm_H), pm_iter sX12_module n (.inl (x0, x1, h)) = some r → pm_Le h r.2) ∧ (∀ (x0 : Nat) (x1 : Int32) (s0 : Nat) (h : pm_H), pm_iter sX12_module n (.inr (.inl (x0, x1, s0, h))) = some r → pm_Le h r.2) ∧ (∀ (x0 : Nat) (x1 : Int32) (s0 : Nat) (s1 : Nat) (s2 : Nat) (h : pm_H), pm_iter sX12_module n (.inr (.inr (.inl (x0, x1, s0, s1, s2, h)))) = some r → pm_Le h r.2) ∧ (∀ (x0 : Nat) (x1 : Int32) (s0 : Nat) (h : pm_H), pm_iter sX12_module n (.inr (.inr (.inr (.inl (x0, x1, s0, h))))) = some r → pm_Le h r.2) ∧ (∀ (x0 : Nat) (x1 : Int32) (x2 : Nat) (x3 : Int32) (h : pm_H), pm_iter sX12_module n (.inr (.inr (.inr (.inr (.inl (x0, x1, x2, x3, h)))))) = some r → pm_Le h r.2) ∧ (∀ (x0 : Nat) (x2 : Nat) (h : pm_H), pm_iter sX12_module n (.inr (.inr (.inr (.inr (.inr (.inl (x0, x2, h))))))) = some r → pm_Le h r.2) ∧ (∀ (x0 : Nat) (x1 : Int32) (x2 : Nat) (x3 : Int32) (h : pm_H), pm_iter sX12_module n (.inr (.inr (.inr (.inr (.inr (.inr (.inl (x0, x1, x2, x3, h)))))))) = some r → pm_Le h r.2) ∧ (∀ (x0 : Nat) (x2 : Nat) (h : pm_H), pm_iter sX12_module n (.inr (.inr (.inr (.inr (.inr (.inr (.inr (.inl (x0, x2, h))))))))) = some r → pm_Le h r.2) ∧ (∀ (x0 : Nat) (x2 : Nat) (x3 : Int32) (h : pm_H), pm_iter sX12_module n (.inr (.inr (.inr (.inr (.inr (.inr (.inr (.inr (.inl (x0, x2, x3, h)))))))))) = some r → pm_Le h r.2) ∧ (∀ (x0 : Nat) (x2 : Nat) (h : pm_H), pm_iter sX12_module n (.inr (.inr (.inr (.inr (.inr (.inr (.inr (.inr (.inr (.inl (x0, x2, h))))))))))) = some r → pm_Le h r.2) ∧ (∀ (x0 : Nat) (x2 : Nat) (x3 : Int32) (h : pm_H), pm_iter sX12_module n (.inr (.inr (.inr (.inr (.inr (.inr (.inr (.inr (.inr (.inr (x0, x2, x3, h))))))))))) = some r → pm_Le h r.2) := by
  intro n
  induction n with
  | zero => exact ⟨fun _ _ _ hf => (by cases hf), fun _ _ _ _ hf => (by cases hf), fun _ _ _ _ _ _ hf => (by cases hf), fun _ _ _ _ hf => (by cases hf), fun _ _ _ _ _ hf => (by cases hf), fun _ _ _ hf => (by cases hf), fun _ _ _ _ _ hf => (by cases hf), fun _ _ _ hf => (by cases hf), fun _ _ _ _ hf => (by cases hf), fun _ _ _ hf => (by cases hf), fun _ _ _ _ hf => (by cases hf)⟩
  | succ n ih =>
    refine ⟨fun x0 x1 h hf => ?_, ?_⟩
    · obtain ⟨y, hf, hi⟩ := pm_iter_s hf
      have hf : tX12_module_0 x0 x1 h = some y := hf
      unfold tX12_module_0 at hf
      have K0 := pm_S3.rf h
      by_cases c1 : x1 < 0
      · have hf := pm_it hf c1
        have hf := Option.some.inj hf
        subst hf
        have hi := Option.some.inj (show some _ = some r from hi)
        subst hi
        exact pm_S3.le K0
      · have hf := pm_ie hf c1
        obtain ⟨k2, hf⟩ := pm_if hf
        by_cases c3 : (pm_I h x0 1) < x1
        · have hf := pm_it hf c3
          have hf := Option.some.inj hf
          subst hf
          have hi := Option.some.inj (show some _ = some r from hi)
          subst hi
          exact pm_S3.le K0
        · have hf := pm_ie hf c3
          by_cases c4 : 40960 < x1
          · have hf := pm_it hf c4
            have hf := Option.some.inj hf
            subst hf
            have hi := Option.some.inj (show some _ = some r from hi)
            subst hi
            exact pm_S3.le K0
          · have hf := pm_ie hf c4
            obtain ⟨v5, e6, hf⟩ := pm_bd hf
            obtain ⟨k7, hf⟩ := pm_if hf
            by_cases c8 : (pm_I h x0 4) < (Int32.ofNat (pm_ln h v5))
            · have hf := pm_it hf c8
              cases hf
              exact ((pm_S3.le K0).trans (pm_Le_new _ _ _)).trans (ih.2.1 x0 x1 (pm_sz h) (pm_new h 7 0) hi)
            · have hf := pm_ie hf c8
              have hf := Option.some.inj hf
              subst hf
              have hi := Option.some.inj (show some _ = some r from hi)
              subst hi
              exact pm_S3.le K0
    refine ⟨fun x0 x1 s0 h hf => ?_, ?_⟩
    · obtain ⟨y, hf, hi⟩ := pm_iter_s hf
      have hf : tX12_module_36 x0 x1 s0 h = some y := hf
      unfold tX12_module_36 at hf
      have K0 := pm_S3.rf h
      obtain ⟨k9, hf⟩ := pm_if hf
      obtain ⟨v10, e11, hf⟩ := pm_bd hf
      obtain ⟨v12, e13, hf⟩ := pm_bd hf
      cases hf
      exact ((pm_S3.le K0).trans (moJ7_copyOf_9075b e13)).trans (ih.2.2.1 x0 x1 v12.1 s0 s0 v12.2 hi)
    refine ⟨fun x0 x1 s0 s1 s2 h hf => ?_, ?_⟩
    · obtain ⟨y, hf, hi⟩ := pm_iter_s hf
      have hf : tX12_module_45 x0 x1 s0 s1 s2 h = some y := hf
      unfold tX12_module_45 at hf
      have K0 := pm_S3.rf h
      obtain ⟨v14, e15, hf⟩ := pm_bd hf
      cases hf
      exact ((pm_S3.le K0).trans (moX7_init e15)).trans (ih.2.2.2.1 x0 x1 s2 v14 hi)
    refine ⟨fun x0 x1 s0 h hf => ?_, ?_⟩
    · obtain ⟨y, hf, hi⟩ := pm_iter_s hf
      have hf : tX12_module_48 x0 x1 s0 h = some y := hf
      unfold tX12_module_48 at hf
      have K0 := pm_S3.rf h
      obtain ⟨k16, hf⟩ := pm_if hf
      obtain ⟨v17, e18, hf⟩ := pm_bd hf
      obtain ⟨k19, hf⟩ := pm_if hf
      obtain ⟨v20, e21, hf⟩ := pm_bd hf
      have K22 := pm_S3.trans (kpX9_begin e21) (pm_S3I (pm_S3I K0))
      cases hf
      exact (pm_S3.le K22).trans (ih.2.2.2.2.1 x0 x1 s0 0 v20 hi)
    refine ⟨fun x0 x1 x2 x3 h hf => ?_, ?_⟩
    · obtain ⟨y, hf, hi⟩ := pm_iter_s hf
      have hf : tX12_module_69 x0 x1 x2 x3 h = some y := hf
      unfold tX12_module_69 at hf
      have K0 := pm_S3.rf h
      by_cases c23 : x1 ≤ x3
      · have hf := pm_it hf c23
        cases hf
        exact (pm_S3.le K0).trans (ih.2.2.2.2.2.1 x0 x2 h hi)
      · have hf := pm_ie hf c23
        obtain ⟨k24, hf⟩ := pm_if hf
        obtain ⟨v25, e26, hf⟩ := pm_bd hf
        obtain ⟨k27, hf⟩ := pm_if hf
        obtain ⟨v28, e29, hf⟩ := pm_bd hf
        by_cases c30 : v28 = 0
        · have hf := pm_it hf c30
          cases hf
          exact (pm_S3.le K0).trans (ih.2.2.2.2.2.1 x0 x2 h hi)
        · have hf := pm_ie hf c30
          obtain ⟨v31, e32, hf⟩ := pm_bd hf
          cases hf
          exact ((pm_S3.le K0).trans (moX9_advance e32)).trans (ih.2.2.2.2.2.2.1 x0 x1 x2 x3 v31 hi)
    refine ⟨fun x0 x2 h hf => ?_, ?_⟩
    · obtain ⟨y, hf, hi⟩ := pm_iter_s hf
      have hf : tX12_module_97 x0 x2 h = some y := hf
      unfold tX12_module_97 at hf
      have K0 := pm_S3.rf h
      obtain ⟨k33, hf⟩ := pm_if hf
      obtain ⟨v34, e35, hf⟩ := pm_bd hf
      obtain ⟨k36, hf⟩ := pm_if hf
      obtain ⟨v37, e38, hf⟩ := pm_bd hf
      have K39 := pm_S3.trans (kpX9_finish e38) K0
      obtain ⟨k40, hf⟩ := pm_if hf
      obtain ⟨v41, e42, hf⟩ := pm_bd hf
      obtain ⟨k43, hf⟩ := pm_if hf
      obtain ⟨y44, e45, hf⟩ := pm_lt hf
      obtain ⟨y46, e47, hf⟩ := pm_lt hf
      by_cases c48 : (pm_I (pm_setI (pm_setI v37 x0 6 y44) x0 7 y46) x0 6) = 0
      · have hf := pm_it hf c48
        obtain ⟨v49, e50, hf⟩ := pm_bd hf
        obtain ⟨k51, hf⟩ := pm_if hf
        obtain ⟨v52, e53, hf⟩ := pm_bd hf
        cases hf
        exact ((pm_S3.le (pm_S3I (pm_S3I K39))).trans (moX1_check e53)).trans (ih.2.2.2.2.2.2.2.1 x0 x2 v52 hi)
      · have hf := pm_ie hf c48
        by_cases c54 : (pm_I (pm_setI (pm_setI v37 x0 6 y44) x0 7 y46) x0 6) = 0
        · have hf := pm_it hf c54
          obtain ⟨v55, e56, hf⟩ := pm_bd hf
          obtain ⟨k57, hf⟩ := pm_if hf
          obtain ⟨k58, hf⟩ := pm_if hf
          obtain ⟨u59, hf⟩ := pm_if hf
          obtain ⟨y60, e61, hf⟩ := pm_lt hf
          have hf := Option.some.inj hf
          subst hf
          have hi := Option.some.inj (show some _ = some r from hi)
          subst hi
          exact pm_S3.le (pm_S3I (pm_S3R (pm_S3I (pm_S3I (pm_S3I K39)))))
        · have hf := pm_ie hf c54
          have hf := Option.some.inj hf
          subst hf
          have hi := Option.some.inj (show some _ = some r from hi)
          subst hi
          exact pm_S3.le (pm_S3I (pm_S3I K39))
    refine ⟨fun x0 x1 x2 x3 h hf => ?_, ?_⟩
    · obtain ⟨y, hf, hi⟩ := pm_iter_s hf
      have hf : tX12_module_91 x0 x1 x2 x3 h = some y := hf
      unfold tX12_module_91 at hf
      have K0 := pm_S3.rf h
      obtain ⟨y62, e63, hf⟩ := pm_lt hf
      cases hf
      exact (pm_S3.le K0).trans (ih.2.2.2.2.1 x0 x1 x2 y62 h hi)
    refine ⟨fun x0 x2 h hf => ?_, ?_⟩
    · obtain ⟨y, hf, hi⟩ := pm_iter_s hf
      have hf : tX12_module_148 x0 x2 h = some y := hf
      unfold tX12_module_148 at hf
      have K0 := pm_S3.rf h
      cases hf
      exact (pm_S3.le K0).trans (ih.2.2.2.2.2.2.2.2.1 x0 x2 0 h hi)
    refine ⟨fun x0 x2 x3 h hf => ?_, ?_⟩
    · obtain ⟨y, hf, hi⟩ := pm_iter_s hf
      have hf : tX12_module_150 x0 x2 x3 h = some y := hf
      unfold tX12_module_150 at hf
      have K0 := pm_S3.rf h
      obtain ⟨k64, hf⟩ := pm_if hf
      obtain ⟨v65, e66, hf⟩ := pm_bd hf
      obtain ⟨k67, hf⟩ := pm_if hf
      by_cases c68 : (Int32.ofNat (pm_ln h v65)) ≤ x3
      · have hf := pm_it hf c68
        cases hf
        exact (pm_S3.le K0).trans (ih.2.2.2.2.2.2.2.2.2.1 x0 x2 h hi)
      · have hf := pm_ie hf c68
        obtain ⟨k69, hf⟩ := pm_if hf
        obtain ⟨v70, e71, hf⟩ := pm_bd hf
        obtain ⟨k72, hf⟩ := pm_if hf
        by_cases c73 : (pm_I h v70 0) = 0
        · have hf := pm_it hf c73
          obtain ⟨v74, e75, hf⟩ := pm_bd hf
          cases hf
          exact ((pm_S3.le K0).trans (moX1_body e75)).trans (ih.2.2.2.2.2.2.2.2.2.2 x0 x2 x3 v74 hi)
        · have hf := pm_ie hf c73
          cases hf
          exact (pm_S3.le K0).trans (ih.2.2.2.2.2.2.2.2.2.1 x0 x2 h hi)
    refine ⟨fun x0 x2 h hf => ?_, ?_⟩
    · obtain ⟨y, hf, hi⟩ := pm_iter_s hf
      have hf : tX12_module_183 x0 x2 h = some y := hf
      unfold tX12_module_183 at hf
      have K0 := pm_S3.rf h
      obtain ⟨k76, hf⟩ := pm_if hf
      obtain ⟨v77, e78, hf⟩ := pm_bd hf
      obtain ⟨k79, hf⟩ := pm_if hf
      obtain ⟨y80, e81, hf⟩ := pm_lt hf
      obtain ⟨y82, e83, hf⟩ := pm_lt hf
      by_cases c84 : (pm_I (pm_setI (pm_setI h x0 6 y80) x0 7 y82) x0 6) = 0
      · have hf := pm_it hf c84
        obtain ⟨v85, e86, hf⟩ := pm_bd hf
        obtain ⟨k87, hf⟩ := pm_if hf
        obtain ⟨k88, hf⟩ := pm_if hf
        obtain ⟨u89, hf⟩ := pm_if hf
        obtain ⟨y90, e91, hf⟩ := pm_lt hf
        have hf := Option.some.inj hf
        subst hf
        have hi := Option.some.inj (show some _ = some r from hi)
        subst hi
        exact pm_S3.le (pm_S3I (pm_S3R (pm_S3I (pm_S3I (pm_S3I K0)))))
      · have hf := pm_ie hf c84
        have hf := Option.some.inj hf
        subst hf
        have hi := Option.some.inj (show some _ = some r from hi)
        subst hi
        exact pm_S3.le (pm_S3I (pm_S3I K0))
    refine fun x0 x2 x3 h hf => ?_
    obtain ⟨y, hf, hi⟩ := pm_iter_s hf
    have hf : tX12_module_177 x0 x2 x3 h = some y := hf
    unfold tX12_module_177 at hf
    have K0 := pm_S3.rf h
    obtain ⟨y92, e93, hf⟩ := pm_lt hf
    cases hf
    exact (pm_S3.le K0).trans (ih.2.2.2.2.2.2.2.2.1 x0 x2 y92 h hi)
set_option maxHeartbeats 4000000 in
set_option maxRecDepth 100000 in
theorem moX12_module {h : pm_H} {a0 : Nat} {p1 : Int32} {r : (Int32 × pm_H)} (hf : fX12_module h a0 p1 = some r) : pm_Le h r.2 := by
  unfold fX12_module at hf
  have K0 := pm_S3.rf h
  obtain ⟨n, hn⟩ := pm_lim_iter hf
  exact (mlX12_module n).1 a0 p1 h hn
set_option maxHeartbeats 4000000 in
set_option maxRecDepth 100000 in
theorem lpX12_module {g : pm_Gm} {l : Launch} {G : pm_Gl} {Qr : Option Value → pm_H → Prop} (C : pm_C g cX12_module RX12) {h0 : pm_H} {r : (Int32 × pm_H)} (X : pm_X g l G mX12_module (pm_sz r.2 - pm_sz h0) (pm_us r.2 - pm_us h0) Qr) (q : Qr (some (.int r.1)) r.2) : ∀ n : Nat, (∀ (x0 : Nat) (x1 : Int32) (h : pm_H), pm_Le h0 h → pm_iter sX12_module n (.inl (x0, x1, h)) = some r → pm_G g 0 [(0, .ref x0), (1, .int x1)] [] h (pm_sz h - pm_sz h0) (pm_us h - pm_us h0)) ∧ (∀ (x0 : Nat) (x1 : Int32) (s0 : Nat) (h : pm_H), pm_Le h0 h → pm_iter sX12_module n (.inr (.inl (x0, x1, s0, h))) = some r → pm_G g 36 [(0, .ref x0), (1, .int x1)] [.ref s0] h (pm_sz h - pm_sz h0) (pm_us h - pm_us h0)) ∧ (∀ (x0 : Nat) (x1 : Int32) (s0 : Nat) (s1 : Nat) (s2 : Nat) (h : pm_H), pm_Le h0 h → pm_iter sX12_module n (.inr (.inr (.inl (x0, x1, s0, s1, s2, h)))) = some r → pm_G g 45 [(0, .ref x0), (1, .int x1)] [.ref s0, .ref s1, .ref s2] h (pm_sz h - pm_sz h0) (pm_us h - pm_us h0)) ∧ (∀ (x0 : Nat) (x1 : Int32) (s0 : Nat) (h : pm_H), pm_Le h0 h → pm_iter sX12_module n (.inr (.inr (.inr (.inl (x0, x1, s0, h))))) = some r → pm_G g 48 [(0, .ref x0), (1, .int x1)] [.ref s0] h (pm_sz h - pm_sz h0) (pm_us h - pm_us h0)) ∧ (∀ (x0 : Nat) (x1 : Int32) (x2 : Nat) (x3 : Int32) (h : pm_H), pm_Le h0 h → pm_iter sX12_module n (.inr (.inr (.inr (.inr (.inl (x0, x1, x2, x3, h)))))) = some r → pm_G g 69 [(0, .ref x0), (1, .int x1), (2, .ref x2), (3, .int x3)] [] h (pm_sz h - pm_sz h0) (pm_us h - pm_us h0)) ∧ (∀ (x0 : Nat) (x2 : Nat) (h : pm_H), pm_Le h0 h → pm_iter sX12_module n (.inr (.inr (.inr (.inr (.inr (.inl (x0, x2, h))))))) = some r → pm_G g 97 [(0, .ref x0), (2, .ref x2)] [] h (pm_sz h - pm_sz h0) (pm_us h - pm_us h0)) ∧ (∀ (x0 : Nat) (x1 : Int32) (x2 : Nat) (x3 : Int32) (h : pm_H), pm_Le h0 h → pm_iter sX12_module n (.inr (.inr (.inr (.inr (.inr (.inr (.inl (x0, x1, x2, x3, h)))))))) = some r → pm_G g 91 [(0, .ref x0), (1, .int x1), (2, .ref x2), (3, .int x3)] [] h (pm_sz h - pm_sz h0) (pm_us h - pm_us h0)) ∧ (∀ (x0 : Nat) (x2 : Nat) (h : pm_H), pm_Le h0 h → pm_iter sX12_module n (.inr (.inr (.inr (.inr (.inr (.inr (.inr (.inl (x0, x2, h))))))))) = some r → pm_G g 148 [(0, .ref x0), (2, .ref x2)] [] h (pm_sz h - pm_sz h0) (pm_us h - pm_us h0)) ∧ (∀ (x0 : Nat) (x2 : Nat) (x3 : Int32) (h : pm_H), pm_Le h0 h → pm_iter sX12_module n (.inr (.inr (.inr (.inr (.inr (.inr (.inr (.inr (.inl (x0, x2, x3, h)))))))))) = some r → pm_G g 150 [(0, .ref x0), (2, .ref x2), (3, .int x3)] [] h (pm_sz h - pm_sz h0) (pm_us h - pm_us h0)) ∧ (∀ (x0 : Nat) (x2 : Nat) (h : pm_H), pm_Le h0 h → pm_iter sX12_module n (.inr (.inr (.inr (.inr (.inr (.inr (.inr (.inr (.inr (.inl (x0, x2, h))))))))))) = some r → pm_G g 183 [(0, .ref x0), (2, .ref x2)] [] h (pm_sz h - pm_sz h0) (pm_us h - pm_us h0)) ∧ (∀ (x0 : Nat) (x2 : Nat) (x3 : Int32) (h : pm_H), pm_Le h0 h → pm_iter sX12_module n (.inr (.inr (.inr (.inr (.inr (.inr (.inr (.inr (.inr (.inr (x0, x2, x3, h))))))))))) = some r → pm_G g 177 [(0, .ref x0), (2, .ref x2), (3, .int x3)] [] h (pm_sz h - pm_sz h0) (pm_us h - pm_us h0)) := by
  intro n
  induction n with
  | zero => exact ⟨fun _ _ _ _ hf => (by cases hf), fun _ _ _ _ _ hf => (by cases hf), fun _ _ _ _ _ _ _ hf => (by cases hf), fun _ _ _ _ _ hf => (by cases hf), fun _ _ _ _ _ _ hf => (by cases hf), fun _ _ _ _ hf => (by cases hf), fun _ _ _ _ _ _ hf => (by cases hf), fun _ _ _ _ hf => (by cases hf), fun _ _ _ _ _ hf => (by cases hf), fun _ _ _ _ hf => (by cases hf), fun _ _ _ _ _ hf => (by cases hf)⟩
  | succ n ih =>
    refine ⟨fun x0 x1 h m0 hf => ?_, ?_⟩
    · have le0 := (mlX12_module (n + 1)).1 x0 x1 h hf
      have kc1 := Nat.sub_le_sub_right le0.1 (pm_sz h0)
      have kc2 := Nat.sub_le_sub_right le0.2 (pm_us h0)
      have K0 := pm_S3.rf h
      obtain ⟨y, hf, hi⟩ := pm_iter_s hf
      have hf : tX12_module_0 x0 x1 h = some y := hf
      unfold tX12_module_0 at hf
      refine pm_iload_n C dX12_module_0 rfl rfl ?_
      refine pm_if_lt (tgt := 30) C dX12_module_1 (by decide) (fun c1 => ?_) (fun c1 => ?_)
      · have hf := pm_it hf c1
        refine pm_bipush (v := (-2)) C dX12_module_30 (by decide) ?_
        have hf := Option.some.inj hf
        subst hf
        have hi := Option.some.inj (show some _ = some r from hi)
        subst hi
        exact pm_iret C X dX12_module_32 rfl kc1 kc2 q
      · have hf := pm_ie hf c1
        refine pm_iload_n C dX12_module_4 rfl rfl ?_
        refine pm_aload_n C dX12_module_5 rfl rfl ?_
        obtain ⟨k2, hf⟩ := pm_if hf
        refine pm_getI C dX12_module_6 flX12_70 rfl k2 rfl ?_
        refine pm_icmp_gt (tgt := 30) C dX12_module_9 (by decide) (fun c3 => ?_) (fun c3 => ?_)
        · have hf := pm_it hf c3
          refine pm_bipush (v := (-2)) C dX12_module_30 (by decide) ?_
          have hf := Option.some.inj hf
          subst hf
          have hi := Option.some.inj (show some _ = some r from hi)
          subst hi
          exact pm_iret C X dX12_module_32 rfl kc1 kc2 q
        · have hf := pm_ie hf c3
          refine pm_iload_n C dX12_module_12 rfl rfl ?_
          refine pm_ldc C dX12_module_13 cnX12_9 ?_
          refine pm_icmp_gt (tgt := 30) C dX12_module_15 (by decide) (fun c4 => ?_) (fun c4 => ?_)
          · have hf := pm_it hf c4
            refine pm_bipush (v := (-2)) C dX12_module_30 (by decide) ?_
            have hf := Option.some.inj hf
            subst hf
            have hi := Option.some.inj (show some _ = some r from hi)
            subst hi
            exact pm_iret C X dX12_module_32 rfl kc1 kc2 q
          · have hf := pm_ie hf c4
            refine pm_aload_n C dX12_module_18 rfl rfl ?_
            refine pm_getI C dX12_module_19 flX12_77 rfl k2 rfl ?_
            refine pm_aload_n C dX12_module_22 rfl rfl ?_
            obtain ⟨v5, e6, hf⟩ := pm_bd hf
            refine pm_getR C dX12_module_23 flX12_16 rfl k2 e6 ?_
            obtain ⟨k7, hf⟩ := pm_if hf
            refine pm_alen (t := 9) C dX12_module_26 (by decide) k7 rfl ?_
            refine pm_icmp_lt (tgt := 33) C dX12_module_27 (by decide) (fun c8 => ?_) (fun c8 => ?_)
            · have hf := pm_it hf c8
              cases hf
              refine pa_newo (hb := h) (h0 := h0) C X K0 m0 dX12_module_33 pm_Cl7 ckX12_14 cc7.1 cc7.2 ((mlX12_module n).2.1 x0 x1 (pm_sz h) (pm_new h 7 0) hi) ?_
              exact pm_sub [0, 1] rfl (ih.2.1 x0 x1 (pm_sz h) (pm_new h 7 0) ((m0.trans (pm_S3.le K0)).trans (pm_Le_new _ _ _)) hi)
            · have hf := pm_ie hf c8
              refine pm_bipush (v := (-2)) C dX12_module_30 (by decide) ?_
              have hf := Option.some.inj hf
              subst hf
              have hi := Option.some.inj (show some _ = some r from hi)
              subst hi
              exact pm_iret C X dX12_module_32 rfl kc1 kc2 q
    refine ⟨fun x0 x1 s0 h m0 hf => ?_, ?_⟩
    · have le0 := (mlX12_module (n + 1)).2.1 x0 x1 s0 h hf
      have kc1 := Nat.sub_le_sub_right le0.1 (pm_sz h0)
      have kc2 := Nat.sub_le_sub_right le0.2 (pm_us h0)
      have K0 := pm_S3.rf h
      obtain ⟨y, hf, hi⟩ := pm_iter_s hf
      have hf : tX12_module_36 x0 x1 s0 h = some y := hf
      unfold tX12_module_36 at hf
      refine pm_dup C dX12_module_36 rfl ?_
      refine pm_aload_n C dX12_module_37 rfl rfl ?_
      obtain ⟨k9, hf⟩ := pm_if hf
      obtain ⟨v10, e11, hf⟩ := pm_bd hf
      refine pm_getR C dX12_module_38 flX12_10 rfl k9 e11 ?_
      refine pm_iload_n C dX12_module_41 rfl rfl ?_
      obtain ⟨v12, e13, hf⟩ := pm_bd hf
      cases hf
      refine pm_callS (as := [.ref v10, .int x1]) (st := [.ref s0, .ref s0]) C X dX12_module_42 lnX12_80 myJ7_copyOf_9075b stJ7_copyOf_9075b ⟨by decide, by decide⟩ rfl rfl (Nat.le_of_ble_eq_true rfl) (pa_le1 K0 m0 (moJ7_copyOf_9075b e13) ((mlX12_module n).2.2.1 x0 x1 v12.1 s0 s0 v12.2 hi)) (pa_le2 K0 m0 (moJ7_copyOf_9075b e13) ((mlX12_module n).2.2.1 x0 x1 v12.1 s0 s0 v12.2 hi)) (ctJ7_copyOf_9075b e13 ?_)
      show pm_G g 45 [(0, .ref x0), (1, .int x1)] [.ref v12.1, .ref s0, .ref s0] v12.2 (pm_sz h - pm_sz h0 + (pm_sz v12.2 - pm_sz h)) (pm_us h - pm_us h0 + (pm_us v12.2 - pm_us h))
      refine pa_fin K0 m0 (moJ7_copyOf_9075b e13) ?_
      exact pm_sub [0, 1] rfl (ih.2.2.1 x0 x1 v12.1 s0 s0 v12.2 ((m0.trans (pm_S3.le K0)).trans (moJ7_copyOf_9075b e13)) hi)
    refine ⟨fun x0 x1 s0 s1 s2 h m0 hf => ?_, ?_⟩
    · have le0 := (mlX12_module (n + 1)).2.2.1 x0 x1 s0 s1 s2 h hf
      have kc1 := Nat.sub_le_sub_right le0.1 (pm_sz h0)
      have kc2 := Nat.sub_le_sub_right le0.2 (pm_us h0)
      have K0 := pm_S3.rf h
      obtain ⟨y, hf, hi⟩ := pm_iter_s hf
      have hf : tX12_module_45 x0 x1 s0 s1 s2 h = some y := hf
      unfold tX12_module_45 at hf
      obtain ⟨v14, e15, hf⟩ := pm_bd hf
      cases hf
      refine pm_callI (as := [.ref s0]) (st := [.ref s2]) C X dX12_module_45 lnX12_28 myX7_init iiX7_init ⟨by decide, by decide⟩ rfl rfl (Nat.le_of_ble_eq_true rfl) (pa_le1 K0 m0 (moX7_init e15) ((mlX12_module n).2.2.2.1 x0 x1 s2 v14 hi)) (pa_le2 K0 m0 (moX7_init e15) ((mlX12_module n).2.2.2.1 x0 x1 s2 v14 hi)) (ctX7_init e15 ?_)
      show pm_G g 48 [(0, .ref x0), (1, .int x1)] [.ref s2] v14 (pm_sz h - pm_sz h0 + (pm_sz v14 - pm_sz h)) (pm_us h - pm_us h0 + (pm_us v14 - pm_us h))
      refine pa_fin K0 m0 (moX7_init e15) ?_
      exact pm_sub [0, 1] rfl (ih.2.2.2.1 x0 x1 s2 v14 ((m0.trans (pm_S3.le K0)).trans (moX7_init e15)) hi)
    refine ⟨fun x0 x1 s0 h m0 hf => ?_, ?_⟩
    · have le0 := (mlX12_module (n + 1)).2.2.2.1 x0 x1 s0 h hf
      have kc1 := Nat.sub_le_sub_right le0.1 (pm_sz h0)
      have kc2 := Nat.sub_le_sub_right le0.2 (pm_us h0)
      have K0 := pm_S3.rf h
      obtain ⟨y, hf, hi⟩ := pm_iter_s hf
      have hf : tX12_module_48 x0 x1 s0 h = some y := hf
      unfold tX12_module_48 at hf
      refine pm_astore_n (lv' := [(2, .ref s0), (0, .ref x0), (1, .int x1)]) C dX12_module_48 rfl (pm_nl X (by decide)) rfl ?_
      refine pm_aload_n C dX12_module_49 rfl rfl ?_
      refine pm_iconst (v := 0) C dX12_module_50 (by decide) ?_
      obtain ⟨k16, hf⟩ := pm_if hf
      refine pm_putI C dX12_module_51 flX12_70 rfl rfl k16 rfl rfl ?_
      refine pm_aload_n C dX12_module_54 rfl rfl ?_
      refine pm_iconst (v := 1) C dX12_module_55 (by decide) ?_
      refine pm_putI C dX12_module_56 flX12_86 rfl rfl k16 (by decide) (by decide) ?_
      refine pm_aload_n C dX12_module_59 rfl rfl ?_
      obtain ⟨v17, e18, hf⟩ := pm_bd hf
      refine pm_getR C dX12_module_60 flX12_36 rfl k16 e18 ?_
      refine pm_aload_n C dX12_module_63 rfl rfl ?_
      obtain ⟨k19, hf⟩ := pm_if hf
      obtain ⟨v20, e21, hf⟩ := pm_bd hf
      refine pm_callV (as := [.ref s0]) (st := []) C X dX12_module_64 lnX12_90 myX9_begin viX9_begin ⟨by decide, by decide⟩ rfl rfl k19 (Nat.le_of_ble_eq_true rfl) kc1 kc2 (ctX9_begin e21 ?_)
      have K22 := pm_S3.trans (kpX9_begin e21) (pm_S3I (pm_S3I K0))
      show pm_G g 67 [(2, .ref s0), (0, .ref x0), (1, .int x1)] [] v20 (pm_sz h - pm_sz h0) (pm_us h - pm_us h0)
      refine pm_iconst (v := 0) C dX12_module_67 (by decide) ?_
      refine pm_istore_n (lv' := [(3, .int 0), (2, .ref s0), (0, .ref x0), (1, .int x1)]) C dX12_module_68 rfl (pm_nl X (by decide)) rfl ?_
      cases hf
      exact pa_join K22 (pm_sub [2, 3, 1, 0] rfl (ih.2.2.2.2.1 x0 x1 s0 0 v20 (m0.trans (pm_S3.le K22)) hi))
    refine ⟨fun x0 x1 x2 x3 h m0 hf => ?_, ?_⟩
    · have le0 := (mlX12_module (n + 1)).2.2.2.2.1 x0 x1 x2 x3 h hf
      have kc1 := Nat.sub_le_sub_right le0.1 (pm_sz h0)
      have kc2 := Nat.sub_le_sub_right le0.2 (pm_us h0)
      have K0 := pm_S3.rf h
      obtain ⟨y, hf, hi⟩ := pm_iter_s hf
      have hf : tX12_module_69 x0 x1 x2 x3 h = some y := hf
      unfold tX12_module_69 at hf
      refine pm_iload_n C dX12_module_69 rfl rfl ?_
      refine pm_iload_n C dX12_module_70 rfl rfl ?_
      refine pm_icmp_ge (tgt := 97) C dX12_module_71 (by decide) (fun c23 => ?_) (fun c23 => ?_)
      · have hf := pm_it hf c23
        cases hf
        exact pa_join K0 (pm_sub [0, 2] rfl (ih.2.2.2.2.2.1 x0 x2 h (m0.trans (pm_S3.le K0)) hi))
      · have hf := pm_ie hf c23
        refine pm_aload_n C dX12_module_74 rfl rfl ?_
        obtain ⟨k24, hf⟩ := pm_if hf
        obtain ⟨v25, e26, hf⟩ := pm_bd hf
        refine pm_getR C dX12_module_75 flX12_36 rfl k24 e26 ?_
        obtain ⟨k27, hf⟩ := pm_if hf
        obtain ⟨v28, e29, hf⟩ := pm_bd hf
        refine pm_callV (as := []) (st := []) C X dX12_module_78 lnX12_93 myX9_goesOn viX9_goesOn ⟨by decide, by decide⟩ rfl rfl k27 (Nat.le_of_ble_eq_true rfl) kc1 kc2 (ctX9_goesOn e29 ?_)
        show pm_G g 81 [(0, .ref x0), (1, .int x1), (2, .ref x2), (3, .int x3)] [.int v28] h (pm_sz h - pm_sz h0) (pm_us h - pm_us h0)
        refine pm_if_eq (tgt := 97) C dX12_module_81 (by decide) (fun c30 => ?_) (fun c30 => ?_)
        · have hf := pm_it hf c30
          cases hf
          exact pa_join K0 (pm_sub [0, 2] rfl (ih.2.2.2.2.2.1 x0 x2 h (m0.trans (pm_S3.le K0)) hi))
        · have hf := pm_ie hf c30
          refine pm_aload_n C dX12_module_84 rfl rfl ?_
          refine pm_getR C dX12_module_85 flX12_36 rfl k24 e26 ?_
          obtain ⟨v31, e32, hf⟩ := pm_bd hf
          cases hf
          refine pm_callV (as := []) (st := []) C X dX12_module_88 lnX12_97 myX9_advance viX9_advance ⟨by decide, by decide⟩ rfl rfl k27 (Nat.le_of_ble_eq_true rfl) (pa_le1 K0 m0 (moX9_advance e32) ((mlX12_module n).2.2.2.2.2.2.1 x0 x1 x2 x3 v31 hi)) (pa_le2 K0 m0 (moX9_advance e32) ((mlX12_module n).2.2.2.2.2.2.1 x0 x1 x2 x3 v31 hi)) (ctX9_advance e32 ?_)
          show pm_G g 91 [(0, .ref x0), (1, .int x1), (2, .ref x2), (3, .int x3)] [] v31 (pm_sz h - pm_sz h0 + (pm_sz v31 - pm_sz h)) (pm_us h - pm_us h0 + (pm_us v31 - pm_us h))
          refine pa_fin K0 m0 (moX9_advance e32) ?_
          exact pm_sub [0, 1, 2, 3] rfl (ih.2.2.2.2.2.2.1 x0 x1 x2 x3 v31 ((m0.trans (pm_S3.le K0)).trans (moX9_advance e32)) hi)
    refine ⟨fun x0 x2 h m0 hf => ?_, ?_⟩
    · have le0 := (mlX12_module (n + 1)).2.2.2.2.2.1 x0 x2 h hf
      have kc1 := Nat.sub_le_sub_right le0.1 (pm_sz h0)
      have kc2 := Nat.sub_le_sub_right le0.2 (pm_us h0)
      have K0 := pm_S3.rf h
      obtain ⟨y, hf, hi⟩ := pm_iter_s hf
      have hf : tX12_module_97 x0 x2 h = some y := hf
      unfold tX12_module_97 at hf
      refine pm_aload_n C dX12_module_97 rfl rfl ?_
      obtain ⟨k33, hf⟩ := pm_if hf
      obtain ⟨v34, e35, hf⟩ := pm_bd hf
      refine pm_getR C dX12_module_98 flX12_36 rfl k33 e35 ?_
      obtain ⟨k36, hf⟩ := pm_if hf
      obtain ⟨v37, e38, hf⟩ := pm_bd hf
      refine pm_callV (as := []) (st := []) C X dX12_module_101 lnX12_100 myX9_finish viX9_finish ⟨by decide, by decide⟩ rfl rfl k36 (Nat.le_of_ble_eq_true rfl) kc1 kc2 (ctX9_finish e38 ?_)
      have K39 := pm_S3.trans (kpX9_finish e38) K0
      show pm_G g 104 [(0, .ref x0), (2, .ref x2)] [] v37 (pm_sz h - pm_sz h0) (pm_us h - pm_us h0)
      refine pm_aload_n C dX12_module_104 rfl rfl ?_
      refine pm_aload_n C dX12_module_105 rfl rfl ?_
      obtain ⟨k40, hf⟩ := pm_if hf
      obtain ⟨v41, e42, hf⟩ := pm_bd hf
      refine pm_getR C dX12_module_106 flX12_36 rfl k40 e42 ?_
      obtain ⟨k43, hf⟩ := pm_if hf
      refine pm_getI C dX12_module_109 flX12_103 rfl k43 rfl ?_
      obtain ⟨y44, e45, hf⟩ := pm_lt hf
      refine pm_topI e45 ?_
      refine pm_putI C dX12_module_112 flX12_106 rfl rfl k40 rfl rfl ?_
      refine pm_aload_n C dX12_module_115 rfl rfl ?_
      refine pm_aload_n C dX12_module_116 rfl rfl ?_
      refine pm_getR C dX12_module_117 flX12_36 rfl k40 e42 ?_
      refine pm_getI C dX12_module_120 flX12_109 rfl k43 rfl ?_
      obtain ⟨y46, e47, hf⟩ := pm_lt hf
      refine pm_topI e47 ?_
      refine pm_putI C dX12_module_123 flX12_112 rfl rfl k40 rfl rfl ?_
      refine pm_aload_n C dX12_module_126 rfl rfl ?_
      refine pm_getI C dX12_module_127 flX12_106 rfl k40 rfl ?_
      refine pm_if_ne (tgt := 205) C dX12_module_130 (by decide) (fun c48 => ?_) (fun c48 => ?_)
      · have hf := pm_ie hf c48
        refine pm_aload_n C dX12_module_205 rfl rfl ?_
        refine pm_getI C dX12_module_206 flX12_106 rfl k40 rfl ?_
        refine pm_if_eq (tgt := 214) C dX12_module_209 (by decide) (fun c49 => ?_) (fun c49 => ?_)
        · have hf := pm_it hf c49
          refine pm_aload_n C dX12_module_214 rfl rfl ?_
          refine pm_iconst (v := (-1)) C dX12_module_215 (by decide) ?_
          refine pm_putI C dX12_module_216 flX12_112 rfl rfl k40 rfl rfl ?_
          refine pm_aload_n C dX12_module_219 rfl rfl ?_
          obtain ⟨v50, e51, hf⟩ := pm_bd hf
          refine pm_getR C dX12_module_220 flX12_16 rfl k40 e51 ?_
          refine pm_aload_n C dX12_module_223 rfl rfl ?_
          refine pm_getI C dX12_module_224 flX12_77 rfl k40 rfl ?_
          refine pm_aload_n C dX12_module_227 rfl rfl ?_
          obtain ⟨k52, hf⟩ := pm_if hf
          obtain ⟨k53, hf⟩ := pm_if hf
          obtain ⟨u54, hf⟩ := pm_if hf
          refine pm_aast (t := 9) C dX12_module_228 (by decide) pm_Cl7 rfl k52 k53 u54 ?_
          refine pm_aload_n C dX12_module_229 rfl rfl ?_
          refine pm_dup C dX12_module_230 rfl ?_
          refine pm_getI C dX12_module_231 flX12_77 rfl k40 rfl ?_
          refine pm_iconst (v := 1) C dX12_module_234 (by decide) ?_
          refine pm_iadd C dX12_module_235 ?_
          obtain ⟨y55, e56, hf⟩ := pm_lt hf
          refine pm_topI e56 ?_
          refine pm_putI C dX12_module_236 flX12_77 rfl rfl k40 rfl rfl ?_
          refine pm_aload_n C dX12_module_239 rfl rfl ?_
          refine pm_getI C dX12_module_240 flX12_77 rfl k40 rfl ?_
          refine pm_iconst (v := 1) C dX12_module_243 (by decide) ?_
          refine pm_isub C dX12_module_244 ?_
          have hf := Option.some.inj hf
          subst hf
          have hi := Option.some.inj (show some _ = some r from hi)
          subst hi
          exact pm_iret C X dX12_module_245 rfl kc1 kc2 q
        · have hf := pm_ie hf c49
          refine pm_iconst (v := (-1)) C dX12_module_212 (by decide) ?_
          have hf := Option.some.inj hf
          subst hf
          have hi := Option.some.inj (show some _ = some r from hi)
          subst hi
          exact pm_iret C X dX12_module_213 rfl kc1 kc2 q
      · have hf := pm_it hf c48
        refine pm_aload_n C dX12_module_133 rfl rfl ?_
        obtain ⟨v57, e58, hf⟩ := pm_bd hf
        refine pm_getR C dX12_module_134 flX12_45 rfl k40 e58 ?_
        refine pm_aload_n C dX12_module_137 rfl rfl ?_
        refine pm_aload_n C dX12_module_138 rfl rfl ?_
        refine pm_getR C dX12_module_139 flX12_36 rfl k40 e42 ?_
        refine pm_getI C dX12_module_142 flX12_115 rfl k43 rfl ?_
        obtain ⟨k59, hf⟩ := pm_if hf
        obtain ⟨v60, e61, hf⟩ := pm_bd hf
        cases hf
        refine pm_callV (as := [.ref x2, .int (pm_I (pm_setI (pm_setI v37 x0 6 y44) x0 7 y46) v41 5)]) (st := []) C X dX12_module_145 lnX12_118 myX1_check viX1_check ⟨by decide, by decide⟩ rfl rfl k59 (Nat.le_of_ble_eq_true rfl) (pa_le1 (pm_S3I (pm_S3I K39)) m0 (moX1_check e61) ((mlX12_module n).2.2.2.2.2.2.2.1 x0 x2 v60 hi)) (pa_le2 (pm_S3I (pm_S3I K39)) m0 (moX1_check e61) ((mlX12_module n).2.2.2.2.2.2.2.1 x0 x2 v60 hi)) (ctX1_check e61 ?_)
        show pm_G g 148 [(0, .ref x0), (2, .ref x2)] [] v60 (pm_sz h - pm_sz h0 + (pm_sz v60 - pm_sz (pm_setI (pm_setI v37 x0 6 y44) x0 7 y46))) (pm_us h - pm_us h0 + (pm_us v60 - pm_us (pm_setI (pm_setI v37 x0 6 y44) x0 7 y46)))
        refine pa_fin (pm_S3I (pm_S3I K39)) m0 (moX1_check e61) ?_
        exact pm_sub [0, 1] rfl (ih.2.2.2.2.2.2.2.1 x0 x2 v60 ((m0.trans (pm_S3.le (pm_S3I (pm_S3I K39)))).trans (moX1_check e61)) hi)
    refine ⟨fun x0 x1 x2 x3 h m0 hf => ?_, ?_⟩
    · have le0 := (mlX12_module (n + 1)).2.2.2.2.2.2.1 x0 x1 x2 x3 h hf
      have kc1 := Nat.sub_le_sub_right le0.1 (pm_sz h0)
      have kc2 := Nat.sub_le_sub_right le0.2 (pm_us h0)
      have K0 := pm_S3.rf h
      obtain ⟨y, hf, hi⟩ := pm_iter_s hf
      have hf : tX12_module_91 x0 x1 x2 x3 h = some y := hf
      unfold tX12_module_91 at hf
      obtain ⟨y62, e63, hf⟩ := pm_lt hf
      refine pm_iinc (v := y62) (lv' := [(3, .int y62), (0, .ref x0), (1, .int x1), (2, .ref x2)]) C dX12_module_91 rfl ((congrArg (x3 + ·) (by decide : Int32.ofInt 1 = 1)).trans e63) (pm_nl X (by decide)) rfl ?_
      refine pm_goto (tgt := 69) C dX12_module_94 (by decide) ?_
      cases hf
      exact pa_join K0 (pm_sub [1, 2, 3, 0] rfl (ih.2.2.2.2.1 x0 x1 x2 y62 h (m0.trans (pm_S3.le K0)) hi))
    refine ⟨fun x0 x2 h m0 hf => ?_, ?_⟩
    · have le0 := (mlX12_module (n + 1)).2.2.2.2.2.2.2.1 x0 x2 h hf
      have kc1 := Nat.sub_le_sub_right le0.1 (pm_sz h0)
      have kc2 := Nat.sub_le_sub_right le0.2 (pm_us h0)
      have K0 := pm_S3.rf h
      obtain ⟨y, hf, hi⟩ := pm_iter_s hf
      have hf : tX12_module_148 x0 x2 h = some y := hf
      unfold tX12_module_148 at hf
      refine pm_iconst (v := 0) C dX12_module_148 (by decide) ?_
      refine pm_istore_n (lv' := [(3, .int 0), (0, .ref x0), (2, .ref x2)]) C dX12_module_149 rfl (pm_nl X (by decide)) rfl ?_
      cases hf
      exact pa_join K0 (pm_sub [1, 2, 0] rfl (ih.2.2.2.2.2.2.2.2.1 x0 x2 0 h (m0.trans (pm_S3.le K0)) hi))
    refine ⟨fun x0 x2 x3 h m0 hf => ?_, ?_⟩
    · have le0 := (mlX12_module (n + 1)).2.2.2.2.2.2.2.2.1 x0 x2 x3 h hf
      have kc1 := Nat.sub_le_sub_right le0.1 (pm_sz h0)
      have kc2 := Nat.sub_le_sub_right le0.2 (pm_us h0)
      have K0 := pm_S3.rf h
      obtain ⟨y, hf, hi⟩ := pm_iter_s hf
      have hf : tX12_module_150 x0 x2 x3 h = some y := hf
      unfold tX12_module_150 at hf
      refine pm_iload_n C dX12_module_150 rfl rfl ?_
      refine pm_aload_n C dX12_module_151 rfl rfl ?_
      obtain ⟨k64, hf⟩ := pm_if hf
      obtain ⟨v65, e66, hf⟩ := pm_bd hf
      refine pm_getR C dX12_module_152 flX12_122 rfl k64 e66 ?_
      obtain ⟨k67, hf⟩ := pm_if hf
      refine pm_alen (t := 6) C dX12_module_155 (by decide) k67 rfl ?_
      refine pm_icmp_ge (tgt := 183) C dX12_module_156 (by decide) (fun c68 => ?_) (fun c68 => ?_)
      · have hf := pm_it hf c68
        cases hf
        exact pa_join K0 (pm_sub [0, 1] rfl (ih.2.2.2.2.2.2.2.2.2.1 x0 x2 h (m0.trans (pm_S3.le K0)) hi))
      · have hf := pm_ie hf c68
        refine pm_aload_n C dX12_module_159 rfl rfl ?_
        obtain ⟨k69, hf⟩ := pm_if hf
        obtain ⟨v70, e71, hf⟩ := pm_bd hf
        refine pm_getR C dX12_module_160 flX12_45 rfl k69 e71 ?_
        obtain ⟨k72, hf⟩ := pm_if hf
        refine pm_getI C dX12_module_163 flX12_126 rfl k72 rfl ?_
        refine pm_if_ne (tgt := 183) C dX12_module_166 (by decide) (fun c73 => ?_) (fun c73 => ?_)
        · have hf := pm_ie hf c73
          cases hf
          exact pa_join K0 (pm_sub [0, 1] rfl (ih.2.2.2.2.2.2.2.2.2.1 x0 x2 h (m0.trans (pm_S3.le K0)) hi))
        · have hf := pm_it hf c73
          refine pm_aload_n C dX12_module_169 rfl rfl ?_
          refine pm_getR C dX12_module_170 flX12_45 rfl k69 e71 ?_
          refine pm_iload_n C dX12_module_173 rfl rfl ?_
          obtain ⟨v74, e75, hf⟩ := pm_bd hf
          cases hf
          refine pm_callV (as := [.int x3]) (st := []) C X dX12_module_174 lnX12_127 myX1_body viX1_body ⟨by decide, by decide⟩ rfl rfl k72 (Nat.le_of_ble_eq_true rfl) (pa_le1 K0 m0 (moX1_body e75) ((mlX12_module n).2.2.2.2.2.2.2.2.2.2 x0 x2 x3 v74 hi)) (pa_le2 K0 m0 (moX1_body e75) ((mlX12_module n).2.2.2.2.2.2.2.2.2.2 x0 x2 x3 v74 hi)) (ctX1_body e75 ?_)
          show pm_G g 177 [(0, .ref x0), (2, .ref x2), (3, .int x3)] [] v74 (pm_sz h - pm_sz h0 + (pm_sz v74 - pm_sz h)) (pm_us h - pm_us h0 + (pm_us v74 - pm_us h))
          refine pa_fin K0 m0 (moX1_body e75) ?_
          exact pm_sub [0, 1, 2] rfl (ih.2.2.2.2.2.2.2.2.2.2 x0 x2 x3 v74 ((m0.trans (pm_S3.le K0)).trans (moX1_body e75)) hi)
    refine ⟨fun x0 x2 h m0 hf => ?_, ?_⟩
    · have le0 := (mlX12_module (n + 1)).2.2.2.2.2.2.2.2.2.1 x0 x2 h hf
      have kc1 := Nat.sub_le_sub_right le0.1 (pm_sz h0)
      have kc2 := Nat.sub_le_sub_right le0.2 (pm_us h0)
      have K0 := pm_S3.rf h
      obtain ⟨y, hf, hi⟩ := pm_iter_s hf
      have hf : tX12_module_183 x0 x2 h = some y := hf
      unfold tX12_module_183 at hf
      refine pm_aload_n C dX12_module_183 rfl rfl ?_
      refine pm_aload_n C dX12_module_184 rfl rfl ?_
      obtain ⟨k76, hf⟩ := pm_if hf
      obtain ⟨v77, e78, hf⟩ := pm_bd hf
      refine pm_getR C dX12_module_185 flX12_45 rfl k76 e78 ?_
      obtain ⟨k79, hf⟩ := pm_if hf
      refine pm_getI C dX12_module_188 flX12_126 rfl k79 rfl ?_
      obtain ⟨y80, e81, hf⟩ := pm_lt hf
      refine pm_topI e81 ?_
      refine pm_putI C dX12_module_191 flX12_106 rfl rfl k76 rfl rfl ?_
      refine pm_aload_n C dX12_module_194 rfl rfl ?_
      refine pm_aload_n C dX12_module_195 rfl rfl ?_
      refine pm_getR C dX12_module_196 flX12_45 rfl k76 e78 ?_
      refine pm_getI C dX12_module_199 flX12_131 rfl k79 rfl ?_
      obtain ⟨y82, e83, hf⟩ := pm_lt hf
      refine pm_topI e83 ?_
      refine pm_putI C dX12_module_202 flX12_112 rfl rfl k76 rfl rfl ?_
      refine pm_aload_n C dX12_module_205 rfl rfl ?_
      refine pm_getI C dX12_module_206 flX12_106 rfl k76 rfl ?_
      refine pm_if_eq (tgt := 214) C dX12_module_209 (by decide) (fun c84 => ?_) (fun c84 => ?_)
      · have hf := pm_it hf c84
        refine pm_aload_n C dX12_module_214 rfl rfl ?_
        refine pm_iconst (v := (-1)) C dX12_module_215 (by decide) ?_
        refine pm_putI C dX12_module_216 flX12_112 rfl rfl k76 rfl rfl ?_
        refine pm_aload_n C dX12_module_219 rfl rfl ?_
        obtain ⟨v85, e86, hf⟩ := pm_bd hf
        refine pm_getR C dX12_module_220 flX12_16 rfl k76 e86 ?_
        refine pm_aload_n C dX12_module_223 rfl rfl ?_
        refine pm_getI C dX12_module_224 flX12_77 rfl k76 rfl ?_
        refine pm_aload_n C dX12_module_227 rfl rfl ?_
        obtain ⟨k87, hf⟩ := pm_if hf
        obtain ⟨k88, hf⟩ := pm_if hf
        obtain ⟨u89, hf⟩ := pm_if hf
        refine pm_aast (t := 9) C dX12_module_228 (by decide) pm_Cl7 rfl k87 k88 u89 ?_
        refine pm_aload_n C dX12_module_229 rfl rfl ?_
        refine pm_dup C dX12_module_230 rfl ?_
        refine pm_getI C dX12_module_231 flX12_77 rfl k76 rfl ?_
        refine pm_iconst (v := 1) C dX12_module_234 (by decide) ?_
        refine pm_iadd C dX12_module_235 ?_
        obtain ⟨y90, e91, hf⟩ := pm_lt hf
        refine pm_topI e91 ?_
        refine pm_putI C dX12_module_236 flX12_77 rfl rfl k76 rfl rfl ?_
        refine pm_aload_n C dX12_module_239 rfl rfl ?_
        refine pm_getI C dX12_module_240 flX12_77 rfl k76 rfl ?_
        refine pm_iconst (v := 1) C dX12_module_243 (by decide) ?_
        refine pm_isub C dX12_module_244 ?_
        have hf := Option.some.inj hf
        subst hf
        have hi := Option.some.inj (show some _ = some r from hi)
        subst hi
        exact pm_iret C X dX12_module_245 rfl kc1 kc2 q
      · have hf := pm_ie hf c84
        refine pm_iconst (v := (-1)) C dX12_module_212 (by decide) ?_
        have hf := Option.some.inj hf
        subst hf
        have hi := Option.some.inj (show some _ = some r from hi)
        subst hi
        exact pm_iret C X dX12_module_213 rfl kc1 kc2 q
    refine fun x0 x2 x3 h m0 hf => ?_
    have le0 := (mlX12_module (n + 1)).2.2.2.2.2.2.2.2.2.2 x0 x2 x3 h hf
    have kc1 := Nat.sub_le_sub_right le0.1 (pm_sz h0)
    have kc2 := Nat.sub_le_sub_right le0.2 (pm_us h0)
    have K0 := pm_S3.rf h
    obtain ⟨y, hf, hi⟩ := pm_iter_s hf
    have hf : tX12_module_177 x0 x2 x3 h = some y := hf
    unfold tX12_module_177 at hf
    obtain ⟨y92, e93, hf⟩ := pm_lt hf
    refine pm_iinc (v := y92) (lv' := [(3, .int y92), (0, .ref x0), (2, .ref x2)]) C dX12_module_177 rfl ((congrArg (x3 + ·) (by decide : Int32.ofInt 1 = 1)).trans e93) (pm_nl X (by decide)) rfl ?_
    refine pm_goto (tgt := 150) C dX12_module_180 (by decide) ?_
    cases hf
    exact pa_join K0 (pm_sub [1, 2, 0] rfl (ih.2.2.2.2.2.2.2.2.1 x0 x2 y92 h (m0.trans (pm_S3.le K0)) hi))
set_option maxHeartbeats 4000000 in
set_option maxRecDepth 100000 in
theorem ctX12_module {l : Launch} {G : pm_Gl} {h : pm_H} {a0 : Nat} {p1 : Int32} {r : (Int32 × pm_H)} {Qr : Option Value → pm_H → Prop} (hf : fX12_module h a0 p1 = some r) (q : Qr (some (.int r.1)) r.2) : pm_Ct l G mX12_module [.ref a0, .int p1] h (pm_sz r.2 - pm_sz h) (pm_us r.2 - pm_us h) Qr := by
  refine pm_body pnX12 (Nat.le_of_ble_eq_true rfl) (fun g C X => ?_)
  have C : pm_C g cX12_module RX12 := C
  show pm_G g 0 [(0, .ref a0), (1, .int p1)] [] h 0 0
  unfold fX12_module at hf
  obtain ⟨n, hn⟩ := pm_lim_iter hf
  exact pa_start (pm_sub [0, 1] rfl ((lpX12_module C X q n).1 a0 p1 h (pm_Le.rf h) hn))
