theorem dX10_fillSegments_0 : decode cX10_fillSegments 0 = .ok (.aload_n 1, 1) := by decide +kernel
theorem dX10_fillSegments_1 : decode cX10_fillSegments 1 = .ok (.getfield 222, 3) := by decide +kernel
theorem dX10_fillSegments_4 : decode cX10_fillSegments 4 = .ok (.astore_n 2, 1) := by decide +kernel
theorem dX10_fillSegments_5 : decode cX10_fillSegments 5 = .ok (.iconst 0, 1) := by decide +kernel
theorem dX10_fillSegments_6 : decode cX10_fillSegments 6 = .ok (.istore_n 3, 1) := by decide +kernel
theorem dX10_fillSegments_7 : decode cX10_fillSegments 7 = .ok (.iload_n 3, 1) := by decide +kernel
theorem dX10_fillSegments_8 : decode cX10_fillSegments 8 = .ok (.aload_n 1, 1) := by decide +kernel
theorem dX10_fillSegments_9 : decode cX10_fillSegments 9 = .ok (.getfield 209, 3) := by decide +kernel
theorem dX10_fillSegments_12 : decode cX10_fillSegments 12 = .ok (.arraylength, 1) := by decide +kernel
theorem dX10_fillSegments_13 : decode cX10_fillSegments 13 = .ok (.if_icmp .ge 119, 3) := by decide +kernel
theorem dX10_fillSegments_16 : decode cX10_fillSegments 16 = .ok (.iload_n 3, 1) := by decide +kernel
theorem dX10_fillSegments_17 : decode cX10_fillSegments 17 = .ok (.bipush 7, 2) := by decide +kernel
theorem dX10_fillSegments_19 : decode cX10_fillSegments 19 = .ok (.imul, 1) := by decide +kernel
theorem dX10_fillSegments_20 : decode cX10_fillSegments 20 = .ok (.istore 4, 2) := by decide +kernel
theorem dX10_fillSegments_22 : decode cX10_fillSegments 22 = .ok (.aload_n 2, 1) := by decide +kernel
theorem dX10_fillSegments_23 : decode cX10_fillSegments 23 = .ok (.getfield 154, 3) := by decide +kernel
theorem dX10_fillSegments_26 : decode cX10_fillSegments 26 = .ok (.iload 4, 2) := by decide +kernel
theorem dX10_fillSegments_28 : decode cX10_fillSegments 28 = .ok (.iconst 0, 1) := by decide +kernel
theorem dX10_fillSegments_29 : decode cX10_fillSegments 29 = .ok (.iadd, 1) := by decide +kernel
theorem dX10_fillSegments_30 : decode cX10_fillSegments 30 = .ok (.invokestatic 104, 3) := by decide +kernel
theorem dX10_fillSegments_33 : decode cX10_fillSegments 33 = .ok (.istore 5, 2) := by decide +kernel
theorem dX10_fillSegments_35 : decode cX10_fillSegments 35 = .ok (.iload 5, 2) := by decide +kernel
theorem dX10_fillSegments_37 : decode cX10_fillSegments 37 = .ok (.ifCond .ne 74, 3) := by decide +kernel
theorem dX10_fillSegments_40 : decode cX10_fillSegments 40 = .ok (.aload_n 0, 1) := by decide +kernel
theorem dX10_fillSegments_41 : decode cX10_fillSegments 41 = .ok (.getfield 72, 3) := by decide +kernel
theorem dX10_fillSegments_44 : decode cX10_fillSegments 44 = .ok (.aload_n 2, 1) := by decide +kernel
theorem dX10_fillSegments_45 : decode cX10_fillSegments 45 = .ok (.aload_n 2, 1) := by decide +kernel
theorem dX10_fillSegments_46 : decode cX10_fillSegments 46 = .ok (.getfield 154, 3) := by decide +kernel
theorem dX10_fillSegments_49 : decode cX10_fillSegments 49 = .ok (.iload 4, 2) := by decide +kernel
theorem dX10_fillSegments_51 : decode cX10_fillSegments 51 = .ok (.iconst 2, 1) := by decide +kernel
theorem dX10_fillSegments_52 : decode cX10_fillSegments 52 = .ok (.iadd, 1) := by decide +kernel
theorem dX10_fillSegments_53 : decode cX10_fillSegments 53 = .ok (.invokestatic 104, 3) := by decide +kernel
theorem dX10_fillSegments_56 : decode cX10_fillSegments 56 = .ok (.invokevirtual 226, 3) := by decide +kernel
theorem dX10_fillSegments_59 : decode cX10_fillSegments 59 = .ok (.aload_n 2, 1) := by decide +kernel
theorem dX10_fillSegments_60 : decode cX10_fillSegments 60 = .ok (.getfield 154, 3) := by decide +kernel
theorem dX10_fillSegments_63 : decode cX10_fillSegments 63 = .ok (.iload 4, 2) := by decide +kernel
theorem dX10_fillSegments_65 : decode cX10_fillSegments 65 = .ok (.iconst 1, 1) := by decide +kernel
theorem dX10_fillSegments_66 : decode cX10_fillSegments 66 = .ok (.iadd, 1) := by decide +kernel
theorem dX10_fillSegments_67 : decode cX10_fillSegments 67 = .ok (.invokestatic 104, 3) := by decide +kernel
theorem dX10_fillSegments_70 : decode cX10_fillSegments 70 = .ok (.istore 6, 2) := by decide +kernel
theorem dX10_fillSegments_72 : decode cX10_fillSegments 72 = .ok (.aload_n 0, 1) := by decide +kernel
theorem dX10_fillSegments_73 : decode cX10_fillSegments 73 = .ok (.aload_n 1, 1) := by decide +kernel
theorem dX10_fillSegments_74 : decode cX10_fillSegments 74 = .ok (.sipush 312, 3) := by decide +kernel
theorem dX10_fillSegments_77 : decode cX10_fillSegments 77 = .ok (.iload_n 3, 1) := by decide +kernel
theorem dX10_fillSegments_78 : decode cX10_fillSegments 78 = .ok (.iload 6, 2) := by decide +kernel
theorem dX10_fillSegments_80 : decode cX10_fillSegments 80 = .ok (.aload_n 0, 1) := by decide +kernel
theorem dX10_fillSegments_81 : decode cX10_fillSegments 81 = .ok (.aload_n 1, 1) := by decide +kernel
theorem dX10_fillSegments_82 : decode cX10_fillSegments 82 = .ok (.invokevirtual 232, 3) := by decide +kernel
theorem dX10_fillSegments_85 : decode cX10_fillSegments 85 = .ok (.lconst 0, 1) := by decide +kernel
theorem dX10_fillSegments_86 : decode cX10_fillSegments 86 = .ok (.aload_n 1, 1) := by decide +kernel
theorem dX10_fillSegments_87 : decode cX10_fillSegments 87 = .ok (.getfield 244, 3) := by decide +kernel
theorem dX10_fillSegments_90 : decode cX10_fillSegments 90 = .ok (.iload_n 3, 1) := by decide +kernel
theorem dX10_fillSegments_91 : decode cX10_fillSegments 91 = .ok (.invokestatic 104, 3) := by decide +kernel
theorem dX10_fillSegments_94 : decode cX10_fillSegments 94 = .ok (.i2l, 1) := by decide +kernel
theorem dX10_fillSegments_95 : decode cX10_fillSegments 95 = .ok (.invokevirtual 259, 3) := by decide +kernel
theorem dX10_fillSegments_98 : decode cX10_fillSegments 98 = .ok (.pop2, 1) := by decide +kernel
theorem dX10_fillSegments_99 : decode cX10_fillSegments 99 = .ok (.aload_n 0, 1) := by decide +kernel
theorem dX10_fillSegments_100 : decode cX10_fillSegments 100 = .ok (.getfield 263, 3) := by decide +kernel
theorem dX10_fillSegments_103 : decode cX10_fillSegments 103 = .ok (.ifCond .eq 8, 3) := by decide +kernel
theorem dX10_fillSegments_106 : decode cX10_fillSegments 106 = .ok (.aload_n 0, 1) := by decide +kernel
theorem dX10_fillSegments_107 : decode cX10_fillSegments 107 = .ok (.getfield 263, 3) := by decide +kernel
theorem dX10_fillSegments_110 : decode cX10_fillSegments 110 = .ok (.ireturn, 1) := by decide +kernel
theorem dX10_fillSegments_111 : decode cX10_fillSegments 111 = .ok (.iload 5, 2) := by decide +kernel
theorem dX10_fillSegments_113 : decode cX10_fillSegments 113 = .ok (.iconst 1, 1) := by decide +kernel
theorem dX10_fillSegments_114 : decode cX10_fillSegments 114 = .ok (.if_icmp .eq 12, 3) := by decide +kernel
theorem dX10_fillSegments_117 : decode cX10_fillSegments 117 = .ok (.aload_n 1, 1) := by decide +kernel
theorem dX10_fillSegments_118 : decode cX10_fillSegments 118 = .ok (.getfield 244, 3) := by decide +kernel
theorem dX10_fillSegments_121 : decode cX10_fillSegments 121 = .ok (.iload_n 3, 1) := by decide +kernel
theorem dX10_fillSegments_122 : decode cX10_fillSegments 122 = .ok (.iconst 0, 1) := by decide +kernel
theorem dX10_fillSegments_123 : decode cX10_fillSegments 123 = .ok (.invokestatic 184, 3) := by decide +kernel
theorem dX10_fillSegments_126 : decode cX10_fillSegments 126 = .ok (.iinc 3 1, 3) := by decide +kernel
theorem dX10_fillSegments_129 : decode cX10_fillSegments 129 = .ok (.goto (-122), 3) := by decide +kernel
theorem dX10_fillSegments_132 : decode cX10_fillSegments 132 = .ok (.iconst 0, 1) := by decide +kernel
theorem dX10_fillSegments_133 : decode cX10_fillSegments 133 = .ok (.istore_n 3, 1) := by decide +kernel
theorem dX10_fillSegments_134 : decode cX10_fillSegments 134 = .ok (.iload_n 3, 1) := by decide +kernel
theorem dX10_fillSegments_135 : decode cX10_fillSegments 135 = .ok (.aload_n 1, 1) := by decide +kernel
theorem dX10_fillSegments_136 : decode cX10_fillSegments 136 = .ok (.getfield 216, 3) := by decide +kernel
theorem dX10_fillSegments_139 : decode cX10_fillSegments 139 = .ok (.arraylength, 1) := by decide +kernel
theorem dX10_fillSegments_140 : decode cX10_fillSegments 140 = .ok (.if_icmp .ge 98, 3) := by decide +kernel
theorem dX10_fillSegments_143 : decode cX10_fillSegments 143 = .ok (.iload_n 3, 1) := by decide +kernel
theorem dX10_fillSegments_144 : decode cX10_fillSegments 144 = .ok (.bipush 7, 2) := by decide +kernel
theorem dX10_fillSegments_146 : decode cX10_fillSegments 146 = .ok (.imul, 1) := by decide +kernel
theorem dX10_fillSegments_147 : decode cX10_fillSegments 147 = .ok (.istore 4, 2) := by decide +kernel
theorem dX10_fillSegments_149 : decode cX10_fillSegments 149 = .ok (.aload_n 2, 1) := by decide +kernel
theorem dX10_fillSegments_150 : decode cX10_fillSegments 150 = .ok (.getfield 219, 3) := by decide +kernel
theorem dX10_fillSegments_153 : decode cX10_fillSegments 153 = .ok (.iload 4, 2) := by decide +kernel
theorem dX10_fillSegments_155 : decode cX10_fillSegments 155 = .ok (.iconst 0, 1) := by decide +kernel
theorem dX10_fillSegments_156 : decode cX10_fillSegments 156 = .ok (.iadd, 1) := by decide +kernel
theorem dX10_fillSegments_157 : decode cX10_fillSegments 157 = .ok (.invokestatic 104, 3) := by decide +kernel
theorem dX10_fillSegments_160 : decode cX10_fillSegments 160 = .ok (.ifCond .eq 6, 3) := by decide +kernel
theorem dX10_fillSegments_163 : decode cX10_fillSegments 163 = .ok (.goto 69, 3) := by decide +kernel
theorem dX10_fillSegments_166 : decode cX10_fillSegments 166 = .ok (.aload_n 0, 1) := by decide +kernel
theorem dX10_fillSegments_167 : decode cX10_fillSegments 167 = .ok (.getfield 72, 3) := by decide +kernel
theorem dX10_fillSegments_170 : decode cX10_fillSegments 170 = .ok (.aload_n 2, 1) := by decide +kernel
theorem dX10_fillSegments_171 : decode cX10_fillSegments 171 = .ok (.aload_n 2, 1) := by decide +kernel
theorem dX10_fillSegments_172 : decode cX10_fillSegments 172 = .ok (.getfield 219, 3) := by decide +kernel
theorem dX10_fillSegments_175 : decode cX10_fillSegments 175 = .ok (.iload 4, 2) := by decide +kernel
theorem dX10_fillSegments_177 : decode cX10_fillSegments 177 = .ok (.iconst 2, 1) := by decide +kernel
theorem dX10_fillSegments_178 : decode cX10_fillSegments 178 = .ok (.iadd, 1) := by decide +kernel
theorem dX10_fillSegments_179 : decode cX10_fillSegments 179 = .ok (.invokestatic 104, 3) := by decide +kernel
theorem dX10_fillSegments_182 : decode cX10_fillSegments 182 = .ok (.invokevirtual 226, 3) := by decide +kernel
theorem dX10_fillSegments_185 : decode cX10_fillSegments 185 = .ok (.aload_n 0, 1) := by decide +kernel
theorem dX10_fillSegments_186 : decode cX10_fillSegments 186 = .ok (.aload_n 1, 1) := by decide +kernel
theorem dX10_fillSegments_187 : decode cX10_fillSegments 187 = .ok (.sipush 308, 3) := by decide +kernel
theorem dX10_fillSegments_190 : decode cX10_fillSegments 190 = .ok (.iload_n 3, 1) := by decide +kernel
theorem dX10_fillSegments_191 : decode cX10_fillSegments 191 = .ok (.iconst 0, 1) := by decide +kernel
theorem dX10_fillSegments_192 : decode cX10_fillSegments 192 = .ok (.aload_n 0, 1) := by decide +kernel
theorem dX10_fillSegments_193 : decode cX10_fillSegments 193 = .ok (.aload_n 1, 1) := by decide +kernel
theorem dX10_fillSegments_194 : decode cX10_fillSegments 194 = .ok (.invokevirtual 232, 3) := by decide +kernel
theorem dX10_fillSegments_197 : decode cX10_fillSegments 197 = .ok (.lconst 0, 1) := by decide +kernel
theorem dX10_fillSegments_198 : decode cX10_fillSegments 198 = .ok (.aload_n 1, 1) := by decide +kernel
theorem dX10_fillSegments_199 : decode cX10_fillSegments 199 = .ok (.getfield 216, 3) := by decide +kernel
theorem dX10_fillSegments_202 : decode cX10_fillSegments 202 = .ok (.iload_n 3, 1) := by decide +kernel
theorem dX10_fillSegments_203 : decode cX10_fillSegments 203 = .ok (.invokestatic 104, 3) := by decide +kernel
theorem dX10_fillSegments_206 : decode cX10_fillSegments 206 = .ok (.i2l, 1) := by decide +kernel
theorem dX10_fillSegments_207 : decode cX10_fillSegments 207 = .ok (.invokevirtual 259, 3) := by decide +kernel
theorem dX10_fillSegments_210 : decode cX10_fillSegments 210 = .ok (.pop2, 1) := by decide +kernel
theorem dX10_fillSegments_211 : decode cX10_fillSegments 211 = .ok (.aload_n 0, 1) := by decide +kernel
theorem dX10_fillSegments_212 : decode cX10_fillSegments 212 = .ok (.getfield 263, 3) := by decide +kernel
theorem dX10_fillSegments_215 : decode cX10_fillSegments 215 = .ok (.ifCond .eq 8, 3) := by decide +kernel
theorem dX10_fillSegments_218 : decode cX10_fillSegments 218 = .ok (.aload_n 0, 1) := by decide +kernel
theorem dX10_fillSegments_219 : decode cX10_fillSegments 219 = .ok (.getfield 263, 3) := by decide +kernel
theorem dX10_fillSegments_222 : decode cX10_fillSegments 222 = .ok (.ireturn, 1) := by decide +kernel
theorem dX10_fillSegments_223 : decode cX10_fillSegments 223 = .ok (.aload_n 1, 1) := by decide +kernel
theorem dX10_fillSegments_224 : decode cX10_fillSegments 224 = .ok (.getfield 216, 3) := by decide +kernel
theorem dX10_fillSegments_227 : decode cX10_fillSegments 227 = .ok (.iload_n 3, 1) := by decide +kernel
theorem dX10_fillSegments_228 : decode cX10_fillSegments 228 = .ok (.iconst 0, 1) := by decide +kernel
theorem dX10_fillSegments_229 : decode cX10_fillSegments 229 = .ok (.invokestatic 184, 3) := by decide +kernel
theorem dX10_fillSegments_232 : decode cX10_fillSegments 232 = .ok (.iinc 3 1, 3) := by decide +kernel
theorem dX10_fillSegments_235 : decode cX10_fillSegments 235 = .ok (.goto (-101), 3) := by decide +kernel
theorem dX10_fillSegments_238 : decode cX10_fillSegments 238 = .ok (.iconst 0, 1) := by decide +kernel
theorem dX10_fillSegments_239 : decode cX10_fillSegments 239 = .ok (.ireturn, 1) := by decide +kernel
noncomputable def tX10_fillSegments_0 (x0 : Nat) (x1 : Nat) (h : pm_H) : Option (((Nat × Nat × pm_H) ⊕ (Nat × Nat × Nat × Int32 × pm_H) ⊕ (Nat × Nat × Nat × Int32 × pm_H) ⊕ (Nat × Nat × Nat × Int32 × Int32 × Int64 × pm_H) ⊕ (Nat × Nat × Nat × Int32 × Int64 × pm_H)) ⊕ (Int32 × pm_H)) := if pm_kd h x1 = 4 then (pm_R h x1 0).bind fun v2 => some (.inl (.inr (.inl ((x0, x1, v2, 0, h))))) else none
noncomputable def tX10_fillSegments_7 (x0 : Nat) (x1 : Nat) (x2 : Nat) (x3 : Int32) (h : pm_H) : Option (((Nat × Nat × pm_H) ⊕ (Nat × Nat × Nat × Int32 × pm_H) ⊕ (Nat × Nat × Nat × Int32 × pm_H) ⊕ (Nat × Nat × Nat × Int32 × Int32 × Int64 × pm_H) ⊕ (Nat × Nat × Nat × Int32 × Int64 × pm_H)) ⊕ (Int32 × pm_H)) := if pm_kd h x1 = 4 then (pm_R h x1 5).bind fun v5 => if pm_kd h v5 = 36 then if (Int32.ofNat (pm_ln h v5)) ≤ x3 then (some (.inl (.inr (.inr (.inl ((x0, x1, x2, 0, h))))))) else (pm_let (x3 * 7) fun y9 => if pm_kd h x2 = 7 then (pm_R h x2 9).bind fun v12 => (fX12_item h v12 (y9 + 0)).bind fun v14 => if v14 = 0 then (if pm_kd h x0 = 10 then (pm_R h x0 18).bind fun v28 => (fX12_item h v12 (y9 + 2)).bind fun v30 => if pm_kd h v28 = 9 then (fX9_open h v28 x2 v30).bind fun v33 => if pm_kd v33 x2 = 7 then (pm_R v33 x2 9).bind fun v37 => (fX12_item v33 v37 (y9 + 1)).bind fun v39 => if pm_kd v33 x0 = 10 then (fX10_constant v33 x0 x1).bind fun v42 => if pm_kd v42.2 x1 = 4 then (pm_R v42.2 x1 6).bind fun v46 => (fX12_item v42.2 v46 x3).bind fun v48 => if pm_kd v42.2 x0 = 10 then (fX10_perform v42.2 x0 x1 312 x3 v39 v42.1 0 v48.toInt64).bind fun v51 => some (.inl (.inr (.inr (.inr (.inl ((x0, x1, x2, x3, v14, v51.1, v51.2))))))) else none else none else none else none else none else none) else (if v14 = 1 then (pm_let (x3 + 1) fun y18 => some (.inl (.inr (.inl ((x0, x1, x2, y18, h)))))) else ((pm_R h x1 6).bind fun v20 => (fX12_setItem h v20 x3 0).bind fun v22 => pm_let (x3 + 1) fun y25 => some (.inl (.inr (.inl ((x0, x1, x2, y25, v22))))))) else none) else none else none
noncomputable def tX10_fillSegments_134 (x0 : Nat) (x1 : Nat) (x2 : Nat) (x3 : Int32) (h : pm_H) : Option (((Nat × Nat × pm_H) ⊕ (Nat × Nat × Nat × Int32 × pm_H) ⊕ (Nat × Nat × Nat × Int32 × pm_H) ⊕ (Nat × Nat × Nat × Int32 × Int32 × Int64 × pm_H) ⊕ (Nat × Nat × Nat × Int32 × Int64 × pm_H)) ⊕ (Int32 × pm_H)) := if pm_kd h x1 = 4 then (pm_R h x1 7).bind fun v54 => if pm_kd h v54 = 34 then if (Int32.ofNat (pm_ln h v54)) ≤ x3 then (some (.inr ((0, h)))) else (pm_let (x3 * 7) fun y58 => if pm_kd h x2 = 7 then (pm_R h x2 10).bind fun v61 => (fX12_item h v61 (y58 + 0)).bind fun v63 => if v63 = 0 then (if pm_kd h x0 = 10 then (pm_R h x0 18).bind fun v67 => (fX12_item h v61 (y58 + 2)).bind fun v69 => if pm_kd h v67 = 9 then (fX9_open h v67 x2 v69).bind fun v72 => if pm_kd v72 x0 = 10 then (fX10_constant v72 x0 x1).bind fun v76 => if pm_kd v76.2 x1 = 4 then (pm_R v76.2 x1 7).bind fun v80 => (fX12_item v76.2 v80 x3).bind fun v82 => if pm_kd v76.2 x0 = 10 then (fX10_perform v76.2 x0 x1 308 x3 0 v76.1 0 v82.toInt64).bind fun v85 => some (.inl (.inr (.inr (.inr (.inr ((x0, x1, x2, x3, v85.1, v85.2))))))) else none else none else none else none else none) else (pm_let (x3 + 1) fun y87 => some (.inl (.inr (.inr (.inl ((x0, x1, x2, y87, h))))))) else none) else none else none
noncomputable def tX10_fillSegments_98 (x0 : Nat) (x1 : Nat) (x2 : Nat) (x3 : Int32) (x5 : Int32) (s0 : Int64) (h : pm_H) : Option (((Nat × Nat × pm_H) ⊕ (Nat × Nat × Nat × Int32 × pm_H) ⊕ (Nat × Nat × Nat × Int32 × pm_H) ⊕ (Nat × Nat × Nat × Int32 × Int32 × Int64 × pm_H) ⊕ (Nat × Nat × Nat × Int32 × Int64 × pm_H)) ⊕ (Int32 × pm_H)) := if pm_kd h x0 = 10 then if (pm_I h x0 0) = 0 then (if x5 = 1 then (pm_let (x3 + 1) fun y92 => some (.inl (.inr (.inl ((x0, x1, x2, y92, h)))))) else (if pm_kd h x1 = 4 then (pm_R h x1 6).bind fun v95 => (fX12_setItem h v95 x3 0).bind fun v97 => pm_let (x3 + 1) fun y100 => some (.inl (.inr (.inl ((x0, x1, x2, y100, v97))))) else none)) else (some (.inr ((pm_I h x0 0, h)))) else none
noncomputable def tX10_fillSegments_210 (x0 : Nat) (x1 : Nat) (x2 : Nat) (x3 : Int32) (s0 : Int64) (h : pm_H) : Option (((Nat × Nat × pm_H) ⊕ (Nat × Nat × Nat × Int32 × pm_H) ⊕ (Nat × Nat × Nat × Int32 × pm_H) ⊕ (Nat × Nat × Nat × Int32 × Int32 × Int64 × pm_H) ⊕ (Nat × Nat × Nat × Int32 × Int64 × pm_H)) ⊕ (Int32 × pm_H)) := if pm_kd h x0 = 10 then if (pm_I h x0 0) = 0 then (if pm_kd h x1 = 4 then (pm_R h x1 7).bind fun v105 => (fX12_setItem h v105 x3 0).bind fun v107 => pm_let (x3 + 1) fun y110 => some (.inl (.inr (.inr (.inl ((x0, x1, x2, y110, v107)))))) else none) else (some (.inr ((pm_I h x0 0, h)))) else none
noncomputable def sX10_fillSegments : ((Nat × Nat × pm_H) ⊕ (Nat × Nat × Nat × Int32 × pm_H) ⊕ (Nat × Nat × Nat × Int32 × pm_H) ⊕ (Nat × Nat × Nat × Int32 × Int32 × Int64 × pm_H) ⊕ (Nat × Nat × Nat × Int32 × Int64 × pm_H)) → Option (((Nat × Nat × pm_H) ⊕ (Nat × Nat × Nat × Int32 × pm_H) ⊕ (Nat × Nat × Nat × Int32 × pm_H) ⊕ (Nat × Nat × Nat × Int32 × Int32 × Int64 × pm_H) ⊕ (Nat × Nat × Nat × Int32 × Int64 × pm_H)) ⊕ (Int32 × pm_H)) := fun z => match z with
  | .inl (x0, x1, h) => tX10_fillSegments_0 x0 x1 h
  | .inr (.inl (x0, x1, x2, x3, h)) => tX10_fillSegments_7 x0 x1 x2 x3 h
  | .inr (.inr (.inl (x0, x1, x2, x3, h))) => tX10_fillSegments_134 x0 x1 x2 x3 h
  | .inr (.inr (.inr (.inl (x0, x1, x2, x3, x5, s0, h)))) => tX10_fillSegments_98 x0 x1 x2 x3 x5 s0 h
  | .inr (.inr (.inr (.inr (x0, x1, x2, x3, s0, h)))) => tX10_fillSegments_210 x0 x1 x2 x3 s0 h
noncomputable def fX10_fillSegments (h : pm_H) (a0 : Nat) (p1 : Nat) : Option (Int32 × pm_H) := pm_lim sX10_fillSegments (.inl ((a0, p1, h)))
set_option maxHeartbeats 4000000 in
set_option maxRecDepth 100000 in
theorem mlX10_fillSegments {r : (Int32 × pm_H)} : ∀ n : Nat, (∀ (x0 : Nat) (x1 : Nat) (h : pm_H), pm_iter sX10_fillSegments n (.inl (x0, x1, h)) = some r → pm_Le h r.2) ∧ (∀ (x0 : Nat) (x1 : Nat) (x2 : Nat) (x3 : Int32) (h : pm_H), pm_iter sX10_fillSegments n (.inr (.inl (x0, x1, x2, x3, h))) = some r → pm_Le h r.2) ∧ (∀ (x0 : Nat) (x1 : Nat) (x2 : Nat) (x3 : Int32) (h : pm_H), pm_iter sX10_fillSegments n (.inr (.inr (.inl (x0, x1, x2, x3, h)))) = some r → pm_Le h r.2) ∧ (∀ (x0 : Nat) (x1 : Nat) (x2 : Nat) (x3 : Int32) (x5 : Int32) (s0 : Int64) (h : pm_H), pm_iter sX10_fillSegments n (.inr (.inr (.inr (.inl (x0, x1, x2, x3, x5, s0, h))))) = some r → pm_Le h r.2) ∧ (∀ (x0 : Nat) (x1 : Nat) (x2 : Nat) (x3 : Int32) (s0 : Int64) (h : pm_H), pm_iter sX10_fillSegments n (.inr (.inr (.inr (.inr (x0, x1, x2, x3, s0, h))))) = some r → pm_Le h r.2) := by
  intro n
  induction n with
  | zero => exact ⟨fun _ _ _ hf => (by cases hf), fun _ _ _ _ _ hf => (by cases hf), fun _ _ _ _ _ hf => (by cases hf), fun _ _ _ _ _ _ _ hf => (by cases hf), fun _ _ _ _ _ _ hf => (by cases hf)⟩
  | succ n ih =>
    refine ⟨fun x0 x1 h hf => ?_, ?_⟩
    · obtain ⟨y, hf, hi⟩ := pm_iter_s hf
      have hf : tX10_fillSegments_0 x0 x1 h = some y := hf
      unfold tX10_fillSegments_0 at hf
      have K0 := pm_S3.rf h
      obtain ⟨k1, hf⟩ := pm_if hf
      obtain ⟨v2, e3, hf⟩ := pm_bd hf
      cases hf
      exact (pm_S3.le K0).trans (ih.2.1 x0 x1 v2 0 h hi)
    refine ⟨fun x0 x1 x2 x3 h hf => ?_, ?_⟩
    · obtain ⟨y, hf, hi⟩ := pm_iter_s hf
      have hf : tX10_fillSegments_7 x0 x1 x2 x3 h = some y := hf
      unfold tX10_fillSegments_7 at hf
      have K0 := pm_S3.rf h
      obtain ⟨k4, hf⟩ := pm_if hf
      obtain ⟨v5, e6, hf⟩ := pm_bd hf
      obtain ⟨k7, hf⟩ := pm_if hf
      by_cases c8 : (Int32.ofNat (pm_ln h v5)) ≤ x3
      · have hf := pm_it hf c8
        cases hf
        exact (pm_S3.le K0).trans (ih.2.2.1 x0 x1 x2 0 h hi)
      · have hf := pm_ie hf c8
        obtain ⟨y9, e10, hf⟩ := pm_lt hf
        obtain ⟨k11, hf⟩ := pm_if hf
        obtain ⟨v12, e13, hf⟩ := pm_bd hf
        obtain ⟨v14, e15, hf⟩ := pm_bd hf
        by_cases c16 : v14 = 0
        · have hf := pm_it hf c16
          obtain ⟨k17, hf⟩ := pm_if hf
          obtain ⟨v18, e19, hf⟩ := pm_bd hf
          obtain ⟨v20, e21, hf⟩ := pm_bd hf
          obtain ⟨k22, hf⟩ := pm_if hf
          obtain ⟨v23, e24, hf⟩ := pm_bd hf
          have K25 := pm_S3.trans (kpX9_open e24) K0
          obtain ⟨k26, hf⟩ := pm_if hf
          obtain ⟨v27, e28, hf⟩ := pm_bd hf
          obtain ⟨v29, e30, hf⟩ := pm_bd hf
          obtain ⟨k31, hf⟩ := pm_if hf
          obtain ⟨v32, e33, hf⟩ := pm_bd hf
          have K34 := pm_S3.trans (kpX10_constant e33) K25
          obtain ⟨k35, hf⟩ := pm_if hf
          obtain ⟨v36, e37, hf⟩ := pm_bd hf
          obtain ⟨v38, e39, hf⟩ := pm_bd hf
          obtain ⟨k40, hf⟩ := pm_if hf
          obtain ⟨v41, e42, hf⟩ := pm_bd hf
          cases hf
          exact ((pm_S3.le K34).trans (moX10_perform e42)).trans (ih.2.2.2.1 x0 x1 x2 x3 v14 v41.1 v41.2 hi)
        · have hf := pm_ie hf c16
          by_cases c43 : v14 = 1
          · have hf := pm_it hf c43
            obtain ⟨y44, e45, hf⟩ := pm_lt hf
            cases hf
            exact (pm_S3.le K0).trans (ih.2.1 x0 x1 x2 y44 h hi)
          · have hf := pm_ie hf c43
            obtain ⟨v46, e47, hf⟩ := pm_bd hf
            obtain ⟨v48, e49, hf⟩ := pm_bd hf
            have K50 := pm_S3.trans (kpX12_setItem e49) K0
            obtain ⟨y51, e52, hf⟩ := pm_lt hf
            cases hf
            exact (pm_S3.le K50).trans (ih.2.1 x0 x1 x2 y51 v48 hi)
    refine ⟨fun x0 x1 x2 x3 h hf => ?_, ?_⟩
    · obtain ⟨y, hf, hi⟩ := pm_iter_s hf
      have hf : tX10_fillSegments_134 x0 x1 x2 x3 h = some y := hf
      unfold tX10_fillSegments_134 at hf
      have K0 := pm_S3.rf h
      obtain ⟨k53, hf⟩ := pm_if hf
      obtain ⟨v54, e55, hf⟩ := pm_bd hf
      obtain ⟨k56, hf⟩ := pm_if hf
      by_cases c57 : (Int32.ofNat (pm_ln h v54)) ≤ x3
      · have hf := pm_it hf c57
        have hf := Option.some.inj hf
        subst hf
        have hi := Option.some.inj (show some _ = some r from hi)
        subst hi
        exact pm_S3.le K0
      · have hf := pm_ie hf c57
        obtain ⟨y58, e59, hf⟩ := pm_lt hf
        obtain ⟨k60, hf⟩ := pm_if hf
        obtain ⟨v61, e62, hf⟩ := pm_bd hf
        obtain ⟨v63, e64, hf⟩ := pm_bd hf
        by_cases c65 : v63 = 0
        · have hf := pm_it hf c65
          obtain ⟨k66, hf⟩ := pm_if hf
          obtain ⟨v67, e68, hf⟩ := pm_bd hf
          obtain ⟨v69, e70, hf⟩ := pm_bd hf
          obtain ⟨k71, hf⟩ := pm_if hf
          obtain ⟨v72, e73, hf⟩ := pm_bd hf
          have K74 := pm_S3.trans (kpX9_open e73) K0
          obtain ⟨k75, hf⟩ := pm_if hf
          obtain ⟨v76, e77, hf⟩ := pm_bd hf
          have K78 := pm_S3.trans (kpX10_constant e77) K74
          obtain ⟨k79, hf⟩ := pm_if hf
          obtain ⟨v80, e81, hf⟩ := pm_bd hf
          obtain ⟨v82, e83, hf⟩ := pm_bd hf
          obtain ⟨k84, hf⟩ := pm_if hf
          obtain ⟨v85, e86, hf⟩ := pm_bd hf
          cases hf
          exact ((pm_S3.le K78).trans (moX10_perform e86)).trans (ih.2.2.2.2 x0 x1 x2 x3 v85.1 v85.2 hi)
        · have hf := pm_ie hf c65
          obtain ⟨y87, e88, hf⟩ := pm_lt hf
          cases hf
          exact (pm_S3.le K0).trans (ih.2.2.1 x0 x1 x2 y87 h hi)
    refine ⟨fun x0 x1 x2 x3 x5 s0 h hf => ?_, ?_⟩
    · obtain ⟨y, hf, hi⟩ := pm_iter_s hf
      have hf : tX10_fillSegments_98 x0 x1 x2 x3 x5 s0 h = some y := hf
      unfold tX10_fillSegments_98 at hf
      have K0 := pm_S3.rf h
      obtain ⟨k89, hf⟩ := pm_if hf
      by_cases c90 : (pm_I h x0 0) = 0
      · have hf := pm_it hf c90
        by_cases c91 : x5 = 1
        · have hf := pm_it hf c91
          obtain ⟨y92, e93, hf⟩ := pm_lt hf
          cases hf
          exact (pm_S3.le K0).trans (ih.2.1 x0 x1 x2 y92 h hi)
        · have hf := pm_ie hf c91
          obtain ⟨k94, hf⟩ := pm_if hf
          obtain ⟨v95, e96, hf⟩ := pm_bd hf
          obtain ⟨v97, e98, hf⟩ := pm_bd hf
          have K99 := pm_S3.trans (kpX12_setItem e98) K0
          obtain ⟨y100, e101, hf⟩ := pm_lt hf
          cases hf
          exact (pm_S3.le K99).trans (ih.2.1 x0 x1 x2 y100 v97 hi)
      · have hf := pm_ie hf c90
        have hf := Option.some.inj hf
        subst hf
        have hi := Option.some.inj (show some _ = some r from hi)
        subst hi
        exact pm_S3.le K0
    refine fun x0 x1 x2 x3 s0 h hf => ?_
    obtain ⟨y, hf, hi⟩ := pm_iter_s hf
    have hf : tX10_fillSegments_210 x0 x1 x2 x3 s0 h = some y := hf
    unfold tX10_fillSegments_210 at hf
    have K0 := pm_S3.rf h
    obtain ⟨k102, hf⟩ := pm_if hf
    by_cases c103 : (pm_I h x0 0) = 0
    · have hf := pm_it hf c103
      obtain ⟨k104, hf⟩ := pm_if hf
      obtain ⟨v105, e106, hf⟩ := pm_bd hf
      obtain ⟨v107, e108, hf⟩ := pm_bd hf
      have K109 := pm_S3.trans (kpX12_setItem e108) K0
      obtain ⟨y110, e111, hf⟩ := pm_lt hf
      cases hf
      exact (pm_S3.le K109).trans (ih.2.2.1 x0 x1 x2 y110 v107 hi)
    · have hf := pm_ie hf c103
      have hf := Option.some.inj hf
      subst hf
      have hi := Option.some.inj (show some _ = some r from hi)
      subst hi
      exact pm_S3.le K0
set_option maxHeartbeats 4000000 in
set_option maxRecDepth 100000 in
theorem moX10_fillSegments {h : pm_H} {a0 : Nat} {p1 : Nat} {r : (Int32 × pm_H)} (hf : fX10_fillSegments h a0 p1 = some r) : pm_Le h r.2 := by
  unfold fX10_fillSegments at hf
  have K0 := pm_S3.rf h
  obtain ⟨n, hn⟩ := pm_lim_iter hf
  exact (mlX10_fillSegments n).1 a0 p1 h hn
set_option maxHeartbeats 4000000 in
set_option maxRecDepth 100000 in
theorem lpX10_fillSegments {g : pm_Gm} {l : Launch} {G : pm_Gl} {Qr : Option Value → pm_H → Prop} (C : pm_C g cX10_fillSegments RX10) {h0 : pm_H} {r : (Int32 × pm_H)} (X : pm_X g l G mX10_fillSegments (pm_sz r.2 - pm_sz h0) (pm_us r.2 - pm_us h0) Qr) (q : Qr (some (.int r.1)) r.2) : ∀ n : Nat, (∀ (x0 : Nat) (x1 : Nat) (h : pm_H), pm_Le h0 h → pm_iter sX10_fillSegments n (.inl (x0, x1, h)) = some r → pm_G g 0 [(0, .ref x0), (1, .ref x1)] [] h (pm_sz h - pm_sz h0) (pm_us h - pm_us h0)) ∧ (∀ (x0 : Nat) (x1 : Nat) (x2 : Nat) (x3 : Int32) (h : pm_H), pm_Le h0 h → pm_iter sX10_fillSegments n (.inr (.inl (x0, x1, x2, x3, h))) = some r → pm_G g 7 [(0, .ref x0), (1, .ref x1), (2, .ref x2), (3, .int x3)] [] h (pm_sz h - pm_sz h0) (pm_us h - pm_us h0)) ∧ (∀ (x0 : Nat) (x1 : Nat) (x2 : Nat) (x3 : Int32) (h : pm_H), pm_Le h0 h → pm_iter sX10_fillSegments n (.inr (.inr (.inl (x0, x1, x2, x3, h)))) = some r → pm_G g 134 [(0, .ref x0), (1, .ref x1), (2, .ref x2), (3, .int x3)] [] h (pm_sz h - pm_sz h0) (pm_us h - pm_us h0)) ∧ (∀ (x0 : Nat) (x1 : Nat) (x2 : Nat) (x3 : Int32) (x5 : Int32) (s0 : Int64) (h : pm_H), pm_Le h0 h → pm_iter sX10_fillSegments n (.inr (.inr (.inr (.inl (x0, x1, x2, x3, x5, s0, h))))) = some r → pm_G g 98 [(0, .ref x0), (1, .ref x1), (2, .ref x2), (3, .int x3), (5, .int x5)] [.long s0] h (pm_sz h - pm_sz h0) (pm_us h - pm_us h0)) ∧ (∀ (x0 : Nat) (x1 : Nat) (x2 : Nat) (x3 : Int32) (s0 : Int64) (h : pm_H), pm_Le h0 h → pm_iter sX10_fillSegments n (.inr (.inr (.inr (.inr (x0, x1, x2, x3, s0, h))))) = some r → pm_G g 210 [(0, .ref x0), (1, .ref x1), (2, .ref x2), (3, .int x3)] [.long s0] h (pm_sz h - pm_sz h0) (pm_us h - pm_us h0)) := by
  intro n
  induction n with
  | zero => exact ⟨fun _ _ _ _ hf => (by cases hf), fun _ _ _ _ _ _ hf => (by cases hf), fun _ _ _ _ _ _ hf => (by cases hf), fun _ _ _ _ _ _ _ _ hf => (by cases hf), fun _ _ _ _ _ _ _ hf => (by cases hf)⟩
  | succ n ih =>
    refine ⟨fun x0 x1 h m0 hf => ?_, ?_⟩
    · have le0 := (mlX10_fillSegments (n + 1)).1 x0 x1 h hf
      have kc1 := Nat.sub_le_sub_right le0.1 (pm_sz h0)
      have kc2 := Nat.sub_le_sub_right le0.2 (pm_us h0)
      have K0 := pm_S3.rf h
      obtain ⟨y, hf, hi⟩ := pm_iter_s hf
      have hf : tX10_fillSegments_0 x0 x1 h = some y := hf
      unfold tX10_fillSegments_0 at hf
      refine pm_aload_n C dX10_fillSegments_0 rfl rfl ?_
      obtain ⟨k1, hf⟩ := pm_if hf
      obtain ⟨v2, e3, hf⟩ := pm_bd hf
      refine pm_getR C dX10_fillSegments_1 flX10_222 rfl k1 e3 ?_
      refine pm_astore_n (lv' := [(2, .ref v2), (0, .ref x0), (1, .ref x1)]) C dX10_fillSegments_4 rfl (pm_nl X (by decide)) rfl ?_
      refine pm_iconst (v := 0) C dX10_fillSegments_5 (by decide) ?_
      refine pm_istore_n (lv' := [(3, .int 0), (2, .ref v2), (0, .ref x0), (1, .ref x1)]) C dX10_fillSegments_6 rfl (pm_nl X (by decide)) rfl ?_
      cases hf
      exact pa_join K0 (pm_sub [2, 3, 1, 0] rfl (ih.2.1 x0 x1 v2 0 h (m0.trans (pm_S3.le K0)) hi))
    refine ⟨fun x0 x1 x2 x3 h m0 hf => ?_, ?_⟩
    · have le0 := (mlX10_fillSegments (n + 1)).2.1 x0 x1 x2 x3 h hf
      have kc1 := Nat.sub_le_sub_right le0.1 (pm_sz h0)
      have kc2 := Nat.sub_le_sub_right le0.2 (pm_us h0)
      have K0 := pm_S3.rf h
      obtain ⟨y, hf, hi⟩ := pm_iter_s hf
      have hf : tX10_fillSegments_7 x0 x1 x2 x3 h = some y := hf
      unfold tX10_fillSegments_7 at hf
      refine pm_iload_n C dX10_fillSegments_7 rfl rfl ?_
      refine pm_aload_n C dX10_fillSegments_8 rfl rfl ?_
      obtain ⟨k4, hf⟩ := pm_if hf
      obtain ⟨v5, e6, hf⟩ := pm_bd hf
      refine pm_getR C dX10_fillSegments_9 flX10_209 rfl k4 e6 ?_
      obtain ⟨k7, hf⟩ := pm_if hf
      refine pm_alen (t := 4) C dX10_fillSegments_12 (by decide) k7 rfl ?_
      refine pm_icmp_ge (tgt := 132) C dX10_fillSegments_13 (by decide) (fun c8 => ?_) (fun c8 => ?_)
      · have hf := pm_it hf c8
        refine pm_iconst (v := 0) C dX10_fillSegments_132 (by decide) ?_
        refine pm_istore_n (lv' := [(3, .int 0), (0, .ref x0), (1, .ref x1), (2, .ref x2)]) C dX10_fillSegments_133 rfl (pm_nl X (by decide)) rfl ?_
        cases hf
        exact pa_join K0 (pm_sub [1, 2, 3, 0] rfl (ih.2.2.1 x0 x1 x2 0 h (m0.trans (pm_S3.le K0)) hi))
      · have hf := pm_ie hf c8
        refine pm_iload_n C dX10_fillSegments_16 rfl rfl ?_
        refine pm_bipush (v := 7) C dX10_fillSegments_17 (by decide) ?_
        refine pm_imul C dX10_fillSegments_19 ?_
        obtain ⟨y9, e10, hf⟩ := pm_lt hf
        refine pm_topI e10 ?_
        refine pm_istore (lv' := [(4, .int y9), (0, .ref x0), (1, .ref x1), (2, .ref x2), (3, .int x3)]) C dX10_fillSegments_20 (pm_nl X (by decide)) rfl ?_
        refine pm_aload_n C dX10_fillSegments_22 rfl rfl ?_
        obtain ⟨k11, hf⟩ := pm_if hf
        obtain ⟨v12, e13, hf⟩ := pm_bd hf
        refine pm_getR C dX10_fillSegments_23 flX10_154 rfl k11 e13 ?_
        refine pm_iload C dX10_fillSegments_26 rfl ?_
        refine pm_iconst (v := 0) C dX10_fillSegments_28 (by decide) ?_
        refine pm_iadd C dX10_fillSegments_29 ?_
        obtain ⟨v14, e15, hf⟩ := pm_bd hf
        refine pm_callS (as := [.ref v12, .int (y9 + 0)]) (st := []) C X dX10_fillSegments_30 lnX10_104 myX12_item stX12_item ⟨by decide, by decide⟩ rfl rfl (Nat.le_of_ble_eq_true rfl) kc1 kc2 (ctX12_item e15 ?_)
        show pm_G g 33 [(4, .int y9), (0, .ref x0), (1, .ref x1), (2, .ref x2), (3, .int x3)] [.int v14] h (pm_sz h - pm_sz h0) (pm_us h - pm_us h0)
        refine pm_istore (lv' := [(5, .int v14), (4, .int y9), (0, .ref x0), (1, .ref x1), (2, .ref x2), (3, .int x3)]) C dX10_fillSegments_33 (pm_nl X (by decide)) rfl ?_
        refine pm_iload C dX10_fillSegments_35 rfl ?_
        refine pm_if_ne (tgt := 111) C dX10_fillSegments_37 (by decide) (fun c16 => ?_) (fun c16 => ?_)
        · have hf := pm_ie hf c16
          refine pm_iload C dX10_fillSegments_111 rfl ?_
          refine pm_iconst (v := 1) C dX10_fillSegments_113 (by decide) ?_
          refine pm_icmp_eq (tgt := 126) C dX10_fillSegments_114 (by decide) (fun c17 => ?_) (fun c17 => ?_)
          · have hf := pm_it hf c17
            obtain ⟨y18, e19, hf⟩ := pm_lt hf
            refine pm_iinc (v := y18) (lv' := [(3, .int y18), (5, .int v14), (4, .int y9), (0, .ref x0), (1, .ref x1), (2, .ref x2)]) C dX10_fillSegments_126 rfl ((congrArg (x3 + ·) (by decide : Int32.ofInt 1 = 1)).trans e19) (pm_nl X (by decide)) rfl ?_
            refine pm_goto (tgt := 7) C dX10_fillSegments_129 (by decide) ?_
            cases hf
            exact pa_join K0 (pm_sub [3, 4, 5, 0] rfl (ih.2.1 x0 x1 x2 y18 h (m0.trans (pm_S3.le K0)) hi))
          · have hf := pm_ie hf c17
            refine pm_aload_n C dX10_fillSegments_117 rfl rfl ?_
            obtain ⟨v20, e21, hf⟩ := pm_bd hf
            refine pm_getR C dX10_fillSegments_118 flX10_244 rfl k4 e21 ?_
            refine pm_iload_n C dX10_fillSegments_121 rfl rfl ?_
            refine pm_iconst (v := 0) C dX10_fillSegments_122 (by decide) ?_
            obtain ⟨v22, e23, hf⟩ := pm_bd hf
            refine pm_callS (as := [.ref v20, .int x3, .int 0]) (st := []) C X dX10_fillSegments_123 lnX10_184 myX12_setItem stX12_setItem ⟨by decide, by decide⟩ rfl rfl (Nat.le_of_ble_eq_true rfl) kc1 kc2 (ctX12_setItem e23 ?_)
            have K24 := pm_S3.trans (kpX12_setItem e23) K0
            show pm_G g 126 [(5, .int v14), (4, .int y9), (0, .ref x0), (1, .ref x1), (2, .ref x2), (3, .int x3)] [] v22 (pm_sz h - pm_sz h0) (pm_us h - pm_us h0)
            obtain ⟨y25, e26, hf⟩ := pm_lt hf
            refine pm_iinc (v := y25) (lv' := [(3, .int y25), (5, .int v14), (4, .int y9), (0, .ref x0), (1, .ref x1), (2, .ref x2)]) C dX10_fillSegments_126 rfl ((congrArg (x3 + ·) (by decide : Int32.ofInt 1 = 1)).trans e26) (pm_nl X (by decide)) rfl ?_
            refine pm_goto (tgt := 7) C dX10_fillSegments_129 (by decide) ?_
            cases hf
            exact pa_join K24 (pm_sub [3, 4, 5, 0] rfl (ih.2.1 x0 x1 x2 y25 v22 (m0.trans (pm_S3.le K24)) hi))
        · have hf := pm_it hf c16
          refine pm_aload_n C dX10_fillSegments_40 rfl rfl ?_
          obtain ⟨k27, hf⟩ := pm_if hf
          obtain ⟨v28, e29, hf⟩ := pm_bd hf
          refine pm_getR C dX10_fillSegments_41 flX10_72 rfl k27 e29 ?_
          refine pm_aload_n C dX10_fillSegments_44 rfl rfl ?_
          refine pm_aload_n C dX10_fillSegments_45 rfl rfl ?_
          refine pm_getR C dX10_fillSegments_46 flX10_154 rfl k11 e13 ?_
          refine pm_iload C dX10_fillSegments_49 rfl ?_
          refine pm_iconst (v := 2) C dX10_fillSegments_51 (by decide) ?_
          refine pm_iadd C dX10_fillSegments_52 ?_
          obtain ⟨v30, e31, hf⟩ := pm_bd hf
          refine pm_callS (as := [.ref v12, .int (y9 + 2)]) (st := [.ref x2, .ref v28]) C X dX10_fillSegments_53 lnX10_104 myX12_item stX12_item ⟨by decide, by decide⟩ rfl rfl (Nat.le_of_ble_eq_true rfl) kc1 kc2 (ctX12_item e31 ?_)
          show pm_G g 56 [(5, .int v14), (4, .int y9), (0, .ref x0), (1, .ref x1), (2, .ref x2), (3, .int x3)] [.int v30, .ref x2, .ref v28] h (pm_sz h - pm_sz h0) (pm_us h - pm_us h0)
          obtain ⟨k32, hf⟩ := pm_if hf
          obtain ⟨v33, e34, hf⟩ := pm_bd hf
          refine pm_callV (as := [.ref x2, .int v30]) (st := []) C X dX10_fillSegments_56 lnX10_226 myX9_open viX9_open ⟨by decide, by decide⟩ rfl rfl k32 (Nat.le_of_ble_eq_true rfl) kc1 kc2 (ctX9_open e34 ?_)
          have K35 := pm_S3.trans (kpX9_open e34) K0
          show pm_G g 59 [(5, .int v14), (4, .int y9), (0, .ref x0), (1, .ref x1), (2, .ref x2), (3, .int x3)] [] v33 (pm_sz h - pm_sz h0) (pm_us h - pm_us h0)
          refine pm_aload_n C dX10_fillSegments_59 rfl rfl ?_
          obtain ⟨k36, hf⟩ := pm_if hf
          obtain ⟨v37, e38, hf⟩ := pm_bd hf
          refine pm_getR C dX10_fillSegments_60 flX10_154 rfl k36 e38 ?_
          refine pm_iload C dX10_fillSegments_63 rfl ?_
          refine pm_iconst (v := 1) C dX10_fillSegments_65 (by decide) ?_
          refine pm_iadd C dX10_fillSegments_66 ?_
          obtain ⟨v39, e40, hf⟩ := pm_bd hf
          refine pm_callS (as := [.ref v37, .int (y9 + 1)]) (st := []) C X dX10_fillSegments_67 lnX10_104 myX12_item stX12_item ⟨by decide, by decide⟩ rfl rfl (Nat.le_of_ble_eq_true rfl) kc1 kc2 (ctX12_item e40 ?_)
          show pm_G g 70 [(5, .int v14), (4, .int y9), (0, .ref x0), (1, .ref x1), (2, .ref x2), (3, .int x3)] [.int v39] v33 (pm_sz h - pm_sz h0) (pm_us h - pm_us h0)
          refine pm_istore (lv' := [(6, .int v39), (5, .int v14), (4, .int y9), (0, .ref x0), (1, .ref x1), (2, .ref x2), (3, .int x3)]) C dX10_fillSegments_70 (pm_nl X (by decide)) rfl ?_
          refine pm_aload_n C dX10_fillSegments_72 rfl rfl ?_
          refine pm_aload_n C dX10_fillSegments_73 rfl rfl ?_
          refine pm_sipush (v := 312) C dX10_fillSegments_74 (by decide) ?_
          refine pm_iload_n C dX10_fillSegments_77 rfl rfl ?_
          refine pm_iload C dX10_fillSegments_78 rfl ?_
          refine pm_aload_n C dX10_fillSegments_80 rfl rfl ?_
          refine pm_aload_n C dX10_fillSegments_81 rfl rfl ?_
          obtain ⟨k41, hf⟩ := pm_if hf
          obtain ⟨v42, e43, hf⟩ := pm_bd hf
          refine pm_callV (as := [.ref x1]) (st := [.int v39, .int x3, .int 312, .ref x1, .ref x0]) C X dX10_fillSegments_82 lnX10_232 myX10_constant viX10_constant ⟨by decide, by decide⟩ rfl rfl k41 (Nat.le_of_ble_eq_true rfl) kc1 kc2 (ctX10_constant e43 ?_)
          have K44 := pm_S3.trans (kpX10_constant e43) K35
          show pm_G g 85 [(6, .int v39), (5, .int v14), (4, .int y9), (0, .ref x0), (1, .ref x1), (2, .ref x2), (3, .int x3)] [.long v42.1, .int v39, .int x3, .int 312, .ref x1, .ref x0] v42.2 (pm_sz h - pm_sz h0) (pm_us h - pm_us h0)
          refine pm_lconst (v := 0) C dX10_fillSegments_85 (by decide) ?_
          refine pm_aload_n C dX10_fillSegments_86 rfl rfl ?_
          obtain ⟨k45, hf⟩ := pm_if hf
          obtain ⟨v46, e47, hf⟩ := pm_bd hf
          refine pm_getR C dX10_fillSegments_87 flX10_244 rfl k45 e47 ?_
          refine pm_iload_n C dX10_fillSegments_90 rfl rfl ?_
          obtain ⟨v48, e49, hf⟩ := pm_bd hf
          refine pm_callS9 (as := [.ref v46, .int x3]) (st := [.long 0, .long v42.1, .int v39, .int x3, .int 312, .ref x1, .ref x0]) C X dX10_fillSegments_91 ⟨_, pm_tin6 _ (List.mem_of_getElem? (i := 187) rfl)⟩ myX12_item stX12_item ⟨by decide, by decide⟩ rfl rfl (Nat.le_of_ble_eq_true rfl) kc1 kc2 (ctX12_item e49 ?_)
          show pm_G g 94 [(6, .int v39), (5, .int v14), (4, .int y9), (0, .ref x0), (1, .ref x1), (2, .ref x2), (3, .int x3)] [.int v48, .long 0, .long v42.1, .int v39, .int x3, .int 312, .ref x1, .ref x0] v42.2 (pm_sz h - pm_sz h0) (pm_us h - pm_us h0)
          refine pm_i2l C dX10_fillSegments_94 ?_
          obtain ⟨k50, hf⟩ := pm_if hf
          obtain ⟨v51, e52, hf⟩ := pm_bd hf
          cases hf
          refine pm_callV (as := [.ref x1, .int 312, .int x3, .int v39, .long v42.1, .long 0, .long v48.toInt64]) (st := []) C X dX10_fillSegments_95 lnX10_259 myX10_perform viX10_perform ⟨by decide, by decide⟩ rfl rfl k50 (Nat.le_of_ble_eq_true rfl) (pa_le1 K44 m0 (moX10_perform e52) ((mlX10_fillSegments n).2.2.2.1 x0 x1 x2 x3 v14 v51.1 v51.2 hi)) (pa_le2 K44 m0 (moX10_perform e52) ((mlX10_fillSegments n).2.2.2.1 x0 x1 x2 x3 v14 v51.1 v51.2 hi)) (ctX10_perform e52 ?_)
          show pm_G g 98 [(6, .int v39), (5, .int v14), (4, .int y9), (0, .ref x0), (1, .ref x1), (2, .ref x2), (3, .int x3)] [.long v51.1] v51.2 (pm_sz h - pm_sz h0 + (pm_sz v51.2 - pm_sz v42.2)) (pm_us h - pm_us h0 + (pm_us v51.2 - pm_us v42.2))
          refine pa_fin K44 m0 (moX10_perform e52) ?_
          exact pm_sub [3, 4, 5, 6, 1] rfl (ih.2.2.2.1 x0 x1 x2 x3 v14 v51.1 v51.2 ((m0.trans (pm_S3.le K44)).trans (moX10_perform e52)) hi)
    refine ⟨fun x0 x1 x2 x3 h m0 hf => ?_, ?_⟩
    · have le0 := (mlX10_fillSegments (n + 1)).2.2.1 x0 x1 x2 x3 h hf
      have kc1 := Nat.sub_le_sub_right le0.1 (pm_sz h0)
      have kc2 := Nat.sub_le_sub_right le0.2 (pm_us h0)
      have K0 := pm_S3.rf h
      obtain ⟨y, hf, hi⟩ := pm_iter_s hf
      have hf : tX10_fillSegments_134 x0 x1 x2 x3 h = some y := hf
      unfold tX10_fillSegments_134 at hf
      refine pm_iload_n C dX10_fillSegments_134 rfl rfl ?_
      refine pm_aload_n C dX10_fillSegments_135 rfl rfl ?_
      obtain ⟨k53, hf⟩ := pm_if hf
      obtain ⟨v54, e55, hf⟩ := pm_bd hf
      refine pm_getR C dX10_fillSegments_136 flX10_216 rfl k53 e55 ?_
      obtain ⟨k56, hf⟩ := pm_if hf
      refine pm_alen (t := 2) C dX10_fillSegments_139 (by decide) k56 rfl ?_
      refine pm_icmp_ge (tgt := 238) C dX10_fillSegments_140 (by decide) (fun c57 => ?_) (fun c57 => ?_)
      · have hf := pm_it hf c57
        refine pm_iconst (v := 0) C dX10_fillSegments_238 (by decide) ?_
        have hf := Option.some.inj hf
        subst hf
        have hi := Option.some.inj (show some _ = some r from hi)
        subst hi
        exact pm_iret C X dX10_fillSegments_239 rfl kc1 kc2 q
      · have hf := pm_ie hf c57
        refine pm_iload_n C dX10_fillSegments_143 rfl rfl ?_
        refine pm_bipush (v := 7) C dX10_fillSegments_144 (by decide) ?_
        refine pm_imul C dX10_fillSegments_146 ?_
        obtain ⟨y58, e59, hf⟩ := pm_lt hf
        refine pm_topI e59 ?_
        refine pm_istore (lv' := [(4, .int y58), (0, .ref x0), (1, .ref x1), (2, .ref x2), (3, .int x3)]) C dX10_fillSegments_147 (pm_nl X (by decide)) rfl ?_
        refine pm_aload_n C dX10_fillSegments_149 rfl rfl ?_
        obtain ⟨k60, hf⟩ := pm_if hf
        obtain ⟨v61, e62, hf⟩ := pm_bd hf
        refine pm_getR C dX10_fillSegments_150 flX10_219 rfl k60 e62 ?_
        refine pm_iload C dX10_fillSegments_153 rfl ?_
        refine pm_iconst (v := 0) C dX10_fillSegments_155 (by decide) ?_
        refine pm_iadd C dX10_fillSegments_156 ?_
        obtain ⟨v63, e64, hf⟩ := pm_bd hf
        refine pm_callS (as := [.ref v61, .int (y58 + 0)]) (st := []) C X dX10_fillSegments_157 lnX10_104 myX12_item stX12_item ⟨by decide, by decide⟩ rfl rfl (Nat.le_of_ble_eq_true rfl) kc1 kc2 (ctX12_item e64 ?_)
        show pm_G g 160 [(4, .int y58), (0, .ref x0), (1, .ref x1), (2, .ref x2), (3, .int x3)] [.int v63] h (pm_sz h - pm_sz h0) (pm_us h - pm_us h0)
        refine pm_if_eq (tgt := 166) C dX10_fillSegments_160 (by decide) (fun c65 => ?_) (fun c65 => ?_)
        · have hf := pm_it hf c65
          refine pm_aload_n C dX10_fillSegments_166 rfl rfl ?_
          obtain ⟨k66, hf⟩ := pm_if hf
          obtain ⟨v67, e68, hf⟩ := pm_bd hf
          refine pm_getR C dX10_fillSegments_167 flX10_72 rfl k66 e68 ?_
          refine pm_aload_n C dX10_fillSegments_170 rfl rfl ?_
          refine pm_aload_n C dX10_fillSegments_171 rfl rfl ?_
          refine pm_getR C dX10_fillSegments_172 flX10_219 rfl k60 e62 ?_
          refine pm_iload C dX10_fillSegments_175 rfl ?_
          refine pm_iconst (v := 2) C dX10_fillSegments_177 (by decide) ?_
          refine pm_iadd C dX10_fillSegments_178 ?_
          obtain ⟨v69, e70, hf⟩ := pm_bd hf
          refine pm_callS (as := [.ref v61, .int (y58 + 2)]) (st := [.ref x2, .ref v67]) C X dX10_fillSegments_179 lnX10_104 myX12_item stX12_item ⟨by decide, by decide⟩ rfl rfl (Nat.le_of_ble_eq_true rfl) kc1 kc2 (ctX12_item e70 ?_)
          show pm_G g 182 [(4, .int y58), (0, .ref x0), (1, .ref x1), (2, .ref x2), (3, .int x3)] [.int v69, .ref x2, .ref v67] h (pm_sz h - pm_sz h0) (pm_us h - pm_us h0)
          obtain ⟨k71, hf⟩ := pm_if hf
          obtain ⟨v72, e73, hf⟩ := pm_bd hf
          refine pm_callV (as := [.ref x2, .int v69]) (st := []) C X dX10_fillSegments_182 lnX10_226 myX9_open viX9_open ⟨by decide, by decide⟩ rfl rfl k71 (Nat.le_of_ble_eq_true rfl) kc1 kc2 (ctX9_open e73 ?_)
          have K74 := pm_S3.trans (kpX9_open e73) K0
          show pm_G g 185 [(4, .int y58), (0, .ref x0), (1, .ref x1), (2, .ref x2), (3, .int x3)] [] v72 (pm_sz h - pm_sz h0) (pm_us h - pm_us h0)
          refine pm_aload_n C dX10_fillSegments_185 rfl rfl ?_
          refine pm_aload_n C dX10_fillSegments_186 rfl rfl ?_
          refine pm_sipush (v := 308) C dX10_fillSegments_187 (by decide) ?_
          refine pm_iload_n C dX10_fillSegments_190 rfl rfl ?_
          refine pm_iconst (v := 0) C dX10_fillSegments_191 (by decide) ?_
          refine pm_aload_n C dX10_fillSegments_192 rfl rfl ?_
          refine pm_aload_n C dX10_fillSegments_193 rfl rfl ?_
          obtain ⟨k75, hf⟩ := pm_if hf
          obtain ⟨v76, e77, hf⟩ := pm_bd hf
          refine pm_callV (as := [.ref x1]) (st := [.int 0, .int x3, .int 308, .ref x1, .ref x0]) C X dX10_fillSegments_194 lnX10_232 myX10_constant viX10_constant ⟨by decide, by decide⟩ rfl rfl k75 (Nat.le_of_ble_eq_true rfl) kc1 kc2 (ctX10_constant e77 ?_)
          have K78 := pm_S3.trans (kpX10_constant e77) K74
          show pm_G g 197 [(4, .int y58), (0, .ref x0), (1, .ref x1), (2, .ref x2), (3, .int x3)] [.long v76.1, .int 0, .int x3, .int 308, .ref x1, .ref x0] v76.2 (pm_sz h - pm_sz h0) (pm_us h - pm_us h0)
          refine pm_lconst (v := 0) C dX10_fillSegments_197 (by decide) ?_
          refine pm_aload_n C dX10_fillSegments_198 rfl rfl ?_
          obtain ⟨k79, hf⟩ := pm_if hf
          obtain ⟨v80, e81, hf⟩ := pm_bd hf
          refine pm_getR C dX10_fillSegments_199 flX10_216 rfl k79 e81 ?_
          refine pm_iload_n C dX10_fillSegments_202 rfl rfl ?_
          obtain ⟨v82, e83, hf⟩ := pm_bd hf
          refine pm_callS9 (as := [.ref v80, .int x3]) (st := [.long 0, .long v76.1, .int 0, .int x3, .int 308, .ref x1, .ref x0]) C X dX10_fillSegments_203 ⟨_, pm_tin6 _ (List.mem_of_getElem? (i := 187) rfl)⟩ myX12_item stX12_item ⟨by decide, by decide⟩ rfl rfl (Nat.le_of_ble_eq_true rfl) kc1 kc2 (ctX12_item e83 ?_)
          show pm_G g 206 [(4, .int y58), (0, .ref x0), (1, .ref x1), (2, .ref x2), (3, .int x3)] [.int v82, .long 0, .long v76.1, .int 0, .int x3, .int 308, .ref x1, .ref x0] v76.2 (pm_sz h - pm_sz h0) (pm_us h - pm_us h0)
          refine pm_i2l C dX10_fillSegments_206 ?_
          obtain ⟨k84, hf⟩ := pm_if hf
          obtain ⟨v85, e86, hf⟩ := pm_bd hf
          cases hf
          refine pm_callV (as := [.ref x1, .int 308, .int x3, .int 0, .long v76.1, .long 0, .long v82.toInt64]) (st := []) C X dX10_fillSegments_207 lnX10_259 myX10_perform viX10_perform ⟨by decide, by decide⟩ rfl rfl k84 (Nat.le_of_ble_eq_true rfl) (pa_le1 K78 m0 (moX10_perform e86) ((mlX10_fillSegments n).2.2.2.2 x0 x1 x2 x3 v85.1 v85.2 hi)) (pa_le2 K78 m0 (moX10_perform e86) ((mlX10_fillSegments n).2.2.2.2 x0 x1 x2 x3 v85.1 v85.2 hi)) (ctX10_perform e86 ?_)
          show pm_G g 210 [(4, .int y58), (0, .ref x0), (1, .ref x1), (2, .ref x2), (3, .int x3)] [.long v85.1] v85.2 (pm_sz h - pm_sz h0 + (pm_sz v85.2 - pm_sz v76.2)) (pm_us h - pm_us h0 + (pm_us v85.2 - pm_us v76.2))
          refine pa_fin K78 m0 (moX10_perform e86) ?_
          exact pm_sub [1, 2, 3, 4] rfl (ih.2.2.2.2 x0 x1 x2 x3 v85.1 v85.2 ((m0.trans (pm_S3.le K78)).trans (moX10_perform e86)) hi)
        · have hf := pm_ie hf c65
          refine pm_goto (tgt := 232) C dX10_fillSegments_163 (by decide) ?_
          obtain ⟨y87, e88, hf⟩ := pm_lt hf
          refine pm_iinc (v := y87) (lv' := [(3, .int y87), (4, .int y58), (0, .ref x0), (1, .ref x1), (2, .ref x2)]) C dX10_fillSegments_232 rfl ((congrArg (x3 + ·) (by decide : Int32.ofInt 1 = 1)).trans e88) (pm_nl X (by decide)) rfl ?_
          refine pm_goto (tgt := 134) C dX10_fillSegments_235 (by decide) ?_
          cases hf
          exact pa_join K0 (pm_sub [2, 3, 4, 0] rfl (ih.2.2.1 x0 x1 x2 y87 h (m0.trans (pm_S3.le K0)) hi))
    refine ⟨fun x0 x1 x2 x3 x5 s0 h m0 hf => ?_, ?_⟩
    · have le0 := (mlX10_fillSegments (n + 1)).2.2.2.1 x0 x1 x2 x3 x5 s0 h hf
      have kc1 := Nat.sub_le_sub_right le0.1 (pm_sz h0)
      have kc2 := Nat.sub_le_sub_right le0.2 (pm_us h0)
      have K0 := pm_S3.rf h
      obtain ⟨y, hf, hi⟩ := pm_iter_s hf
      have hf : tX10_fillSegments_98 x0 x1 x2 x3 x5 s0 h = some y := hf
      unfold tX10_fillSegments_98 at hf
      refine pm_pop2_2 C dX10_fillSegments_98 rfl ?_
      refine pm_aload_n C dX10_fillSegments_99 rfl rfl ?_
      obtain ⟨k89, hf⟩ := pm_if hf
      refine pm_getI C dX10_fillSegments_100 flX10_263 rfl k89 rfl ?_
      refine pm_if_eq (tgt := 111) C dX10_fillSegments_103 (by decide) (fun c90 => ?_) (fun c90 => ?_)
      · have hf := pm_it hf c90
        refine pm_iload C dX10_fillSegments_111 rfl ?_
        refine pm_iconst (v := 1) C dX10_fillSegments_113 (by decide) ?_
        refine pm_icmp_eq (tgt := 126) C dX10_fillSegments_114 (by decide) (fun c91 => ?_) (fun c91 => ?_)
        · have hf := pm_it hf c91
          obtain ⟨y92, e93, hf⟩ := pm_lt hf
          refine pm_iinc (v := y92) (lv' := [(3, .int y92), (0, .ref x0), (1, .ref x1), (2, .ref x2), (5, .int x5)]) C dX10_fillSegments_126 rfl ((congrArg (x3 + ·) (by decide : Int32.ofInt 1 = 1)).trans e93) (pm_nl X (by decide)) rfl ?_
          refine pm_goto (tgt := 7) C dX10_fillSegments_129 (by decide) ?_
          cases hf
          exact pa_join K0 (pm_sub [1, 2, 3, 0] rfl (ih.2.1 x0 x1 x2 y92 h (m0.trans (pm_S3.le K0)) hi))
        · have hf := pm_ie hf c91
          refine pm_aload_n C dX10_fillSegments_117 rfl rfl ?_
          obtain ⟨k94, hf⟩ := pm_if hf
          obtain ⟨v95, e96, hf⟩ := pm_bd hf
          refine pm_getR C dX10_fillSegments_118 flX10_244 rfl k94 e96 ?_
          refine pm_iload_n C dX10_fillSegments_121 rfl rfl ?_
          refine pm_iconst (v := 0) C dX10_fillSegments_122 (by decide) ?_
          obtain ⟨v97, e98, hf⟩ := pm_bd hf
          refine pm_callS (as := [.ref v95, .int x3, .int 0]) (st := []) C X dX10_fillSegments_123 lnX10_184 myX12_setItem stX12_setItem ⟨by decide, by decide⟩ rfl rfl (Nat.le_of_ble_eq_true rfl) kc1 kc2 (ctX12_setItem e98 ?_)
          have K99 := pm_S3.trans (kpX12_setItem e98) K0
          show pm_G g 126 [(0, .ref x0), (1, .ref x1), (2, .ref x2), (3, .int x3), (5, .int x5)] [] v97 (pm_sz h - pm_sz h0) (pm_us h - pm_us h0)
          obtain ⟨y100, e101, hf⟩ := pm_lt hf
          refine pm_iinc (v := y100) (lv' := [(3, .int y100), (0, .ref x0), (1, .ref x1), (2, .ref x2), (5, .int x5)]) C dX10_fillSegments_126 rfl ((congrArg (x3 + ·) (by decide : Int32.ofInt 1 = 1)).trans e101) (pm_nl X (by decide)) rfl ?_
          refine pm_goto (tgt := 7) C dX10_fillSegments_129 (by decide) ?_
          cases hf
          exact pa_join K99 (pm_sub [1, 2, 3, 0] rfl (ih.2.1 x0 x1 x2 y100 v97 (m0.trans (pm_S3.le K99)) hi))
      · have hf := pm_ie hf c90
        refine pm_aload_n C dX10_fillSegments_106 rfl rfl ?_
        refine pm_getI C dX10_fillSegments_107 flX10_263 rfl k89 rfl ?_
        have hf := Option.some.inj hf
        subst hf
        have hi := Option.some.inj (show some _ = some r from hi)
        subst hi
        exact pm_iret C X dX10_fillSegments_110 rfl kc1 kc2 q
    refine fun x0 x1 x2 x3 s0 h m0 hf => ?_
    have le0 := (mlX10_fillSegments (n + 1)).2.2.2.2 x0 x1 x2 x3 s0 h hf
    have kc1 := Nat.sub_le_sub_right le0.1 (pm_sz h0)
    have kc2 := Nat.sub_le_sub_right le0.2 (pm_us h0)
    have K0 := pm_S3.rf h
    obtain ⟨y, hf, hi⟩ := pm_iter_s hf
    have hf : tX10_fillSegments_210 x0 x1 x2 x3 s0 h = some y := hf
    unfold tX10_fillSegments_210 at hf
    refine pm_pop2_2 C dX10_fillSegments_210 rfl ?_
    refine pm_aload_n C dX10_fillSegments_211 rfl rfl ?_
    obtain ⟨k102, hf⟩ := pm_if hf
    refine pm_getI C dX10_fillSegments_212 flX10_263 rfl k102 rfl ?_
    refine pm_if_eq (tgt := 223) C dX10_fillSegments_215 (by decide) (fun c103 => ?_) (fun c103 => ?_)
    · have hf := pm_it hf c103
      refine pm_aload_n C dX10_fillSegments_223 rfl rfl ?_
      obtain ⟨k104, hf⟩ := pm_if hf
      obtain ⟨v105, e106, hf⟩ := pm_bd hf
      refine pm_getR C dX10_fillSegments_224 flX10_216 rfl k104 e106 ?_
      refine pm_iload_n C dX10_fillSegments_227 rfl rfl ?_
      refine pm_iconst (v := 0) C dX10_fillSegments_228 (by decide) ?_
      obtain ⟨v107, e108, hf⟩ := pm_bd hf
      refine pm_callS (as := [.ref v105, .int x3, .int 0]) (st := []) C X dX10_fillSegments_229 lnX10_184 myX12_setItem stX12_setItem ⟨by decide, by decide⟩ rfl rfl (Nat.le_of_ble_eq_true rfl) kc1 kc2 (ctX12_setItem e108 ?_)
      have K109 := pm_S3.trans (kpX12_setItem e108) K0
      show pm_G g 232 [(0, .ref x0), (1, .ref x1), (2, .ref x2), (3, .int x3)] [] v107 (pm_sz h - pm_sz h0) (pm_us h - pm_us h0)
      obtain ⟨y110, e111, hf⟩ := pm_lt hf
      refine pm_iinc (v := y110) (lv' := [(3, .int y110), (0, .ref x0), (1, .ref x1), (2, .ref x2)]) C dX10_fillSegments_232 rfl ((congrArg (x3 + ·) (by decide : Int32.ofInt 1 = 1)).trans e111) (pm_nl X (by decide)) rfl ?_
      refine pm_goto (tgt := 134) C dX10_fillSegments_235 (by decide) ?_
      cases hf
      exact pa_join K109 (pm_sub [1, 2, 3, 0] rfl (ih.2.2.1 x0 x1 x2 y110 v107 (m0.trans (pm_S3.le K109)) hi))
    · have hf := pm_ie hf c103
      refine pm_aload_n C dX10_fillSegments_218 rfl rfl ?_
      refine pm_getI C dX10_fillSegments_219 flX10_263 rfl k102 rfl ?_
      have hf := Option.some.inj hf
      subst hf
      have hi := Option.some.inj (show some _ = some r from hi)
      subst hi
      exact pm_iret C X dX10_fillSegments_222 rfl kc1 kc2 q
set_option maxHeartbeats 4000000 in
set_option maxRecDepth 100000 in
theorem ctX10_fillSegments {l : Launch} {G : pm_Gl} {h : pm_H} {a0 : Nat} {p1 : Nat} {r : (Int32 × pm_H)} {Qr : Option Value → pm_H → Prop} (hf : fX10_fillSegments h a0 p1 = some r) (q : Qr (some (.int r.1)) r.2) : pm_Ct l G mX10_fillSegments [.ref a0, .ref p1] h (pm_sz r.2 - pm_sz h) (pm_us r.2 - pm_us h) Qr := by
  refine pm_body pnX10 (Nat.le_of_ble_eq_true rfl) (fun g C X => ?_)
  have C : pm_C g cX10_fillSegments RX10 := C
  show pm_G g 0 [(0, .ref a0), (1, .ref p1)] [] h 0 0
  unfold fX10_fillSegments at hf
  obtain ⟨n, hn⟩ := pm_lim_iter hf
  exact pa_start (pm_sub [0, 1] rfl ((lpX10_fillSegments C X q n).1 a0 p1 h (pm_Le.rf h) hn))
