theorem dX16_readsDatas_0 : decode cX16_readsDatas 0 = .ok (.aload_n 0, 1) := by decide +kernel
theorem dX16_readsDatas_1 : decode cX16_readsDatas 1 = .ok (.invokevirtual 277, 3) := by decide +kernel
theorem dX16_readsDatas_4 : decode cX16_readsDatas 4 = .ok (.lstore_n 1, 1) := by decide +kernel
theorem dX16_readsDatas_5 : decode cX16_readsDatas 5 = .ok (.aload_n 0, 1) := by decide +kernel
theorem dX16_readsDatas_6 : decode cX16_readsDatas 6 = .ok (.getfield 221, 3) := by decide +kernel
theorem dX16_readsDatas_9 : decode cX16_readsDatas 9 = .ok (.lload_n 1, 1) := by decide +kernel
theorem dX16_readsDatas_10 : decode cX16_readsDatas 10 = .ok (.putfield 321, 3) := by decide +kernel
theorem dX16_readsDatas_13 : decode cX16_readsDatas 13 = .ok (.aload_n 0, 1) := by decide +kernel
theorem dX16_readsDatas_14 : decode cX16_readsDatas 14 = .ok (.getfield 221, 3) := by decide +kernel
theorem dX16_readsDatas_17 : decode cX16_readsDatas 17 = .ok (.aload_n 0, 1) := by decide +kernel
theorem dX16_readsDatas_18 : decode cX16_readsDatas 18 = .ok (.lload_n 1, 1) := by decide +kernel
theorem dX16_readsDatas_19 : decode cX16_readsDatas 19 = .ok (.invokevirtual 377, 3) := by decide +kernel
theorem dX16_readsDatas_22 : decode cX16_readsDatas 22 = .ok (.putfield 529, 3) := by decide +kernel
theorem dX16_readsDatas_25 : decode cX16_readsDatas 25 = .ok (.lconst 0, 1) := by decide +kernel
theorem dX16_readsDatas_26 : decode cX16_readsDatas 26 = .ok (.lstore_n 3, 1) := by decide +kernel
theorem dX16_readsDatas_27 : decode cX16_readsDatas 27 = .ok (.lload_n 3, 1) := by decide +kernel
theorem dX16_readsDatas_28 : decode cX16_readsDatas 28 = .ok (.lload_n 1, 1) := by decide +kernel
theorem dX16_readsDatas_29 : decode cX16_readsDatas 29 = .ok (.lcmp, 1) := by decide +kernel
theorem dX16_readsDatas_30 : decode cX16_readsDatas 30 = .ok (.ifCond .ge 190, 3) := by decide +kernel
theorem dX16_readsDatas_33 : decode cX16_readsDatas 33 = .ok (.aload_n 0, 1) := by decide +kernel
theorem dX16_readsDatas_34 : decode cX16_readsDatas 34 = .ok (.getfield 251, 3) := by decide +kernel
theorem dX16_readsDatas_37 : decode cX16_readsDatas 37 = .ok (.istore 5, 2) := by decide +kernel
theorem dX16_readsDatas_39 : decode cX16_readsDatas 39 = .ok (.aload_n 0, 1) := by decide +kernel
theorem dX16_readsDatas_40 : decode cX16_readsDatas 40 = .ok (.invokevirtual 277, 3) := by decide +kernel
theorem dX16_readsDatas_43 : decode cX16_readsDatas 43 = .ok (.lstore 6, 2) := by decide +kernel
theorem dX16_readsDatas_45 : decode cX16_readsDatas 45 = .ok (.lload 6, 2) := by decide +kernel
theorem dX16_readsDatas_47 : decode cX16_readsDatas 47 = .ok (.ldc2_w 532, 3) := by decide +kernel
theorem dX16_readsDatas_50 : decode cX16_readsDatas 50 = .ok (.lcmp, 1) := by decide +kernel
theorem dX16_readsDatas_51 : decode cX16_readsDatas 51 = .ok (.ifCond .le 11, 3) := by decide +kernel
theorem dX16_readsDatas_54 : decode cX16_readsDatas 54 = .ok (.aload_n 0, 1) := by decide +kernel
theorem dX16_readsDatas_55 : decode cX16_readsDatas 55 = .ok (.bipush 7, 2) := by decide +kernel
theorem dX16_readsDatas_57 : decode cX16_readsDatas 57 = .ok (.iload 5, 2) := by decide +kernel
theorem dX16_readsDatas_59 : decode cX16_readsDatas 59 = .ok (.invokevirtual 257, 3) := by decide +kernel
theorem dX16_readsDatas_62 : decode cX16_readsDatas 62 = .ok (.lload_n 3, 1) := by decide +kernel
theorem dX16_readsDatas_63 : decode cX16_readsDatas 63 = .ok (.ldc2_w 363, 3) := by decide +kernel
theorem dX16_readsDatas_66 : decode cX16_readsDatas 66 = .ok (.lcmp, 1) := by decide +kernel
theorem dX16_readsDatas_67 : decode cX16_readsDatas 67 = .ok (.ifCond .ge 8, 3) := by decide +kernel
theorem dX16_readsDatas_70 : decode cX16_readsDatas 70 = .ok (.lload_n 3, 1) := by decide +kernel
theorem dX16_readsDatas_71 : decode cX16_readsDatas 71 = .ok (.l2i, 1) := by decide +kernel
theorem dX16_readsDatas_72 : decode cX16_readsDatas 72 = .ok (.goto 5, 3) := by decide +kernel
theorem dX16_readsDatas_75 : decode cX16_readsDatas 75 = .ok (.bipush 63, 2) := by decide +kernel
theorem dX16_readsDatas_77 : decode cX16_readsDatas 77 = .ok (.istore 8, 2) := by decide +kernel
theorem dX16_readsDatas_79 : decode cX16_readsDatas 79 = .ok (.aload_n 0, 1) := by decide +kernel
theorem dX16_readsDatas_80 : decode cX16_readsDatas 80 = .ok (.getfield 221, 3) := by decide +kernel
theorem dX16_readsDatas_83 : decode cX16_readsDatas 83 = .ok (.getfield 534, 3) := by decide +kernel
theorem dX16_readsDatas_86 : decode cX16_readsDatas 86 = .ok (.iload 8, 2) := by decide +kernel
theorem dX16_readsDatas_88 : decode cX16_readsDatas 88 = .ok (.lload 6, 2) := by decide +kernel
theorem dX16_readsDatas_90 : decode cX16_readsDatas 90 = .ok (.lconst 1, 1) := by decide +kernel
theorem dX16_readsDatas_91 : decode cX16_readsDatas 91 = .ok (.lcmp, 1) := by decide +kernel
theorem dX16_readsDatas_92 : decode cX16_readsDatas 92 = .ok (.ifCond .eq 7, 3) := by decide +kernel
theorem dX16_readsDatas_95 : decode cX16_readsDatas 95 = .ok (.iconst 1, 1) := by decide +kernel
theorem dX16_readsDatas_96 : decode cX16_readsDatas 96 = .ok (.goto 4, 3) := by decide +kernel
theorem dX16_readsDatas_99 : decode cX16_readsDatas 99 = .ok (.iconst 0, 1) := by decide +kernel
theorem dX16_readsDatas_100 : decode cX16_readsDatas 100 = .ok (.bastore, 1) := by decide +kernel
theorem dX16_readsDatas_101 : decode cX16_readsDatas 101 = .ok (.aload_n 0, 1) := by decide +kernel
theorem dX16_readsDatas_102 : decode cX16_readsDatas 102 = .ok (.getfield 221, 3) := by decide +kernel
theorem dX16_readsDatas_105 : decode cX16_readsDatas 105 = .ok (.getfield 537, 3) := by decide +kernel
theorem dX16_readsDatas_108 : decode cX16_readsDatas 108 = .ok (.iload 8, 2) := by decide +kernel
theorem dX16_readsDatas_110 : decode cX16_readsDatas 110 = .ok (.lload 6, 2) := by decide +kernel
theorem dX16_readsDatas_112 : decode cX16_readsDatas 112 = .ok (.ldc2_w 532, 3) := by decide +kernel
theorem dX16_readsDatas_115 : decode cX16_readsDatas 115 = .ok (.lcmp, 1) := by decide +kernel
theorem dX16_readsDatas_116 : decode cX16_readsDatas 116 = .ok (.ifCond .ne 10, 3) := by decide +kernel
theorem dX16_readsDatas_119 : decode cX16_readsDatas 119 = .ok (.aload_n 0, 1) := by decide +kernel
theorem dX16_readsDatas_120 : decode cX16_readsDatas 120 = .ok (.invokevirtual 277, 3) := by decide +kernel
theorem dX16_readsDatas_123 : decode cX16_readsDatas 123 = .ok (.goto 4, 3) := by decide +kernel
theorem dX16_readsDatas_126 : decode cX16_readsDatas 126 = .ok (.lconst 0, 1) := by decide +kernel
theorem dX16_readsDatas_127 : decode cX16_readsDatas 127 = .ok (.lastore, 1) := by decide +kernel
theorem dX16_readsDatas_128 : decode cX16_readsDatas 128 = .ok (.aload_n 0, 1) := by decide +kernel
theorem dX16_readsDatas_129 : decode cX16_readsDatas 129 = .ok (.getfield 221, 3) := by decide +kernel
theorem dX16_readsDatas_132 : decode cX16_readsDatas 132 = .ok (.getfield 540, 3) := by decide +kernel
theorem dX16_readsDatas_135 : decode cX16_readsDatas 135 = .ok (.iload 8, 2) := by decide +kernel
theorem dX16_readsDatas_137 : decode cX16_readsDatas 137 = .ok (.aload_n 0, 1) := by decide +kernel
theorem dX16_readsDatas_138 : decode cX16_readsDatas 138 = .ok (.getfield 251, 3) := by decide +kernel
theorem dX16_readsDatas_141 : decode cX16_readsDatas 141 = .ok (.iastore, 1) := by decide +kernel
theorem dX16_readsDatas_142 : decode cX16_readsDatas 142 = .ok (.lload 6, 2) := by decide +kernel
theorem dX16_readsDatas_144 : decode cX16_readsDatas 144 = .ok (.lconst 1, 1) := by decide +kernel
theorem dX16_readsDatas_145 : decode cX16_readsDatas 145 = .ok (.lcmp, 1) := by decide +kernel
theorem dX16_readsDatas_146 : decode cX16_readsDatas 146 = .ok (.ifCond .eq 8, 3) := by decide +kernel
theorem dX16_readsDatas_149 : decode cX16_readsDatas 149 = .ok (.aload_n 0, 1) := by decide +kernel
theorem dX16_readsDatas_150 : decode cX16_readsDatas 150 = .ok (.iconst 0, 1) := by decide +kernel
theorem dX16_readsDatas_151 : decode cX16_readsDatas 151 = .ok (.invokevirtual 456, 3) := by decide +kernel
theorem dX16_readsDatas_154 : decode cX16_readsDatas 154 = .ok (.aload_n 0, 1) := by decide +kernel
theorem dX16_readsDatas_155 : decode cX16_readsDatas 155 = .ok (.invokevirtual 277, 3) := by decide +kernel
theorem dX16_readsDatas_158 : decode cX16_readsDatas 158 = .ok (.lstore 9, 2) := by decide +kernel
theorem dX16_readsDatas_160 : decode cX16_readsDatas 160 = .ok (.aload_n 0, 1) := by decide +kernel
theorem dX16_readsDatas_161 : decode cX16_readsDatas 161 = .ok (.getfield 221, 3) := by decide +kernel
theorem dX16_readsDatas_164 : decode cX16_readsDatas 164 = .ok (.getfield 543, 3) := by decide +kernel
theorem dX16_readsDatas_167 : decode cX16_readsDatas 167 = .ok (.iload 8, 2) := by decide +kernel
theorem dX16_readsDatas_169 : decode cX16_readsDatas 169 = .ok (.aload_n 0, 1) := by decide +kernel
theorem dX16_readsDatas_170 : decode cX16_readsDatas 170 = .ok (.getfield 251, 3) := by decide +kernel
theorem dX16_readsDatas_173 : decode cX16_readsDatas 173 = .ok (.iastore, 1) := by decide +kernel
theorem dX16_readsDatas_174 : decode cX16_readsDatas 174 = .ok (.lconst 0, 1) := by decide +kernel
theorem dX16_readsDatas_175 : decode cX16_readsDatas 175 = .ok (.lstore 11, 2) := by decide +kernel
theorem dX16_readsDatas_177 : decode cX16_readsDatas 177 = .ok (.lload 11, 2) := by decide +kernel
theorem dX16_readsDatas_179 : decode cX16_readsDatas 179 = .ok (.lload 9, 2) := by decide +kernel
theorem dX16_readsDatas_181 : decode cX16_readsDatas 181 = .ok (.lcmp, 1) := by decide +kernel
theorem dX16_readsDatas_182 : decode cX16_readsDatas 182 = .ok (.ifCond .ge 18, 3) := by decide +kernel
theorem dX16_readsDatas_185 : decode cX16_readsDatas 185 = .ok (.aload_n 0, 1) := by decide +kernel
theorem dX16_readsDatas_186 : decode cX16_readsDatas 186 = .ok (.invokevirtual 264, 3) := by decide +kernel
theorem dX16_readsDatas_189 : decode cX16_readsDatas 189 = .ok (.istore 13, 2) := by decide +kernel
theorem dX16_readsDatas_191 : decode cX16_readsDatas 191 = .ok (.lload 11, 2) := by decide +kernel
theorem dX16_readsDatas_193 : decode cX16_readsDatas 193 = .ok (.lconst 1, 1) := by decide +kernel
theorem dX16_readsDatas_194 : decode cX16_readsDatas 194 = .ok (.ladd, 1) := by decide +kernel
theorem dX16_readsDatas_195 : decode cX16_readsDatas 195 = .ok (.lstore 11, 2) := by decide +kernel
theorem dX16_readsDatas_197 : decode cX16_readsDatas 197 = .ok (.goto (-20), 3) := by decide +kernel
theorem dX16_readsDatas_200 : decode cX16_readsDatas 200 = .ok (.aload_n 0, 1) := by decide +kernel
theorem dX16_readsDatas_201 : decode cX16_readsDatas 201 = .ok (.getfield 221, 3) := by decide +kernel
theorem dX16_readsDatas_204 : decode cX16_readsDatas 204 = .ok (.getfield 546, 3) := by decide +kernel
theorem dX16_readsDatas_207 : decode cX16_readsDatas 207 = .ok (.iload 8, 2) := by decide +kernel
theorem dX16_readsDatas_209 : decode cX16_readsDatas 209 = .ok (.lload 9, 2) := by decide +kernel
theorem dX16_readsDatas_211 : decode cX16_readsDatas 211 = .ok (.l2i, 1) := by decide +kernel
theorem dX16_readsDatas_212 : decode cX16_readsDatas 212 = .ok (.iastore, 1) := by decide +kernel
theorem dX16_readsDatas_213 : decode cX16_readsDatas 213 = .ok (.lload_n 3, 1) := by decide +kernel
theorem dX16_readsDatas_214 : decode cX16_readsDatas 214 = .ok (.lconst 1, 1) := by decide +kernel
theorem dX16_readsDatas_215 : decode cX16_readsDatas 215 = .ok (.ladd, 1) := by decide +kernel
theorem dX16_readsDatas_216 : decode cX16_readsDatas 216 = .ok (.lstore_n 3, 1) := by decide +kernel
theorem dX16_readsDatas_217 : decode cX16_readsDatas 217 = .ok (.goto (-190), 3) := by decide +kernel
theorem dX16_readsDatas_220 : decode cX16_readsDatas 220 = .ok (.return_, 1) := by decide +kernel
noncomputable def tX16_readsDatas_27 (x0 : Nat) (x1 : Int64) (x3 : Int64) (h : pm_H) : Option (((Nat × Int64 × Int64 × pm_H) ⊕ (Nat × Int64 × Int64 × Int64 × pm_H) ⊕ (Nat × Int64 × Int64 × Int64 × Int32 × pm_H) ⊕ (Nat × Int64 × Int64 × Int64 × Int32 × Int32 × Int32 × Nat × pm_H) ⊕ (Nat × Int64 × Int64 × Int32 × Int64 × Int64 × pm_H)) ⊕ ((Nat × pm_H) ⊕ pm_H)) := if x1 ≤ x3 then (some (.inr (.inr (h)))) else (if pm_kd h x0 = 16 then pm_let (pm_I h x0 11) fun y15 => (fX16_number h x0).bind fun v17 => pt_s v17 fun w19 => if w19.1 ≤ 2 then (some (.inl (.inr (.inl ((x0, x1, x3, w19.1, w19.2)))))) else (if pm_kd w19.2 x0 = 16 then (fX16_stops w19.2 x0 7 y15).bind fun v23 => pt_s v23 fun w25 => some (.inl (.inr (.inl ((x0, x1, x3, w19.1, w25))))) else none) else none)
noncomputable def tX16_readsDatas_62 (x0 : Nat) (x1 : Int64) (x3 : Int64) (x6 : Int64) (h : pm_H) : Option (((Nat × Int64 × Int64 × pm_H) ⊕ (Nat × Int64 × Int64 × Int64 × pm_H) ⊕ (Nat × Int64 × Int64 × Int64 × Int32 × pm_H) ⊕ (Nat × Int64 × Int64 × Int64 × Int32 × Int32 × Int32 × Nat × pm_H) ⊕ (Nat × Int64 × Int64 × Int32 × Int64 × Int64 × pm_H)) ⊕ ((Nat × pm_H) ⊕ pm_H)) := if 64 ≤ x3 then (some (.inl (.inr (.inr (.inl ((x0, x1, x3, x6, 63, h))))))) else (some (.inl (.inr (.inr (.inl ((x0, x1, x3, x6, x3.toInt32, h)))))))
noncomputable def tX16_readsDatas_77 (x0 : Nat) (x1 : Int64) (x3 : Int64) (x6 : Int64) (s0 : Int32) (h : pm_H) : Option (((Nat × Int64 × Int64 × pm_H) ⊕ (Nat × Int64 × Int64 × Int64 × pm_H) ⊕ (Nat × Int64 × Int64 × Int64 × Int32 × pm_H) ⊕ (Nat × Int64 × Int64 × Int64 × Int32 × Int32 × Int32 × Nat × pm_H) ⊕ (Nat × Int64 × Int64 × Int32 × Int64 × Int64 × pm_H)) ⊕ ((Nat × pm_H) ⊕ pm_H)) := if pm_kd h x0 = 16 then (pm_R h x0 10).bind fun v29 => if pm_kd h v29 = 14 then (pm_R h v29 45).bind fun v32 => if x6 = 1 then (some (.inl (.inr (.inr (.inr (.inl ((x0, x1, x3, x6, s0, 0, s0, v32, h)))))))) else (some (.inl (.inr (.inr (.inr (.inl ((x0, x1, x3, x6, s0, 1, s0, v32, h)))))))) else none else none
noncomputable def tX16_readsDatas_100 (x0 : Nat) (x1 : Int64) (x3 : Int64) (x6 : Int64) (x8 : Int32) (s0 : Int32) (s1 : Int32) (s2 : Nat) (h : pm_H) : Option (((Nat × Int64 × Int64 × pm_H) ⊕ (Nat × Int64 × Int64 × Int64 × pm_H) ⊕ (Nat × Int64 × Int64 × Int64 × Int32 × pm_H) ⊕ (Nat × Int64 × Int64 × Int64 × Int32 × Int32 × Int32 × Nat × pm_H) ⊕ (Nat × Int64 × Int64 × Int32 × Int64 × Int64 × pm_H)) ⊕ ((Nat × pm_H) ⊕ pm_H)) := if pm_kd h s2 = 32 then if pm_in s1 (pm_ln h s2) then if pm_kd (pm_setI h s2 s1.toNatClampNeg (vp_nar .boolean s0)) x0 = 16 then (pm_R (pm_setI h s2 s1.toNatClampNeg (vp_nar .boolean s0)) x0 10).bind fun v38 => if pm_kd (pm_setI h s2 s1.toNatClampNeg (vp_nar .boolean s0)) v38 = 14 then (pm_R (pm_setI h s2 s1.toNatClampNeg (vp_nar .boolean s0)) v38 46).bind fun v41 => if x6 = 2 then ((fX16_number (pm_setI h s2 s1.toNatClampNeg (vp_nar .boolean s0)) x0).bind fun v86 => pt_s v86 fun w88 => if pm_kd w88.2 v41 = 35 then if pm_in x8 (pm_ln w88.2 v41) then if pm_kd (pm_setL w88.2 v41 x8.toNatClampNeg w88.1) x0 = 16 then (pm_R (pm_setL w88.2 v41 x8.toNatClampNeg w88.1) x0 10).bind fun v93 => if pm_kd (pm_setL w88.2 v41 x8.toNatClampNeg w88.1) v93 = 14 then (pm_R (pm_setL w88.2 v41 x8.toNatClampNeg w88.1) v93 47).bind fun v96 => pm_let (pm_I (pm_setL w88.2 v41 x8.toNatClampNeg w88.1) x0 11) fun y98 => if pm_kd (pm_setL w88.2 v41 x8.toNatClampNeg w88.1) v96 = 34 then if pm_in x8 (pm_ln (pm_setL w88.2 v41 x8.toNatClampNeg w88.1) v96) then if x6 = 1 then ((fX16_number (pm_setI (pm_setL w88.2 v41 x8.toNatClampNeg w88.1) v96 x8.toNatClampNeg y98) x0).bind fun v103 => pt_s v103 fun w105 => if pm_kd w105.2 x0 = 16 then (pm_R w105.2 x0 10).bind fun v108 => if pm_kd w105.2 v108 = 14 then (pm_R w105.2 v108 48).bind fun v111 => pm_let (pm_I w105.2 x0 11) fun y113 => if pm_kd w105.2 v111 = 34 then if pm_in x8 (pm_ln w105.2 v111) then some (.inl (.inr (.inr (.inr (.inr ((x0, x1, x3, x8, w105.1, 0, pm_setI w105.2 v111 x8.toNatClampNeg y113))))))) else none else none else none else none) else ((fX16_expression (pm_setI (pm_setL w88.2 v41 x8.toNatClampNeg w88.1) v96 x8.toNatClampNeg y98) x0 0).bind fun v117 => pt_s v117 fun w119 => if pm_kd w119 x0 = 16 then (fX16_number w119 x0).bind fun v122 => pt_s v122 fun w124 => if pm_kd w124.2 x0 = 16 then (pm_R w124.2 x0 10).bind fun v127 => if pm_kd w124.2 v127 = 14 then (pm_R w124.2 v127 48).bind fun v130 => pm_let (pm_I w124.2 x0 11) fun y132 => if pm_kd w124.2 v130 = 34 then if pm_in x8 (pm_ln w124.2 v130) then some (.inl (.inr (.inr (.inr (.inr ((x0, x1, x3, x8, w124.1, 0, pm_setI w124.2 v130 x8.toNatClampNeg y132))))))) else none else none else none else none else none) else none else none else none else none else none else none) else (if pm_kd (pm_setI h s2 s1.toNatClampNeg (vp_nar .boolean s0)) v41 = 35 then if pm_in x8 (pm_ln (pm_setI h s2 s1.toNatClampNeg (vp_nar .boolean s0)) v41) then (pm_R (pm_setL (pm_setI h s2 s1.toNatClampNeg (vp_nar .boolean s0)) v41 x8.toNatClampNeg 0) v38 47).bind fun v46 => pm_let (pm_I (pm_setL (pm_setI h s2 s1.toNatClampNeg (vp_nar .boolean s0)) v41 x8.toNatClampNeg 0) x0 11) fun y48 => if pm_kd (pm_setL (pm_setI h s2 s1.toNatClampNeg (vp_nar .boolean s0)) v41 x8.toNatClampNeg 0) v46 = 34 then if pm_in x8 (pm_ln (pm_setL (pm_setI h s2 s1.toNatClampNeg (vp_nar .boolean s0)) v41 x8.toNatClampNeg 0) v46) then if x6 = 1 then ((fX16_number (pm_setI (pm_setL (pm_setI h s2 s1.toNatClampNeg (vp_nar .boolean s0)) v41 x8.toNatClampNeg 0) v46 x8.toNatClampNeg y48) x0).bind fun v53 => pt_s v53 fun w55 => if pm_kd w55.2 x0 = 16 then (pm_R w55.2 x0 10).bind fun v58 => if pm_kd w55.2 v58 = 14 then (pm_R w55.2 v58 48).bind fun v61 => pm_let (pm_I w55.2 x0 11) fun y63 => if pm_kd w55.2 v61 = 34 then if pm_in x8 (pm_ln w55.2 v61) then some (.inl (.inr (.inr (.inr (.inr ((x0, x1, x3, x8, w55.1, 0, pm_setI w55.2 v61 x8.toNatClampNeg y63))))))) else none else none else none else none) else ((fX16_expression (pm_setI (pm_setL (pm_setI h s2 s1.toNatClampNeg (vp_nar .boolean s0)) v41 x8.toNatClampNeg 0) v46 x8.toNatClampNeg y48) x0 0).bind fun v67 => pt_s v67 fun w69 => if pm_kd w69 x0 = 16 then (fX16_number w69 x0).bind fun v72 => pt_s v72 fun w74 => if pm_kd w74.2 x0 = 16 then (pm_R w74.2 x0 10).bind fun v77 => if pm_kd w74.2 v77 = 14 then (pm_R w74.2 v77 48).bind fun v80 => pm_let (pm_I w74.2 x0 11) fun y82 => if pm_kd w74.2 v80 = 34 then if pm_in x8 (pm_ln w74.2 v80) then some (.inl (.inr (.inr (.inr (.inr ((x0, x1, x3, x8, w74.1, 0, pm_setI w74.2 v80 x8.toNatClampNeg y82))))))) else none else none else none else none else none) else none else none else none else none) else none else none else none else none
noncomputable def tX16_readsDatas_177 (x0 : Nat) (x1 : Int64) (x3 : Int64) (x8 : Int32) (x9 : Int64) (x11 : Int64) (h : pm_H) : Option (((Nat × Int64 × Int64 × pm_H) ⊕ (Nat × Int64 × Int64 × Int64 × pm_H) ⊕ (Nat × Int64 × Int64 × Int64 × Int32 × pm_H) ⊕ (Nat × Int64 × Int64 × Int64 × Int32 × Int32 × Int32 × Nat × pm_H) ⊕ (Nat × Int64 × Int64 × Int32 × Int64 × Int64 × pm_H)) ⊕ ((Nat × pm_H) ⊕ pm_H)) := if x9 ≤ x11 then (if pm_kd h x0 = 16 then (pm_R h x0 10).bind fun v138 => if pm_kd h v138 = 14 then (pm_R h v138 49).bind fun v141 => if pm_kd h v141 = 34 then if pm_in x8 (pm_ln h v141) then pm_let (x3 + 1) fun y145 => some (.inl (.inl ((x0, x1, y145, pm_setI h v141 x8.toNatClampNeg x9.toInt32)))) else none else none else none else none) else (if pm_kd h x0 = 16 then (fX16_next h x0).bind fun v148 => pt_s v148 fun w150 => pm_let (x11 + 1) fun y152 => some (.inl (.inr (.inr (.inr (.inr ((x0, x1, x3, x8, x9, y152, w150.2))))))) else none)
noncomputable def sX16_readsDatas : ((Nat × Int64 × Int64 × pm_H) ⊕ (Nat × Int64 × Int64 × Int64 × pm_H) ⊕ (Nat × Int64 × Int64 × Int64 × Int32 × pm_H) ⊕ (Nat × Int64 × Int64 × Int64 × Int32 × Int32 × Int32 × Nat × pm_H) ⊕ (Nat × Int64 × Int64 × Int32 × Int64 × Int64 × pm_H)) → Option (((Nat × Int64 × Int64 × pm_H) ⊕ (Nat × Int64 × Int64 × Int64 × pm_H) ⊕ (Nat × Int64 × Int64 × Int64 × Int32 × pm_H) ⊕ (Nat × Int64 × Int64 × Int64 × Int32 × Int32 × Int32 × Nat × pm_H) ⊕ (Nat × Int64 × Int64 × Int32 × Int64 × Int64 × pm_H)) ⊕ ((Nat × pm_H) ⊕ pm_H)) := fun z => match z with
  | .inl (x0, x1, x3, h) => tX16_readsDatas_27 x0 x1 x3 h
  | .inr (.inl (x0, x1, x3, x6, h)) => tX16_readsDatas_62 x0 x1 x3 x6 h
  | .inr (.inr (.inl (x0, x1, x3, x6, s0, h))) => tX16_readsDatas_77 x0 x1 x3 x6 s0 h
  | .inr (.inr (.inr (.inl (x0, x1, x3, x6, x8, s0, s1, s2, h)))) => tX16_readsDatas_100 x0 x1 x3 x6 x8 s0 s1 s2 h
  | .inr (.inr (.inr (.inr (x0, x1, x3, x8, x9, x11, h)))) => tX16_readsDatas_177 x0 x1 x3 x8 x9 x11 h
noncomputable def fX16_readsDatas (h : pm_H) (a0 : Nat) : Option ((Nat × pm_H) ⊕ pm_H) := if pm_kd h a0 = 16 then (fX16_number h a0).bind fun v2 => pt_k v2 fun w4 => if pm_kd w4.2 a0 = 16 then (pm_R w4.2 a0 10).bind fun v7 => if pm_kd w4.2 v7 = 14 then (fX16_kept (pm_setL w4.2 v7 43 w4.1) a0 w4.1).bind fun v10 => if pm_kd v10.2 v7 = 14 then pm_lim sX16_readsDatas (.inl ((a0, w4.1, 0, pm_setI v10.2 v7 44 v10.1))) else none else none else none else none
set_option maxHeartbeats 4000000 in
set_option maxRecDepth 100000 in
theorem lpX16_readsDatas {g : pm_Gm} {l : Launch} {G : pm_Gl} {Qr : Option Value → pm_H → Prop} {Qt : Nat → pm_H → Prop} (C : pm_C g cX16_readsDatas RX16) (X : pm_XT g l G mX16_readsDatas 0 0 Qr Qt) {r : ((Nat × pm_H) ⊕ pm_H)} (q : pt_eV Qr Qt r) : ∀ n : Nat, (∀ (x0 : Nat) (x1 : Int64) (x3 : Int64) (h : pm_H), pm_iter sX16_readsDatas n (.inl (x0, x1, x3, h)) = some r → pm_G g 27 [(0, .ref x0), (1, .long x1), (3, .long x3)] [] h 0 0) ∧ (∀ (x0 : Nat) (x1 : Int64) (x3 : Int64) (x6 : Int64) (h : pm_H), pm_iter sX16_readsDatas n (.inr (.inl (x0, x1, x3, x6, h))) = some r → pm_G g 62 [(0, .ref x0), (1, .long x1), (3, .long x3), (6, .long x6)] [] h 0 0) ∧ (∀ (x0 : Nat) (x1 : Int64) (x3 : Int64) (x6 : Int64) (s0 : Int32) (h : pm_H), pm_iter sX16_readsDatas n (.inr (.inr (.inl (x0, x1, x3, x6, s0, h)))) = some r → pm_G g 77 [(0, .ref x0), (1, .long x1), (3, .long x3), (6, .long x6)] [.int s0] h 0 0) ∧ (∀ (x0 : Nat) (x1 : Int64) (x3 : Int64) (x6 : Int64) (x8 : Int32) (s0 : Int32) (s1 : Int32) (s2 : Nat) (h : pm_H), pm_iter sX16_readsDatas n (.inr (.inr (.inr (.inl (x0, x1, x3, x6, x8, s0, s1, s2, h))))) = some r → pm_G g 100 [(0, .ref x0), (1, .long x1), (3, .long x3), (6, .long x6), (8, .int x8)] [.int s0, .int s1, .ref s2] h 0 0) ∧ (∀ (x0 : Nat) (x1 : Int64) (x3 : Int64) (x8 : Int32) (x9 : Int64) (x11 : Int64) (h : pm_H), pm_iter sX16_readsDatas n (.inr (.inr (.inr (.inr (x0, x1, x3, x8, x9, x11, h))))) = some r → pm_G g 177 [(0, .ref x0), (1, .long x1), (3, .long x3), (8, .int x8), (9, .long x9), (11, .long x11)] [] h 0 0) := by
  intro n
  induction n with
  | zero => exact ⟨fun _ _ _ _ hf => (by cases hf), fun _ _ _ _ _ hf => (by cases hf), fun _ _ _ _ _ _ hf => (by cases hf), fun _ _ _ _ _ _ _ _ _ hf => (by cases hf), fun _ _ _ _ _ _ _ hf => (by cases hf)⟩
  | succ n ih =>
    refine ⟨fun x0 x1 x3 h hf => ?_, ?_⟩
    · obtain ⟨y, hf, hi⟩ := pm_iter_s hf
      have hf : tX16_readsDatas_27 x0 x1 x3 h = some y := hf
      unfold tX16_readsDatas_27 at hf
      refine pm_lload_n C dX16_readsDatas_27 rfl rfl ?_
      refine pm_lload_n C dX16_readsDatas_28 rfl rfl ?_
      refine pm_lcmp C dX16_readsDatas_29 ?_
      refine pm_if_ge (tgt := 220) C dX16_readsDatas_30 (by decide) (fun c13 => ?_) (fun c13 => ?_)
      · have hf := pm_it hf ((pm_lg_ge _ _).mp c13)
        cases hf
        cases hi
        exact pt_vret C X dX16_readsDatas_220 rfl (Nat.le_refl _) (Nat.le_refl _) q
      · have hf := pm_ie hf ((fun z => c13 ((pm_lg_ge _ _).mpr z)))
        refine pm_aload_n C dX16_readsDatas_33 rfl rfl ?_
        obtain ⟨k14, hf⟩ := pm_if hf
        refine pm_getI C dX16_readsDatas_34 flX16_251 rfl k14 rfl ?_
        obtain ⟨y15, e16, hf⟩ := pm_lt hf
        refine pm_topI e16 ?_
        refine pm_istore (lv' := [(5, .int y15), (0, .ref x0), (1, .long x1), (3, .long x3)]) C dX16_readsDatas_37 (pt_nl X (by decide)) rfl ?_
        refine pm_aload_n C dX16_readsDatas_39 rfl rfl ?_
        obtain ⟨v17, e18, hf⟩ := pm_bd hf
        refine pt_callVT (as := []) (st := []) C X dX16_readsDatas_40 ltX16_277 myX16_number viX16_number ⟨by decide, by decide⟩ rfl rfl k14 (Nat.le_of_ble_eq_true rfl) (Nat.le_refl _) (Nat.le_refl _) (ctX16_number e18 ?_)
        rcases v17 with z20 | w19
        · have hf := pt_sl hf
          cases hf
          cases hi
          exact q
        have hf := pt_sr hf
        show pm_G g 43 [(5, .int y15), (0, .ref x0), (1, .long x1), (3, .long x3)] [.long w19.1] w19.2 0 0
        refine pm_lstore (lv' := [(6, .long w19.1), (5, .int y15), (0, .ref x0), (1, .long x1), (3, .long x3)]) C dX16_readsDatas_43 (pt_nl X (by decide)) rfl ?_
        refine pm_lload C dX16_readsDatas_45 rfl ?_
        refine pm_ldc2 C dX16_readsDatas_47 cnX16_532 ?_
        refine pm_lcmp C dX16_readsDatas_50 ?_
        refine pm_if_le (tgt := 62) C dX16_readsDatas_51 (by decide) (fun c21 => ?_) (fun c21 => ?_)
        · have hf := pm_it hf ((pm_lg_le _ _).mp c21)
          cases hf
          exact pm_sub [2, 3, 4, 0] rfl (ih.2.1 x0 x1 x3 w19.1 w19.2 hi)
        · have hf := pm_ie hf ((fun z => c21 ((pm_lg_le _ _).mpr z)))
          refine pm_aload_n C dX16_readsDatas_54 rfl rfl ?_
          refine pm_bipush (v := 7) C dX16_readsDatas_55 (by decide) ?_
          refine pm_iload C dX16_readsDatas_57 rfl ?_
          obtain ⟨k22, hf⟩ := pm_if hf
          obtain ⟨v23, e24, hf⟩ := pm_bd hf
          refine pt_callVT (as := [.int 7, .int y15]) (st := []) C X dX16_readsDatas_59 ltX16_257 myX16_stops viX16_stops ⟨by decide, by decide⟩ rfl rfl k22 (Nat.le_of_ble_eq_true rfl) (Nat.le_refl _) (Nat.le_refl _) (ctX16_stops e24 ?_)
          rcases v23 with z26 | w25
          · have hf := pt_sl hf
            cases hf
            cases hi
            exact q
          have hf := pt_sr hf
          show pm_G g 62 [(6, .long w19.1), (5, .int y15), (0, .ref x0), (1, .long x1), (3, .long x3)] [] w25 0 0
          cases hf
          exact pm_sub [2, 3, 4, 0] rfl (ih.2.1 x0 x1 x3 w19.1 w25 hi)
    refine ⟨fun x0 x1 x3 x6 h hf => ?_, ?_⟩
    · obtain ⟨y, hf, hi⟩ := pm_iter_s hf
      have hf : tX16_readsDatas_62 x0 x1 x3 x6 h = some y := hf
      unfold tX16_readsDatas_62 at hf
      refine pm_lload_n C dX16_readsDatas_62 rfl rfl ?_
      refine pm_ldc2 C dX16_readsDatas_63 cnX16_363 ?_
      refine pm_lcmp C dX16_readsDatas_66 ?_
      refine pm_if_ge (tgt := 75) C dX16_readsDatas_67 (by decide) (fun c27 => ?_) (fun c27 => ?_)
      · have hf := pm_it hf ((pm_lg_ge _ _).mp c27)
        refine pm_bipush (v := 63) C dX16_readsDatas_75 (by decide) ?_
        cases hf
        exact pm_sub [0, 1, 2, 3] rfl (ih.2.2.1 x0 x1 x3 x6 63 h hi)
      · have hf := pm_ie hf ((fun z => c27 ((pm_lg_ge _ _).mpr z)))
        refine pm_lload_n C dX16_readsDatas_70 rfl rfl ?_
        refine pm_l2i C dX16_readsDatas_71 ?_
        refine pm_goto (tgt := 77) C dX16_readsDatas_72 (by decide) ?_
        cases hf
        exact pm_sub [0, 1, 2, 3] rfl (ih.2.2.1 x0 x1 x3 x6 x3.toInt32 h hi)
    refine ⟨fun x0 x1 x3 x6 s0 h hf => ?_, ?_⟩
    · obtain ⟨y, hf, hi⟩ := pm_iter_s hf
      have hf : tX16_readsDatas_77 x0 x1 x3 x6 s0 h = some y := hf
      unfold tX16_readsDatas_77 at hf
      refine pm_istore (lv' := [(8, .int s0), (0, .ref x0), (1, .long x1), (3, .long x3), (6, .long x6)]) C dX16_readsDatas_77 (pt_nl X (by decide)) rfl ?_
      refine pm_aload_n C dX16_readsDatas_79 rfl rfl ?_
      obtain ⟨k28, hf⟩ := pm_if hf
      obtain ⟨v29, e30, hf⟩ := pm_bd hf
      refine pm_getR C dX16_readsDatas_80 flX16_221 rfl k28 e30 ?_
      obtain ⟨k31, hf⟩ := pm_if hf
      obtain ⟨v32, e33, hf⟩ := pm_bd hf
      refine pm_getR C dX16_readsDatas_83 flX16_534 rfl k31 e33 ?_
      refine pm_iload C dX16_readsDatas_86 rfl ?_
      refine pm_lload C dX16_readsDatas_88 rfl ?_
      refine pm_lconst (v := 1) C dX16_readsDatas_90 (by decide) ?_
      refine pm_lcmp C dX16_readsDatas_91 ?_
      refine pm_if_eq (tgt := 99) C dX16_readsDatas_92 (by decide) (fun c34 => ?_) (fun c34 => ?_)
      · have hf := pm_it hf ((pm_lg_eq _ _).mp c34)
        refine pm_iconst (v := 0) C dX16_readsDatas_99 (by decide) ?_
        cases hf
        exact pm_sub [1, 2, 3, 4, 0] rfl (ih.2.2.2.1 x0 x1 x3 x6 s0 0 s0 v32 h hi)
      · have hf := pm_ie hf ((fun z => c34 ((pm_lg_eq _ _).mpr z)))
        refine pm_iconst (v := 1) C dX16_readsDatas_95 (by decide) ?_
        refine pm_goto (tgt := 100) C dX16_readsDatas_96 (by decide) ?_
        cases hf
        exact pm_sub [1, 2, 3, 4, 0] rfl (ih.2.2.2.1 x0 x1 x3 x6 s0 1 s0 v32 h hi)
    refine ⟨fun x0 x1 x3 x6 x8 s0 s1 s2 h hf => ?_, ?_⟩
    · obtain ⟨y, hf, hi⟩ := pm_iter_s hf
      have hf : tX16_readsDatas_100 x0 x1 x3 x6 x8 s0 s1 s2 h = some y := hf
      unfold tX16_readsDatas_100 at hf
      obtain ⟨k35, hf⟩ := pm_if hf
      obtain ⟨u36, hf⟩ := pm_if hf
      refine pm_zast C dX16_readsDatas_100 k35 u36 ?_
      refine pm_aload_n C dX16_readsDatas_101 rfl rfl ?_
      obtain ⟨k37, hf⟩ := pm_if hf
      obtain ⟨v38, e39, hf⟩ := pm_bd hf
      refine pm_getR C dX16_readsDatas_102 flX16_221 rfl k37 e39 ?_
      obtain ⟨k40, hf⟩ := pm_if hf
      obtain ⟨v41, e42, hf⟩ := pm_bd hf
      refine pm_getR C dX16_readsDatas_105 flX16_537 rfl k40 e42 ?_
      refine pm_iload C dX16_readsDatas_108 rfl ?_
      refine pm_lload C dX16_readsDatas_110 rfl ?_
      refine pm_ldc2 C dX16_readsDatas_112 cnX16_532 ?_
      refine pm_lcmp C dX16_readsDatas_115 ?_
      refine pm_if_ne (tgt := 126) C dX16_readsDatas_116 (by decide) (fun c43 => ?_) (fun c43 => ?_)
      · have hf := pm_ie hf ((fun z => c43 ((pm_lg_eq _ _).mpr z)))
        refine pm_lconst (v := 0) C dX16_readsDatas_126 (by decide) ?_
        obtain ⟨k44, hf⟩ := pm_if hf
        obtain ⟨u45, hf⟩ := pm_if hf
        refine pm_last C dX16_readsDatas_127 k44 u45 ?_
        refine pm_aload_n C dX16_readsDatas_128 rfl rfl ?_
        refine pm_getR C dX16_readsDatas_129 flX16_221 rfl k37 e39 ?_
        obtain ⟨v46, e47, hf⟩ := pm_bd hf
        refine pm_getR C dX16_readsDatas_132 flX16_540 rfl k40 e47 ?_
        refine pm_iload C dX16_readsDatas_135 rfl ?_
        refine pm_aload_n C dX16_readsDatas_137 rfl rfl ?_
        refine pm_getI C dX16_readsDatas_138 flX16_251 rfl k37 rfl ?_
        obtain ⟨y48, e49, hf⟩ := pm_lt hf
        refine pm_topI e49 ?_
        obtain ⟨k50, hf⟩ := pm_if hf
        obtain ⟨u51, hf⟩ := pm_if hf
        refine pm_iast C dX16_readsDatas_141 k50 u51 ?_
        refine pm_lload C dX16_readsDatas_142 rfl ?_
        refine pm_lconst (v := 1) C dX16_readsDatas_144 (by decide) ?_
        refine pm_lcmp C dX16_readsDatas_145 ?_
        refine pm_if_eq (tgt := 154) C dX16_readsDatas_146 (by decide) (fun c52 => ?_) (fun c52 => ?_)
        · have hf := pm_it hf ((pm_lg_eq _ _).mp c52)
          refine pm_aload_n C dX16_readsDatas_154 rfl rfl ?_
          obtain ⟨v53, e54, hf⟩ := pm_bd hf
          refine pt_callVT (as := []) (st := []) C X dX16_readsDatas_155 ltX16_277 myX16_number viX16_number ⟨by decide, by decide⟩ rfl rfl k37 (Nat.le_of_ble_eq_true rfl) (Nat.le_refl _) (Nat.le_refl _) (ctX16_number e54 ?_)
          rcases v53 with z56 | w55
          · have hf := pt_sl hf
            cases hf
            cases hi
            exact q
          have hf := pt_sr hf
          show pm_G g 158 [(0, .ref x0), (1, .long x1), (3, .long x3), (6, .long x6), (8, .int x8)] [.long w55.1] w55.2 0 0
          refine pm_lstore (lv' := [(9, .long w55.1), (0, .ref x0), (1, .long x1), (3, .long x3), (6, .long x6), (8, .int x8)]) C dX16_readsDatas_158 (pt_nl X (by decide)) rfl ?_
          refine pm_aload_n C dX16_readsDatas_160 rfl rfl ?_
          obtain ⟨k57, hf⟩ := pm_if hf
          obtain ⟨v58, e59, hf⟩ := pm_bd hf
          refine pm_getR C dX16_readsDatas_161 flX16_221 rfl k57 e59 ?_
          obtain ⟨k60, hf⟩ := pm_if hf
          obtain ⟨v61, e62, hf⟩ := pm_bd hf
          refine pm_getR C dX16_readsDatas_164 flX16_543 rfl k60 e62 ?_
          refine pm_iload C dX16_readsDatas_167 rfl ?_
          refine pm_aload_n C dX16_readsDatas_169 rfl rfl ?_
          refine pm_getI C dX16_readsDatas_170 flX16_251 rfl k57 rfl ?_
          obtain ⟨y63, e64, hf⟩ := pm_lt hf
          refine pm_topI e64 ?_
          obtain ⟨k65, hf⟩ := pm_if hf
          obtain ⟨u66, hf⟩ := pm_if hf
          refine pm_iast C dX16_readsDatas_173 k65 u66 ?_
          refine pm_lconst (v := 0) C dX16_readsDatas_174 (by decide) ?_
          refine pm_lstore (lv' := [(11, .long 0), (9, .long w55.1), (0, .ref x0), (1, .long x1), (3, .long x3), (6, .long x6), (8, .int x8)]) C dX16_readsDatas_175 (pt_nl X (by decide)) rfl ?_
          cases hf
          exact pm_sub [2, 3, 4, 6, 1, 0] rfl (ih.2.2.2.2 x0 x1 x3 x8 w55.1 0 (pm_setI w55.2 v61 x8.toNatClampNeg y63) hi)
        · have hf := pm_ie hf ((fun z => c52 ((pm_lg_eq _ _).mpr z)))
          refine pm_aload_n C dX16_readsDatas_149 rfl rfl ?_
          refine pm_iconst (v := 0) C dX16_readsDatas_150 (by decide) ?_
          obtain ⟨v67, e68, hf⟩ := pm_bd hf
          refine pt_callVT (as := [.int 0]) (st := []) C X dX16_readsDatas_151 ltX16_456 myX16_expression viX16_expression ⟨by decide, by decide⟩ rfl rfl k37 (Nat.le_of_ble_eq_true rfl) (Nat.le_refl _) (Nat.le_refl _) (ctX16_expression e68 ?_)
          rcases v67 with z70 | w69
          · have hf := pt_sl hf
            cases hf
            cases hi
            exact q
          have hf := pt_sr hf
          show pm_G g 154 [(0, .ref x0), (1, .long x1), (3, .long x3), (6, .long x6), (8, .int x8)] [] w69 0 0
          refine pm_aload_n C dX16_readsDatas_154 rfl rfl ?_
          obtain ⟨k71, hf⟩ := pm_if hf
          obtain ⟨v72, e73, hf⟩ := pm_bd hf
          refine pt_callVT (as := []) (st := []) C X dX16_readsDatas_155 ltX16_277 myX16_number viX16_number ⟨by decide, by decide⟩ rfl rfl k71 (Nat.le_of_ble_eq_true rfl) (Nat.le_refl _) (Nat.le_refl _) (ctX16_number e73 ?_)
          rcases v72 with z75 | w74
          · have hf := pt_sl hf
            cases hf
            cases hi
            exact q
          have hf := pt_sr hf
          show pm_G g 158 [(0, .ref x0), (1, .long x1), (3, .long x3), (6, .long x6), (8, .int x8)] [.long w74.1] w74.2 0 0
          refine pm_lstore (lv' := [(9, .long w74.1), (0, .ref x0), (1, .long x1), (3, .long x3), (6, .long x6), (8, .int x8)]) C dX16_readsDatas_158 (pt_nl X (by decide)) rfl ?_
          refine pm_aload_n C dX16_readsDatas_160 rfl rfl ?_
          obtain ⟨k76, hf⟩ := pm_if hf
          obtain ⟨v77, e78, hf⟩ := pm_bd hf
          refine pm_getR C dX16_readsDatas_161 flX16_221 rfl k76 e78 ?_
          obtain ⟨k79, hf⟩ := pm_if hf
          obtain ⟨v80, e81, hf⟩ := pm_bd hf
          refine pm_getR C dX16_readsDatas_164 flX16_543 rfl k79 e81 ?_
          refine pm_iload C dX16_readsDatas_167 rfl ?_
          refine pm_aload_n C dX16_readsDatas_169 rfl rfl ?_
          refine pm_getI C dX16_readsDatas_170 flX16_251 rfl k76 rfl ?_
          obtain ⟨y82, e83, hf⟩ := pm_lt hf
          refine pm_topI e83 ?_
          obtain ⟨k84, hf⟩ := pm_if hf
          obtain ⟨u85, hf⟩ := pm_if hf
          refine pm_iast C dX16_readsDatas_173 k84 u85 ?_
          refine pm_lconst (v := 0) C dX16_readsDatas_174 (by decide) ?_
          refine pm_lstore (lv' := [(11, .long 0), (9, .long w74.1), (0, .ref x0), (1, .long x1), (3, .long x3), (6, .long x6), (8, .int x8)]) C dX16_readsDatas_175 (pt_nl X (by decide)) rfl ?_
          cases hf
          exact pm_sub [2, 3, 4, 6, 1, 0] rfl (ih.2.2.2.2 x0 x1 x3 x8 w74.1 0 (pm_setI w74.2 v80 x8.toNatClampNeg y82) hi)
      · have hf := pm_it hf ((pm_lg_eq _ _).mp c43)
        refine pm_aload_n C dX16_readsDatas_119 rfl rfl ?_
        obtain ⟨v86, e87, hf⟩ := pm_bd hf
        refine pt_callVT (as := []) (st := [.int x8, .ref v41]) C X dX16_readsDatas_120 ltX16_277 myX16_number viX16_number ⟨by decide, by decide⟩ rfl rfl k37 (Nat.le_of_ble_eq_true rfl) (Nat.le_refl _) (Nat.le_refl _) (ctX16_number e87 ?_)
        rcases v86 with z89 | w88
        · have hf := pt_sl hf
          cases hf
          cases hi
          exact q
        have hf := pt_sr hf
        show pm_G g 123 [(0, .ref x0), (1, .long x1), (3, .long x3), (6, .long x6), (8, .int x8)] [.long w88.1, .int x8, .ref v41] w88.2 0 0
        refine pm_goto (tgt := 127) C dX16_readsDatas_123 (by decide) ?_
        obtain ⟨k90, hf⟩ := pm_if hf
        obtain ⟨u91, hf⟩ := pm_if hf
        refine pm_last C dX16_readsDatas_127 k90 u91 ?_
        refine pm_aload_n C dX16_readsDatas_128 rfl rfl ?_
        obtain ⟨k92, hf⟩ := pm_if hf
        obtain ⟨v93, e94, hf⟩ := pm_bd hf
        refine pm_getR C dX16_readsDatas_129 flX16_221 rfl k92 e94 ?_
        obtain ⟨k95, hf⟩ := pm_if hf
        obtain ⟨v96, e97, hf⟩ := pm_bd hf
        refine pm_getR C dX16_readsDatas_132 flX16_540 rfl k95 e97 ?_
        refine pm_iload C dX16_readsDatas_135 rfl ?_
        refine pm_aload_n C dX16_readsDatas_137 rfl rfl ?_
        refine pm_getI C dX16_readsDatas_138 flX16_251 rfl k92 rfl ?_
        obtain ⟨y98, e99, hf⟩ := pm_lt hf
        refine pm_topI e99 ?_
        obtain ⟨k100, hf⟩ := pm_if hf
        obtain ⟨u101, hf⟩ := pm_if hf
        refine pm_iast C dX16_readsDatas_141 k100 u101 ?_
        refine pm_lload C dX16_readsDatas_142 rfl ?_
        refine pm_lconst (v := 1) C dX16_readsDatas_144 (by decide) ?_
        refine pm_lcmp C dX16_readsDatas_145 ?_
        refine pm_if_eq (tgt := 154) C dX16_readsDatas_146 (by decide) (fun c102 => ?_) (fun c102 => ?_)
        · have hf := pm_it hf ((pm_lg_eq _ _).mp c102)
          refine pm_aload_n C dX16_readsDatas_154 rfl rfl ?_
          obtain ⟨v103, e104, hf⟩ := pm_bd hf
          refine pt_callVT (as := []) (st := []) C X dX16_readsDatas_155 ltX16_277 myX16_number viX16_number ⟨by decide, by decide⟩ rfl rfl k92 (Nat.le_of_ble_eq_true rfl) (Nat.le_refl _) (Nat.le_refl _) (ctX16_number e104 ?_)
          rcases v103 with z106 | w105
          · have hf := pt_sl hf
            cases hf
            cases hi
            exact q
          have hf := pt_sr hf
          show pm_G g 158 [(0, .ref x0), (1, .long x1), (3, .long x3), (6, .long x6), (8, .int x8)] [.long w105.1] w105.2 0 0
          refine pm_lstore (lv' := [(9, .long w105.1), (0, .ref x0), (1, .long x1), (3, .long x3), (6, .long x6), (8, .int x8)]) C dX16_readsDatas_158 (pt_nl X (by decide)) rfl ?_
          refine pm_aload_n C dX16_readsDatas_160 rfl rfl ?_
          obtain ⟨k107, hf⟩ := pm_if hf
          obtain ⟨v108, e109, hf⟩ := pm_bd hf
          refine pm_getR C dX16_readsDatas_161 flX16_221 rfl k107 e109 ?_
          obtain ⟨k110, hf⟩ := pm_if hf
          obtain ⟨v111, e112, hf⟩ := pm_bd hf
          refine pm_getR C dX16_readsDatas_164 flX16_543 rfl k110 e112 ?_
          refine pm_iload C dX16_readsDatas_167 rfl ?_
          refine pm_aload_n C dX16_readsDatas_169 rfl rfl ?_
          refine pm_getI C dX16_readsDatas_170 flX16_251 rfl k107 rfl ?_
          obtain ⟨y113, e114, hf⟩ := pm_lt hf
          refine pm_topI e114 ?_
          obtain ⟨k115, hf⟩ := pm_if hf
          obtain ⟨u116, hf⟩ := pm_if hf
          refine pm_iast C dX16_readsDatas_173 k115 u116 ?_
          refine pm_lconst (v := 0) C dX16_readsDatas_174 (by decide) ?_
          refine pm_lstore (lv' := [(11, .long 0), (9, .long w105.1), (0, .ref x0), (1, .long x1), (3, .long x3), (6, .long x6), (8, .int x8)]) C dX16_readsDatas_175 (pt_nl X (by decide)) rfl ?_
          cases hf
          exact pm_sub [2, 3, 4, 6, 1, 0] rfl (ih.2.2.2.2 x0 x1 x3 x8 w105.1 0 (pm_setI w105.2 v111 x8.toNatClampNeg y113) hi)
        · have hf := pm_ie hf ((fun z => c102 ((pm_lg_eq _ _).mpr z)))
          refine pm_aload_n C dX16_readsDatas_149 rfl rfl ?_
          refine pm_iconst (v := 0) C dX16_readsDatas_150 (by decide) ?_
          obtain ⟨v117, e118, hf⟩ := pm_bd hf
          refine pt_callVT (as := [.int 0]) (st := []) C X dX16_readsDatas_151 ltX16_456 myX16_expression viX16_expression ⟨by decide, by decide⟩ rfl rfl k92 (Nat.le_of_ble_eq_true rfl) (Nat.le_refl _) (Nat.le_refl _) (ctX16_expression e118 ?_)
          rcases v117 with z120 | w119
          · have hf := pt_sl hf
            cases hf
            cases hi
            exact q
          have hf := pt_sr hf
          show pm_G g 154 [(0, .ref x0), (1, .long x1), (3, .long x3), (6, .long x6), (8, .int x8)] [] w119 0 0
          refine pm_aload_n C dX16_readsDatas_154 rfl rfl ?_
          obtain ⟨k121, hf⟩ := pm_if hf
          obtain ⟨v122, e123, hf⟩ := pm_bd hf
          refine pt_callVT (as := []) (st := []) C X dX16_readsDatas_155 ltX16_277 myX16_number viX16_number ⟨by decide, by decide⟩ rfl rfl k121 (Nat.le_of_ble_eq_true rfl) (Nat.le_refl _) (Nat.le_refl _) (ctX16_number e123 ?_)
          rcases v122 with z125 | w124
          · have hf := pt_sl hf
            cases hf
            cases hi
            exact q
          have hf := pt_sr hf
          show pm_G g 158 [(0, .ref x0), (1, .long x1), (3, .long x3), (6, .long x6), (8, .int x8)] [.long w124.1] w124.2 0 0
          refine pm_lstore (lv' := [(9, .long w124.1), (0, .ref x0), (1, .long x1), (3, .long x3), (6, .long x6), (8, .int x8)]) C dX16_readsDatas_158 (pt_nl X (by decide)) rfl ?_
          refine pm_aload_n C dX16_readsDatas_160 rfl rfl ?_
          obtain ⟨k126, hf⟩ := pm_if hf
          obtain ⟨v127, e128, hf⟩ := pm_bd hf
          refine pm_getR C dX16_readsDatas_161 flX16_221 rfl k126 e128 ?_
          obtain ⟨k129, hf⟩ := pm_if hf
          obtain ⟨v130, e131, hf⟩ := pm_bd hf
          refine pm_getR C dX16_readsDatas_164 flX16_543 rfl k129 e131 ?_
          refine pm_iload C dX16_readsDatas_167 rfl ?_
          refine pm_aload_n C dX16_readsDatas_169 rfl rfl ?_
          refine pm_getI C dX16_readsDatas_170 flX16_251 rfl k126 rfl ?_
          obtain ⟨y132, e133, hf⟩ := pm_lt hf
          refine pm_topI e133 ?_
          obtain ⟨k134, hf⟩ := pm_if hf
          obtain ⟨u135, hf⟩ := pm_if hf
          refine pm_iast C dX16_readsDatas_173 k134 u135 ?_
          refine pm_lconst (v := 0) C dX16_readsDatas_174 (by decide) ?_
          refine pm_lstore (lv' := [(11, .long 0), (9, .long w124.1), (0, .ref x0), (1, .long x1), (3, .long x3), (6, .long x6), (8, .int x8)]) C dX16_readsDatas_175 (pt_nl X (by decide)) rfl ?_
          cases hf
          exact pm_sub [2, 3, 4, 6, 1, 0] rfl (ih.2.2.2.2 x0 x1 x3 x8 w124.1 0 (pm_setI w124.2 v130 x8.toNatClampNeg y132) hi)
    refine fun x0 x1 x3 x8 x9 x11 h hf => ?_
    obtain ⟨y, hf, hi⟩ := pm_iter_s hf
    have hf : tX16_readsDatas_177 x0 x1 x3 x8 x9 x11 h = some y := hf
    unfold tX16_readsDatas_177 at hf
    refine pm_lload C dX16_readsDatas_177 rfl ?_
    refine pm_lload C dX16_readsDatas_179 rfl ?_
    refine pm_lcmp C dX16_readsDatas_181 ?_
    refine pm_if_ge (tgt := 200) C dX16_readsDatas_182 (by decide) (fun c136 => ?_) (fun c136 => ?_)
    · have hf := pm_it hf ((pm_lg_ge _ _).mp c136)
      refine pm_aload_n C dX16_readsDatas_200 rfl rfl ?_
      obtain ⟨k137, hf⟩ := pm_if hf
      obtain ⟨v138, e139, hf⟩ := pm_bd hf
      refine pm_getR C dX16_readsDatas_201 flX16_221 rfl k137 e139 ?_
      obtain ⟨k140, hf⟩ := pm_if hf
      obtain ⟨v141, e142, hf⟩ := pm_bd hf
      refine pm_getR C dX16_readsDatas_204 flX16_546 rfl k140 e142 ?_
      refine pm_iload C dX16_readsDatas_207 rfl ?_
      refine pm_lload C dX16_readsDatas_209 rfl ?_
      refine pm_l2i C dX16_readsDatas_211 ?_
      obtain ⟨k143, hf⟩ := pm_if hf
      obtain ⟨u144, hf⟩ := pm_if hf
      refine pm_iast C dX16_readsDatas_212 k143 u144 ?_
      refine pm_lload_n C dX16_readsDatas_213 rfl rfl ?_
      refine pm_lconst (v := 1) C dX16_readsDatas_214 (by decide) ?_
      refine pm_ladd C dX16_readsDatas_215 ?_
      obtain ⟨y145, e146, hf⟩ := pm_lt hf
      refine pm_topL e146 ?_
      refine pm_lstore_n (lv' := [(3, .long y145), (0, .ref x0), (1, .long x1), (8, .int x8), (9, .long x9), (11, .long x11)]) C dX16_readsDatas_216 rfl (pt_nl X (by decide)) rfl ?_
      refine pm_goto (tgt := 27) C dX16_readsDatas_217 (by decide) ?_
      cases hf
      exact pm_sub [1, 2, 0] rfl (ih.1 x0 x1 y145 (pm_setI h v141 x8.toNatClampNeg x9.toInt32) hi)
    · have hf := pm_ie hf ((fun z => c136 ((pm_lg_ge _ _).mpr z)))
      refine pm_aload_n C dX16_readsDatas_185 rfl rfl ?_
      obtain ⟨k147, hf⟩ := pm_if hf
      obtain ⟨v148, e149, hf⟩ := pm_bd hf
      refine pt_callVT (as := []) (st := []) C X dX16_readsDatas_186 ltX16_264 myX16_next viX16_next ⟨by decide, by decide⟩ rfl rfl k147 (Nat.le_of_ble_eq_true rfl) (Nat.le_refl _) (Nat.le_refl _) (ctX16_next e149 ?_)
      rcases v148 with z151 | w150
      · have hf := pt_sl hf
        cases hf
        cases hi
        exact q
      have hf := pt_sr hf
      show pm_G g 189 [(0, .ref x0), (1, .long x1), (3, .long x3), (8, .int x8), (9, .long x9), (11, .long x11)] [.int w150.1] w150.2 0 0
      refine pm_istore (lv' := [(13, .int w150.1), (0, .ref x0), (1, .long x1), (3, .long x3), (8, .int x8), (9, .long x9), (11, .long x11)]) C dX16_readsDatas_189 (pt_nl X (by decide)) rfl ?_
      refine pm_lload C dX16_readsDatas_191 rfl ?_
      refine pm_lconst (v := 1) C dX16_readsDatas_193 (by decide) ?_
      refine pm_ladd C dX16_readsDatas_194 ?_
      obtain ⟨y152, e153, hf⟩ := pm_lt hf
      refine pm_topL e153 ?_
      refine pm_lstore (lv' := [(11, .long y152), (13, .int w150.1), (0, .ref x0), (1, .long x1), (3, .long x3), (8, .int x8), (9, .long x9)]) C dX16_readsDatas_195 (pt_nl X (by decide)) rfl ?_
      refine pm_goto (tgt := 177) C dX16_readsDatas_197 (by decide) ?_
      cases hf
      exact pm_sub [2, 3, 4, 5, 6, 0] rfl (ih.2.2.2.2 x0 x1 x3 x8 x9 y152 w150.2 hi)
set_option maxHeartbeats 4000000 in
set_option maxRecDepth 100000 in
theorem ctX16_readsDatas {l : Launch} {G : pm_Gl} {h : pm_H} {a0 : Nat} {r : ((Nat × pm_H) ⊕ pm_H)} {Qr : Option Value → pm_H → Prop} {Qt : Nat → pm_H → Prop} (hf : fX16_readsDatas h a0 = some r) (q : pt_eV Qr Qt r) : pm_Ctt l G mX16_readsDatas [.ref a0] h 0 0 Qr Qt := by
  refine pm_bodyT pnX16 (Nat.le_of_ble_eq_true rfl) (fun g C X => ?_)
  have C : pm_C g cX16_readsDatas RX16 := C
  show pm_G g 0 [(0, .ref a0)] [] h 0 0
  unfold fX16_readsDatas at hf
  refine pm_aload_n C dX16_readsDatas_0 rfl rfl ?_
  obtain ⟨k1, hf⟩ := pm_if hf
  obtain ⟨v2, e3, hf⟩ := pm_bd hf
  refine pt_callVT (as := []) (st := []) C X dX16_readsDatas_1 ltX16_277 myX16_number viX16_number ⟨by decide, by decide⟩ rfl rfl k1 (Nat.le_of_ble_eq_true rfl) (Nat.le_refl _) (Nat.le_refl _) (ctX16_number e3 ?_)
  rcases v2 with z5 | w4
  · have hf := pt_kl hf
    cases hf
    exact q
  have hf := pt_kr hf
  show pm_G g 4 [(0, .ref a0)] [.long w4.1] w4.2 0 0
  refine pm_lstore_n (lv' := [(1, .long w4.1), (0, .ref a0)]) C dX16_readsDatas_4 rfl (pt_nl X (by decide)) rfl ?_
  refine pm_aload_n C dX16_readsDatas_5 rfl rfl ?_
  obtain ⟨k6, hf⟩ := pm_if hf
  obtain ⟨v7, e8, hf⟩ := pm_bd hf
  refine pm_getR C dX16_readsDatas_6 flX16_221 rfl k6 e8 ?_
  refine pm_lload_n C dX16_readsDatas_9 rfl rfl ?_
  obtain ⟨k9, hf⟩ := pm_if hf
  refine pm_putL C dX16_readsDatas_10 flX16_321 rfl rfl k9 ?_
  refine pm_aload_n C dX16_readsDatas_13 rfl rfl ?_
  refine pm_getR C dX16_readsDatas_14 flX16_221 rfl k6 e8 ?_
  refine pm_aload_n C dX16_readsDatas_17 rfl rfl ?_
  refine pm_lload_n C dX16_readsDatas_18 rfl rfl ?_
  obtain ⟨v10, e11, hf⟩ := pm_bd hf
  refine pt_callV (as := [.long w4.1]) (st := [.ref v7]) C X dX16_readsDatas_19 lnX16_377 myX16_kept viX16_kept ⟨by decide, by decide⟩ rfl rfl k6 (Nat.le_of_ble_eq_true rfl) (Nat.le_refl _) (Nat.le_refl _) (ctX16_kept e11 ?_)
  show pm_G g 22 [(1, .long w4.1), (0, .ref a0)] [.int v10.1, .ref v7] v10.2 0 0
  obtain ⟨k12, hf⟩ := pm_if hf
  refine pm_putI C dX16_readsDatas_22 flX16_529 rfl rfl k12 rfl rfl ?_
  refine pm_lconst (v := 0) C dX16_readsDatas_25 (by decide) ?_
  refine pm_lstore_n (lv' := [(3, .long 0), (1, .long w4.1), (0, .ref a0)]) C dX16_readsDatas_26 rfl (pt_nl X (by decide)) rfl ?_
  obtain ⟨n, hn⟩ := pm_lim_iter hf
  exact pm_sub [2, 1, 0] rfl ((lpX16_readsDatas C X q n).1 a0 w4.1 0 (pm_setI v10.2 v7 44 v10.1) hn)
theorem dX16_readsElement_0 : decode cX16_readsElement 0 = .ok (.iload_n 1, 1) := by decide +kernel
theorem dX16_readsElement_1 : decode cX16_readsElement 1 = .ok (.iconst 1, 1) := by decide +kernel
theorem dX16_readsElement_2 : decode cX16_readsElement 2 = .ok (.iand, 1) := by decide +kernel
theorem dX16_readsElement_3 : decode cX16_readsElement 3 = .ok (.ifCond .ne 7, 3) := by decide +kernel
theorem dX16_readsElement_6 : decode cX16_readsElement 6 = .ok (.iconst 1, 1) := by decide +kernel
theorem dX16_readsElement_7 : decode cX16_readsElement 7 = .ok (.goto 4, 3) := by decide +kernel
theorem dX16_readsElement_10 : decode cX16_readsElement 10 = .ok (.iconst 0, 1) := by decide +kernel
theorem dX16_readsElement_11 : decode cX16_readsElement 11 = .ok (.istore_n 3, 1) := by decide +kernel
theorem dX16_readsElement_12 : decode cX16_readsElement 12 = .ok (.aload_n 0, 1) := by decide +kernel
theorem dX16_readsElement_13 : decode cX16_readsElement 13 = .ok (.getfield 221, 3) := by decide +kernel
theorem dX16_readsElement_16 : decode cX16_readsElement 16 = .ok (.getfield 489, 3) := by decide +kernel
theorem dX16_readsElement_19 : decode cX16_readsElement 19 = .ok (.iload_n 2, 1) := by decide +kernel
theorem dX16_readsElement_20 : decode cX16_readsElement 20 = .ok (.iload_n 3, 1) := by decide +kernel
theorem dX16_readsElement_21 : decode cX16_readsElement 21 = .ok (.ifCond .eq 7, 3) := by decide +kernel
theorem dX16_readsElement_24 : decode cX16_readsElement 24 = .ok (.iconst 0, 1) := by decide +kernel
theorem dX16_readsElement_25 : decode cX16_readsElement 25 = .ok (.goto 14, 3) := by decide +kernel
theorem dX16_readsElement_28 : decode cX16_readsElement 28 = .ok (.iload_n 1, 1) := by decide +kernel
theorem dX16_readsElement_29 : decode cX16_readsElement 29 = .ok (.iconst 2, 1) := by decide +kernel
theorem dX16_readsElement_30 : decode cX16_readsElement 30 = .ok (.iand, 1) := by decide +kernel
theorem dX16_readsElement_31 : decode cX16_readsElement 31 = .ok (.ifCond .eq 7, 3) := by decide +kernel
theorem dX16_readsElement_34 : decode cX16_readsElement 34 = .ok (.iconst 2, 1) := by decide +kernel
theorem dX16_readsElement_35 : decode cX16_readsElement 35 = .ok (.goto 4, 3) := by decide +kernel
theorem dX16_readsElement_38 : decode cX16_readsElement 38 = .ok (.iconst 1, 1) := by decide +kernel
theorem dX16_readsElement_39 : decode cX16_readsElement 39 = .ok (.iastore, 1) := by decide +kernel
theorem dX16_readsElement_40 : decode cX16_readsElement 40 = .ok (.aload_n 0, 1) := by decide +kernel
theorem dX16_readsElement_41 : decode cX16_readsElement 41 = .ok (.getfield 221, 3) := by decide +kernel
theorem dX16_readsElement_44 : decode cX16_readsElement 44 = .ok (.getfield 492, 3) := by decide +kernel
theorem dX16_readsElement_47 : decode cX16_readsElement 47 = .ok (.iload_n 2, 1) := by decide +kernel
theorem dX16_readsElement_48 : decode cX16_readsElement 48 = .ok (.iload_n 3, 1) := by decide +kernel
theorem dX16_readsElement_49 : decode cX16_readsElement 49 = .ok (.ifCond .eq 16, 3) := by decide +kernel
theorem dX16_readsElement_52 : decode cX16_readsElement 52 = .ok (.iload_n 1, 1) := by decide +kernel
theorem dX16_readsElement_53 : decode cX16_readsElement 53 = .ok (.iconst 2, 1) := by decide +kernel
theorem dX16_readsElement_54 : decode cX16_readsElement 54 = .ok (.iand, 1) := by decide +kernel
theorem dX16_readsElement_55 : decode cX16_readsElement 55 = .ok (.ifCond .eq 10, 3) := by decide +kernel
theorem dX16_readsElement_58 : decode cX16_readsElement 58 = .ok (.aload_n 0, 1) := by decide +kernel
theorem dX16_readsElement_59 : decode cX16_readsElement 59 = .ok (.invokevirtual 277, 3) := by decide +kernel
theorem dX16_readsElement_62 : decode cX16_readsElement 62 = .ok (.goto 4, 3) := by decide +kernel
theorem dX16_readsElement_65 : decode cX16_readsElement 65 = .ok (.lconst 0, 1) := by decide +kernel
theorem dX16_readsElement_66 : decode cX16_readsElement 66 = .ok (.lastore, 1) := by decide +kernel
theorem dX16_readsElement_67 : decode cX16_readsElement 67 = .ok (.aload_n 0, 1) := by decide +kernel
theorem dX16_readsElement_68 : decode cX16_readsElement 68 = .ok (.getfield 221, 3) := by decide +kernel
theorem dX16_readsElement_71 : decode cX16_readsElement 71 = .ok (.getfield 495, 3) := by decide +kernel
theorem dX16_readsElement_74 : decode cX16_readsElement 74 = .ok (.iload_n 2, 1) := by decide +kernel
theorem dX16_readsElement_75 : decode cX16_readsElement 75 = .ok (.aload_n 0, 1) := by decide +kernel
theorem dX16_readsElement_76 : decode cX16_readsElement 76 = .ok (.getfield 251, 3) := by decide +kernel
theorem dX16_readsElement_79 : decode cX16_readsElement 79 = .ok (.iastore, 1) := by decide +kernel
theorem dX16_readsElement_80 : decode cX16_readsElement 80 = .ok (.iload_n 3, 1) := by decide +kernel
theorem dX16_readsElement_81 : decode cX16_readsElement 81 = .ok (.ifCond .eq 8, 3) := by decide +kernel
theorem dX16_readsElement_84 : decode cX16_readsElement 84 = .ok (.aload_n 0, 1) := by decide +kernel
theorem dX16_readsElement_85 : decode cX16_readsElement 85 = .ok (.iconst 0, 1) := by decide +kernel
theorem dX16_readsElement_86 : decode cX16_readsElement 86 = .ok (.invokevirtual 456, 3) := by decide +kernel
theorem dX16_readsElement_89 : decode cX16_readsElement 89 = .ok (.aload_n 0, 1) := by decide +kernel
theorem dX16_readsElement_90 : decode cX16_readsElement 90 = .ok (.getfield 221, 3) := by decide +kernel
theorem dX16_readsElement_93 : decode cX16_readsElement 93 = .ok (.getfield 498, 3) := by decide +kernel
theorem dX16_readsElement_96 : decode cX16_readsElement 96 = .ok (.iload_n 2, 1) := by decide +kernel
theorem dX16_readsElement_97 : decode cX16_readsElement 97 = .ok (.iload_n 1, 1) := by decide +kernel
theorem dX16_readsElement_98 : decode cX16_readsElement 98 = .ok (.iconst 4, 1) := by decide +kernel
theorem dX16_readsElement_99 : decode cX16_readsElement 99 = .ok (.iand, 1) := by decide +kernel
theorem dX16_readsElement_100 : decode cX16_readsElement 100 = .ok (.ifCond .eq 7, 3) := by decide +kernel
theorem dX16_readsElement_103 : decode cX16_readsElement 103 = .ok (.iconst 1, 1) := by decide +kernel
theorem dX16_readsElement_104 : decode cX16_readsElement 104 = .ok (.goto 4, 3) := by decide +kernel
theorem dX16_readsElement_107 : decode cX16_readsElement 107 = .ok (.iconst 0, 1) := by decide +kernel
theorem dX16_readsElement_108 : decode cX16_readsElement 108 = .ok (.bastore, 1) := by decide +kernel
theorem dX16_readsElement_109 : decode cX16_readsElement 109 = .ok (.aload_n 0, 1) := by decide +kernel
theorem dX16_readsElement_110 : decode cX16_readsElement 110 = .ok (.getfield 221, 3) := by decide +kernel
theorem dX16_readsElement_113 : decode cX16_readsElement 113 = .ok (.getfield 501, 3) := by decide +kernel
theorem dX16_readsElement_116 : decode cX16_readsElement 116 = .ok (.iload_n 2, 1) := by decide +kernel
theorem dX16_readsElement_117 : decode cX16_readsElement 117 = .ok (.bipush 112, 2) := by decide +kernel
theorem dX16_readsElement_119 : decode cX16_readsElement 119 = .ok (.iastore, 1) := by decide +kernel
theorem dX16_readsElement_120 : decode cX16_readsElement 120 = .ok (.iload_n 1, 1) := by decide +kernel
theorem dX16_readsElement_121 : decode cX16_readsElement 121 = .ok (.ifCond .eq 37, 3) := by decide +kernel
theorem dX16_readsElement_124 : decode cX16_readsElement 124 = .ok (.iload_n 1, 1) := by decide +kernel
theorem dX16_readsElement_125 : decode cX16_readsElement 125 = .ok (.iconst 4, 1) := by decide +kernel
theorem dX16_readsElement_126 : decode cX16_readsElement 126 = .ok (.if_icmp .eq 32, 3) := by decide +kernel
theorem dX16_readsElement_129 : decode cX16_readsElement 129 = .ok (.iload_n 1, 1) := by decide +kernel
theorem dX16_readsElement_130 : decode cX16_readsElement 130 = .ok (.iconst 4, 1) := by decide +kernel
theorem dX16_readsElement_131 : decode cX16_readsElement 131 = .ok (.iand, 1) := by decide +kernel
theorem dX16_readsElement_132 : decode cX16_readsElement 132 = .ok (.ifCond .ne 13, 3) := by decide +kernel
theorem dX16_readsElement_135 : decode cX16_readsElement 135 = .ok (.aload_n 0, 1) := by decide +kernel
theorem dX16_readsElement_136 : decode cX16_readsElement 136 = .ok (.iconst 0, 1) := by decide +kernel
theorem dX16_readsElement_137 : decode cX16_readsElement 137 = .ok (.invokevirtual 393, 3) := by decide +kernel
theorem dX16_readsElement_140 : decode cX16_readsElement 140 = .ok (.istore 4, 2) := by decide +kernel
theorem dX16_readsElement_142 : decode cX16_readsElement 142 = .ok (.goto 16, 3) := by decide +kernel
theorem dX16_readsElement_145 : decode cX16_readsElement 145 = .ok (.aload_n 0, 1) := by decide +kernel
theorem dX16_readsElement_146 : decode cX16_readsElement 146 = .ok (.getfield 221, 3) := by decide +kernel
theorem dX16_readsElement_149 : decode cX16_readsElement 149 = .ok (.getfield 501, 3) := by decide +kernel
theorem dX16_readsElement_152 : decode cX16_readsElement 152 = .ok (.iload_n 2, 1) := by decide +kernel
theorem dX16_readsElement_153 : decode cX16_readsElement 153 = .ok (.aload_n 0, 1) := by decide +kernel
theorem dX16_readsElement_154 : decode cX16_readsElement 154 = .ok (.invokevirtual 405, 3) := by decide +kernel
theorem dX16_readsElement_157 : decode cX16_readsElement 157 = .ok (.iastore, 1) := by decide +kernel
theorem dX16_readsElement_158 : decode cX16_readsElement 158 = .ok (.aload_n 0, 1) := by decide +kernel
theorem dX16_readsElement_159 : decode cX16_readsElement 159 = .ok (.invokevirtual 277, 3) := by decide +kernel
theorem dX16_readsElement_162 : decode cX16_readsElement 162 = .ok (.lstore 4, 2) := by decide +kernel
theorem dX16_readsElement_164 : decode cX16_readsElement 164 = .ok (.aload_n 0, 1) := by decide +kernel
theorem dX16_readsElement_165 : decode cX16_readsElement 165 = .ok (.getfield 221, 3) := by decide +kernel
theorem dX16_readsElement_168 : decode cX16_readsElement 168 = .ok (.getfield 504, 3) := by decide +kernel
theorem dX16_readsElement_171 : decode cX16_readsElement 171 = .ok (.iload_n 2, 1) := by decide +kernel
theorem dX16_readsElement_172 : decode cX16_readsElement 172 = .ok (.aload_n 0, 1) := by decide +kernel
theorem dX16_readsElement_173 : decode cX16_readsElement 173 = .ok (.getfield 251, 3) := by decide +kernel
theorem dX16_readsElement_176 : decode cX16_readsElement 176 = .ok (.iastore, 1) := by decide +kernel
theorem dX16_readsElement_177 : decode cX16_readsElement 177 = .ok (.lconst 0, 1) := by decide +kernel
theorem dX16_readsElement_178 : decode cX16_readsElement 178 = .ok (.lstore 6, 2) := by decide +kernel
theorem dX16_readsElement_180 : decode cX16_readsElement 180 = .ok (.lload 6, 2) := by decide +kernel
theorem dX16_readsElement_182 : decode cX16_readsElement 182 = .ok (.lload 4, 2) := by decide +kernel
theorem dX16_readsElement_184 : decode cX16_readsElement 184 = .ok (.lcmp, 1) := by decide +kernel
theorem dX16_readsElement_185 : decode cX16_readsElement 185 = .ok (.ifCond .ge 32, 3) := by decide +kernel
theorem dX16_readsElement_188 : decode cX16_readsElement 188 = .ok (.iload_n 1, 1) := by decide +kernel
theorem dX16_readsElement_189 : decode cX16_readsElement 189 = .ok (.iconst 4, 1) := by decide +kernel
theorem dX16_readsElement_190 : decode cX16_readsElement 190 = .ok (.iand, 1) := by decide +kernel
theorem dX16_readsElement_191 : decode cX16_readsElement 191 = .ok (.ifCond .ne 12, 3) := by decide +kernel
theorem dX16_readsElement_194 : decode cX16_readsElement 194 = .ok (.aload_n 0, 1) := by decide +kernel
theorem dX16_readsElement_195 : decode cX16_readsElement 195 = .ok (.invokevirtual 277, 3) := by decide +kernel
theorem dX16_readsElement_198 : decode cX16_readsElement 198 = .ok (.lstore 8, 2) := by decide +kernel
theorem dX16_readsElement_200 : decode cX16_readsElement 200 = .ok (.goto 8, 3) := by decide +kernel
theorem dX16_readsElement_203 : decode cX16_readsElement 203 = .ok (.aload_n 0, 1) := by decide +kernel
theorem dX16_readsElement_204 : decode cX16_readsElement 204 = .ok (.iconst 0, 1) := by decide +kernel
theorem dX16_readsElement_205 : decode cX16_readsElement 205 = .ok (.invokevirtual 456, 3) := by decide +kernel
theorem dX16_readsElement_208 : decode cX16_readsElement 208 = .ok (.lload 6, 2) := by decide +kernel
theorem dX16_readsElement_210 : decode cX16_readsElement 210 = .ok (.lconst 1, 1) := by decide +kernel
theorem dX16_readsElement_211 : decode cX16_readsElement 211 = .ok (.ladd, 1) := by decide +kernel
theorem dX16_readsElement_212 : decode cX16_readsElement 212 = .ok (.lstore 6, 2) := by decide +kernel
theorem dX16_readsElement_214 : decode cX16_readsElement 214 = .ok (.goto (-34), 3) := by decide +kernel
theorem dX16_readsElement_217 : decode cX16_readsElement 217 = .ok (.aload_n 0, 1) := by decide +kernel
theorem dX16_readsElement_218 : decode cX16_readsElement 218 = .ok (.getfield 221, 3) := by decide +kernel
theorem dX16_readsElement_221 : decode cX16_readsElement 221 = .ok (.getfield 507, 3) := by decide +kernel
theorem dX16_readsElement_224 : decode cX16_readsElement 224 = .ok (.iload_n 2, 1) := by decide +kernel
theorem dX16_readsElement_225 : decode cX16_readsElement 225 = .ok (.lload 4, 2) := by decide +kernel
theorem dX16_readsElement_227 : decode cX16_readsElement 227 = .ok (.l2i, 1) := by decide +kernel
theorem dX16_readsElement_228 : decode cX16_readsElement 228 = .ok (.iastore, 1) := by decide +kernel
theorem dX16_readsElement_229 : decode cX16_readsElement 229 = .ok (.return_, 1) := by decide +kernel
noncomputable def tX16_readsElement_11 (x0 : Nat) (x1 : Int32) (x2 : Int32) (s0 : Int32) (h : pm_H) : Option (((Nat × Int32 × Int32 × Int32 × pm_H) ⊕ (Nat × Int32 × Int32 × Int32 × Int32 × Int32 × Nat × pm_H) ⊕ (Nat × Int32 × Int32 × Int32 × Int32 × Nat × pm_H) ⊕ (Nat × Int32 × Int32 × Int32 × Int64 × Int32 × Nat × pm_H) ⊕ (Nat × Int32 × Int32 × pm_H) ⊕ (Nat × Int32 × Int32 × Int32 × Int32 × Nat × pm_H) ⊕ (Nat × Int32 × Int32 × Int64 × Int64 × pm_H)) ⊕ ((Nat × pm_H) ⊕ pm_H)) := if pm_kd h x0 = 16 then (pm_R h x0 10).bind fun v3 => if pm_kd h v3 = 14 then (pm_R h v3 35).bind fun v6 => if s0 = 0 then (if (x1 &&& 2) = 0 then (some (.inl (.inr (.inl ((x0, x1, x2, s0, 1, x2, v6, h)))))) else (some (.inl (.inr (.inl ((x0, x1, x2, s0, 2, x2, v6, h))))))) else (some (.inl (.inr (.inl ((x0, x1, x2, s0, 0, x2, v6, h)))))) else none else none
noncomputable def tX16_readsElement_39 (x0 : Nat) (x1 : Int32) (x2 : Int32) (x3 : Int32) (s0 : Int32) (s1 : Int32) (s2 : Nat) (h : pm_H) : Option (((Nat × Int32 × Int32 × Int32 × pm_H) ⊕ (Nat × Int32 × Int32 × Int32 × Int32 × Int32 × Nat × pm_H) ⊕ (Nat × Int32 × Int32 × Int32 × Int32 × Nat × pm_H) ⊕ (Nat × Int32 × Int32 × Int32 × Int64 × Int32 × Nat × pm_H) ⊕ (Nat × Int32 × Int32 × pm_H) ⊕ (Nat × Int32 × Int32 × Int32 × Int32 × Nat × pm_H) ⊕ (Nat × Int32 × Int32 × Int64 × Int64 × pm_H)) ⊕ ((Nat × pm_H) ⊕ pm_H)) := if pm_kd h s2 = 34 then if pm_in s1 (pm_ln h s2) then if pm_kd (pm_setI h s2 s1.toNatClampNeg s0) x0 = 16 then (pm_R (pm_setI h s2 s1.toNatClampNeg s0) x0 10).bind fun v13 => if pm_kd (pm_setI h s2 s1.toNatClampNeg s0) v13 = 14 then (pm_R (pm_setI h s2 s1.toNatClampNeg s0) v13 36).bind fun v16 => if x3 = 0 then (some (.inl (.inr (.inr (.inl ((x0, x1, x2, x3, x2, v16, pm_setI h s2 s1.toNatClampNeg s0))))))) else (if (x1 &&& 2) = 0 then (some (.inl (.inr (.inr (.inl ((x0, x1, x2, x3, x2, v16, pm_setI h s2 s1.toNatClampNeg s0))))))) else ((fX16_number (pm_setI h s2 s1.toNatClampNeg s0) x0).bind fun v20 => pt_s v20 fun w22 => some (.inl (.inr (.inr (.inr (.inl ((x0, x1, x2, x3, w22.1, x2, v16, w22.2))))))))) else none else none else none else none
noncomputable def tX16_readsElement_65 (x0 : Nat) (x1 : Int32) (x2 : Int32) (x3 : Int32) (s0 : Int32) (s1 : Nat) (h : pm_H) : Option (((Nat × Int32 × Int32 × Int32 × pm_H) ⊕ (Nat × Int32 × Int32 × Int32 × Int32 × Int32 × Nat × pm_H) ⊕ (Nat × Int32 × Int32 × Int32 × Int32 × Nat × pm_H) ⊕ (Nat × Int32 × Int32 × Int32 × Int64 × Int32 × Nat × pm_H) ⊕ (Nat × Int32 × Int32 × pm_H) ⊕ (Nat × Int32 × Int32 × Int32 × Int32 × Nat × pm_H) ⊕ (Nat × Int32 × Int32 × Int64 × Int64 × pm_H)) ⊕ ((Nat × pm_H) ⊕ pm_H)) := some (.inl (.inr (.inr (.inr (.inl ((x0, x1, x2, x3, 0, s0, s1, h)))))))
noncomputable def tX16_readsElement_66 (x0 : Nat) (x1 : Int32) (x2 : Int32) (x3 : Int32) (s0 : Int64) (s1 : Int32) (s2 : Nat) (h : pm_H) : Option (((Nat × Int32 × Int32 × Int32 × pm_H) ⊕ (Nat × Int32 × Int32 × Int32 × Int32 × Int32 × Nat × pm_H) ⊕ (Nat × Int32 × Int32 × Int32 × Int32 × Nat × pm_H) ⊕ (Nat × Int32 × Int32 × Int32 × Int64 × Int32 × Nat × pm_H) ⊕ (Nat × Int32 × Int32 × pm_H) ⊕ (Nat × Int32 × Int32 × Int32 × Int32 × Nat × pm_H) ⊕ (Nat × Int32 × Int32 × Int64 × Int64 × pm_H)) ⊕ ((Nat × pm_H) ⊕ pm_H)) := if pm_kd h s2 = 35 then if pm_in s1 (pm_ln h s2) then if pm_kd (pm_setL h s2 s1.toNatClampNeg s0) x0 = 16 then (pm_R (pm_setL h s2 s1.toNatClampNeg s0) x0 10).bind fun v27 => if pm_kd (pm_setL h s2 s1.toNatClampNeg s0) v27 = 14 then (pm_R (pm_setL h s2 s1.toNatClampNeg s0) v27 37).bind fun v30 => pm_let (pm_I (pm_setL h s2 s1.toNatClampNeg s0) x0 11) fun y32 => if pm_kd (pm_setL h s2 s1.toNatClampNeg s0) v30 = 34 then if pm_in x2 (pm_ln (pm_setL h s2 s1.toNatClampNeg s0) v30) then if x3 = 0 then (some (.inl (.inr (.inr (.inr (.inr (.inl ((x0, x1, x2, pm_setI (pm_setL h s2 s1.toNatClampNeg s0) v30 x2.toNatClampNeg y32))))))))) else ((fX16_expression (pm_setI (pm_setL h s2 s1.toNatClampNeg s0) v30 x2.toNatClampNeg y32) x0 0).bind fun v37 => pt_s v37 fun w39 => some (.inl (.inr (.inr (.inr (.inr (.inl ((x0, x1, x2, w39))))))))) else none else none else none else none else none else none
noncomputable def tX16_readsElement_89 (x0 : Nat) (x1 : Int32) (x2 : Int32) (h : pm_H) : Option (((Nat × Int32 × Int32 × Int32 × pm_H) ⊕ (Nat × Int32 × Int32 × Int32 × Int32 × Int32 × Nat × pm_H) ⊕ (Nat × Int32 × Int32 × Int32 × Int32 × Nat × pm_H) ⊕ (Nat × Int32 × Int32 × Int32 × Int64 × Int32 × Nat × pm_H) ⊕ (Nat × Int32 × Int32 × pm_H) ⊕ (Nat × Int32 × Int32 × Int32 × Int32 × Nat × pm_H) ⊕ (Nat × Int32 × Int32 × Int64 × Int64 × pm_H)) ⊕ ((Nat × pm_H) ⊕ pm_H)) := if pm_kd h x0 = 16 then (pm_R h x0 10).bind fun v42 => if pm_kd h v42 = 14 then (pm_R h v42 39).bind fun v45 => if (x1 &&& 4) = 0 then (some (.inl (.inr (.inr (.inr (.inr (.inr (.inl ((x0, x1, x2, 0, x2, v45, h)))))))))) else (some (.inl (.inr (.inr (.inr (.inr (.inr (.inl ((x0, x1, x2, 1, x2, v45, h)))))))))) else none else none
noncomputable def tX16_readsElement_108 (x0 : Nat) (x1 : Int32) (x2 : Int32) (s0 : Int32) (s1 : Int32) (s2 : Nat) (h : pm_H) : Option (((Nat × Int32 × Int32 × Int32 × pm_H) ⊕ (Nat × Int32 × Int32 × Int32 × Int32 × Int32 × Nat × pm_H) ⊕ (Nat × Int32 × Int32 × Int32 × Int32 × Nat × pm_H) ⊕ (Nat × Int32 × Int32 × Int32 × Int64 × Int32 × Nat × pm_H) ⊕ (Nat × Int32 × Int32 × pm_H) ⊕ (Nat × Int32 × Int32 × Int32 × Int32 × Nat × pm_H) ⊕ (Nat × Int32 × Int32 × Int64 × Int64 × pm_H)) ⊕ ((Nat × pm_H) ⊕ pm_H)) := if pm_kd h s2 = 32 then if pm_in s1 (pm_ln h s2) then if pm_kd (pm_setI h s2 s1.toNatClampNeg (vp_nar .boolean s0)) x0 = 16 then (pm_R (pm_setI h s2 s1.toNatClampNeg (vp_nar .boolean s0)) x0 10).bind fun v51 => if pm_kd (pm_setI h s2 s1.toNatClampNeg (vp_nar .boolean s0)) v51 = 14 then (pm_R (pm_setI h s2 s1.toNatClampNeg (vp_nar .boolean s0)) v51 38).bind fun v54 => if pm_kd (pm_setI h s2 s1.toNatClampNeg (vp_nar .boolean s0)) v54 = 34 then if pm_in x2 (pm_ln (pm_setI h s2 s1.toNatClampNeg (vp_nar .boolean s0)) v54) then if x1 = 0 then ((fX16_number (pm_setI (pm_setI h s2 s1.toNatClampNeg (vp_nar .boolean s0)) v54 x2.toNatClampNeg 112) x0).bind fun v59 => pt_s v59 fun w61 => if pm_kd w61.2 x0 = 16 then (pm_R w61.2 x0 10).bind fun v64 => if pm_kd w61.2 v64 = 14 then (pm_R w61.2 v64 41).bind fun v67 => pm_let (pm_I w61.2 x0 11) fun y69 => if pm_kd w61.2 v67 = 34 then if pm_in x2 (pm_ln w61.2 v67) then some (.inl (.inr (.inr (.inr (.inr (.inr (.inr ((x0, x1, x2, w61.1, 0, pm_setI w61.2 v67 x2.toNatClampNeg y69))))))))) else none else none else none else none) else (if x1 = 4 then ((fX16_number (pm_setI (pm_setI h s2 s1.toNatClampNeg (vp_nar .boolean s0)) v54 x2.toNatClampNeg 112) x0).bind fun v74 => pt_s v74 fun w76 => if pm_kd w76.2 x0 = 16 then (pm_R w76.2 x0 10).bind fun v79 => if pm_kd w76.2 v79 = 14 then (pm_R w76.2 v79 41).bind fun v82 => pm_let (pm_I w76.2 x0 11) fun y84 => if pm_kd w76.2 v82 = 34 then if pm_in x2 (pm_ln w76.2 v82) then some (.inl (.inr (.inr (.inr (.inr (.inr (.inr ((x0, x1, x2, w76.1, 0, pm_setI w76.2 v82 x2.toNatClampNeg y84))))))))) else none else none else none else none) else (if (x1 &&& 4) = 0 then ((fX16_small (pm_setI (pm_setI h s2 s1.toNatClampNeg (vp_nar .boolean s0)) v54 x2.toNatClampNeg 112) x0 0).bind fun v110 => pt_s v110 fun w112 => if pm_kd w112.2 x0 = 16 then (fX16_number w112.2 x0).bind fun v115 => pt_s v115 fun w117 => if pm_kd w117.2 x0 = 16 then (pm_R w117.2 x0 10).bind fun v120 => if pm_kd w117.2 v120 = 14 then (pm_R w117.2 v120 41).bind fun v123 => pm_let (pm_I w117.2 x0 11) fun y125 => if pm_kd w117.2 v123 = 34 then if pm_in x2 (pm_ln w117.2 v123) then some (.inl (.inr (.inr (.inr (.inr (.inr (.inr ((x0, x1, x2, w117.1, 0, pm_setI w117.2 v123 x2.toNatClampNeg y125))))))))) else none else none else none else none else none) else ((fX16_referenceType (pm_setI (pm_setI h s2 s1.toNatClampNeg (vp_nar .boolean s0)) v54 x2.toNatClampNeg 112) x0).bind fun v89 => pt_s v89 fun w91 => if pm_kd w91.2 v54 = 34 then if pm_in x2 (pm_ln w91.2 v54) then if pm_kd (pm_setI w91.2 v54 x2.toNatClampNeg w91.1) x0 = 16 then (fX16_number (pm_setI w91.2 v54 x2.toNatClampNeg w91.1) x0).bind fun v96 => pt_s v96 fun w98 => if pm_kd w98.2 x0 = 16 then (pm_R w98.2 x0 10).bind fun v101 => if pm_kd w98.2 v101 = 14 then (pm_R w98.2 v101 41).bind fun v104 => pm_let (pm_I w98.2 x0 11) fun y106 => if pm_kd w98.2 v104 = 34 then if pm_in x2 (pm_ln w98.2 v104) then some (.inl (.inr (.inr (.inr (.inr (.inr (.inr ((x0, x1, x2, w98.1, 0, pm_setI w98.2 v104 x2.toNatClampNeg y106))))))))) else none else none else none else none else none else none else none))) else none else none else none else none else none else none
noncomputable def tX16_readsElement_180 (x0 : Nat) (x1 : Int32) (x2 : Int32) (x4 : Int64) (x6 : Int64) (h : pm_H) : Option (((Nat × Int32 × Int32 × Int32 × pm_H) ⊕ (Nat × Int32 × Int32 × Int32 × Int32 × Int32 × Nat × pm_H) ⊕ (Nat × Int32 × Int32 × Int32 × Int32 × Nat × pm_H) ⊕ (Nat × Int32 × Int32 × Int32 × Int64 × Int32 × Nat × pm_H) ⊕ (Nat × Int32 × Int32 × pm_H) ⊕ (Nat × Int32 × Int32 × Int32 × Int32 × Nat × pm_H) ⊕ (Nat × Int32 × Int32 × Int64 × Int64 × pm_H)) ⊕ ((Nat × pm_H) ⊕ pm_H)) := if x4 ≤ x6 then (if pm_kd h x0 = 16 then (pm_R h x0 10).bind fun v131 => if pm_kd h v131 = 14 then (pm_R h v131 40).bind fun v134 => if pm_kd h v134 = 34 then if pm_in x2 (pm_ln h v134) then some (.inr (.inr (pm_setI h v134 x2.toNatClampNeg x4.toInt32))) else none else none else none else none) else (if (x1 &&& 4) = 0 then (if pm_kd h x0 = 16 then (fX16_number h x0).bind fun v147 => pt_s v147 fun w149 => pm_let (x6 + 1) fun y151 => some (.inl (.inr (.inr (.inr (.inr (.inr (.inr ((x0, x1, x2, x4, y151, w149.2))))))))) else none) else (if pm_kd h x0 = 16 then (fX16_expression h x0 0).bind fun v140 => pt_s v140 fun w142 => pm_let (x6 + 1) fun y144 => some (.inl (.inr (.inr (.inr (.inr (.inr (.inr ((x0, x1, x2, x4, y144, w142))))))))) else none))
noncomputable def sX16_readsElement : ((Nat × Int32 × Int32 × Int32 × pm_H) ⊕ (Nat × Int32 × Int32 × Int32 × Int32 × Int32 × Nat × pm_H) ⊕ (Nat × Int32 × Int32 × Int32 × Int32 × Nat × pm_H) ⊕ (Nat × Int32 × Int32 × Int32 × Int64 × Int32 × Nat × pm_H) ⊕ (Nat × Int32 × Int32 × pm_H) ⊕ (Nat × Int32 × Int32 × Int32 × Int32 × Nat × pm_H) ⊕ (Nat × Int32 × Int32 × Int64 × Int64 × pm_H)) → Option (((Nat × Int32 × Int32 × Int32 × pm_H) ⊕ (Nat × Int32 × Int32 × Int32 × Int32 × Int32 × Nat × pm_H) ⊕ (Nat × Int32 × Int32 × Int32 × Int32 × Nat × pm_H) ⊕ (Nat × Int32 × Int32 × Int32 × Int64 × Int32 × Nat × pm_H) ⊕ (Nat × Int32 × Int32 × pm_H) ⊕ (Nat × Int32 × Int32 × Int32 × Int32 × Nat × pm_H) ⊕ (Nat × Int32 × Int32 × Int64 × Int64 × pm_H)) ⊕ ((Nat × pm_H) ⊕ pm_H)) := fun z => match z with
  | .inl (x0, x1, x2, s0, h) => tX16_readsElement_11 x0 x1 x2 s0 h
  | .inr (.inl (x0, x1, x2, x3, s0, s1, s2, h)) => tX16_readsElement_39 x0 x1 x2 x3 s0 s1 s2 h
  | .inr (.inr (.inl (x0, x1, x2, x3, s0, s1, h))) => tX16_readsElement_65 x0 x1 x2 x3 s0 s1 h
  | .inr (.inr (.inr (.inl (x0, x1, x2, x3, s0, s1, s2, h)))) => tX16_readsElement_66 x0 x1 x2 x3 s0 s1 s2 h
  | .inr (.inr (.inr (.inr (.inl (x0, x1, x2, h))))) => tX16_readsElement_89 x0 x1 x2 h
  | .inr (.inr (.inr (.inr (.inr (.inl (x0, x1, x2, s0, s1, s2, h)))))) => tX16_readsElement_108 x0 x1 x2 s0 s1 s2 h
  | .inr (.inr (.inr (.inr (.inr (.inr (x0, x1, x2, x4, x6, h)))))) => tX16_readsElement_180 x0 x1 x2 x4 x6 h
noncomputable def fX16_readsElement (h : pm_H) (a0 : Nat) (p1 : Int32) (p2 : Int32) : Option ((Nat × pm_H) ⊕ pm_H) := if (p1 &&& 1) = 0 then (pm_lim sX16_readsElement (.inl ((a0, p1, p2, 1, h)))) else (pm_lim sX16_readsElement (.inl ((a0, p1, p2, 0, h))))
set_option maxHeartbeats 4000000 in
set_option maxRecDepth 100000 in
theorem lpX16_readsElement {g : pm_Gm} {l : Launch} {G : pm_Gl} {Qr : Option Value → pm_H → Prop} {Qt : Nat → pm_H → Prop} (C : pm_C g cX16_readsElement RX16) (X : pm_XT g l G mX16_readsElement 0 0 Qr Qt) {r : ((Nat × pm_H) ⊕ pm_H)} (q : pt_eV Qr Qt r) : ∀ n : Nat, (∀ (x0 : Nat) (x1 : Int32) (x2 : Int32) (s0 : Int32) (h : pm_H), pm_iter sX16_readsElement n (.inl (x0, x1, x2, s0, h)) = some r → pm_G g 11 [(0, .ref x0), (1, .int x1), (2, .int x2)] [.int s0] h 0 0) ∧ (∀ (x0 : Nat) (x1 : Int32) (x2 : Int32) (x3 : Int32) (s0 : Int32) (s1 : Int32) (s2 : Nat) (h : pm_H), pm_iter sX16_readsElement n (.inr (.inl (x0, x1, x2, x3, s0, s1, s2, h))) = some r → pm_G g 39 [(0, .ref x0), (1, .int x1), (2, .int x2), (3, .int x3)] [.int s0, .int s1, .ref s2] h 0 0) ∧ (∀ (x0 : Nat) (x1 : Int32) (x2 : Int32) (x3 : Int32) (s0 : Int32) (s1 : Nat) (h : pm_H), pm_iter sX16_readsElement n (.inr (.inr (.inl (x0, x1, x2, x3, s0, s1, h)))) = some r → pm_G g 65 [(0, .ref x0), (1, .int x1), (2, .int x2), (3, .int x3)] [.int s0, .ref s1] h 0 0) ∧ (∀ (x0 : Nat) (x1 : Int32) (x2 : Int32) (x3 : Int32) (s0 : Int64) (s1 : Int32) (s2 : Nat) (h : pm_H), pm_iter sX16_readsElement n (.inr (.inr (.inr (.inl (x0, x1, x2, x3, s0, s1, s2, h))))) = some r → pm_G g 66 [(0, .ref x0), (1, .int x1), (2, .int x2), (3, .int x3)] [.long s0, .int s1, .ref s2] h 0 0) ∧ (∀ (x0 : Nat) (x1 : Int32) (x2 : Int32) (h : pm_H), pm_iter sX16_readsElement n (.inr (.inr (.inr (.inr (.inl (x0, x1, x2, h)))))) = some r → pm_G g 89 [(0, .ref x0), (1, .int x1), (2, .int x2)] [] h 0 0) ∧ (∀ (x0 : Nat) (x1 : Int32) (x2 : Int32) (s0 : Int32) (s1 : Int32) (s2 : Nat) (h : pm_H), pm_iter sX16_readsElement n (.inr (.inr (.inr (.inr (.inr (.inl (x0, x1, x2, s0, s1, s2, h))))))) = some r → pm_G g 108 [(0, .ref x0), (1, .int x1), (2, .int x2)] [.int s0, .int s1, .ref s2] h 0 0) ∧ (∀ (x0 : Nat) (x1 : Int32) (x2 : Int32) (x4 : Int64) (x6 : Int64) (h : pm_H), pm_iter sX16_readsElement n (.inr (.inr (.inr (.inr (.inr (.inr (x0, x1, x2, x4, x6, h))))))) = some r → pm_G g 180 [(0, .ref x0), (1, .int x1), (2, .int x2), (4, .long x4), (6, .long x6)] [] h 0 0) := by
  intro n
  induction n with
  | zero => exact ⟨fun _ _ _ _ _ hf => (by cases hf), fun _ _ _ _ _ _ _ _ hf => (by cases hf), fun _ _ _ _ _ _ _ hf => (by cases hf), fun _ _ _ _ _ _ _ _ hf => (by cases hf), fun _ _ _ _ hf => (by cases hf), fun _ _ _ _ _ _ _ hf => (by cases hf), fun _ _ _ _ _ _ hf => (by cases hf)⟩
  | succ n ih =>
    refine ⟨fun x0 x1 x2 s0 h hf => ?_, ?_⟩
    · obtain ⟨y, hf, hi⟩ := pm_iter_s hf
      have hf : tX16_readsElement_11 x0 x1 x2 s0 h = some y := hf
      unfold tX16_readsElement_11 at hf
      refine pm_istore_n (lv' := [(3, .int s0), (0, .ref x0), (1, .int x1), (2, .int x2)]) C dX16_readsElement_11 rfl (pt_nl X (by decide)) rfl ?_
      refine pm_aload_n C dX16_readsElement_12 rfl rfl ?_
      obtain ⟨k2, hf⟩ := pm_if hf
      obtain ⟨v3, e4, hf⟩ := pm_bd hf
      refine pm_getR C dX16_readsElement_13 flX16_221 rfl k2 e4 ?_
      obtain ⟨k5, hf⟩ := pm_if hf
      obtain ⟨v6, e7, hf⟩ := pm_bd hf
      refine pm_getR C dX16_readsElement_16 flX16_489 rfl k5 e7 ?_
      refine pm_iload_n C dX16_readsElement_19 rfl rfl ?_
      refine pm_iload_n C dX16_readsElement_20 rfl rfl ?_
      refine pm_if_eq (tgt := 28) C dX16_readsElement_21 (by decide) (fun c8 => ?_) (fun c8 => ?_)
      · have hf := pm_it hf c8
        refine pm_iload_n C dX16_readsElement_28 rfl rfl ?_
        refine pm_iconst (v := 2) C dX16_readsElement_29 (by decide) ?_
        refine pm_iand C dX16_readsElement_30 ?_
        refine pm_if_eq (tgt := 38) C dX16_readsElement_31 (by decide) (fun c9 => ?_) (fun c9 => ?_)
        · have hf := pm_it hf c9
          refine pm_iconst (v := 1) C dX16_readsElement_38 (by decide) ?_
          cases hf
          exact pm_sub [1, 2, 3, 0] rfl (ih.2.1 x0 x1 x2 s0 1 x2 v6 h hi)
        · have hf := pm_ie hf c9
          refine pm_iconst (v := 2) C dX16_readsElement_34 (by decide) ?_
          refine pm_goto (tgt := 39) C dX16_readsElement_35 (by decide) ?_
          cases hf
          exact pm_sub [1, 2, 3, 0] rfl (ih.2.1 x0 x1 x2 s0 2 x2 v6 h hi)
      · have hf := pm_ie hf c8
        refine pm_iconst (v := 0) C dX16_readsElement_24 (by decide) ?_
        refine pm_goto (tgt := 39) C dX16_readsElement_25 (by decide) ?_
        cases hf
        exact pm_sub [1, 2, 3, 0] rfl (ih.2.1 x0 x1 x2 s0 0 x2 v6 h hi)
    refine ⟨fun x0 x1 x2 x3 s0 s1 s2 h hf => ?_, ?_⟩
    · obtain ⟨y, hf, hi⟩ := pm_iter_s hf
      have hf : tX16_readsElement_39 x0 x1 x2 x3 s0 s1 s2 h = some y := hf
      unfold tX16_readsElement_39 at hf
      obtain ⟨k10, hf⟩ := pm_if hf
      obtain ⟨u11, hf⟩ := pm_if hf
      refine pm_iast C dX16_readsElement_39 k10 u11 ?_
      refine pm_aload_n C dX16_readsElement_40 rfl rfl ?_
      obtain ⟨k12, hf⟩ := pm_if hf
      obtain ⟨v13, e14, hf⟩ := pm_bd hf
      refine pm_getR C dX16_readsElement_41 flX16_221 rfl k12 e14 ?_
      obtain ⟨k15, hf⟩ := pm_if hf
      obtain ⟨v16, e17, hf⟩ := pm_bd hf
      refine pm_getR C dX16_readsElement_44 flX16_492 rfl k15 e17 ?_
      refine pm_iload_n C dX16_readsElement_47 rfl rfl ?_
      refine pm_iload_n C dX16_readsElement_48 rfl rfl ?_
      refine pm_if_eq (tgt := 65) C dX16_readsElement_49 (by decide) (fun c18 => ?_) (fun c18 => ?_)
      · have hf := pm_it hf c18
        cases hf
        exact pm_sub [0, 1, 2, 3] rfl (ih.2.2.1 x0 x1 x2 x3 x2 v16 (pm_setI h s2 s1.toNatClampNeg s0) hi)
      · have hf := pm_ie hf c18
        refine pm_iload_n C dX16_readsElement_52 rfl rfl ?_
        refine pm_iconst (v := 2) C dX16_readsElement_53 (by decide) ?_
        refine pm_iand C dX16_readsElement_54 ?_
        refine pm_if_eq (tgt := 65) C dX16_readsElement_55 (by decide) (fun c19 => ?_) (fun c19 => ?_)
        · have hf := pm_it hf c19
          cases hf
          exact pm_sub [0, 1, 2, 3] rfl (ih.2.2.1 x0 x1 x2 x3 x2 v16 (pm_setI h s2 s1.toNatClampNeg s0) hi)
        · have hf := pm_ie hf c19
          refine pm_aload_n C dX16_readsElement_58 rfl rfl ?_
          obtain ⟨v20, e21, hf⟩ := pm_bd hf
          refine pt_callVT (as := []) (st := [.int x2, .ref v16]) C X dX16_readsElement_59 ltX16_277 myX16_number viX16_number ⟨by decide, by decide⟩ rfl rfl k12 (Nat.le_of_ble_eq_true rfl) (Nat.le_refl _) (Nat.le_refl _) (ctX16_number e21 ?_)
          rcases v20 with z23 | w22
          · have hf := pt_sl hf
            cases hf
            cases hi
            exact q
          have hf := pt_sr hf
          show pm_G g 62 [(0, .ref x0), (1, .int x1), (2, .int x2), (3, .int x3)] [.long w22.1, .int x2, .ref v16] w22.2 0 0
          refine pm_goto (tgt := 66) C dX16_readsElement_62 (by decide) ?_
          cases hf
          exact pm_sub [0, 1, 2, 3] rfl (ih.2.2.2.1 x0 x1 x2 x3 w22.1 x2 v16 w22.2 hi)
    refine ⟨fun x0 x1 x2 x3 s0 s1 h hf => ?_, ?_⟩
    · obtain ⟨y, hf, hi⟩ := pm_iter_s hf
      have hf : tX16_readsElement_65 x0 x1 x2 x3 s0 s1 h = some y := hf
      unfold tX16_readsElement_65 at hf
      refine pm_lconst (v := 0) C dX16_readsElement_65 (by decide) ?_
      cases hf
      exact pm_sub [0, 1, 2, 3] rfl (ih.2.2.2.1 x0 x1 x2 x3 0 s0 s1 h hi)
    refine ⟨fun x0 x1 x2 x3 s0 s1 s2 h hf => ?_, ?_⟩
    · obtain ⟨y, hf, hi⟩ := pm_iter_s hf
      have hf : tX16_readsElement_66 x0 x1 x2 x3 s0 s1 s2 h = some y := hf
      unfold tX16_readsElement_66 at hf
      obtain ⟨k24, hf⟩ := pm_if hf
      obtain ⟨u25, hf⟩ := pm_if hf
      refine pm_last C dX16_readsElement_66 k24 u25 ?_
      refine pm_aload_n C dX16_readsElement_67 rfl rfl ?_
      obtain ⟨k26, hf⟩ := pm_if hf
      obtain ⟨v27, e28, hf⟩ := pm_bd hf
      refine pm_getR C dX16_readsElement_68 flX16_221 rfl k26 e28 ?_
      obtain ⟨k29, hf⟩ := pm_if hf
      obtain ⟨v30, e31, hf⟩ := pm_bd hf
      refine pm_getR C dX16_readsElement_71 flX16_495 rfl k29 e31 ?_
      refine pm_iload_n C dX16_readsElement_74 rfl rfl ?_
      refine pm_aload_n C dX16_readsElement_75 rfl rfl ?_
      refine pm_getI C dX16_readsElement_76 flX16_251 rfl k26 rfl ?_
      obtain ⟨y32, e33, hf⟩ := pm_lt hf
      refine pm_topI e33 ?_
      obtain ⟨k34, hf⟩ := pm_if hf
      obtain ⟨u35, hf⟩ := pm_if hf
      refine pm_iast C dX16_readsElement_79 k34 u35 ?_
      refine pm_iload_n C dX16_readsElement_80 rfl rfl ?_
      refine pm_if_eq (tgt := 89) C dX16_readsElement_81 (by decide) (fun c36 => ?_) (fun c36 => ?_)
      · have hf := pm_it hf c36
        cases hf
        exact pm_sub [0, 1, 2] rfl (ih.2.2.2.2.1 x0 x1 x2 (pm_setI (pm_setL h s2 s1.toNatClampNeg s0) v30 x2.toNatClampNeg y32) hi)
      · have hf := pm_ie hf c36
        refine pm_aload_n C dX16_readsElement_84 rfl rfl ?_
        refine pm_iconst (v := 0) C dX16_readsElement_85 (by decide) ?_
        obtain ⟨v37, e38, hf⟩ := pm_bd hf
        refine pt_callVT (as := [.int 0]) (st := []) C X dX16_readsElement_86 ltX16_456 myX16_expression viX16_expression ⟨by decide, by decide⟩ rfl rfl k26 (Nat.le_of_ble_eq_true rfl) (Nat.le_refl _) (Nat.le_refl _) (ctX16_expression e38 ?_)
        rcases v37 with z40 | w39
        · have hf := pt_sl hf
          cases hf
          cases hi
          exact q
        have hf := pt_sr hf
        show pm_G g 89 [(0, .ref x0), (1, .int x1), (2, .int x2), (3, .int x3)] [] w39 0 0
        cases hf
        exact pm_sub [0, 1, 2] rfl (ih.2.2.2.2.1 x0 x1 x2 w39 hi)
    refine ⟨fun x0 x1 x2 h hf => ?_, ?_⟩
    · obtain ⟨y, hf, hi⟩ := pm_iter_s hf
      have hf : tX16_readsElement_89 x0 x1 x2 h = some y := hf
      unfold tX16_readsElement_89 at hf
      refine pm_aload_n C dX16_readsElement_89 rfl rfl ?_
      obtain ⟨k41, hf⟩ := pm_if hf
      obtain ⟨v42, e43, hf⟩ := pm_bd hf
      refine pm_getR C dX16_readsElement_90 flX16_221 rfl k41 e43 ?_
      obtain ⟨k44, hf⟩ := pm_if hf
      obtain ⟨v45, e46, hf⟩ := pm_bd hf
      refine pm_getR C dX16_readsElement_93 flX16_498 rfl k44 e46 ?_
      refine pm_iload_n C dX16_readsElement_96 rfl rfl ?_
      refine pm_iload_n C dX16_readsElement_97 rfl rfl ?_
      refine pm_iconst (v := 4) C dX16_readsElement_98 (by decide) ?_
      refine pm_iand C dX16_readsElement_99 ?_
      refine pm_if_eq (tgt := 107) C dX16_readsElement_100 (by decide) (fun c47 => ?_) (fun c47 => ?_)
      · have hf := pm_it hf c47
        refine pm_iconst (v := 0) C dX16_readsElement_107 (by decide) ?_
        cases hf
        exact pm_sub [0, 1, 2] rfl (ih.2.2.2.2.2.1 x0 x1 x2 0 x2 v45 h hi)
      · have hf := pm_ie hf c47
        refine pm_iconst (v := 1) C dX16_readsElement_103 (by decide) ?_
        refine pm_goto (tgt := 108) C dX16_readsElement_104 (by decide) ?_
        cases hf
        exact pm_sub [0, 1, 2] rfl (ih.2.2.2.2.2.1 x0 x1 x2 1 x2 v45 h hi)
    refine ⟨fun x0 x1 x2 s0 s1 s2 h hf => ?_, ?_⟩
    · obtain ⟨y, hf, hi⟩ := pm_iter_s hf
      have hf : tX16_readsElement_108 x0 x1 x2 s0 s1 s2 h = some y := hf
      unfold tX16_readsElement_108 at hf
      obtain ⟨k48, hf⟩ := pm_if hf
      obtain ⟨u49, hf⟩ := pm_if hf
      refine pm_zast C dX16_readsElement_108 k48 u49 ?_
      refine pm_aload_n C dX16_readsElement_109 rfl rfl ?_
      obtain ⟨k50, hf⟩ := pm_if hf
      obtain ⟨v51, e52, hf⟩ := pm_bd hf
      refine pm_getR C dX16_readsElement_110 flX16_221 rfl k50 e52 ?_
      obtain ⟨k53, hf⟩ := pm_if hf
      obtain ⟨v54, e55, hf⟩ := pm_bd hf
      refine pm_getR C dX16_readsElement_113 flX16_501 rfl k53 e55 ?_
      refine pm_iload_n C dX16_readsElement_116 rfl rfl ?_
      refine pm_bipush (v := 112) C dX16_readsElement_117 (by decide) ?_
      obtain ⟨k56, hf⟩ := pm_if hf
      obtain ⟨u57, hf⟩ := pm_if hf
      refine pm_iast C dX16_readsElement_119 k56 u57 ?_
      refine pm_iload_n C dX16_readsElement_120 rfl rfl ?_
      refine pm_if_eq (tgt := 158) C dX16_readsElement_121 (by decide) (fun c58 => ?_) (fun c58 => ?_)
      · have hf := pm_it hf c58
        refine pm_aload_n C dX16_readsElement_158 rfl rfl ?_
        obtain ⟨v59, e60, hf⟩ := pm_bd hf
        refine pt_callVT (as := []) (st := []) C X dX16_readsElement_159 ltX16_277 myX16_number viX16_number ⟨by decide, by decide⟩ rfl rfl k50 (Nat.le_of_ble_eq_true rfl) (Nat.le_refl _) (Nat.le_refl _) (ctX16_number e60 ?_)
        rcases v59 with z62 | w61
        · have hf := pt_sl hf
          cases hf
          cases hi
          exact q
        have hf := pt_sr hf
        show pm_G g 162 [(0, .ref x0), (1, .int x1), (2, .int x2)] [.long w61.1] w61.2 0 0
        refine pm_lstore (lv' := [(4, .long w61.1), (0, .ref x0), (1, .int x1), (2, .int x2)]) C dX16_readsElement_162 (pt_nl X (by decide)) rfl ?_
        refine pm_aload_n C dX16_readsElement_164 rfl rfl ?_
        obtain ⟨k63, hf⟩ := pm_if hf
        obtain ⟨v64, e65, hf⟩ := pm_bd hf
        refine pm_getR C dX16_readsElement_165 flX16_221 rfl k63 e65 ?_
        obtain ⟨k66, hf⟩ := pm_if hf
        obtain ⟨v67, e68, hf⟩ := pm_bd hf
        refine pm_getR C dX16_readsElement_168 flX16_504 rfl k66 e68 ?_
        refine pm_iload_n C dX16_readsElement_171 rfl rfl ?_
        refine pm_aload_n C dX16_readsElement_172 rfl rfl ?_
        refine pm_getI C dX16_readsElement_173 flX16_251 rfl k63 rfl ?_
        obtain ⟨y69, e70, hf⟩ := pm_lt hf
        refine pm_topI e70 ?_
        obtain ⟨k71, hf⟩ := pm_if hf
        obtain ⟨u72, hf⟩ := pm_if hf
        refine pm_iast C dX16_readsElement_176 k71 u72 ?_
        refine pm_lconst (v := 0) C dX16_readsElement_177 (by decide) ?_
        refine pm_lstore (lv' := [(6, .long 0), (4, .long w61.1), (0, .ref x0), (1, .int x1), (2, .int x2)]) C dX16_readsElement_178 (pt_nl X (by decide)) rfl ?_
        cases hf
        exact pm_sub [2, 3, 4, 1, 0] rfl (ih.2.2.2.2.2.2 x0 x1 x2 w61.1 0 (pm_setI w61.2 v67 x2.toNatClampNeg y69) hi)
      · have hf := pm_ie hf c58
        refine pm_iload_n C dX16_readsElement_124 rfl rfl ?_
        refine pm_iconst (v := 4) C dX16_readsElement_125 (by decide) ?_
        refine pm_icmp_eq (tgt := 158) C dX16_readsElement_126 (by decide) (fun c73 => ?_) (fun c73 => ?_)
        · have hf := pm_it hf c73
          refine pm_aload_n C dX16_readsElement_158 rfl rfl ?_
          obtain ⟨v74, e75, hf⟩ := pm_bd hf
          refine pt_callVT (as := []) (st := []) C X dX16_readsElement_159 ltX16_277 myX16_number viX16_number ⟨by decide, by decide⟩ rfl rfl k50 (Nat.le_of_ble_eq_true rfl) (Nat.le_refl _) (Nat.le_refl _) (ctX16_number e75 ?_)
          rcases v74 with z77 | w76
          · have hf := pt_sl hf
            cases hf
            cases hi
            exact q
          have hf := pt_sr hf
          show pm_G g 162 [(0, .ref x0), (1, .int x1), (2, .int x2)] [.long w76.1] w76.2 0 0
          refine pm_lstore (lv' := [(4, .long w76.1), (0, .ref x0), (1, .int x1), (2, .int x2)]) C dX16_readsElement_162 (pt_nl X (by decide)) rfl ?_
          refine pm_aload_n C dX16_readsElement_164 rfl rfl ?_
          obtain ⟨k78, hf⟩ := pm_if hf
          obtain ⟨v79, e80, hf⟩ := pm_bd hf
          refine pm_getR C dX16_readsElement_165 flX16_221 rfl k78 e80 ?_
          obtain ⟨k81, hf⟩ := pm_if hf
          obtain ⟨v82, e83, hf⟩ := pm_bd hf
          refine pm_getR C dX16_readsElement_168 flX16_504 rfl k81 e83 ?_
          refine pm_iload_n C dX16_readsElement_171 rfl rfl ?_
          refine pm_aload_n C dX16_readsElement_172 rfl rfl ?_
          refine pm_getI C dX16_readsElement_173 flX16_251 rfl k78 rfl ?_
          obtain ⟨y84, e85, hf⟩ := pm_lt hf
          refine pm_topI e85 ?_
          obtain ⟨k86, hf⟩ := pm_if hf
          obtain ⟨u87, hf⟩ := pm_if hf
          refine pm_iast C dX16_readsElement_176 k86 u87 ?_
          refine pm_lconst (v := 0) C dX16_readsElement_177 (by decide) ?_
          refine pm_lstore (lv' := [(6, .long 0), (4, .long w76.1), (0, .ref x0), (1, .int x1), (2, .int x2)]) C dX16_readsElement_178 (pt_nl X (by decide)) rfl ?_
          cases hf
          exact pm_sub [2, 3, 4, 1, 0] rfl (ih.2.2.2.2.2.2 x0 x1 x2 w76.1 0 (pm_setI w76.2 v82 x2.toNatClampNeg y84) hi)
        · have hf := pm_ie hf c73
          refine pm_iload_n C dX16_readsElement_129 rfl rfl ?_
          refine pm_iconst (v := 4) C dX16_readsElement_130 (by decide) ?_
          refine pm_iand C dX16_readsElement_131 ?_
          refine pm_if_ne (tgt := 145) C dX16_readsElement_132 (by decide) (fun c88 => ?_) (fun c88 => ?_)
          · have hf := pm_ie hf c88
            refine pm_aload_n C dX16_readsElement_145 rfl rfl ?_
            refine pm_getR C dX16_readsElement_146 flX16_221 rfl k50 e52 ?_
            refine pm_getR C dX16_readsElement_149 flX16_501 rfl k53 e55 ?_
            refine pm_iload_n C dX16_readsElement_152 rfl rfl ?_
            refine pm_aload_n C dX16_readsElement_153 rfl rfl ?_
            obtain ⟨v89, e90, hf⟩ := pm_bd hf
            refine pt_callVT (as := []) (st := [.int x2, .ref v54]) C X dX16_readsElement_154 ltX16_405 myX16_referenceType viX16_referenceType ⟨by decide, by decide⟩ rfl rfl k50 (Nat.le_of_ble_eq_true rfl) (Nat.le_refl _) (Nat.le_refl _) (ctX16_referenceType e90 ?_)
            rcases v89 with z92 | w91
            · have hf := pt_sl hf
              cases hf
              cases hi
              exact q
            have hf := pt_sr hf
            show pm_G g 157 [(0, .ref x0), (1, .int x1), (2, .int x2)] [.int w91.1, .int x2, .ref v54] w91.2 0 0
            obtain ⟨k93, hf⟩ := pm_if hf
            obtain ⟨u94, hf⟩ := pm_if hf
            refine pm_iast C dX16_readsElement_157 k93 u94 ?_
            refine pm_aload_n C dX16_readsElement_158 rfl rfl ?_
            obtain ⟨k95, hf⟩ := pm_if hf
            obtain ⟨v96, e97, hf⟩ := pm_bd hf
            refine pt_callVT (as := []) (st := []) C X dX16_readsElement_159 ltX16_277 myX16_number viX16_number ⟨by decide, by decide⟩ rfl rfl k95 (Nat.le_of_ble_eq_true rfl) (Nat.le_refl _) (Nat.le_refl _) (ctX16_number e97 ?_)
            rcases v96 with z99 | w98
            · have hf := pt_sl hf
              cases hf
              cases hi
              exact q
            have hf := pt_sr hf
            show pm_G g 162 [(0, .ref x0), (1, .int x1), (2, .int x2)] [.long w98.1] w98.2 0 0
            refine pm_lstore (lv' := [(4, .long w98.1), (0, .ref x0), (1, .int x1), (2, .int x2)]) C dX16_readsElement_162 (pt_nl X (by decide)) rfl ?_
            refine pm_aload_n C dX16_readsElement_164 rfl rfl ?_
            obtain ⟨k100, hf⟩ := pm_if hf
            obtain ⟨v101, e102, hf⟩ := pm_bd hf
            refine pm_getR C dX16_readsElement_165 flX16_221 rfl k100 e102 ?_
            obtain ⟨k103, hf⟩ := pm_if hf
            obtain ⟨v104, e105, hf⟩ := pm_bd hf
            refine pm_getR C dX16_readsElement_168 flX16_504 rfl k103 e105 ?_
            refine pm_iload_n C dX16_readsElement_171 rfl rfl ?_
            refine pm_aload_n C dX16_readsElement_172 rfl rfl ?_
            refine pm_getI C dX16_readsElement_173 flX16_251 rfl k100 rfl ?_
            obtain ⟨y106, e107, hf⟩ := pm_lt hf
            refine pm_topI e107 ?_
            obtain ⟨k108, hf⟩ := pm_if hf
            obtain ⟨u109, hf⟩ := pm_if hf
            refine pm_iast C dX16_readsElement_176 k108 u109 ?_
            refine pm_lconst (v := 0) C dX16_readsElement_177 (by decide) ?_
            refine pm_lstore (lv' := [(6, .long 0), (4, .long w98.1), (0, .ref x0), (1, .int x1), (2, .int x2)]) C dX16_readsElement_178 (pt_nl X (by decide)) rfl ?_
            cases hf
            exact pm_sub [2, 3, 4, 1, 0] rfl (ih.2.2.2.2.2.2 x0 x1 x2 w98.1 0 (pm_setI w98.2 v104 x2.toNatClampNeg y106) hi)
          · have hf := pm_it hf c88
            refine pm_aload_n C dX16_readsElement_135 rfl rfl ?_
            refine pm_iconst (v := 0) C dX16_readsElement_136 (by decide) ?_
            obtain ⟨v110, e111, hf⟩ := pm_bd hf
            refine pt_callVT (as := [.int 0]) (st := []) C X dX16_readsElement_137 ltX16_393 myX16_small viX16_small ⟨by decide, by decide⟩ rfl rfl k50 (Nat.le_of_ble_eq_true rfl) (Nat.le_refl _) (Nat.le_refl _) (ctX16_small e111 ?_)
            rcases v110 with z113 | w112
            · have hf := pt_sl hf
              cases hf
              cases hi
              exact q
            have hf := pt_sr hf
            show pm_G g 140 [(0, .ref x0), (1, .int x1), (2, .int x2)] [.int w112.1] w112.2 0 0
            refine pm_istore (lv' := [(4, .int w112.1), (0, .ref x0), (1, .int x1), (2, .int x2)]) C dX16_readsElement_140 (pt_nl X (by decide)) rfl ?_
            refine pm_goto (tgt := 158) C dX16_readsElement_142 (by decide) ?_
            refine pm_aload_n C dX16_readsElement_158 rfl rfl ?_
            obtain ⟨k114, hf⟩ := pm_if hf
            obtain ⟨v115, e116, hf⟩ := pm_bd hf
            refine pt_callVT (as := []) (st := []) C X dX16_readsElement_159 ltX16_277 myX16_number viX16_number ⟨by decide, by decide⟩ rfl rfl k114 (Nat.le_of_ble_eq_true rfl) (Nat.le_refl _) (Nat.le_refl _) (ctX16_number e116 ?_)
            rcases v115 with z118 | w117
            · have hf := pt_sl hf
              cases hf
              cases hi
              exact q
            have hf := pt_sr hf
            show pm_G g 162 [(4, .int w112.1), (0, .ref x0), (1, .int x1), (2, .int x2)] [.long w117.1] w117.2 0 0
            refine pm_lstore (lv' := [(4, .long w117.1), (0, .ref x0), (1, .int x1), (2, .int x2)]) C dX16_readsElement_162 (pt_nl X (by decide)) rfl ?_
            refine pm_aload_n C dX16_readsElement_164 rfl rfl ?_
            obtain ⟨k119, hf⟩ := pm_if hf
            obtain ⟨v120, e121, hf⟩ := pm_bd hf
            refine pm_getR C dX16_readsElement_165 flX16_221 rfl k119 e121 ?_
            obtain ⟨k122, hf⟩ := pm_if hf
            obtain ⟨v123, e124, hf⟩ := pm_bd hf
            refine pm_getR C dX16_readsElement_168 flX16_504 rfl k122 e124 ?_
            refine pm_iload_n C dX16_readsElement_171 rfl rfl ?_
            refine pm_aload_n C dX16_readsElement_172 rfl rfl ?_
            refine pm_getI C dX16_readsElement_173 flX16_251 rfl k119 rfl ?_
            obtain ⟨y125, e126, hf⟩ := pm_lt hf
            refine pm_topI e126 ?_
            obtain ⟨k127, hf⟩ := pm_if hf
            obtain ⟨u128, hf⟩ := pm_if hf
            refine pm_iast C dX16_readsElement_176 k127 u128 ?_
            refine pm_lconst (v := 0) C dX16_readsElement_177 (by decide) ?_
            refine pm_lstore (lv' := [(6, .long 0), (4, .long w117.1), (0, .ref x0), (1, .int x1), (2, .int x2)]) C dX16_readsElement_178 (pt_nl X (by decide)) rfl ?_
            cases hf
            exact pm_sub [2, 3, 4, 1, 0] rfl (ih.2.2.2.2.2.2 x0 x1 x2 w117.1 0 (pm_setI w117.2 v123 x2.toNatClampNeg y125) hi)
    refine fun x0 x1 x2 x4 x6 h hf => ?_
    obtain ⟨y, hf, hi⟩ := pm_iter_s hf
    have hf : tX16_readsElement_180 x0 x1 x2 x4 x6 h = some y := hf
    unfold tX16_readsElement_180 at hf
    refine pm_lload C dX16_readsElement_180 rfl ?_
    refine pm_lload C dX16_readsElement_182 rfl ?_
    refine pm_lcmp C dX16_readsElement_184 ?_
    refine pm_if_ge (tgt := 217) C dX16_readsElement_185 (by decide) (fun c129 => ?_) (fun c129 => ?_)
    · have hf := pm_it hf ((pm_lg_ge _ _).mp c129)
      refine pm_aload_n C dX16_readsElement_217 rfl rfl ?_
      obtain ⟨k130, hf⟩ := pm_if hf
      obtain ⟨v131, e132, hf⟩ := pm_bd hf
      refine pm_getR C dX16_readsElement_218 flX16_221 rfl k130 e132 ?_
      obtain ⟨k133, hf⟩ := pm_if hf
      obtain ⟨v134, e135, hf⟩ := pm_bd hf
      refine pm_getR C dX16_readsElement_221 flX16_507 rfl k133 e135 ?_
      refine pm_iload_n C dX16_readsElement_224 rfl rfl ?_
      refine pm_lload C dX16_readsElement_225 rfl ?_
      refine pm_l2i C dX16_readsElement_227 ?_
      obtain ⟨k136, hf⟩ := pm_if hf
      obtain ⟨u137, hf⟩ := pm_if hf
      refine pm_iast C dX16_readsElement_228 k136 u137 ?_
      cases hf
      cases hi
      exact pt_vret C X dX16_readsElement_229 rfl (Nat.le_refl _) (Nat.le_refl _) q
    · have hf := pm_ie hf ((fun z => c129 ((pm_lg_ge _ _).mpr z)))
      refine pm_iload_n C dX16_readsElement_188 rfl rfl ?_
      refine pm_iconst (v := 4) C dX16_readsElement_189 (by decide) ?_
      refine pm_iand C dX16_readsElement_190 ?_
      refine pm_if_ne (tgt := 203) C dX16_readsElement_191 (by decide) (fun c138 => ?_) (fun c138 => ?_)
      · have hf := pm_ie hf c138
        refine pm_aload_n C dX16_readsElement_203 rfl rfl ?_
        refine pm_iconst (v := 0) C dX16_readsElement_204 (by decide) ?_
        obtain ⟨k139, hf⟩ := pm_if hf
        obtain ⟨v140, e141, hf⟩ := pm_bd hf
        refine pt_callVT (as := [.int 0]) (st := []) C X dX16_readsElement_205 ltX16_456 myX16_expression viX16_expression ⟨by decide, by decide⟩ rfl rfl k139 (Nat.le_of_ble_eq_true rfl) (Nat.le_refl _) (Nat.le_refl _) (ctX16_expression e141 ?_)
        rcases v140 with z143 | w142
        · have hf := pt_sl hf
          cases hf
          cases hi
          exact q
        have hf := pt_sr hf
        show pm_G g 208 [(0, .ref x0), (1, .int x1), (2, .int x2), (4, .long x4), (6, .long x6)] [] w142 0 0
        refine pm_lload C dX16_readsElement_208 rfl ?_
        refine pm_lconst (v := 1) C dX16_readsElement_210 (by decide) ?_
        refine pm_ladd C dX16_readsElement_211 ?_
        obtain ⟨y144, e145, hf⟩ := pm_lt hf
        refine pm_topL e145 ?_
        refine pm_lstore (lv' := [(6, .long y144), (0, .ref x0), (1, .int x1), (2, .int x2), (4, .long x4)]) C dX16_readsElement_212 (pt_nl X (by decide)) rfl ?_
        refine pm_goto (tgt := 180) C dX16_readsElement_214 (by decide) ?_
        cases hf
        exact pm_sub [1, 2, 3, 4, 0] rfl (ih.2.2.2.2.2.2 x0 x1 x2 x4 y144 w142 hi)
      · have hf := pm_it hf c138
        refine pm_aload_n C dX16_readsElement_194 rfl rfl ?_
        obtain ⟨k146, hf⟩ := pm_if hf
        obtain ⟨v147, e148, hf⟩ := pm_bd hf
        refine pt_callVT (as := []) (st := []) C X dX16_readsElement_195 ltX16_277 myX16_number viX16_number ⟨by decide, by decide⟩ rfl rfl k146 (Nat.le_of_ble_eq_true rfl) (Nat.le_refl _) (Nat.le_refl _) (ctX16_number e148 ?_)
        rcases v147 with z150 | w149
        · have hf := pt_sl hf
          cases hf
          cases hi
          exact q
        have hf := pt_sr hf
        show pm_G g 198 [(0, .ref x0), (1, .int x1), (2, .int x2), (4, .long x4), (6, .long x6)] [.long w149.1] w149.2 0 0
        refine pm_lstore (lv' := [(8, .long w149.1), (0, .ref x0), (1, .int x1), (2, .int x2), (4, .long x4), (6, .long x6)]) C dX16_readsElement_198 (pt_nl X (by decide)) rfl ?_
        refine pm_goto (tgt := 208) C dX16_readsElement_200 (by decide) ?_
        refine pm_lload C dX16_readsElement_208 rfl ?_
        refine pm_lconst (v := 1) C dX16_readsElement_210 (by decide) ?_
        refine pm_ladd C dX16_readsElement_211 ?_
        obtain ⟨y151, e152, hf⟩ := pm_lt hf
        refine pm_topL e152 ?_
        refine pm_lstore (lv' := [(6, .long y151), (8, .long w149.1), (0, .ref x0), (1, .int x1), (2, .int x2), (4, .long x4)]) C dX16_readsElement_212 (pt_nl X (by decide)) rfl ?_
        refine pm_goto (tgt := 180) C dX16_readsElement_214 (by decide) ?_
        cases hf
        exact pm_sub [2, 3, 4, 5, 0] rfl (ih.2.2.2.2.2.2 x0 x1 x2 x4 y151 w149.2 hi)
set_option maxHeartbeats 4000000 in
set_option maxRecDepth 100000 in
theorem ctX16_readsElement {l : Launch} {G : pm_Gl} {h : pm_H} {a0 : Nat} {p1 : Int32} {p2 : Int32} {r : ((Nat × pm_H) ⊕ pm_H)} {Qr : Option Value → pm_H → Prop} {Qt : Nat → pm_H → Prop} (hf : fX16_readsElement h a0 p1 p2 = some r) (q : pt_eV Qr Qt r) : pm_Ctt l G mX16_readsElement [.ref a0, .int p1, .int p2] h 0 0 Qr Qt := by
  refine pm_bodyT pnX16 (Nat.le_of_ble_eq_true rfl) (fun g C X => ?_)
  have C : pm_C g cX16_readsElement RX16 := C
  show pm_G g 0 [(0, .ref a0), (1, .int p1), (2, .int p2)] [] h 0 0
  unfold fX16_readsElement at hf
  refine pm_iload_n C dX16_readsElement_0 rfl rfl ?_
  refine pm_iconst (v := 1) C dX16_readsElement_1 (by decide) ?_
  refine pm_iand C dX16_readsElement_2 ?_
  refine pm_if_ne (tgt := 10) C dX16_readsElement_3 (by decide) (fun c1 => ?_) (fun c1 => ?_)
  · have hf := pm_ie hf c1
    refine pm_iconst (v := 0) C dX16_readsElement_10 (by decide) ?_
    obtain ⟨n, hn⟩ := pm_lim_iter hf
    exact pm_sub [0, 1, 2] rfl ((lpX16_readsElement C X q n).1 a0 p1 p2 0 h hn)
  · have hf := pm_it hf c1
    refine pm_iconst (v := 1) C dX16_readsElement_6 (by decide) ?_
    refine pm_goto (tgt := 11) C dX16_readsElement_7 (by decide) ?_
    obtain ⟨n, hn⟩ := pm_lim_iter hf
    exact pm_sub [0, 1, 2] rfl ((lpX16_readsElement C X q n).1 a0 p1 p2 1 h hn)
theorem dX16_readsElements_0 : decode cX16_readsElements 0 = .ok (.aload_n 0, 1) := by decide +kernel
theorem dX16_readsElements_1 : decode cX16_readsElements 1 = .ok (.invokevirtual 277, 3) := by decide +kernel
theorem dX16_readsElements_4 : decode cX16_readsElements 4 = .ok (.lstore_n 1, 1) := by decide +kernel
theorem dX16_readsElements_5 : decode cX16_readsElements 5 = .ok (.aload_n 0, 1) := by decide +kernel
theorem dX16_readsElements_6 : decode cX16_readsElements 6 = .ok (.getfield 221, 3) := by decide +kernel
theorem dX16_readsElements_9 : decode cX16_readsElements 9 = .ok (.aload_n 0, 1) := by decide +kernel
theorem dX16_readsElements_10 : decode cX16_readsElements 10 = .ok (.lload_n 1, 1) := by decide +kernel
theorem dX16_readsElements_11 : decode cX16_readsElements 11 = .ok (.invokevirtual 377, 3) := by decide +kernel
theorem dX16_readsElements_14 : decode cX16_readsElements 14 = .ok (.putfield 481, 3) := by decide +kernel
theorem dX16_readsElements_17 : decode cX16_readsElements 17 = .ok (.lconst 0, 1) := by decide +kernel
theorem dX16_readsElements_18 : decode cX16_readsElements 18 = .ok (.lstore_n 3, 1) := by decide +kernel
theorem dX16_readsElements_19 : decode cX16_readsElements 19 = .ok (.lload_n 3, 1) := by decide +kernel
theorem dX16_readsElements_20 : decode cX16_readsElements 20 = .ok (.lload_n 1, 1) := by decide +kernel
theorem dX16_readsElements_21 : decode cX16_readsElements 21 = .ok (.lcmp, 1) := by decide +kernel
theorem dX16_readsElements_22 : decode cX16_readsElements 22 = .ok (.ifCond .ge 61, 3) := by decide +kernel
theorem dX16_readsElements_25 : decode cX16_readsElements 25 = .ok (.aload_n 0, 1) := by decide +kernel
theorem dX16_readsElements_26 : decode cX16_readsElements 26 = .ok (.getfield 251, 3) := by decide +kernel
theorem dX16_readsElements_29 : decode cX16_readsElements 29 = .ok (.istore 5, 2) := by decide +kernel
theorem dX16_readsElements_31 : decode cX16_readsElements 31 = .ok (.aload_n 0, 1) := by decide +kernel
theorem dX16_readsElements_32 : decode cX16_readsElements 32 = .ok (.invokevirtual 277, 3) := by decide +kernel
theorem dX16_readsElements_35 : decode cX16_readsElements 35 = .ok (.lstore 6, 2) := by decide +kernel
theorem dX16_readsElements_37 : decode cX16_readsElements 37 = .ok (.lload 6, 2) := by decide +kernel
theorem dX16_readsElements_39 : decode cX16_readsElements 39 = .ok (.ldc2_w 484, 3) := by decide +kernel
theorem dX16_readsElements_42 : decode cX16_readsElements 42 = .ok (.lcmp, 1) := by decide +kernel
theorem dX16_readsElements_43 : decode cX16_readsElements 43 = .ok (.ifCond .le 11, 3) := by decide +kernel
theorem dX16_readsElements_46 : decode cX16_readsElements 46 = .ok (.aload_n 0, 1) := by decide +kernel
theorem dX16_readsElements_47 : decode cX16_readsElements 47 = .ok (.bipush 7, 2) := by decide +kernel
theorem dX16_readsElements_49 : decode cX16_readsElements 49 = .ok (.iload 5, 2) := by decide +kernel
theorem dX16_readsElements_51 : decode cX16_readsElements 51 = .ok (.invokevirtual 257, 3) := by decide +kernel
theorem dX16_readsElements_54 : decode cX16_readsElements 54 = .ok (.aload_n 0, 1) := by decide +kernel
theorem dX16_readsElements_55 : decode cX16_readsElements 55 = .ok (.lload 6, 2) := by decide +kernel
theorem dX16_readsElements_57 : decode cX16_readsElements 57 = .ok (.l2i, 1) := by decide +kernel
theorem dX16_readsElements_58 : decode cX16_readsElements 58 = .ok (.lload_n 3, 1) := by decide +kernel
theorem dX16_readsElements_59 : decode cX16_readsElements 59 = .ok (.ldc2_w 363, 3) := by decide +kernel
theorem dX16_readsElements_62 : decode cX16_readsElements 62 = .ok (.lcmp, 1) := by decide +kernel
theorem dX16_readsElements_63 : decode cX16_readsElements 63 = .ok (.ifCond .ge 8, 3) := by decide +kernel
theorem dX16_readsElements_66 : decode cX16_readsElements 66 = .ok (.lload_n 3, 1) := by decide +kernel
theorem dX16_readsElements_67 : decode cX16_readsElements 67 = .ok (.l2i, 1) := by decide +kernel
theorem dX16_readsElements_68 : decode cX16_readsElements 68 = .ok (.goto 5, 3) := by decide +kernel
theorem dX16_readsElements_71 : decode cX16_readsElements 71 = .ok (.bipush 63, 2) := by decide +kernel
theorem dX16_readsElements_73 : decode cX16_readsElements 73 = .ok (.invokevirtual 486, 3) := by decide +kernel
theorem dX16_readsElements_76 : decode cX16_readsElements 76 = .ok (.lload_n 3, 1) := by decide +kernel
theorem dX16_readsElements_77 : decode cX16_readsElements 77 = .ok (.lconst 1, 1) := by decide +kernel
theorem dX16_readsElements_78 : decode cX16_readsElements 78 = .ok (.ladd, 1) := by decide +kernel
theorem dX16_readsElements_79 : decode cX16_readsElements 79 = .ok (.lstore_n 3, 1) := by decide +kernel
theorem dX16_readsElements_80 : decode cX16_readsElements 80 = .ok (.goto (-61), 3) := by decide +kernel
theorem dX16_readsElements_83 : decode cX16_readsElements 83 = .ok (.return_, 1) := by decide +kernel
noncomputable def tX16_readsElements_19 (x0 : Nat) (x1 : Int64) (x3 : Int64) (h : pm_H) : Option (((Nat × Int64 × Int64 × pm_H) ⊕ (Nat × Int64 × Int64 × Int64 × pm_H)) ⊕ ((Nat × pm_H) ⊕ pm_H)) := if x1 ≤ x3 then (some (.inr (.inr (h)))) else (if pm_kd h x0 = 16 then pm_let (pm_I h x0 11) fun y14 => (fX16_number h x0).bind fun v16 => pt_s v16 fun w18 => if w18.1 ≤ 7 then (some (.inl (.inr ((x0, x1, x3, w18.1, w18.2))))) else (if pm_kd w18.2 x0 = 16 then (fX16_stops w18.2 x0 7 y14).bind fun v22 => pt_s v22 fun w24 => some (.inl (.inr ((x0, x1, x3, w18.1, w24)))) else none) else none)
noncomputable def tX16_readsElements_54 (x0 : Nat) (x1 : Int64) (x3 : Int64) (x6 : Int64) (h : pm_H) : Option (((Nat × Int64 × Int64 × pm_H) ⊕ (Nat × Int64 × Int64 × Int64 × pm_H)) ⊕ ((Nat × pm_H) ⊕ pm_H)) := if 64 ≤ x3 then (if pm_kd h x0 = 16 then (fX16_readsElement h x0 x6.toInt32 63).bind fun v28 => pt_s v28 fun w30 => pm_let (x3 + 1) fun y32 => some (.inl (.inl ((x0, x1, y32, w30)))) else none) else (if pm_kd h x0 = 16 then (fX16_readsElement h x0 x6.toInt32 x3.toInt32).bind fun v35 => pt_s v35 fun w37 => pm_let (x3 + 1) fun y39 => some (.inl (.inl ((x0, x1, y39, w37)))) else none)
noncomputable def sX16_readsElements : ((Nat × Int64 × Int64 × pm_H) ⊕ (Nat × Int64 × Int64 × Int64 × pm_H)) → Option (((Nat × Int64 × Int64 × pm_H) ⊕ (Nat × Int64 × Int64 × Int64 × pm_H)) ⊕ ((Nat × pm_H) ⊕ pm_H)) := fun z => match z with
  | .inl (x0, x1, x3, h) => tX16_readsElements_19 x0 x1 x3 h
  | .inr (x0, x1, x3, x6, h) => tX16_readsElements_54 x0 x1 x3 x6 h
noncomputable def fX16_readsElements (h : pm_H) (a0 : Nat) : Option ((Nat × pm_H) ⊕ pm_H) := if pm_kd h a0 = 16 then (fX16_number h a0).bind fun v2 => pt_k v2 fun w4 => if pm_kd w4.2 a0 = 16 then (pm_R w4.2 a0 10).bind fun v7 => (fX16_kept w4.2 a0 w4.1).bind fun v9 => if pm_kd v9.2 v7 = 14 then pm_lim sX16_readsElements (.inl ((a0, w4.1, 0, pm_setI v9.2 v7 34 v9.1))) else none else none else none
set_option maxHeartbeats 4000000 in
set_option maxRecDepth 100000 in
theorem lpX16_readsElements {g : pm_Gm} {l : Launch} {G : pm_Gl} {Qr : Option Value → pm_H → Prop} {Qt : Nat → pm_H → Prop} (C : pm_C g cX16_readsElements RX16) (X : pm_XT g l G mX16_readsElements 0 0 Qr Qt) {r : ((Nat × pm_H) ⊕ pm_H)} (q : pt_eV Qr Qt r) : ∀ n : Nat, (∀ (x0 : Nat) (x1 : Int64) (x3 : Int64) (h : pm_H), pm_iter sX16_readsElements n (.inl (x0, x1, x3, h)) = some r → pm_G g 19 [(0, .ref x0), (1, .long x1), (3, .long x3)] [] h 0 0) ∧ (∀ (x0 : Nat) (x1 : Int64) (x3 : Int64) (x6 : Int64) (h : pm_H), pm_iter sX16_readsElements n (.inr (x0, x1, x3, x6, h)) = some r → pm_G g 54 [(0, .ref x0), (1, .long x1), (3, .long x3), (6, .long x6)] [] h 0 0) := by
  intro n
  induction n with
  | zero => exact ⟨fun _ _ _ _ hf => (by cases hf), fun _ _ _ _ _ hf => (by cases hf)⟩
  | succ n ih =>
    refine ⟨fun x0 x1 x3 h hf => ?_, ?_⟩
    · obtain ⟨y, hf, hi⟩ := pm_iter_s hf
      have hf : tX16_readsElements_19 x0 x1 x3 h = some y := hf
      unfold tX16_readsElements_19 at hf
      refine pm_lload_n C dX16_readsElements_19 rfl rfl ?_
      refine pm_lload_n C dX16_readsElements_20 rfl rfl ?_
      refine pm_lcmp C dX16_readsElements_21 ?_
      refine pm_if_ge (tgt := 83) C dX16_readsElements_22 (by decide) (fun c12 => ?_) (fun c12 => ?_)
      · have hf := pm_it hf ((pm_lg_ge _ _).mp c12)
        cases hf
        cases hi
        exact pt_vret C X dX16_readsElements_83 rfl (Nat.le_refl _) (Nat.le_refl _) q
      · have hf := pm_ie hf ((fun z => c12 ((pm_lg_ge _ _).mpr z)))
        refine pm_aload_n C dX16_readsElements_25 rfl rfl ?_
        obtain ⟨k13, hf⟩ := pm_if hf
        refine pm_getI C dX16_readsElements_26 flX16_251 rfl k13 rfl ?_
        obtain ⟨y14, e15, hf⟩ := pm_lt hf
        refine pm_topI e15 ?_
        refine pm_istore (lv' := [(5, .int y14), (0, .ref x0), (1, .long x1), (3, .long x3)]) C dX16_readsElements_29 (pt_nl X (by decide)) rfl ?_
        refine pm_aload_n C dX16_readsElements_31 rfl rfl ?_
        obtain ⟨v16, e17, hf⟩ := pm_bd hf
        refine pt_callVT (as := []) (st := []) C X dX16_readsElements_32 ltX16_277 myX16_number viX16_number ⟨by decide, by decide⟩ rfl rfl k13 (Nat.le_of_ble_eq_true rfl) (Nat.le_refl _) (Nat.le_refl _) (ctX16_number e17 ?_)
        rcases v16 with z19 | w18
        · have hf := pt_sl hf
          cases hf
          cases hi
          exact q
        have hf := pt_sr hf
        show pm_G g 35 [(5, .int y14), (0, .ref x0), (1, .long x1), (3, .long x3)] [.long w18.1] w18.2 0 0
        refine pm_lstore (lv' := [(6, .long w18.1), (5, .int y14), (0, .ref x0), (1, .long x1), (3, .long x3)]) C dX16_readsElements_35 (pt_nl X (by decide)) rfl ?_
        refine pm_lload C dX16_readsElements_37 rfl ?_
        refine pm_ldc2 C dX16_readsElements_39 cnX16_484 ?_
        refine pm_lcmp C dX16_readsElements_42 ?_
        refine pm_if_le (tgt := 54) C dX16_readsElements_43 (by decide) (fun c20 => ?_) (fun c20 => ?_)
        · have hf := pm_it hf ((pm_lg_le _ _).mp c20)
          cases hf
          exact pm_sub [2, 3, 4, 0] rfl (ih.2 x0 x1 x3 w18.1 w18.2 hi)
        · have hf := pm_ie hf ((fun z => c20 ((pm_lg_le _ _).mpr z)))
          refine pm_aload_n C dX16_readsElements_46 rfl rfl ?_
          refine pm_bipush (v := 7) C dX16_readsElements_47 (by decide) ?_
          refine pm_iload C dX16_readsElements_49 rfl ?_
          obtain ⟨k21, hf⟩ := pm_if hf
          obtain ⟨v22, e23, hf⟩ := pm_bd hf
          refine pt_callVT (as := [.int 7, .int y14]) (st := []) C X dX16_readsElements_51 ltX16_257 myX16_stops viX16_stops ⟨by decide, by decide⟩ rfl rfl k21 (Nat.le_of_ble_eq_true rfl) (Nat.le_refl _) (Nat.le_refl _) (ctX16_stops e23 ?_)
          rcases v22 with z25 | w24
          · have hf := pt_sl hf
            cases hf
            cases hi
            exact q
          have hf := pt_sr hf
          show pm_G g 54 [(6, .long w18.1), (5, .int y14), (0, .ref x0), (1, .long x1), (3, .long x3)] [] w24 0 0
          cases hf
          exact pm_sub [2, 3, 4, 0] rfl (ih.2 x0 x1 x3 w18.1 w24 hi)
    refine fun x0 x1 x3 x6 h hf => ?_
    obtain ⟨y, hf, hi⟩ := pm_iter_s hf
    have hf : tX16_readsElements_54 x0 x1 x3 x6 h = some y := hf
    unfold tX16_readsElements_54 at hf
    refine pm_aload_n C dX16_readsElements_54 rfl rfl ?_
    refine pm_lload C dX16_readsElements_55 rfl ?_
    refine pm_l2i C dX16_readsElements_57 ?_
    refine pm_lload_n C dX16_readsElements_58 rfl rfl ?_
    refine pm_ldc2 C dX16_readsElements_59 cnX16_363 ?_
    refine pm_lcmp C dX16_readsElements_62 ?_
    refine pm_if_ge (tgt := 71) C dX16_readsElements_63 (by decide) (fun c26 => ?_) (fun c26 => ?_)
    · have hf := pm_it hf ((pm_lg_ge _ _).mp c26)
      refine pm_bipush (v := 63) C dX16_readsElements_71 (by decide) ?_
      obtain ⟨k27, hf⟩ := pm_if hf
      obtain ⟨v28, e29, hf⟩ := pm_bd hf
      refine pt_callVT (as := [.int x6.toInt32, .int 63]) (st := []) C X dX16_readsElements_73 ltX16_486 myX16_readsElement viX16_readsElement ⟨by decide, by decide⟩ rfl rfl k27 (Nat.le_of_ble_eq_true rfl) (Nat.le_refl _) (Nat.le_refl _) (ctX16_readsElement e29 ?_)
      rcases v28 with z31 | w30
      · have hf := pt_sl hf
        cases hf
        cases hi
        exact q
      have hf := pt_sr hf
      show pm_G g 76 [(0, .ref x0), (1, .long x1), (3, .long x3), (6, .long x6)] [] w30 0 0
      refine pm_lload_n C dX16_readsElements_76 rfl rfl ?_
      refine pm_lconst (v := 1) C dX16_readsElements_77 (by decide) ?_
      refine pm_ladd C dX16_readsElements_78 ?_
      obtain ⟨y32, e33, hf⟩ := pm_lt hf
      refine pm_topL e33 ?_
      refine pm_lstore_n (lv' := [(3, .long y32), (0, .ref x0), (1, .long x1), (6, .long x6)]) C dX16_readsElements_79 rfl (pt_nl X (by decide)) rfl ?_
      refine pm_goto (tgt := 19) C dX16_readsElements_80 (by decide) ?_
      cases hf
      exact pm_sub [1, 2, 0] rfl (ih.1 x0 x1 y32 w30 hi)
    · have hf := pm_ie hf ((fun z => c26 ((pm_lg_ge _ _).mpr z)))
      refine pm_lload_n C dX16_readsElements_66 rfl rfl ?_
      refine pm_l2i C dX16_readsElements_67 ?_
      refine pm_goto (tgt := 73) C dX16_readsElements_68 (by decide) ?_
      obtain ⟨k34, hf⟩ := pm_if hf
      obtain ⟨v35, e36, hf⟩ := pm_bd hf
      refine pt_callVT (as := [.int x6.toInt32, .int x3.toInt32]) (st := []) C X dX16_readsElements_73 ltX16_486 myX16_readsElement viX16_readsElement ⟨by decide, by decide⟩ rfl rfl k34 (Nat.le_of_ble_eq_true rfl) (Nat.le_refl _) (Nat.le_refl _) (ctX16_readsElement e36 ?_)
      rcases v35 with z38 | w37
      · have hf := pt_sl hf
        cases hf
        cases hi
        exact q
      have hf := pt_sr hf
      show pm_G g 76 [(0, .ref x0), (1, .long x1), (3, .long x3), (6, .long x6)] [] w37 0 0
      refine pm_lload_n C dX16_readsElements_76 rfl rfl ?_
      refine pm_lconst (v := 1) C dX16_readsElements_77 (by decide) ?_
      refine pm_ladd C dX16_readsElements_78 ?_
      obtain ⟨y39, e40, hf⟩ := pm_lt hf
      refine pm_topL e40 ?_
      refine pm_lstore_n (lv' := [(3, .long y39), (0, .ref x0), (1, .long x1), (6, .long x6)]) C dX16_readsElements_79 rfl (pt_nl X (by decide)) rfl ?_
      refine pm_goto (tgt := 19) C dX16_readsElements_80 (by decide) ?_
      cases hf
      exact pm_sub [1, 2, 0] rfl (ih.1 x0 x1 y39 w37 hi)
set_option maxHeartbeats 4000000 in
set_option maxRecDepth 100000 in
theorem ctX16_readsElements {l : Launch} {G : pm_Gl} {h : pm_H} {a0 : Nat} {r : ((Nat × pm_H) ⊕ pm_H)} {Qr : Option Value → pm_H → Prop} {Qt : Nat → pm_H → Prop} (hf : fX16_readsElements h a0 = some r) (q : pt_eV Qr Qt r) : pm_Ctt l G mX16_readsElements [.ref a0] h 0 0 Qr Qt := by
  refine pm_bodyT pnX16 (Nat.le_of_ble_eq_true rfl) (fun g C X => ?_)
  have C : pm_C g cX16_readsElements RX16 := C
  show pm_G g 0 [(0, .ref a0)] [] h 0 0
  unfold fX16_readsElements at hf
  refine pm_aload_n C dX16_readsElements_0 rfl rfl ?_
  obtain ⟨k1, hf⟩ := pm_if hf
  obtain ⟨v2, e3, hf⟩ := pm_bd hf
  refine pt_callVT (as := []) (st := []) C X dX16_readsElements_1 ltX16_277 myX16_number viX16_number ⟨by decide, by decide⟩ rfl rfl k1 (Nat.le_of_ble_eq_true rfl) (Nat.le_refl _) (Nat.le_refl _) (ctX16_number e3 ?_)
  rcases v2 with z5 | w4
  · have hf := pt_kl hf
    cases hf
    exact q
  have hf := pt_kr hf
  show pm_G g 4 [(0, .ref a0)] [.long w4.1] w4.2 0 0
  refine pm_lstore_n (lv' := [(1, .long w4.1), (0, .ref a0)]) C dX16_readsElements_4 rfl (pt_nl X (by decide)) rfl ?_
  refine pm_aload_n C dX16_readsElements_5 rfl rfl ?_
  obtain ⟨k6, hf⟩ := pm_if hf
  obtain ⟨v7, e8, hf⟩ := pm_bd hf
  refine pm_getR C dX16_readsElements_6 flX16_221 rfl k6 e8 ?_
  refine pm_aload_n C dX16_readsElements_9 rfl rfl ?_
  refine pm_lload_n C dX16_readsElements_10 rfl rfl ?_
  obtain ⟨v9, e10, hf⟩ := pm_bd hf
  refine pt_callV (as := [.long w4.1]) (st := [.ref v7]) C X dX16_readsElements_11 lnX16_377 myX16_kept viX16_kept ⟨by decide, by decide⟩ rfl rfl k6 (Nat.le_of_ble_eq_true rfl) (Nat.le_refl _) (Nat.le_refl _) (ctX16_kept e10 ?_)
  show pm_G g 14 [(1, .long w4.1), (0, .ref a0)] [.int v9.1, .ref v7] v9.2 0 0
  obtain ⟨k11, hf⟩ := pm_if hf
  refine pm_putI C dX16_readsElements_14 flX16_481 rfl rfl k11 rfl rfl ?_
  refine pm_lconst (v := 0) C dX16_readsElements_17 (by decide) ?_
  refine pm_lstore_n (lv' := [(3, .long 0), (1, .long w4.1), (0, .ref a0)]) C dX16_readsElements_18 rfl (pt_nl X (by decide)) rfl ?_
  obtain ⟨n, hn⟩ := pm_lim_iter hf
  exact pm_sub [2, 1, 0] rfl ((lpX16_readsElements C X q n).1 a0 w4.1 0 (pm_setI v9.2 v7 34 v9.1) hn)
