theorem dX1_branchByTable_0 : decode cX1_branchByTable 0 = .ok (.aload_n 0, 1) := by decide +kernel
theorem dX1_branchByTable_1 : decode cX1_branchByTable 1 = .ok (.getfield 36, 3) := by decide +kernel
theorem dX1_branchByTable_4 : decode cX1_branchByTable 4 = .ok (.getfield 201, 3) := by decide +kernel
theorem dX1_branchByTable_7 : decode cX1_branchByTable 7 = .ok (.l2i, 1) := by decide +kernel
theorem dX1_branchByTable_8 : decode cX1_branchByTable 8 = .ok (.istore_n 1, 1) := by decide +kernel
theorem dX1_branchByTable_9 : decode cX1_branchByTable 9 = .ok (.iconst 0, 1) := by decide +kernel
theorem dX1_branchByTable_10 : decode cX1_branchByTable 10 = .ok (.istore_n 2, 1) := by decide +kernel
theorem dX1_branchByTable_11 : decode cX1_branchByTable 11 = .ok (.aload_n 0, 1) := by decide +kernel
theorem dX1_branchByTable_12 : decode cX1_branchByTable 12 = .ok (.getfield 36, 3) := by decide +kernel
theorem dX1_branchByTable_15 : decode cX1_branchByTable 15 = .ok (.aload_n 0, 1) := by decide +kernel
theorem dX1_branchByTable_16 : decode cX1_branchByTable 16 = .ok (.getfield 36, 3) := by decide +kernel
theorem dX1_branchByTable_19 : decode cX1_branchByTable 19 = .ok (.getfield 325, 3) := by decide +kernel
theorem dX1_branchByTable_22 : decode cX1_branchByTable 22 = .ok (.l2i, 1) := by decide +kernel
theorem dX1_branchByTable_23 : decode cX1_branchByTable 23 = .ok (.putfield 415, 3) := by decide +kernel
theorem dX1_branchByTable_26 : decode cX1_branchByTable 26 = .ok (.iconst 0, 1) := by decide +kernel
theorem dX1_branchByTable_27 : decode cX1_branchByTable 27 = .ok (.istore_n 3, 1) := by decide +kernel
theorem dX1_branchByTable_28 : decode cX1_branchByTable 28 = .ok (.iload_n 3, 1) := by decide +kernel
theorem dX1_branchByTable_29 : decode cX1_branchByTable 29 = .ok (.iload_n 1, 1) := by decide +kernel
theorem dX1_branchByTable_30 : decode cX1_branchByTable 30 = .ok (.if_icmp .gt 50, 3) := by decide +kernel
theorem dX1_branchByTable_33 : decode cX1_branchByTable 33 = .ok (.aload_n 0, 1) := by decide +kernel
theorem dX1_branchByTable_34 : decode cX1_branchByTable 34 = .ok (.getfield 36, 3) := by decide +kernel
theorem dX1_branchByTable_37 : decode cX1_branchByTable 37 = .ok (.bipush 32, 2) := by decide +kernel
theorem dX1_branchByTable_39 : decode cX1_branchByTable 39 = .ok (.invokevirtual 181, 3) := by decide +kernel
theorem dX1_branchByTable_42 : decode cX1_branchByTable 42 = .ok (.lstore 4, 2) := by decide +kernel
theorem dX1_branchByTable_44 : decode cX1_branchByTable 44 = .ok (.lload 4, 2) := by decide +kernel
theorem dX1_branchByTable_46 : decode cX1_branchByTable 46 = .ok (.aload_n 0, 1) := by decide +kernel
theorem dX1_branchByTable_47 : decode cX1_branchByTable 47 = .ok (.getfield 220, 3) := by decide +kernel
theorem dX1_branchByTable_50 : decode cX1_branchByTable 50 = .ok (.i2l, 1) := by decide +kernel
theorem dX1_branchByTable_51 : decode cX1_branchByTable 51 = .ok (.lcmp, 1) := by decide +kernel
theorem dX1_branchByTable_52 : decode cX1_branchByTable 52 = .ok (.ifCond .lt 9, 3) := by decide +kernel
theorem dX1_branchByTable_55 : decode cX1_branchByTable 55 = .ok (.aload_n 0, 1) := by decide +kernel
theorem dX1_branchByTable_56 : decode cX1_branchByTable 56 = .ok (.bipush 30, 2) := by decide +kernel
theorem dX1_branchByTable_58 : decode cX1_branchByTable 58 = .ok (.invokevirtual 198, 3) := by decide +kernel
theorem dX1_branchByTable_61 : decode cX1_branchByTable 61 = .ok (.aload_n 0, 1) := by decide +kernel
theorem dX1_branchByTable_62 : decode cX1_branchByTable 62 = .ok (.getfield 220, 3) := by decide +kernel
theorem dX1_branchByTable_65 : decode cX1_branchByTable 65 = .ok (.iconst 1, 1) := by decide +kernel
theorem dX1_branchByTable_66 : decode cX1_branchByTable 66 = .ok (.isub, 1) := by decide +kernel
theorem dX1_branchByTable_67 : decode cX1_branchByTable 67 = .ok (.lload 4, 2) := by decide +kernel
theorem dX1_branchByTable_69 : decode cX1_branchByTable 69 = .ok (.invokestatic 418, 3) := by decide +kernel
theorem dX1_branchByTable_72 : decode cX1_branchByTable 72 = .ok (.isub, 1) := by decide +kernel
theorem dX1_branchByTable_73 : decode cX1_branchByTable 73 = .ok (.istore_n 2, 1) := by decide +kernel
theorem dX1_branchByTable_74 : decode cX1_branchByTable 74 = .ok (.iinc 3 1, 3) := by decide +kernel
theorem dX1_branchByTable_77 : decode cX1_branchByTable 77 = .ok (.goto (-49), 3) := by decide +kernel
theorem dX1_branchByTable_80 : decode cX1_branchByTable 80 = .ok (.aload_n 0, 1) := by decide +kernel
theorem dX1_branchByTable_81 : decode cX1_branchByTable 81 = .ok (.getfield 53, 3) := by decide +kernel
theorem dX1_branchByTable_84 : decode cX1_branchByTable 84 = .ok (.ifCond .eq 4, 3) := by decide +kernel
theorem dX1_branchByTable_87 : decode cX1_branchByTable 87 = .ok (.return_, 1) := by decide +kernel
theorem dX1_branchByTable_88 : decode cX1_branchByTable 88 = .ok (.aload_n 0, 1) := by decide +kernel
theorem dX1_branchByTable_89 : decode cX1_branchByTable 89 = .ok (.bipush 127, 2) := by decide +kernel
theorem dX1_branchByTable_91 : decode cX1_branchByTable 91 = .ok (.invokevirtual 289, 3) := by decide +kernel
theorem dX1_branchByTable_94 : decode cX1_branchByTable 94 = .ok (.pop, 1) := by decide +kernel
theorem dX1_branchByTable_95 : decode cX1_branchByTable 95 = .ok (.aload_n 0, 1) := by decide +kernel
theorem dX1_branchByTable_96 : decode cX1_branchByTable 96 = .ok (.bipush 14, 2) := by decide +kernel
theorem dX1_branchByTable_98 : decode cX1_branchByTable 98 = .ok (.iload_n 1, 1) := by decide +kernel
theorem dX1_branchByTable_99 : decode cX1_branchByTable 99 = .ok (.iconst 0, 1) := by decide +kernel
theorem dX1_branchByTable_100 : decode cX1_branchByTable 100 = .ok (.iconst 0, 1) := by decide +kernel
theorem dX1_branchByTable_101 : decode cX1_branchByTable 101 = .ok (.invokevirtual 322, 3) := by decide +kernel
theorem dX1_branchByTable_104 : decode cX1_branchByTable 104 = .ok (.pop, 1) := by decide +kernel
theorem dX1_branchByTable_105 : decode cX1_branchByTable 105 = .ok (.aload_n 0, 1) := by decide +kernel
theorem dX1_branchByTable_106 : decode cX1_branchByTable 106 = .ok (.getfield 36, 3) := by decide +kernel
theorem dX1_branchByTable_109 : decode cX1_branchByTable 109 = .ok (.aload_n 0, 1) := by decide +kernel
theorem dX1_branchByTable_110 : decode cX1_branchByTable 110 = .ok (.getfield 36, 3) := by decide +kernel
theorem dX1_branchByTable_113 : decode cX1_branchByTable 113 = .ok (.getfield 325, 3) := by decide +kernel
theorem dX1_branchByTable_116 : decode cX1_branchByTable 116 = .ok (.l2i, 1) := by decide +kernel
theorem dX1_branchByTable_117 : decode cX1_branchByTable 117 = .ok (.putfield 415, 3) := by decide +kernel
theorem dX1_branchByTable_120 : decode cX1_branchByTable 120 = .ok (.iconst 0, 1) := by decide +kernel
theorem dX1_branchByTable_121 : decode cX1_branchByTable 121 = .ok (.istore_n 3, 1) := by decide +kernel
theorem dX1_branchByTable_122 : decode cX1_branchByTable 122 = .ok (.iload_n 3, 1) := by decide +kernel
theorem dX1_branchByTable_123 : decode cX1_branchByTable 123 = .ok (.iload_n 1, 1) := by decide +kernel
theorem dX1_branchByTable_124 : decode cX1_branchByTable 124 = .ok (.if_icmp .gt 86, 3) := by decide +kernel
theorem dX1_branchByTable_127 : decode cX1_branchByTable 127 = .ok (.aload_n 0, 1) := by decide +kernel
theorem dX1_branchByTable_128 : decode cX1_branchByTable 128 = .ok (.getfield 53, 3) := by decide +kernel
theorem dX1_branchByTable_131 : decode cX1_branchByTable 131 = .ok (.ifCond .ne 79, 3) := by decide +kernel
theorem dX1_branchByTable_134 : decode cX1_branchByTable 134 = .ok (.aload_n 0, 1) := by decide +kernel
theorem dX1_branchByTable_135 : decode cX1_branchByTable 135 = .ok (.getfield 220, 3) := by decide +kernel
theorem dX1_branchByTable_138 : decode cX1_branchByTable 138 = .ok (.iconst 1, 1) := by decide +kernel
theorem dX1_branchByTable_139 : decode cX1_branchByTable 139 = .ok (.isub, 1) := by decide +kernel
theorem dX1_branchByTable_140 : decode cX1_branchByTable 140 = .ok (.aload_n 0, 1) := by decide +kernel
theorem dX1_branchByTable_141 : decode cX1_branchByTable 141 = .ok (.getfield 36, 3) := by decide +kernel
theorem dX1_branchByTable_144 : decode cX1_branchByTable 144 = .ok (.bipush 32, 2) := by decide +kernel
theorem dX1_branchByTable_146 : decode cX1_branchByTable 146 = .ok (.invokevirtual 181, 3) := by decide +kernel
theorem dX1_branchByTable_149 : decode cX1_branchByTable 149 = .ok (.l2i, 1) := by decide +kernel
theorem dX1_branchByTable_150 : decode cX1_branchByTable 150 = .ok (.isub, 1) := by decide +kernel
theorem dX1_branchByTable_151 : decode cX1_branchByTable 151 = .ok (.istore 4, 2) := by decide +kernel
theorem dX1_branchByTable_153 : decode cX1_branchByTable 153 = .ok (.aload_n 0, 1) := by decide +kernel
theorem dX1_branchByTable_154 : decode cX1_branchByTable 154 = .ok (.iload 4, 2) := by decide +kernel
theorem dX1_branchByTable_156 : decode cX1_branchByTable 156 = .ok (.invokevirtual 311, 3) := by decide +kernel
theorem dX1_branchByTable_159 : decode cX1_branchByTable 159 = .ok (.aload_n 0, 1) := by decide +kernel
theorem dX1_branchByTable_160 : decode cX1_branchByTable 160 = .ok (.iload_n 2, 1) := by decide +kernel
theorem dX1_branchByTable_161 : decode cX1_branchByTable 161 = .ok (.invokevirtual 311, 3) := by decide +kernel
theorem dX1_branchByTable_164 : decode cX1_branchByTable 164 = .ok (.if_icmp .eq 12, 3) := by decide +kernel
theorem dX1_branchByTable_167 : decode cX1_branchByTable 167 = .ok (.aload_n 0, 1) := by decide +kernel
theorem dX1_branchByTable_168 : decode cX1_branchByTable 168 = .ok (.bipush 29, 2) := by decide +kernel
theorem dX1_branchByTable_170 : decode cX1_branchByTable 170 = .ok (.invokevirtual 198, 3) := by decide +kernel
theorem dX1_branchByTable_173 : decode cX1_branchByTable 173 = .ok (.goto 23, 3) := by decide +kernel
theorem dX1_branchByTable_176 : decode cX1_branchByTable 176 = .ok (.iload_n 3, 1) := by decide +kernel
theorem dX1_branchByTable_177 : decode cX1_branchByTable 177 = .ok (.iload_n 1, 1) := by decide +kernel
theorem dX1_branchByTable_178 : decode cX1_branchByTable 178 = .ok (.if_icmp .ge 12, 3) := by decide +kernel
theorem dX1_branchByTable_181 : decode cX1_branchByTable 181 = .ok (.aload_n 0, 1) := by decide +kernel
theorem dX1_branchByTable_182 : decode cX1_branchByTable 182 = .ok (.iload 4, 2) := by decide +kernel
theorem dX1_branchByTable_184 : decode cX1_branchByTable 184 = .ok (.invokevirtual 422, 3) := by decide +kernel
theorem dX1_branchByTable_187 : decode cX1_branchByTable 187 = .ok (.goto 9, 3) := by decide +kernel
theorem dX1_branchByTable_190 : decode cX1_branchByTable 190 = .ok (.aload_n 0, 1) := by decide +kernel
theorem dX1_branchByTable_191 : decode cX1_branchByTable 191 = .ok (.iload 4, 2) := by decide +kernel
theorem dX1_branchByTable_193 : decode cX1_branchByTable 193 = .ok (.invokevirtual 375, 3) := by decide +kernel
theorem dX1_branchByTable_196 : decode cX1_branchByTable 196 = .ok (.aload_n 0, 1) := by decide +kernel
theorem dX1_branchByTable_197 : decode cX1_branchByTable 197 = .ok (.bipush 12, 2) := by decide +kernel
theorem dX1_branchByTable_199 : decode cX1_branchByTable 199 = .ok (.iload 4, 2) := by decide +kernel
theorem dX1_branchByTable_201 : decode cX1_branchByTable 201 = .ok (.invokevirtual 378, 3) := by decide +kernel
theorem dX1_branchByTable_204 : decode cX1_branchByTable 204 = .ok (.iinc 3 1, 3) := by decide +kernel
theorem dX1_branchByTable_207 : decode cX1_branchByTable 207 = .ok (.goto (-85), 3) := by decide +kernel
theorem dX1_branchByTable_210 : decode cX1_branchByTable 210 = .ok (.aload_n 0, 1) := by decide +kernel
theorem dX1_branchByTable_211 : decode cX1_branchByTable 211 = .ok (.invokevirtual 357, 3) := by decide +kernel
theorem dX1_branchByTable_214 : decode cX1_branchByTable 214 = .ok (.return_, 1) := by decide +kernel
noncomputable def tX1_branchByTable_0 (x0 : Nat) (h : pm_H) : Option (((Nat × pm_H) ⊕ (Nat × Int32 × Int32 × Int32 × pm_H) ⊕ (Nat × Int32 × Int32 × Int32 × pm_H) ⊕ (Nat × Int32 × Int32 × Int32 × Int32 × Int32 × pm_H) ⊕ (Nat × Int32 × Int32 × Int32 × Int32 × Int32 × Int32 × pm_H) ⊕ (Nat × Int32 × Int32 × Int32 × Int32 × pm_H) ⊕ (Nat × Int32 × Int32 × Int32 × Int32 × pm_H) ⊕ (Nat × Int32 × Int32 × Int32 × pm_H)) ⊕ pm_H) := if pm_kd h x0 = 1 then (pm_R h x0 3).bind fun v2 => if pm_kd h v2 = 9 then pm_let ((pm_L h v2 8).toInt32) fun y5 => pm_let ((pm_L h v2 9).toInt32) fun y7 => some (.inl (.inr (.inl ((x0, y5, 0, 0, pm_setI h v2 1 y7))))) else none else none
noncomputable def tX1_branchByTable_28 (x0 : Nat) (x1 : Int32) (x2 : Int32) (x3 : Int32) (h : pm_H) : Option (((Nat × pm_H) ⊕ (Nat × Int32 × Int32 × Int32 × pm_H) ⊕ (Nat × Int32 × Int32 × Int32 × pm_H) ⊕ (Nat × Int32 × Int32 × Int32 × Int32 × Int32 × pm_H) ⊕ (Nat × Int32 × Int32 × Int32 × Int32 × Int32 × Int32 × pm_H) ⊕ (Nat × Int32 × Int32 × Int32 × Int32 × pm_H) ⊕ (Nat × Int32 × Int32 × Int32 × Int32 × pm_H) ⊕ (Nat × Int32 × Int32 × Int32 × pm_H)) ⊕ pm_H) := if x1 < x3 then (if pm_kd h x0 = 1 then if (pm_I h x0 0) = 0 then ((fX1_take h x0 127).bind fun v12 => if pm_kd v12.2 x0 = 1 then (fX1_emit v12.2 x0 14 x1 0 0).bind fun v16 => if pm_kd v16.2 x0 = 1 then (pm_R v16.2 x0 3).bind fun v20 => if pm_kd v16.2 v20 = 9 then pm_let ((pm_L v16.2 v20 9).toInt32) fun y23 => some (.inl (.inr (.inr (.inl ((x0, x1, x2, 0, pm_setI v16.2 v20 1 y23)))))) else none else none else none) else (some (.inr (h))) else none) else (if pm_kd h x0 = 1 then (pm_R h x0 3).bind fun v26 => if pm_kd h v26 = 9 then (fX9_number h v26 32).bind fun v29 => if pm_kd v29.2 x0 = 1 then if v29.1 < ((pm_I v29.2 x0 10).toInt64) then (pm_let (fX12_index v29.1) fun v34 => pm_let (((pm_I v29.2 x0 10) - 1) - v34) fun y36 => pm_let (x3 + 1) fun y38 => some (.inl (.inr (.inl ((x0, x1, y36, y38, v29.2)))))) else ((fX1_fail v29.2 x0 30).bind fun v40 => if pm_kd v40 x0 = 1 then pm_let (fX12_index v29.1) fun v44 => pm_let (((pm_I v40 x0 10) - 1) - v44) fun y46 => pm_let (x3 + 1) fun y48 => some (.inl (.inr (.inl ((x0, x1, y46, y48, v40))))) else none) else none else none else none)
noncomputable def tX1_branchByTable_122 (x0 : Nat) (x1 : Int32) (x2 : Int32) (x3 : Int32) (h : pm_H) : Option (((Nat × pm_H) ⊕ (Nat × Int32 × Int32 × Int32 × pm_H) ⊕ (Nat × Int32 × Int32 × Int32 × pm_H) ⊕ (Nat × Int32 × Int32 × Int32 × Int32 × Int32 × pm_H) ⊕ (Nat × Int32 × Int32 × Int32 × Int32 × Int32 × Int32 × pm_H) ⊕ (Nat × Int32 × Int32 × Int32 × Int32 × pm_H) ⊕ (Nat × Int32 × Int32 × Int32 × Int32 × pm_H) ⊕ (Nat × Int32 × Int32 × Int32 × pm_H)) ⊕ pm_H) := if x1 < x3 then (if pm_kd h x0 = 1 then (fX1_die h x0).bind fun v52 => some (.inr (v52)) else none) else (if pm_kd h x0 = 1 then if (pm_I h x0 0) = 0 then ((pm_R h x0 3).bind fun v60 => if pm_kd h v60 = 9 then (fX9_number h v60 32).bind fun v63 => pm_let (((pm_I h x0 10) - 1) - v63.1.toInt32) fun y66 => if pm_kd v63.2 x0 = 1 then (fX1_wantedCount v63.2 x0 y66).bind fun v69 => some (.inl (.inr (.inr (.inr (.inl ((x0, x1, x2, x3, y66, v69.1, v69.2))))))) else none else none) else ((fX1_die h x0).bind fun v57 => some (.inr (v57))) else none)
noncomputable def tX1_branchByTable_159 (x0 : Nat) (x1 : Int32) (x2 : Int32) (x3 : Int32) (x4 : Int32) (s0 : Int32) (h : pm_H) : Option (((Nat × pm_H) ⊕ (Nat × Int32 × Int32 × Int32 × pm_H) ⊕ (Nat × Int32 × Int32 × Int32 × pm_H) ⊕ (Nat × Int32 × Int32 × Int32 × Int32 × Int32 × pm_H) ⊕ (Nat × Int32 × Int32 × Int32 × Int32 × Int32 × Int32 × pm_H) ⊕ (Nat × Int32 × Int32 × Int32 × Int32 × pm_H) ⊕ (Nat × Int32 × Int32 × Int32 × Int32 × pm_H) ⊕ (Nat × Int32 × Int32 × Int32 × pm_H)) ⊕ pm_H) := if pm_kd h x0 = 1 then (fX1_wantedCount h x0 x2).bind fun v72 => some (.inl (.inr (.inr (.inr (.inr (.inl ((x0, x1, x2, x3, x4, v72.1, s0, v72.2)))))))) else none
noncomputable def tX1_branchByTable_164 (x0 : Nat) (x1 : Int32) (x2 : Int32) (x3 : Int32) (x4 : Int32) (s0 : Int32) (s1 : Int32) (h : pm_H) : Option (((Nat × pm_H) ⊕ (Nat × Int32 × Int32 × Int32 × pm_H) ⊕ (Nat × Int32 × Int32 × Int32 × pm_H) ⊕ (Nat × Int32 × Int32 × Int32 × Int32 × Int32 × pm_H) ⊕ (Nat × Int32 × Int32 × Int32 × Int32 × Int32 × Int32 × pm_H) ⊕ (Nat × Int32 × Int32 × Int32 × Int32 × pm_H) ⊕ (Nat × Int32 × Int32 × Int32 × Int32 × pm_H) ⊕ (Nat × Int32 × Int32 × Int32 × pm_H)) ⊕ pm_H) := if s1 = s0 then (if x1 ≤ x3 then (if pm_kd h x0 = 1 then (fX1_takeWanted h x0 x4).bind fun v77 => some (.inl (.inr (.inr (.inr (.inr (.inr (.inl ((x0, x1, x2, x3, x4, v77))))))))) else none) else (if pm_kd h x0 = 1 then (fX1_takeAndPutAgain h x0 x4).bind fun v80 => some (.inl (.inr (.inr (.inr (.inr (.inr (.inr (.inl ((x0, x1, x2, x3, x4, v80)))))))))) else none)) else (if pm_kd h x0 = 1 then (fX1_fail h x0 29).bind fun v83 => some (.inl (.inr (.inr (.inr (.inr (.inr (.inl ((x0, x1, x2, x3, x4, v83))))))))) else none)
noncomputable def tX1_branchByTable_196 (x0 : Nat) (x1 : Int32) (x2 : Int32) (x3 : Int32) (x4 : Int32) (h : pm_H) : Option (((Nat × pm_H) ⊕ (Nat × Int32 × Int32 × Int32 × pm_H) ⊕ (Nat × Int32 × Int32 × Int32 × pm_H) ⊕ (Nat × Int32 × Int32 × Int32 × Int32 × Int32 × pm_H) ⊕ (Nat × Int32 × Int32 × Int32 × Int32 × Int32 × Int32 × pm_H) ⊕ (Nat × Int32 × Int32 × Int32 × Int32 × pm_H) ⊕ (Nat × Int32 × Int32 × Int32 × Int32 × pm_H) ⊕ (Nat × Int32 × Int32 × Int32 × pm_H)) ⊕ pm_H) := if pm_kd h x0 = 1 then (fX1_emitBranch h x0 12 x4).bind fun v87 => some (.inl (.inr (.inr (.inr (.inr (.inr (.inr (.inr ((x0, x1, x2, x3, v87)))))))))) else none
noncomputable def tX1_branchByTable_187 (x0 : Nat) (x1 : Int32) (x2 : Int32) (x3 : Int32) (x4 : Int32) (h : pm_H) : Option (((Nat × pm_H) ⊕ (Nat × Int32 × Int32 × Int32 × pm_H) ⊕ (Nat × Int32 × Int32 × Int32 × pm_H) ⊕ (Nat × Int32 × Int32 × Int32 × Int32 × Int32 × pm_H) ⊕ (Nat × Int32 × Int32 × Int32 × Int32 × Int32 × Int32 × pm_H) ⊕ (Nat × Int32 × Int32 × Int32 × Int32 × pm_H) ⊕ (Nat × Int32 × Int32 × Int32 × Int32 × pm_H) ⊕ (Nat × Int32 × Int32 × Int32 × pm_H)) ⊕ pm_H) := some (.inl (.inr (.inr (.inr (.inr (.inr (.inl ((x0, x1, x2, x3, x4, h)))))))))
noncomputable def tX1_branchByTable_204 (x0 : Nat) (x1 : Int32) (x2 : Int32) (x3 : Int32) (h : pm_H) : Option (((Nat × pm_H) ⊕ (Nat × Int32 × Int32 × Int32 × pm_H) ⊕ (Nat × Int32 × Int32 × Int32 × pm_H) ⊕ (Nat × Int32 × Int32 × Int32 × Int32 × Int32 × pm_H) ⊕ (Nat × Int32 × Int32 × Int32 × Int32 × Int32 × Int32 × pm_H) ⊕ (Nat × Int32 × Int32 × Int32 × Int32 × pm_H) ⊕ (Nat × Int32 × Int32 × Int32 × Int32 × pm_H) ⊕ (Nat × Int32 × Int32 × Int32 × pm_H)) ⊕ pm_H) := pm_let (x3 + 1) fun y89 => some (.inl (.inr (.inr (.inl ((x0, x1, x2, y89, h))))))
noncomputable def sX1_branchByTable : ((Nat × pm_H) ⊕ (Nat × Int32 × Int32 × Int32 × pm_H) ⊕ (Nat × Int32 × Int32 × Int32 × pm_H) ⊕ (Nat × Int32 × Int32 × Int32 × Int32 × Int32 × pm_H) ⊕ (Nat × Int32 × Int32 × Int32 × Int32 × Int32 × Int32 × pm_H) ⊕ (Nat × Int32 × Int32 × Int32 × Int32 × pm_H) ⊕ (Nat × Int32 × Int32 × Int32 × Int32 × pm_H) ⊕ (Nat × Int32 × Int32 × Int32 × pm_H)) → Option (((Nat × pm_H) ⊕ (Nat × Int32 × Int32 × Int32 × pm_H) ⊕ (Nat × Int32 × Int32 × Int32 × pm_H) ⊕ (Nat × Int32 × Int32 × Int32 × Int32 × Int32 × pm_H) ⊕ (Nat × Int32 × Int32 × Int32 × Int32 × Int32 × Int32 × pm_H) ⊕ (Nat × Int32 × Int32 × Int32 × Int32 × pm_H) ⊕ (Nat × Int32 × Int32 × Int32 × Int32 × pm_H) ⊕ (Nat × Int32 × Int32 × Int32 × pm_H)) ⊕ pm_H) := fun z => match z with
  | .inl (x0, h) => tX1_branchByTable_0 x0 h
  | .inr (.inl (x0, x1, x2, x3, h)) => tX1_branchByTable_28 x0 x1 x2 x3 h
  | .inr (.inr (.inl (x0, x1, x2, x3, h))) => tX1_branchByTable_122 x0 x1 x2 x3 h
  | .inr (.inr (.inr (.inl (x0, x1, x2, x3, x4, s0, h)))) => tX1_branchByTable_159 x0 x1 x2 x3 x4 s0 h
  | .inr (.inr (.inr (.inr (.inl (x0, x1, x2, x3, x4, s0, s1, h))))) => tX1_branchByTable_164 x0 x1 x2 x3 x4 s0 s1 h
  | .inr (.inr (.inr (.inr (.inr (.inl (x0, x1, x2, x3, x4, h)))))) => tX1_branchByTable_196 x0 x1 x2 x3 x4 h
  | .inr (.inr (.inr (.inr (.inr (.inr (.inl (x0, x1, x2, x3, x4, h))))))) => tX1_branchByTable_187 x0 x1 x2 x3 x4 h
  | .inr (.inr (.inr (.inr (.inr (.inr (.inr (x0, x1, x2, x3, h))))))) => tX1_branchByTable_204 x0 x1 x2 x3 h
noncomputable def fX1_branchByTable (h : pm_H) (a0 : Nat) : Option pm_H := pm_lim sX1_branchByTable (.inl ((a0, h)))
set_option maxHeartbeats 4000000 in
set_option maxRecDepth 100000 in
theorem mlX1_branchByTable {r : pm_H} : ∀ n : Nat, (∀ (x0 : Nat) (h : pm_H), pm_iter sX1_branchByTable n (.inl (x0, h)) = some r → pm_Le h r) ∧ (∀ (x0 : Nat) (x1 : Int32) (x2 : Int32) (x3 : Int32) (h : pm_H), pm_iter sX1_branchByTable n (.inr (.inl (x0, x1, x2, x3, h))) = some r → pm_Le h r) ∧ (∀ (x0 : Nat) (x1 : Int32) (x2 : Int32) (x3 : Int32) (h : pm_H), pm_iter sX1_branchByTable n (.inr (.inr (.inl (x0, x1, x2, x3, h)))) = some r → pm_Le h r) ∧ (∀ (x0 : Nat) (x1 : Int32) (x2 : Int32) (x3 : Int32) (x4 : Int32) (s0 : Int32) (h : pm_H), pm_iter sX1_branchByTable n (.inr (.inr (.inr (.inl (x0, x1, x2, x3, x4, s0, h))))) = some r → pm_Le h r) ∧ (∀ (x0 : Nat) (x1 : Int32) (x2 : Int32) (x3 : Int32) (x4 : Int32) (s0 : Int32) (s1 : Int32) (h : pm_H), pm_iter sX1_branchByTable n (.inr (.inr (.inr (.inr (.inl (x0, x1, x2, x3, x4, s0, s1, h)))))) = some r → pm_Le h r) ∧ (∀ (x0 : Nat) (x1 : Int32) (x2 : Int32) (x3 : Int32) (x4 : Int32) (h : pm_H), pm_iter sX1_branchByTable n (.inr (.inr (.inr (.inr (.inr (.inl (x0, x1, x2, x3, x4, h))))))) = some r → pm_Le h r) ∧ (∀ (x0 : Nat) (x1 : Int32) (x2 : Int32) (x3 : Int32) (x4 : Int32) (h : pm_H), pm_iter sX1_branchByTable n (.inr (.inr (.inr (.inr (.inr (.inr (.inl (x0, x1, x2, x3, x4, h)))))))) = some r → pm_Le h r) ∧ (∀ (x0 : Nat) (x1 : Int32) (x2 : Int32) (x3 : Int32) (h : pm_H), pm_iter sX1_branchByTable n (.inr (.inr (.inr (.inr (.inr (.inr (.inr (x0, x1, x2, x3, h)))))))) = some r → pm_Le h r) := by
  intro n
  induction n with
  | zero => exact ⟨fun _ _ hf => (by cases hf), fun _ _ _ _ _ hf => (by cases hf), fun _ _ _ _ _ hf => (by cases hf), fun _ _ _ _ _ _ _ hf => (by cases hf), fun _ _ _ _ _ _ _ _ hf => (by cases hf), fun _ _ _ _ _ _ hf => (by cases hf), fun _ _ _ _ _ _ hf => (by cases hf), fun _ _ _ _ _ hf => (by cases hf)⟩
  | succ n ih =>
    refine ⟨fun x0 h hf => ?_, ?_⟩
    · obtain ⟨y, hf, hi⟩ := pm_iter_s hf
      have hf : tX1_branchByTable_0 x0 h = some y := hf
      unfold tX1_branchByTable_0 at hf
      have K0 := pm_S3.rf h
      obtain ⟨k1, hf⟩ := pm_if hf
      obtain ⟨v2, e3, hf⟩ := pm_bd hf
      obtain ⟨k4, hf⟩ := pm_if hf
      obtain ⟨y5, e6, hf⟩ := pm_lt hf
      obtain ⟨y7, e8, hf⟩ := pm_lt hf
      cases hf
      exact (pm_S3.le (pm_S3I K0)).trans (ih.2.1 x0 y5 0 0 (pm_setI h v2 1 y7) hi)
    refine ⟨fun x0 x1 x2 x3 h hf => ?_, ?_⟩
    · obtain ⟨y, hf, hi⟩ := pm_iter_s hf
      have hf : tX1_branchByTable_28 x0 x1 x2 x3 h = some y := hf
      unfold tX1_branchByTable_28 at hf
      have K0 := pm_S3.rf h
      by_cases c9 : x1 < x3
      · have hf := pm_it hf c9
        obtain ⟨k10, hf⟩ := pm_if hf
        by_cases c11 : (pm_I h x0 0) = 0
        · have hf := pm_it hf c11
          obtain ⟨v12, e13, hf⟩ := pm_bd hf
          have K14 := pm_S3.trans (kpX1_take e13) K0
          obtain ⟨k15, hf⟩ := pm_if hf
          obtain ⟨v16, e17, hf⟩ := pm_bd hf
          have K18 := pm_S3.trans (kpX1_emit e17) K14
          obtain ⟨k19, hf⟩ := pm_if hf
          obtain ⟨v20, e21, hf⟩ := pm_bd hf
          obtain ⟨k22, hf⟩ := pm_if hf
          obtain ⟨y23, e24, hf⟩ := pm_lt hf
          cases hf
          exact (pm_S3.le (pm_S3I K18)).trans (ih.2.2.1 x0 x1 x2 0 (pm_setI v16.2 v20 1 y23) hi)
        · have hf := pm_ie hf c11
          have hf := Option.some.inj hf
          subst hf
          have hi := Option.some.inj (show some _ = some r from hi)
          subst hi
          exact pm_S3.le K0
      · have hf := pm_ie hf c9
        obtain ⟨k25, hf⟩ := pm_if hf
        obtain ⟨v26, e27, hf⟩ := pm_bd hf
        obtain ⟨k28, hf⟩ := pm_if hf
        obtain ⟨v29, e30, hf⟩ := pm_bd hf
        have K31 := pm_S3.trans (kpX9_number e30) K0
        obtain ⟨k32, hf⟩ := pm_if hf
        by_cases c33 : v29.1 < ((pm_I v29.2 x0 10).toInt64)
        · have hf := pm_it hf c33
          obtain ⟨v34, e35, hf⟩ := pm_lt hf
          obtain ⟨y36, e37, hf⟩ := pm_lt hf
          obtain ⟨y38, e39, hf⟩ := pm_lt hf
          cases hf
          exact (pm_S3.le K31).trans (ih.2.1 x0 x1 y36 y38 v29.2 hi)
        · have hf := pm_ie hf c33
          obtain ⟨v40, e41, hf⟩ := pm_bd hf
          have K42 := pm_S3.trans (kpX1_fail e41) K31
          obtain ⟨k43, hf⟩ := pm_if hf
          obtain ⟨v44, e45, hf⟩ := pm_lt hf
          obtain ⟨y46, e47, hf⟩ := pm_lt hf
          obtain ⟨y48, e49, hf⟩ := pm_lt hf
          cases hf
          exact (pm_S3.le K42).trans (ih.2.1 x0 x1 y46 y48 v40 hi)
    refine ⟨fun x0 x1 x2 x3 h hf => ?_, ?_⟩
    · obtain ⟨y, hf, hi⟩ := pm_iter_s hf
      have hf : tX1_branchByTable_122 x0 x1 x2 x3 h = some y := hf
      unfold tX1_branchByTable_122 at hf
      have K0 := pm_S3.rf h
      by_cases c50 : x1 < x3
      · have hf := pm_it hf c50
        obtain ⟨k51, hf⟩ := pm_if hf
        obtain ⟨v52, e53, hf⟩ := pm_bd hf
        have K54 := pm_S3.trans (kpX1_die e53) K0
        have hf := Option.some.inj hf
        subst hf
        have hi := Option.some.inj (show some _ = some r from hi)
        subst hi
        exact pm_S3.le K54
      · have hf := pm_ie hf c50
        obtain ⟨k55, hf⟩ := pm_if hf
        by_cases c56 : (pm_I h x0 0) = 0
        · have hf := pm_it hf c56
          obtain ⟨v57, e58, hf⟩ := pm_bd hf
          obtain ⟨k59, hf⟩ := pm_if hf
          obtain ⟨v60, e61, hf⟩ := pm_bd hf
          have K62 := pm_S3.trans (kpX9_number e61) K0
          obtain ⟨y63, e64, hf⟩ := pm_lt hf
          obtain ⟨k65, hf⟩ := pm_if hf
          obtain ⟨v66, e67, hf⟩ := pm_bd hf
          cases hf
          exact ((pm_S3.le K62).trans (moX1_wantedCount e67)).trans (ih.2.2.2.1 x0 x1 x2 x3 y63 v66.1 v66.2 hi)
        · have hf := pm_ie hf c56
          obtain ⟨v68, e69, hf⟩ := pm_bd hf
          have K70 := pm_S3.trans (kpX1_die e69) K0
          have hf := Option.some.inj hf
          subst hf
          have hi := Option.some.inj (show some _ = some r from hi)
          subst hi
          exact pm_S3.le K70
    refine ⟨fun x0 x1 x2 x3 x4 s0 h hf => ?_, ?_⟩
    · obtain ⟨y, hf, hi⟩ := pm_iter_s hf
      have hf : tX1_branchByTable_159 x0 x1 x2 x3 x4 s0 h = some y := hf
      unfold tX1_branchByTable_159 at hf
      have K0 := pm_S3.rf h
      obtain ⟨k71, hf⟩ := pm_if hf
      obtain ⟨v72, e73, hf⟩ := pm_bd hf
      cases hf
      exact ((pm_S3.le K0).trans (moX1_wantedCount e73)).trans (ih.2.2.2.2.1 x0 x1 x2 x3 x4 v72.1 s0 v72.2 hi)
    refine ⟨fun x0 x1 x2 x3 x4 s0 s1 h hf => ?_, ?_⟩
    · obtain ⟨y, hf, hi⟩ := pm_iter_s hf
      have hf : tX1_branchByTable_164 x0 x1 x2 x3 x4 s0 s1 h = some y := hf
      unfold tX1_branchByTable_164 at hf
      have K0 := pm_S3.rf h
      by_cases c74 : s1 = s0
      · have hf := pm_it hf c74
        by_cases c75 : x1 ≤ x3
        · have hf := pm_it hf c75
          obtain ⟨k76, hf⟩ := pm_if hf
          obtain ⟨v77, e78, hf⟩ := pm_bd hf
          cases hf
          exact ((pm_S3.le K0).trans (moX1_takeWanted e78)).trans (ih.2.2.2.2.2.1 x0 x1 x2 x3 x4 v77 hi)
        · have hf := pm_ie hf c75
          obtain ⟨k79, hf⟩ := pm_if hf
          obtain ⟨v80, e81, hf⟩ := pm_bd hf
          cases hf
          exact ((pm_S3.le K0).trans (moX1_takeAndPutAgain e81)).trans (ih.2.2.2.2.2.2.1 x0 x1 x2 x3 x4 v80 hi)
      · have hf := pm_ie hf c74
        obtain ⟨k82, hf⟩ := pm_if hf
        obtain ⟨v83, e84, hf⟩ := pm_bd hf
        have K85 := pm_S3.trans (kpX1_fail e84) K0
        cases hf
        exact (pm_S3.le K85).trans (ih.2.2.2.2.2.1 x0 x1 x2 x3 x4 v83 hi)
    refine ⟨fun x0 x1 x2 x3 x4 h hf => ?_, ?_⟩
    · obtain ⟨y, hf, hi⟩ := pm_iter_s hf
      have hf : tX1_branchByTable_196 x0 x1 x2 x3 x4 h = some y := hf
      unfold tX1_branchByTable_196 at hf
      have K0 := pm_S3.rf h
      obtain ⟨k86, hf⟩ := pm_if hf
      obtain ⟨v87, e88, hf⟩ := pm_bd hf
      cases hf
      exact ((pm_S3.le K0).trans (moX1_emitBranch e88)).trans (ih.2.2.2.2.2.2.2 x0 x1 x2 x3 v87 hi)
    refine ⟨fun x0 x1 x2 x3 x4 h hf => ?_, ?_⟩
    · obtain ⟨y, hf, hi⟩ := pm_iter_s hf
      have hf : tX1_branchByTable_187 x0 x1 x2 x3 x4 h = some y := hf
      unfold tX1_branchByTable_187 at hf
      have K0 := pm_S3.rf h
      cases hf
      exact (pm_S3.le K0).trans (ih.2.2.2.2.2.1 x0 x1 x2 x3 x4 h hi)
    refine fun x0 x1 x2 x3 h hf => ?_
    obtain ⟨y, hf, hi⟩ := pm_iter_s hf
    have hf : tX1_branchByTable_204 x0 x1 x2 x3 h = some y := hf
    unfold tX1_branchByTable_204 at hf
    have K0 := pm_S3.rf h
    obtain ⟨y89, e90, hf⟩ := pm_lt hf
    cases hf
    exact (pm_S3.le K0).trans (ih.2.2.1 x0 x1 x2 y89 h hi)
set_option maxHeartbeats 4000000 in
set_option maxRecDepth 100000 in
theorem moX1_branchByTable {h : pm_H} {a0 : Nat} {r : pm_H} (hf : fX1_branchByTable h a0 = some r) : pm_Le h r := by
  unfold fX1_branchByTable at hf
  have K0 := pm_S3.rf h
  obtain ⟨n, hn⟩ := pm_lim_iter hf
  exact (mlX1_branchByTable n).1 a0 h hn
set_option maxHeartbeats 4000000 in
set_option maxRecDepth 100000 in
theorem lpX1_branchByTable {g : pm_Gm} {l : Launch} {G : pm_Gl} {Qr : Option Value → pm_H → Prop} (C : pm_C g cX1_branchByTable RX1) {h0 : pm_H} {r : pm_H} (X : pm_X g l G mX1_branchByTable (pm_sz r - pm_sz h0) (pm_us r - pm_us h0) Qr) (q : Qr none r) : ∀ n : Nat, (∀ (x0 : Nat) (h : pm_H), pm_Le h0 h → pm_iter sX1_branchByTable n (.inl (x0, h)) = some r → pm_G g 0 [(0, .ref x0)] [] h (pm_sz h - pm_sz h0) (pm_us h - pm_us h0)) ∧ (∀ (x0 : Nat) (x1 : Int32) (x2 : Int32) (x3 : Int32) (h : pm_H), pm_Le h0 h → pm_iter sX1_branchByTable n (.inr (.inl (x0, x1, x2, x3, h))) = some r → pm_G g 28 [(0, .ref x0), (1, .int x1), (2, .int x2), (3, .int x3)] [] h (pm_sz h - pm_sz h0) (pm_us h - pm_us h0)) ∧ (∀ (x0 : Nat) (x1 : Int32) (x2 : Int32) (x3 : Int32) (h : pm_H), pm_Le h0 h → pm_iter sX1_branchByTable n (.inr (.inr (.inl (x0, x1, x2, x3, h)))) = some r → pm_G g 122 [(0, .ref x0), (1, .int x1), (2, .int x2), (3, .int x3)] [] h (pm_sz h - pm_sz h0) (pm_us h - pm_us h0)) ∧ (∀ (x0 : Nat) (x1 : Int32) (x2 : Int32) (x3 : Int32) (x4 : Int32) (s0 : Int32) (h : pm_H), pm_Le h0 h → pm_iter sX1_branchByTable n (.inr (.inr (.inr (.inl (x0, x1, x2, x3, x4, s0, h))))) = some r → pm_G g 159 [(0, .ref x0), (1, .int x1), (2, .int x2), (3, .int x3), (4, .int x4)] [.int s0] h (pm_sz h - pm_sz h0) (pm_us h - pm_us h0)) ∧ (∀ (x0 : Nat) (x1 : Int32) (x2 : Int32) (x3 : Int32) (x4 : Int32) (s0 : Int32) (s1 : Int32) (h : pm_H), pm_Le h0 h → pm_iter sX1_branchByTable n (.inr (.inr (.inr (.inr (.inl (x0, x1, x2, x3, x4, s0, s1, h)))))) = some r → pm_G g 164 [(0, .ref x0), (1, .int x1), (2, .int x2), (3, .int x3), (4, .int x4)] [.int s0, .int s1] h (pm_sz h - pm_sz h0) (pm_us h - pm_us h0)) ∧ (∀ (x0 : Nat) (x1 : Int32) (x2 : Int32) (x3 : Int32) (x4 : Int32) (h : pm_H), pm_Le h0 h → pm_iter sX1_branchByTable n (.inr (.inr (.inr (.inr (.inr (.inl (x0, x1, x2, x3, x4, h))))))) = some r → pm_G g 196 [(0, .ref x0), (1, .int x1), (2, .int x2), (3, .int x3), (4, .int x4)] [] h (pm_sz h - pm_sz h0) (pm_us h - pm_us h0)) ∧ (∀ (x0 : Nat) (x1 : Int32) (x2 : Int32) (x3 : Int32) (x4 : Int32) (h : pm_H), pm_Le h0 h → pm_iter sX1_branchByTable n (.inr (.inr (.inr (.inr (.inr (.inr (.inl (x0, x1, x2, x3, x4, h)))))))) = some r → pm_G g 187 [(0, .ref x0), (1, .int x1), (2, .int x2), (3, .int x3), (4, .int x4)] [] h (pm_sz h - pm_sz h0) (pm_us h - pm_us h0)) ∧ (∀ (x0 : Nat) (x1 : Int32) (x2 : Int32) (x3 : Int32) (h : pm_H), pm_Le h0 h → pm_iter sX1_branchByTable n (.inr (.inr (.inr (.inr (.inr (.inr (.inr (x0, x1, x2, x3, h)))))))) = some r → pm_G g 204 [(0, .ref x0), (1, .int x1), (2, .int x2), (3, .int x3)] [] h (pm_sz h - pm_sz h0) (pm_us h - pm_us h0)) := by
  intro n
  induction n with
  | zero => exact ⟨fun _ _ _ hf => (by cases hf), fun _ _ _ _ _ _ hf => (by cases hf), fun _ _ _ _ _ _ hf => (by cases hf), fun _ _ _ _ _ _ _ _ hf => (by cases hf), fun _ _ _ _ _ _ _ _ _ hf => (by cases hf), fun _ _ _ _ _ _ _ hf => (by cases hf), fun _ _ _ _ _ _ _ hf => (by cases hf), fun _ _ _ _ _ _ hf => (by cases hf)⟩
  | succ n ih =>
    refine ⟨fun x0 h m0 hf => ?_, ?_⟩
    · have le0 := (mlX1_branchByTable (n + 1)).1 x0 h hf
      have kc1 := Nat.sub_le_sub_right le0.1 (pm_sz h0)
      have kc2 := Nat.sub_le_sub_right le0.2 (pm_us h0)
      have K0 := pm_S3.rf h
      obtain ⟨y, hf, hi⟩ := pm_iter_s hf
      have hf : tX1_branchByTable_0 x0 h = some y := hf
      unfold tX1_branchByTable_0 at hf
      refine pm_aload_n C dX1_branchByTable_0 rfl rfl ?_
      obtain ⟨k1, hf⟩ := pm_if hf
      obtain ⟨v2, e3, hf⟩ := pm_bd hf
      refine pm_getR C dX1_branchByTable_1 flX1_36 rfl k1 e3 ?_
      obtain ⟨k4, hf⟩ := pm_if hf
      refine pm_getL C dX1_branchByTable_4 flX1_201 rfl k4 rfl ?_
      refine pm_l2i C dX1_branchByTable_7 ?_
      obtain ⟨y5, e6, hf⟩ := pm_lt hf
      refine pm_topI e6 ?_
      refine pm_istore_n (lv' := [(1, .int y5), (0, .ref x0)]) C dX1_branchByTable_8 rfl (pm_nl X (by decide)) rfl ?_
      refine pm_iconst (v := 0) C dX1_branchByTable_9 (by decide) ?_
      refine pm_istore_n (lv' := [(2, .int 0), (1, .int y5), (0, .ref x0)]) C dX1_branchByTable_10 rfl (pm_nl X (by decide)) rfl ?_
      refine pm_aload_n C dX1_branchByTable_11 rfl rfl ?_
      refine pm_getR C dX1_branchByTable_12 flX1_36 rfl k1 e3 ?_
      refine pm_aload_n C dX1_branchByTable_15 rfl rfl ?_
      refine pm_getR C dX1_branchByTable_16 flX1_36 rfl k1 e3 ?_
      refine pm_getL C dX1_branchByTable_19 flX1_325 rfl k4 rfl ?_
      refine pm_l2i C dX1_branchByTable_22 ?_
      obtain ⟨y7, e8, hf⟩ := pm_lt hf
      refine pm_topI e8 ?_
      refine pm_putI C dX1_branchByTable_23 flX1_415 rfl rfl k4 rfl rfl ?_
      refine pm_iconst (v := 0) C dX1_branchByTable_26 (by decide) ?_
      refine pm_istore_n (lv' := [(3, .int 0), (2, .int 0), (1, .int y5), (0, .ref x0)]) C dX1_branchByTable_27 rfl (pm_nl X (by decide)) rfl ?_
      cases hf
      exact pa_join (pm_S3I K0) (pm_sub [3, 2, 1, 0] rfl (ih.2.1 x0 y5 0 0 (pm_setI h v2 1 y7) (m0.trans (pm_S3.le (pm_S3I K0))) hi))
    refine ⟨fun x0 x1 x2 x3 h m0 hf => ?_, ?_⟩
    · have le0 := (mlX1_branchByTable (n + 1)).2.1 x0 x1 x2 x3 h hf
      have kc1 := Nat.sub_le_sub_right le0.1 (pm_sz h0)
      have kc2 := Nat.sub_le_sub_right le0.2 (pm_us h0)
      have K0 := pm_S3.rf h
      obtain ⟨y, hf, hi⟩ := pm_iter_s hf
      have hf : tX1_branchByTable_28 x0 x1 x2 x3 h = some y := hf
      unfold tX1_branchByTable_28 at hf
      refine pm_iload_n C dX1_branchByTable_28 rfl rfl ?_
      refine pm_iload_n C dX1_branchByTable_29 rfl rfl ?_
      refine pm_icmp_gt (tgt := 80) C dX1_branchByTable_30 (by decide) (fun c9 => ?_) (fun c9 => ?_)
      · have hf := pm_it hf c9
        refine pm_aload_n C dX1_branchByTable_80 rfl rfl ?_
        obtain ⟨k10, hf⟩ := pm_if hf
        refine pm_getI C dX1_branchByTable_81 flX1_53 rfl k10 rfl ?_
        refine pm_if_eq (tgt := 88) C dX1_branchByTable_84 (by decide) (fun c11 => ?_) (fun c11 => ?_)
        · have hf := pm_it hf c11
          refine pm_aload_n C dX1_branchByTable_88 rfl rfl ?_
          refine pm_bipush (v := 127) C dX1_branchByTable_89 (by decide) ?_
          obtain ⟨v12, e13, hf⟩ := pm_bd hf
          refine pm_callV (as := [.int 127]) (st := []) C X dX1_branchByTable_91 lnX1_289 myX1_take viX1_take ⟨by decide, by decide⟩ rfl rfl k10 (Nat.le_of_ble_eq_true rfl) kc1 kc2 (ctX1_take e13 ?_)
          have K14 := pm_S3.trans (kpX1_take e13) K0
          show pm_G g 94 [(0, .ref x0), (1, .int x1), (2, .int x2), (3, .int x3)] [.int v12.1] v12.2 (pm_sz h - pm_sz h0) (pm_us h - pm_us h0)
          refine pm_pop C dX1_branchByTable_94 rfl ?_
          refine pm_aload_n C dX1_branchByTable_95 rfl rfl ?_
          refine pm_bipush (v := 14) C dX1_branchByTable_96 (by decide) ?_
          refine pm_iload_n C dX1_branchByTable_98 rfl rfl ?_
          refine pm_iconst (v := 0) C dX1_branchByTable_99 (by decide) ?_
          refine pm_iconst (v := 0) C dX1_branchByTable_100 (by decide) ?_
          obtain ⟨k15, hf⟩ := pm_if hf
          obtain ⟨v16, e17, hf⟩ := pm_bd hf
          refine pm_callV (as := [.int 14, .int x1, .int 0, .int 0]) (st := []) C X dX1_branchByTable_101 lnX1_322 myX1_emit viX1_emit ⟨by decide, by decide⟩ rfl rfl k15 (Nat.le_of_ble_eq_true rfl) kc1 kc2 (ctX1_emit e17 ?_)
          have K18 := pm_S3.trans (kpX1_emit e17) K14
          show pm_G g 104 [(0, .ref x0), (1, .int x1), (2, .int x2), (3, .int x3)] [.int v16.1] v16.2 (pm_sz h - pm_sz h0) (pm_us h - pm_us h0)
          refine pm_pop C dX1_branchByTable_104 rfl ?_
          refine pm_aload_n C dX1_branchByTable_105 rfl rfl ?_
          obtain ⟨k19, hf⟩ := pm_if hf
          obtain ⟨v20, e21, hf⟩ := pm_bd hf
          refine pm_getR C dX1_branchByTable_106 flX1_36 rfl k19 e21 ?_
          refine pm_aload_n C dX1_branchByTable_109 rfl rfl ?_
          refine pm_getR C dX1_branchByTable_110 flX1_36 rfl k19 e21 ?_
          obtain ⟨k22, hf⟩ := pm_if hf
          refine pm_getL C dX1_branchByTable_113 flX1_325 rfl k22 rfl ?_
          refine pm_l2i C dX1_branchByTable_116 ?_
          obtain ⟨y23, e24, hf⟩ := pm_lt hf
          refine pm_topI e24 ?_
          refine pm_putI C dX1_branchByTable_117 flX1_415 rfl rfl k22 rfl rfl ?_
          refine pm_iconst (v := 0) C dX1_branchByTable_120 (by decide) ?_
          refine pm_istore_n (lv' := [(3, .int 0), (0, .ref x0), (1, .int x1), (2, .int x2)]) C dX1_branchByTable_121 rfl (pm_nl X (by decide)) rfl ?_
          cases hf
          exact pa_join (pm_S3I K18) (pm_sub [1, 2, 3, 0] rfl (ih.2.2.1 x0 x1 x2 0 (pm_setI v16.2 v20 1 y23) (m0.trans (pm_S3.le (pm_S3I K18))) hi))
        · have hf := pm_ie hf c11
          have hf := Option.some.inj hf
          subst hf
          have hi := Option.some.inj (show some _ = some r from hi)
          subst hi
          exact pm_vret C X dX1_branchByTable_87 rfl kc1 kc2 q
      · have hf := pm_ie hf c9
        refine pm_aload_n C dX1_branchByTable_33 rfl rfl ?_
        obtain ⟨k25, hf⟩ := pm_if hf
        obtain ⟨v26, e27, hf⟩ := pm_bd hf
        refine pm_getR C dX1_branchByTable_34 flX1_36 rfl k25 e27 ?_
        refine pm_bipush (v := 32) C dX1_branchByTable_37 (by decide) ?_
        obtain ⟨k28, hf⟩ := pm_if hf
        obtain ⟨v29, e30, hf⟩ := pm_bd hf
        refine pm_callV (as := [.int 32]) (st := []) C X dX1_branchByTable_39 lnX1_181 myX9_number viX9_number ⟨by decide, by decide⟩ rfl rfl k28 (Nat.le_of_ble_eq_true rfl) kc1 kc2 (ctX9_number e30 ?_)
        have K31 := pm_S3.trans (kpX9_number e30) K0
        show pm_G g 42 [(0, .ref x0), (1, .int x1), (2, .int x2), (3, .int x3)] [.long v29.1] v29.2 (pm_sz h - pm_sz h0) (pm_us h - pm_us h0)
        refine pm_lstore (lv' := [(4, .long v29.1), (0, .ref x0), (1, .int x1), (2, .int x2), (3, .int x3)]) C dX1_branchByTable_42 (pm_nl X (by decide)) rfl ?_
        refine pm_lload C dX1_branchByTable_44 rfl ?_
        refine pm_aload_n C dX1_branchByTable_46 rfl rfl ?_
        obtain ⟨k32, hf⟩ := pm_if hf
        refine pm_getI C dX1_branchByTable_47 flX1_220 rfl k32 rfl ?_
        refine pm_i2l C dX1_branchByTable_50 ?_
        refine pm_lcmp C dX1_branchByTable_51 ?_
        refine pm_if_lt (tgt := 61) C dX1_branchByTable_52 (by decide) (fun c33 => ?_) (fun c33 => ?_)
        · have hf := pm_it hf ((pm_lg_lt _ _).mp c33)
          refine pm_aload_n C dX1_branchByTable_61 rfl rfl ?_
          refine pm_getI C dX1_branchByTable_62 flX1_220 rfl k32 rfl ?_
          refine pm_iconst (v := 1) C dX1_branchByTable_65 (by decide) ?_
          refine pm_isub C dX1_branchByTable_66 ?_
          refine pm_lload C dX1_branchByTable_67 rfl ?_
          obtain ⟨v34, e35, hf⟩ := pm_lt hf
          refine pm_callS (as := [.long v29.1]) (st := [.int ((pm_I v29.2 x0 10) - 1)]) C X dX1_branchByTable_69 lnX1_418 myX12_index stX12_index ⟨by decide, by decide⟩ rfl rfl (Nat.le_of_ble_eq_true rfl) kc1 kc2 (ctX12_index e35 ?_)
          show pm_G g 72 [(4, .long v29.1), (0, .ref x0), (1, .int x1), (2, .int x2), (3, .int x3)] [.int v34, .int ((pm_I v29.2 x0 10) - 1)] v29.2 (pm_sz h - pm_sz h0) (pm_us h - pm_us h0)
          refine pm_isub C dX1_branchByTable_72 ?_
          obtain ⟨y36, e37, hf⟩ := pm_lt hf
          refine pm_topI e37 ?_
          refine pm_istore_n (lv' := [(2, .int y36), (4, .long v29.1), (0, .ref x0), (1, .int x1), (3, .int x3)]) C dX1_branchByTable_73 rfl (pm_nl X (by decide)) rfl ?_
          obtain ⟨y38, e39, hf⟩ := pm_lt hf
          refine pm_iinc (v := y38) (lv' := [(3, .int y38), (2, .int y36), (4, .long v29.1), (0, .ref x0), (1, .int x1)]) C dX1_branchByTable_74 rfl ((congrArg (x3 + ·) (by decide : Int32.ofInt 1 = 1)).trans e39) (pm_nl X (by decide)) rfl ?_
          refine pm_goto (tgt := 28) C dX1_branchByTable_77 (by decide) ?_
          cases hf
          exact pa_join K31 (pm_sub [3, 4, 1, 0] rfl (ih.2.1 x0 x1 y36 y38 v29.2 (m0.trans (pm_S3.le K31)) hi))
        · have hf := pm_ie hf ((fun z => c33 ((pm_lg_lt _ _).mpr z)))
          refine pm_aload_n C dX1_branchByTable_55 rfl rfl ?_
          refine pm_bipush (v := 30) C dX1_branchByTable_56 (by decide) ?_
          obtain ⟨v40, e41, hf⟩ := pm_bd hf
          refine pm_callV (as := [.int 30]) (st := []) C X dX1_branchByTable_58 lnX1_198 myX1_fail viX1_fail ⟨by decide, by decide⟩ rfl rfl k32 (Nat.le_of_ble_eq_true rfl) kc1 kc2 (ctX1_fail e41 ?_)
          have K42 := pm_S3.trans (kpX1_fail e41) K31
          show pm_G g 61 [(4, .long v29.1), (0, .ref x0), (1, .int x1), (2, .int x2), (3, .int x3)] [] v40 (pm_sz h - pm_sz h0) (pm_us h - pm_us h0)
          refine pm_aload_n C dX1_branchByTable_61 rfl rfl ?_
          obtain ⟨k43, hf⟩ := pm_if hf
          refine pm_getI C dX1_branchByTable_62 flX1_220 rfl k43 rfl ?_
          refine pm_iconst (v := 1) C dX1_branchByTable_65 (by decide) ?_
          refine pm_isub C dX1_branchByTable_66 ?_
          refine pm_lload C dX1_branchByTable_67 rfl ?_
          obtain ⟨v44, e45, hf⟩ := pm_lt hf
          refine pm_callS (as := [.long v29.1]) (st := [.int ((pm_I v40 x0 10) - 1)]) C X dX1_branchByTable_69 lnX1_418 myX12_index stX12_index ⟨by decide, by decide⟩ rfl rfl (Nat.le_of_ble_eq_true rfl) kc1 kc2 (ctX12_index e45 ?_)
          show pm_G g 72 [(4, .long v29.1), (0, .ref x0), (1, .int x1), (2, .int x2), (3, .int x3)] [.int v44, .int ((pm_I v40 x0 10) - 1)] v40 (pm_sz h - pm_sz h0) (pm_us h - pm_us h0)
          refine pm_isub C dX1_branchByTable_72 ?_
          obtain ⟨y46, e47, hf⟩ := pm_lt hf
          refine pm_topI e47 ?_
          refine pm_istore_n (lv' := [(2, .int y46), (4, .long v29.1), (0, .ref x0), (1, .int x1), (3, .int x3)]) C dX1_branchByTable_73 rfl (pm_nl X (by decide)) rfl ?_
          obtain ⟨y48, e49, hf⟩ := pm_lt hf
          refine pm_iinc (v := y48) (lv' := [(3, .int y48), (2, .int y46), (4, .long v29.1), (0, .ref x0), (1, .int x1)]) C dX1_branchByTable_74 rfl ((congrArg (x3 + ·) (by decide : Int32.ofInt 1 = 1)).trans e49) (pm_nl X (by decide)) rfl ?_
          refine pm_goto (tgt := 28) C dX1_branchByTable_77 (by decide) ?_
          cases hf
          exact pa_join K42 (pm_sub [3, 4, 1, 0] rfl (ih.2.1 x0 x1 y46 y48 v40 (m0.trans (pm_S3.le K42)) hi))
    refine ⟨fun x0 x1 x2 x3 h m0 hf => ?_, ?_⟩
    · have le0 := (mlX1_branchByTable (n + 1)).2.2.1 x0 x1 x2 x3 h hf
      have kc1 := Nat.sub_le_sub_right le0.1 (pm_sz h0)
      have kc2 := Nat.sub_le_sub_right le0.2 (pm_us h0)
      have K0 := pm_S3.rf h
      obtain ⟨y, hf, hi⟩ := pm_iter_s hf
      have hf : tX1_branchByTable_122 x0 x1 x2 x3 h = some y := hf
      unfold tX1_branchByTable_122 at hf
      refine pm_iload_n C dX1_branchByTable_122 rfl rfl ?_
      refine pm_iload_n C dX1_branchByTable_123 rfl rfl ?_
      refine pm_icmp_gt (tgt := 210) C dX1_branchByTable_124 (by decide) (fun c50 => ?_) (fun c50 => ?_)
      · have hf := pm_it hf c50
        refine pm_aload_n C dX1_branchByTable_210 rfl rfl ?_
        obtain ⟨k51, hf⟩ := pm_if hf
        obtain ⟨v52, e53, hf⟩ := pm_bd hf
        refine pm_callV (as := []) (st := []) C X dX1_branchByTable_211 lnX1_357 myX1_die viX1_die ⟨by decide, by decide⟩ rfl rfl k51 (Nat.le_of_ble_eq_true rfl) kc1 kc2 (ctX1_die e53 ?_)
        have K54 := pm_S3.trans (kpX1_die e53) K0
        show pm_G g 214 [(0, .ref x0), (1, .int x1), (2, .int x2), (3, .int x3)] [] v52 (pm_sz h - pm_sz h0) (pm_us h - pm_us h0)
        have hf := Option.some.inj hf
        subst hf
        have hi := Option.some.inj (show some _ = some r from hi)
        subst hi
        exact pm_vret C X dX1_branchByTable_214 rfl kc1 kc2 q
      · have hf := pm_ie hf c50
        refine pm_aload_n C dX1_branchByTable_127 rfl rfl ?_
        obtain ⟨k55, hf⟩ := pm_if hf
        refine pm_getI C dX1_branchByTable_128 flX1_53 rfl k55 rfl ?_
        refine pm_if_ne (tgt := 210) C dX1_branchByTable_131 (by decide) (fun c56 => ?_) (fun c56 => ?_)
        · have hf := pm_ie hf c56
          refine pm_aload_n C dX1_branchByTable_210 rfl rfl ?_
          obtain ⟨v57, e58, hf⟩ := pm_bd hf
          refine pm_callV (as := []) (st := []) C X dX1_branchByTable_211 lnX1_357 myX1_die viX1_die ⟨by decide, by decide⟩ rfl rfl k55 (Nat.le_of_ble_eq_true rfl) kc1 kc2 (ctX1_die e58 ?_)
          have K59 := pm_S3.trans (kpX1_die e58) K0
          show pm_G g 214 [(0, .ref x0), (1, .int x1), (2, .int x2), (3, .int x3)] [] v57 (pm_sz h - pm_sz h0) (pm_us h - pm_us h0)
          have hf := Option.some.inj hf
          subst hf
          have hi := Option.some.inj (show some _ = some r from hi)
          subst hi
          exact pm_vret C X dX1_branchByTable_214 rfl kc1 kc2 q
        · have hf := pm_it hf c56
          refine pm_aload_n C dX1_branchByTable_134 rfl rfl ?_
          refine pm_getI C dX1_branchByTable_135 flX1_220 rfl k55 rfl ?_
          refine pm_iconst (v := 1) C dX1_branchByTable_138 (by decide) ?_
          refine pm_isub C dX1_branchByTable_139 ?_
          refine pm_aload_n C dX1_branchByTable_140 rfl rfl ?_
          obtain ⟨v60, e61, hf⟩ := pm_bd hf
          refine pm_getR C dX1_branchByTable_141 flX1_36 rfl k55 e61 ?_
          refine pm_bipush (v := 32) C dX1_branchByTable_144 (by decide) ?_
          obtain ⟨k62, hf⟩ := pm_if hf
          obtain ⟨v63, e64, hf⟩ := pm_bd hf
          refine pm_callV (as := [.int 32]) (st := [.int ((pm_I h x0 10) - 1)]) C X dX1_branchByTable_146 lnX1_181 myX9_number viX9_number ⟨by decide, by decide⟩ rfl rfl k62 (Nat.le_of_ble_eq_true rfl) kc1 kc2 (ctX9_number e64 ?_)
          have K65 := pm_S3.trans (kpX9_number e64) K0
          show pm_G g 149 [(0, .ref x0), (1, .int x1), (2, .int x2), (3, .int x3)] [.long v63.1, .int ((pm_I h x0 10) - 1)] v63.2 (pm_sz h - pm_sz h0) (pm_us h - pm_us h0)
          refine pm_l2i C dX1_branchByTable_149 ?_
          refine pm_isub C dX1_branchByTable_150 ?_
          obtain ⟨y66, e67, hf⟩ := pm_lt hf
          refine pm_topI e67 ?_
          refine pm_istore (lv' := [(4, .int y66), (0, .ref x0), (1, .int x1), (2, .int x2), (3, .int x3)]) C dX1_branchByTable_151 (pm_nl X (by decide)) rfl ?_
          refine pm_aload_n C dX1_branchByTable_153 rfl rfl ?_
          refine pm_iload C dX1_branchByTable_154 rfl ?_
          obtain ⟨k68, hf⟩ := pm_if hf
          obtain ⟨v69, e70, hf⟩ := pm_bd hf
          cases hf
          refine pm_callV (as := [.int y66]) (st := []) C X dX1_branchByTable_156 lnX1_311 myX1_wantedCount viX1_wantedCount ⟨by decide, by decide⟩ rfl rfl k68 (Nat.le_of_ble_eq_true rfl) (pa_le1 K65 m0 (moX1_wantedCount e70) ((mlX1_branchByTable n).2.2.2.1 x0 x1 x2 x3 y66 v69.1 v69.2 hi)) (pa_le2 K65 m0 (moX1_wantedCount e70) ((mlX1_branchByTable n).2.2.2.1 x0 x1 x2 x3 y66 v69.1 v69.2 hi)) (ctX1_wantedCount e70 ?_)
          show pm_G g 159 [(4, .int y66), (0, .ref x0), (1, .int x1), (2, .int x2), (3, .int x3)] [.int v69.1] v69.2 (pm_sz h - pm_sz h0 + (pm_sz v69.2 - pm_sz v63.2)) (pm_us h - pm_us h0 + (pm_us v69.2 - pm_us v63.2))
          refine pa_fin K65 m0 (moX1_wantedCount e70) ?_
          exact pm_sub [1, 2, 3, 4, 0] rfl (ih.2.2.2.1 x0 x1 x2 x3 y66 v69.1 v69.2 ((m0.trans (pm_S3.le K65)).trans (moX1_wantedCount e70)) hi)
    refine ⟨fun x0 x1 x2 x3 x4 s0 h m0 hf => ?_, ?_⟩
    · have le0 := (mlX1_branchByTable (n + 1)).2.2.2.1 x0 x1 x2 x3 x4 s0 h hf
      have kc1 := Nat.sub_le_sub_right le0.1 (pm_sz h0)
      have kc2 := Nat.sub_le_sub_right le0.2 (pm_us h0)
      have K0 := pm_S3.rf h
      obtain ⟨y, hf, hi⟩ := pm_iter_s hf
      have hf : tX1_branchByTable_159 x0 x1 x2 x3 x4 s0 h = some y := hf
      unfold tX1_branchByTable_159 at hf
      refine pm_aload_n C dX1_branchByTable_159 rfl rfl ?_
      refine pm_iload_n C dX1_branchByTable_160 rfl rfl ?_
      obtain ⟨k71, hf⟩ := pm_if hf
      obtain ⟨v72, e73, hf⟩ := pm_bd hf
      cases hf
      refine pm_callV (as := [.int x2]) (st := [.int s0]) C X dX1_branchByTable_161 lnX1_311 myX1_wantedCount viX1_wantedCount ⟨by decide, by decide⟩ rfl rfl k71 (Nat.le_of_ble_eq_true rfl) (pa_le1 K0 m0 (moX1_wantedCount e73) ((mlX1_branchByTable n).2.2.2.2.1 x0 x1 x2 x3 x4 v72.1 s0 v72.2 hi)) (pa_le2 K0 m0 (moX1_wantedCount e73) ((mlX1_branchByTable n).2.2.2.2.1 x0 x1 x2 x3 x4 v72.1 s0 v72.2 hi)) (ctX1_wantedCount e73 ?_)
      show pm_G g 164 [(0, .ref x0), (1, .int x1), (2, .int x2), (3, .int x3), (4, .int x4)] [.int v72.1, .int s0] v72.2 (pm_sz h - pm_sz h0 + (pm_sz v72.2 - pm_sz h)) (pm_us h - pm_us h0 + (pm_us v72.2 - pm_us h))
      refine pa_fin K0 m0 (moX1_wantedCount e73) ?_
      exact pm_sub [0, 1, 2, 3, 4] rfl (ih.2.2.2.2.1 x0 x1 x2 x3 x4 v72.1 s0 v72.2 ((m0.trans (pm_S3.le K0)).trans (moX1_wantedCount e73)) hi)
    refine ⟨fun x0 x1 x2 x3 x4 s0 s1 h m0 hf => ?_, ?_⟩
    · have le0 := (mlX1_branchByTable (n + 1)).2.2.2.2.1 x0 x1 x2 x3 x4 s0 s1 h hf
      have kc1 := Nat.sub_le_sub_right le0.1 (pm_sz h0)
      have kc2 := Nat.sub_le_sub_right le0.2 (pm_us h0)
      have K0 := pm_S3.rf h
      obtain ⟨y, hf, hi⟩ := pm_iter_s hf
      have hf : tX1_branchByTable_164 x0 x1 x2 x3 x4 s0 s1 h = some y := hf
      unfold tX1_branchByTable_164 at hf
      refine pm_icmp_eq (tgt := 176) C dX1_branchByTable_164 (by decide) (fun c74 => ?_) (fun c74 => ?_)
      · have hf := pm_it hf c74
        refine pm_iload_n C dX1_branchByTable_176 rfl rfl ?_
        refine pm_iload_n C dX1_branchByTable_177 rfl rfl ?_
        refine pm_icmp_ge (tgt := 190) C dX1_branchByTable_178 (by decide) (fun c75 => ?_) (fun c75 => ?_)
        · have hf := pm_it hf c75
          refine pm_aload_n C dX1_branchByTable_190 rfl rfl ?_
          refine pm_iload C dX1_branchByTable_191 rfl ?_
          obtain ⟨k76, hf⟩ := pm_if hf
          obtain ⟨v77, e78, hf⟩ := pm_bd hf
          cases hf
          refine pm_callV (as := [.int x4]) (st := []) C X dX1_branchByTable_193 lnX1_375 myX1_takeWanted viX1_takeWanted ⟨by decide, by decide⟩ rfl rfl k76 (Nat.le_of_ble_eq_true rfl) (pa_le1 K0 m0 (moX1_takeWanted e78) ((mlX1_branchByTable n).2.2.2.2.2.1 x0 x1 x2 x3 x4 v77 hi)) (pa_le2 K0 m0 (moX1_takeWanted e78) ((mlX1_branchByTable n).2.2.2.2.2.1 x0 x1 x2 x3 x4 v77 hi)) (ctX1_takeWanted e78 ?_)
          show pm_G g 196 [(0, .ref x0), (1, .int x1), (2, .int x2), (3, .int x3), (4, .int x4)] [] v77 (pm_sz h - pm_sz h0 + (pm_sz v77 - pm_sz h)) (pm_us h - pm_us h0 + (pm_us v77 - pm_us h))
          refine pa_fin K0 m0 (moX1_takeWanted e78) ?_
          exact pm_sub [0, 1, 2, 3, 4] rfl (ih.2.2.2.2.2.1 x0 x1 x2 x3 x4 v77 ((m0.trans (pm_S3.le K0)).trans (moX1_takeWanted e78)) hi)
        · have hf := pm_ie hf c75
          refine pm_aload_n C dX1_branchByTable_181 rfl rfl ?_
          refine pm_iload C dX1_branchByTable_182 rfl ?_
          obtain ⟨k79, hf⟩ := pm_if hf
          obtain ⟨v80, e81, hf⟩ := pm_bd hf
          cases hf
          refine pm_callV (as := [.int x4]) (st := []) C X dX1_branchByTable_184 lnX1_422 myX1_takeAndPutAgain viX1_takeAndPutAgain ⟨by decide, by decide⟩ rfl rfl k79 (Nat.le_of_ble_eq_true rfl) (pa_le1 K0 m0 (moX1_takeAndPutAgain e81) ((mlX1_branchByTable n).2.2.2.2.2.2.1 x0 x1 x2 x3 x4 v80 hi)) (pa_le2 K0 m0 (moX1_takeAndPutAgain e81) ((mlX1_branchByTable n).2.2.2.2.2.2.1 x0 x1 x2 x3 x4 v80 hi)) (ctX1_takeAndPutAgain e81 ?_)
          show pm_G g 187 [(0, .ref x0), (1, .int x1), (2, .int x2), (3, .int x3), (4, .int x4)] [] v80 (pm_sz h - pm_sz h0 + (pm_sz v80 - pm_sz h)) (pm_us h - pm_us h0 + (pm_us v80 - pm_us h))
          refine pa_fin K0 m0 (moX1_takeAndPutAgain e81) ?_
          exact pm_sub [0, 1, 2, 3, 4] rfl (ih.2.2.2.2.2.2.1 x0 x1 x2 x3 x4 v80 ((m0.trans (pm_S3.le K0)).trans (moX1_takeAndPutAgain e81)) hi)
      · have hf := pm_ie hf c74
        refine pm_aload_n C dX1_branchByTable_167 rfl rfl ?_
        refine pm_bipush (v := 29) C dX1_branchByTable_168 (by decide) ?_
        obtain ⟨k82, hf⟩ := pm_if hf
        obtain ⟨v83, e84, hf⟩ := pm_bd hf
        refine pm_callV (as := [.int 29]) (st := []) C X dX1_branchByTable_170 lnX1_198 myX1_fail viX1_fail ⟨by decide, by decide⟩ rfl rfl k82 (Nat.le_of_ble_eq_true rfl) kc1 kc2 (ctX1_fail e84 ?_)
        have K85 := pm_S3.trans (kpX1_fail e84) K0
        show pm_G g 173 [(0, .ref x0), (1, .int x1), (2, .int x2), (3, .int x3), (4, .int x4)] [] v83 (pm_sz h - pm_sz h0) (pm_us h - pm_us h0)
        refine pm_goto (tgt := 196) C dX1_branchByTable_173 (by decide) ?_
        cases hf
        exact pa_join K85 (pm_sub [0, 1, 2, 3, 4] rfl (ih.2.2.2.2.2.1 x0 x1 x2 x3 x4 v83 (m0.trans (pm_S3.le K85)) hi))
    refine ⟨fun x0 x1 x2 x3 x4 h m0 hf => ?_, ?_⟩
    · have le0 := (mlX1_branchByTable (n + 1)).2.2.2.2.2.1 x0 x1 x2 x3 x4 h hf
      have kc1 := Nat.sub_le_sub_right le0.1 (pm_sz h0)
      have kc2 := Nat.sub_le_sub_right le0.2 (pm_us h0)
      have K0 := pm_S3.rf h
      obtain ⟨y, hf, hi⟩ := pm_iter_s hf
      have hf : tX1_branchByTable_196 x0 x1 x2 x3 x4 h = some y := hf
      unfold tX1_branchByTable_196 at hf
      refine pm_aload_n C dX1_branchByTable_196 rfl rfl ?_
      refine pm_bipush (v := 12) C dX1_branchByTable_197 (by decide) ?_
      refine pm_iload C dX1_branchByTable_199 rfl ?_
      obtain ⟨k86, hf⟩ := pm_if hf
      obtain ⟨v87, e88, hf⟩ := pm_bd hf
      cases hf
      refine pm_callV (as := [.int 12, .int x4]) (st := []) C X dX1_branchByTable_201 lnX1_378 myX1_emitBranch viX1_emitBranch ⟨by decide, by decide⟩ rfl rfl k86 (Nat.le_of_ble_eq_true rfl) (pa_le1 K0 m0 (moX1_emitBranch e88) ((mlX1_branchByTable n).2.2.2.2.2.2.2 x0 x1 x2 x3 v87 hi)) (pa_le2 K0 m0 (moX1_emitBranch e88) ((mlX1_branchByTable n).2.2.2.2.2.2.2 x0 x1 x2 x3 v87 hi)) (ctX1_emitBranch e88 ?_)
      show pm_G g 204 [(0, .ref x0), (1, .int x1), (2, .int x2), (3, .int x3), (4, .int x4)] [] v87 (pm_sz h - pm_sz h0 + (pm_sz v87 - pm_sz h)) (pm_us h - pm_us h0 + (pm_us v87 - pm_us h))
      refine pa_fin K0 m0 (moX1_emitBranch e88) ?_
      exact pm_sub [0, 1, 2, 3] rfl (ih.2.2.2.2.2.2.2 x0 x1 x2 x3 v87 ((m0.trans (pm_S3.le K0)).trans (moX1_emitBranch e88)) hi)
    refine ⟨fun x0 x1 x2 x3 x4 h m0 hf => ?_, ?_⟩
    · have le0 := (mlX1_branchByTable (n + 1)).2.2.2.2.2.2.1 x0 x1 x2 x3 x4 h hf
      have kc1 := Nat.sub_le_sub_right le0.1 (pm_sz h0)
      have kc2 := Nat.sub_le_sub_right le0.2 (pm_us h0)
      have K0 := pm_S3.rf h
      obtain ⟨y, hf, hi⟩ := pm_iter_s hf
      have hf : tX1_branchByTable_187 x0 x1 x2 x3 x4 h = some y := hf
      unfold tX1_branchByTable_187 at hf
      refine pm_goto (tgt := 196) C dX1_branchByTable_187 (by decide) ?_
      cases hf
      exact pa_join K0 (pm_sub [0, 1, 2, 3, 4] rfl (ih.2.2.2.2.2.1 x0 x1 x2 x3 x4 h (m0.trans (pm_S3.le K0)) hi))
    refine fun x0 x1 x2 x3 h m0 hf => ?_
    have le0 := (mlX1_branchByTable (n + 1)).2.2.2.2.2.2.2 x0 x1 x2 x3 h hf
    have kc1 := Nat.sub_le_sub_right le0.1 (pm_sz h0)
    have kc2 := Nat.sub_le_sub_right le0.2 (pm_us h0)
    have K0 := pm_S3.rf h
    obtain ⟨y, hf, hi⟩ := pm_iter_s hf
    have hf : tX1_branchByTable_204 x0 x1 x2 x3 h = some y := hf
    unfold tX1_branchByTable_204 at hf
    obtain ⟨y89, e90, hf⟩ := pm_lt hf
    refine pm_iinc (v := y89) (lv' := [(3, .int y89), (0, .ref x0), (1, .int x1), (2, .int x2)]) C dX1_branchByTable_204 rfl ((congrArg (x3 + ·) (by decide : Int32.ofInt 1 = 1)).trans e90) (pm_nl X (by decide)) rfl ?_
    refine pm_goto (tgt := 122) C dX1_branchByTable_207 (by decide) ?_
    cases hf
    exact pa_join K0 (pm_sub [1, 2, 3, 0] rfl (ih.2.2.1 x0 x1 x2 y89 h (m0.trans (pm_S3.le K0)) hi))
set_option maxHeartbeats 4000000 in
set_option maxRecDepth 100000 in
theorem ctX1_branchByTable {l : Launch} {G : pm_Gl} {h : pm_H} {a0 : Nat} {r : pm_H} {Qr : Option Value → pm_H → Prop} (hf : fX1_branchByTable h a0 = some r) (q : Qr none r) : pm_Ct l G mX1_branchByTable [.ref a0] h (pm_sz r - pm_sz h) (pm_us r - pm_us h) Qr := by
  refine pm_body pnX1 (Nat.le_of_ble_eq_true rfl) (fun g C X => ?_)
  have C : pm_C g cX1_branchByTable RX1 := C
  show pm_G g 0 [(0, .ref a0)] [] h 0 0
  unfold fX1_branchByTable at hf
  obtain ⟨n, hn⟩ := pm_lim_iter hf
  exact pa_start (pm_sub [0] rfl ((lpX1_branchByTable C X q n).1 a0 h (pm_Le.rf h) hn))
