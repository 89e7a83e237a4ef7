theorem dX2_compile_0 : decode cX2_compile 0 = .ok (.aload_n 1, 1) := by decide +kernel
theorem dX2_compile_1 : decode cX2_compile 1 = .ok (.iconst 1, 1) := by decide +kernel
theorem dX2_compile_2 : decode cX2_compile 2 = .ok (.putfield 38, 3) := by decide +kernel
theorem dX2_compile_5 : decode cX2_compile 5 = .ok (.iconst 3, 1) := by decide +kernel
theorem dX2_compile_6 : decode cX2_compile 6 = .ok (.aload_n 1, 1) := by decide +kernel
theorem dX2_compile_7 : decode cX2_compile 7 = .ok (.getfield 44, 3) := by decide +kernel
theorem dX2_compile_10 : decode cX2_compile 10 = .ok (.imul, 1) := by decide +kernel
theorem dX2_compile_11 : decode cX2_compile 11 = .ok (.iconst 2, 1) := by decide +kernel
theorem dX2_compile_12 : decode cX2_compile 12 = .ok (.iadd, 1) := by decide +kernel
theorem dX2_compile_13 : decode cX2_compile 13 = .ok (.istore_n 2, 1) := by decide +kernel
theorem dX2_compile_14 : decode cX2_compile 14 = .ok (.iload_n 2, 1) := by decide +kernel
theorem dX2_compile_15 : decode cX2_compile 15 = .ok (.aload_n 0, 1) := by decide +kernel
theorem dX2_compile_16 : decode cX2_compile 16 = .ok (.getfield 12, 3) := by decide +kernel
theorem dX2_compile_19 : decode cX2_compile 19 = .ok (.if_icmp .le 4, 3) := by decide +kernel
theorem dX2_compile_22 : decode cX2_compile 22 = .ok (.return_, 1) := by decide +kernel
theorem dX2_compile_23 : decode cX2_compile 23 = .ok (.aload_n 0, 1) := by decide +kernel
theorem dX2_compile_24 : decode cX2_compile 24 = .ok (.aload_n 1, 1) := by decide +kernel
theorem dX2_compile_25 : decode cX2_compile 25 = .ok (.putfield 34, 3) := by decide +kernel
theorem dX2_compile_28 : decode cX2_compile 28 = .ok (.aload_n 0, 1) := by decide +kernel
theorem dX2_compile_29 : decode cX2_compile 29 = .ok (.aload_n 1, 1) := by decide +kernel
theorem dX2_compile_30 : decode cX2_compile 30 = .ok (.getfield 47, 3) := by decide +kernel
theorem dX2_compile_33 : decode cX2_compile 33 = .ok (.putfield 50, 3) := by decide +kernel
theorem dX2_compile_36 : decode cX2_compile 36 = .ok (.aload_n 0, 1) := by decide +kernel
theorem dX2_compile_37 : decode cX2_compile 37 = .ok (.iload_n 2, 1) := by decide +kernel
theorem dX2_compile_38 : decode cX2_compile 38 = .ok (.bipush 8, 2) := by decide +kernel
theorem dX2_compile_40 : decode cX2_compile 40 = .ok (.imul, 1) := by decide +kernel
theorem dX2_compile_41 : decode cX2_compile 41 = .ok (.newarray .int, 2) := by decide +kernel
theorem dX2_compile_43 : decode cX2_compile 43 = .ok (.putfield 16, 3) := by decide +kernel
theorem dX2_compile_46 : decode cX2_compile 46 = .ok (.aload_n 0, 1) := by decide +kernel
theorem dX2_compile_47 : decode cX2_compile 47 = .ok (.aload_n 1, 1) := by decide +kernel
theorem dX2_compile_48 : decode cX2_compile 48 = .ok (.getfield 44, 3) := by decide +kernel
theorem dX2_compile_51 : decode cX2_compile 51 = .ok (.newarray .long, 2) := by decide +kernel
theorem dX2_compile_53 : decode cX2_compile 53 = .ok (.putfield 20, 3) := by decide +kernel
theorem dX2_compile_56 : decode cX2_compile 56 = .ok (.aload_n 0, 1) := by decide +kernel
theorem dX2_compile_57 : decode cX2_compile 57 = .ok (.aload_n 1, 1) := by decide +kernel
theorem dX2_compile_58 : decode cX2_compile 58 = .ok (.getfield 44, 3) := by decide +kernel
theorem dX2_compile_61 : decode cX2_compile 61 = .ok (.newarray .int, 2) := by decide +kernel
theorem dX2_compile_63 : decode cX2_compile 63 = .ok (.putfield 24, 3) := by decide +kernel
theorem dX2_compile_66 : decode cX2_compile 66 = .ok (.aload_n 0, 1) := by decide +kernel
theorem dX2_compile_67 : decode cX2_compile 67 = .ok (.aload_n 1, 1) := by decide +kernel
theorem dX2_compile_68 : decode cX2_compile 68 = .ok (.getfield 44, 3) := by decide +kernel
theorem dX2_compile_71 : decode cX2_compile 71 = .ok (.newarray .boolean, 2) := by decide +kernel
theorem dX2_compile_73 : decode cX2_compile 73 = .ok (.putfield 27, 3) := by decide +kernel
theorem dX2_compile_76 : decode cX2_compile 76 = .ok (.aload_n 0, 1) := by decide +kernel
theorem dX2_compile_77 : decode cX2_compile 77 = .ok (.iconst 0, 1) := by decide +kernel
theorem dX2_compile_78 : decode cX2_compile 78 = .ok (.putfield 51, 3) := by decide +kernel
theorem dX2_compile_81 : decode cX2_compile 81 = .ok (.aload_n 0, 1) := by decide +kernel
theorem dX2_compile_82 : decode cX2_compile 82 = .ok (.iconst 0, 1) := by decide +kernel
theorem dX2_compile_83 : decode cX2_compile 83 = .ok (.putfield 54, 3) := by decide +kernel
theorem dX2_compile_86 : decode cX2_compile 86 = .ok (.aload_n 0, 1) := by decide +kernel
theorem dX2_compile_87 : decode cX2_compile 87 = .ok (.iconst 0, 1) := by decide +kernel
theorem dX2_compile_88 : decode cX2_compile 88 = .ok (.putfield 57, 3) := by decide +kernel
theorem dX2_compile_91 : decode cX2_compile 91 = .ok (.aload_n 0, 1) := by decide +kernel
theorem dX2_compile_92 : decode cX2_compile 92 = .ok (.iconst 0, 1) := by decide +kernel
theorem dX2_compile_93 : decode cX2_compile 93 = .ok (.putfield 60, 3) := by decide +kernel
theorem dX2_compile_96 : decode cX2_compile 96 = .ok (.aload_n 0, 1) := by decide +kernel
theorem dX2_compile_97 : decode cX2_compile 97 = .ok (.iconst 0, 1) := by decide +kernel
theorem dX2_compile_98 : decode cX2_compile 98 = .ok (.putfield 63, 3) := by decide +kernel
theorem dX2_compile_101 : decode cX2_compile 101 = .ok (.aload_n 0, 1) := by decide +kernel
theorem dX2_compile_102 : decode cX2_compile 102 = .ok (.invokevirtual 66, 3) := by decide +kernel
theorem dX2_compile_105 : decode cX2_compile 105 = .ok (.iconst 0, 1) := by decide +kernel
theorem dX2_compile_106 : decode cX2_compile 106 = .ok (.istore_n 3, 1) := by decide +kernel
theorem dX2_compile_107 : decode cX2_compile 107 = .ok (.iload_n 3, 1) := by decide +kernel
theorem dX2_compile_108 : decode cX2_compile 108 = .ok (.aload_n 1, 1) := by decide +kernel
theorem dX2_compile_109 : decode cX2_compile 109 = .ok (.getfield 44, 3) := by decide +kernel
theorem dX2_compile_112 : decode cX2_compile 112 = .ok (.if_icmp .ge 17, 3) := by decide +kernel
theorem dX2_compile_115 : decode cX2_compile 115 = .ok (.iload_n 3, 1) := by decide +kernel
theorem dX2_compile_116 : decode cX2_compile 116 = .ok (.aload_n 0, 1) := by decide +kernel
theorem dX2_compile_117 : decode cX2_compile 117 = .ok (.iload_n 3, 1) := by decide +kernel
theorem dX2_compile_118 : decode cX2_compile 118 = .ok (.invokevirtual 69, 3) := by decide +kernel
theorem dX2_compile_121 : decode cX2_compile 121 = .ok (.iadd, 1) := by decide +kernel
theorem dX2_compile_122 : decode cX2_compile 122 = .ok (.istore_n 3, 1) := by decide +kernel
theorem dX2_compile_123 : decode cX2_compile 123 = .ok (.iinc 3 1, 3) := by decide +kernel
theorem dX2_compile_126 : decode cX2_compile 126 = .ok (.goto (-19), 3) := by decide +kernel
theorem dX2_compile_129 : decode cX2_compile 129 = .ok (.aload_n 0, 1) := by decide +kernel
theorem dX2_compile_130 : decode cX2_compile 130 = .ok (.getfield 60, 3) := by decide +kernel
theorem dX2_compile_133 : decode cX2_compile 133 = .ok (.ifCond .eq 4, 3) := by decide +kernel
theorem dX2_compile_136 : decode cX2_compile 136 = .ok (.return_, 1) := by decide +kernel
theorem dX2_compile_137 : decode cX2_compile 137 = .ok (.aload_n 0, 1) := by decide +kernel
theorem dX2_compile_138 : decode cX2_compile 138 = .ok (.invokevirtual 73, 3) := by decide +kernel
theorem dX2_compile_141 : decode cX2_compile 141 = .ok (.aload_n 0, 1) := by decide +kernel
theorem dX2_compile_142 : decode cX2_compile 142 = .ok (.dup, 1) := by decide +kernel
theorem dX2_compile_143 : decode cX2_compile 143 = .ok (.getfield 12, 3) := by decide +kernel
theorem dX2_compile_146 : decode cX2_compile 146 = .ok (.aload_n 0, 1) := by decide +kernel
theorem dX2_compile_147 : decode cX2_compile 147 = .ok (.getfield 51, 3) := by decide +kernel
theorem dX2_compile_150 : decode cX2_compile 150 = .ok (.isub, 1) := by decide +kernel
theorem dX2_compile_151 : decode cX2_compile 151 = .ok (.putfield 12, 3) := by decide +kernel
theorem dX2_compile_154 : decode cX2_compile 154 = .ok (.aload_n 1, 1) := by decide +kernel
theorem dX2_compile_155 : decode cX2_compile 155 = .ok (.aload_n 0, 1) := by decide +kernel
theorem dX2_compile_156 : decode cX2_compile 156 = .ok (.getfield 16, 3) := by decide +kernel
theorem dX2_compile_159 : decode cX2_compile 159 = .ok (.aload_n 0, 1) := by decide +kernel
theorem dX2_compile_160 : decode cX2_compile 160 = .ok (.getfield 51, 3) := by decide +kernel
theorem dX2_compile_163 : decode cX2_compile 163 = .ok (.bipush 8, 2) := by decide +kernel
theorem dX2_compile_165 : decode cX2_compile 165 = .ok (.imul, 1) := by decide +kernel
theorem dX2_compile_166 : decode cX2_compile 166 = .ok (.invokestatic 76, 3) := by decide +kernel
theorem dX2_compile_169 : decode cX2_compile 169 = .ok (.putfield 82, 3) := by decide +kernel
theorem dX2_compile_172 : decode cX2_compile 172 = .ok (.aload_n 1, 1) := by decide +kernel
theorem dX2_compile_173 : decode cX2_compile 173 = .ok (.aload_n 0, 1) := by decide +kernel
theorem dX2_compile_174 : decode cX2_compile 174 = .ok (.getfield 20, 3) := by decide +kernel
theorem dX2_compile_177 : decode cX2_compile 177 = .ok (.aload_n 0, 1) := by decide +kernel
theorem dX2_compile_178 : decode cX2_compile 178 = .ok (.getfield 54, 3) := by decide +kernel
theorem dX2_compile_181 : decode cX2_compile 181 = .ok (.invokestatic 85, 3) := by decide +kernel
theorem dX2_compile_184 : decode cX2_compile 184 = .ok (.putfield 88, 3) := by decide +kernel
theorem dX2_compile_187 : decode cX2_compile 187 = .ok (.return_, 1) := by decide +kernel
noncomputable def tX2_compile_0 (x0 : Nat) (x1 : Nat) (h : pm_H) : Option (((Nat × Nat × pm_H) ⊕ (Nat × Nat × Nat × Nat × pm_H) ⊕ (Nat × Nat × Nat × Nat × pm_H) ⊕ (Nat × Nat × Nat × Nat × pm_H) ⊕ (Nat × Nat × Nat × Nat × pm_H) ⊕ (Nat × Nat × Int32 × pm_H) ⊕ (Nat × Nat × Nat × Nat × pm_H) ⊕ (Nat × Nat × pm_H)) ⊕ pm_H) := if pm_kd h x1 = 0 then pm_let ((3 * (pm_I (pm_setI h x1 6 1) x1 2)) + 2) fun y2 => if pm_kd (pm_setI h x1 6 1) x0 = 2 then if y2 ≤ (pm_I (pm_setI h x1 6 1) x0 0) then (pm_let (pm_I (pm_setR (pm_setI h x1 6 1) x0 1 (some x1)) x1 3) fun y6 => pm_let (y2 * 8) fun y8 => if ¬ y8 < 0 ∧ y8.toNatClampNeg * 4 ≤ 536870912 then some (.inl (.inr (.inl ((x0, x1, pm_sz (pm_setI (pm_setR (pm_setI h x1 6 1) x0 1 (some x1)) x0 2 y6), x0, pm_new (pm_setI (pm_setR (pm_setI h x1 6 1) x0 1 (some x1)) x0 2 y6) 34 y8.toNatClampNeg))))) else none) else (some (.inr (pm_setI h x1 6 1))) else none else none
noncomputable def tX2_compile_43 (x0 : Nat) (x1 : Nat) (s0 : Nat) (s1 : Nat) (h : pm_H) : Option (((Nat × Nat × pm_H) ⊕ (Nat × Nat × Nat × Nat × pm_H) ⊕ (Nat × Nat × Nat × Nat × pm_H) ⊕ (Nat × Nat × Nat × Nat × pm_H) ⊕ (Nat × Nat × Nat × Nat × pm_H) ⊕ (Nat × Nat × Int32 × pm_H) ⊕ (Nat × Nat × Nat × Nat × pm_H) ⊕ (Nat × Nat × pm_H)) ⊕ pm_H) := if pm_kd h s1 = 2 then if pm_kd (pm_setR h s1 3 (some s0)) x1 = 0 then pm_let (pm_I (pm_setR h s1 3 (some s0)) x1 2) fun y13 => if ¬ y13 < 0 ∧ y13.toNatClampNeg * 8 ≤ 536870912 then some (.inl (.inr (.inr (.inl ((x0, x1, pm_sz (pm_setR h s1 3 (some s0)), x0, pm_new (pm_setR h s1 3 (some s0)) 35 y13.toNatClampNeg)))))) else none else none else none
noncomputable def tX2_compile_53 (x0 : Nat) (x1 : Nat) (s0 : Nat) (s1 : Nat) (h : pm_H) : Option (((Nat × Nat × pm_H) ⊕ (Nat × Nat × Nat × Nat × pm_H) ⊕ (Nat × Nat × Nat × Nat × pm_H) ⊕ (Nat × Nat × Nat × Nat × pm_H) ⊕ (Nat × Nat × Nat × Nat × pm_H) ⊕ (Nat × Nat × Int32 × pm_H) ⊕ (Nat × Nat × Nat × Nat × pm_H) ⊕ (Nat × Nat × pm_H)) ⊕ pm_H) := if pm_kd h s1 = 2 then if pm_kd (pm_setR h s1 6 (some s0)) x1 = 0 then pm_let (pm_I (pm_setR h s1 6 (some s0)) x1 2) fun y18 => if ¬ y18 < 0 ∧ y18.toNatClampNeg * 4 ≤ 536870912 then some (.inl (.inr (.inr (.inr (.inl ((x0, x1, pm_sz (pm_setR h s1 6 (some s0)), x0, pm_new (pm_setR h s1 6 (some s0)) 34 y18.toNatClampNeg))))))) else none else none else none
noncomputable def tX2_compile_63 (x0 : Nat) (x1 : Nat) (s0 : Nat) (s1 : Nat) (h : pm_H) : Option (((Nat × Nat × pm_H) ⊕ (Nat × Nat × Nat × Nat × pm_H) ⊕ (Nat × Nat × Nat × Nat × pm_H) ⊕ (Nat × Nat × Nat × Nat × pm_H) ⊕ (Nat × Nat × Nat × Nat × pm_H) ⊕ (Nat × Nat × Int32 × pm_H) ⊕ (Nat × Nat × Nat × Nat × pm_H) ⊕ (Nat × Nat × pm_H)) ⊕ pm_H) := if pm_kd h s1 = 2 then if pm_kd (pm_setR h s1 8 (some s0)) x1 = 0 then pm_let (pm_I (pm_setR h s1 8 (some s0)) x1 2) fun y23 => if ¬ y23 < 0 ∧ y23.toNatClampNeg * 1 ≤ 536870912 then some (.inl (.inr (.inr (.inr (.inr (.inl ((x0, x1, pm_sz (pm_setR h s1 8 (some s0)), x0, pm_new (pm_setR h s1 8 (some s0)) 32 y23.toNatClampNeg)))))))) else none else none else none
noncomputable def tX2_compile_73 (x0 : Nat) (x1 : Nat) (s0 : Nat) (s1 : Nat) (h : pm_H) : Option (((Nat × Nat × pm_H) ⊕ (Nat × Nat × Nat × Nat × pm_H) ⊕ (Nat × Nat × Nat × Nat × pm_H) ⊕ (Nat × Nat × Nat × Nat × pm_H) ⊕ (Nat × Nat × Nat × Nat × pm_H) ⊕ (Nat × Nat × Int32 × pm_H) ⊕ (Nat × Nat × Nat × Nat × pm_H) ⊕ (Nat × Nat × pm_H)) ⊕ pm_H) := if pm_kd h s1 = 2 then if pm_kd (pm_setR h s1 9 (some s0)) x0 = 2 then (fX2_markTargets (pm_setI (pm_setI (pm_setI (pm_setI (pm_setI (pm_setR h s1 9 (some s0)) x0 4 0) x0 7 0) x0 11 0) x0 5 0) x0 12 0) x0).bind fun v28 => some (.inl (.inr (.inr (.inr (.inr (.inr (.inl ((x0, x1, 0, v28))))))))) else none else none
noncomputable def tX2_compile_107 (x0 : Nat) (x1 : Nat) (x3 : Int32) (h : pm_H) : Option (((Nat × Nat × pm_H) ⊕ (Nat × Nat × Nat × Nat × pm_H) ⊕ (Nat × Nat × Nat × Nat × pm_H) ⊕ (Nat × Nat × Nat × Nat × pm_H) ⊕ (Nat × Nat × Nat × Nat × pm_H) ⊕ (Nat × Nat × Int32 × pm_H) ⊕ (Nat × Nat × Nat × Nat × pm_H) ⊕ (Nat × Nat × pm_H)) ⊕ pm_H) := if pm_kd h x1 = 0 then if (pm_I h x1 2) ≤ x3 then (if pm_kd h x0 = 2 then if (pm_I h x0 5) = 0 then ((fX2_aimBranches h x0).bind fun v35 => if pm_kd v35 x0 = 2 then pm_let ((pm_I v35 x0 0) - (pm_I v35 x0 4)) fun y39 => (pm_R (pm_setI v35 x0 0 y39) x0 3).bind fun v41 => (fJ7_copyOf_59c91 (pm_setI v35 x0 0 y39) v41 ((pm_I (pm_setI v35 x0 0 y39) x0 4) * 8)).bind fun v43 => some (.inl (.inr (.inr (.inr (.inr (.inr (.inr (.inl ((x0, x1, v43.1, x1, v43.2)))))))))) else none) else (some (.inr (h))) else none) else (if pm_kd h x0 = 2 then (fX2_translate h x0 x3).bind fun v46 => pm_let (x3 + v46.1) fun y49 => pm_let (y49 + 1) fun y51 => some (.inl (.inr (.inr (.inr (.inr (.inr (.inl ((x0, x1, y51, v46.2))))))))) else none) else none
noncomputable def tX2_compile_169 (x0 : Nat) (x1 : Nat) (s0 : Nat) (s1 : Nat) (h : pm_H) : Option (((Nat × Nat × pm_H) ⊕ (Nat × Nat × Nat × Nat × pm_H) ⊕ (Nat × Nat × Nat × Nat × pm_H) ⊕ (Nat × Nat × Nat × Nat × pm_H) ⊕ (Nat × Nat × Nat × Nat × pm_H) ⊕ (Nat × Nat × Int32 × pm_H) ⊕ (Nat × Nat × Nat × Nat × pm_H) ⊕ (Nat × Nat × pm_H)) ⊕ pm_H) := if pm_kd h s1 = 0 then if pm_kd (pm_setR h s1 7 (some s0)) x0 = 2 then (pm_R (pm_setR h s1 7 (some s0)) x0 6).bind fun v55 => (fJ7_copyOf_c38d5 (pm_setR h s1 7 (some s0)) v55 (pm_I (pm_setR h s1 7 (some s0)) x0 7)).bind fun v57 => some (.inl (.inr (.inr (.inr (.inr (.inr (.inr (.inr ((v57.1, x1, v57.2)))))))))) else none else none
noncomputable def tX2_compile_184 (s0 : Nat) (s1 : Nat) (h : pm_H) : Option (((Nat × Nat × pm_H) ⊕ (Nat × Nat × Nat × Nat × pm_H) ⊕ (Nat × Nat × Nat × Nat × pm_H) ⊕ (Nat × Nat × Nat × Nat × pm_H) ⊕ (Nat × Nat × Nat × Nat × pm_H) ⊕ (Nat × Nat × Int32 × pm_H) ⊕ (Nat × Nat × Nat × Nat × pm_H) ⊕ (Nat × Nat × pm_H)) ⊕ pm_H) := if pm_kd h s1 = 0 then some (.inr (pm_setR h s1 8 (some s0))) else none
noncomputable def sX2_compile : ((Nat × Nat × pm_H) ⊕ (Nat × Nat × Nat × Nat × pm_H) ⊕ (Nat × Nat × Nat × Nat × pm_H) ⊕ (Nat × Nat × Nat × Nat × pm_H) ⊕ (Nat × Nat × Nat × Nat × pm_H) ⊕ (Nat × Nat × Int32 × pm_H) ⊕ (Nat × Nat × Nat × Nat × pm_H) ⊕ (Nat × Nat × pm_H)) → Option (((Nat × Nat × pm_H) ⊕ (Nat × Nat × Nat × Nat × pm_H) ⊕ (Nat × Nat × Nat × Nat × pm_H) ⊕ (Nat × Nat × Nat × Nat × pm_H) ⊕ (Nat × Nat × Nat × Nat × pm_H) ⊕ (Nat × Nat × Int32 × pm_H) ⊕ (Nat × Nat × Nat × Nat × pm_H) ⊕ (Nat × Nat × pm_H)) ⊕ pm_H) := fun z => match z with
  | .inl (x0, x1, h) => tX2_compile_0 x0 x1 h
  | .inr (.inl (x0, x1, s0, s1, h)) => tX2_compile_43 x0 x1 s0 s1 h
  | .inr (.inr (.inl (x0, x1, s0, s1, h))) => tX2_compile_53 x0 x1 s0 s1 h
  | .inr (.inr (.inr (.inl (x0, x1, s0, s1, h)))) => tX2_compile_63 x0 x1 s0 s1 h
  | .inr (.inr (.inr (.inr (.inl (x0, x1, s0, s1, h))))) => tX2_compile_73 x0 x1 s0 s1 h
  | .inr (.inr (.inr (.inr (.inr (.inl (x0, x1, x3, h)))))) => tX2_compile_107 x0 x1 x3 h
  | .inr (.inr (.inr (.inr (.inr (.inr (.inl (x0, x1, s0, s1, h))))))) => tX2_compile_169 x0 x1 s0 s1 h
  | .inr (.inr (.inr (.inr (.inr (.inr (.inr (s0, s1, h))))))) => tX2_compile_184 s0 s1 h
noncomputable def fX2_compile (h : pm_H) (a0 : Nat) (p1 : Nat) : Option pm_H := pm_lim sX2_compile (.inl ((a0, p1, h)))
set_option maxHeartbeats 4000000 in
set_option maxRecDepth 100000 in
theorem mlX2_compile {r : pm_H} : ∀ n : Nat, (∀ (x0 : Nat) (x1 : Nat) (h : pm_H), pm_iter sX2_compile n (.inl (x0, x1, h)) = some r → pm_Le h r) ∧ (∀ (x0 : Nat) (x1 : Nat) (s0 : Nat) (s1 : Nat) (h : pm_H), pm_iter sX2_compile n (.inr (.inl (x0, x1, s0, s1, h))) = some r → pm_Le h r) ∧ (∀ (x0 : Nat) (x1 : Nat) (s0 : Nat) (s1 : Nat) (h : pm_H), pm_iter sX2_compile n (.inr (.inr (.inl (x0, x1, s0, s1, h)))) = some r → pm_Le h r) ∧ (∀ (x0 : Nat) (x1 : Nat) (s0 : Nat) (s1 : Nat) (h : pm_H), pm_iter sX2_compile n (.inr (.inr (.inr (.inl (x0, x1, s0, s1, h))))) = some r → pm_Le h r) ∧ (∀ (x0 : Nat) (x1 : Nat) (s0 : Nat) (s1 : Nat) (h : pm_H), pm_iter sX2_compile n (.inr (.inr (.inr (.inr (.inl (x0, x1, s0, s1, h)))))) = some r → pm_Le h r) ∧ (∀ (x0 : Nat) (x1 : Nat) (x3 : Int32) (h : pm_H), pm_iter sX2_compile n (.inr (.inr (.inr (.inr (.inr (.inl (x0, x1, x3, h))))))) = some r → pm_Le h r) ∧ (∀ (x0 : Nat) (x1 : Nat) (s0 : Nat) (s1 : Nat) (h : pm_H), pm_iter sX2_compile n (.inr (.inr (.inr (.inr (.inr (.inr (.inl (x0, x1, s0, s1, h)))))))) = some r → pm_Le h r) ∧ (∀ (s0 : Nat) (s1 : Nat) (h : pm_H), pm_iter sX2_compile n (.inr (.inr (.inr (.inr (.inr (.inr (.inr (s0, s1, h)))))))) = some r → pm_Le h r) := by
  intro n
  induction n with
  | zero => exact ⟨fun _ _ _ hf => (by cases hf), fun _ _ _ _ _ hf => (by cases hf), fun _ _ _ _ _ hf => (by cases hf), fun _ _ _ _ _ hf => (by cases hf), fun _ _ _ _ _ hf => (by cases hf), fun _ _ _ _ hf => (by cases hf), fun _ _ _ _ _ hf => (by cases hf), fun _ _ _ hf => (by cases hf)⟩
  | succ n ih =>
    refine ⟨fun x0 x1 h hf => ?_, ?_⟩
    · obtain ⟨y, hf, hi⟩ := pm_iter_s hf
      have hf : tX2_compile_0 x0 x1 h = some y := hf
      unfold tX2_compile_0 at hf
      have K0 := pm_S3.rf h
      obtain ⟨k1, hf⟩ := pm_if hf
      obtain ⟨y2, e3, hf⟩ := pm_lt hf
      obtain ⟨k4, hf⟩ := pm_if hf
      by_cases c5 : y2 ≤ (pm_I (pm_setI h x1 6 1) x0 0)
      · have hf := pm_it hf c5
        obtain ⟨y6, e7, hf⟩ := pm_lt hf
        obtain ⟨y8, e9, hf⟩ := pm_lt hf
        obtain ⟨u10, hf⟩ := pm_if hf
        cases hf
        exact ((pm_S3.le (pm_S3I (pm_S3R (pm_S3I K0)))).trans (pm_Le_new _ _ _)).trans (ih.2.1 x0 x1 (pm_sz (pm_setI (pm_setR (pm_setI h x1 6 1) x0 1 (some x1)) x0 2 y6)) x0 (pm_new (pm_setI (pm_setR (pm_setI h x1 6 1) x0 1 (some x1)) x0 2 y6) 34 y8.toNatClampNeg) hi)
      · have hf := pm_ie hf c5
        have hf := Option.some.inj hf
        subst hf
        have hi := Option.some.inj (show some _ = some r from hi)
        subst hi
        exact pm_S3.le (pm_S3I K0)
    refine ⟨fun x0 x1 s0 s1 h hf => ?_, ?_⟩
    · obtain ⟨y, hf, hi⟩ := pm_iter_s hf
      have hf : tX2_compile_43 x0 x1 s0 s1 h = some y := hf
      unfold tX2_compile_43 at hf
      have K0 := pm_S3.rf h
      obtain ⟨k11, hf⟩ := pm_if hf
      obtain ⟨k12, hf⟩ := pm_if hf
      obtain ⟨y13, e14, hf⟩ := pm_lt hf
      obtain ⟨u15, hf⟩ := pm_if hf
      cases hf
      exact ((pm_S3.le (pm_S3R K0)).trans (pm_Le_new _ _ _)).trans (ih.2.2.1 x0 x1 (pm_sz (pm_setR h s1 3 (some s0))) x0 (pm_new (pm_setR h s1 3 (some s0)) 35 y13.toNatClampNeg) hi)
    refine ⟨fun x0 x1 s0 s1 h hf => ?_, ?_⟩
    · obtain ⟨y, hf, hi⟩ := pm_iter_s hf
      have hf : tX2_compile_53 x0 x1 s0 s1 h = some y := hf
      unfold tX2_compile_53 at hf
      have K0 := pm_S3.rf h
      obtain ⟨k16, hf⟩ := pm_if hf
      obtain ⟨k17, hf⟩ := pm_if hf
      obtain ⟨y18, e19, hf⟩ := pm_lt hf
      obtain ⟨u20, hf⟩ := pm_if hf
      cases hf
      exact ((pm_S3.le (pm_S3R K0)).trans (pm_Le_new _ _ _)).trans (ih.2.2.2.1 x0 x1 (pm_sz (pm_setR h s1 6 (some s0))) x0 (pm_new (pm_setR h s1 6 (some s0)) 34 y18.toNatClampNeg) hi)
    refine ⟨fun x0 x1 s0 s1 h hf => ?_, ?_⟩
    · obtain ⟨y, hf, hi⟩ := pm_iter_s hf
      have hf : tX2_compile_63 x0 x1 s0 s1 h = some y := hf
      unfold tX2_compile_63 at hf
      have K0 := pm_S3.rf h
      obtain ⟨k21, hf⟩ := pm_if hf
      obtain ⟨k22, hf⟩ := pm_if hf
      obtain ⟨y23, e24, hf⟩ := pm_lt hf
      obtain ⟨u25, hf⟩ := pm_if hf
      cases hf
      exact ((pm_S3.le (pm_S3R K0)).trans (pm_Le_new _ _ _)).trans (ih.2.2.2.2.1 x0 x1 (pm_sz (pm_setR h s1 8 (some s0))) x0 (pm_new (pm_setR h s1 8 (some s0)) 32 y23.toNatClampNeg) hi)
    refine ⟨fun x0 x1 s0 s1 h hf => ?_, ?_⟩
    · obtain ⟨y, hf, hi⟩ := pm_iter_s hf
      have hf : tX2_compile_73 x0 x1 s0 s1 h = some y := hf
      unfold tX2_compile_73 at hf
      have K0 := pm_S3.rf h
      obtain ⟨k26, hf⟩ := pm_if hf
      obtain ⟨k27, hf⟩ := pm_if hf
      obtain ⟨v28, e29, hf⟩ := pm_bd hf
      have K30 := pm_S3.trans (kpX2_markTargets e29) (pm_S3I (pm_S3I (pm_S3I (pm_S3I (pm_S3I (pm_S3R K0))))))
      cases hf
      exact (pm_S3.le K30).trans (ih.2.2.2.2.2.1 x0 x1 0 v28 hi)
    refine ⟨fun x0 x1 x3 h hf => ?_, ?_⟩
    · obtain ⟨y, hf, hi⟩ := pm_iter_s hf
      have hf : tX2_compile_107 x0 x1 x3 h = some y := hf
      unfold tX2_compile_107 at hf
      have K0 := pm_S3.rf h
      obtain ⟨k31, hf⟩ := pm_if hf
      by_cases c32 : (pm_I h x1 2) ≤ x3
      · have hf := pm_it hf c32
        obtain ⟨k33, hf⟩ := pm_if hf
        by_cases c34 : (pm_I h x0 5) = 0
        · have hf := pm_it hf c34
          obtain ⟨v35, e36, hf⟩ := pm_bd hf
          have K37 := pm_S3.trans (kpX2_aimBranches e36) K0
          obtain ⟨k38, hf⟩ := pm_if hf
          obtain ⟨y39, e40, hf⟩ := pm_lt hf
          obtain ⟨v41, e42, hf⟩ := pm_bd hf
          obtain ⟨v43, e44, hf⟩ := pm_bd hf
          cases hf
          exact ((pm_S3.le (pm_S3I K37)).trans (moJ7_copyOf_59c91 e44)).trans (ih.2.2.2.2.2.2.1 x0 x1 v43.1 x1 v43.2 hi)
        · have hf := pm_ie hf c34
          have hf := Option.some.inj hf
          subst hf
          have hi := Option.some.inj (show some _ = some r from hi)
          subst hi
          exact pm_S3.le K0
      · have hf := pm_ie hf c32
        obtain ⟨k45, hf⟩ := pm_if hf
        obtain ⟨v46, e47, hf⟩ := pm_bd hf
        have K48 := pm_S3.trans (kpX2_translate e47) K0
        obtain ⟨y49, e50, hf⟩ := pm_lt hf
        obtain ⟨y51, e52, hf⟩ := pm_lt hf
        cases hf
        exact (pm_S3.le K48).trans (ih.2.2.2.2.2.1 x0 x1 y51 v46.2 hi)
    refine ⟨fun x0 x1 s0 s1 h hf => ?_, ?_⟩
    · obtain ⟨y, hf, hi⟩ := pm_iter_s hf
      have hf : tX2_compile_169 x0 x1 s0 s1 h = some y := hf
      unfold tX2_compile_169 at hf
      have K0 := pm_S3.rf h
      obtain ⟨k53, hf⟩ := pm_if hf
      obtain ⟨k54, hf⟩ := pm_if hf
      obtain ⟨v55, e56, hf⟩ := pm_bd hf
      obtain ⟨v57, e58, hf⟩ := pm_bd hf
      cases hf
      exact ((pm_S3.le (pm_S3R K0)).trans (moJ7_copyOf_c38d5 e58)).trans (ih.2.2.2.2.2.2.2 v57.1 x1 v57.2 hi)
    refine fun s0 s1 h hf => ?_
    obtain ⟨y, hf, hi⟩ := pm_iter_s hf
    have hf : tX2_compile_184 s0 s1 h = some y := hf
    unfold tX2_compile_184 at hf
    have K0 := pm_S3.rf h
    obtain ⟨k59, hf⟩ := pm_if hf
    have hf := Option.some.inj hf
    subst hf
    have hi := Option.some.inj (show some _ = some r from hi)
    subst hi
    exact pm_S3.le (pm_S3R K0)
set_option maxHeartbeats 4000000 in
set_option maxRecDepth 100000 in
theorem moX2_compile {h : pm_H} {a0 : Nat} {p1 : Nat} {r : pm_H} (hf : fX2_compile h a0 p1 = some r) : pm_Le h r := by
  unfold fX2_compile at hf
  have K0 := pm_S3.rf h
  obtain ⟨n, hn⟩ := pm_lim_iter hf
  exact (mlX2_compile n).1 a0 p1 h hn
set_option maxHeartbeats 4000000 in
set_option maxRecDepth 100000 in
theorem lpX2_compile {g : pm_Gm} {l : Launch} {G : pm_Gl} {Qr : Option Value → pm_H → Prop} (C : pm_C g cX2_compile RX2) {h0 : pm_H} {r : pm_H} (X : pm_X g l G mX2_compile (pm_sz r - pm_sz h0) (pm_us r - pm_us h0) Qr) (q : Qr none r) : ∀ n : Nat, (∀ (x0 : Nat) (x1 : Nat) (h : pm_H), pm_Le h0 h → pm_iter sX2_compile n (.inl (x0, x1, h)) = some r → pm_G g 0 [(0, .ref x0), (1, .ref x1)] [] h (pm_sz h - pm_sz h0) (pm_us h - pm_us h0)) ∧ (∀ (x0 : Nat) (x1 : Nat) (s0 : Nat) (s1 : Nat) (h : pm_H), pm_Le h0 h → pm_iter sX2_compile n (.inr (.inl (x0, x1, s0, s1, h))) = some r → pm_G g 43 [(0, .ref x0), (1, .ref x1)] [.ref s0, .ref s1] h (pm_sz h - pm_sz h0) (pm_us h - pm_us h0)) ∧ (∀ (x0 : Nat) (x1 : Nat) (s0 : Nat) (s1 : Nat) (h : pm_H), pm_Le h0 h → pm_iter sX2_compile n (.inr (.inr (.inl (x0, x1, s0, s1, h)))) = some r → pm_G g 53 [(0, .ref x0), (1, .ref x1)] [.ref s0, .ref s1] h (pm_sz h - pm_sz h0) (pm_us h - pm_us h0)) ∧ (∀ (x0 : Nat) (x1 : Nat) (s0 : Nat) (s1 : Nat) (h : pm_H), pm_Le h0 h → pm_iter sX2_compile n (.inr (.inr (.inr (.inl (x0, x1, s0, s1, h))))) = some r → pm_G g 63 [(0, .ref x0), (1, .ref x1)] [.ref s0, .ref s1] h (pm_sz h - pm_sz h0) (pm_us h - pm_us h0)) ∧ (∀ (x0 : Nat) (x1 : Nat) (s0 : Nat) (s1 : Nat) (h : pm_H), pm_Le h0 h → pm_iter sX2_compile n (.inr (.inr (.inr (.inr (.inl (x0, x1, s0, s1, h)))))) = some r → pm_G g 73 [(0, .ref x0), (1, .ref x1)] [.ref s0, .ref s1] h (pm_sz h - pm_sz h0) (pm_us h - pm_us h0)) ∧ (∀ (x0 : Nat) (x1 : Nat) (x3 : Int32) (h : pm_H), pm_Le h0 h → pm_iter sX2_compile n (.inr (.inr (.inr (.inr (.inr (.inl (x0, x1, x3, h))))))) = some r → pm_G g 107 [(0, .ref x0), (1, .ref x1), (3, .int x3)] [] h (pm_sz h - pm_sz h0) (pm_us h - pm_us h0)) ∧ (∀ (x0 : Nat) (x1 : Nat) (s0 : Nat) (s1 : Nat) (h : pm_H), pm_Le h0 h → pm_iter sX2_compile n (.inr (.inr (.inr (.inr (.inr (.inr (.inl (x0, x1, s0, s1, h)))))))) = some r → pm_G g 169 [(0, .ref x0), (1, .ref x1)] [.ref s0, .ref s1] h (pm_sz h - pm_sz h0) (pm_us h - pm_us h0)) ∧ (∀ (s0 : Nat) (s1 : Nat) (h : pm_H), pm_Le h0 h → pm_iter sX2_compile n (.inr (.inr (.inr (.inr (.inr (.inr (.inr (s0, s1, h)))))))) = some r → pm_G g 184 [] [.ref s0, .ref s1] h (pm_sz h - pm_sz h0) (pm_us h - pm_us h0)) := by
  intro n
  induction n with
  | zero => exact ⟨fun _ _ _ _ hf => (by cases hf), fun _ _ _ _ _ _ hf => (by cases hf), fun _ _ _ _ _ _ hf => (by cases hf), fun _ _ _ _ _ _ hf => (by cases hf), fun _ _ _ _ _ _ hf => (by cases hf), fun _ _ _ _ _ hf => (by cases hf), fun _ _ _ _ _ _ hf => (by cases hf), fun _ _ _ _ hf => (by cases hf)⟩
  | succ n ih =>
    refine ⟨fun x0 x1 h m0 hf => ?_, ?_⟩
    · have le0 := (mlX2_compile (n + 1)).1 x0 x1 h hf
      have kc1 := Nat.sub_le_sub_right le0.1 (pm_sz h0)
      have kc2 := Nat.sub_le_sub_right le0.2 (pm_us h0)
      have K0 := pm_S3.rf h
      obtain ⟨y, hf, hi⟩ := pm_iter_s hf
      have hf : tX2_compile_0 x0 x1 h = some y := hf
      unfold tX2_compile_0 at hf
      refine pm_aload_n C dX2_compile_0 rfl rfl ?_
      refine pm_iconst (v := 1) C dX2_compile_1 (by decide) ?_
      obtain ⟨k1, hf⟩ := pm_if hf
      refine pm_putI C dX2_compile_2 flX2_38 rfl rfl k1 (by decide) (by decide) ?_
      refine pm_iconst (v := 3) C dX2_compile_5 (by decide) ?_
      refine pm_aload_n C dX2_compile_6 rfl rfl ?_
      refine pm_getI C dX2_compile_7 flX2_44 rfl k1 rfl ?_
      refine pm_imul C dX2_compile_10 ?_
      refine pm_iconst (v := 2) C dX2_compile_11 (by decide) ?_
      refine pm_iadd C dX2_compile_12 ?_
      obtain ⟨y2, e3, hf⟩ := pm_lt hf
      refine pm_topI e3 ?_
      refine pm_istore_n (lv' := [(2, .int y2), (0, .ref x0), (1, .ref x1)]) C dX2_compile_13 rfl (pm_nl X (by decide)) rfl ?_
      refine pm_iload_n C dX2_compile_14 rfl rfl ?_
      refine pm_aload_n C dX2_compile_15 rfl rfl ?_
      obtain ⟨k4, hf⟩ := pm_if hf
      refine pm_getI C dX2_compile_16 flX2_12 rfl k4 rfl ?_
      refine pm_icmp_le (tgt := 23) C dX2_compile_19 (by decide) (fun c5 => ?_) (fun c5 => ?_)
      · have hf := pm_it hf c5
        refine pm_aload_n C dX2_compile_23 rfl rfl ?_
        refine pm_aload_n C dX2_compile_24 rfl rfl ?_
        refine pm_putR C dX2_compile_25 flX2_34 rfl rfl k4 ?_
        refine pm_aload_n C dX2_compile_28 rfl rfl ?_
        refine pm_aload_n C dX2_compile_29 rfl rfl ?_
        refine pm_getI C dX2_compile_30 flX2_47 rfl k1 rfl ?_
        obtain ⟨y6, e7, hf⟩ := pm_lt hf
        refine pm_topI e7 ?_
        refine pm_putI C dX2_compile_33 flX2_50 rfl rfl k4 rfl rfl ?_
        refine pm_aload_n C dX2_compile_36 rfl rfl ?_
        refine pm_iload_n C dX2_compile_37 rfl rfl ?_
        refine pm_bipush (v := 8) C dX2_compile_38 (by decide) ?_
        refine pm_imul C dX2_compile_40 ?_
        obtain ⟨y8, e9, hf⟩ := pm_lt hf
        refine pm_topI e9 ?_
        obtain ⟨u10, hf⟩ := pm_if hf
        cases hf
        refine pa_newa (hb := h) (h0 := h0) (t := 2) (N := y8.toNatClampNeg) C X (pm_S3I (pm_S3R (pm_S3I K0))) m0 dX2_compile_41 (by decide) rfl al2 u10.1 rfl u10.2 ((mlX2_compile n).2.1 x0 x1 (pm_sz (pm_setI (pm_setR (pm_setI h x1 6 1) x0 1 (some x1)) x0 2 y6)) x0 (pm_new (pm_setI (pm_setR (pm_setI h x1 6 1) x0 1 (some x1)) x0 2 y6) 34 y8.toNatClampNeg) hi) ?_
        exact pm_sub [1, 2] rfl (ih.2.1 x0 x1 (pm_sz (pm_setI (pm_setR (pm_setI h x1 6 1) x0 1 (some x1)) x0 2 y6)) x0 (pm_new (pm_setI (pm_setR (pm_setI h x1 6 1) x0 1 (some x1)) x0 2 y6) 34 y8.toNatClampNeg) ((m0.trans (pm_S3.le (pm_S3I (pm_S3R (pm_S3I K0))))).trans (pm_Le_new _ _ _)) hi)
      · have hf := pm_ie hf c5
        have hf := Option.some.inj hf
        subst hf
        have hi := Option.some.inj (show some _ = some r from hi)
        subst hi
        exact pm_vret C X dX2_compile_22 rfl kc1 kc2 q
    refine ⟨fun x0 x1 s0 s1 h m0 hf => ?_, ?_⟩
    · have le0 := (mlX2_compile (n + 1)).2.1 x0 x1 s0 s1 h hf
      have kc1 := Nat.sub_le_sub_right le0.1 (pm_sz h0)
      have kc2 := Nat.sub_le_sub_right le0.2 (pm_us h0)
      have K0 := pm_S3.rf h
      obtain ⟨y, hf, hi⟩ := pm_iter_s hf
      have hf : tX2_compile_43 x0 x1 s0 s1 h = some y := hf
      unfold tX2_compile_43 at hf
      obtain ⟨k11, hf⟩ := pm_if hf
      refine pm_putR C dX2_compile_43 flX2_16 rfl rfl k11 ?_
      refine pm_aload_n C dX2_compile_46 rfl rfl ?_
      refine pm_aload_n C dX2_compile_47 rfl rfl ?_
      obtain ⟨k12, hf⟩ := pm_if hf
      refine pm_getI C dX2_compile_48 flX2_44 rfl k12 rfl ?_
      obtain ⟨y13, e14, hf⟩ := pm_lt hf
      refine pm_topI e14 ?_
      obtain ⟨u15, hf⟩ := pm_if hf
      cases hf
      refine pa_newa (hb := h) (h0 := h0) (t := 3) (N := y13.toNatClampNeg) C X (pm_S3R K0) m0 dX2_compile_51 (by decide) rfl al3 u15.1 rfl u15.2 ((mlX2_compile n).2.2.1 x0 x1 (pm_sz (pm_setR h s1 3 (some s0))) x0 (pm_new (pm_setR h s1 3 (some s0)) 35 y13.toNatClampNeg) hi) ?_
      exact pm_sub [0, 1] rfl (ih.2.2.1 x0 x1 (pm_sz (pm_setR h s1 3 (some s0))) x0 (pm_new (pm_setR h s1 3 (some s0)) 35 y13.toNatClampNeg) ((m0.trans (pm_S3.le (pm_S3R K0))).trans (pm_Le_new _ _ _)) hi)
    refine ⟨fun x0 x1 s0 s1 h m0 hf => ?_, ?_⟩
    · have le0 := (mlX2_compile (n + 1)).2.2.1 x0 x1 s0 s1 h hf
      have kc1 := Nat.sub_le_sub_right le0.1 (pm_sz h0)
      have kc2 := Nat.sub_le_sub_right le0.2 (pm_us h0)
      have K0 := pm_S3.rf h
      obtain ⟨y, hf, hi⟩ := pm_iter_s hf
      have hf : tX2_compile_53 x0 x1 s0 s1 h = some y := hf
      unfold tX2_compile_53 at hf
      obtain ⟨k16, hf⟩ := pm_if hf
      refine pm_putR C dX2_compile_53 flX2_20 rfl rfl k16 ?_
      refine pm_aload_n C dX2_compile_56 rfl rfl ?_
      refine pm_aload_n C dX2_compile_57 rfl rfl ?_
      obtain ⟨k17, hf⟩ := pm_if hf
      refine pm_getI C dX2_compile_58 flX2_44 rfl k17 rfl ?_
      obtain ⟨y18, e19, hf⟩ := pm_lt hf
      refine pm_topI e19 ?_
      obtain ⟨u20, hf⟩ := pm_if hf
      cases hf
      refine pa_newa (hb := h) (h0 := h0) (t := 2) (N := y18.toNatClampNeg) C X (pm_S3R K0) m0 dX2_compile_61 (by decide) rfl al2 u20.1 rfl u20.2 ((mlX2_compile n).2.2.2.1 x0 x1 (pm_sz (pm_setR h s1 6 (some s0))) x0 (pm_new (pm_setR h s1 6 (some s0)) 34 y18.toNatClampNeg) hi) ?_
      exact pm_sub [0, 1] rfl (ih.2.2.2.1 x0 x1 (pm_sz (pm_setR h s1 6 (some s0))) x0 (pm_new (pm_setR h s1 6 (some s0)) 34 y18.toNatClampNeg) ((m0.trans (pm_S3.le (pm_S3R K0))).trans (pm_Le_new _ _ _)) hi)
    refine ⟨fun x0 x1 s0 s1 h m0 hf => ?_, ?_⟩
    · have le0 := (mlX2_compile (n + 1)).2.2.2.1 x0 x1 s0 s1 h hf
      have kc1 := Nat.sub_le_sub_right le0.1 (pm_sz h0)
      have kc2 := Nat.sub_le_sub_right le0.2 (pm_us h0)
      have K0 := pm_S3.rf h
      obtain ⟨y, hf, hi⟩ := pm_iter_s hf
      have hf : tX2_compile_63 x0 x1 s0 s1 h = some y := hf
      unfold tX2_compile_63 at hf
      obtain ⟨k21, hf⟩ := pm_if hf
      refine pm_putR C dX2_compile_63 flX2_24 rfl rfl k21 ?_
      refine pm_aload_n C dX2_compile_66 rfl rfl ?_
      refine pm_aload_n C dX2_compile_67 rfl rfl ?_
      obtain ⟨k22, hf⟩ := pm_if hf
      refine pm_getI C dX2_compile_68 flX2_44 rfl k22 rfl ?_
      obtain ⟨y23, e24, hf⟩ := pm_lt hf
      refine pm_topI e24 ?_
      obtain ⟨u25, hf⟩ := pm_if hf
      cases hf
      refine pa_newa (hb := h) (h0 := h0) (t := 0) (N := y23.toNatClampNeg) C X (pm_S3R K0) m0 dX2_compile_71 (by decide) rfl al0 u25.1 rfl u25.2 ((mlX2_compile n).2.2.2.2.1 x0 x1 (pm_sz (pm_setR h s1 8 (some s0))) x0 (pm_new (pm_setR h s1 8 (some s0)) 32 y23.toNatClampNeg) hi) ?_
      exact pm_sub [0, 1] rfl (ih.2.2.2.2.1 x0 x1 (pm_sz (pm_setR h s1 8 (some s0))) x0 (pm_new (pm_setR h s1 8 (some s0)) 32 y23.toNatClampNeg) ((m0.trans (pm_S3.le (pm_S3R K0))).trans (pm_Le_new _ _ _)) hi)
    refine ⟨fun x0 x1 s0 s1 h m0 hf => ?_, ?_⟩
    · have le0 := (mlX2_compile (n + 1)).2.2.2.2.1 x0 x1 s0 s1 h hf
      have kc1 := Nat.sub_le_sub_right le0.1 (pm_sz h0)
      have kc2 := Nat.sub_le_sub_right le0.2 (pm_us h0)
      have K0 := pm_S3.rf h
      obtain ⟨y, hf, hi⟩ := pm_iter_s hf
      have hf : tX2_compile_73 x0 x1 s0 s1 h = some y := hf
      unfold tX2_compile_73 at hf
      obtain ⟨k26, hf⟩ := pm_if hf
      refine pm_putR C dX2_compile_73 flX2_27 rfl rfl k26 ?_
      refine pm_aload_n C dX2_compile_76 rfl rfl ?_
      refine pm_iconst (v := 0) C dX2_compile_77 (by decide) ?_
      obtain ⟨k27, hf⟩ := pm_if hf
      refine pm_putI C dX2_compile_78 flX2_51 rfl rfl k27 rfl rfl ?_
      refine pm_aload_n C dX2_compile_81 rfl rfl ?_
      refine pm_iconst (v := 0) C dX2_compile_82 (by decide) ?_
      refine pm_putI C dX2_compile_83 flX2_54 rfl rfl k27 rfl rfl ?_
      refine pm_aload_n C dX2_compile_86 rfl rfl ?_
      refine pm_iconst (v := 0) C dX2_compile_87 (by decide) ?_
      refine pm_putI C dX2_compile_88 flX2_57 rfl rfl k27 rfl rfl ?_
      refine pm_aload_n C dX2_compile_91 rfl rfl ?_
      refine pm_iconst (v := 0) C dX2_compile_92 (by decide) ?_
      refine pm_putI C dX2_compile_93 flX2_60 rfl rfl k27 (by decide) (by decide) ?_
      refine pm_aload_n C dX2_compile_96 rfl rfl ?_
      refine pm_iconst (v := 0) C dX2_compile_97 (by decide) ?_
      refine pm_putI C dX2_compile_98 flX2_63 rfl rfl k27 (by decide) (by decide) ?_
      refine pm_aload_n C dX2_compile_101 rfl rfl ?_
      obtain ⟨v28, e29, hf⟩ := pm_bd hf
      refine pm_callV (as := []) (st := []) C X dX2_compile_102 lnX2_66 myX2_markTargets viX2_markTargets ⟨by decide, by decide⟩ rfl rfl k27 (Nat.le_of_ble_eq_true rfl) kc1 kc2 (ctX2_markTargets e29 ?_)
      have K30 := pm_S3.trans (kpX2_markTargets e29) (pm_S3I (pm_S3I (pm_S3I (pm_S3I (pm_S3I (pm_S3R K0))))))
      show pm_G g 105 [(0, .ref x0), (1, .ref x1)] [] v28 (pm_sz h - pm_sz h0) (pm_us h - pm_us h0)
      refine pm_iconst (v := 0) C dX2_compile_105 (by decide) ?_
      refine pm_istore_n (lv' := [(3, .int 0), (0, .ref x0), (1, .ref x1)]) C dX2_compile_106 rfl (pm_nl X (by decide)) rfl ?_
      cases hf
      exact pa_join K30 (pm_sub [1, 2, 0] rfl (ih.2.2.2.2.2.1 x0 x1 0 v28 (m0.trans (pm_S3.le K30)) hi))
    refine ⟨fun x0 x1 x3 h m0 hf => ?_, ?_⟩
    · have le0 := (mlX2_compile (n + 1)).2.2.2.2.2.1 x0 x1 x3 h hf
      have kc1 := Nat.sub_le_sub_right le0.1 (pm_sz h0)
      have kc2 := Nat.sub_le_sub_right le0.2 (pm_us h0)
      have K0 := pm_S3.rf h
      obtain ⟨y, hf, hi⟩ := pm_iter_s hf
      have hf : tX2_compile_107 x0 x1 x3 h = some y := hf
      unfold tX2_compile_107 at hf
      refine pm_iload_n C dX2_compile_107 rfl rfl ?_
      refine pm_aload_n C dX2_compile_108 rfl rfl ?_
      obtain ⟨k31, hf⟩ := pm_if hf
      refine pm_getI C dX2_compile_109 flX2_44 rfl k31 rfl ?_
      refine pm_icmp_ge (tgt := 129) C dX2_compile_112 (by decide) (fun c32 => ?_) (fun c32 => ?_)
      · have hf := pm_it hf c32
        refine pm_aload_n C dX2_compile_129 rfl rfl ?_
        obtain ⟨k33, hf⟩ := pm_if hf
        refine pm_getI C dX2_compile_130 flX2_60 rfl k33 rfl ?_
        refine pm_if_eq (tgt := 137) C dX2_compile_133 (by decide) (fun c34 => ?_) (fun c34 => ?_)
        · have hf := pm_it hf c34
          refine pm_aload_n C dX2_compile_137 rfl rfl ?_
          obtain ⟨v35, e36, hf⟩ := pm_bd hf
          refine pm_callV (as := []) (st := []) C X dX2_compile_138 lnX2_73 myX2_aimBranches viX2_aimBranches ⟨by decide, by decide⟩ rfl rfl k33 (Nat.le_of_ble_eq_true rfl) kc1 kc2 (ctX2_aimBranches e36 ?_)
          have K37 := pm_S3.trans (kpX2_aimBranches e36) K0
          show pm_G g 141 [(0, .ref x0), (1, .ref x1), (3, .int x3)] [] v35 (pm_sz h - pm_sz h0) (pm_us h - pm_us h0)
          refine pm_aload_n C dX2_compile_141 rfl rfl ?_
          refine pm_dup C dX2_compile_142 rfl ?_
          obtain ⟨k38, hf⟩ := pm_if hf
          refine pm_getI C dX2_compile_143 flX2_12 rfl k38 rfl ?_
          refine pm_aload_n C dX2_compile_146 rfl rfl ?_
          refine pm_getI C dX2_compile_147 flX2_51 rfl k38 rfl ?_
          refine pm_isub C dX2_compile_150 ?_
          obtain ⟨y39, e40, hf⟩ := pm_lt hf
          refine pm_topI e40 ?_
          refine pm_putI C dX2_compile_151 flX2_12 rfl rfl k38 rfl rfl ?_
          refine pm_aload_n C dX2_compile_154 rfl rfl ?_
          refine pm_aload_n C dX2_compile_155 rfl rfl ?_
          obtain ⟨v41, e42, hf⟩ := pm_bd hf
          refine pm_getR C dX2_compile_156 flX2_16 rfl k38 e42 ?_
          refine pm_aload_n C dX2_compile_159 rfl rfl ?_
          refine pm_getI C dX2_compile_160 flX2_51 rfl k38 rfl ?_
          refine pm_bipush (v := 8) C dX2_compile_163 (by decide) ?_
          refine pm_imul C dX2_compile_165 ?_
          obtain ⟨v43, e44, hf⟩ := pm_bd hf
          cases hf
          refine pm_callS (as := [.ref v41, .int ((pm_I (pm_setI v35 x0 0 y39) x0 4) * 8)]) (st := [.ref x1]) C X dX2_compile_166 lnX2_76 myJ7_copyOf_59c91 stJ7_copyOf_59c91 ⟨by decide, by decide⟩ rfl rfl (Nat.le_of_ble_eq_true rfl) (pa_le1 (pm_S3I K37) m0 (moJ7_copyOf_59c91 e44) ((mlX2_compile n).2.2.2.2.2.2.1 x0 x1 v43.1 x1 v43.2 hi)) (pa_le2 (pm_S3I K37) m0 (moJ7_copyOf_59c91 e44) ((mlX2_compile n).2.2.2.2.2.2.1 x0 x1 v43.1 x1 v43.2 hi)) (ctJ7_copyOf_59c91 e44 ?_)
          show pm_G g 169 [(0, .ref x0), (1, .ref x1), (3, .int x3)] [.ref v43.1, .ref x1] v43.2 (pm_sz h - pm_sz h0 + (pm_sz v43.2 - pm_sz (pm_setI v35 x0 0 y39))) (pm_us h - pm_us h0 + (pm_us v43.2 - pm_us (pm_setI v35 x0 0 y39)))
          refine pa_fin (pm_S3I K37) m0 (moJ7_copyOf_59c91 e44) ?_
          exact pm_sub [0, 1] rfl (ih.2.2.2.2.2.2.1 x0 x1 v43.1 x1 v43.2 ((m0.trans (pm_S3.le (pm_S3I K37))).trans (moJ7_copyOf_59c91 e44)) hi)
        · have hf := pm_ie hf c34
          have hf := Option.some.inj hf
          subst hf
          have hi := Option.some.inj (show some _ = some r from hi)
          subst hi
          exact pm_vret C X dX2_compile_136 rfl kc1 kc2 q
      · have hf := pm_ie hf c32
        refine pm_iload_n C dX2_compile_115 rfl rfl ?_
        refine pm_aload_n C dX2_compile_116 rfl rfl ?_
        refine pm_iload_n C dX2_compile_117 rfl rfl ?_
        obtain ⟨k45, hf⟩ := pm_if hf
        obtain ⟨v46, e47, hf⟩ := pm_bd hf
        refine pm_callV (as := [.int x3]) (st := [.int x3]) C X dX2_compile_118 lnX2_69 myX2_translate viX2_translate ⟨by decide, by decide⟩ rfl rfl k45 (Nat.le_of_ble_eq_true rfl) kc1 kc2 (ctX2_translate e47 ?_)
        have K48 := pm_S3.trans (kpX2_translate e47) K0
        show pm_G g 121 [(0, .ref x0), (1, .ref x1), (3, .int x3)] [.int v46.1, .int x3] v46.2 (pm_sz h - pm_sz h0) (pm_us h - pm_us h0)
        refine pm_iadd C dX2_compile_121 ?_
        obtain ⟨y49, e50, hf⟩ := pm_lt hf
        refine pm_topI e50 ?_
        refine pm_istore_n (lv' := [(3, .int y49), (0, .ref x0), (1, .ref x1)]) C dX2_compile_122 rfl (pm_nl X (by decide)) rfl ?_
        obtain ⟨y51, e52, hf⟩ := pm_lt hf
        refine pm_iinc (v := y51) (lv' := [(3, .int y51), (0, .ref x0), (1, .ref x1)]) C dX2_compile_123 rfl ((congrArg (y49 + ·) (by decide : Int32.ofInt 1 = 1)).trans e52) (pm_nl X (by decide)) rfl ?_
        refine pm_goto (tgt := 107) C dX2_compile_126 (by decide) ?_
        cases hf
        exact pa_join K48 (pm_sub [1, 2, 0] rfl (ih.2.2.2.2.2.1 x0 x1 y51 v46.2 (m0.trans (pm_S3.le K48)) hi))
    refine ⟨fun x0 x1 s0 s1 h m0 hf => ?_, ?_⟩
    · have le0 := (mlX2_compile (n + 1)).2.2.2.2.2.2.1 x0 x1 s0 s1 h hf
      have kc1 := Nat.sub_le_sub_right le0.1 (pm_sz h0)
      have kc2 := Nat.sub_le_sub_right le0.2 (pm_us h0)
      have K0 := pm_S3.rf h
      obtain ⟨y, hf, hi⟩ := pm_iter_s hf
      have hf : tX2_compile_169 x0 x1 s0 s1 h = some y := hf
      unfold tX2_compile_169 at hf
      obtain ⟨k53, hf⟩ := pm_if hf
      refine pm_putR C dX2_compile_169 flX2_82 rfl rfl k53 ?_
      refine pm_aload_n C dX2_compile_172 rfl rfl ?_
      refine pm_aload_n C dX2_compile_173 rfl rfl ?_
      obtain ⟨k54, hf⟩ := pm_if hf
      obtain ⟨v55, e56, hf⟩ := pm_bd hf
      refine pm_getR C dX2_compile_174 flX2_20 rfl k54 e56 ?_
      refine pm_aload_n C dX2_compile_177 rfl rfl ?_
      refine pm_getI C dX2_compile_178 flX2_54 rfl k54 rfl ?_
      obtain ⟨v57, e58, hf⟩ := pm_bd hf
      cases hf
      refine pm_callS (as := [.ref v55, .int (pm_I (pm_setR h s1 7 (some s0)) x0 7)]) (st := [.ref x1]) C X dX2_compile_181 lnX2_85 myJ7_copyOf_c38d5 stJ7_copyOf_c38d5 ⟨by decide, by decide⟩ rfl rfl (Nat.le_of_ble_eq_true rfl) (pa_le1 (pm_S3R K0) m0 (moJ7_copyOf_c38d5 e58) ((mlX2_compile n).2.2.2.2.2.2.2 v57.1 x1 v57.2 hi)) (pa_le2 (pm_S3R K0) m0 (moJ7_copyOf_c38d5 e58) ((mlX2_compile n).2.2.2.2.2.2.2 v57.1 x1 v57.2 hi)) (ctJ7_copyOf_c38d5 e58 ?_)
      show pm_G g 184 [(0, .ref x0), (1, .ref x1)] [.ref v57.1, .ref x1] v57.2 (pm_sz h - pm_sz h0 + (pm_sz v57.2 - pm_sz (pm_setR h s1 7 (some s0)))) (pm_us h - pm_us h0 + (pm_us v57.2 - pm_us (pm_setR h s1 7 (some s0))))
      refine pa_fin (pm_S3R K0) m0 (moJ7_copyOf_c38d5 e58) ?_
      exact pm_sub [] rfl (ih.2.2.2.2.2.2.2 v57.1 x1 v57.2 ((m0.trans (pm_S3.le (pm_S3R K0))).trans (moJ7_copyOf_c38d5 e58)) hi)
    refine fun s0 s1 h m0 hf => ?_
    have le0 := (mlX2_compile (n + 1)).2.2.2.2.2.2.2 s0 s1 h hf
    have kc1 := Nat.sub_le_sub_right le0.1 (pm_sz h0)
    have kc2 := Nat.sub_le_sub_right le0.2 (pm_us h0)
    have K0 := pm_S3.rf h
    obtain ⟨y, hf, hi⟩ := pm_iter_s hf
    have hf : tX2_compile_184 s0 s1 h = some y := hf
    unfold tX2_compile_184 at hf
    obtain ⟨k59, hf⟩ := pm_if hf
    refine pm_putR C dX2_compile_184 flX2_88 rfl rfl k59 ?_
    have hf := Option.some.inj hf
    subst hf
    have hi := Option.some.inj (show some _ = some r from hi)
    subst hi
    exact pm_vret C X dX2_compile_187 rfl kc1 kc2 q
set_option maxHeartbeats 4000000 in
set_option maxRecDepth 100000 in
theorem ctX2_compile {l : Launch} {G : pm_Gl} {h : pm_H} {a0 : Nat} {p1 : Nat} {r : pm_H} {Qr : Option Value → pm_H → Prop} (hf : fX2_compile h a0 p1 = some r) (q : Qr none r) : pm_Ct l G mX2_compile [.ref a0, .ref p1] h (pm_sz r - pm_sz h) (pm_us r - pm_us h) Qr := by
  refine pm_body pnX2 (Nat.le_of_ble_eq_true rfl) (fun g C X => ?_)
  have C : pm_C g cX2_compile RX2 := C
  show pm_G g 0 [(0, .ref a0), (1, .ref p1)] [] h 0 0
  unfold fX2_compile at hf
  obtain ⟨n, hn⟩ := pm_lim_iter hf
  exact pa_start (pm_sub [0, 1] rfl ((lpX2_compile C X q n).1 a0 p1 h (pm_Le.rf h) hn))
