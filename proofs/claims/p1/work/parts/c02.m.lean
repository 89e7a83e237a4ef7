theorem dX1_init_0 : decode cX1_init 0 = .ok (.aload_n 0, 1) := by decide +kernel
theorem dX1_init_1 : decode cX1_init 1 = .ok (.invokespecial 3, 3) := by decide +kernel
theorem dX1_init_4 : decode cX1_init 4 = .ok (.aload_n 0, 1) := by decide +kernel
theorem dX1_init_5 : decode cX1_init 5 = .ok (.iconst 0, 1) := by decide +kernel
theorem dX1_init_6 : decode cX1_init 6 = .ok (.newarray .boolean, 2) := by decide +kernel
theorem dX1_init_8 : decode cX1_init 8 = .ok (.putfield 9, 3) := by decide +kernel
theorem dX1_init_11 : decode cX1_init 11 = .ok (.aload_n 0, 1) := by decide +kernel
theorem dX1_init_12 : decode cX1_init 12 = .ok (.sipush 1000, 3) := by decide +kernel
theorem dX1_init_15 : decode cX1_init 15 = .ok (.newarray .int, 2) := by decide +kernel
theorem dX1_init_17 : decode cX1_init 17 = .ok (.putfield 15, 3) := by decide +kernel
theorem dX1_init_20 : decode cX1_init 20 = .ok (.aload_n 0, 1) := by decide +kernel
theorem dX1_init_21 : decode cX1_init 21 = .ok (.sipush 1400, 3) := by decide +kernel
theorem dX1_init_24 : decode cX1_init 24 = .ok (.newarray .int, 2) := by decide +kernel
theorem dX1_init_26 : decode cX1_init 26 = .ok (.putfield 19, 3) := by decide +kernel
theorem dX1_init_29 : decode cX1_init 29 = .ok (.aload_n 0, 1) := by decide +kernel
theorem dX1_init_30 : decode cX1_init 30 = .ok (.sipush 1016, 3) := by decide +kernel
theorem dX1_init_33 : decode cX1_init 33 = .ok (.newarray .int, 2) := by decide +kernel
theorem dX1_init_35 : decode cX1_init 35 = .ok (.putfield 22, 3) := by decide +kernel
theorem dX1_init_38 : decode cX1_init 38 = .ok (.aload_n 0, 1) := by decide +kernel
theorem dX1_init_39 : decode cX1_init 39 = .ok (.sipush 2000, 3) := by decide +kernel
theorem dX1_init_42 : decode cX1_init 42 = .ok (.newarray .int, 2) := by decide +kernel
theorem dX1_init_44 : decode cX1_init 44 = .ok (.putfield 25, 3) := by decide +kernel
theorem dX1_init_47 : decode cX1_init 47 = .ok (.aload_n 0, 1) := by decide +kernel
theorem dX1_init_48 : decode cX1_init 48 = .ok (.bipush 16, 2) := by decide +kernel
theorem dX1_init_50 : decode cX1_init 50 = .ok (.newarray .int, 2) := by decide +kernel
theorem dX1_init_52 : decode cX1_init 52 = .ok (.putfield 28, 3) := by decide +kernel
theorem dX1_init_55 : decode cX1_init 55 = .ok (.aload_n 0, 1) := by decide +kernel
theorem dX1_init_56 : decode cX1_init 56 = .ok (.sipush 128, 3) := by decide +kernel
theorem dX1_init_59 : decode cX1_init 59 = .ok (.iconst 0, 1) := by decide +kernel
theorem dX1_init_60 : decode cX1_init 60 = .ok (.multianewarray 31 2, 4) := by decide +kernel
theorem dX1_init_64 : decode cX1_init 64 = .ok (.putfield 33, 3) := by decide +kernel
theorem dX1_init_67 : decode cX1_init 67 = .ok (.aload_n 0, 1) := by decide +kernel
theorem dX1_init_68 : decode cX1_init 68 = .ok (.aload_n 1, 1) := by decide +kernel
theorem dX1_init_69 : decode cX1_init 69 = .ok (.putfield 36, 3) := by decide +kernel
theorem dX1_init_72 : decode cX1_init 72 = .ok (.aload_n 0, 1) := by decide +kernel
theorem dX1_init_73 : decode cX1_init 73 = .ok (.aload_n 2, 1) := by decide +kernel
theorem dX1_init_74 : decode cX1_init 74 = .ok (.putfield 40, 3) := by decide +kernel
theorem dX1_init_77 : decode cX1_init 77 = .ok (.aload_n 0, 1) := by decide +kernel
theorem dX1_init_78 : decode cX1_init 78 = .ok (.new 44, 3) := by decide +kernel
theorem dX1_init_81 : decode cX1_init 81 = .ok (.dup, 1) := by decide +kernel
theorem dX1_init_82 : decode cX1_init 82 = .ok (.iconst 2, 1) := by decide +kernel
theorem dX1_init_83 : decode cX1_init 83 = .ok (.newarray .int, 2) := by decide +kernel
theorem dX1_init_85 : decode cX1_init 85 = .ok (.iconst 0, 1) := by decide +kernel
theorem dX1_init_86 : decode cX1_init 86 = .ok (.invokespecial 46, 3) := by decide +kernel
theorem dX1_init_89 : decode cX1_init 89 = .ok (.putfield 49, 3) := by decide +kernel
theorem dX1_init_92 : decode cX1_init 92 = .ok (.aload_n 0, 1) := by decide +kernel
theorem dX1_init_93 : decode cX1_init 93 = .ok (.getfield 33, 3) := by decide +kernel
theorem dX1_init_96 : decode cX1_init 96 = .ok (.bipush 64, 2) := by decide +kernel
theorem dX1_init_98 : decode cX1_init 98 = .ok (.iconst 2, 1) := by decide +kernel
theorem dX1_init_99 : decode cX1_init 99 = .ok (.newarray .int, 2) := by decide +kernel
theorem dX1_init_101 : decode cX1_init 101 = .ok (.aastore, 1) := by decide +kernel
theorem dX1_init_102 : decode cX1_init 102 = .ok (.bipush 111, 2) := by decide +kernel
theorem dX1_init_104 : decode cX1_init 104 = .ok (.istore_n 3, 1) := by decide +kernel
theorem dX1_init_105 : decode cX1_init 105 = .ok (.iload_n 3, 1) := by decide +kernel
theorem dX1_init_106 : decode cX1_init 106 = .ok (.bipush 127, 2) := by decide +kernel
theorem dX1_init_108 : decode cX1_init 108 = .ok (.if_icmp .gt 30, 3) := by decide +kernel
theorem dX1_init_111 : decode cX1_init 111 = .ok (.aload_n 0, 1) := by decide +kernel
theorem dX1_init_112 : decode cX1_init 112 = .ok (.getfield 33, 3) := by decide +kernel
theorem dX1_init_115 : decode cX1_init 115 = .ok (.iload_n 3, 1) := by decide +kernel
theorem dX1_init_116 : decode cX1_init 116 = .ok (.iconst 3, 1) := by decide +kernel
theorem dX1_init_117 : decode cX1_init 117 = .ok (.newarray .int, 2) := by decide +kernel
theorem dX1_init_119 : decode cX1_init 119 = .ok (.dup, 1) := by decide +kernel
theorem dX1_init_120 : decode cX1_init 120 = .ok (.iconst 0, 1) := by decide +kernel
theorem dX1_init_121 : decode cX1_init 121 = .ok (.iconst 0, 1) := by decide +kernel
theorem dX1_init_122 : decode cX1_init 122 = .ok (.iastore, 1) := by decide +kernel
theorem dX1_init_123 : decode cX1_init 123 = .ok (.dup, 1) := by decide +kernel
theorem dX1_init_124 : decode cX1_init 124 = .ok (.iconst 1, 1) := by decide +kernel
theorem dX1_init_125 : decode cX1_init 125 = .ok (.iconst 1, 1) := by decide +kernel
theorem dX1_init_126 : decode cX1_init 126 = .ok (.iastore, 1) := by decide +kernel
theorem dX1_init_127 : decode cX1_init 127 = .ok (.dup, 1) := by decide +kernel
theorem dX1_init_128 : decode cX1_init 128 = .ok (.iconst 2, 1) := by decide +kernel
theorem dX1_init_129 : decode cX1_init 129 = .ok (.iload_n 3, 1) := by decide +kernel
theorem dX1_init_130 : decode cX1_init 130 = .ok (.iastore, 1) := by decide +kernel
theorem dX1_init_131 : decode cX1_init 131 = .ok (.aastore, 1) := by decide +kernel
theorem dX1_init_132 : decode cX1_init 132 = .ok (.iinc 3 1, 3) := by decide +kernel
theorem dX1_init_135 : decode cX1_init 135 = .ok (.goto (-30), 3) := by decide +kernel
theorem dX1_init_138 : decode cX1_init 138 = .ok (.return_, 1) := by decide +kernel
def tX1_init_0 (x0 : Nat) (x1 : Nat) (x2 : Nat) (h : pm_H) : Option (((Nat × Nat × Nat × pm_H) ⊕ (Nat × Nat × Nat × Nat × Nat × pm_H) ⊕ (Nat × Nat × Nat × Nat × Nat × pm_H) ⊕ (Nat × Nat × Nat × Nat × Nat × pm_H) ⊕ (Nat × Nat × Nat × Nat × Nat × pm_H) ⊕ (Nat × Nat × Nat × Nat × Nat × pm_H) ⊕ (Nat × Nat × Nat × Nat × Nat × pm_H) ⊕ (Nat × Nat × Nat × Nat × Nat × pm_H) ⊕ (Nat × Nat × Nat × pm_H) ⊕ (Nat × Nat × Nat × Nat × Nat × pm_H) ⊕ (Nat × Nat × Nat × pm_H) ⊕ (Nat × Nat × Int32 × Nat × pm_H) ⊕ (Nat × Int32 × pm_H) ⊕ (Nat × Int32 × Nat × Int32 × Nat × pm_H)) ⊕ pm_H) := some (.inl (.inr (.inl ((x0, x1, x2, pm_sz h, x0, pm_new h 32 0)))))
def tX1_init_8 (x0 : Nat) (x1 : Nat) (x2 : Nat) (s0 : Nat) (s1 : Nat) (h : pm_H) : Option (((Nat × Nat × Nat × pm_H) ⊕ (Nat × Nat × Nat × Nat × Nat × pm_H) ⊕ (Nat × Nat × Nat × Nat × Nat × pm_H) ⊕ (Nat × Nat × Nat × Nat × Nat × pm_H) ⊕ (Nat × Nat × Nat × Nat × Nat × pm_H) ⊕ (Nat × Nat × Nat × Nat × Nat × pm_H) ⊕ (Nat × Nat × Nat × Nat × Nat × pm_H) ⊕ (Nat × Nat × Nat × Nat × Nat × pm_H) ⊕ (Nat × Nat × Nat × pm_H) ⊕ (Nat × Nat × Nat × Nat × Nat × pm_H) ⊕ (Nat × Nat × Nat × pm_H) ⊕ (Nat × Nat × Int32 × Nat × pm_H) ⊕ (Nat × Int32 × pm_H) ⊕ (Nat × Int32 × Nat × Int32 × Nat × pm_H)) ⊕ pm_H) := if pm_kd h s1 = 1 then some (.inl (.inr (.inr (.inl ((x0, x1, x2, pm_sz (pm_setR h s1 4 (some s0)), x0, pm_new (pm_setR h s1 4 (some s0)) 34 1000)))))) else none
def tX1_init_17 (x0 : Nat) (x1 : Nat) (x2 : Nat) (s0 : Nat) (s1 : Nat) (h : pm_H) : Option (((Nat × Nat × Nat × pm_H) ⊕ (Nat × Nat × Nat × Nat × Nat × pm_H) ⊕ (Nat × Nat × Nat × Nat × Nat × pm_H) ⊕ (Nat × Nat × Nat × Nat × Nat × pm_H) ⊕ (Nat × Nat × Nat × Nat × Nat × pm_H) ⊕ (Nat × Nat × Nat × Nat × Nat × pm_H) ⊕ (Nat × Nat × Nat × Nat × Nat × pm_H) ⊕ (Nat × Nat × Nat × Nat × Nat × pm_H) ⊕ (Nat × Nat × Nat × pm_H) ⊕ (Nat × Nat × Nat × Nat × Nat × pm_H) ⊕ (Nat × Nat × Nat × pm_H) ⊕ (Nat × Nat × Int32 × Nat × pm_H) ⊕ (Nat × Int32 × pm_H) ⊕ (Nat × Int32 × Nat × Int32 × Nat × pm_H)) ⊕ pm_H) := if pm_kd h s1 = 1 then some (.inl (.inr (.inr (.inr (.inl ((x0, x1, x2, pm_sz (pm_setR h s1 5 (some s0)), x0, pm_new (pm_setR h s1 5 (some s0)) 34 1400))))))) else none
def tX1_init_26 (x0 : Nat) (x1 : Nat) (x2 : Nat) (s0 : Nat) (s1 : Nat) (h : pm_H) : Option (((Nat × Nat × Nat × pm_H) ⊕ (Nat × Nat × Nat × Nat × Nat × pm_H) ⊕ (Nat × Nat × Nat × Nat × Nat × pm_H) ⊕ (Nat × Nat × Nat × Nat × Nat × pm_H) ⊕ (Nat × Nat × Nat × Nat × Nat × pm_H) ⊕ (Nat × Nat × Nat × Nat × Nat × pm_H) ⊕ (Nat × Nat × Nat × Nat × Nat × pm_H) ⊕ (Nat × Nat × Nat × Nat × Nat × pm_H) ⊕ (Nat × Nat × Nat × pm_H) ⊕ (Nat × Nat × Nat × Nat × Nat × pm_H) ⊕ (Nat × Nat × Nat × pm_H) ⊕ (Nat × Nat × Int32 × Nat × pm_H) ⊕ (Nat × Int32 × pm_H) ⊕ (Nat × Int32 × Nat × Int32 × Nat × pm_H)) ⊕ pm_H) := if pm_kd h s1 = 1 then some (.inl (.inr (.inr (.inr (.inr (.inl ((x0, x1, x2, pm_sz (pm_setR h s1 9 (some s0)), x0, pm_new (pm_setR h s1 9 (some s0)) 34 1016)))))))) else none
def tX1_init_35 (x0 : Nat) (x1 : Nat) (x2 : Nat) (s0 : Nat) (s1 : Nat) (h : pm_H) : Option (((Nat × Nat × Nat × pm_H) ⊕ (Nat × Nat × Nat × Nat × Nat × pm_H) ⊕ (Nat × Nat × Nat × Nat × Nat × pm_H) ⊕ (Nat × Nat × Nat × Nat × Nat × pm_H) ⊕ (Nat × Nat × Nat × Nat × Nat × pm_H) ⊕ (Nat × Nat × Nat × Nat × Nat × pm_H) ⊕ (Nat × Nat × Nat × Nat × Nat × pm_H) ⊕ (Nat × Nat × Nat × Nat × Nat × pm_H) ⊕ (Nat × Nat × Nat × pm_H) ⊕ (Nat × Nat × Nat × Nat × Nat × pm_H) ⊕ (Nat × Nat × Nat × pm_H) ⊕ (Nat × Nat × Int32 × Nat × pm_H) ⊕ (Nat × Int32 × pm_H) ⊕ (Nat × Int32 × Nat × Int32 × Nat × pm_H)) ⊕ pm_H) := if pm_kd h s1 = 1 then some (.inl (.inr (.inr (.inr (.inr (.inr (.inl ((x0, x1, x2, pm_sz (pm_setR h s1 11 (some s0)), x0, pm_new (pm_setR h s1 11 (some s0)) 34 2000))))))))) else none
def tX1_init_44 (x0 : Nat) (x1 : Nat) (x2 : Nat) (s0 : Nat) (s1 : Nat) (h : pm_H) : Option (((Nat × Nat × Nat × pm_H) ⊕ (Nat × Nat × Nat × Nat × Nat × pm_H) ⊕ (Nat × Nat × Nat × Nat × Nat × pm_H) ⊕ (Nat × Nat × Nat × Nat × Nat × pm_H) ⊕ (Nat × Nat × Nat × Nat × Nat × pm_H) ⊕ (Nat × Nat × Nat × Nat × Nat × pm_H) ⊕ (Nat × Nat × Nat × Nat × Nat × pm_H) ⊕ (Nat × Nat × Nat × Nat × Nat × pm_H) ⊕ (Nat × Nat × Nat × pm_H) ⊕ (Nat × Nat × Nat × Nat × Nat × pm_H) ⊕ (Nat × Nat × Nat × pm_H) ⊕ (Nat × Nat × Int32 × Nat × pm_H) ⊕ (Nat × Int32 × pm_H) ⊕ (Nat × Int32 × Nat × Int32 × Nat × pm_H)) ⊕ pm_H) := if pm_kd h s1 = 1 then some (.inl (.inr (.inr (.inr (.inr (.inr (.inr (.inl ((x0, x1, x2, pm_sz (pm_setR h s1 13 (some s0)), x0, pm_new (pm_setR h s1 13 (some s0)) 34 16)))))))))) else none
def tX1_init_52 (x0 : Nat) (x1 : Nat) (x2 : Nat) (s0 : Nat) (s1 : Nat) (h : pm_H) : Option (((Nat × Nat × Nat × pm_H) ⊕ (Nat × Nat × Nat × Nat × Nat × pm_H) ⊕ (Nat × Nat × Nat × Nat × Nat × pm_H) ⊕ (Nat × Nat × Nat × Nat × Nat × pm_H) ⊕ (Nat × Nat × Nat × Nat × Nat × pm_H) ⊕ (Nat × Nat × Nat × Nat × Nat × pm_H) ⊕ (Nat × Nat × Nat × Nat × Nat × pm_H) ⊕ (Nat × Nat × Nat × Nat × Nat × pm_H) ⊕ (Nat × Nat × Nat × pm_H) ⊕ (Nat × Nat × Nat × Nat × Nat × pm_H) ⊕ (Nat × Nat × Nat × pm_H) ⊕ (Nat × Nat × Int32 × Nat × pm_H) ⊕ (Nat × Int32 × pm_H) ⊕ (Nat × Int32 × Nat × Int32 × Nat × pm_H)) ⊕ pm_H) := if pm_kd h s1 = 1 then some (.inl (.inr (.inr (.inr (.inr (.inr (.inr (.inr (.inl ((x0, x1, x2, pm_sz (pm_setR h s1 15 (some s0)), x0, pm_ma (pm_setR h s1 15 (some s0)) 4 2 128 128))))))))))) else none
def tX1_init_64 (x0 : Nat) (x1 : Nat) (x2 : Nat) (s0 : Nat) (s1 : Nat) (h : pm_H) : Option (((Nat × Nat × Nat × pm_H) ⊕ (Nat × Nat × Nat × Nat × Nat × pm_H) ⊕ (Nat × Nat × Nat × Nat × Nat × pm_H) ⊕ (Nat × Nat × Nat × Nat × Nat × pm_H) ⊕ (Nat × Nat × Nat × Nat × Nat × pm_H) ⊕ (Nat × Nat × Nat × Nat × Nat × pm_H) ⊕ (Nat × Nat × Nat × Nat × Nat × pm_H) ⊕ (Nat × Nat × Nat × Nat × Nat × pm_H) ⊕ (Nat × Nat × Nat × pm_H) ⊕ (Nat × Nat × Nat × Nat × Nat × pm_H) ⊕ (Nat × Nat × Nat × pm_H) ⊕ (Nat × Nat × Int32 × Nat × pm_H) ⊕ (Nat × Int32 × pm_H) ⊕ (Nat × Int32 × Nat × Int32 × Nat × pm_H)) ⊕ pm_H) := if pm_kd h s1 = 1 then if pm_kd (pm_setR h s1 16 (some s0)) x0 = 1 then some (.inl (.inr (.inr (.inr (.inr (.inr (.inr (.inr (.inr (.inl ((x0, pm_sz (pm_setR (pm_setR (pm_setR h s1 16 (some s0)) x0 3 (some x1)) x0 2 (some x2)), x0, pm_new (pm_setR (pm_setR (pm_setR h s1 16 (some s0)) x0 3 (some x1)) x0 2 (some x2)) 0 0)))))))))))) else none else none
def tX1_init_81 (x0 : Nat) (s0 : Nat) (s1 : Nat) (h : pm_H) : Option (((Nat × Nat × Nat × pm_H) ⊕ (Nat × Nat × Nat × Nat × Nat × pm_H) ⊕ (Nat × Nat × Nat × Nat × Nat × pm_H) ⊕ (Nat × Nat × Nat × Nat × Nat × pm_H) ⊕ (Nat × Nat × Nat × Nat × Nat × pm_H) ⊕ (Nat × Nat × Nat × Nat × Nat × pm_H) ⊕ (Nat × Nat × Nat × Nat × Nat × pm_H) ⊕ (Nat × Nat × Nat × Nat × Nat × pm_H) ⊕ (Nat × Nat × Nat × pm_H) ⊕ (Nat × Nat × Nat × Nat × Nat × pm_H) ⊕ (Nat × Nat × Nat × pm_H) ⊕ (Nat × Nat × Int32 × Nat × pm_H) ⊕ (Nat × Int32 × pm_H) ⊕ (Nat × Int32 × Nat × Int32 × Nat × pm_H)) ⊕ pm_H) := some (.inl (.inr (.inr (.inr (.inr (.inr (.inr (.inr (.inr (.inr (.inl ((x0, pm_sz h, s0, s0, s1, pm_new h 34 2)))))))))))))
def tX1_init_85 (x0 : Nat) (s0 : Nat) (s1 : Nat) (s2 : Nat) (s3 : Nat) (h : pm_H) : Option (((Nat × Nat × Nat × pm_H) ⊕ (Nat × Nat × Nat × Nat × Nat × pm_H) ⊕ (Nat × Nat × Nat × Nat × Nat × pm_H) ⊕ (Nat × Nat × Nat × Nat × Nat × pm_H) ⊕ (Nat × Nat × Nat × Nat × Nat × pm_H) ⊕ (Nat × Nat × Nat × Nat × Nat × pm_H) ⊕ (Nat × Nat × Nat × Nat × Nat × pm_H) ⊕ (Nat × Nat × Nat × Nat × Nat × pm_H) ⊕ (Nat × Nat × Nat × pm_H) ⊕ (Nat × Nat × Nat × Nat × Nat × pm_H) ⊕ (Nat × Nat × Nat × pm_H) ⊕ (Nat × Nat × Int32 × Nat × pm_H) ⊕ (Nat × Int32 × pm_H) ⊕ (Nat × Int32 × Nat × Int32 × Nat × pm_H)) ⊕ pm_H) := (fX0_init h s1 s0 0).bind fun v9 => some (.inl (.inr (.inr (.inr (.inr (.inr (.inr (.inr (.inr (.inr (.inr (.inl ((x0, s2, s3, v9))))))))))))))
def tX1_init_89 (x0 : Nat) (s0 : Nat) (s1 : Nat) (h : pm_H) : Option (((Nat × Nat × Nat × pm_H) ⊕ (Nat × Nat × Nat × Nat × Nat × pm_H) ⊕ (Nat × Nat × Nat × Nat × Nat × pm_H) ⊕ (Nat × Nat × Nat × Nat × Nat × pm_H) ⊕ (Nat × Nat × Nat × Nat × Nat × pm_H) ⊕ (Nat × Nat × Nat × Nat × Nat × pm_H) ⊕ (Nat × Nat × Nat × Nat × Nat × pm_H) ⊕ (Nat × Nat × Nat × Nat × Nat × pm_H) ⊕ (Nat × Nat × Nat × pm_H) ⊕ (Nat × Nat × Nat × Nat × Nat × pm_H) ⊕ (Nat × Nat × Nat × pm_H) ⊕ (Nat × Nat × Int32 × Nat × pm_H) ⊕ (Nat × Int32 × pm_H) ⊕ (Nat × Int32 × Nat × Int32 × Nat × pm_H)) ⊕ pm_H) := if pm_kd h s1 = 1 then if pm_kd (pm_setR h s1 17 (some s0)) x0 = 1 then (pm_R (pm_setR h s1 17 (some s0)) x0 16).bind fun v13 => some (.inl (.inr (.inr (.inr (.inr (.inr (.inr (.inr (.inr (.inr (.inr (.inr (.inl ((x0, pm_sz (pm_setR h s1 17 (some s0)), 64, v13, pm_new (pm_setR h s1 17 (some s0)) 34 2))))))))))))))) else none else none
def tX1_init_101 (x0 : Nat) (s0 : Nat) (s1 : Int32) (s2 : Nat) (h : pm_H) : Option (((Nat × Nat × Nat × pm_H) ⊕ (Nat × Nat × Nat × Nat × Nat × pm_H) ⊕ (Nat × Nat × Nat × Nat × Nat × pm_H) ⊕ (Nat × Nat × Nat × Nat × Nat × pm_H) ⊕ (Nat × Nat × Nat × Nat × Nat × pm_H) ⊕ (Nat × Nat × Nat × Nat × Nat × pm_H) ⊕ (Nat × Nat × Nat × Nat × Nat × pm_H) ⊕ (Nat × Nat × Nat × Nat × Nat × pm_H) ⊕ (Nat × Nat × Nat × pm_H) ⊕ (Nat × Nat × Nat × Nat × Nat × pm_H) ⊕ (Nat × Nat × Nat × pm_H) ⊕ (Nat × Nat × Int32 × Nat × pm_H) ⊕ (Nat × Int32 × pm_H) ⊕ (Nat × Int32 × Nat × Int32 × Nat × pm_H)) ⊕ pm_H) := if pm_kd h s2 = 36 then if pm_kd h s0 = 34 then if pm_in s1 (pm_ln h s2) then some (.inl (.inr (.inr (.inr (.inr (.inr (.inr (.inr (.inr (.inr (.inr (.inr (.inr (.inl ((x0, 111, pm_setR h s2 s1.toNatClampNeg (some s0))))))))))))))))) else none else none else none
def tX1_init_105 (x0 : Nat) (x3 : Int32) (h : pm_H) : Option (((Nat × Nat × Nat × pm_H) ⊕ (Nat × Nat × Nat × Nat × Nat × pm_H) ⊕ (Nat × Nat × Nat × Nat × Nat × pm_H) ⊕ (Nat × Nat × Nat × Nat × Nat × pm_H) ⊕ (Nat × Nat × Nat × Nat × Nat × pm_H) ⊕ (Nat × Nat × Nat × Nat × Nat × pm_H) ⊕ (Nat × Nat × Nat × Nat × Nat × pm_H) ⊕ (Nat × Nat × Nat × Nat × Nat × pm_H) ⊕ (Nat × Nat × Nat × pm_H) ⊕ (Nat × Nat × Nat × Nat × Nat × pm_H) ⊕ (Nat × Nat × Nat × pm_H) ⊕ (Nat × Nat × Int32 × Nat × pm_H) ⊕ (Nat × Int32 × pm_H) ⊕ (Nat × Int32 × Nat × Int32 × Nat × pm_H)) ⊕ pm_H) := if 127 < x3 then (some (.inr (h))) else (if pm_kd h x0 = 1 then (pm_R h x0 16).bind fun v20 => some (.inl (.inr (.inr (.inr (.inr (.inr (.inr (.inr (.inr (.inr (.inr (.inr (.inr (.inr ((x0, x3, pm_sz h, x3, v20, pm_new h 34 3)))))))))))))))) else none)
def tX1_init_119 (x0 : Nat) (x3 : Int32) (s0 : Nat) (s1 : Int32) (s2 : Nat) (h : pm_H) : Option (((Nat × Nat × Nat × pm_H) ⊕ (Nat × Nat × Nat × Nat × Nat × pm_H) ⊕ (Nat × Nat × Nat × Nat × Nat × pm_H) ⊕ (Nat × Nat × Nat × Nat × Nat × pm_H) ⊕ (Nat × Nat × Nat × Nat × Nat × pm_H) ⊕ (Nat × Nat × Nat × Nat × Nat × pm_H) ⊕ (Nat × Nat × Nat × Nat × Nat × pm_H) ⊕ (Nat × Nat × Nat × Nat × Nat × pm_H) ⊕ (Nat × Nat × Nat × pm_H) ⊕ (Nat × Nat × Nat × Nat × Nat × pm_H) ⊕ (Nat × Nat × Nat × pm_H) ⊕ (Nat × Nat × Int32 × Nat × pm_H) ⊕ (Nat × Int32 × pm_H) ⊕ (Nat × Int32 × Nat × Int32 × Nat × pm_H)) ⊕ pm_H) := if pm_kd h s0 = 34 then if pm_in 0 (pm_ln h s0) then if pm_in 1 (pm_ln (pm_setI h s0 ((0 : Int32).toNatClampNeg) 0) s0) then if pm_in 2 (pm_ln (pm_setI (pm_setI h s0 ((0 : Int32).toNatClampNeg) 0) s0 ((1 : Int32).toNatClampNeg) 1) s0) then if pm_kd (pm_setI (pm_setI (pm_setI h s0 ((0 : Int32).toNatClampNeg) 0) s0 ((1 : Int32).toNatClampNeg) 1) s0 ((2 : Int32).toNatClampNeg) x3) s2 = 36 then if pm_in s1 (pm_ln (pm_setI (pm_setI (pm_setI h s0 ((0 : Int32).toNatClampNeg) 0) s0 ((1 : Int32).toNatClampNeg) 1) s0 ((2 : Int32).toNatClampNeg) x3) s2) then pm_let (x3 + 1) fun y28 => some (.inl (.inr (.inr (.inr (.inr (.inr (.inr (.inr (.inr (.inr (.inr (.inr (.inr (.inl ((x0, y28, pm_setR (pm_setI (pm_setI (pm_setI h s0 ((0 : Int32).toNatClampNeg) 0) s0 ((1 : Int32).toNatClampNeg) 1) s0 ((2 : Int32).toNatClampNeg) x3) s2 s1.toNatClampNeg (some s0))))))))))))))))) else none else none else none else none else none else none
def sX1_init : ((Nat × Nat × Nat × pm_H) ⊕ (Nat × Nat × Nat × Nat × Nat × pm_H) ⊕ (Nat × Nat × Nat × Nat × Nat × pm_H) ⊕ (Nat × Nat × Nat × Nat × Nat × pm_H) ⊕ (Nat × Nat × Nat × Nat × Nat × pm_H) ⊕ (Nat × Nat × Nat × Nat × Nat × pm_H) ⊕ (Nat × Nat × Nat × Nat × Nat × pm_H) ⊕ (Nat × Nat × Nat × Nat × Nat × pm_H) ⊕ (Nat × Nat × Nat × pm_H) ⊕ (Nat × Nat × Nat × Nat × Nat × pm_H) ⊕ (Nat × Nat × Nat × pm_H) ⊕ (Nat × Nat × Int32 × Nat × pm_H) ⊕ (Nat × Int32 × pm_H) ⊕ (Nat × Int32 × Nat × Int32 × Nat × pm_H)) → Option (((Nat × Nat × Nat × pm_H) ⊕ (Nat × Nat × Nat × Nat × Nat × pm_H) ⊕ (Nat × Nat × Nat × Nat × Nat × pm_H) ⊕ (Nat × Nat × Nat × Nat × Nat × pm_H) ⊕ (Nat × Nat × Nat × Nat × Nat × pm_H) ⊕ (Nat × Nat × Nat × Nat × Nat × pm_H) ⊕ (Nat × Nat × Nat × Nat × Nat × pm_H) ⊕ (Nat × Nat × Nat × Nat × Nat × pm_H) ⊕ (Nat × Nat × Nat × pm_H) ⊕ (Nat × Nat × Nat × Nat × Nat × pm_H) ⊕ (Nat × Nat × Nat × pm_H) ⊕ (Nat × Nat × Int32 × Nat × pm_H) ⊕ (Nat × Int32 × pm_H) ⊕ (Nat × Int32 × Nat × Int32 × Nat × pm_H)) ⊕ pm_H) := fun z => match z with
  | .inl (x0, x1, x2, h) => tX1_init_0 x0 x1 x2 h
  | .inr (.inl (x0, x1, x2, s0, s1, h)) => tX1_init_8 x0 x1 x2 s0 s1 h
  | .inr (.inr (.inl (x0, x1, x2, s0, s1, h))) => tX1_init_17 x0 x1 x2 s0 s1 h
  | .inr (.inr (.inr (.inl (x0, x1, x2, s0, s1, h)))) => tX1_init_26 x0 x1 x2 s0 s1 h
  | .inr (.inr (.inr (.inr (.inl (x0, x1, x2, s0, s1, h))))) => tX1_init_35 x0 x1 x2 s0 s1 h
  | .inr (.inr (.inr (.inr (.inr (.inl (x0, x1, x2, s0, s1, h)))))) => tX1_init_44 x0 x1 x2 s0 s1 h
  | .inr (.inr (.inr (.inr (.inr (.inr (.inl (x0, x1, x2, s0, s1, h))))))) => tX1_init_52 x0 x1 x2 s0 s1 h
  | .inr (.inr (.inr (.inr (.inr (.inr (.inr (.inl (x0, x1, x2, s0, s1, h)))))))) => tX1_init_64 x0 x1 x2 s0 s1 h
  | .inr (.inr (.inr (.inr (.inr (.inr (.inr (.inr (.inl (x0, s0, s1, h))))))))) => tX1_init_81 x0 s0 s1 h
  | .inr (.inr (.inr (.inr (.inr (.inr (.inr (.inr (.inr (.inl (x0, s0, s1, s2, s3, h)))))))))) => tX1_init_85 x0 s0 s1 s2 s3 h
  | .inr (.inr (.inr (.inr (.inr (.inr (.inr (.inr (.inr (.inr (.inl (x0, s0, s1, h))))))))))) => tX1_init_89 x0 s0 s1 h
  | .inr (.inr (.inr (.inr (.inr (.inr (.inr (.inr (.inr (.inr (.inr (.inl (x0, s0, s1, s2, h)))))))))))) => tX1_init_101 x0 s0 s1 s2 h
  | .inr (.inr (.inr (.inr (.inr (.inr (.inr (.inr (.inr (.inr (.inr (.inr (.inl (x0, x3, h))))))))))))) => tX1_init_105 x0 x3 h
  | .inr (.inr (.inr (.inr (.inr (.inr (.inr (.inr (.inr (.inr (.inr (.inr (.inr (x0, x3, s0, s1, s2, h))))))))))))) => tX1_init_119 x0 x3 s0 s1 s2 h
noncomputable def fX1_init (h : pm_H) (a0 : Nat) (p1 : Nat) (p2 : Nat) : Option pm_H := pm_lim sX1_init (.inl ((a0, p1, p2, h)))
set_option maxHeartbeats 4000000 in
set_option maxRecDepth 100000 in
theorem mlX1_init {r : pm_H} : ∀ n : Nat, (∀ (x0 : Nat) (x1 : Nat) (x2 : Nat) (h : pm_H), pm_iter sX1_init n (.inl (x0, x1, x2, h)) = some r → pm_Le h r) ∧ (∀ (x0 : Nat) (x1 : Nat) (x2 : Nat) (s0 : Nat) (s1 : Nat) (h : pm_H), pm_iter sX1_init n (.inr (.inl (x0, x1, x2, s0, s1, h))) = some r → pm_Le h r) ∧ (∀ (x0 : Nat) (x1 : Nat) (x2 : Nat) (s0 : Nat) (s1 : Nat) (h : pm_H), pm_iter sX1_init n (.inr (.inr (.inl (x0, x1, x2, s0, s1, h)))) = some r → pm_Le h r) ∧ (∀ (x0 : Nat) (x1 : Nat) (x2 : Nat) (s0 : Nat) (s1 : Nat) (h : pm_H), pm_iter sX1_init n (.inr (.inr (.inr (.inl (x0, x1, x2, s0, s1, h))))) = some r → pm_Le h r) ∧ (∀ (x0 : Nat) (x1 : Nat) (x2 : Nat) (s0 : Nat) (s1 : Nat) (h : pm_H), pm_iter sX1_init n (.inr (.inr (.inr (.inr (.inl (x0, x1, x2, s0, s1, h)))))) = some r → pm_Le h r) ∧ (∀ (x0 : Nat) (x1 : Nat) (x2 : Nat) (s0 : Nat) (s1 : Nat) (h : pm_H), pm_iter sX1_init n (.inr (.inr (.inr (.inr (.inr (.inl (x0, x1, x2, s0, s1, h))))))) = some r → pm_Le h r) ∧ (∀ (x0 : Nat) (x1 : Nat) (x2 : Nat) (s0 : Nat) (s1 : Nat) (h : pm_H), pm_iter sX1_init n (.inr (.inr (.inr (.inr (.inr (.inr (.inl (x0, x1, x2, s0, s1, h)))))))) = some r → pm_Le h r) ∧ (∀ (x0 : Nat) (x1 : Nat) (x2 : Nat) (s0 : Nat) (s1 : Nat) (h : pm_H), pm_iter sX1_init n (.inr (.inr (.inr (.inr (.inr (.inr (.inr (.inl (x0, x1, x2, s0, s1, h))))))))) = some r → pm_Le h r) ∧ (∀ (x0 : Nat) (s0 : Nat) (s1 : Nat) (h : pm_H), pm_iter sX1_init n (.inr (.inr (.inr (.inr (.inr (.inr (.inr (.inr (.inl (x0, s0, s1, h)))))))))) = some r → pm_Le h r) ∧ (∀ (x0 : Nat) (s0 : Nat) (s1 : Nat) (s2 : Nat) (s3 : Nat) (h : pm_H), pm_iter sX1_init n (.inr (.inr (.inr (.inr (.inr (.inr (.inr (.inr (.inr (.inl (x0, s0, s1, s2, s3, h))))))))))) = some r → pm_Le h r) ∧ (∀ (x0 : Nat) (s0 : Nat) (s1 : Nat) (h : pm_H), pm_iter sX1_init n (.inr (.inr (.inr (.inr (.inr (.inr (.inr (.inr (.inr (.inr (.inl (x0, s0, s1, h)))))))))))) = some r → pm_Le h r) ∧ (∀ (x0 : Nat) (s0 : Nat) (s1 : Int32) (s2 : Nat) (h : pm_H), pm_iter sX1_init n (.inr (.inr (.inr (.inr (.inr (.inr (.inr (.inr (.inr (.inr (.inr (.inl (x0, s0, s1, s2, h))))))))))))) = some r → pm_Le h r) ∧ (∀ (x0 : Nat) (x3 : Int32) (h : pm_H), pm_iter sX1_init n (.inr (.inr (.inr (.inr (.inr (.inr (.inr (.inr (.inr (.inr (.inr (.inr (.inl (x0, x3, h)))))))))))))) = some r → pm_Le h r) ∧ (∀ (x0 : Nat) (x3 : Int32) (s0 : Nat) (s1 : Int32) (s2 : Nat) (h : pm_H), pm_iter sX1_init n (.inr (.inr (.inr (.inr (.inr (.inr (.inr (.inr (.inr (.inr (.inr (.inr (.inr (x0, x3, s0, s1, s2, h)))))))))))))) = some r → pm_Le h r) := by
  intro n
  induction n with
  | zero => exact ⟨fun _ _ _ _ hf => (by cases hf), fun _ _ _ _ _ _ hf => (by cases hf), fun _ _ _ _ _ _ hf => (by cases hf), fun _ _ _ _ _ _ hf => (by cases hf), fun _ _ _ _ _ _ hf => (by cases hf), fun _ _ _ _ _ _ hf => (by cases hf), fun _ _ _ _ _ _ hf => (by cases hf), fun _ _ _ _ _ _ hf => (by cases hf), fun _ _ _ _ hf => (by cases hf), fun _ _ _ _ _ _ hf => (by cases hf), fun _ _ _ _ hf => (by cases hf), fun _ _ _ _ _ hf => (by cases hf), fun _ _ _ hf => (by cases hf), fun _ _ _ _ _ _ hf => (by cases hf)⟩
  | succ n ih =>
    refine ⟨fun x0 x1 x2 h hf => ?_, ?_⟩
    · obtain ⟨y, hf, hi⟩ := pm_iter_s hf
      have hf : tX1_init_0 x0 x1 x2 h = some y := hf
      unfold tX1_init_0 at hf
      have K0 := pm_S3.rf h
      cases hf
      exact ((pm_S3.le K0).trans (pm_Le_new _ _ _)).trans (ih.2.1 x0 x1 x2 (pm_sz h) x0 (pm_new h 32 0) hi)
    refine ⟨fun x0 x1 x2 s0 s1 h hf => ?_, ?_⟩
    · obtain ⟨y, hf, hi⟩ := pm_iter_s hf
      have hf : tX1_init_8 x0 x1 x2 s0 s1 h = some y := hf
      unfold tX1_init_8 at hf
      have K0 := pm_S3.rf h
      obtain ⟨k1, hf⟩ := pm_if hf
      cases hf
      exact ((pm_S3.le (pm_S3R K0)).trans (pm_Le_new _ _ _)).trans (ih.2.2.1 x0 x1 x2 (pm_sz (pm_setR h s1 4 (some s0))) x0 (pm_new (pm_setR h s1 4 (some s0)) 34 1000) hi)
    refine ⟨fun x0 x1 x2 s0 s1 h hf => ?_, ?_⟩
    · obtain ⟨y, hf, hi⟩ := pm_iter_s hf
      have hf : tX1_init_17 x0 x1 x2 s0 s1 h = some y := hf
      unfold tX1_init_17 at hf
      have K0 := pm_S3.rf h
      obtain ⟨k2, hf⟩ := pm_if hf
      cases hf
      exact ((pm_S3.le (pm_S3R K0)).trans (pm_Le_new _ _ _)).trans (ih.2.2.2.1 x0 x1 x2 (pm_sz (pm_setR h s1 5 (some s0))) x0 (pm_new (pm_setR h s1 5 (some s0)) 34 1400) hi)
    refine ⟨fun x0 x1 x2 s0 s1 h hf => ?_, ?_⟩
    · obtain ⟨y, hf, hi⟩ := pm_iter_s hf
      have hf : tX1_init_26 x0 x1 x2 s0 s1 h = some y := hf
      unfold tX1_init_26 at hf
      have K0 := pm_S3.rf h
      obtain ⟨k3, hf⟩ := pm_if hf
      cases hf
      exact ((pm_S3.le (pm_S3R K0)).trans (pm_Le_new _ _ _)).trans (ih.2.2.2.2.1 x0 x1 x2 (pm_sz (pm_setR h s1 9 (some s0))) x0 (pm_new (pm_setR h s1 9 (some s0)) 34 1016) hi)
    refine ⟨fun x0 x1 x2 s0 s1 h hf => ?_, ?_⟩
    · obtain ⟨y, hf, hi⟩ := pm_iter_s hf
      have hf : tX1_init_35 x0 x1 x2 s0 s1 h = some y := hf
      unfold tX1_init_35 at hf
      have K0 := pm_S3.rf h
      obtain ⟨k4, hf⟩ := pm_if hf
      cases hf
      exact ((pm_S3.le (pm_S3R K0)).trans (pm_Le_new _ _ _)).trans (ih.2.2.2.2.2.1 x0 x1 x2 (pm_sz (pm_setR h s1 11 (some s0))) x0 (pm_new (pm_setR h s1 11 (some s0)) 34 2000) hi)
    refine ⟨fun x0 x1 x2 s0 s1 h hf => ?_, ?_⟩
    · obtain ⟨y, hf, hi⟩ := pm_iter_s hf
      have hf : tX1_init_44 x0 x1 x2 s0 s1 h = some y := hf
      unfold tX1_init_44 at hf
      have K0 := pm_S3.rf h
      obtain ⟨k5, hf⟩ := pm_if hf
      cases hf
      exact ((pm_S3.le (pm_S3R K0)).trans (pm_Le_new _ _ _)).trans (ih.2.2.2.2.2.2.1 x0 x1 x2 (pm_sz (pm_setR h s1 13 (some s0))) x0 (pm_new (pm_setR h s1 13 (some s0)) 34 16) hi)
    refine ⟨fun x0 x1 x2 s0 s1 h hf => ?_, ?_⟩
    · obtain ⟨y, hf, hi⟩ := pm_iter_s hf
      have hf : tX1_init_52 x0 x1 x2 s0 s1 h = some y := hf
      unfold tX1_init_52 at hf
      have K0 := pm_S3.rf h
      obtain ⟨k6, hf⟩ := pm_if hf
      cases hf
      exact ((pm_S3.le (pm_S3R K0)).trans (pm_Le_ma _ _ _ _ _)).trans (ih.2.2.2.2.2.2.2.1 x0 x1 x2 (pm_sz (pm_setR h s1 15 (some s0))) x0 (pm_ma (pm_setR h s1 15 (some s0)) 4 2 128 128) hi)
    refine ⟨fun x0 x1 x2 s0 s1 h hf => ?_, ?_⟩
    · obtain ⟨y, hf, hi⟩ := pm_iter_s hf
      have hf : tX1_init_64 x0 x1 x2 s0 s1 h = some y := hf
      unfold tX1_init_64 at hf
      have K0 := pm_S3.rf h
      obtain ⟨k7, hf⟩ := pm_if hf
      obtain ⟨k8, hf⟩ := pm_if hf
      cases hf
      exact ((pm_S3.le (pm_S3R (pm_S3R (pm_S3R K0)))).trans (pm_Le_new _ _ _)).trans (ih.2.2.2.2.2.2.2.2.1 x0 (pm_sz (pm_setR (pm_setR (pm_setR h s1 16 (some s0)) x0 3 (some x1)) x0 2 (some x2))) x0 (pm_new (pm_setR (pm_setR (pm_setR h s1 16 (some s0)) x0 3 (some x1)) x0 2 (some x2)) 0 0) hi)
    refine ⟨fun x0 s0 s1 h hf => ?_, ?_⟩
    · obtain ⟨y, hf, hi⟩ := pm_iter_s hf
      have hf : tX1_init_81 x0 s0 s1 h = some y := hf
      unfold tX1_init_81 at hf
      have K0 := pm_S3.rf h
      cases hf
      exact ((pm_S3.le K0).trans (pm_Le_new _ _ _)).trans (ih.2.2.2.2.2.2.2.2.2.1 x0 (pm_sz h) s0 s0 s1 (pm_new h 34 2) hi)
    refine ⟨fun x0 s0 s1 s2 s3 h hf => ?_, ?_⟩
    · obtain ⟨y, hf, hi⟩ := pm_iter_s hf
      have hf : tX1_init_85 x0 s0 s1 s2 s3 h = some y := hf
      unfold tX1_init_85 at hf
      have K0 := pm_S3.rf h
      obtain ⟨v9, e10, hf⟩ := pm_bd hf
      cases hf
      exact ((pm_S3.le K0).trans (moX0_init e10)).trans (ih.2.2.2.2.2.2.2.2.2.2.1 x0 s2 s3 v9 hi)
    refine ⟨fun x0 s0 s1 h hf => ?_, ?_⟩
    · obtain ⟨y, hf, hi⟩ := pm_iter_s hf
      have hf : tX1_init_89 x0 s0 s1 h = some y := hf
      unfold tX1_init_89 at hf
      have K0 := pm_S3.rf h
      obtain ⟨k11, hf⟩ := pm_if hf
      obtain ⟨k12, hf⟩ := pm_if hf
      obtain ⟨v13, e14, hf⟩ := pm_bd hf
      cases hf
      exact ((pm_S3.le (pm_S3R K0)).trans (pm_Le_new _ _ _)).trans (ih.2.2.2.2.2.2.2.2.2.2.2.1 x0 (pm_sz (pm_setR h s1 17 (some s0))) 64 v13 (pm_new (pm_setR h s1 17 (some s0)) 34 2) hi)
    refine ⟨fun x0 s0 s1 s2 h hf => ?_, ?_⟩
    · obtain ⟨y, hf, hi⟩ := pm_iter_s hf
      have hf : tX1_init_101 x0 s0 s1 s2 h = some y := hf
      unfold tX1_init_101 at hf
      have K0 := pm_S3.rf h
      obtain ⟨k15, hf⟩ := pm_if hf
      obtain ⟨k16, hf⟩ := pm_if hf
      obtain ⟨u17, hf⟩ := pm_if hf
      cases hf
      exact (pm_S3.le (pm_S3R K0)).trans (ih.2.2.2.2.2.2.2.2.2.2.2.2.1 x0 111 (pm_setR h s2 s1.toNatClampNeg (some s0)) hi)
    refine ⟨fun x0 x3 h hf => ?_, ?_⟩
    · obtain ⟨y, hf, hi⟩ := pm_iter_s hf
      have hf : tX1_init_105 x0 x3 h = some y := hf
      unfold tX1_init_105 at hf
      have K0 := pm_S3.rf h
      by_cases c18 : 127 < x3
      · have hf := pm_it hf c18
        have hf := Option.some.inj hf
        subst hf
        have hi := Option.some.inj (show some _ = some r from hi)
        subst hi
        exact pm_S3.le K0
      · have hf := pm_ie hf c18
        obtain ⟨k19, hf⟩ := pm_if hf
        obtain ⟨v20, e21, hf⟩ := pm_bd hf
        cases hf
        exact ((pm_S3.le K0).trans (pm_Le_new _ _ _)).trans (ih.2.2.2.2.2.2.2.2.2.2.2.2.2 x0 x3 (pm_sz h) x3 v20 (pm_new h 34 3) hi)
    refine fun x0 x3 s0 s1 s2 h hf => ?_
    obtain ⟨y, hf, hi⟩ := pm_iter_s hf
    have hf : tX1_init_119 x0 x3 s0 s1 s2 h = some y := hf
    unfold tX1_init_119 at hf
    have K0 := pm_S3.rf h
    obtain ⟨k22, hf⟩ := pm_if hf
    obtain ⟨u23, hf⟩ := pm_if hf
    obtain ⟨u24, hf⟩ := pm_if hf
    obtain ⟨u25, hf⟩ := pm_if hf
    obtain ⟨k26, hf⟩ := pm_if hf
    obtain ⟨u27, hf⟩ := pm_if hf
    obtain ⟨y28, e29, hf⟩ := pm_lt hf
    cases hf
    exact (pm_S3.le (pm_S3R (pm_S3I (pm_S3I (pm_S3I K0))))).trans (ih.2.2.2.2.2.2.2.2.2.2.2.2.1 x0 y28 (pm_setR (pm_setI (pm_setI (pm_setI h s0 ((0 : Int32).toNatClampNeg) 0) s0 ((1 : Int32).toNatClampNeg) 1) s0 ((2 : Int32).toNatClampNeg) x3) s2 s1.toNatClampNeg (some s0)) hi)
set_option maxHeartbeats 4000000 in
set_option maxRecDepth 100000 in
theorem moX1_init {h : pm_H} {a0 : Nat} {p1 : Nat} {p2 : Nat} {r : pm_H} (hf : fX1_init h a0 p1 p2 = some r) : pm_Le h r := by
  unfold fX1_init at hf
  have K0 := pm_S3.rf h
  obtain ⟨n, hn⟩ := pm_lim_iter hf
  exact (mlX1_init n).1 a0 p1 p2 h hn
set_option maxHeartbeats 4000000 in
set_option maxRecDepth 100000 in
theorem lpX1_init {g : pm_Gm} {l : Launch} {G : pm_Gl} {Qr : Option Value → pm_H → Prop} (C : pm_C g cX1_init RX1) {h0 : pm_H} {r : pm_H} (X : pm_X g l G mX1_init (pm_sz r - pm_sz h0) (pm_us r - pm_us h0) Qr) (q : Qr none r) (nm : g.2.2.2.2.2.2.2.2.1.name = "<init>") : ∀ n : Nat, (∀ (x0 : Nat) (x1 : Nat) (x2 : Nat) (h : pm_H), pm_Le h0 h → pm_iter sX1_init n (.inl (x0, x1, x2, h)) = some r → pm_G g 0 [(0, .ref x0), (1, .ref x1), (2, .ref x2)] [] h (pm_sz h - pm_sz h0) (pm_us h - pm_us h0)) ∧ (∀ (x0 : Nat) (x1 : Nat) (x2 : Nat) (s0 : Nat) (s1 : Nat) (h : pm_H), pm_Le h0 h → pm_iter sX1_init n (.inr (.inl (x0, x1, x2, s0, s1, h))) = some r → pm_G g 8 [(0, .ref x0), (1, .ref x1), (2, .ref x2)] [.ref s0, .ref s1] h (pm_sz h - pm_sz h0) (pm_us h - pm_us h0)) ∧ (∀ (x0 : Nat) (x1 : Nat) (x2 : Nat) (s0 : Nat) (s1 : Nat) (h : pm_H), pm_Le h0 h → pm_iter sX1_init n (.inr (.inr (.inl (x0, x1, x2, s0, s1, h)))) = some r → pm_G g 17 [(0, .ref x0), (1, .ref x1), (2, .ref x2)] [.ref s0, .ref s1] h (pm_sz h - pm_sz h0) (pm_us h - pm_us h0)) ∧ (∀ (x0 : Nat) (x1 : Nat) (x2 : Nat) (s0 : Nat) (s1 : Nat) (h : pm_H), pm_Le h0 h → pm_iter sX1_init n (.inr (.inr (.inr (.inl (x0, x1, x2, s0, s1, h))))) = some r → pm_G g 26 [(0, .ref x0), (1, .ref x1), (2, .ref x2)] [.ref s0, .ref s1] h (pm_sz h - pm_sz h0) (pm_us h - pm_us h0)) ∧ (∀ (x0 : Nat) (x1 : Nat) (x2 : Nat) (s0 : Nat) (s1 : Nat) (h : pm_H), pm_Le h0 h → pm_iter sX1_init n (.inr (.inr (.inr (.inr (.inl (x0, x1, x2, s0, s1, h)))))) = some r → pm_G g 35 [(0, .ref x0), (1, .ref x1), (2, .ref x2)] [.ref s0, .ref s1] h (pm_sz h - pm_sz h0) (pm_us h - pm_us h0)) ∧ (∀ (x0 : Nat) (x1 : Nat) (x2 : Nat) (s0 : Nat) (s1 : Nat) (h : pm_H), pm_Le h0 h → pm_iter sX1_init n (.inr (.inr (.inr (.inr (.inr (.inl (x0, x1, x2, s0, s1, h))))))) = some r → pm_G g 44 [(0, .ref x0), (1, .ref x1), (2, .ref x2)] [.ref s0, .ref s1] h (pm_sz h - pm_sz h0) (pm_us h - pm_us h0)) ∧ (∀ (x0 : Nat) (x1 : Nat) (x2 : Nat) (s0 : Nat) (s1 : Nat) (h : pm_H), pm_Le h0 h → pm_iter sX1_init n (.inr (.inr (.inr (.inr (.inr (.inr (.inl (x0, x1, x2, s0, s1, h)))))))) = some r → pm_G g 52 [(0, .ref x0), (1, .ref x1), (2, .ref x2)] [.ref s0, .ref s1] h (pm_sz h - pm_sz h0) (pm_us h - pm_us h0)) ∧ (∀ (x0 : Nat) (x1 : Nat) (x2 : Nat) (s0 : Nat) (s1 : Nat) (h : pm_H), pm_Le h0 h → pm_iter sX1_init n (.inr (.inr (.inr (.inr (.inr (.inr (.inr (.inl (x0, x1, x2, s0, s1, h))))))))) = some r → pm_G g 64 [(0, .ref x0), (1, .ref x1), (2, .ref x2)] [.ref s0, .ref s1] h (pm_sz h - pm_sz h0) (pm_us h - pm_us h0)) ∧ (∀ (x0 : Nat) (s0 : Nat) (s1 : Nat) (h : pm_H), pm_Le h0 h → pm_iter sX1_init n (.inr (.inr (.inr (.inr (.inr (.inr (.inr (.inr (.inl (x0, s0, s1, h)))))))))) = some r → pm_G g 81 [(0, .ref x0)] [.ref s0, .ref s1] h (pm_sz h - pm_sz h0) (pm_us h - pm_us h0)) ∧ (∀ (x0 : Nat) (s0 : Nat) (s1 : Nat) (s2 : Nat) (s3 : Nat) (h : pm_H), pm_Le h0 h → pm_iter sX1_init n (.inr (.inr (.inr (.inr (.inr (.inr (.inr (.inr (.inr (.inl (x0, s0, s1, s2, s3, h))))))))))) = some r → pm_G g 85 [(0, .ref x0)] [.ref s0, .ref s1, .ref s2, .ref s3] h (pm_sz h - pm_sz h0) (pm_us h - pm_us h0)) ∧ (∀ (x0 : Nat) (s0 : Nat) (s1 : Nat) (h : pm_H), pm_Le h0 h → pm_iter sX1_init n (.inr (.inr (.inr (.inr (.inr (.inr (.inr (.inr (.inr (.inr (.inl (x0, s0, s1, h)))))))))))) = some r → pm_G g 89 [(0, .ref x0)] [.ref s0, .ref s1] h (pm_sz h - pm_sz h0) (pm_us h - pm_us h0)) ∧ (∀ (x0 : Nat) (s0 : Nat) (s1 : Int32) (s2 : Nat) (h : pm_H), pm_Le h0 h → pm_iter sX1_init n (.inr (.inr (.inr (.inr (.inr (.inr (.inr (.inr (.inr (.inr (.inr (.inl (x0, s0, s1, s2, h))))))))))))) = some r → pm_G g 101 [(0, .ref x0)] [.ref s0, .int s1, .ref s2] h (pm_sz h - pm_sz h0) (pm_us h - pm_us h0)) ∧ (∀ (x0 : Nat) (x3 : Int32) (h : pm_H), pm_Le h0 h → pm_iter sX1_init n (.inr (.inr (.inr (.inr (.inr (.inr (.inr (.inr (.inr (.inr (.inr (.inr (.inl (x0, x3, h)))))))))))))) = some r → pm_G g 105 [(0, .ref x0), (3, .int x3)] [] h (pm_sz h - pm_sz h0) (pm_us h - pm_us h0)) ∧ (∀ (x0 : Nat) (x3 : Int32) (s0 : Nat) (s1 : Int32) (s2 : Nat) (h : pm_H), pm_Le h0 h → pm_iter sX1_init n (.inr (.inr (.inr (.inr (.inr (.inr (.inr (.inr (.inr (.inr (.inr (.inr (.inr (x0, x3, s0, s1, s2, h)))))))))))))) = some r → pm_G g 119 [(0, .ref x0), (3, .int x3)] [.ref s0, .int s1, .ref s2] h (pm_sz h - pm_sz h0) (pm_us h - pm_us h0)) := by
  intro n
  induction n with
  | zero => exact ⟨fun _ _ _ _ _ hf => (by cases hf), fun _ _ _ _ _ _ _ hf => (by cases hf), fun _ _ _ _ _ _ _ hf => (by cases hf), fun _ _ _ _ _ _ _ hf => (by cases hf), fun _ _ _ _ _ _ _ hf => (by cases hf), fun _ _ _ _ _ _ _ hf => (by cases hf), fun _ _ _ _ _ _ _ hf => (by cases hf), fun _ _ _ _ _ _ _ hf => (by cases hf), fun _ _ _ _ _ hf => (by cases hf), fun _ _ _ _ _ _ _ hf => (by cases hf), fun _ _ _ _ _ hf => (by cases hf), fun _ _ _ _ _ _ hf => (by cases hf), fun _ _ _ _ hf => (by cases hf), fun _ _ _ _ _ _ _ hf => (by cases hf)⟩
  | succ n ih =>
    refine ⟨fun x0 x1 x2 h m0 hf => ?_, ?_⟩
    · have le0 := (mlX1_init (n + 1)).1 x0 x1 x2 h hf
      have kc1 := Nat.sub_le_sub_right le0.1 (pm_sz h0)
      have kc2 := Nat.sub_le_sub_right le0.2 (pm_us h0)
      have K0 := pm_S3.rf h
      obtain ⟨y, hf, hi⟩ := pm_iter_s hf
      have hf : tX1_init_0 x0 x1 x2 h = some y := hf
      unfold tX1_init_0 at hf
      refine pm_aload_n C dX1_init_0 rfl rfl ?_
      refine pm_obj C X dX1_init_1 obX1_3 obI obC (by decide) (by decide) (Nat.le_of_ble_eq_true rfl) ?_
      refine pm_aload_n C dX1_init_4 rfl rfl ?_
      refine pm_iconst (v := 0) C dX1_init_5 (by decide) ?_
      cases hf
      refine pa_newa (hb := h) (h0 := h0) (t := 0) (N := 0) C X K0 m0 dX1_init_6 (by decide) rfl al0 (by decide) (by decide +kernel) (by decide +kernel) ((mlX1_init n).2.1 x0 x1 x2 (pm_sz h) x0 (pm_new h 32 0) hi) ?_
      exact pm_sub [0, 1, 2] rfl (ih.2.1 x0 x1 x2 (pm_sz h) x0 (pm_new h 32 0) ((m0.trans (pm_S3.le K0)).trans (pm_Le_new _ _ _)) hi)
    refine ⟨fun x0 x1 x2 s0 s1 h m0 hf => ?_, ?_⟩
    · have le0 := (mlX1_init (n + 1)).2.1 x0 x1 x2 s0 s1 h hf
      have kc1 := Nat.sub_le_sub_right le0.1 (pm_sz h0)
      have kc2 := Nat.sub_le_sub_right le0.2 (pm_us h0)
      have K0 := pm_S3.rf h
      obtain ⟨y, hf, hi⟩ := pm_iter_s hf
      have hf : tX1_init_8 x0 x1 x2 s0 s1 h = some y := hf
      unfold tX1_init_8 at hf
      obtain ⟨k1, hf⟩ := pm_if hf
      refine pm_putR C dX1_init_8 flX1_9 rfl rfl k1 ?_
      refine pm_aload_n C dX1_init_11 rfl rfl ?_
      refine pm_sipush (v := 1000) C dX1_init_12 (by decide) ?_
      cases hf
      refine pa_newa (hb := h) (h0 := h0) (t := 2) (N := 1000) C X (pm_S3R K0) m0 dX1_init_15 (by decide) rfl al2 (by decide) (by decide +kernel) (by decide +kernel) ((mlX1_init n).2.2.1 x0 x1 x2 (pm_sz (pm_setR h s1 4 (some s0))) x0 (pm_new (pm_setR h s1 4 (some s0)) 34 1000) hi) ?_
      exact pm_sub [0, 1, 2] rfl (ih.2.2.1 x0 x1 x2 (pm_sz (pm_setR h s1 4 (some s0))) x0 (pm_new (pm_setR h s1 4 (some s0)) 34 1000) ((m0.trans (pm_S3.le (pm_S3R K0))).trans (pm_Le_new _ _ _)) hi)
    refine ⟨fun x0 x1 x2 s0 s1 h m0 hf => ?_, ?_⟩
    · have le0 := (mlX1_init (n + 1)).2.2.1 x0 x1 x2 s0 s1 h hf
      have kc1 := Nat.sub_le_sub_right le0.1 (pm_sz h0)
      have kc2 := Nat.sub_le_sub_right le0.2 (pm_us h0)
      have K0 := pm_S3.rf h
      obtain ⟨y, hf, hi⟩ := pm_iter_s hf
      have hf : tX1_init_17 x0 x1 x2 s0 s1 h = some y := hf
      unfold tX1_init_17 at hf
      obtain ⟨k2, hf⟩ := pm_if hf
      refine pm_putRF C dX1_init_17 flX1_15 rfl nm rfl fwX1_15 rfl k2 ?_
      refine pm_aload_n C dX1_init_20 rfl rfl ?_
      refine pm_sipush (v := 1400) C dX1_init_21 (by decide) ?_
      cases hf
      refine pa_newa (hb := h) (h0 := h0) (t := 2) (N := 1400) C X (pm_S3R K0) m0 dX1_init_24 (by decide) rfl al2 (by decide) (by decide +kernel) (by decide +kernel) ((mlX1_init n).2.2.2.1 x0 x1 x2 (pm_sz (pm_setR h s1 5 (some s0))) x0 (pm_new (pm_setR h s1 5 (some s0)) 34 1400) hi) ?_
      exact pm_sub [0, 1, 2] rfl (ih.2.2.2.1 x0 x1 x2 (pm_sz (pm_setR h s1 5 (some s0))) x0 (pm_new (pm_setR h s1 5 (some s0)) 34 1400) ((m0.trans (pm_S3.le (pm_S3R K0))).trans (pm_Le_new _ _ _)) hi)
    refine ⟨fun x0 x1 x2 s0 s1 h m0 hf => ?_, ?_⟩
    · have le0 := (mlX1_init (n + 1)).2.2.2.1 x0 x1 x2 s0 s1 h hf
      have kc1 := Nat.sub_le_sub_right le0.1 (pm_sz h0)
      have kc2 := Nat.sub_le_sub_right le0.2 (pm_us h0)
      have K0 := pm_S3.rf h
      obtain ⟨y, hf, hi⟩ := pm_iter_s hf
      have hf : tX1_init_26 x0 x1 x2 s0 s1 h = some y := hf
      unfold tX1_init_26 at hf
      obtain ⟨k3, hf⟩ := pm_if hf
      refine pm_putRF C dX1_init_26 flX1_19 rfl nm rfl fwX1_19 rfl k3 ?_
      refine pm_aload_n C dX1_init_29 rfl rfl ?_
      refine pm_sipush (v := 1016) C dX1_init_30 (by decide) ?_
      cases hf
      refine pa_newa (hb := h) (h0 := h0) (t := 2) (N := 1016) C X (pm_S3R K0) m0 dX1_init_33 (by decide) rfl al2 (by decide) (by decide +kernel) (by decide +kernel) ((mlX1_init n).2.2.2.2.1 x0 x1 x2 (pm_sz (pm_setR h s1 9 (some s0))) x0 (pm_new (pm_setR h s1 9 (some s0)) 34 1016) hi) ?_
      exact pm_sub [0, 1, 2] rfl (ih.2.2.2.2.1 x0 x1 x2 (pm_sz (pm_setR h s1 9 (some s0))) x0 (pm_new (pm_setR h s1 9 (some s0)) 34 1016) ((m0.trans (pm_S3.le (pm_S3R K0))).trans (pm_Le_new _ _ _)) hi)
    refine ⟨fun x0 x1 x2 s0 s1 h m0 hf => ?_, ?_⟩
    · have le0 := (mlX1_init (n + 1)).2.2.2.2.1 x0 x1 x2 s0 s1 h hf
      have kc1 := Nat.sub_le_sub_right le0.1 (pm_sz h0)
      have kc2 := Nat.sub_le_sub_right le0.2 (pm_us h0)
      have K0 := pm_S3.rf h
      obtain ⟨y, hf, hi⟩ := pm_iter_s hf
      have hf : tX1_init_35 x0 x1 x2 s0 s1 h = some y := hf
      unfold tX1_init_35 at hf
      obtain ⟨k4, hf⟩ := pm_if hf
      refine pm_putRF C dX1_init_35 flX1_22 rfl nm rfl fwX1_22 rfl k4 ?_
      refine pm_aload_n C dX1_init_38 rfl rfl ?_
      refine pm_sipush (v := 2000) C dX1_init_39 (by decide) ?_
      cases hf
      refine pa_newa (hb := h) (h0 := h0) (t := 2) (N := 2000) C X (pm_S3R K0) m0 dX1_init_42 (by decide) rfl al2 (by decide) (by decide +kernel) (by decide +kernel) ((mlX1_init n).2.2.2.2.2.1 x0 x1 x2 (pm_sz (pm_setR h s1 11 (some s0))) x0 (pm_new (pm_setR h s1 11 (some s0)) 34 2000) hi) ?_
      exact pm_sub [0, 1, 2] rfl (ih.2.2.2.2.2.1 x0 x1 x2 (pm_sz (pm_setR h s1 11 (some s0))) x0 (pm_new (pm_setR h s1 11 (some s0)) 34 2000) ((m0.trans (pm_S3.le (pm_S3R K0))).trans (pm_Le_new _ _ _)) hi)
    refine ⟨fun x0 x1 x2 s0 s1 h m0 hf => ?_, ?_⟩
    · have le0 := (mlX1_init (n + 1)).2.2.2.2.2.1 x0 x1 x2 s0 s1 h hf
      have kc1 := Nat.sub_le_sub_right le0.1 (pm_sz h0)
      have kc2 := Nat.sub_le_sub_right le0.2 (pm_us h0)
      have K0 := pm_S3.rf h
      obtain ⟨y, hf, hi⟩ := pm_iter_s hf
      have hf : tX1_init_44 x0 x1 x2 s0 s1 h = some y := hf
      unfold tX1_init_44 at hf
      obtain ⟨k5, hf⟩ := pm_if hf
      refine pm_putRF C dX1_init_44 flX1_25 rfl nm rfl fwX1_25 rfl k5 ?_
      refine pm_aload_n C dX1_init_47 rfl rfl ?_
      refine pm_bipush (v := 16) C dX1_init_48 (by decide) ?_
      cases hf
      refine pa_newa (hb := h) (h0 := h0) (t := 2) (N := 16) C X (pm_S3R K0) m0 dX1_init_50 (by decide) rfl al2 (by decide) (by decide +kernel) (by decide +kernel) ((mlX1_init n).2.2.2.2.2.2.1 x0 x1 x2 (pm_sz (pm_setR h s1 13 (some s0))) x0 (pm_new (pm_setR h s1 13 (some s0)) 34 16) hi) ?_
      exact pm_sub [0, 1, 2] rfl (ih.2.2.2.2.2.2.1 x0 x1 x2 (pm_sz (pm_setR h s1 13 (some s0))) x0 (pm_new (pm_setR h s1 13 (some s0)) 34 16) ((m0.trans (pm_S3.le (pm_S3R K0))).trans (pm_Le_new _ _ _)) hi)
    refine ⟨fun x0 x1 x2 s0 s1 h m0 hf => ?_, ?_⟩
    · have le0 := (mlX1_init (n + 1)).2.2.2.2.2.2.1 x0 x1 x2 s0 s1 h hf
      have kc1 := Nat.sub_le_sub_right le0.1 (pm_sz h0)
      have kc2 := Nat.sub_le_sub_right le0.2 (pm_us h0)
      have K0 := pm_S3.rf h
      obtain ⟨y, hf, hi⟩ := pm_iter_s hf
      have hf : tX1_init_52 x0 x1 x2 s0 s1 h = some y := hf
      unfold tX1_init_52 at hf
      obtain ⟨k6, hf⟩ := pm_if hf
      refine pm_putRF C dX1_init_52 flX1_28 rfl nm rfl fwX1_28 rfl k6 ?_
      refine pm_aload_n C dX1_init_55 rfl rfl ?_
      refine pm_sipush (v := 128) C dX1_init_56 (by decide) ?_
      refine pm_iconst (v := 0) C dX1_init_59 (by decide) ?_
      cases hf
      refine pa_mna (hb := h) (h0 := h0) (t := 4) (u := 2) (N := 128) C X (pm_S3R K0) m0 dX1_init_60 (Or.inl ⟨rfl, rfl⟩) cmX1_31 al2 (by decide) (by decide +kernel) (by decide +kernel) ((mlX1_init n).2.2.2.2.2.2.2.1 x0 x1 x2 (pm_sz (pm_setR h s1 15 (some s0))) x0 (pm_ma (pm_setR h s1 15 (some s0)) 4 2 128 128) hi) ?_
      exact pm_sub [0, 1, 2] rfl (ih.2.2.2.2.2.2.2.1 x0 x1 x2 (pm_sz (pm_setR h s1 15 (some s0))) x0 (pm_ma (pm_setR h s1 15 (some s0)) 4 2 128 128) ((m0.trans (pm_S3.le (pm_S3R K0))).trans (pm_Le_ma _ _ _ _ _)) hi)
    refine ⟨fun x0 x1 x2 s0 s1 h m0 hf => ?_, ?_⟩
    · have le0 := (mlX1_init (n + 1)).2.2.2.2.2.2.2.1 x0 x1 x2 s0 s1 h hf
      have kc1 := Nat.sub_le_sub_right le0.1 (pm_sz h0)
      have kc2 := Nat.sub_le_sub_right le0.2 (pm_us h0)
      have K0 := pm_S3.rf h
      obtain ⟨y, hf, hi⟩ := pm_iter_s hf
      have hf : tX1_init_64 x0 x1 x2 s0 s1 h = some y := hf
      unfold tX1_init_64 at hf
      obtain ⟨k7, hf⟩ := pm_if hf
      refine pm_putRF C dX1_init_64 flX1_33 rfl nm rfl fwX1_33 rfl k7 ?_
      refine pm_aload_n C dX1_init_67 rfl rfl ?_
      refine pm_aload_n C dX1_init_68 rfl rfl ?_
      obtain ⟨k8, hf⟩ := pm_if hf
      refine pm_putRF C dX1_init_69 flX1_36 rfl nm rfl fwX1_36 rfl k8 ?_
      refine pm_aload_n C dX1_init_72 rfl rfl ?_
      refine pm_aload_n C dX1_init_73 rfl rfl ?_
      refine pm_putR C dX1_init_74 flX1_40 rfl rfl k8 ?_
      refine pm_aload_n C dX1_init_77 rfl rfl ?_
      cases hf
      refine pa_newo (hb := h) (h0 := h0) C X (pm_S3R (pm_S3R (pm_S3R K0))) m0 dX1_init_78 pm_Cl0 ckX1_44 cc0.1 cc0.2 ((mlX1_init n).2.2.2.2.2.2.2.2.1 x0 (pm_sz (pm_setR (pm_setR (pm_setR h s1 16 (some s0)) x0 3 (some x1)) x0 2 (some x2))) x0 (pm_new (pm_setR (pm_setR (pm_setR h s1 16 (some s0)) x0 3 (some x1)) x0 2 (some x2)) 0 0) hi) ?_
      exact pm_sub [0] rfl (ih.2.2.2.2.2.2.2.2.1 x0 (pm_sz (pm_setR (pm_setR (pm_setR h s1 16 (some s0)) x0 3 (some x1)) x0 2 (some x2))) x0 (pm_new (pm_setR (pm_setR (pm_setR h s1 16 (some s0)) x0 3 (some x1)) x0 2 (some x2)) 0 0) ((m0.trans (pm_S3.le (pm_S3R (pm_S3R (pm_S3R K0))))).trans (pm_Le_new _ _ _)) hi)
    refine ⟨fun x0 s0 s1 h m0 hf => ?_, ?_⟩
    · have le0 := (mlX1_init (n + 1)).2.2.2.2.2.2.2.2.1 x0 s0 s1 h hf
      have kc1 := Nat.sub_le_sub_right le0.1 (pm_sz h0)
      have kc2 := Nat.sub_le_sub_right le0.2 (pm_us h0)
      have K0 := pm_S3.rf h
      obtain ⟨y, hf, hi⟩ := pm_iter_s hf
      have hf : tX1_init_81 x0 s0 s1 h = some y := hf
      unfold tX1_init_81 at hf
      refine pm_dup C dX1_init_81 rfl ?_
      refine pm_iconst (v := 2) C dX1_init_82 (by decide) ?_
      cases hf
      refine pa_newa (hb := h) (h0 := h0) (t := 2) (N := 2) C X K0 m0 dX1_init_83 (by decide) rfl al2 (by decide) (by decide +kernel) (by decide +kernel) ((mlX1_init n).2.2.2.2.2.2.2.2.2.1 x0 (pm_sz h) s0 s0 s1 (pm_new h 34 2) hi) ?_
      exact pm_sub [0] rfl (ih.2.2.2.2.2.2.2.2.2.1 x0 (pm_sz h) s0 s0 s1 (pm_new h 34 2) ((m0.trans (pm_S3.le K0)).trans (pm_Le_new _ _ _)) hi)
    refine ⟨fun x0 s0 s1 s2 s3 h m0 hf => ?_, ?_⟩
    · have le0 := (mlX1_init (n + 1)).2.2.2.2.2.2.2.2.2.1 x0 s0 s1 s2 s3 h hf
      have kc1 := Nat.sub_le_sub_right le0.1 (pm_sz h0)
      have kc2 := Nat.sub_le_sub_right le0.2 (pm_us h0)
      have K0 := pm_S3.rf h
      obtain ⟨y, hf, hi⟩ := pm_iter_s hf
      have hf : tX1_init_85 x0 s0 s1 s2 s3 h = some y := hf
      unfold tX1_init_85 at hf
      refine pm_iconst (v := 0) C dX1_init_85 (by decide) ?_
      obtain ⟨v9, e10, hf⟩ := pm_bd hf
      cases hf
      refine pm_callI (as := [.ref s0, .int 0]) (st := [.ref s2, .ref s3]) C X dX1_init_86 lnX1_46 myX0_init iiX0_init ⟨by decide, by decide⟩ rfl rfl (Nat.le_of_ble_eq_true rfl) (pa_le1 K0 m0 (moX0_init e10) ((mlX1_init n).2.2.2.2.2.2.2.2.2.2.1 x0 s2 s3 v9 hi)) (pa_le2 K0 m0 (moX0_init e10) ((mlX1_init n).2.2.2.2.2.2.2.2.2.2.1 x0 s2 s3 v9 hi)) (ctX0_init e10 ?_)
      show pm_G g 89 [(0, .ref x0)] [.ref s2, .ref s3] v9 (pm_sz h - pm_sz h0 + (pm_sz v9 - pm_sz h)) (pm_us h - pm_us h0 + (pm_us v9 - pm_us h))
      refine pa_fin K0 m0 (moX0_init e10) ?_
      exact pm_sub [0] rfl (ih.2.2.2.2.2.2.2.2.2.2.1 x0 s2 s3 v9 ((m0.trans (pm_S3.le K0)).trans (moX0_init e10)) hi)
    refine ⟨fun x0 s0 s1 h m0 hf => ?_, ?_⟩
    · have le0 := (mlX1_init (n + 1)).2.2.2.2.2.2.2.2.2.2.1 x0 s0 s1 h hf
      have kc1 := Nat.sub_le_sub_right le0.1 (pm_sz h0)
      have kc2 := Nat.sub_le_sub_right le0.2 (pm_us h0)
      have K0 := pm_S3.rf h
      obtain ⟨y, hf, hi⟩ := pm_iter_s hf
      have hf : tX1_init_89 x0 s0 s1 h = some y := hf
      unfold tX1_init_89 at hf
      obtain ⟨k11, hf⟩ := pm_if hf
      refine pm_putR C dX1_init_89 flX1_49 rfl rfl k11 ?_
      refine pm_aload_n C dX1_init_92 rfl rfl ?_
      obtain ⟨k12, hf⟩ := pm_if hf
      obtain ⟨v13, e14, hf⟩ := pm_bd hf
      refine pm_getR C dX1_init_93 flX1_33 rfl k12 e14 ?_
      refine pm_bipush (v := 64) C dX1_init_96 (by decide) ?_
      refine pm_iconst (v := 2) C dX1_init_98 (by decide) ?_
      cases hf
      refine pa_newa (hb := h) (h0 := h0) (t := 2) (N := 2) C X (pm_S3R K0) m0 dX1_init_99 (by decide) rfl al2 (by decide) (by decide +kernel) (by decide +kernel) ((mlX1_init n).2.2.2.2.2.2.2.2.2.2.2.1 x0 (pm_sz (pm_setR h s1 17 (some s0))) 64 v13 (pm_new (pm_setR h s1 17 (some s0)) 34 2) hi) ?_
      exact pm_sub [0] rfl (ih.2.2.2.2.2.2.2.2.2.2.2.1 x0 (pm_sz (pm_setR h s1 17 (some s0))) 64 v13 (pm_new (pm_setR h s1 17 (some s0)) 34 2) ((m0.trans (pm_S3.le (pm_S3R K0))).trans (pm_Le_new _ _ _)) hi)
    refine ⟨fun x0 s0 s1 s2 h m0 hf => ?_, ?_⟩
    · have le0 := (mlX1_init (n + 1)).2.2.2.2.2.2.2.2.2.2.2.1 x0 s0 s1 s2 h hf
      have kc1 := Nat.sub_le_sub_right le0.1 (pm_sz h0)
      have kc2 := Nat.sub_le_sub_right le0.2 (pm_us h0)
      have K0 := pm_S3.rf h
      obtain ⟨y, hf, hi⟩ := pm_iter_s hf
      have hf : tX1_init_101 x0 s0 s1 s2 h = some y := hf
      unfold tX1_init_101 at hf
      obtain ⟨k15, hf⟩ := pm_if hf
      obtain ⟨k16, hf⟩ := pm_if hf
      obtain ⟨u17, hf⟩ := pm_if hf
      refine pm_aasta (t := 4) (u := 2) C dX1_init_101 (Or.inl ⟨rfl, rfl⟩) k15 k16 u17 ?_
      refine pm_bipush (v := 111) C dX1_init_102 (by decide) ?_
      refine pm_istore_n (lv' := [(3, .int 111), (0, .ref x0)]) C dX1_init_104 rfl (pm_nl X (by decide)) rfl ?_
      cases hf
      exact pa_join (pm_S3R K0) (pm_sub [1, 0] rfl (ih.2.2.2.2.2.2.2.2.2.2.2.2.1 x0 111 (pm_setR h s2 s1.toNatClampNeg (some s0)) (m0.trans (pm_S3.le (pm_S3R K0))) hi))
    refine ⟨fun x0 x3 h m0 hf => ?_, ?_⟩
    · have le0 := (mlX1_init (n + 1)).2.2.2.2.2.2.2.2.2.2.2.2.1 x0 x3 h hf
      have kc1 := Nat.sub_le_sub_right le0.1 (pm_sz h0)
      have kc2 := Nat.sub_le_sub_right le0.2 (pm_us h0)
      have K0 := pm_S3.rf h
      obtain ⟨y, hf, hi⟩ := pm_iter_s hf
      have hf : tX1_init_105 x0 x3 h = some y := hf
      unfold tX1_init_105 at hf
      refine pm_iload_n C dX1_init_105 rfl rfl ?_
      refine pm_bipush (v := 127) C dX1_init_106 (by decide) ?_
      refine pm_icmp_gt (tgt := 138) C dX1_init_108 (by decide) (fun c18 => ?_) (fun c18 => ?_)
      · have hf := pm_it hf c18
        have hf := Option.some.inj hf
        subst hf
        have hi := Option.some.inj (show some _ = some r from hi)
        subst hi
        exact pm_vret C X dX1_init_138 rfl kc1 kc2 q
      · have hf := pm_ie hf c18
        refine pm_aload_n C dX1_init_111 rfl rfl ?_
        obtain ⟨k19, hf⟩ := pm_if hf
        obtain ⟨v20, e21, hf⟩ := pm_bd hf
        refine pm_getR C dX1_init_112 flX1_33 rfl k19 e21 ?_
        refine pm_iload_n C dX1_init_115 rfl rfl ?_
        refine pm_iconst (v := 3) C dX1_init_116 (by decide) ?_
        cases hf
        refine pa_newa (hb := h) (h0 := h0) (t := 2) (N := 3) C X K0 m0 dX1_init_117 (by decide) rfl al2 (by decide) (by decide +kernel) (by decide +kernel) ((mlX1_init n).2.2.2.2.2.2.2.2.2.2.2.2.2 x0 x3 (pm_sz h) x3 v20 (pm_new h 34 3) hi) ?_
        exact pm_sub [0, 1] rfl (ih.2.2.2.2.2.2.2.2.2.2.2.2.2 x0 x3 (pm_sz h) x3 v20 (pm_new h 34 3) ((m0.trans (pm_S3.le K0)).trans (pm_Le_new _ _ _)) hi)
    refine fun x0 x3 s0 s1 s2 h m0 hf => ?_
    have le0 := (mlX1_init (n + 1)).2.2.2.2.2.2.2.2.2.2.2.2.2 x0 x3 s0 s1 s2 h hf
    have kc1 := Nat.sub_le_sub_right le0.1 (pm_sz h0)
    have kc2 := Nat.sub_le_sub_right le0.2 (pm_us h0)
    have K0 := pm_S3.rf h
    obtain ⟨y, hf, hi⟩ := pm_iter_s hf
    have hf : tX1_init_119 x0 x3 s0 s1 s2 h = some y := hf
    unfold tX1_init_119 at hf
    refine pm_dup C dX1_init_119 rfl ?_
    refine pm_iconst (v := 0) C dX1_init_120 (by decide) ?_
    refine pm_iconst (v := 0) C dX1_init_121 (by decide) ?_
    obtain ⟨k22, hf⟩ := pm_if hf
    obtain ⟨u23, hf⟩ := pm_if hf
    refine pm_iast C dX1_init_122 k22 u23 ?_
    refine pm_dup C dX1_init_123 rfl ?_
    refine pm_iconst (v := 1) C dX1_init_124 (by decide) ?_
    refine pm_iconst (v := 1) C dX1_init_125 (by decide) ?_
    obtain ⟨u24, hf⟩ := pm_if hf
    refine pm_iast C dX1_init_126 k22 u24 ?_
    refine pm_dup C dX1_init_127 rfl ?_
    refine pm_iconst (v := 2) C dX1_init_128 (by decide) ?_
    refine pm_iload_n C dX1_init_129 rfl rfl ?_
    obtain ⟨u25, hf⟩ := pm_if hf
    refine pm_iast C dX1_init_130 k22 u25 ?_
    obtain ⟨k26, hf⟩ := pm_if hf
    obtain ⟨u27, hf⟩ := pm_if hf
    refine pm_aasta (t := 4) (u := 2) C dX1_init_131 (Or.inl ⟨rfl, rfl⟩) k26 k22 u27 ?_
    obtain ⟨y28, e29, hf⟩ := pm_lt hf
    refine pm_iinc (v := y28) (lv' := [(3, .int y28), (0, .ref x0)]) C dX1_init_132 rfl ((congrArg (x3 + ·) (by decide : Int32.ofInt 1 = 1)).trans e29) (pm_nl X (by decide)) rfl ?_
    refine pm_goto (tgt := 105) C dX1_init_135 (by decide) ?_
    cases hf
    exact pa_join (pm_S3R (pm_S3I (pm_S3I (pm_S3I K0)))) (pm_sub [1, 0] rfl (ih.2.2.2.2.2.2.2.2.2.2.2.2.1 x0 y28 (pm_setR (pm_setI (pm_setI (pm_setI h s0 ((0 : Int32).toNatClampNeg) 0) s0 ((1 : Int32).toNatClampNeg) 1) s0 ((2 : Int32).toNatClampNeg) x3) s2 s1.toNatClampNeg (some s0)) (m0.trans (pm_S3.le (pm_S3R (pm_S3I (pm_S3I (pm_S3I K0)))))) hi))
set_option maxHeartbeats 4000000 in
set_option maxRecDepth 100000 in
theorem ctX1_init {l : Launch} {G : pm_Gl} {h : pm_H} {a0 : Nat} {p1 : Nat} {p2 : Nat} {r : pm_H} {Qr : Option Value → pm_H → Prop} (hf : fX1_init h a0 p1 p2 = some r) (q : Qr none r) : pm_Ct l G mX1_init [.ref a0, .ref p1, .ref p2] h (pm_sz r - pm_sz h) (pm_us r - pm_us h) Qr := by
  refine pm_bodyN pnX1 (Nat.le_of_ble_eq_true rfl) (fun g C X nm => ?_)
  have C : pm_C g cX1_init RX1 := C
  show pm_G g 0 [(0, .ref a0), (1, .ref p1), (2, .ref p2)] [] h 0 0
  unfold fX1_init at hf
  obtain ⟨n, hn⟩ := pm_lim_iter hf
  exact pa_start (pm_sub [0, 1, 2] rfl ((lpX1_init C X q nm n).1 a0 p1 p2 h (pm_Le.rf h) hn))
