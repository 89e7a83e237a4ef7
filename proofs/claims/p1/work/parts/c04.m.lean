theorem dX7_init_0 : decode cX7_init 0 = .ok (.aload_n 0, 1) := by decide +kernel
theorem dX7_init_1 : decode cX7_init 1 = .ok (.invokespecial 1, 3) := by decide +kernel
theorem dX7_init_4 : decode cX7_init 4 = .ok (.aload_n 0, 1) := by decide +kernel
theorem dX7_init_5 : decode cX7_init 5 = .ok (.bipush 13, 2) := by decide +kernel
theorem dX7_init_7 : decode cX7_init 7 = .ok (.newarray .int, 2) := by decide +kernel
theorem dX7_init_9 : decode cX7_init 9 = .ok (.putfield 7, 3) := by decide +kernel
theorem dX7_init_12 : decode cX7_init 12 = .ok (.aload_n 0, 1) := by decide +kernel
theorem dX7_init_13 : decode cX7_init 13 = .ok (.iconst 0, 1) := by decide +kernel
theorem dX7_init_14 : decode cX7_init 14 = .ok (.iconst 0, 1) := by decide +kernel
theorem dX7_init_15 : decode cX7_init 15 = .ok (.multianewarray 13 2, 4) := by decide +kernel
theorem dX7_init_19 : decode cX7_init 19 = .ok (.putfield 15, 3) := by decide +kernel
theorem dX7_init_22 : decode cX7_init 22 = .ok (.aload_n 0, 1) := by decide +kernel
theorem dX7_init_23 : decode cX7_init 23 = .ok (.iconst 0, 1) := by decide +kernel
theorem dX7_init_24 : decode cX7_init 24 = .ok (.newarray .long, 2) := by decide +kernel
theorem dX7_init_26 : decode cX7_init 26 = .ok (.putfield 18, 3) := by decide +kernel
theorem dX7_init_29 : decode cX7_init 29 = .ok (.aload_n 0, 1) := by decide +kernel
theorem dX7_init_30 : decode cX7_init 30 = .ok (.iconst 0, 1) := by decide +kernel
theorem dX7_init_31 : decode cX7_init 31 = .ok (.newarray .long, 2) := by decide +kernel
theorem dX7_init_33 : decode cX7_init 33 = .ok (.putfield 22, 3) := by decide +kernel
theorem dX7_init_36 : decode cX7_init 36 = .ok (.aload_n 0, 1) := by decide +kernel
theorem dX7_init_37 : decode cX7_init 37 = .ok (.iconst 0, 1) := by decide +kernel
theorem dX7_init_38 : decode cX7_init 38 = .ok (.newarray .long, 2) := by decide +kernel
theorem dX7_init_40 : decode cX7_init 40 = .ok (.putfield 25, 3) := by decide +kernel
theorem dX7_init_43 : decode cX7_init 43 = .ok (.aload_n 0, 1) := by decide +kernel
theorem dX7_init_44 : decode cX7_init 44 = .ok (.iconst 0, 1) := by decide +kernel
theorem dX7_init_45 : decode cX7_init 45 = .ok (.newarray .long, 2) := by decide +kernel
theorem dX7_init_47 : decode cX7_init 47 = .ok (.putfield 28, 3) := by decide +kernel
theorem dX7_init_50 : decode cX7_init 50 = .ok (.aload_n 0, 1) := by decide +kernel
theorem dX7_init_51 : decode cX7_init 51 = .ok (.iconst 0, 1) := by decide +kernel
theorem dX7_init_52 : decode cX7_init 52 = .ok (.newarray .long, 2) := by decide +kernel
theorem dX7_init_54 : decode cX7_init 54 = .ok (.putfield 31, 3) := by decide +kernel
theorem dX7_init_57 : decode cX7_init 57 = .ok (.aload_n 0, 1) := by decide +kernel
theorem dX7_init_58 : decode cX7_init 58 = .ok (.iconst 0, 1) := by decide +kernel
theorem dX7_init_59 : decode cX7_init 59 = .ok (.newarray .int, 2) := by decide +kernel
theorem dX7_init_61 : decode cX7_init 61 = .ok (.putfield 34, 3) := by decide +kernel
theorem dX7_init_64 : decode cX7_init 64 = .ok (.aload_n 0, 1) := by decide +kernel
theorem dX7_init_65 : decode cX7_init 65 = .ok (.iconst 0, 1) := by decide +kernel
theorem dX7_init_66 : decode cX7_init 66 = .ok (.newarray .int, 2) := by decide +kernel
theorem dX7_init_68 : decode cX7_init 68 = .ok (.putfield 37, 3) := by decide +kernel
theorem dX7_init_71 : decode cX7_init 71 = .ok (.aload_n 0, 1) := by decide +kernel
theorem dX7_init_72 : decode cX7_init 72 = .ok (.iconst 0, 1) := by decide +kernel
theorem dX7_init_73 : decode cX7_init 73 = .ok (.newarray .int, 2) := by decide +kernel
theorem dX7_init_75 : decode cX7_init 75 = .ok (.putfield 40, 3) := by decide +kernel
theorem dX7_init_78 : decode cX7_init 78 = .ok (.aload_n 0, 1) := by decide +kernel
theorem dX7_init_79 : decode cX7_init 79 = .ok (.iconst 0, 1) := by decide +kernel
theorem dX7_init_80 : decode cX7_init 80 = .ok (.newarray .int, 2) := by decide +kernel
theorem dX7_init_82 : decode cX7_init 82 = .ok (.putfield 43, 3) := by decide +kernel
theorem dX7_init_85 : decode cX7_init 85 = .ok (.aload_n 0, 1) := by decide +kernel
theorem dX7_init_86 : decode cX7_init 86 = .ok (.iconst 0, 1) := by decide +kernel
theorem dX7_init_87 : decode cX7_init 87 = .ok (.anewarray 46, 3) := by decide +kernel
theorem dX7_init_90 : decode cX7_init 90 = .ok (.putfield 48, 3) := by decide +kernel
theorem dX7_init_93 : decode cX7_init 93 = .ok (.aload_n 0, 1) := by decide +kernel
theorem dX7_init_94 : decode cX7_init 94 = .ok (.ldc2_w 52, 3) := by decide +kernel
theorem dX7_init_97 : decode cX7_init 97 = .ok (.putfield 54, 3) := by decide +kernel
theorem dX7_init_100 : decode cX7_init 100 = .ok (.aload_n 0, 1) := by decide +kernel
theorem dX7_init_101 : decode cX7_init 101 = .ok (.ldc2_w 52, 3) := by decide +kernel
theorem dX7_init_104 : decode cX7_init 104 = .ok (.putfield 58, 3) := by decide +kernel
theorem dX7_init_107 : decode cX7_init 107 = .ok (.aload_n 0, 1) := by decide +kernel
theorem dX7_init_108 : decode cX7_init 108 = .ok (.aload_n 1, 1) := by decide +kernel
theorem dX7_init_109 : decode cX7_init 109 = .ok (.putfield 61, 3) := by decide +kernel
theorem dX7_init_112 : decode cX7_init 112 = .ok (.iconst 0, 1) := by decide +kernel
theorem dX7_init_113 : decode cX7_init 113 = .ok (.istore_n 2, 1) := by decide +kernel
theorem dX7_init_114 : decode cX7_init 114 = .ok (.iload_n 2, 1) := by decide +kernel
theorem dX7_init_115 : decode cX7_init 115 = .ok (.aload_n 0, 1) := by decide +kernel
theorem dX7_init_116 : decode cX7_init 116 = .ok (.getfield 7, 3) := by decide +kernel
theorem dX7_init_119 : decode cX7_init 119 = .ok (.arraylength, 1) := by decide +kernel
theorem dX7_init_120 : decode cX7_init 120 = .ok (.if_icmp .ge 16, 3) := by decide +kernel
theorem dX7_init_123 : decode cX7_init 123 = .ok (.aload_n 0, 1) := by decide +kernel
theorem dX7_init_124 : decode cX7_init 124 = .ok (.getfield 7, 3) := by decide +kernel
theorem dX7_init_127 : decode cX7_init 127 = .ok (.iload_n 2, 1) := by decide +kernel
theorem dX7_init_128 : decode cX7_init 128 = .ok (.iconst (-1), 1) := by decide +kernel
theorem dX7_init_129 : decode cX7_init 129 = .ok (.iastore, 1) := by decide +kernel
theorem dX7_init_130 : decode cX7_init 130 = .ok (.iinc 2 1, 3) := by decide +kernel
theorem dX7_init_133 : decode cX7_init 133 = .ok (.goto (-19), 3) := by decide +kernel
theorem dX7_init_136 : decode cX7_init 136 = .ok (.return_, 1) := by decide +kernel
def tX7_init_0 (x0 : Nat) (x1 : Nat) (h : pm_H) : Option (((Nat × Nat × pm_H) ⊕ (Nat × Nat × Nat × Nat × pm_H) ⊕ (Nat × Nat × Nat × Nat × pm_H) ⊕ (Nat × Nat × Nat × Nat × pm_H) ⊕ (Nat × Nat × Nat × Nat × pm_H) ⊕ (Nat × Nat × Nat × Nat × pm_H) ⊕ (Nat × Nat × Nat × Nat × pm_H) ⊕ (Nat × Nat × Nat × Nat × pm_H) ⊕ (Nat × Nat × Nat × Nat × pm_H) ⊕ (Nat × Nat × Nat × Nat × pm_H) ⊕ (Nat × Nat × Nat × Nat × pm_H) ⊕ (Nat × Nat × Nat × Nat × pm_H) ⊕ (Nat × Nat × Nat × Nat × pm_H) ⊕ (Nat × Int32 × pm_H)) ⊕ pm_H) := some (.inl (.inr (.inl ((x0, x1, pm_sz h, x0, pm_new h 34 13)))))
def tX7_init_9 (x0 : Nat) (x1 : Nat) (s0 : Nat) (s1 : Nat) (h : pm_H) : Option (((Nat × Nat × pm_H) ⊕ (Nat × Nat × Nat × Nat × pm_H) ⊕ (Nat × Nat × Nat × Nat × pm_H) ⊕ (Nat × Nat × Nat × Nat × pm_H) ⊕ (Nat × Nat × Nat × Nat × pm_H) ⊕ (Nat × Nat × Nat × Nat × pm_H) ⊕ (Nat × Nat × Nat × Nat × pm_H) ⊕ (Nat × Nat × Nat × Nat × pm_H) ⊕ (Nat × Nat × Nat × Nat × pm_H) ⊕ (Nat × Nat × Nat × Nat × pm_H) ⊕ (Nat × Nat × Nat × Nat × pm_H) ⊕ (Nat × Nat × Nat × Nat × pm_H) ⊕ (Nat × Nat × Nat × Nat × pm_H) ⊕ (Nat × Int32 × pm_H)) ⊕ pm_H) := if pm_kd h s1 = 7 then some (.inl (.inr (.inr (.inl ((x0, x1, pm_sz (pm_setR h s1 1 (some s0)), x0, pm_ma (pm_setR h s1 1 (some s0)) 4 2 0 0)))))) else none
def tX7_init_19 (x0 : Nat) (x1 : Nat) (s0 : Nat) (s1 : Nat) (h : pm_H) : Option (((Nat × Nat × pm_H) ⊕ (Nat × Nat × Nat × Nat × pm_H) ⊕ (Nat × Nat × Nat × Nat × pm_H) ⊕ (Nat × Nat × Nat × Nat × pm_H) ⊕ (Nat × Nat × Nat × Nat × pm_H) ⊕ (Nat × Nat × Nat × Nat × pm_H) ⊕ (Nat × Nat × Nat × Nat × pm_H) ⊕ (Nat × Nat × Nat × Nat × pm_H) ⊕ (Nat × Nat × Nat × Nat × pm_H) ⊕ (Nat × Nat × Nat × Nat × pm_H) ⊕ (Nat × Nat × Nat × Nat × pm_H) ⊕ (Nat × Nat × Nat × Nat × pm_H) ⊕ (Nat × Nat × Nat × Nat × pm_H) ⊕ (Nat × Int32 × pm_H)) ⊕ pm_H) := if pm_kd h s1 = 7 then some (.inl (.inr (.inr (.inr (.inl ((x0, x1, pm_sz (pm_setR h s1 2 (some s0)), x0, pm_new (pm_setR h s1 2 (some s0)) 35 0))))))) else none
def tX7_init_26 (x0 : Nat) (x1 : Nat) (s0 : Nat) (s1 : Nat) (h : pm_H) : Option (((Nat × Nat × pm_H) ⊕ (Nat × Nat × Nat × Nat × pm_H) ⊕ (Nat × Nat × Nat × Nat × pm_H) ⊕ (Nat × Nat × Nat × Nat × pm_H) ⊕ (Nat × Nat × Nat × Nat × pm_H) ⊕ (Nat × Nat × Nat × Nat × pm_H) ⊕ (Nat × Nat × Nat × Nat × pm_H) ⊕ (Nat × Nat × Nat × Nat × pm_H) ⊕ (Nat × Nat × Nat × Nat × pm_H) ⊕ (Nat × Nat × Nat × Nat × pm_H) ⊕ (Nat × Nat × Nat × Nat × pm_H) ⊕ (Nat × Nat × Nat × Nat × pm_H) ⊕ (Nat × Nat × Nat × Nat × pm_H) ⊕ (Nat × Int32 × pm_H)) ⊕ pm_H) := if pm_kd h s1 = 7 then some (.inl (.inr (.inr (.inr (.inr (.inl ((x0, x1, pm_sz (pm_setR h s1 3 (some s0)), x0, pm_new (pm_setR h s1 3 (some s0)) 35 0)))))))) else none
def tX7_init_33 (x0 : Nat) (x1 : Nat) (s0 : Nat) (s1 : Nat) (h : pm_H) : Option (((Nat × Nat × pm_H) ⊕ (Nat × Nat × Nat × Nat × pm_H) ⊕ (Nat × Nat × Nat × Nat × pm_H) ⊕ (Nat × Nat × Nat × Nat × pm_H) ⊕ (Nat × Nat × Nat × Nat × pm_H) ⊕ (Nat × Nat × Nat × Nat × pm_H) ⊕ (Nat × Nat × Nat × Nat × pm_H) ⊕ (Nat × Nat × Nat × Nat × pm_H) ⊕ (Nat × Nat × Nat × Nat × pm_H) ⊕ (Nat × Nat × Nat × Nat × pm_H) ⊕ (Nat × Nat × Nat × Nat × pm_H) ⊕ (Nat × Nat × Nat × Nat × pm_H) ⊕ (Nat × Nat × Nat × Nat × pm_H) ⊕ (Nat × Int32 × pm_H)) ⊕ pm_H) := if pm_kd h s1 = 7 then some (.inl (.inr (.inr (.inr (.inr (.inr (.inl ((x0, x1, pm_sz (pm_setR h s1 4 (some s0)), x0, pm_new (pm_setR h s1 4 (some s0)) 35 0))))))))) else none
def tX7_init_40 (x0 : Nat) (x1 : Nat) (s0 : Nat) (s1 : Nat) (h : pm_H) : Option (((Nat × Nat × pm_H) ⊕ (Nat × Nat × Nat × Nat × pm_H) ⊕ (Nat × Nat × Nat × Nat × pm_H) ⊕ (Nat × Nat × Nat × Nat × pm_H) ⊕ (Nat × Nat × Nat × Nat × pm_H) ⊕ (Nat × Nat × Nat × Nat × pm_H) ⊕ (Nat × Nat × Nat × Nat × pm_H) ⊕ (Nat × Nat × Nat × Nat × pm_H) ⊕ (Nat × Nat × Nat × Nat × pm_H) ⊕ (Nat × Nat × Nat × Nat × pm_H) ⊕ (Nat × Nat × Nat × Nat × pm_H) ⊕ (Nat × Nat × Nat × Nat × pm_H) ⊕ (Nat × Nat × Nat × Nat × pm_H) ⊕ (Nat × Int32 × pm_H)) ⊕ pm_H) := if pm_kd h s1 = 7 then some (.inl (.inr (.inr (.inr (.inr (.inr (.inr (.inl ((x0, x1, pm_sz (pm_setR h s1 5 (some s0)), x0, pm_new (pm_setR h s1 5 (some s0)) 35 0)))))))))) else none
def tX7_init_47 (x0 : Nat) (x1 : Nat) (s0 : Nat) (s1 : Nat) (h : pm_H) : Option (((Nat × Nat × pm_H) ⊕ (Nat × Nat × Nat × Nat × pm_H) ⊕ (Nat × Nat × Nat × Nat × pm_H) ⊕ (Nat × Nat × Nat × Nat × pm_H) ⊕ (Nat × Nat × Nat × Nat × pm_H) ⊕ (Nat × Nat × Nat × Nat × pm_H) ⊕ (Nat × Nat × Nat × Nat × pm_H) ⊕ (Nat × Nat × Nat × Nat × pm_H) ⊕ (Nat × Nat × Nat × Nat × pm_H) ⊕ (Nat × Nat × Nat × Nat × pm_H) ⊕ (Nat × Nat × Nat × Nat × pm_H) ⊕ (Nat × Nat × Nat × Nat × pm_H) ⊕ (Nat × Nat × Nat × Nat × pm_H) ⊕ (Nat × Int32 × pm_H)) ⊕ pm_H) := if pm_kd h s1 = 7 then some (.inl (.inr (.inr (.inr (.inr (.inr (.inr (.inr (.inl ((x0, x1, pm_sz (pm_setR h s1 6 (some s0)), x0, pm_new (pm_setR h s1 6 (some s0)) 35 0))))))))))) else none
def tX7_init_54 (x0 : Nat) (x1 : Nat) (s0 : Nat) (s1 : Nat) (h : pm_H) : Option (((Nat × Nat × pm_H) ⊕ (Nat × Nat × Nat × Nat × pm_H) ⊕ (Nat × Nat × Nat × Nat × pm_H) ⊕ (Nat × Nat × Nat × Nat × pm_H) ⊕ (Nat × Nat × Nat × Nat × pm_H) ⊕ (Nat × Nat × Nat × Nat × pm_H) ⊕ (Nat × Nat × Nat × Nat × pm_H) ⊕ (Nat × Nat × Nat × Nat × pm_H) ⊕ (Nat × Nat × Nat × Nat × pm_H) ⊕ (Nat × Nat × Nat × Nat × pm_H) ⊕ (Nat × Nat × Nat × Nat × pm_H) ⊕ (Nat × Nat × Nat × Nat × pm_H) ⊕ (Nat × Nat × Nat × Nat × pm_H) ⊕ (Nat × Int32 × pm_H)) ⊕ pm_H) := if pm_kd h s1 = 7 then some (.inl (.inr (.inr (.inr (.inr (.inr (.inr (.inr (.inr (.inl ((x0, x1, pm_sz (pm_setR h s1 7 (some s0)), x0, pm_new (pm_setR h s1 7 (some s0)) 34 0)))))))))))) else none
def tX7_init_61 (x0 : Nat) (x1 : Nat) (s0 : Nat) (s1 : Nat) (h : pm_H) : Option (((Nat × Nat × pm_H) ⊕ (Nat × Nat × Nat × Nat × pm_H) ⊕ (Nat × Nat × Nat × Nat × pm_H) ⊕ (Nat × Nat × Nat × Nat × pm_H) ⊕ (Nat × Nat × Nat × Nat × pm_H) ⊕ (Nat × Nat × Nat × Nat × pm_H) ⊕ (Nat × Nat × Nat × Nat × pm_H) ⊕ (Nat × Nat × Nat × Nat × pm_H) ⊕ (Nat × Nat × Nat × Nat × pm_H) ⊕ (Nat × Nat × Nat × Nat × pm_H) ⊕ (Nat × Nat × Nat × Nat × pm_H) ⊕ (Nat × Nat × Nat × Nat × pm_H) ⊕ (Nat × Nat × Nat × Nat × pm_H) ⊕ (Nat × Int32 × pm_H)) ⊕ pm_H) := if pm_kd h s1 = 7 then some (.inl (.inr (.inr (.inr (.inr (.inr (.inr (.inr (.inr (.inr (.inl ((x0, x1, pm_sz (pm_setR h s1 8 (some s0)), x0, pm_new (pm_setR h s1 8 (some s0)) 34 0))))))))))))) else none
def tX7_init_68 (x0 : Nat) (x1 : Nat) (s0 : Nat) (s1 : Nat) (h : pm_H) : Option (((Nat × Nat × pm_H) ⊕ (Nat × Nat × Nat × Nat × pm_H) ⊕ (Nat × Nat × Nat × Nat × pm_H) ⊕ (Nat × Nat × Nat × Nat × pm_H) ⊕ (Nat × Nat × Nat × Nat × pm_H) ⊕ (Nat × Nat × Nat × Nat × pm_H) ⊕ (Nat × Nat × Nat × Nat × pm_H) ⊕ (Nat × Nat × Nat × Nat × pm_H) ⊕ (Nat × Nat × Nat × Nat × pm_H) ⊕ (Nat × Nat × Nat × Nat × pm_H) ⊕ (Nat × Nat × Nat × Nat × pm_H) ⊕ (Nat × Nat × Nat × Nat × pm_H) ⊕ (Nat × Nat × Nat × Nat × pm_H) ⊕ (Nat × Int32 × pm_H)) ⊕ pm_H) := if pm_kd h s1 = 7 then some (.inl (.inr (.inr (.inr (.inr (.inr (.inr (.inr (.inr (.inr (.inr (.inl ((x0, x1, pm_sz (pm_setR h s1 9 (some s0)), x0, pm_new (pm_setR h s1 9 (some s0)) 34 0)))))))))))))) else none
def tX7_init_75 (x0 : Nat) (x1 : Nat) (s0 : Nat) (s1 : Nat) (h : pm_H) : Option (((Nat × Nat × pm_H) ⊕ (Nat × Nat × Nat × Nat × pm_H) ⊕ (Nat × Nat × Nat × Nat × pm_H) ⊕ (Nat × Nat × Nat × Nat × pm_H) ⊕ (Nat × Nat × Nat × Nat × pm_H) ⊕ (Nat × Nat × Nat × Nat × pm_H) ⊕ (Nat × Nat × Nat × Nat × pm_H) ⊕ (Nat × Nat × Nat × Nat × pm_H) ⊕ (Nat × Nat × Nat × Nat × pm_H) ⊕ (Nat × Nat × Nat × Nat × pm_H) ⊕ (Nat × Nat × Nat × Nat × pm_H) ⊕ (Nat × Nat × Nat × Nat × pm_H) ⊕ (Nat × Nat × Nat × Nat × pm_H) ⊕ (Nat × Int32 × pm_H)) ⊕ pm_H) := if pm_kd h s1 = 7 then some (.inl (.inr (.inr (.inr (.inr (.inr (.inr (.inr (.inr (.inr (.inr (.inr (.inl ((x0, x1, pm_sz (pm_setR h s1 10 (some s0)), x0, pm_new (pm_setR h s1 10 (some s0)) 34 0))))))))))))))) else none
def tX7_init_82 (x0 : Nat) (x1 : Nat) (s0 : Nat) (s1 : Nat) (h : pm_H) : Option (((Nat × Nat × pm_H) ⊕ (Nat × Nat × Nat × Nat × pm_H) ⊕ (Nat × Nat × Nat × Nat × pm_H) ⊕ (Nat × Nat × Nat × Nat × pm_H) ⊕ (Nat × Nat × Nat × Nat × pm_H) ⊕ (Nat × Nat × Nat × Nat × pm_H) ⊕ (Nat × Nat × Nat × Nat × pm_H) ⊕ (Nat × Nat × Nat × Nat × pm_H) ⊕ (Nat × Nat × Nat × Nat × pm_H) ⊕ (Nat × Nat × Nat × Nat × pm_H) ⊕ (Nat × Nat × Nat × Nat × pm_H) ⊕ (Nat × Nat × Nat × Nat × pm_H) ⊕ (Nat × Nat × Nat × Nat × pm_H) ⊕ (Nat × Int32 × pm_H)) ⊕ pm_H) := if pm_kd h s1 = 7 then some (.inl (.inr (.inr (.inr (.inr (.inr (.inr (.inr (.inr (.inr (.inr (.inr (.inr (.inl ((x0, x1, pm_sz (pm_setR h s1 11 (some s0)), x0, pm_new (pm_setR h s1 11 (some s0)) 38 0)))))))))))))))) else none
def tX7_init_90 (x0 : Nat) (x1 : Nat) (s0 : Nat) (s1 : Nat) (h : pm_H) : Option (((Nat × Nat × pm_H) ⊕ (Nat × Nat × Nat × Nat × pm_H) ⊕ (Nat × Nat × Nat × Nat × pm_H) ⊕ (Nat × Nat × Nat × Nat × pm_H) ⊕ (Nat × Nat × Nat × Nat × pm_H) ⊕ (Nat × Nat × Nat × Nat × pm_H) ⊕ (Nat × Nat × Nat × Nat × pm_H) ⊕ (Nat × Nat × Nat × Nat × pm_H) ⊕ (Nat × Nat × Nat × Nat × pm_H) ⊕ (Nat × Nat × Nat × Nat × pm_H) ⊕ (Nat × Nat × Nat × Nat × pm_H) ⊕ (Nat × Nat × Nat × Nat × pm_H) ⊕ (Nat × Nat × Nat × Nat × pm_H) ⊕ (Nat × Int32 × pm_H)) ⊕ pm_H) := if pm_kd h s1 = 7 then if pm_kd (pm_setR h s1 12 (some s0)) x0 = 7 then some (.inl (.inr (.inr (.inr (.inr (.inr (.inr (.inr (.inr (.inr (.inr (.inr (.inr (.inr ((x0, 0, pm_setR (pm_setL (pm_setL (pm_setR h s1 12 (some s0)) x0 13 (-1)) x0 14 (-1)) x0 0 (some x1))))))))))))))))) else none else none
def tX7_init_114 (x0 : Nat) (x2 : Int32) (h : pm_H) : Option (((Nat × Nat × pm_H) ⊕ (Nat × Nat × Nat × Nat × pm_H) ⊕ (Nat × Nat × Nat × Nat × pm_H) ⊕ (Nat × Nat × Nat × Nat × pm_H) ⊕ (Nat × Nat × Nat × Nat × pm_H) ⊕ (Nat × Nat × Nat × Nat × pm_H) ⊕ (Nat × Nat × Nat × Nat × pm_H) ⊕ (Nat × Nat × Nat × Nat × pm_H) ⊕ (Nat × Nat × Nat × Nat × pm_H) ⊕ (Nat × Nat × Nat × Nat × pm_H) ⊕ (Nat × Nat × Nat × Nat × pm_H) ⊕ (Nat × Nat × Nat × Nat × pm_H) ⊕ (Nat × Nat × Nat × Nat × pm_H) ⊕ (Nat × Int32 × pm_H)) ⊕ pm_H) := if pm_kd h x0 = 7 then (pm_R h x0 1).bind fun v15 => if pm_kd h v15 = 34 then if (Int32.ofNat (pm_ln h v15)) ≤ x2 then (some (.inr (h))) else (if pm_in x2 (pm_ln h v15) then pm_let (x2 + 1) fun y20 => some (.inl (.inr (.inr (.inr (.inr (.inr (.inr (.inr (.inr (.inr (.inr (.inr (.inr (.inr ((x0, y20, pm_setI h v15 x2.toNatClampNeg (-1))))))))))))))))) else none) else none else none
def sX7_init : ((Nat × Nat × pm_H) ⊕ (Nat × Nat × Nat × Nat × pm_H) ⊕ (Nat × Nat × Nat × Nat × pm_H) ⊕ (Nat × Nat × Nat × Nat × pm_H) ⊕ (Nat × Nat × Nat × Nat × pm_H) ⊕ (Nat × Nat × Nat × Nat × pm_H) ⊕ (Nat × Nat × Nat × Nat × pm_H) ⊕ (Nat × Nat × Nat × Nat × pm_H) ⊕ (Nat × Nat × Nat × Nat × pm_H) ⊕ (Nat × Nat × Nat × Nat × pm_H) ⊕ (Nat × Nat × Nat × Nat × pm_H) ⊕ (Nat × Nat × Nat × Nat × pm_H) ⊕ (Nat × Nat × Nat × Nat × pm_H) ⊕ (Nat × Int32 × pm_H)) → Option (((Nat × Nat × pm_H) ⊕ (Nat × Nat × Nat × Nat × pm_H) ⊕ (Nat × Nat × Nat × Nat × pm_H) ⊕ (Nat × Nat × Nat × Nat × pm_H) ⊕ (Nat × Nat × Nat × Nat × pm_H) ⊕ (Nat × Nat × Nat × Nat × pm_H) ⊕ (Nat × Nat × Nat × Nat × pm_H) ⊕ (Nat × Nat × Nat × Nat × pm_H) ⊕ (Nat × Nat × Nat × Nat × pm_H) ⊕ (Nat × Nat × Nat × Nat × pm_H) ⊕ (Nat × Nat × Nat × Nat × pm_H) ⊕ (Nat × Nat × Nat × Nat × pm_H) ⊕ (Nat × Nat × Nat × Nat × pm_H) ⊕ (Nat × Int32 × pm_H)) ⊕ pm_H) := fun z => match z with
  | .inl (x0, x1, h) => tX7_init_0 x0 x1 h
  | .inr (.inl (x0, x1, s0, s1, h)) => tX7_init_9 x0 x1 s0 s1 h
  | .inr (.inr (.inl (x0, x1, s0, s1, h))) => tX7_init_19 x0 x1 s0 s1 h
  | .inr (.inr (.inr (.inl (x0, x1, s0, s1, h)))) => tX7_init_26 x0 x1 s0 s1 h
  | .inr (.inr (.inr (.inr (.inl (x0, x1, s0, s1, h))))) => tX7_init_33 x0 x1 s0 s1 h
  | .inr (.inr (.inr (.inr (.inr (.inl (x0, x1, s0, s1, h)))))) => tX7_init_40 x0 x1 s0 s1 h
  | .inr (.inr (.inr (.inr (.inr (.inr (.inl (x0, x1, s0, s1, h))))))) => tX7_init_47 x0 x1 s0 s1 h
  | .inr (.inr (.inr (.inr (.inr (.inr (.inr (.inl (x0, x1, s0, s1, h)))))))) => tX7_init_54 x0 x1 s0 s1 h
  | .inr (.inr (.inr (.inr (.inr (.inr (.inr (.inr (.inl (x0, x1, s0, s1, h))))))))) => tX7_init_61 x0 x1 s0 s1 h
  | .inr (.inr (.inr (.inr (.inr (.inr (.inr (.inr (.inr (.inl (x0, x1, s0, s1, h)))))))))) => tX7_init_68 x0 x1 s0 s1 h
  | .inr (.inr (.inr (.inr (.inr (.inr (.inr (.inr (.inr (.inr (.inl (x0, x1, s0, s1, h))))))))))) => tX7_init_75 x0 x1 s0 s1 h
  | .inr (.inr (.inr (.inr (.inr (.inr (.inr (.inr (.inr (.inr (.inr (.inl (x0, x1, s0, s1, h)))))))))))) => tX7_init_82 x0 x1 s0 s1 h
  | .inr (.inr (.inr (.inr (.inr (.inr (.inr (.inr (.inr (.inr (.inr (.inr (.inl (x0, x1, s0, s1, h))))))))))))) => tX7_init_90 x0 x1 s0 s1 h
  | .inr (.inr (.inr (.inr (.inr (.inr (.inr (.inr (.inr (.inr (.inr (.inr (.inr (x0, x2, h))))))))))))) => tX7_init_114 x0 x2 h
noncomputable def fX7_init (h : pm_H) (a0 : Nat) (p1 : Nat) : Option pm_H := pm_lim sX7_init (.inl ((a0, p1, h)))
set_option maxHeartbeats 4000000 in
set_option maxRecDepth 100000 in
theorem mlX7_init {r : pm_H} : ∀ n : Nat, (∀ (x0 : Nat) (x1 : Nat) (h : pm_H), pm_iter sX7_init n (.inl (x0, x1, h)) = some r → pm_Le h r) ∧ (∀ (x0 : Nat) (x1 : Nat) (s0 : Nat) (s1 : Nat) (h : pm_H), pm_iter sX7_init n (.inr (.inl (x0, x1, s0, s1, h))) = some r → pm_Le h r) ∧ (∀ (x0 : Nat) (x1 : Nat) (s0 : Nat) (s1 : Nat) (h : pm_H), pm_iter sX7_init n (.inr (.inr (.inl (x0, x1, s0, s1, h)))) = some r → pm_Le h r) ∧ (∀ (x0 : Nat) (x1 : Nat) (s0 : Nat) (s1 : Nat) (h : pm_H), pm_iter sX7_init n (.inr (.inr (.inr (.inl (x0, x1, s0, s1, h))))) = some r → pm_Le h r) ∧ (∀ (x0 : Nat) (x1 : Nat) (s0 : Nat) (s1 : Nat) (h : pm_H), pm_iter sX7_init n (.inr (.inr (.inr (.inr (.inl (x0, x1, s0, s1, h)))))) = some r → pm_Le h r) ∧ (∀ (x0 : Nat) (x1 : Nat) (s0 : Nat) (s1 : Nat) (h : pm_H), pm_iter sX7_init n (.inr (.inr (.inr (.inr (.inr (.inl (x0, x1, s0, s1, h))))))) = some r → pm_Le h r) ∧ (∀ (x0 : Nat) (x1 : Nat) (s0 : Nat) (s1 : Nat) (h : pm_H), pm_iter sX7_init n (.inr (.inr (.inr (.inr (.inr (.inr (.inl (x0, x1, s0, s1, h)))))))) = some r → pm_Le h r) ∧ (∀ (x0 : Nat) (x1 : Nat) (s0 : Nat) (s1 : Nat) (h : pm_H), pm_iter sX7_init n (.inr (.inr (.inr (.inr (.inr (.inr (.inr (.inl (x0, x1, s0, s1, h))))))))) = some r → pm_Le h r) ∧ (∀ (x0 : Nat) (x1 : Nat) (s0 : Nat) (s1 : Nat) (h : pm_H), pm_iter sX7_init n (.inr (.inr (.inr (.inr (.inr (.inr (.inr (.inr (.inl (x0, x1, s0, s1, h)))))))))) = some r → pm_Le h r) ∧ (∀ (x0 : Nat) (x1 : Nat) (s0 : Nat) (s1 : Nat) (h : pm_H), pm_iter sX7_init n (.inr (.inr (.inr (.inr (.inr (.inr (.inr (.inr (.inr (.inl (x0, x1, s0, s1, h))))))))))) = some r → pm_Le h r) ∧ (∀ (x0 : Nat) (x1 : Nat) (s0 : Nat) (s1 : Nat) (h : pm_H), pm_iter sX7_init n (.inr (.inr (.inr (.inr (.inr (.inr (.inr (.inr (.inr (.inr (.inl (x0, x1, s0, s1, h)))))))))))) = some r → pm_Le h r) ∧ (∀ (x0 : Nat) (x1 : Nat) (s0 : Nat) (s1 : Nat) (h : pm_H), pm_iter sX7_init n (.inr (.inr (.inr (.inr (.inr (.inr (.inr (.inr (.inr (.inr (.inr (.inl (x0, x1, s0, s1, h))))))))))))) = some r → pm_Le h r) ∧ (∀ (x0 : Nat) (x1 : Nat) (s0 : Nat) (s1 : Nat) (h : pm_H), pm_iter sX7_init n (.inr (.inr (.inr (.inr (.inr (.inr (.inr (.inr (.inr (.inr (.inr (.inr (.inl (x0, x1, s0, s1, h)))))))))))))) = some r → pm_Le h r) ∧ (∀ (x0 : Nat) (x2 : Int32) (h : pm_H), pm_iter sX7_init n (.inr (.inr (.inr (.inr (.inr (.inr (.inr (.inr (.inr (.inr (.inr (.inr (.inr (x0, x2, h)))))))))))))) = some r → pm_Le h r) := by
  intro n
  induction n with
  | zero => exact ⟨fun _ _ _ hf => (by cases hf), fun _ _ _ _ _ hf => (by cases hf), fun _ _ _ _ _ hf => (by cases hf), fun _ _ _ _ _ hf => (by cases hf), fun _ _ _ _ _ hf => (by cases hf), fun _ _ _ _ _ hf => (by cases hf), fun _ _ _ _ _ hf => (by cases hf), fun _ _ _ _ _ hf => (by cases hf), fun _ _ _ _ _ hf => (by cases hf), fun _ _ _ _ _ hf => (by cases hf), fun _ _ _ _ _ hf => (by cases hf), fun _ _ _ _ _ hf => (by cases hf), fun _ _ _ _ _ hf => (by cases hf), fun _ _ _ hf => (by cases hf)⟩
  | succ n ih =>
    refine ⟨fun x0 x1 h hf => ?_, ?_⟩
    · obtain ⟨y, hf, hi⟩ := pm_iter_s hf
      have hf : tX7_init_0 x0 x1 h = some y := hf
      unfold tX7_init_0 at hf
      have K0 := pm_S3.rf h
      cases hf
      exact ((pm_S3.le K0).trans (pm_Le_new _ _ _)).trans (ih.2.1 x0 x1 (pm_sz h) x0 (pm_new h 34 13) hi)
    refine ⟨fun x0 x1 s0 s1 h hf => ?_, ?_⟩
    · obtain ⟨y, hf, hi⟩ := pm_iter_s hf
      have hf : tX7_init_9 x0 x1 s0 s1 h = some y := hf
      unfold tX7_init_9 at hf
      have K0 := pm_S3.rf h
      obtain ⟨k1, hf⟩ := pm_if hf
      cases hf
      exact ((pm_S3.le (pm_S3R K0)).trans (pm_Le_ma _ _ _ _ _)).trans (ih.2.2.1 x0 x1 (pm_sz (pm_setR h s1 1 (some s0))) x0 (pm_ma (pm_setR h s1 1 (some s0)) 4 2 0 0) hi)
    refine ⟨fun x0 x1 s0 s1 h hf => ?_, ?_⟩
    · obtain ⟨y, hf, hi⟩ := pm_iter_s hf
      have hf : tX7_init_19 x0 x1 s0 s1 h = some y := hf
      unfold tX7_init_19 at hf
      have K0 := pm_S3.rf h
      obtain ⟨k2, hf⟩ := pm_if hf
      cases hf
      exact ((pm_S3.le (pm_S3R K0)).trans (pm_Le_new _ _ _)).trans (ih.2.2.2.1 x0 x1 (pm_sz (pm_setR h s1 2 (some s0))) x0 (pm_new (pm_setR h s1 2 (some s0)) 35 0) hi)
    refine ⟨fun x0 x1 s0 s1 h hf => ?_, ?_⟩
    · obtain ⟨y, hf, hi⟩ := pm_iter_s hf
      have hf : tX7_init_26 x0 x1 s0 s1 h = some y := hf
      unfold tX7_init_26 at hf
      have K0 := pm_S3.rf h
      obtain ⟨k3, hf⟩ := pm_if hf
      cases hf
      exact ((pm_S3.le (pm_S3R K0)).trans (pm_Le_new _ _ _)).trans (ih.2.2.2.2.1 x0 x1 (pm_sz (pm_setR h s1 3 (some s0))) x0 (pm_new (pm_setR h s1 3 (some s0)) 35 0) hi)
    refine ⟨fun x0 x1 s0 s1 h hf => ?_, ?_⟩
    · obtain ⟨y, hf, hi⟩ := pm_iter_s hf
      have hf : tX7_init_33 x0 x1 s0 s1 h = some y := hf
      unfold tX7_init_33 at hf
      have K0 := pm_S3.rf h
      obtain ⟨k4, hf⟩ := pm_if hf
      cases hf
      exact ((pm_S3.le (pm_S3R K0)).trans (pm_Le_new _ _ _)).trans (ih.2.2.2.2.2.1 x0 x1 (pm_sz (pm_setR h s1 4 (some s0))) x0 (pm_new (pm_setR h s1 4 (some s0)) 35 0) hi)
    refine ⟨fun x0 x1 s0 s1 h hf => ?_, ?_⟩
    · obtain ⟨y, hf, hi⟩ := pm_iter_s hf
      have hf : tX7_init_40 x0 x1 s0 s1 h = some y := hf
      unfold tX7_init_40 at hf
      have K0 := pm_S3.rf h
      obtain ⟨k5, hf⟩ := pm_if hf
      cases hf
      exact ((pm_S3.le (pm_S3R K0)).trans (pm_Le_new _ _ _)).trans (ih.2.2.2.2.2.2.1 x0 x1 (pm_sz (pm_setR h s1 5 (some s0))) x0 (pm_new (pm_setR h s1 5 (some s0)) 35 0) hi)
    refine ⟨fun x0 x1 s0 s1 h hf => ?_, ?_⟩
    · obtain ⟨y, hf, hi⟩ := pm_iter_s hf
      have hf : tX7_init_47 x0 x1 s0 s1 h = some y := hf
      unfold tX7_init_47 at hf
      have K0 := pm_S3.rf h
      obtain ⟨k6, hf⟩ := pm_if hf
      cases hf
      exact ((pm_S3.le (pm_S3R K0)).trans (pm_Le_new _ _ _)).trans (ih.2.2.2.2.2.2.2.1 x0 x1 (pm_sz (pm_setR h s1 6 (some s0))) x0 (pm_new (pm_setR h s1 6 (some s0)) 35 0) hi)
    refine ⟨fun x0 x1 s0 s1 h hf => ?_, ?_⟩
    · obtain ⟨y, hf, hi⟩ := pm_iter_s hf
      have hf : tX7_init_54 x0 x1 s0 s1 h = some y := hf
      unfold tX7_init_54 at hf
      have K0 := pm_S3.rf h
      obtain ⟨k7, hf⟩ := pm_if hf
      cases hf
      exact ((pm_S3.le (pm_S3R K0)).trans (pm_Le_new _ _ _)).trans (ih.2.2.2.2.2.2.2.2.1 x0 x1 (pm_sz (pm_setR h s1 7 (some s0))) x0 (pm_new (pm_setR h s1 7 (some s0)) 34 0) hi)
    refine ⟨fun x0 x1 s0 s1 h hf => ?_, ?_⟩
    · obtain ⟨y, hf, hi⟩ := pm_iter_s hf
      have hf : tX7_init_61 x0 x1 s0 s1 h = some y := hf
      unfold tX7_init_61 at hf
      have K0 := pm_S3.rf h
      obtain ⟨k8, hf⟩ := pm_if hf
      cases hf
      exact ((pm_S3.le (pm_S3R K0)).trans (pm_Le_new _ _ _)).trans (ih.2.2.2.2.2.2.2.2.2.1 x0 x1 (pm_sz (pm_setR h s1 8 (some s0))) x0 (pm_new (pm_setR h s1 8 (some s0)) 34 0) hi)
    refine ⟨fun x0 x1 s0 s1 h hf => ?_, ?_⟩
    · obtain ⟨y, hf, hi⟩ := pm_iter_s hf
      have hf : tX7_init_68 x0 x1 s0 s1 h = some y := hf
      unfold tX7_init_68 at hf
      have K0 := pm_S3.rf h
      obtain ⟨k9, hf⟩ := pm_if hf
      cases hf
      exact ((pm_S3.le (pm_S3R K0)).trans (pm_Le_new _ _ _)).trans (ih.2.2.2.2.2.2.2.2.2.2.1 x0 x1 (pm_sz (pm_setR h s1 9 (some s0))) x0 (pm_new (pm_setR h s1 9 (some s0)) 34 0) hi)
    refine ⟨fun x0 x1 s0 s1 h hf => ?_, ?_⟩
    · obtain ⟨y, hf, hi⟩ := pm_iter_s hf
      have hf : tX7_init_75 x0 x1 s0 s1 h = some y := hf
      unfold tX7_init_75 at hf
      have K0 := pm_S3.rf h
      obtain ⟨k10, hf⟩ := pm_if hf
      cases hf
      exact ((pm_S3.le (pm_S3R K0)).trans (pm_Le_new _ _ _)).trans (ih.2.2.2.2.2.2.2.2.2.2.2.1 x0 x1 (pm_sz (pm_setR h s1 10 (some s0))) x0 (pm_new (pm_setR h s1 10 (some s0)) 34 0) hi)
    refine ⟨fun x0 x1 s0 s1 h hf => ?_, ?_⟩
    · obtain ⟨y, hf, hi⟩ := pm_iter_s hf
      have hf : tX7_init_82 x0 x1 s0 s1 h = some y := hf
      unfold tX7_init_82 at hf
      have K0 := pm_S3.rf h
      obtain ⟨k11, hf⟩ := pm_if hf
      cases hf
      exact ((pm_S3.le (pm_S3R K0)).trans (pm_Le_new _ _ _)).trans (ih.2.2.2.2.2.2.2.2.2.2.2.2.1 x0 x1 (pm_sz (pm_setR h s1 11 (some s0))) x0 (pm_new (pm_setR h s1 11 (some s0)) 38 0) hi)
    refine ⟨fun x0 x1 s0 s1 h hf => ?_, ?_⟩
    · obtain ⟨y, hf, hi⟩ := pm_iter_s hf
      have hf : tX7_init_90 x0 x1 s0 s1 h = some y := hf
      unfold tX7_init_90 at hf
      have K0 := pm_S3.rf h
      obtain ⟨k12, hf⟩ := pm_if hf
      obtain ⟨k13, hf⟩ := pm_if hf
      cases hf
      exact (pm_S3.le (pm_S3R (pm_S3L (pm_S3L (pm_S3R K0))))).trans (ih.2.2.2.2.2.2.2.2.2.2.2.2.2 x0 0 (pm_setR (pm_setL (pm_setL (pm_setR h s1 12 (some s0)) x0 13 (-1)) x0 14 (-1)) x0 0 (some x1)) hi)
    refine fun x0 x2 h hf => ?_
    obtain ⟨y, hf, hi⟩ := pm_iter_s hf
    have hf : tX7_init_114 x0 x2 h = some y := hf
    unfold tX7_init_114 at hf
    have K0 := pm_S3.rf h
    obtain ⟨k14, hf⟩ := pm_if hf
    obtain ⟨v15, e16, hf⟩ := pm_bd hf
    obtain ⟨k17, hf⟩ := pm_if hf
    by_cases c18 : (Int32.ofNat (pm_ln h v15)) ≤ x2
    · have hf := pm_it hf c18
      have hf := Option.some.inj hf
      subst hf
      have hi := Option.some.inj (show some _ = some r from hi)
      subst hi
      exact pm_S3.le K0
    · have hf := pm_ie hf c18
      obtain ⟨u19, hf⟩ := pm_if hf
      obtain ⟨y20, e21, hf⟩ := pm_lt hf
      cases hf
      exact (pm_S3.le (pm_S3I K0)).trans (ih.2.2.2.2.2.2.2.2.2.2.2.2.2 x0 y20 (pm_setI h v15 x2.toNatClampNeg (-1)) hi)
set_option maxHeartbeats 4000000 in
set_option maxRecDepth 100000 in
theorem moX7_init {h : pm_H} {a0 : Nat} {p1 : Nat} {r : pm_H} (hf : fX7_init h a0 p1 = some r) : pm_Le h r := by
  unfold fX7_init at hf
  have K0 := pm_S3.rf h
  obtain ⟨n, hn⟩ := pm_lim_iter hf
  exact (mlX7_init n).1 a0 p1 h hn
set_option maxHeartbeats 4000000 in
set_option maxRecDepth 100000 in
theorem lpX7_init {g : pm_Gm} {l : Launch} {G : pm_Gl} {Qr : Option Value → pm_H → Prop} (C : pm_C g cX7_init RX7) {h0 : pm_H} {r : pm_H} (X : pm_X g l G mX7_init (pm_sz r - pm_sz h0) (pm_us r - pm_us h0) Qr) (q : Qr none r) (nm : g.2.2.2.2.2.2.2.2.1.name = "<init>") : ∀ n : Nat, (∀ (x0 : Nat) (x1 : Nat) (h : pm_H), pm_Le h0 h → pm_iter sX7_init n (.inl (x0, x1, h)) = some r → pm_G g 0 [(0, .ref x0), (1, .ref x1)] [] h (pm_sz h - pm_sz h0) (pm_us h - pm_us h0)) ∧ (∀ (x0 : Nat) (x1 : Nat) (s0 : Nat) (s1 : Nat) (h : pm_H), pm_Le h0 h → pm_iter sX7_init n (.inr (.inl (x0, x1, s0, s1, h))) = some r → pm_G g 9 [(0, .ref x0), (1, .ref x1)] [.ref s0, .ref s1] h (pm_sz h - pm_sz h0) (pm_us h - pm_us h0)) ∧ (∀ (x0 : Nat) (x1 : Nat) (s0 : Nat) (s1 : Nat) (h : pm_H), pm_Le h0 h → pm_iter sX7_init n (.inr (.inr (.inl (x0, x1, s0, s1, h)))) = some r → pm_G g 19 [(0, .ref x0), (1, .ref x1)] [.ref s0, .ref s1] h (pm_sz h - pm_sz h0) (pm_us h - pm_us h0)) ∧ (∀ (x0 : Nat) (x1 : Nat) (s0 : Nat) (s1 : Nat) (h : pm_H), pm_Le h0 h → pm_iter sX7_init n (.inr (.inr (.inr (.inl (x0, x1, s0, s1, h))))) = some r → pm_G g 26 [(0, .ref x0), (1, .ref x1)] [.ref s0, .ref s1] h (pm_sz h - pm_sz h0) (pm_us h - pm_us h0)) ∧ (∀ (x0 : Nat) (x1 : Nat) (s0 : Nat) (s1 : Nat) (h : pm_H), pm_Le h0 h → pm_iter sX7_init n (.inr (.inr (.inr (.inr (.inl (x0, x1, s0, s1, h)))))) = some r → pm_G g 33 [(0, .ref x0), (1, .ref x1)] [.ref s0, .ref s1] h (pm_sz h - pm_sz h0) (pm_us h - pm_us h0)) ∧ (∀ (x0 : Nat) (x1 : Nat) (s0 : Nat) (s1 : Nat) (h : pm_H), pm_Le h0 h → pm_iter sX7_init n (.inr (.inr (.inr (.inr (.inr (.inl (x0, x1, s0, s1, h))))))) = some r → pm_G g 40 [(0, .ref x0), (1, .ref x1)] [.ref s0, .ref s1] h (pm_sz h - pm_sz h0) (pm_us h - pm_us h0)) ∧ (∀ (x0 : Nat) (x1 : Nat) (s0 : Nat) (s1 : Nat) (h : pm_H), pm_Le h0 h → pm_iter sX7_init n (.inr (.inr (.inr (.inr (.inr (.inr (.inl (x0, x1, s0, s1, h)))))))) = some r → pm_G g 47 [(0, .ref x0), (1, .ref x1)] [.ref s0, .ref s1] h (pm_sz h - pm_sz h0) (pm_us h - pm_us h0)) ∧ (∀ (x0 : Nat) (x1 : Nat) (s0 : Nat) (s1 : Nat) (h : pm_H), pm_Le h0 h → pm_iter sX7_init n (.inr (.inr (.inr (.inr (.inr (.inr (.inr (.inl (x0, x1, s0, s1, h))))))))) = some r → pm_G g 54 [(0, .ref x0), (1, .ref x1)] [.ref s0, .ref s1] h (pm_sz h - pm_sz h0) (pm_us h - pm_us h0)) ∧ (∀ (x0 : Nat) (x1 : Nat) (s0 : Nat) (s1 : Nat) (h : pm_H), pm_Le h0 h → pm_iter sX7_init n (.inr (.inr (.inr (.inr (.inr (.inr (.inr (.inr (.inl (x0, x1, s0, s1, h)))))))))) = some r → pm_G g 61 [(0, .ref x0), (1, .ref x1)] [.ref s0, .ref s1] h (pm_sz h - pm_sz h0) (pm_us h - pm_us h0)) ∧ (∀ (x0 : Nat) (x1 : Nat) (s0 : Nat) (s1 : Nat) (h : pm_H), pm_Le h0 h → pm_iter sX7_init n (.inr (.inr (.inr (.inr (.inr (.inr (.inr (.inr (.inr (.inl (x0, x1, s0, s1, h))))))))))) = some r → pm_G g 68 [(0, .ref x0), (1, .ref x1)] [.ref s0, .ref s1] h (pm_sz h - pm_sz h0) (pm_us h - pm_us h0)) ∧ (∀ (x0 : Nat) (x1 : Nat) (s0 : Nat) (s1 : Nat) (h : pm_H), pm_Le h0 h → pm_iter sX7_init n (.inr (.inr (.inr (.inr (.inr (.inr (.inr (.inr (.inr (.inr (.inl (x0, x1, s0, s1, h)))))))))))) = some r → pm_G g 75 [(0, .ref x0), (1, .ref x1)] [.ref s0, .ref s1] h (pm_sz h - pm_sz h0) (pm_us h - pm_us h0)) ∧ (∀ (x0 : Nat) (x1 : Nat) (s0 : Nat) (s1 : Nat) (h : pm_H), pm_Le h0 h → pm_iter sX7_init n (.inr (.inr (.inr (.inr (.inr (.inr (.inr (.inr (.inr (.inr (.inr (.inl (x0, x1, s0, s1, h))))))))))))) = some r → pm_G g 82 [(0, .ref x0), (1, .ref x1)] [.ref s0, .ref s1] h (pm_sz h - pm_sz h0) (pm_us h - pm_us h0)) ∧ (∀ (x0 : Nat) (x1 : Nat) (s0 : Nat) (s1 : Nat) (h : pm_H), pm_Le h0 h → pm_iter sX7_init n (.inr (.inr (.inr (.inr (.inr (.inr (.inr (.inr (.inr (.inr (.inr (.inr (.inl (x0, x1, s0, s1, h)))))))))))))) = some r → pm_G g 90 [(0, .ref x0), (1, .ref x1)] [.ref s0, .ref s1] h (pm_sz h - pm_sz h0) (pm_us h - pm_us h0)) ∧ (∀ (x0 : Nat) (x2 : Int32) (h : pm_H), pm_Le h0 h → pm_iter sX7_init n (.inr (.inr (.inr (.inr (.inr (.inr (.inr (.inr (.inr (.inr (.inr (.inr (.inr (x0, x2, h)))))))))))))) = some r → pm_G g 114 [(0, .ref x0), (2, .int x2)] [] h (pm_sz h - pm_sz h0) (pm_us h - pm_us h0)) := by
  intro n
  induction n with
  | zero => exact ⟨fun _ _ _ _ hf => (by cases hf), fun _ _ _ _ _ _ hf => (by cases hf), fun _ _ _ _ _ _ hf => (by cases hf), fun _ _ _ _ _ _ hf => (by cases hf), fun _ _ _ _ _ _ hf => (by cases hf), fun _ _ _ _ _ _ hf => (by cases hf), fun _ _ _ _ _ _ hf => (by cases hf), fun _ _ _ _ _ _ hf => (by cases hf), fun _ _ _ _ _ _ hf => (by cases hf), fun _ _ _ _ _ _ hf => (by cases hf), fun _ _ _ _ _ _ hf => (by cases hf), fun _ _ _ _ _ _ hf => (by cases hf), fun _ _ _ _ _ _ hf => (by cases hf), fun _ _ _ _ hf => (by cases hf)⟩
  | succ n ih =>
    refine ⟨fun x0 x1 h m0 hf => ?_, ?_⟩
    · have le0 := (mlX7_init (n + 1)).1 x0 x1 h hf
      have kc1 := Nat.sub_le_sub_right le0.1 (pm_sz h0)
      have kc2 := Nat.sub_le_sub_right le0.2 (pm_us h0)
      have K0 := pm_S3.rf h
      obtain ⟨y, hf, hi⟩ := pm_iter_s hf
      have hf : tX7_init_0 x0 x1 h = some y := hf
      unfold tX7_init_0 at hf
      refine pm_aload_n C dX7_init_0 rfl rfl ?_
      refine pm_obj C X dX7_init_1 obX7_1 obI obC (by decide) (by decide) (Nat.le_of_ble_eq_true rfl) ?_
      refine pm_aload_n C dX7_init_4 rfl rfl ?_
      refine pm_bipush (v := 13) C dX7_init_5 (by decide) ?_
      cases hf
      refine pa_newa (hb := h) (h0 := h0) (t := 2) (N := 13) C X K0 m0 dX7_init_7 (by decide) rfl al2 (by decide) (by decide +kernel) (by decide +kernel) ((mlX7_init n).2.1 x0 x1 (pm_sz h) x0 (pm_new h 34 13) hi) ?_
      exact pm_sub [0, 1] rfl (ih.2.1 x0 x1 (pm_sz h) x0 (pm_new h 34 13) ((m0.trans (pm_S3.le K0)).trans (pm_Le_new _ _ _)) hi)
    refine ⟨fun x0 x1 s0 s1 h m0 hf => ?_, ?_⟩
    · have le0 := (mlX7_init (n + 1)).2.1 x0 x1 s0 s1 h hf
      have kc1 := Nat.sub_le_sub_right le0.1 (pm_sz h0)
      have kc2 := Nat.sub_le_sub_right le0.2 (pm_us h0)
      have K0 := pm_S3.rf h
      obtain ⟨y, hf, hi⟩ := pm_iter_s hf
      have hf : tX7_init_9 x0 x1 s0 s1 h = some y := hf
      unfold tX7_init_9 at hf
      obtain ⟨k1, hf⟩ := pm_if hf
      refine pm_putRF C dX7_init_9 flX7_7 rfl nm rfl fwX7_7 rfl k1 ?_
      refine pm_aload_n C dX7_init_12 rfl rfl ?_
      refine pm_iconst (v := 0) C dX7_init_13 (by decide) ?_
      refine pm_iconst (v := 0) C dX7_init_14 (by decide) ?_
      cases hf
      refine pa_mna (hb := h) (h0 := h0) (t := 4) (u := 2) (N := 0) C X (pm_S3R K0) m0 dX7_init_15 (Or.inl ⟨rfl, rfl⟩) cmX7_13 al2 (by decide) (by decide +kernel) (by decide +kernel) ((mlX7_init n).2.2.1 x0 x1 (pm_sz (pm_setR h s1 1 (some s0))) x0 (pm_ma (pm_setR h s1 1 (some s0)) 4 2 0 0) hi) ?_
      exact pm_sub [0, 1] rfl (ih.2.2.1 x0 x1 (pm_sz (pm_setR h s1 1 (some s0))) x0 (pm_ma (pm_setR h s1 1 (some s0)) 4 2 0 0) ((m0.trans (pm_S3.le (pm_S3R K0))).trans (pm_Le_ma _ _ _ _ _)) hi)
    refine ⟨fun x0 x1 s0 s1 h m0 hf => ?_, ?_⟩
    · have le0 := (mlX7_init (n + 1)).2.2.1 x0 x1 s0 s1 h hf
      have kc1 := Nat.sub_le_sub_right le0.1 (pm_sz h0)
      have kc2 := Nat.sub_le_sub_right le0.2 (pm_us h0)
      have K0 := pm_S3.rf h
      obtain ⟨y, hf, hi⟩ := pm_iter_s hf
      have hf : tX7_init_19 x0 x1 s0 s1 h = some y := hf
      unfold tX7_init_19 at hf
      obtain ⟨k2, hf⟩ := pm_if hf
      refine pm_putR C dX7_init_19 flX7_15 rfl rfl k2 ?_
      refine pm_aload_n C dX7_init_22 rfl rfl ?_
      refine pm_iconst (v := 0) C dX7_init_23 (by decide) ?_
      cases hf
      refine pa_newa (hb := h) (h0 := h0) (t := 3) (N := 0) C X (pm_S3R K0) m0 dX7_init_24 (by decide) rfl al3 (by decide) (by decide +kernel) (by decide +kernel) ((mlX7_init n).2.2.2.1 x0 x1 (pm_sz (pm_setR h s1 2 (some s0))) x0 (pm_new (pm_setR h s1 2 (some s0)) 35 0) hi) ?_
      exact pm_sub [0, 1] rfl (ih.2.2.2.1 x0 x1 (pm_sz (pm_setR h s1 2 (some s0))) x0 (pm_new (pm_setR h s1 2 (some s0)) 35 0) ((m0.trans (pm_S3.le (pm_S3R K0))).trans (pm_Le_new _ _ _)) hi)
    refine ⟨fun x0 x1 s0 s1 h m0 hf => ?_, ?_⟩
    · have le0 := (mlX7_init (n + 1)).2.2.2.1 x0 x1 s0 s1 h hf
      have kc1 := Nat.sub_le_sub_right le0.1 (pm_sz h0)
      have kc2 := Nat.sub_le_sub_right le0.2 (pm_us h0)
      have K0 := pm_S3.rf h
      obtain ⟨y, hf, hi⟩ := pm_iter_s hf
      have hf : tX7_init_26 x0 x1 s0 s1 h = some y := hf
      unfold tX7_init_26 at hf
      obtain ⟨k3, hf⟩ := pm_if hf
      refine pm_putR C dX7_init_26 flX7_18 rfl rfl k3 ?_
      refine pm_aload_n C dX7_init_29 rfl rfl ?_
      refine pm_iconst (v := 0) C dX7_init_30 (by decide) ?_
      cases hf
      refine pa_newa (hb := h) (h0 := h0) (t := 3) (N := 0) C X (pm_S3R K0) m0 dX7_init_31 (by decide) rfl al3 (by decide) (by decide +kernel) (by decide +kernel) ((mlX7_init n).2.2.2.2.1 x0 x1 (pm_sz (pm_setR h s1 3 (some s0))) x0 (pm_new (pm_setR h s1 3 (some s0)) 35 0) hi) ?_
      exact pm_sub [0, 1] rfl (ih.2.2.2.2.1 x0 x1 (pm_sz (pm_setR h s1 3 (some s0))) x0 (pm_new (pm_setR h s1 3 (some s0)) 35 0) ((m0.trans (pm_S3.le (pm_S3R K0))).trans (pm_Le_new _ _ _)) hi)
    refine ⟨fun x0 x1 s0 s1 h m0 hf => ?_, ?_⟩
    · have le0 := (mlX7_init (n + 1)).2.2.2.2.1 x0 x1 s0 s1 h hf
      have kc1 := Nat.sub_le_sub_right le0.1 (pm_sz h0)
      have kc2 := Nat.sub_le_sub_right le0.2 (pm_us h0)
      have K0 := pm_S3.rf h
      obtain ⟨y, hf, hi⟩ := pm_iter_s hf
      have hf : tX7_init_33 x0 x1 s0 s1 h = some y := hf
      unfold tX7_init_33 at hf
      obtain ⟨k4, hf⟩ := pm_if hf
      refine pm_putR C dX7_init_33 flX7_22 rfl rfl k4 ?_
      refine pm_aload_n C dX7_init_36 rfl rfl ?_
      refine pm_iconst (v := 0) C dX7_init_37 (by decide) ?_
      cases hf
      refine pa_newa (hb := h) (h0 := h0) (t := 3) (N := 0) C X (pm_S3R K0) m0 dX7_init_38 (by decide) rfl al3 (by decide) (by decide +kernel) (by decide +kernel) ((mlX7_init n).2.2.2.2.2.1 x0 x1 (pm_sz (pm_setR h s1 4 (some s0))) x0 (pm_new (pm_setR h s1 4 (some s0)) 35 0) hi) ?_
      exact pm_sub [0, 1] rfl (ih.2.2.2.2.2.1 x0 x1 (pm_sz (pm_setR h s1 4 (some s0))) x0 (pm_new (pm_setR h s1 4 (some s0)) 35 0) ((m0.trans (pm_S3.le (pm_S3R K0))).trans (pm_Le_new _ _ _)) hi)
    refine ⟨fun x0 x1 s0 s1 h m0 hf => ?_, ?_⟩
    · have le0 := (mlX7_init (n + 1)).2.2.2.2.2.1 x0 x1 s0 s1 h hf
      have kc1 := Nat.sub_le_sub_right le0.1 (pm_sz h0)
      have kc2 := Nat.sub_le_sub_right le0.2 (pm_us h0)
      have K0 := pm_S3.rf h
      obtain ⟨y, hf, hi⟩ := pm_iter_s hf
      have hf : tX7_init_40 x0 x1 s0 s1 h = some y := hf
      unfold tX7_init_40 at hf
      obtain ⟨k5, hf⟩ := pm_if hf
      refine pm_putR C dX7_init_40 flX7_25 rfl rfl k5 ?_
      refine pm_aload_n C dX7_init_43 rfl rfl ?_
      refine pm_iconst (v := 0) C dX7_init_44 (by decide) ?_
      cases hf
      refine pa_newa (hb := h) (h0 := h0) (t := 3) (N := 0) C X (pm_S3R K0) m0 dX7_init_45 (by decide) rfl al3 (by decide) (by decide +kernel) (by decide +kernel) ((mlX7_init n).2.2.2.2.2.2.1 x0 x1 (pm_sz (pm_setR h s1 5 (some s0))) x0 (pm_new (pm_setR h s1 5 (some s0)) 35 0) hi) ?_
      exact pm_sub [0, 1] rfl (ih.2.2.2.2.2.2.1 x0 x1 (pm_sz (pm_setR h s1 5 (some s0))) x0 (pm_new (pm_setR h s1 5 (some s0)) 35 0) ((m0.trans (pm_S3.le (pm_S3R K0))).trans (pm_Le_new _ _ _)) hi)
    refine ⟨fun x0 x1 s0 s1 h m0 hf => ?_, ?_⟩
    · have le0 := (mlX7_init (n + 1)).2.2.2.2.2.2.1 x0 x1 s0 s1 h hf
      have kc1 := Nat.sub_le_sub_right le0.1 (pm_sz h0)
      have kc2 := Nat.sub_le_sub_right le0.2 (pm_us h0)
      have K0 := pm_S3.rf h
      obtain ⟨y, hf, hi⟩ := pm_iter_s hf
      have hf : tX7_init_47 x0 x1 s0 s1 h = some y := hf
      unfold tX7_init_47 at hf
      obtain ⟨k6, hf⟩ := pm_if hf
      refine pm_putR C dX7_init_47 flX7_28 rfl rfl k6 ?_
      refine pm_aload_n C dX7_init_50 rfl rfl ?_
      refine pm_iconst (v := 0) C dX7_init_51 (by decide) ?_
      cases hf
      refine pa_newa (hb := h) (h0 := h0) (t := 3) (N := 0) C X (pm_S3R K0) m0 dX7_init_52 (by decide) rfl al3 (by decide) (by decide +kernel) (by decide +kernel) ((mlX7_init n).2.2.2.2.2.2.2.1 x0 x1 (pm_sz (pm_setR h s1 6 (some s0))) x0 (pm_new (pm_setR h s1 6 (some s0)) 35 0) hi) ?_
      exact pm_sub [0, 1] rfl (ih.2.2.2.2.2.2.2.1 x0 x1 (pm_sz (pm_setR h s1 6 (some s0))) x0 (pm_new (pm_setR h s1 6 (some s0)) 35 0) ((m0.trans (pm_S3.le (pm_S3R K0))).trans (pm_Le_new _ _ _)) hi)
    refine ⟨fun x0 x1 s0 s1 h m0 hf => ?_, ?_⟩
    · have le0 := (mlX7_init (n + 1)).2.2.2.2.2.2.2.1 x0 x1 s0 s1 h hf
      have kc1 := Nat.sub_le_sub_right le0.1 (pm_sz h0)
      have kc2 := Nat.sub_le_sub_right le0.2 (pm_us h0)
      have K0 := pm_S3.rf h
      obtain ⟨y, hf, hi⟩ := pm_iter_s hf
      have hf : tX7_init_54 x0 x1 s0 s1 h = some y := hf
      unfold tX7_init_54 at hf
      obtain ⟨k7, hf⟩ := pm_if hf
      refine pm_putR C dX7_init_54 flX7_31 rfl rfl k7 ?_
      refine pm_aload_n C dX7_init_57 rfl rfl ?_
      refine pm_iconst (v := 0) C dX7_init_58 (by decide) ?_
      cases hf
      refine pa_newa (hb := h) (h0 := h0) (t := 2) (N := 0) C X (pm_S3R K0) m0 dX7_init_59 (by decide) rfl al2 (by decide) (by decide +kernel) (by decide +kernel) ((mlX7_init n).2.2.2.2.2.2.2.2.1 x0 x1 (pm_sz (pm_setR h s1 7 (some s0))) x0 (pm_new (pm_setR h s1 7 (some s0)) 34 0) hi) ?_
      exact pm_sub [0, 1] rfl (ih.2.2.2.2.2.2.2.2.1 x0 x1 (pm_sz (pm_setR h s1 7 (some s0))) x0 (pm_new (pm_setR h s1 7 (some s0)) 34 0) ((m0.trans (pm_S3.le (pm_S3R K0))).trans (pm_Le_new _ _ _)) hi)
    refine ⟨fun x0 x1 s0 s1 h m0 hf => ?_, ?_⟩
    · have le0 := (mlX7_init (n + 1)).2.2.2.2.2.2.2.2.1 x0 x1 s0 s1 h hf
      have kc1 := Nat.sub_le_sub_right le0.1 (pm_sz h0)
      have kc2 := Nat.sub_le_sub_right le0.2 (pm_us h0)
      have K0 := pm_S3.rf h
      obtain ⟨y, hf, hi⟩ := pm_iter_s hf
      have hf : tX7_init_61 x0 x1 s0 s1 h = some y := hf
      unfold tX7_init_61 at hf
      obtain ⟨k8, hf⟩ := pm_if hf
      refine pm_putR C dX7_init_61 flX7_34 rfl rfl k8 ?_
      refine pm_aload_n C dX7_init_64 rfl rfl ?_
      refine pm_iconst (v := 0) C dX7_init_65 (by decide) ?_
      cases hf
      refine pa_newa (hb := h) (h0 := h0) (t := 2) (N := 0) C X (pm_S3R K0) m0 dX7_init_66 (by decide) rfl al2 (by decide) (by decide +kernel) (by decide +kernel) ((mlX7_init n).2.2.2.2.2.2.2.2.2.1 x0 x1 (pm_sz (pm_setR h s1 8 (some s0))) x0 (pm_new (pm_setR h s1 8 (some s0)) 34 0) hi) ?_
      exact pm_sub [0, 1] rfl (ih.2.2.2.2.2.2.2.2.2.1 x0 x1 (pm_sz (pm_setR h s1 8 (some s0))) x0 (pm_new (pm_setR h s1 8 (some s0)) 34 0) ((m0.trans (pm_S3.le (pm_S3R K0))).trans (pm_Le_new _ _ _)) hi)
    refine ⟨fun x0 x1 s0 s1 h m0 hf => ?_, ?_⟩
    · have le0 := (mlX7_init (n + 1)).2.2.2.2.2.2.2.2.2.1 x0 x1 s0 s1 h hf
      have kc1 := Nat.sub_le_sub_right le0.1 (pm_sz h0)
      have kc2 := Nat.sub_le_sub_right le0.2 (pm_us h0)
      have K0 := pm_S3.rf h
      obtain ⟨y, hf, hi⟩ := pm_iter_s hf
      have hf : tX7_init_68 x0 x1 s0 s1 h = some y := hf
      unfold tX7_init_68 at hf
      obtain ⟨k9, hf⟩ := pm_if hf
      refine pm_putR C dX7_init_68 flX7_37 rfl rfl k9 ?_
      refine pm_aload_n C dX7_init_71 rfl rfl ?_
      refine pm_iconst (v := 0) C dX7_init_72 (by decide) ?_
      cases hf
      refine pa_newa (hb := h) (h0 := h0) (t := 2) (N := 0) C X (pm_S3R K0) m0 dX7_init_73 (by decide) rfl al2 (by decide) (by decide +kernel) (by decide +kernel) ((mlX7_init n).2.2.2.2.2.2.2.2.2.2.1 x0 x1 (pm_sz (pm_setR h s1 9 (some s0))) x0 (pm_new (pm_setR h s1 9 (some s0)) 34 0) hi) ?_
      exact pm_sub [0, 1] rfl (ih.2.2.2.2.2.2.2.2.2.2.1 x0 x1 (pm_sz (pm_setR h s1 9 (some s0))) x0 (pm_new (pm_setR h s1 9 (some s0)) 34 0) ((m0.trans (pm_S3.le (pm_S3R K0))).trans (pm_Le_new _ _ _)) hi)
    refine ⟨fun x0 x1 s0 s1 h m0 hf => ?_, ?_⟩
    · have le0 := (mlX7_init (n + 1)).2.2.2.2.2.2.2.2.2.2.1 x0 x1 s0 s1 h hf
      have kc1 := Nat.sub_le_sub_right le0.1 (pm_sz h0)
      have kc2 := Nat.sub_le_sub_right le0.2 (pm_us h0)
      have K0 := pm_S3.rf h
      obtain ⟨y, hf, hi⟩ := pm_iter_s hf
      have hf : tX7_init_75 x0 x1 s0 s1 h = some y := hf
      unfold tX7_init_75 at hf
      obtain ⟨k10, hf⟩ := pm_if hf
      refine pm_putR C dX7_init_75 flX7_40 rfl rfl k10 ?_
      refine pm_aload_n C dX7_init_78 rfl rfl ?_
      refine pm_iconst (v := 0) C dX7_init_79 (by decide) ?_
      cases hf
      refine pa_newa (hb := h) (h0 := h0) (t := 2) (N := 0) C X (pm_S3R K0) m0 dX7_init_80 (by decide) rfl al2 (by decide) (by decide +kernel) (by decide +kernel) ((mlX7_init n).2.2.2.2.2.2.2.2.2.2.2.1 x0 x1 (pm_sz (pm_setR h s1 10 (some s0))) x0 (pm_new (pm_setR h s1 10 (some s0)) 34 0) hi) ?_
      exact pm_sub [0, 1] rfl (ih.2.2.2.2.2.2.2.2.2.2.2.1 x0 x1 (pm_sz (pm_setR h s1 10 (some s0))) x0 (pm_new (pm_setR h s1 10 (some s0)) 34 0) ((m0.trans (pm_S3.le (pm_S3R K0))).trans (pm_Le_new _ _ _)) hi)
    refine ⟨fun x0 x1 s0 s1 h m0 hf => ?_, ?_⟩
    · have le0 := (mlX7_init (n + 1)).2.2.2.2.2.2.2.2.2.2.2.1 x0 x1 s0 s1 h hf
      have kc1 := Nat.sub_le_sub_right le0.1 (pm_sz h0)
      have kc2 := Nat.sub_le_sub_right le0.2 (pm_us h0)
      have K0 := pm_S3.rf h
      obtain ⟨y, hf, hi⟩ := pm_iter_s hf
      have hf : tX7_init_82 x0 x1 s0 s1 h = some y := hf
      unfold tX7_init_82 at hf
      obtain ⟨k11, hf⟩ := pm_if hf
      refine pm_putR C dX7_init_82 flX7_43 rfl rfl k11 ?_
      refine pm_aload_n C dX7_init_85 rfl rfl ?_
      refine pm_iconst (v := 0) C dX7_init_86 (by decide) ?_
      cases hf
      refine pa_newq (hb := h) (h0 := h0) (t := 6) (c := 0) (N := 0) C X (pm_S3R K0) m0 dX7_init_87 (by decide) rfl ao0 ckX7_46 (by decide) (by decide +kernel) (by decide +kernel) ((mlX7_init n).2.2.2.2.2.2.2.2.2.2.2.2.1 x0 x1 (pm_sz (pm_setR h s1 11 (some s0))) x0 (pm_new (pm_setR h s1 11 (some s0)) 38 0) hi) ?_
      exact pm_sub [0, 1] rfl (ih.2.2.2.2.2.2.2.2.2.2.2.2.1 x0 x1 (pm_sz (pm_setR h s1 11 (some s0))) x0 (pm_new (pm_setR h s1 11 (some s0)) 38 0) ((m0.trans (pm_S3.le (pm_S3R K0))).trans (pm_Le_new _ _ _)) hi)
    refine ⟨fun x0 x1 s0 s1 h m0 hf => ?_, ?_⟩
    · have le0 := (mlX7_init (n + 1)).2.2.2.2.2.2.2.2.2.2.2.2.1 x0 x1 s0 s1 h hf
      have kc1 := Nat.sub_le_sub_right le0.1 (pm_sz h0)
      have kc2 := Nat.sub_le_sub_right le0.2 (pm_us h0)
      have K0 := pm_S3.rf h
      obtain ⟨y, hf, hi⟩ := pm_iter_s hf
      have hf : tX7_init_90 x0 x1 s0 s1 h = some y := hf
      unfold tX7_init_90 at hf
      obtain ⟨k12, hf⟩ := pm_if hf
      refine pm_putR C dX7_init_90 flX7_48 rfl rfl k12 ?_
      refine pm_aload_n C dX7_init_93 rfl rfl ?_
      refine pm_ldc2 C dX7_init_94 cnX7_52 ?_
      obtain ⟨k13, hf⟩ := pm_if hf
      refine pm_putL C dX7_init_97 flX7_54 rfl rfl k13 ?_
      refine pm_aload_n C dX7_init_100 rfl rfl ?_
      refine pm_ldc2 C dX7_init_101 cnX7_52 ?_
      refine pm_putL C dX7_init_104 flX7_58 rfl rfl k13 ?_
      refine pm_aload_n C dX7_init_107 rfl rfl ?_
      refine pm_aload_n C dX7_init_108 rfl rfl ?_
      refine pm_putRF C dX7_init_109 flX7_61 rfl nm rfl fwX7_61 rfl k13 ?_
      refine pm_iconst (v := 0) C dX7_init_112 (by decide) ?_
      refine pm_istore_n (lv' := [(2, .int 0), (0, .ref x0), (1, .ref x1)]) C dX7_init_113 rfl (pm_nl X (by decide)) rfl ?_
      cases hf
      exact pa_join (pm_S3R (pm_S3L (pm_S3L (pm_S3R K0)))) (pm_sub [1, 0] rfl (ih.2.2.2.2.2.2.2.2.2.2.2.2.2 x0 0 (pm_setR (pm_setL (pm_setL (pm_setR h s1 12 (some s0)) x0 13 (-1)) x0 14 (-1)) x0 0 (some x1)) (m0.trans (pm_S3.le (pm_S3R (pm_S3L (pm_S3L (pm_S3R K0)))))) hi))
    refine fun x0 x2 h m0 hf => ?_
    have le0 := (mlX7_init (n + 1)).2.2.2.2.2.2.2.2.2.2.2.2.2 x0 x2 h hf
    have kc1 := Nat.sub_le_sub_right le0.1 (pm_sz h0)
    have kc2 := Nat.sub_le_sub_right le0.2 (pm_us h0)
    have K0 := pm_S3.rf h
    obtain ⟨y, hf, hi⟩ := pm_iter_s hf
    have hf : tX7_init_114 x0 x2 h = some y := hf
    unfold tX7_init_114 at hf
    refine pm_iload_n C dX7_init_114 rfl rfl ?_
    refine pm_aload_n C dX7_init_115 rfl rfl ?_
    obtain ⟨k14, hf⟩ := pm_if hf
    obtain ⟨v15, e16, hf⟩ := pm_bd hf
    refine pm_getR C dX7_init_116 flX7_7 rfl k14 e16 ?_
    obtain ⟨k17, hf⟩ := pm_if hf
    refine pm_alen (t := 2) C dX7_init_119 (by decide) k17 rfl ?_
    refine pm_icmp_ge (tgt := 136) C dX7_init_120 (by decide) (fun c18 => ?_) (fun c18 => ?_)
    · have hf := pm_it hf c18
      have hf := Option.some.inj hf
      subst hf
      have hi := Option.some.inj (show some _ = some r from hi)
      subst hi
      exact pm_vret C X dX7_init_136 rfl kc1 kc2 q
    · have hf := pm_ie hf c18
      refine pm_aload_n C dX7_init_123 rfl rfl ?_
      refine pm_getR C dX7_init_124 flX7_7 rfl k14 e16 ?_
      refine pm_iload_n C dX7_init_127 rfl rfl ?_
      refine pm_iconst (v := (-1)) C dX7_init_128 (by decide) ?_
      obtain ⟨u19, hf⟩ := pm_if hf
      refine pm_iast C dX7_init_129 k17 u19 ?_
      obtain ⟨y20, e21, hf⟩ := pm_lt hf
      refine pm_iinc (v := y20) (lv' := [(2, .int y20), (0, .ref x0)]) C dX7_init_130 rfl ((congrArg (x2 + ·) (by decide : Int32.ofInt 1 = 1)).trans e21) (pm_nl X (by decide)) rfl ?_
      refine pm_goto (tgt := 114) C dX7_init_133 (by decide) ?_
      cases hf
      exact pa_join (pm_S3I K0) (pm_sub [1, 0] rfl (ih.2.2.2.2.2.2.2.2.2.2.2.2.2 x0 y20 (pm_setI h v15 x2.toNatClampNeg (-1)) (m0.trans (pm_S3.le (pm_S3I K0))) hi))
set_option maxHeartbeats 4000000 in
set_option maxRecDepth 100000 in
theorem ctX7_init {l : Launch} {G : pm_Gl} {h : pm_H} {a0 : Nat} {p1 : Nat} {r : pm_H} {Qr : Option Value → pm_H → Prop} (hf : fX7_init h a0 p1 = some r) (q : Qr none r) : pm_Ct l G mX7_init [.ref a0, .ref p1] h (pm_sz r - pm_sz h) (pm_us r - pm_us h) Qr := by
  refine pm_bodyN pnX7 (Nat.le_of_ble_eq_true rfl) (fun g C X nm => ?_)
  have C : pm_C g cX7_init RX7 := C
  show pm_G g 0 [(0, .ref a0), (1, .ref p1)] [] h 0 0
  unfold fX7_init at hf
  obtain ⟨n, hn⟩ := pm_lim_iter hf
  exact pa_start (pm_sub [0, 1] rfl ((lpX7_init C X q nm n).1 a0 p1 h (pm_Le.rf h) hn))
