theorem dX12_init_0 : decode cX12_init 0 = .ok (.aload_n 0, 1) := by decide +kernel
theorem dX12_init_1 : decode cX12_init 1 = .ok (.invokespecial 1, 3) := by decide +kernel
theorem dX12_init_4 : decode cX12_init 4 = .ok (.aload_n 0, 1) := by decide +kernel
theorem dX12_init_5 : decode cX12_init 5 = .ok (.ldc 9, 2) := by decide +kernel
theorem dX12_init_7 : decode cX12_init 7 = .ok (.newarray .byte, 2) := by decide +kernel
theorem dX12_init_9 : decode cX12_init 9 = .ok (.putfield 10, 3) := by decide +kernel
theorem dX12_init_12 : decode cX12_init 12 = .ok (.aload_n 0, 1) := by decide +kernel
theorem dX12_init_13 : decode cX12_init 13 = .ok (.bipush 16, 2) := by decide +kernel
theorem dX12_init_15 : decode cX12_init 15 = .ok (.anewarray 14, 3) := by decide +kernel
theorem dX12_init_18 : decode cX12_init 18 = .ok (.putfield 16, 3) := by decide +kernel
theorem dX12_init_21 : decode cX12_init 21 = .ok (.aload_n 0, 1) := by decide +kernel
theorem dX12_init_22 : decode cX12_init 22 = .ok (.sipush 128, 3) := by decide +kernel
theorem dX12_init_25 : decode cX12_init 25 = .ok (.newarray .int, 2) := by decide +kernel
theorem dX12_init_27 : decode cX12_init 27 = .ok (.putfield 20, 3) := by decide +kernel
theorem dX12_init_30 : decode cX12_init 30 = .ok (.aload_n 0, 1) := by decide +kernel
theorem dX12_init_31 : decode cX12_init 31 = .ok (.bipush 16, 2) := by decide +kernel
theorem dX12_init_33 : decode cX12_init 33 = .ok (.newarray .long, 2) := by decide +kernel
theorem dX12_init_35 : decode cX12_init 35 = .ok (.putfield 24, 3) := by decide +kernel
theorem dX12_init_38 : decode cX12_init 38 = .ok (.new 14, 3) := by decide +kernel
theorem dX12_init_41 : decode cX12_init 41 = .ok (.dup, 1) := by decide +kernel
theorem dX12_init_42 : decode cX12_init 42 = .ok (.iconst 0, 1) := by decide +kernel
theorem dX12_init_43 : decode cX12_init 43 = .ok (.newarray .byte, 2) := by decide +kernel
theorem dX12_init_45 : decode cX12_init 45 = .ok (.invokespecial 28, 3) := by decide +kernel
theorem dX12_init_48 : decode cX12_init 48 = .ok (.astore_n 1, 1) := by decide +kernel
theorem dX12_init_49 : decode cX12_init 49 = .ok (.iconst 0, 1) := by decide +kernel
theorem dX12_init_50 : decode cX12_init 50 = .ok (.istore_n 2, 1) := by decide +kernel
theorem dX12_init_51 : decode cX12_init 51 = .ok (.iload_n 2, 1) := by decide +kernel
theorem dX12_init_52 : decode cX12_init 52 = .ok (.aload_n 0, 1) := by decide +kernel
theorem dX12_init_53 : decode cX12_init 53 = .ok (.getfield 16, 3) := by decide +kernel
theorem dX12_init_56 : decode cX12_init 56 = .ok (.arraylength, 1) := by decide +kernel
theorem dX12_init_57 : decode cX12_init 57 = .ok (.if_icmp .ge 16, 3) := by decide +kernel
theorem dX12_init_60 : decode cX12_init 60 = .ok (.aload_n 0, 1) := by decide +kernel
theorem dX12_init_61 : decode cX12_init 61 = .ok (.getfield 16, 3) := by decide +kernel
theorem dX12_init_64 : decode cX12_init 64 = .ok (.iload_n 2, 1) := by decide +kernel
theorem dX12_init_65 : decode cX12_init 65 = .ok (.aload_n 1, 1) := by decide +kernel
theorem dX12_init_66 : decode cX12_init 66 = .ok (.aastore, 1) := by decide +kernel
theorem dX12_init_67 : decode cX12_init 67 = .ok (.iinc 2 1, 3) := by decide +kernel
theorem dX12_init_70 : decode cX12_init 70 = .ok (.goto (-19), 3) := by decide +kernel
theorem dX12_init_73 : decode cX12_init 73 = .ok (.aload_n 0, 1) := by decide +kernel
theorem dX12_init_74 : decode cX12_init 74 = .ok (.new 31, 3) := by decide +kernel
theorem dX12_init_77 : decode cX12_init 77 = .ok (.dup, 1) := by decide +kernel
theorem dX12_init_78 : decode cX12_init 78 = .ok (.aload_n 1, 1) := by decide +kernel
theorem dX12_init_79 : decode cX12_init 79 = .ok (.invokespecial 33, 3) := by decide +kernel
theorem dX12_init_82 : decode cX12_init 82 = .ok (.putfield 36, 3) := by decide +kernel
theorem dX12_init_85 : decode cX12_init 85 = .ok (.aload_n 0, 1) := by decide +kernel
theorem dX12_init_86 : decode cX12_init 86 = .ok (.new 40, 3) := by decide +kernel
theorem dX12_init_89 : decode cX12_init 89 = .ok (.dup, 1) := by decide +kernel
theorem dX12_init_90 : decode cX12_init 90 = .ok (.aload_n 0, 1) := by decide +kernel
theorem dX12_init_91 : decode cX12_init 91 = .ok (.getfield 36, 3) := by decide +kernel
theorem dX12_init_94 : decode cX12_init 94 = .ok (.aload_n 1, 1) := by decide +kernel
theorem dX12_init_95 : decode cX12_init 95 = .ok (.invokespecial 42, 3) := by decide +kernel
theorem dX12_init_98 : decode cX12_init 98 = .ok (.putfield 45, 3) := by decide +kernel
theorem dX12_init_101 : decode cX12_init 101 = .ok (.aload_n 0, 1) := by decide +kernel
theorem dX12_init_102 : decode cX12_init 102 = .ok (.new 49, 3) := by decide +kernel
theorem dX12_init_105 : decode cX12_init 105 = .ok (.dup, 1) := by decide +kernel
theorem dX12_init_106 : decode cX12_init 106 = .ok (.aload_n 0, 1) := by decide +kernel
theorem dX12_init_107 : decode cX12_init 107 = .ok (.getfield 36, 3) := by decide +kernel
theorem dX12_init_110 : decode cX12_init 110 = .ok (.aload_n 1, 1) := by decide +kernel
theorem dX12_init_111 : decode cX12_init 111 = .ok (.invokespecial 51, 3) := by decide +kernel
theorem dX12_init_114 : decode cX12_init 114 = .ok (.putfield 52, 3) := by decide +kernel
theorem dX12_init_117 : decode cX12_init 117 = .ok (.aload_n 0, 1) := by decide +kernel
theorem dX12_init_118 : decode cX12_init 118 = .ok (.new 56, 3) := by decide +kernel
theorem dX12_init_121 : decode cX12_init 121 = .ok (.dup, 1) := by decide +kernel
theorem dX12_init_122 : decode cX12_init 122 = .ok (.aload_n 0, 1) := by decide +kernel
theorem dX12_init_123 : decode cX12_init 123 = .ok (.getfield 52, 3) := by decide +kernel
theorem dX12_init_126 : decode cX12_init 126 = .ok (.invokespecial 58, 3) := by decide +kernel
theorem dX12_init_129 : decode cX12_init 129 = .ok (.putfield 61, 3) := by decide +kernel
theorem dX12_init_132 : decode cX12_init 132 = .ok (.return_, 1) := by decide +kernel
noncomputable def tX12_init_0 (x0 : Nat) (h : pm_H) : Option (((Nat × pm_H) ⊕ (Nat × Nat × Nat × pm_H) ⊕ (Nat × Nat × Nat × pm_H) ⊕ (Nat × Nat × Nat × pm_H) ⊕ (Nat × Nat × Nat × pm_H) ⊕ (Nat × Nat × pm_H) ⊕ (Nat × Nat × Nat × Nat × pm_H) ⊕ (Nat × Nat × pm_H) ⊕ (Nat × Nat × Int32 × pm_H) ⊕ (Nat × Nat × Nat × Nat × pm_H) ⊕ (Nat × Nat × Nat × Nat × pm_H) ⊕ (Nat × Nat × Nat × Nat × pm_H) ⊕ (Nat × Nat × Nat × Nat × pm_H) ⊕ (Nat × Nat × Nat × Nat × pm_H) ⊕ (Nat × Nat × Nat × pm_H) ⊕ (Nat × Nat × Nat × pm_H) ⊕ (Nat × Nat × pm_H)) ⊕ pm_H) := some (.inl (.inr (.inl ((x0, pm_sz h, x0, pm_new h 33 40960)))))
noncomputable def tX12_init_9 (x0 : Nat) (s0 : Nat) (s1 : Nat) (h : pm_H) : Option (((Nat × pm_H) ⊕ (Nat × Nat × Nat × pm_H) ⊕ (Nat × Nat × Nat × pm_H) ⊕ (Nat × Nat × Nat × pm_H) ⊕ (Nat × Nat × Nat × pm_H) ⊕ (Nat × Nat × pm_H) ⊕ (Nat × Nat × Nat × Nat × pm_H) ⊕ (Nat × Nat × pm_H) ⊕ (Nat × Nat × Int32 × pm_H) ⊕ (Nat × Nat × Nat × Nat × pm_H) ⊕ (Nat × Nat × Nat × Nat × pm_H) ⊕ (Nat × Nat × Nat × Nat × pm_H) ⊕ (Nat × Nat × Nat × Nat × pm_H) ⊕ (Nat × Nat × Nat × Nat × pm_H) ⊕ (Nat × Nat × Nat × pm_H) ⊕ (Nat × Nat × Nat × pm_H) ⊕ (Nat × Nat × pm_H)) ⊕ pm_H) := if pm_kd h s1 = 12 then some (.inl (.inr (.inr (.inl ((x0, pm_sz (pm_setR h s1 0 (some s0)), x0, pm_new (pm_setR h s1 0 (some s0)) 41 16)))))) else none
noncomputable def tX12_init_18 (x0 : Nat) (s0 : Nat) (s1 : Nat) (h : pm_H) : Option (((Nat × pm_H) ⊕ (Nat × Nat × Nat × pm_H) ⊕ (Nat × Nat × Nat × pm_H) ⊕ (Nat × Nat × Nat × pm_H) ⊕ (Nat × Nat × Nat × pm_H) ⊕ (Nat × Nat × pm_H) ⊕ (Nat × Nat × Nat × Nat × pm_H) ⊕ (Nat × Nat × pm_H) ⊕ (Nat × Nat × Int32 × pm_H) ⊕ (Nat × Nat × Nat × Nat × pm_H) ⊕ (Nat × Nat × Nat × Nat × pm_H) ⊕ (Nat × Nat × Nat × Nat × pm_H) ⊕ (Nat × Nat × Nat × Nat × pm_H) ⊕ (Nat × Nat × Nat × Nat × pm_H) ⊕ (Nat × Nat × Nat × pm_H) ⊕ (Nat × Nat × Nat × pm_H) ⊕ (Nat × Nat × pm_H)) ⊕ pm_H) := if pm_kd h s1 = 12 then some (.inl (.inr (.inr (.inr (.inl ((x0, pm_sz (pm_setR h s1 3 (some s0)), x0, pm_new (pm_setR h s1 3 (some s0)) 34 128))))))) else none
noncomputable def tX12_init_27 (x0 : Nat) (s0 : Nat) (s1 : Nat) (h : pm_H) : Option (((Nat × pm_H) ⊕ (Nat × Nat × Nat × pm_H) ⊕ (Nat × Nat × Nat × pm_H) ⊕ (Nat × Nat × Nat × pm_H) ⊕ (Nat × Nat × Nat × pm_H) ⊕ (Nat × Nat × pm_H) ⊕ (Nat × Nat × Nat × Nat × pm_H) ⊕ (Nat × Nat × pm_H) ⊕ (Nat × Nat × Int32 × pm_H) ⊕ (Nat × Nat × Nat × Nat × pm_H) ⊕ (Nat × Nat × Nat × Nat × pm_H) ⊕ (Nat × Nat × Nat × Nat × pm_H) ⊕ (Nat × Nat × Nat × Nat × pm_H) ⊕ (Nat × Nat × Nat × Nat × pm_H) ⊕ (Nat × Nat × Nat × pm_H) ⊕ (Nat × Nat × Nat × pm_H) ⊕ (Nat × Nat × pm_H)) ⊕ pm_H) := if pm_kd h s1 = 12 then some (.inl (.inr (.inr (.inr (.inr (.inl ((x0, pm_sz (pm_setR h s1 12 (some s0)), x0, pm_new (pm_setR h s1 12 (some s0)) 35 16)))))))) else none
noncomputable def tX12_init_35 (x0 : Nat) (s0 : Nat) (s1 : Nat) (h : pm_H) : Option (((Nat × pm_H) ⊕ (Nat × Nat × Nat × pm_H) ⊕ (Nat × Nat × Nat × pm_H) ⊕ (Nat × Nat × Nat × pm_H) ⊕ (Nat × Nat × Nat × pm_H) ⊕ (Nat × Nat × pm_H) ⊕ (Nat × Nat × Nat × Nat × pm_H) ⊕ (Nat × Nat × pm_H) ⊕ (Nat × Nat × Int32 × pm_H) ⊕ (Nat × Nat × Nat × Nat × pm_H) ⊕ (Nat × Nat × Nat × Nat × pm_H) ⊕ (Nat × Nat × Nat × Nat × pm_H) ⊕ (Nat × Nat × Nat × Nat × pm_H) ⊕ (Nat × Nat × Nat × Nat × pm_H) ⊕ (Nat × Nat × Nat × pm_H) ⊕ (Nat × Nat × Nat × pm_H) ⊕ (Nat × Nat × pm_H)) ⊕ pm_H) := if pm_kd h s1 = 12 then some (.inl (.inr (.inr (.inr (.inr (.inr (.inl ((x0, pm_sz (pm_setR h s1 14 (some s0)), pm_new (pm_setR h s1 14 (some s0)) 7 0))))))))) else none
noncomputable def tX12_init_41 (x0 : Nat) (s0 : Nat) (h : pm_H) : Option (((Nat × pm_H) ⊕ (Nat × Nat × Nat × pm_H) ⊕ (Nat × Nat × Nat × pm_H) ⊕ (Nat × Nat × Nat × pm_H) ⊕ (Nat × Nat × Nat × pm_H) ⊕ (Nat × Nat × pm_H) ⊕ (Nat × Nat × Nat × Nat × pm_H) ⊕ (Nat × Nat × pm_H) ⊕ (Nat × Nat × Int32 × pm_H) ⊕ (Nat × Nat × Nat × Nat × pm_H) ⊕ (Nat × Nat × Nat × Nat × pm_H) ⊕ (Nat × Nat × Nat × Nat × pm_H) ⊕ (Nat × Nat × Nat × Nat × pm_H) ⊕ (Nat × Nat × Nat × Nat × pm_H) ⊕ (Nat × Nat × Nat × pm_H) ⊕ (Nat × Nat × Nat × pm_H) ⊕ (Nat × Nat × pm_H)) ⊕ pm_H) := some (.inl (.inr (.inr (.inr (.inr (.inr (.inr (.inl ((x0, pm_sz h, s0, s0, pm_new h 33 0))))))))))
noncomputable def tX12_init_45 (x0 : Nat) (s0 : Nat) (s1 : Nat) (s2 : Nat) (h : pm_H) : Option (((Nat × pm_H) ⊕ (Nat × Nat × Nat × pm_H) ⊕ (Nat × Nat × Nat × pm_H) ⊕ (Nat × Nat × Nat × pm_H) ⊕ (Nat × Nat × Nat × pm_H) ⊕ (Nat × Nat × pm_H) ⊕ (Nat × Nat × Nat × Nat × pm_H) ⊕ (Nat × Nat × pm_H) ⊕ (Nat × Nat × Int32 × pm_H) ⊕ (Nat × Nat × Nat × Nat × pm_H) ⊕ (Nat × Nat × Nat × Nat × pm_H) ⊕ (Nat × Nat × Nat × Nat × pm_H) ⊕ (Nat × Nat × Nat × Nat × pm_H) ⊕ (Nat × Nat × Nat × Nat × pm_H) ⊕ (Nat × Nat × Nat × pm_H) ⊕ (Nat × Nat × Nat × pm_H) ⊕ (Nat × Nat × pm_H)) ⊕ pm_H) := (fX7_init h s1 s0).bind fun v5 => some (.inl (.inr (.inr (.inr (.inr (.inr (.inr (.inr (.inl ((x0, s2, v5)))))))))))
noncomputable def tX12_init_48 (x0 : Nat) (s0 : Nat) (h : pm_H) : Option (((Nat × pm_H) ⊕ (Nat × Nat × Nat × pm_H) ⊕ (Nat × Nat × Nat × pm_H) ⊕ (Nat × Nat × Nat × pm_H) ⊕ (Nat × Nat × Nat × pm_H) ⊕ (Nat × Nat × pm_H) ⊕ (Nat × Nat × Nat × Nat × pm_H) ⊕ (Nat × Nat × pm_H) ⊕ (Nat × Nat × Int32 × pm_H) ⊕ (Nat × Nat × Nat × Nat × pm_H) ⊕ (Nat × Nat × Nat × Nat × pm_H) ⊕ (Nat × Nat × Nat × Nat × pm_H) ⊕ (Nat × Nat × Nat × Nat × pm_H) ⊕ (Nat × Nat × Nat × Nat × pm_H) ⊕ (Nat × Nat × Nat × pm_H) ⊕ (Nat × Nat × Nat × pm_H) ⊕ (Nat × Nat × pm_H)) ⊕ pm_H) := some (.inl (.inr (.inr (.inr (.inr (.inr (.inr (.inr (.inr (.inl ((x0, s0, 0, h))))))))))))
noncomputable def tX12_init_51 (x0 : Nat) (x1 : Nat) (x2 : Int32) (h : pm_H) : Option (((Nat × pm_H) ⊕ (Nat × Nat × Nat × pm_H) ⊕ (Nat × Nat × Nat × pm_H) ⊕ (Nat × Nat × Nat × pm_H) ⊕ (Nat × Nat × Nat × pm_H) ⊕ (Nat × Nat × pm_H) ⊕ (Nat × Nat × Nat × Nat × pm_H) ⊕ (Nat × Nat × pm_H) ⊕ (Nat × Nat × Int32 × pm_H) ⊕ (Nat × Nat × Nat × Nat × pm_H) ⊕ (Nat × Nat × Nat × Nat × pm_H) ⊕ (Nat × Nat × Nat × Nat × pm_H) ⊕ (Nat × Nat × Nat × Nat × pm_H) ⊕ (Nat × Nat × Nat × Nat × pm_H) ⊕ (Nat × Nat × Nat × pm_H) ⊕ (Nat × Nat × Nat × pm_H) ⊕ (Nat × Nat × pm_H)) ⊕ pm_H) := if pm_kd h x0 = 12 then (pm_R h x0 3).bind fun v8 => if pm_kd h v8 = 41 then if (Int32.ofNat (pm_ln h v8)) ≤ x2 then (some (.inl (.inr (.inr (.inr (.inr (.inr (.inr (.inr (.inr (.inr (.inl ((x0, x1, pm_sz h, x0, pm_new h 9 0)))))))))))))) else (if pm_kd h x1 = 7 then if pm_in x2 (pm_ln h v8) then pm_let (x2 + 1) fun y14 => some (.inl (.inr (.inr (.inr (.inr (.inr (.inr (.inr (.inr (.inl ((x0, x1, y14, pm_setR h v8 x2.toNatClampNeg (some x1))))))))))))) else none else none) else none else none
noncomputable def tX12_init_77 (x0 : Nat) (x1 : Nat) (s0 : Nat) (s1 : Nat) (h : pm_H) : Option (((Nat × pm_H) ⊕ (Nat × Nat × Nat × pm_H) ⊕ (Nat × Nat × Nat × pm_H) ⊕ (Nat × Nat × Nat × pm_H) ⊕ (Nat × Nat × Nat × pm_H) ⊕ (Nat × Nat × pm_H) ⊕ (Nat × Nat × Nat × Nat × pm_H) ⊕ (Nat × Nat × pm_H) ⊕ (Nat × Nat × Int32 × pm_H) ⊕ (Nat × Nat × Nat × Nat × pm_H) ⊕ (Nat × Nat × Nat × Nat × pm_H) ⊕ (Nat × Nat × Nat × Nat × pm_H) ⊕ (Nat × Nat × Nat × Nat × pm_H) ⊕ (Nat × Nat × Nat × Nat × pm_H) ⊕ (Nat × Nat × Nat × pm_H) ⊕ (Nat × Nat × Nat × pm_H) ⊕ (Nat × Nat × pm_H)) ⊕ pm_H) := (fX9_init h s0 x1).bind fun v16 => some (.inl (.inr (.inr (.inr (.inr (.inr (.inr (.inr (.inr (.inr (.inr (.inl ((x0, x1, s0, s1, v16))))))))))))))
noncomputable def tX12_init_82 (x0 : Nat) (x1 : Nat) (s0 : Nat) (s1 : Nat) (h : pm_H) : Option (((Nat × pm_H) ⊕ (Nat × Nat × Nat × pm_H) ⊕ (Nat × Nat × Nat × pm_H) ⊕ (Nat × Nat × Nat × pm_H) ⊕ (Nat × Nat × Nat × pm_H) ⊕ (Nat × Nat × pm_H) ⊕ (Nat × Nat × Nat × Nat × pm_H) ⊕ (Nat × Nat × pm_H) ⊕ (Nat × Nat × Int32 × pm_H) ⊕ (Nat × Nat × Nat × Nat × pm_H) ⊕ (Nat × Nat × Nat × Nat × pm_H) ⊕ (Nat × Nat × Nat × Nat × pm_H) ⊕ (Nat × Nat × Nat × Nat × pm_H) ⊕ (Nat × Nat × Nat × Nat × pm_H) ⊕ (Nat × Nat × Nat × pm_H) ⊕ (Nat × Nat × Nat × pm_H) ⊕ (Nat × Nat × pm_H)) ⊕ pm_H) := if pm_kd h s1 = 12 then some (.inl (.inr (.inr (.inr (.inr (.inr (.inr (.inr (.inr (.inr (.inr (.inr (.inl ((x0, x1, pm_sz (pm_setR h s1 8 (some s0)), x0, pm_new (pm_setR h s1 8 (some s0)) 1 0))))))))))))))) else none
noncomputable def tX12_init_89 (x0 : Nat) (x1 : Nat) (s0 : Nat) (s1 : Nat) (h : pm_H) : Option (((Nat × pm_H) ⊕ (Nat × Nat × Nat × pm_H) ⊕ (Nat × Nat × Nat × pm_H) ⊕ (Nat × Nat × Nat × pm_H) ⊕ (Nat × Nat × Nat × pm_H) ⊕ (Nat × Nat × pm_H) ⊕ (Nat × Nat × Nat × Nat × pm_H) ⊕ (Nat × Nat × pm_H) ⊕ (Nat × Nat × Int32 × pm_H) ⊕ (Nat × Nat × Nat × Nat × pm_H) ⊕ (Nat × Nat × Nat × Nat × pm_H) ⊕ (Nat × Nat × Nat × Nat × pm_H) ⊕ (Nat × Nat × Nat × Nat × pm_H) ⊕ (Nat × Nat × Nat × Nat × pm_H) ⊕ (Nat × Nat × Nat × pm_H) ⊕ (Nat × Nat × Nat × pm_H) ⊕ (Nat × Nat × pm_H)) ⊕ pm_H) := if pm_kd h x0 = 12 then (pm_R h x0 8).bind fun v20 => (fX1_init h s0 v20 x1).bind fun v22 => some (.inl (.inr (.inr (.inr (.inr (.inr (.inr (.inr (.inr (.inr (.inr (.inr (.inr (.inl ((x0, x1, s0, s1, v22)))))))))))))))) else none
noncomputable def tX12_init_98 (x0 : Nat) (x1 : Nat) (s0 : Nat) (s1 : Nat) (h : pm_H) : Option (((Nat × pm_H) ⊕ (Nat × Nat × Nat × pm_H) ⊕ (Nat × Nat × Nat × pm_H) ⊕ (Nat × Nat × Nat × pm_H) ⊕ (Nat × Nat × Nat × pm_H) ⊕ (Nat × Nat × pm_H) ⊕ (Nat × Nat × Nat × Nat × pm_H) ⊕ (Nat × Nat × pm_H) ⊕ (Nat × Nat × Int32 × pm_H) ⊕ (Nat × Nat × Nat × Nat × pm_H) ⊕ (Nat × Nat × Nat × Nat × pm_H) ⊕ (Nat × Nat × Nat × Nat × pm_H) ⊕ (Nat × Nat × Nat × Nat × pm_H) ⊕ (Nat × Nat × Nat × Nat × pm_H) ⊕ (Nat × Nat × Nat × pm_H) ⊕ (Nat × Nat × Nat × pm_H) ⊕ (Nat × Nat × pm_H)) ⊕ pm_H) := if pm_kd h s1 = 12 then some (.inl (.inr (.inr (.inr (.inr (.inr (.inr (.inr (.inr (.inr (.inr (.inr (.inr (.inr (.inl ((x0, x1, pm_sz (pm_setR h s1 9 (some s0)), x0, pm_new (pm_setR h s1 9 (some s0)) 10 0))))))))))))))))) else none
noncomputable def tX12_init_105 (x0 : Nat) (x1 : Nat) (s0 : Nat) (s1 : Nat) (h : pm_H) : Option (((Nat × pm_H) ⊕ (Nat × Nat × Nat × pm_H) ⊕ (Nat × Nat × Nat × pm_H) ⊕ (Nat × Nat × Nat × pm_H) ⊕ (Nat × Nat × Nat × pm_H) ⊕ (Nat × Nat × pm_H) ⊕ (Nat × Nat × Nat × Nat × pm_H) ⊕ (Nat × Nat × pm_H) ⊕ (Nat × Nat × Int32 × pm_H) ⊕ (Nat × Nat × Nat × Nat × pm_H) ⊕ (Nat × Nat × Nat × Nat × pm_H) ⊕ (Nat × Nat × Nat × Nat × pm_H) ⊕ (Nat × Nat × Nat × Nat × pm_H) ⊕ (Nat × Nat × Nat × Nat × pm_H) ⊕ (Nat × Nat × Nat × pm_H) ⊕ (Nat × Nat × Nat × pm_H) ⊕ (Nat × Nat × pm_H)) ⊕ pm_H) := if pm_kd h x0 = 12 then (pm_R h x0 8).bind fun v26 => (fX10_init h s0 v26 x1).bind fun v28 => some (.inl (.inr (.inr (.inr (.inr (.inr (.inr (.inr (.inr (.inr (.inr (.inr (.inr (.inr (.inr (.inl ((x0, s0, s1, v28)))))))))))))))))) else none
noncomputable def tX12_init_114 (x0 : Nat) (s0 : Nat) (s1 : Nat) (h : pm_H) : Option (((Nat × pm_H) ⊕ (Nat × Nat × Nat × pm_H) ⊕ (Nat × Nat × Nat × pm_H) ⊕ (Nat × Nat × Nat × pm_H) ⊕ (Nat × Nat × Nat × pm_H) ⊕ (Nat × Nat × pm_H) ⊕ (Nat × Nat × Nat × Nat × pm_H) ⊕ (Nat × Nat × pm_H) ⊕ (Nat × Nat × Int32 × pm_H) ⊕ (Nat × Nat × Nat × Nat × pm_H) ⊕ (Nat × Nat × Nat × Nat × pm_H) ⊕ (Nat × Nat × Nat × Nat × pm_H) ⊕ (Nat × Nat × Nat × Nat × pm_H) ⊕ (Nat × Nat × Nat × Nat × pm_H) ⊕ (Nat × Nat × Nat × pm_H) ⊕ (Nat × Nat × Nat × pm_H) ⊕ (Nat × Nat × pm_H)) ⊕ pm_H) := if pm_kd h s1 = 12 then some (.inl (.inr (.inr (.inr (.inr (.inr (.inr (.inr (.inr (.inr (.inr (.inr (.inr (.inr (.inr (.inr (.inl ((x0, pm_sz (pm_setR h s1 10 (some s0)), x0, pm_new (pm_setR h s1 10 (some s0)) 5 0))))))))))))))))))) else none
noncomputable def tX12_init_121 (x0 : Nat) (s0 : Nat) (s1 : Nat) (h : pm_H) : Option (((Nat × pm_H) ⊕ (Nat × Nat × Nat × pm_H) ⊕ (Nat × Nat × Nat × pm_H) ⊕ (Nat × Nat × Nat × pm_H) ⊕ (Nat × Nat × Nat × pm_H) ⊕ (Nat × Nat × pm_H) ⊕ (Nat × Nat × Nat × Nat × pm_H) ⊕ (Nat × Nat × pm_H) ⊕ (Nat × Nat × Int32 × pm_H) ⊕ (Nat × Nat × Nat × Nat × pm_H) ⊕ (Nat × Nat × Nat × Nat × pm_H) ⊕ (Nat × Nat × Nat × Nat × pm_H) ⊕ (Nat × Nat × Nat × Nat × pm_H) ⊕ (Nat × Nat × Nat × Nat × pm_H) ⊕ (Nat × Nat × Nat × pm_H) ⊕ (Nat × Nat × Nat × pm_H) ⊕ (Nat × Nat × pm_H)) ⊕ pm_H) := if pm_kd h x0 = 12 then (pm_R h x0 10).bind fun v32 => (fX5_init h s0 v32).bind fun v34 => some (.inl (.inr (.inr (.inr (.inr (.inr (.inr (.inr (.inr (.inr (.inr (.inr (.inr (.inr (.inr (.inr (.inr ((s0, s1, v34))))))))))))))))))) else none
noncomputable def tX12_init_129 (s0 : Nat) (s1 : Nat) (h : pm_H) : Option (((Nat × pm_H) ⊕ (Nat × Nat × Nat × pm_H) ⊕ (Nat × Nat × Nat × pm_H) ⊕ (Nat × Nat × Nat × pm_H) ⊕ (Nat × Nat × Nat × pm_H) ⊕ (Nat × Nat × pm_H) ⊕ (Nat × Nat × Nat × Nat × pm_H) ⊕ (Nat × Nat × pm_H) ⊕ (Nat × Nat × Int32 × pm_H) ⊕ (Nat × Nat × Nat × Nat × pm_H) ⊕ (Nat × Nat × Nat × Nat × pm_H) ⊕ (Nat × Nat × Nat × Nat × pm_H) ⊕ (Nat × Nat × Nat × Nat × pm_H) ⊕ (Nat × Nat × Nat × Nat × pm_H) ⊕ (Nat × Nat × Nat × pm_H) ⊕ (Nat × Nat × Nat × pm_H) ⊕ (Nat × Nat × pm_H)) ⊕ pm_H) := if pm_kd h s1 = 12 then some (.inr (pm_setR h s1 11 (some s0))) else none
noncomputable def sX12_init : ((Nat × pm_H) ⊕ (Nat × Nat × Nat × pm_H) ⊕ (Nat × Nat × Nat × pm_H) ⊕ (Nat × Nat × Nat × pm_H) ⊕ (Nat × Nat × Nat × pm_H) ⊕ (Nat × Nat × pm_H) ⊕ (Nat × Nat × Nat × Nat × pm_H) ⊕ (Nat × Nat × pm_H) ⊕ (Nat × Nat × Int32 × pm_H) ⊕ (Nat × Nat × Nat × Nat × pm_H) ⊕ (Nat × Nat × Nat × Nat × pm_H) ⊕ (Nat × Nat × Nat × Nat × pm_H) ⊕ (Nat × Nat × Nat × Nat × pm_H) ⊕ (Nat × Nat × Nat × Nat × pm_H) ⊕ (Nat × Nat × Nat × pm_H) ⊕ (Nat × Nat × Nat × pm_H) ⊕ (Nat × Nat × pm_H)) → Option (((Nat × pm_H) ⊕ (Nat × Nat × Nat × pm_H) ⊕ (Nat × Nat × Nat × pm_H) ⊕ (Nat × Nat × Nat × pm_H) ⊕ (Nat × Nat × Nat × pm_H) ⊕ (Nat × Nat × pm_H) ⊕ (Nat × Nat × Nat × Nat × pm_H) ⊕ (Nat × Nat × pm_H) ⊕ (Nat × Nat × Int32 × pm_H) ⊕ (Nat × Nat × Nat × Nat × pm_H) ⊕ (Nat × Nat × Nat × Nat × pm_H) ⊕ (Nat × Nat × Nat × Nat × pm_H) ⊕ (Nat × Nat × Nat × Nat × pm_H) ⊕ (Nat × Nat × Nat × Nat × pm_H) ⊕ (Nat × Nat × Nat × pm_H) ⊕ (Nat × Nat × Nat × pm_H) ⊕ (Nat × Nat × pm_H)) ⊕ pm_H) := fun z => match z with
  | .inl (x0, h) => tX12_init_0 x0 h
  | .inr (.inl (x0, s0, s1, h)) => tX12_init_9 x0 s0 s1 h
  | .inr (.inr (.inl (x0, s0, s1, h))) => tX12_init_18 x0 s0 s1 h
  | .inr (.inr (.inr (.inl (x0, s0, s1, h)))) => tX12_init_27 x0 s0 s1 h
  | .inr (.inr (.inr (.inr (.inl (x0, s0, s1, h))))) => tX12_init_35 x0 s0 s1 h
  | .inr (.inr (.inr (.inr (.inr (.inl (x0, s0, h)))))) => tX12_init_41 x0 s0 h
  | .inr (.inr (.inr (.inr (.inr (.inr (.inl (x0, s0, s1, s2, h))))))) => tX12_init_45 x0 s0 s1 s2 h
  | .inr (.inr (.inr (.inr (.inr (.inr (.inr (.inl (x0, s0, h)))))))) => tX12_init_48 x0 s0 h
  | .inr (.inr (.inr (.inr (.inr (.inr (.inr (.inr (.inl (x0, x1, x2, h))))))))) => tX12_init_51 x0 x1 x2 h
  | .inr (.inr (.inr (.inr (.inr (.inr (.inr (.inr (.inr (.inl (x0, x1, s0, s1, h)))))))))) => tX12_init_77 x0 x1 s0 s1 h
  | .inr (.inr (.inr (.inr (.inr (.inr (.inr (.inr (.inr (.inr (.inl (x0, x1, s0, s1, h))))))))))) => tX12_init_82 x0 x1 s0 s1 h
  | .inr (.inr (.inr (.inr (.inr (.inr (.inr (.inr (.inr (.inr (.inr (.inl (x0, x1, s0, s1, h)))))))))))) => tX12_init_89 x0 x1 s0 s1 h
  | .inr (.inr (.inr (.inr (.inr (.inr (.inr (.inr (.inr (.inr (.inr (.inr (.inl (x0, x1, s0, s1, h))))))))))))) => tX12_init_98 x0 x1 s0 s1 h
  | .inr (.inr (.inr (.inr (.inr (.inr (.inr (.inr (.inr (.inr (.inr (.inr (.inr (.inl (x0, x1, s0, s1, h)))))))))))))) => tX12_init_105 x0 x1 s0 s1 h
  | .inr (.inr (.inr (.inr (.inr (.inr (.inr (.inr (.inr (.inr (.inr (.inr (.inr (.inr (.inl (x0, s0, s1, h))))))))))))))) => tX12_init_114 x0 s0 s1 h
  | .inr (.inr (.inr (.inr (.inr (.inr (.inr (.inr (.inr (.inr (.inr (.inr (.inr (.inr (.inr (.inl (x0, s0, s1, h)))))))))))))))) => tX12_init_121 x0 s0 s1 h
  | .inr (.inr (.inr (.inr (.inr (.inr (.inr (.inr (.inr (.inr (.inr (.inr (.inr (.inr (.inr (.inr (s0, s1, h)))))))))))))))) => tX12_init_129 s0 s1 h
noncomputable def fX12_init (h : pm_H) (a0 : Nat) : Option pm_H := pm_lim sX12_init (.inl ((a0, h)))
set_option maxHeartbeats 4000000 in
set_option maxRecDepth 100000 in
theorem mlX12_init {r : pm_H} : ∀ n : Nat, (∀ (x0 : Nat) (h : pm_H), pm_iter sX12_init n (.inl (x0, h)) = some r → pm_Le h r) ∧ (∀ (x0 : Nat) (s0 : Nat) (s1 : Nat) (h : pm_H), pm_iter sX12_init n (.inr (.inl (x0, s0, s1, h))) = some r → pm_Le h r) ∧ (∀ (x0 : Nat) (s0 : Nat) (s1 : Nat) (h : pm_H), pm_iter sX12_init n (.inr (.inr (.inl (x0, s0, s1, h)))) = some r → pm_Le h r) ∧ (∀ (x0 : Nat) (s0 : Nat) (s1 : Nat) (h : pm_H), pm_iter sX12_init n (.inr (.inr (.inr (.inl (x0, s0, s1, h))))) = some r → pm_Le h r) ∧ (∀ (x0 : Nat) (s0 : Nat) (s1 : Nat) (h : pm_H), pm_iter sX12_init n (.inr (.inr (.inr (.inr (.inl (x0, s0, s1, h)))))) = some r → pm_Le h r) ∧ (∀ (x0 : Nat) (s0 : Nat) (h : pm_H), pm_iter sX12_init n (.inr (.inr (.inr (.inr (.inr (.inl (x0, s0, h))))))) = some r → pm_Le h r) ∧ (∀ (x0 : Nat) (s0 : Nat) (s1 : Nat) (s2 : Nat) (h : pm_H), pm_iter sX12_init n (.inr (.inr (.inr (.inr (.inr (.inr (.inl (x0, s0, s1, s2, h)))))))) = some r → pm_Le h r) ∧ (∀ (x0 : Nat) (s0 : Nat) (h : pm_H), pm_iter sX12_init n (.inr (.inr (.inr (.inr (.inr (.inr (.inr (.inl (x0, s0, h))))))))) = some r → pm_Le h r) ∧ (∀ (x0 : Nat) (x1 : Nat) (x2 : Int32) (h : pm_H), pm_iter sX12_init n (.inr (.inr (.inr (.inr (.inr (.inr (.inr (.inr (.inl (x0, x1, x2, h)))))))))) = some r → pm_Le h r) ∧ (∀ (x0 : Nat) (x1 : Nat) (s0 : Nat) (s1 : Nat) (h : pm_H), pm_iter sX12_init n (.inr (.inr (.inr (.inr (.inr (.inr (.inr (.inr (.inr (.inl (x0, x1, s0, s1, h))))))))))) = some r → pm_Le h r) ∧ (∀ (x0 : Nat) (x1 : Nat) (s0 : Nat) (s1 : Nat) (h : pm_H), pm_iter sX12_init n (.inr (.inr (.inr (.inr (.inr (.inr (.inr (.inr (.inr (.inr (.inl (x0, x1, s0, s1, h)))))))))))) = some r → pm_Le h r) ∧ (∀ (x0 : Nat) (x1 : Nat) (s0 : Nat) (s1 : Nat) (h : pm_H), pm_iter sX12_init n (.inr (.inr (.inr (.inr (.inr (.inr (.inr (.inr (.inr (.inr (.inr (.inl (x0, x1, s0, s1, h))))))))))))) = some r → pm_Le h r) ∧ (∀ (x0 : Nat) (x1 : Nat) (s0 : Nat) (s1 : Nat) (h : pm_H), pm_iter sX12_init n (.inr (.inr (.inr (.inr (.inr (.inr (.inr (.inr (.inr (.inr (.inr (.inr (.inl (x0, x1, s0, s1, h)))))))))))))) = some r → pm_Le h r) ∧ (∀ (x0 : Nat) (x1 : Nat) (s0 : Nat) (s1 : Nat) (h : pm_H), pm_iter sX12_init n (.inr (.inr (.inr (.inr (.inr (.inr (.inr (.inr (.inr (.inr (.inr (.inr (.inr (.inl (x0, x1, s0, s1, h))))))))))))))) = some r → pm_Le h r) ∧ (∀ (x0 : Nat) (s0 : Nat) (s1 : Nat) (h : pm_H), pm_iter sX12_init n (.inr (.inr (.inr (.inr (.inr (.inr (.inr (.inr (.inr (.inr (.inr (.inr (.inr (.inr (.inl (x0, s0, s1, h)))))))))))))))) = some r → pm_Le h r) ∧ (∀ (x0 : Nat) (s0 : Nat) (s1 : Nat) (h : pm_H), pm_iter sX12_init n (.inr (.inr (.inr (.inr (.inr (.inr (.inr (.inr (.inr (.inr (.inr (.inr (.inr (.inr (.inr (.inl (x0, s0, s1, h))))))))))))))))) = some r → pm_Le h r) ∧ (∀ (s0 : Nat) (s1 : Nat) (h : pm_H), pm_iter sX12_init n (.inr (.inr (.inr (.inr (.inr (.inr (.inr (.inr (.inr (.inr (.inr (.inr (.inr (.inr (.inr (.inr (s0, s1, h))))))))))))))))) = some r → pm_Le h r) := by
  intro n
  induction n with
  | zero => exact ⟨fun _ _ hf => (by cases hf), fun _ _ _ _ hf => (by cases hf), fun _ _ _ _ hf => (by cases hf), fun _ _ _ _ hf => (by cases hf), fun _ _ _ _ hf => (by cases hf), fun _ _ _ hf => (by cases hf), fun _ _ _ _ _ hf => (by cases hf), fun _ _ _ hf => (by cases hf), fun _ _ _ _ hf => (by cases hf), fun _ _ _ _ _ hf => (by cases hf), fun _ _ _ _ _ hf => (by cases hf), fun _ _ _ _ _ hf => (by cases hf), fun _ _ _ _ _ hf => (by cases hf), fun _ _ _ _ _ hf => (by cases hf), fun _ _ _ _ hf => (by cases hf), fun _ _ _ _ hf => (by cases hf), fun _ _ _ hf => (by cases hf)⟩
  | succ n ih =>
    refine ⟨fun x0 h hf => ?_, ?_⟩
    · obtain ⟨y, hf, hi⟩ := pm_iter_s hf
      have hf : tX12_init_0 x0 h = some y := hf
      unfold tX12_init_0 at hf
      have K0 := pm_S3.rf h
      cases hf
      exact ((pm_S3.le K0).trans (pm_Le_new _ _ _)).trans (ih.2.1 x0 (pm_sz h) x0 (pm_new h 33 40960) hi)
    refine ⟨fun x0 s0 s1 h hf => ?_, ?_⟩
    · obtain ⟨y, hf, hi⟩ := pm_iter_s hf
      have hf : tX12_init_9 x0 s0 s1 h = some y := hf
      unfold tX12_init_9 at hf
      have K0 := pm_S3.rf h
      obtain ⟨k1, hf⟩ := pm_if hf
      cases hf
      exact ((pm_S3.le (pm_S3R K0)).trans (pm_Le_new _ _ _)).trans (ih.2.2.1 x0 (pm_sz (pm_setR h s1 0 (some s0))) x0 (pm_new (pm_setR h s1 0 (some s0)) 41 16) hi)
    refine ⟨fun x0 s0 s1 h hf => ?_, ?_⟩
    · obtain ⟨y, hf, hi⟩ := pm_iter_s hf
      have hf : tX12_init_18 x0 s0 s1 h = some y := hf
      unfold tX12_init_18 at hf
      have K0 := pm_S3.rf h
      obtain ⟨k2, hf⟩ := pm_if hf
      cases hf
      exact ((pm_S3.le (pm_S3R K0)).trans (pm_Le_new _ _ _)).trans (ih.2.2.2.1 x0 (pm_sz (pm_setR h s1 3 (some s0))) x0 (pm_new (pm_setR h s1 3 (some s0)) 34 128) hi)
    refine ⟨fun x0 s0 s1 h hf => ?_, ?_⟩
    · obtain ⟨y, hf, hi⟩ := pm_iter_s hf
      have hf : tX12_init_27 x0 s0 s1 h = some y := hf
      unfold tX12_init_27 at hf
      have K0 := pm_S3.rf h
      obtain ⟨k3, hf⟩ := pm_if hf
      cases hf
      exact ((pm_S3.le (pm_S3R K0)).trans (pm_Le_new _ _ _)).trans (ih.2.2.2.2.1 x0 (pm_sz (pm_setR h s1 12 (some s0))) x0 (pm_new (pm_setR h s1 12 (some s0)) 35 16) hi)
    refine ⟨fun x0 s0 s1 h hf => ?_, ?_⟩
    · obtain ⟨y, hf, hi⟩ := pm_iter_s hf
      have hf : tX12_init_35 x0 s0 s1 h = some y := hf
      unfold tX12_init_35 at hf
      have K0 := pm_S3.rf h
      obtain ⟨k4, hf⟩ := pm_if hf
      cases hf
      exact ((pm_S3.le (pm_S3R K0)).trans (pm_Le_new _ _ _)).trans (ih.2.2.2.2.2.1 x0 (pm_sz (pm_setR h s1 14 (some s0))) (pm_new (pm_setR h s1 14 (some s0)) 7 0) hi)
    refine ⟨fun x0 s0 h hf => ?_, ?_⟩
    · obtain ⟨y, hf, hi⟩ := pm_iter_s hf
      have hf : tX12_init_41 x0 s0 h = some y := hf
      unfold tX12_init_41 at hf
      have K0 := pm_S3.rf h
      cases hf
      exact ((pm_S3.le K0).trans (pm_Le_new _ _ _)).trans (ih.2.2.2.2.2.2.1 x0 (pm_sz h) s0 s0 (pm_new h 33 0) hi)
    refine ⟨fun x0 s0 s1 s2 h hf => ?_, ?_⟩
    · obtain ⟨y, hf, hi⟩ := pm_iter_s hf
      have hf : tX12_init_45 x0 s0 s1 s2 h = some y := hf
      unfold tX12_init_45 at hf
      have K0 := pm_S3.rf h
      obtain ⟨v5, e6, hf⟩ := pm_bd hf
      cases hf
      exact ((pm_S3.le K0).trans (moX7_init e6)).trans (ih.2.2.2.2.2.2.2.1 x0 s2 v5 hi)
    refine ⟨fun x0 s0 h hf => ?_, ?_⟩
    · obtain ⟨y, hf, hi⟩ := pm_iter_s hf
      have hf : tX12_init_48 x0 s0 h = some y := hf
      unfold tX12_init_48 at hf
      have K0 := pm_S3.rf h
      cases hf
      exact (pm_S3.le K0).trans (ih.2.2.2.2.2.2.2.2.1 x0 s0 0 h hi)
    refine ⟨fun x0 x1 x2 h hf => ?_, ?_⟩
    · obtain ⟨y, hf, hi⟩ := pm_iter_s hf
      have hf : tX12_init_51 x0 x1 x2 h = some y := hf
      unfold tX12_init_51 at hf
      have K0 := pm_S3.rf h
      obtain ⟨k7, hf⟩ := pm_if hf
      obtain ⟨v8, e9, hf⟩ := pm_bd hf
      obtain ⟨k10, hf⟩ := pm_if hf
      by_cases c11 : (Int32.ofNat (pm_ln h v8)) ≤ x2
      · have hf := pm_it hf c11
        cases hf
        exact ((pm_S3.le K0).trans (pm_Le_new _ _ _)).trans (ih.2.2.2.2.2.2.2.2.2.1 x0 x1 (pm_sz h) x0 (pm_new h 9 0) hi)
      · have hf := pm_ie hf c11
        obtain ⟨k12, hf⟩ := pm_if hf
        obtain ⟨u13, hf⟩ := pm_if hf
        obtain ⟨y14, e15, hf⟩ := pm_lt hf
        cases hf
        exact (pm_S3.le (pm_S3R K0)).trans (ih.2.2.2.2.2.2.2.2.1 x0 x1 y14 (pm_setR h v8 x2.toNatClampNeg (some x1)) hi)
    refine ⟨fun x0 x1 s0 s1 h hf => ?_, ?_⟩
    · obtain ⟨y, hf, hi⟩ := pm_iter_s hf
      have hf : tX12_init_77 x0 x1 s0 s1 h = some y := hf
      unfold tX12_init_77 at hf
      have K0 := pm_S3.rf h
      obtain ⟨v16, e17, hf⟩ := pm_bd hf
      cases hf
      exact ((pm_S3.le K0).trans (moX9_init e17)).trans (ih.2.2.2.2.2.2.2.2.2.2.1 x0 x1 s0 s1 v16 hi)
    refine ⟨fun x0 x1 s0 s1 h hf => ?_, ?_⟩
    · obtain ⟨y, hf, hi⟩ := pm_iter_s hf
      have hf : tX12_init_82 x0 x1 s0 s1 h = some y := hf
      unfold tX12_init_82 at hf
      have K0 := pm_S3.rf h
      obtain ⟨k18, hf⟩ := pm_if hf
      cases hf
      exact ((pm_S3.le (pm_S3R K0)).trans (pm_Le_new _ _ _)).trans (ih.2.2.2.2.2.2.2.2.2.2.2.1 x0 x1 (pm_sz (pm_setR h s1 8 (some s0))) x0 (pm_new (pm_setR h s1 8 (some s0)) 1 0) hi)
    refine ⟨fun x0 x1 s0 s1 h hf => ?_, ?_⟩
    · obtain ⟨y, hf, hi⟩ := pm_iter_s hf
      have hf : tX12_init_89 x0 x1 s0 s1 h = some y := hf
      unfold tX12_init_89 at hf
      have K0 := pm_S3.rf h
      obtain ⟨k19, hf⟩ := pm_if hf
      obtain ⟨v20, e21, hf⟩ := pm_bd hf
      obtain ⟨v22, e23, hf⟩ := pm_bd hf
      cases hf
      exact ((pm_S3.le K0).trans (moX1_init e23)).trans (ih.2.2.2.2.2.2.2.2.2.2.2.2.1 x0 x1 s0 s1 v22 hi)
    refine ⟨fun x0 x1 s0 s1 h hf => ?_, ?_⟩
    · obtain ⟨y, hf, hi⟩ := pm_iter_s hf
      have hf : tX12_init_98 x0 x1 s0 s1 h = some y := hf
      unfold tX12_init_98 at hf
      have K0 := pm_S3.rf h
      obtain ⟨k24, hf⟩ := pm_if hf
      cases hf
      exact ((pm_S3.le (pm_S3R K0)).trans (pm_Le_new _ _ _)).trans (ih.2.2.2.2.2.2.2.2.2.2.2.2.2.1 x0 x1 (pm_sz (pm_setR h s1 9 (some s0))) x0 (pm_new (pm_setR h s1 9 (some s0)) 10 0) hi)
    refine ⟨fun x0 x1 s0 s1 h hf => ?_, ?_⟩
    · obtain ⟨y, hf, hi⟩ := pm_iter_s hf
      have hf : tX12_init_105 x0 x1 s0 s1 h = some y := hf
      unfold tX12_init_105 at hf
      have K0 := pm_S3.rf h
      obtain ⟨k25, hf⟩ := pm_if hf
      obtain ⟨v26, e27, hf⟩ := pm_bd hf
      obtain ⟨v28, e29, hf⟩ := pm_bd hf
      cases hf
      exact ((pm_S3.le K0).trans (moX10_init e29)).trans (ih.2.2.2.2.2.2.2.2.2.2.2.2.2.2.1 x0 s0 s1 v28 hi)
    refine ⟨fun x0 s0 s1 h hf => ?_, ?_⟩
    · obtain ⟨y, hf, hi⟩ := pm_iter_s hf
      have hf : tX12_init_114 x0 s0 s1 h = some y := hf
      unfold tX12_init_114 at hf
      have K0 := pm_S3.rf h
      obtain ⟨k30, hf⟩ := pm_if hf
      cases hf
      exact ((pm_S3.le (pm_S3R K0)).trans (pm_Le_new _ _ _)).trans (ih.2.2.2.2.2.2.2.2.2.2.2.2.2.2.2.1 x0 (pm_sz (pm_setR h s1 10 (some s0))) x0 (pm_new (pm_setR h s1 10 (some s0)) 5 0) hi)
    refine ⟨fun x0 s0 s1 h hf => ?_, ?_⟩
    · obtain ⟨y, hf, hi⟩ := pm_iter_s hf
      have hf : tX12_init_121 x0 s0 s1 h = some y := hf
      unfold tX12_init_121 at hf
      have K0 := pm_S3.rf h
      obtain ⟨k31, hf⟩ := pm_if hf
      obtain ⟨v32, e33, hf⟩ := pm_bd hf
      obtain ⟨v34, e35, hf⟩ := pm_bd hf
      cases hf
      exact ((pm_S3.le K0).trans (moX5_init e35)).trans (ih.2.2.2.2.2.2.2.2.2.2.2.2.2.2.2.2 s0 s1 v34 hi)
    refine fun s0 s1 h hf => ?_
    obtain ⟨y, hf, hi⟩ := pm_iter_s hf
    have hf : tX12_init_129 s0 s1 h = some y := hf
    unfold tX12_init_129 at hf
    have K0 := pm_S3.rf h
    obtain ⟨k36, hf⟩ := pm_if hf
    have hf := Option.some.inj hf
    subst hf
    have hi := Option.some.inj (show some _ = some r from hi)
    subst hi
    exact pm_S3.le (pm_S3R K0)
set_option maxHeartbeats 4000000 in
set_option maxRecDepth 100000 in
theorem moX12_init {h : pm_H} {a0 : Nat} {r : pm_H} (hf : fX12_init h a0 = some r) : pm_Le h r := by
  unfold fX12_init at hf
  have K0 := pm_S3.rf h
  obtain ⟨n, hn⟩ := pm_lim_iter hf
  exact (mlX12_init n).1 a0 h hn
set_option maxHeartbeats 4000000 in
set_option maxRecDepth 100000 in
theorem lpX12_init {g : pm_Gm} {l : Launch} {G : pm_Gl} {Qr : Option Value → pm_H → Prop} (C : pm_C g cX12_init RX12) {h0 : pm_H} {r : pm_H} (X : pm_X g l G mX12_init (pm_sz r - pm_sz h0) (pm_us r - pm_us h0) Qr) (q : Qr none r) (nm : g.2.2.2.2.2.2.2.2.1.name = "<init>") : ∀ n : Nat, (∀ (x0 : Nat) (h : pm_H), pm_Le h0 h → pm_iter sX12_init n (.inl (x0, h)) = some r → pm_G g 0 [(0, .ref x0)] [] h (pm_sz h - pm_sz h0) (pm_us h - pm_us h0)) ∧ (∀ (x0 : Nat) (s0 : Nat) (s1 : Nat) (h : pm_H), pm_Le h0 h → pm_iter sX12_init n (.inr (.inl (x0, s0, s1, h))) = some r → pm_G g 9 [(0, .ref x0)] [.ref s0, .ref s1] h (pm_sz h - pm_sz h0) (pm_us h - pm_us h0)) ∧ (∀ (x0 : Nat) (s0 : Nat) (s1 : Nat) (h : pm_H), pm_Le h0 h → pm_iter sX12_init n (.inr (.inr (.inl (x0, s0, s1, h)))) = some r → pm_G g 18 [(0, .ref x0)] [.ref s0, .ref s1] h (pm_sz h - pm_sz h0) (pm_us h - pm_us h0)) ∧ (∀ (x0 : Nat) (s0 : Nat) (s1 : Nat) (h : pm_H), pm_Le h0 h → pm_iter sX12_init n (.inr (.inr (.inr (.inl (x0, s0, s1, h))))) = some r → pm_G g 27 [(0, .ref x0)] [.ref s0, .ref s1] h (pm_sz h - pm_sz h0) (pm_us h - pm_us h0)) ∧ (∀ (x0 : Nat) (s0 : Nat) (s1 : Nat) (h : pm_H), pm_Le h0 h → pm_iter sX12_init n (.inr (.inr (.inr (.inr (.inl (x0, s0, s1, h)))))) = some r → pm_G g 35 [(0, .ref x0)] [.ref s0, .ref s1] h (pm_sz h - pm_sz h0) (pm_us h - pm_us h0)) ∧ (∀ (x0 : Nat) (s0 : Nat) (h : pm_H), pm_Le h0 h → pm_iter sX12_init n (.inr (.inr (.inr (.inr (.inr (.inl (x0, s0, h))))))) = some r → pm_G g 41 [(0, .ref x0)] [.ref s0] h (pm_sz h - pm_sz h0) (pm_us h - pm_us h0)) ∧ (∀ (x0 : Nat) (s0 : Nat) (s1 : Nat) (s2 : Nat) (h : pm_H), pm_Le h0 h → pm_iter sX12_init n (.inr (.inr (.inr (.inr (.inr (.inr (.inl (x0, s0, s1, s2, h)))))))) = some r → pm_G g 45 [(0, .ref x0)] [.ref s0, .ref s1, .ref s2] h (pm_sz h - pm_sz h0) (pm_us h - pm_us h0)) ∧ (∀ (x0 : Nat) (s0 : Nat) (h : pm_H), pm_Le h0 h → pm_iter sX12_init n (.inr (.inr (.inr (.inr (.inr (.inr (.inr (.inl (x0, s0, h))))))))) = some r → pm_G g 48 [(0, .ref x0)] [.ref s0] h (pm_sz h - pm_sz h0) (pm_us h - pm_us h0)) ∧ (∀ (x0 : Nat) (x1 : Nat) (x2 : Int32) (h : pm_H), pm_Le h0 h → pm_iter sX12_init n (.inr (.inr (.inr (.inr (.inr (.inr (.inr (.inr (.inl (x0, x1, x2, h)))))))))) = some r → pm_G g 51 [(0, .ref x0), (1, .ref x1), (2, .int x2)] [] h (pm_sz h - pm_sz h0) (pm_us h - pm_us h0)) ∧ (∀ (x0 : Nat) (x1 : Nat) (s0 : Nat) (s1 : Nat) (h : pm_H), pm_Le h0 h → pm_iter sX12_init n (.inr (.inr (.inr (.inr (.inr (.inr (.inr (.inr (.inr (.inl (x0, x1, s0, s1, h))))))))))) = some r → pm_G g 77 [(0, .ref x0), (1, .ref x1)] [.ref s0, .ref s1] h (pm_sz h - pm_sz h0) (pm_us h - pm_us h0)) ∧ (∀ (x0 : Nat) (x1 : Nat) (s0 : Nat) (s1 : Nat) (h : pm_H), pm_Le h0 h → pm_iter sX12_init n (.inr (.inr (.inr (.inr (.inr (.inr (.inr (.inr (.inr (.inr (.inl (x0, x1, s0, s1, h)))))))))))) = some r → pm_G g 82 [(0, .ref x0), (1, .ref x1)] [.ref s0, .ref s1] h (pm_sz h - pm_sz h0) (pm_us h - pm_us h0)) ∧ (∀ (x0 : Nat) (x1 : Nat) (s0 : Nat) (s1 : Nat) (h : pm_H), pm_Le h0 h → pm_iter sX12_init n (.inr (.inr (.inr (.inr (.inr (.inr (.inr (.inr (.inr (.inr (.inr (.inl (x0, x1, s0, s1, h))))))))))))) = some r → pm_G g 89 [(0, .ref x0), (1, .ref x1)] [.ref s0, .ref s1] h (pm_sz h - pm_sz h0) (pm_us h - pm_us h0)) ∧ (∀ (x0 : Nat) (x1 : Nat) (s0 : Nat) (s1 : Nat) (h : pm_H), pm_Le h0 h → pm_iter sX12_init n (.inr (.inr (.inr (.inr (.inr (.inr (.inr (.inr (.inr (.inr (.inr (.inr (.inl (x0, x1, s0, s1, h)))))))))))))) = some r → pm_G g 98 [(0, .ref x0), (1, .ref x1)] [.ref s0, .ref s1] h (pm_sz h - pm_sz h0) (pm_us h - pm_us h0)) ∧ (∀ (x0 : Nat) (x1 : Nat) (s0 : Nat) (s1 : Nat) (h : pm_H), pm_Le h0 h → pm_iter sX12_init n (.inr (.inr (.inr (.inr (.inr (.inr (.inr (.inr (.inr (.inr (.inr (.inr (.inr (.inl (x0, x1, s0, s1, h))))))))))))))) = some r → pm_G g 105 [(0, .ref x0), (1, .ref x1)] [.ref s0, .ref s1] h (pm_sz h - pm_sz h0) (pm_us h - pm_us h0)) ∧ (∀ (x0 : Nat) (s0 : Nat) (s1 : Nat) (h : pm_H), pm_Le h0 h → pm_iter sX12_init n (.inr (.inr (.inr (.inr (.inr (.inr (.inr (.inr (.inr (.inr (.inr (.inr (.inr (.inr (.inl (x0, s0, s1, h)))))))))))))))) = some r → pm_G g 114 [(0, .ref x0)] [.ref s0, .ref s1] h (pm_sz h - pm_sz h0) (pm_us h - pm_us h0)) ∧ (∀ (x0 : Nat) (s0 : Nat) (s1 : Nat) (h : pm_H), pm_Le h0 h → pm_iter sX12_init n (.inr (.inr (.inr (.inr (.inr (.inr (.inr (.inr (.inr (.inr (.inr (.inr (.inr (.inr (.inr (.inl (x0, s0, s1, h))))))))))))))))) = some r → pm_G g 121 [(0, .ref x0)] [.ref s0, .ref s1] h (pm_sz h - pm_sz h0) (pm_us h - pm_us h0)) ∧ (∀ (s0 : Nat) (s1 : Nat) (h : pm_H), pm_Le h0 h → pm_iter sX12_init n (.inr (.inr (.inr (.inr (.inr (.inr (.inr (.inr (.inr (.inr (.inr (.inr (.inr (.inr (.inr (.inr (s0, s1, h))))))))))))))))) = some r → pm_G g 129 [] [.ref s0, .ref s1] h (pm_sz h - pm_sz h0) (pm_us h - pm_us h0)) := by
  intro n
  induction n with
  | zero => exact ⟨fun _ _ _ hf => (by cases hf), fun _ _ _ _ _ hf => (by cases hf), fun _ _ _ _ _ hf => (by cases hf), fun _ _ _ _ _ hf => (by cases hf), fun _ _ _ _ _ hf => (by cases hf), fun _ _ _ _ hf => (by cases hf), fun _ _ _ _ _ _ hf => (by cases hf), fun _ _ _ _ hf => (by cases hf), fun _ _ _ _ _ hf => (by cases hf), fun _ _ _ _ _ _ hf => (by cases hf), fun _ _ _ _ _ _ hf => (by cases hf), fun _ _ _ _ _ _ hf => (by cases hf), fun _ _ _ _ _ _ hf => (by cases hf), fun _ _ _ _ _ _ hf => (by cases hf), fun _ _ _ _ _ hf => (by cases hf), fun _ _ _ _ _ hf => (by cases hf), fun _ _ _ _ hf => (by cases hf)⟩
  | succ n ih =>
    refine ⟨fun x0 h m0 hf => ?_, ?_⟩
    · have le0 := (mlX12_init (n + 1)).1 x0 h hf
      have kc1 := Nat.sub_le_sub_right le0.1 (pm_sz h0)
      have kc2 := Nat.sub_le_sub_right le0.2 (pm_us h0)
      have K0 := pm_S3.rf h
      obtain ⟨y, hf, hi⟩ := pm_iter_s hf
      have hf : tX12_init_0 x0 h = some y := hf
      unfold tX12_init_0 at hf
      refine pm_aload_n C dX12_init_0 rfl rfl ?_
      refine pm_obj C X dX12_init_1 obX12_1 obI obC (by decide) (by decide) (Nat.le_of_ble_eq_true rfl) ?_
      refine pm_aload_n C dX12_init_4 rfl rfl ?_
      refine pm_ldc C dX12_init_5 cnX12_9 ?_
      cases hf
      refine pa_newa (hb := h) (h0 := h0) (t := 1) (N := 40960) C X K0 m0 dX12_init_7 (by decide) rfl al1 (by decide) (by decide +kernel) (by decide +kernel) ((mlX12_init n).2.1 x0 (pm_sz h) x0 (pm_new h 33 40960) hi) ?_
      exact pm_sub [0] rfl (ih.2.1 x0 (pm_sz h) x0 (pm_new h 33 40960) ((m0.trans (pm_S3.le K0)).trans (pm_Le_new _ _ _)) hi)
    refine ⟨fun x0 s0 s1 h m0 hf => ?_, ?_⟩
    · have le0 := (mlX12_init (n + 1)).2.1 x0 s0 s1 h hf
      have kc1 := Nat.sub_le_sub_right le0.1 (pm_sz h0)
      have kc2 := Nat.sub_le_sub_right le0.2 (pm_us h0)
      have K0 := pm_S3.rf h
      obtain ⟨y, hf, hi⟩ := pm_iter_s hf
      have hf : tX12_init_9 x0 s0 s1 h = some y := hf
      unfold tX12_init_9 at hf
      obtain ⟨k1, hf⟩ := pm_if hf
      refine pm_putRF C dX12_init_9 flX12_10 rfl nm rfl fwX12_10 rfl k1 ?_
      refine pm_aload_n C dX12_init_12 rfl rfl ?_
      refine pm_bipush (v := 16) C dX12_init_13 (by decide) ?_
      cases hf
      refine pa_newq (hb := h) (h0 := h0) (t := 9) (c := 7) (N := 16) C X (pm_S3R K0) m0 dX12_init_15 (by decide) rfl ao7 ckX12_14 (by decide) (by decide +kernel) (by decide +kernel) ((mlX12_init n).2.2.1 x0 (pm_sz (pm_setR h s1 0 (some s0))) x0 (pm_new (pm_setR h s1 0 (some s0)) 41 16) hi) ?_
      exact pm_sub [0] rfl (ih.2.2.1 x0 (pm_sz (pm_setR h s1 0 (some s0))) x0 (pm_new (pm_setR h s1 0 (some s0)) 41 16) ((m0.trans (pm_S3.le (pm_S3R K0))).trans (pm_Le_new _ _ _)) hi)
    refine ⟨fun x0 s0 s1 h m0 hf => ?_, ?_⟩
    · have le0 := (mlX12_init (n + 1)).2.2.1 x0 s0 s1 h hf
      have kc1 := Nat.sub_le_sub_right le0.1 (pm_sz h0)
      have kc2 := Nat.sub_le_sub_right le0.2 (pm_us h0)
      have K0 := pm_S3.rf h
      obtain ⟨y, hf, hi⟩ := pm_iter_s hf
      have hf : tX12_init_18 x0 s0 s1 h = some y := hf
      unfold tX12_init_18 at hf
      obtain ⟨k2, hf⟩ := pm_if hf
      refine pm_putRF C dX12_init_18 flX12_16 rfl nm rfl fwX12_16 rfl k2 ?_
      refine pm_aload_n C dX12_init_21 rfl rfl ?_
      refine pm_sipush (v := 128) C dX12_init_22 (by decide) ?_
      cases hf
      refine pa_newa (hb := h) (h0 := h0) (t := 2) (N := 128) C X (pm_S3R K0) m0 dX12_init_25 (by decide) rfl al2 (by decide) (by decide +kernel) (by decide +kernel) ((mlX12_init n).2.2.2.1 x0 (pm_sz (pm_setR h s1 3 (some s0))) x0 (pm_new (pm_setR h s1 3 (some s0)) 34 128) hi) ?_
      exact pm_sub [0] rfl (ih.2.2.2.1 x0 (pm_sz (pm_setR h s1 3 (some s0))) x0 (pm_new (pm_setR h s1 3 (some s0)) 34 128) ((m0.trans (pm_S3.le (pm_S3R K0))).trans (pm_Le_new _ _ _)) hi)
    refine ⟨fun x0 s0 s1 h m0 hf => ?_, ?_⟩
    · have le0 := (mlX12_init (n + 1)).2.2.2.1 x0 s0 s1 h hf
      have kc1 := Nat.sub_le_sub_right le0.1 (pm_sz h0)
      have kc2 := Nat.sub_le_sub_right le0.2 (pm_us h0)
      have K0 := pm_S3.rf h
      obtain ⟨y, hf, hi⟩ := pm_iter_s hf
      have hf : tX12_init_27 x0 s0 s1 h = some y := hf
      unfold tX12_init_27 at hf
      obtain ⟨k3, hf⟩ := pm_if hf
      refine pm_putRF C dX12_init_27 flX12_20 rfl nm rfl fwX12_20 rfl k3 ?_
      refine pm_aload_n C dX12_init_30 rfl rfl ?_
      refine pm_bipush (v := 16) C dX12_init_31 (by decide) ?_
      cases hf
      refine pa_newa (hb := h) (h0 := h0) (t := 3) (N := 16) C X (pm_S3R K0) m0 dX12_init_33 (by decide) rfl al3 (by decide) (by decide +kernel) (by decide +kernel) ((mlX12_init n).2.2.2.2.1 x0 (pm_sz (pm_setR h s1 12 (some s0))) x0 (pm_new (pm_setR h s1 12 (some s0)) 35 16) hi) ?_
      exact pm_sub [0] rfl (ih.2.2.2.2.1 x0 (pm_sz (pm_setR h s1 12 (some s0))) x0 (pm_new (pm_setR h s1 12 (some s0)) 35 16) ((m0.trans (pm_S3.le (pm_S3R K0))).trans (pm_Le_new _ _ _)) hi)
    refine ⟨fun x0 s0 s1 h m0 hf => ?_, ?_⟩
    · have le0 := (mlX12_init (n + 1)).2.2.2.2.1 x0 s0 s1 h hf
      have kc1 := Nat.sub_le_sub_right le0.1 (pm_sz h0)
      have kc2 := Nat.sub_le_sub_right le0.2 (pm_us h0)
      have K0 := pm_S3.rf h
      obtain ⟨y, hf, hi⟩ := pm_iter_s hf
      have hf : tX12_init_35 x0 s0 s1 h = some y := hf
      unfold tX12_init_35 at hf
      obtain ⟨k4, hf⟩ := pm_if hf
      refine pm_putRF C dX12_init_35 flX12_24 rfl nm rfl fwX12_24 rfl k4 ?_
      cases hf
      refine pa_newo (hb := h) (h0 := h0) C X (pm_S3R K0) m0 dX12_init_38 pm_Cl7 ckX12_14 cc7.1 cc7.2 ((mlX12_init n).2.2.2.2.2.1 x0 (pm_sz (pm_setR h s1 14 (some s0))) (pm_new (pm_setR h s1 14 (some s0)) 7 0) hi) ?_
      exact pm_sub [0] rfl (ih.2.2.2.2.2.1 x0 (pm_sz (pm_setR h s1 14 (some s0))) (pm_new (pm_setR h s1 14 (some s0)) 7 0) ((m0.trans (pm_S3.le (pm_S3R K0))).trans (pm_Le_new _ _ _)) hi)
    refine ⟨fun x0 s0 h m0 hf => ?_, ?_⟩
    · have le0 := (mlX12_init (n + 1)).2.2.2.2.2.1 x0 s0 h hf
      have kc1 := Nat.sub_le_sub_right le0.1 (pm_sz h0)
      have kc2 := Nat.sub_le_sub_right le0.2 (pm_us h0)
      have K0 := pm_S3.rf h
      obtain ⟨y, hf, hi⟩ := pm_iter_s hf
      have hf : tX12_init_41 x0 s0 h = some y := hf
      unfold tX12_init_41 at hf
      refine pm_dup C dX12_init_41 rfl ?_
      refine pm_iconst (v := 0) C dX12_init_42 (by decide) ?_
      cases hf
      refine pa_newa (hb := h) (h0 := h0) (t := 1) (N := 0) C X K0 m0 dX12_init_43 (by decide) rfl al1 (by decide) (by decide +kernel) (by decide +kernel) ((mlX12_init n).2.2.2.2.2.2.1 x0 (pm_sz h) s0 s0 (pm_new h 33 0) hi) ?_
      exact pm_sub [0] rfl (ih.2.2.2.2.2.2.1 x0 (pm_sz h) s0 s0 (pm_new h 33 0) ((m0.trans (pm_S3.le K0)).trans (pm_Le_new _ _ _)) hi)
    refine ⟨fun x0 s0 s1 s2 h m0 hf => ?_, ?_⟩
    · have le0 := (mlX12_init (n + 1)).2.2.2.2.2.2.1 x0 s0 s1 s2 h hf
      have kc1 := Nat.sub_le_sub_right le0.1 (pm_sz h0)
      have kc2 := Nat.sub_le_sub_right le0.2 (pm_us h0)
      have K0 := pm_S3.rf h
      obtain ⟨y, hf, hi⟩ := pm_iter_s hf
      have hf : tX12_init_45 x0 s0 s1 s2 h = some y := hf
      unfold tX12_init_45 at hf
      obtain ⟨v5, e6, hf⟩ := pm_bd hf
      cases hf
      refine pm_callI (as := [.ref s0]) (st := [.ref s2]) C X dX12_init_45 lnX12_28 myX7_init iiX7_init ⟨by decide, by decide⟩ rfl rfl (Nat.le_of_ble_eq_true rfl) (pa_le1 K0 m0 (moX7_init e6) ((mlX12_init n).2.2.2.2.2.2.2.1 x0 s2 v5 hi)) (pa_le2 K0 m0 (moX7_init e6) ((mlX12_init n).2.2.2.2.2.2.2.1 x0 s2 v5 hi)) (ctX7_init e6 ?_)
      show pm_G g 48 [(0, .ref x0)] [.ref s2] v5 (pm_sz h - pm_sz h0 + (pm_sz v5 - pm_sz h)) (pm_us h - pm_us h0 + (pm_us v5 - pm_us h))
      refine pa_fin K0 m0 (moX7_init e6) ?_
      exact pm_sub [0] rfl (ih.2.2.2.2.2.2.2.1 x0 s2 v5 ((m0.trans (pm_S3.le K0)).trans (moX7_init e6)) hi)
    refine ⟨fun x0 s0 h m0 hf => ?_, ?_⟩
    · have le0 := (mlX12_init (n + 1)).2.2.2.2.2.2.2.1 x0 s0 h hf
      have kc1 := Nat.sub_le_sub_right le0.1 (pm_sz h0)
      have kc2 := Nat.sub_le_sub_right le0.2 (pm_us h0)
      have K0 := pm_S3.rf h
      obtain ⟨y, hf, hi⟩ := pm_iter_s hf
      have hf : tX12_init_48 x0 s0 h = some y := hf
      unfold tX12_init_48 at hf
      refine pm_astore_n (lv' := [(1, .ref s0), (0, .ref x0)]) C dX12_init_48 rfl (pm_nl X (by decide)) rfl ?_
      refine pm_iconst (v := 0) C dX12_init_49 (by decide) ?_
      refine pm_istore_n (lv' := [(2, .int 0), (1, .ref s0), (0, .ref x0)]) C dX12_init_50 rfl (pm_nl X (by decide)) rfl ?_
      cases hf
      exact pa_join K0 (pm_sub [2, 1, 0] rfl (ih.2.2.2.2.2.2.2.2.1 x0 s0 0 h (m0.trans (pm_S3.le K0)) hi))
    refine ⟨fun x0 x1 x2 h m0 hf => ?_, ?_⟩
    · have le0 := (mlX12_init (n + 1)).2.2.2.2.2.2.2.2.1 x0 x1 x2 h hf
      have kc1 := Nat.sub_le_sub_right le0.1 (pm_sz h0)
      have kc2 := Nat.sub_le_sub_right le0.2 (pm_us h0)
      have K0 := pm_S3.rf h
      obtain ⟨y, hf, hi⟩ := pm_iter_s hf
      have hf : tX12_init_51 x0 x1 x2 h = some y := hf
      unfold tX12_init_51 at hf
      refine pm_iload_n C dX12_init_51 rfl rfl ?_
      refine pm_aload_n C dX12_init_52 rfl rfl ?_
      obtain ⟨k7, hf⟩ := pm_if hf
      obtain ⟨v8, e9, hf⟩ := pm_bd hf
      refine pm_getR C dX12_init_53 flX12_16 rfl k7 e9 ?_
      obtain ⟨k10, hf⟩ := pm_if hf
      refine pm_alen (t := 9) C dX12_init_56 (by decide) k10 rfl ?_
      refine pm_icmp_ge (tgt := 73) C dX12_init_57 (by decide) (fun c11 => ?_) (fun c11 => ?_)
      · have hf := pm_it hf c11
        refine pm_aload_n C dX12_init_73 rfl rfl ?_
        cases hf
        refine pa_newo (hb := h) (h0 := h0) C X K0 m0 dX12_init_74 pm_Cl9 ckX12_31 cc9.1 cc9.2 ((mlX12_init n).2.2.2.2.2.2.2.2.2.1 x0 x1 (pm_sz h) x0 (pm_new h 9 0) hi) ?_
        exact pm_sub [0, 1] rfl (ih.2.2.2.2.2.2.2.2.2.1 x0 x1 (pm_sz h) x0 (pm_new h 9 0) ((m0.trans (pm_S3.le K0)).trans (pm_Le_new _ _ _)) hi)
      · have hf := pm_ie hf c11
        refine pm_aload_n C dX12_init_60 rfl rfl ?_
        refine pm_getR C dX12_init_61 flX12_16 rfl k7 e9 ?_
        refine pm_iload_n C dX12_init_64 rfl rfl ?_
        refine pm_aload_n C dX12_init_65 rfl rfl ?_
        obtain ⟨k12, hf⟩ := pm_if hf
        obtain ⟨u13, hf⟩ := pm_if hf
        refine pm_aast (t := 9) C dX12_init_66 (by decide) pm_Cl7 rfl k10 k12 u13 ?_
        obtain ⟨y14, e15, hf⟩ := pm_lt hf
        refine pm_iinc (v := y14) (lv' := [(2, .int y14), (0, .ref x0), (1, .ref x1)]) C dX12_init_67 rfl ((congrArg (x2 + ·) (by decide : Int32.ofInt 1 = 1)).trans e15) (pm_nl X (by decide)) rfl ?_
        refine pm_goto (tgt := 51) C dX12_init_70 (by decide) ?_
        cases hf
        exact pa_join (pm_S3R K0) (pm_sub [1, 2, 0] rfl (ih.2.2.2.2.2.2.2.2.1 x0 x1 y14 (pm_setR h v8 x2.toNatClampNeg (some x1)) (m0.trans (pm_S3.le (pm_S3R K0))) hi))
    refine ⟨fun x0 x1 s0 s1 h m0 hf => ?_, ?_⟩
    · have le0 := (mlX12_init (n + 1)).2.2.2.2.2.2.2.2.2.1 x0 x1 s0 s1 h hf
      have kc1 := Nat.sub_le_sub_right le0.1 (pm_sz h0)
      have kc2 := Nat.sub_le_sub_right le0.2 (pm_us h0)
      have K0 := pm_S3.rf h
      obtain ⟨y, hf, hi⟩ := pm_iter_s hf
      have hf : tX12_init_77 x0 x1 s0 s1 h = some y := hf
      unfold tX12_init_77 at hf
      refine pm_dup C dX12_init_77 rfl ?_
      refine pm_aload_n C dX12_init_78 rfl rfl ?_
      obtain ⟨v16, e17, hf⟩ := pm_bd hf
      cases hf
      refine pm_callI (as := [.ref x1]) (st := [.ref s0, .ref s1]) C X dX12_init_79 lnX12_33 myX9_init iiX9_init ⟨by decide, by decide⟩ rfl rfl (Nat.le_of_ble_eq_true rfl) (pa_le1 K0 m0 (moX9_init e17) ((mlX12_init n).2.2.2.2.2.2.2.2.2.2.1 x0 x1 s0 s1 v16 hi)) (pa_le2 K0 m0 (moX9_init e17) ((mlX12_init n).2.2.2.2.2.2.2.2.2.2.1 x0 x1 s0 s1 v16 hi)) (ctX9_init e17 ?_)
      show pm_G g 82 [(0, .ref x0), (1, .ref x1)] [.ref s0, .ref s1] v16 (pm_sz h - pm_sz h0 + (pm_sz v16 - pm_sz h)) (pm_us h - pm_us h0 + (pm_us v16 - pm_us h))
      refine pa_fin K0 m0 (moX9_init e17) ?_
      exact pm_sub [0, 1] rfl (ih.2.2.2.2.2.2.2.2.2.2.1 x0 x1 s0 s1 v16 ((m0.trans (pm_S3.le K0)).trans (moX9_init e17)) hi)
    refine ⟨fun x0 x1 s0 s1 h m0 hf => ?_, ?_⟩
    · have le0 := (mlX12_init (n + 1)).2.2.2.2.2.2.2.2.2.2.1 x0 x1 s0 s1 h hf
      have kc1 := Nat.sub_le_sub_right le0.1 (pm_sz h0)
      have kc2 := Nat.sub_le_sub_right le0.2 (pm_us h0)
      have K0 := pm_S3.rf h
      obtain ⟨y, hf, hi⟩ := pm_iter_s hf
      have hf : tX12_init_82 x0 x1 s0 s1 h = some y := hf
      unfold tX12_init_82 at hf
      obtain ⟨k18, hf⟩ := pm_if hf
      refine pm_putRF C dX12_init_82 flX12_36 rfl nm rfl fwX12_36 rfl k18 ?_
      refine pm_aload_n C dX12_init_85 rfl rfl ?_
      cases hf
      refine pa_newo (hb := h) (h0 := h0) C X (pm_S3R K0) m0 dX12_init_86 pm_Cl1 ckX12_40 cc1.1 cc1.2 ((mlX12_init n).2.2.2.2.2.2.2.2.2.2.2.1 x0 x1 (pm_sz (pm_setR h s1 8 (some s0))) x0 (pm_new (pm_setR h s1 8 (some s0)) 1 0) hi) ?_
      exact pm_sub [0, 1] rfl (ih.2.2.2.2.2.2.2.2.2.2.2.1 x0 x1 (pm_sz (pm_setR h s1 8 (some s0))) x0 (pm_new (pm_setR h s1 8 (some s0)) 1 0) ((m0.trans (pm_S3.le (pm_S3R K0))).trans (pm_Le_new _ _ _)) hi)
    refine ⟨fun x0 x1 s0 s1 h m0 hf => ?_, ?_⟩
    · have le0 := (mlX12_init (n + 1)).2.2.2.2.2.2.2.2.2.2.2.1 x0 x1 s0 s1 h hf
      have kc1 := Nat.sub_le_sub_right le0.1 (pm_sz h0)
      have kc2 := Nat.sub_le_sub_right le0.2 (pm_us h0)
      have K0 := pm_S3.rf h
      obtain ⟨y, hf, hi⟩ := pm_iter_s hf
      have hf : tX12_init_89 x0 x1 s0 s1 h = some y := hf
      unfold tX12_init_89 at hf
      refine pm_dup C dX12_init_89 rfl ?_
      refine pm_aload_n C dX12_init_90 rfl rfl ?_
      obtain ⟨k19, hf⟩ := pm_if hf
      obtain ⟨v20, e21, hf⟩ := pm_bd hf
      refine pm_getR C dX12_init_91 flX12_36 rfl k19 e21 ?_
      refine pm_aload_n C dX12_init_94 rfl rfl ?_
      obtain ⟨v22, e23, hf⟩ := pm_bd hf
      cases hf
      refine pm_callI (as := [.ref v20, .ref x1]) (st := [.ref s0, .ref s1]) C X dX12_init_95 lnX12_42 myX1_init iiX1_init ⟨by decide, by decide⟩ rfl rfl (Nat.le_of_ble_eq_true rfl) (pa_le1 K0 m0 (moX1_init e23) ((mlX12_init n).2.2.2.2.2.2.2.2.2.2.2.2.1 x0 x1 s0 s1 v22 hi)) (pa_le2 K0 m0 (moX1_init e23) ((mlX12_init n).2.2.2.2.2.2.2.2.2.2.2.2.1 x0 x1 s0 s1 v22 hi)) (ctX1_init e23 ?_)
      show pm_G g 98 [(0, .ref x0), (1, .ref x1)] [.ref s0, .ref s1] v22 (pm_sz h - pm_sz h0 + (pm_sz v22 - pm_sz h)) (pm_us h - pm_us h0 + (pm_us v22 - pm_us h))
      refine pa_fin K0 m0 (moX1_init e23) ?_
      exact pm_sub [0, 1] rfl (ih.2.2.2.2.2.2.2.2.2.2.2.2.1 x0 x1 s0 s1 v22 ((m0.trans (pm_S3.le K0)).trans (moX1_init e23)) hi)
    refine ⟨fun x0 x1 s0 s1 h m0 hf => ?_, ?_⟩
    · have le0 := (mlX12_init (n + 1)).2.2.2.2.2.2.2.2.2.2.2.2.1 x0 x1 s0 s1 h hf
      have kc1 := Nat.sub_le_sub_right le0.1 (pm_sz h0)
      have kc2 := Nat.sub_le_sub_right le0.2 (pm_us h0)
      have K0 := pm_S3.rf h
      obtain ⟨y, hf, hi⟩ := pm_iter_s hf
      have hf : tX12_init_98 x0 x1 s0 s1 h = some y := hf
      unfold tX12_init_98 at hf
      obtain ⟨k24, hf⟩ := pm_if hf
      refine pm_putRF C dX12_init_98 flX12_45 rfl nm rfl fwX12_45 rfl k24 ?_
      refine pm_aload_n C dX12_init_101 rfl rfl ?_
      cases hf
      refine pa_newo (hb := h) (h0 := h0) C X (pm_S3R K0) m0 dX12_init_102 pm_Cl10 ckX12_49 cc10.1 cc10.2 ((mlX12_init n).2.2.2.2.2.2.2.2.2.2.2.2.2.1 x0 x1 (pm_sz (pm_setR h s1 9 (some s0))) x0 (pm_new (pm_setR h s1 9 (some s0)) 10 0) hi) ?_
      exact pm_sub [0, 1] rfl (ih.2.2.2.2.2.2.2.2.2.2.2.2.2.1 x0 x1 (pm_sz (pm_setR h s1 9 (some s0))) x0 (pm_new (pm_setR h s1 9 (some s0)) 10 0) ((m0.trans (pm_S3.le (pm_S3R K0))).trans (pm_Le_new _ _ _)) hi)
    refine ⟨fun x0 x1 s0 s1 h m0 hf => ?_, ?_⟩
    · have le0 := (mlX12_init (n + 1)).2.2.2.2.2.2.2.2.2.2.2.2.2.1 x0 x1 s0 s1 h hf
      have kc1 := Nat.sub_le_sub_right le0.1 (pm_sz h0)
      have kc2 := Nat.sub_le_sub_right le0.2 (pm_us h0)
      have K0 := pm_S3.rf h
      obtain ⟨y, hf, hi⟩ := pm_iter_s hf
      have hf : tX12_init_105 x0 x1 s0 s1 h = some y := hf
      unfold tX12_init_105 at hf
      refine pm_dup C dX12_init_105 rfl ?_
      refine pm_aload_n C dX12_init_106 rfl rfl ?_
      obtain ⟨k25, hf⟩ := pm_if hf
      obtain ⟨v26, e27, hf⟩ := pm_bd hf
      refine pm_getR C dX12_init_107 flX12_36 rfl k25 e27 ?_
      refine pm_aload_n C dX12_init_110 rfl rfl ?_
      obtain ⟨v28, e29, hf⟩ := pm_bd hf
      cases hf
      refine pm_callI (as := [.ref v26, .ref x1]) (st := [.ref s0, .ref s1]) C X dX12_init_111 lnX12_51 myX10_init iiX10_init ⟨by decide, by decide⟩ rfl rfl (Nat.le_of_ble_eq_true rfl) (pa_le1 K0 m0 (moX10_init e29) ((mlX12_init n).2.2.2.2.2.2.2.2.2.2.2.2.2.2.1 x0 s0 s1 v28 hi)) (pa_le2 K0 m0 (moX10_init e29) ((mlX12_init n).2.2.2.2.2.2.2.2.2.2.2.2.2.2.1 x0 s0 s1 v28 hi)) (ctX10_init e29 ?_)
      show pm_G g 114 [(0, .ref x0), (1, .ref x1)] [.ref s0, .ref s1] v28 (pm_sz h - pm_sz h0 + (pm_sz v28 - pm_sz h)) (pm_us h - pm_us h0 + (pm_us v28 - pm_us h))
      refine pa_fin K0 m0 (moX10_init e29) ?_
      exact pm_sub [0] rfl (ih.2.2.2.2.2.2.2.2.2.2.2.2.2.2.1 x0 s0 s1 v28 ((m0.trans (pm_S3.le K0)).trans (moX10_init e29)) hi)
    refine ⟨fun x0 s0 s1 h m0 hf => ?_, ?_⟩
    · have le0 := (mlX12_init (n + 1)).2.2.2.2.2.2.2.2.2.2.2.2.2.2.1 x0 s0 s1 h hf
      have kc1 := Nat.sub_le_sub_right le0.1 (pm_sz h0)
      have kc2 := Nat.sub_le_sub_right le0.2 (pm_us h0)
      have K0 := pm_S3.rf h
      obtain ⟨y, hf, hi⟩ := pm_iter_s hf
      have hf : tX12_init_114 x0 s0 s1 h = some y := hf
      unfold tX12_init_114 at hf
      obtain ⟨k30, hf⟩ := pm_if hf
      refine pm_putRF C dX12_init_114 flX12_52 rfl nm rfl fwX12_52 rfl k30 ?_
      refine pm_aload_n C dX12_init_117 rfl rfl ?_
      cases hf
      refine pa_newo (hb := h) (h0 := h0) C X (pm_S3R K0) m0 dX12_init_118 pm_Cl5 ckX12_56 cc5.1 cc5.2 ((mlX12_init n).2.2.2.2.2.2.2.2.2.2.2.2.2.2.2.1 x0 (pm_sz (pm_setR h s1 10 (some s0))) x0 (pm_new (pm_setR h s1 10 (some s0)) 5 0) hi) ?_
      exact pm_sub [0] rfl (ih.2.2.2.2.2.2.2.2.2.2.2.2.2.2.2.1 x0 (pm_sz (pm_setR h s1 10 (some s0))) x0 (pm_new (pm_setR h s1 10 (some s0)) 5 0) ((m0.trans (pm_S3.le (pm_S3R K0))).trans (pm_Le_new _ _ _)) hi)
    refine ⟨fun x0 s0 s1 h m0 hf => ?_, ?_⟩
    · have le0 := (mlX12_init (n + 1)).2.2.2.2.2.2.2.2.2.2.2.2.2.2.2.1 x0 s0 s1 h hf
      have kc1 := Nat.sub_le_sub_right le0.1 (pm_sz h0)
      have kc2 := Nat.sub_le_sub_right le0.2 (pm_us h0)
      have K0 := pm_S3.rf h
      obtain ⟨y, hf, hi⟩ := pm_iter_s hf
      have hf : tX12_init_121 x0 s0 s1 h = some y := hf
      unfold tX12_init_121 at hf
      refine pm_dup C dX12_init_121 rfl ?_
      refine pm_aload_n C dX12_init_122 rfl rfl ?_
      obtain ⟨k31, hf⟩ := pm_if hf
      obtain ⟨v32, e33, hf⟩ := pm_bd hf
      refine pm_getR C dX12_init_123 flX12_52 rfl k31 e33 ?_
      obtain ⟨v34, e35, hf⟩ := pm_bd hf
      cases hf
      refine pm_callI (as := [.ref v32]) (st := [.ref s0, .ref s1]) C X dX12_init_126 lnX12_58 myX5_init iiX5_init ⟨by decide, by decide⟩ rfl rfl (Nat.le_of_ble_eq_true rfl) (pa_le1 K0 m0 (moX5_init e35) ((mlX12_init n).2.2.2.2.2.2.2.2.2.2.2.2.2.2.2.2 s0 s1 v34 hi)) (pa_le2 K0 m0 (moX5_init e35) ((mlX12_init n).2.2.2.2.2.2.2.2.2.2.2.2.2.2.2.2 s0 s1 v34 hi)) (ctX5_init e35 ?_)
      show pm_G g 129 [(0, .ref x0)] [.ref s0, .ref s1] v34 (pm_sz h - pm_sz h0 + (pm_sz v34 - pm_sz h)) (pm_us h - pm_us h0 + (pm_us v34 - pm_us h))
      refine pa_fin K0 m0 (moX5_init e35) ?_
      exact pm_sub [] rfl (ih.2.2.2.2.2.2.2.2.2.2.2.2.2.2.2.2 s0 s1 v34 ((m0.trans (pm_S3.le K0)).trans (moX5_init e35)) hi)
    refine fun s0 s1 h m0 hf => ?_
    have le0 := (mlX12_init (n + 1)).2.2.2.2.2.2.2.2.2.2.2.2.2.2.2.2 s0 s1 h hf
    have kc1 := Nat.sub_le_sub_right le0.1 (pm_sz h0)
    have kc2 := Nat.sub_le_sub_right le0.2 (pm_us h0)
    have K0 := pm_S3.rf h
    obtain ⟨y, hf, hi⟩ := pm_iter_s hf
    have hf : tX12_init_129 s0 s1 h = some y := hf
    unfold tX12_init_129 at hf
    obtain ⟨k36, hf⟩ := pm_if hf
    refine pm_putRF C dX12_init_129 flX12_61 rfl nm rfl fwX12_61 rfl k36 ?_
    have hf := Option.some.inj hf
    subst hf
    have hi := Option.some.inj (show some _ = some r from hi)
    subst hi
    exact pm_vret C X dX12_init_132 rfl kc1 kc2 q
set_option maxHeartbeats 4000000 in
set_option maxRecDepth 100000 in
theorem ctX12_init {l : Launch} {G : pm_Gl} {h : pm_H} {a0 : Nat} {r : pm_H} {Qr : Option Value → pm_H → Prop} (hf : fX12_init h a0 = some r) (q : Qr none r) : pm_Ct l G mX12_init [.ref a0] h (pm_sz r - pm_sz h) (pm_us r - pm_us h) Qr := by
  refine pm_bodyN pnX12 (Nat.le_of_ble_eq_true rfl) (fun g C X nm => ?_)
  have C : pm_C g cX12_init RX12 := C
  show pm_G g 0 [(0, .ref a0)] [] h 0 0
  unfold fX12_init at hf
  obtain ⟨n, hn⟩ := pm_lim_iter hf
  exact pa_start (pm_sub [0] rfl ((lpX12_init C X q nm n).1 a0 h (pm_Le.rf h) hn))
