theorem dX5_init_0 : decode cX5_init 0 = .ok (.aload_n 0, 1) := by decide +kernel
theorem dX5_init_1 : decode cX5_init 1 = .ok (.invokespecial 3, 3) := by decide +kernel
theorem dX5_init_4 : decode cX5_init 4 = .ok (.aload_n 0, 1) := by decide +kernel
theorem dX5_init_5 : decode cX5_init 5 = .ok (.bipush 16, 2) := by decide +kernel
theorem dX5_init_7 : decode cX5_init 7 = .ok (.newarray .long, 2) := by decide +kernel
theorem dX5_init_9 : decode cX5_init 9 = .ok (.putfield 9, 3) := by decide +kernel
theorem dX5_init_12 : decode cX5_init 12 = .ok (.aload_n 0, 1) := by decide +kernel
theorem dX5_init_13 : decode cX5_init 13 = .ok (.sipush 4096, 3) := by decide +kernel
theorem dX5_init_16 : decode cX5_init 16 = .ok (.newarray .long, 2) := by decide +kernel
theorem dX5_init_18 : decode cX5_init 18 = .ok (.putfield 15, 3) := by decide +kernel
theorem dX5_init_21 : decode cX5_init 21 = .ok (.aload_n 0, 1) := by decide +kernel
theorem dX5_init_22 : decode cX5_init 22 = .ok (.sipush 200, 3) := by decide +kernel
theorem dX5_init_25 : decode cX5_init 25 = .ok (.anewarray 18, 3) := by decide +kernel
theorem dX5_init_28 : decode cX5_init 28 = .ok (.putfield 20, 3) := by decide +kernel
theorem dX5_init_31 : decode cX5_init 31 = .ok (.aload_n 0, 1) := by decide +kernel
theorem dX5_init_32 : decode cX5_init 32 = .ok (.aload_n 1, 1) := by decide +kernel
theorem dX5_init_33 : decode cX5_init 33 = .ok (.putfield 24, 3) := by decide +kernel
theorem dX5_init_36 : decode cX5_init 36 = .ok (.new 28, 3) := by decide +kernel
theorem dX5_init_39 : decode cX5_init 39 = .ok (.dup, 1) := by decide +kernel
theorem dX5_init_40 : decode cX5_init 40 = .ok (.iconst 2, 1) := by decide +kernel
theorem dX5_init_41 : decode cX5_init 41 = .ok (.newarray .int, 2) := by decide +kernel
theorem dX5_init_43 : decode cX5_init 43 = .ok (.iconst 0, 1) := by decide +kernel
theorem dX5_init_44 : decode cX5_init 44 = .ok (.invokespecial 30, 3) := by decide +kernel
theorem dX5_init_47 : decode cX5_init 47 = .ok (.astore_n 2, 1) := by decide +kernel
theorem dX5_init_48 : decode cX5_init 48 = .ok (.aload_n 0, 1) := by decide +kernel
theorem dX5_init_49 : decode cX5_init 49 = .ok (.new 33, 3) := by decide +kernel
theorem dX5_init_52 : decode cX5_init 52 = .ok (.dup, 1) := by decide +kernel
theorem dX5_init_53 : decode cX5_init 53 = .ok (.aload_n 2, 1) := by decide +kernel
theorem dX5_init_54 : decode cX5_init 54 = .ok (.invokespecial 35, 3) := by decide +kernel
theorem dX5_init_57 : decode cX5_init 57 = .ok (.putfield 38, 3) := by decide +kernel
theorem dX5_init_60 : decode cX5_init 60 = .ok (.iconst 0, 1) := by decide +kernel
theorem dX5_init_61 : decode cX5_init 61 = .ok (.istore_n 3, 1) := by decide +kernel
theorem dX5_init_62 : decode cX5_init 62 = .ok (.iload_n 3, 1) := by decide +kernel
theorem dX5_init_63 : decode cX5_init 63 = .ok (.aload_n 0, 1) := by decide +kernel
theorem dX5_init_64 : decode cX5_init 64 = .ok (.getfield 20, 3) := by decide +kernel
theorem dX5_init_67 : decode cX5_init 67 = .ok (.arraylength, 1) := by decide +kernel
theorem dX5_init_68 : decode cX5_init 68 = .ok (.if_icmp .ge 28, 3) := by decide +kernel
theorem dX5_init_71 : decode cX5_init 71 = .ok (.aload_n 0, 1) := by decide +kernel
theorem dX5_init_72 : decode cX5_init 72 = .ok (.getfield 20, 3) := by decide +kernel
theorem dX5_init_75 : decode cX5_init 75 = .ok (.iload_n 3, 1) := by decide +kernel
theorem dX5_init_76 : decode cX5_init 76 = .ok (.new 18, 3) := by decide +kernel
theorem dX5_init_79 : decode cX5_init 79 = .ok (.dup, 1) := by decide +kernel
theorem dX5_init_80 : decode cX5_init 80 = .ok (.aload_n 1, 1) := by decide +kernel
theorem dX5_init_81 : decode cX5_init 81 = .ok (.iconst (-1), 1) := by decide +kernel
theorem dX5_init_82 : decode cX5_init 82 = .ok (.invokevirtual 42, 3) := by decide +kernel
theorem dX5_init_85 : decode cX5_init 85 = .ok (.aload_n 2, 1) := by decide +kernel
theorem dX5_init_86 : decode cX5_init 86 = .ok (.invokespecial 48, 3) := by decide +kernel
theorem dX5_init_89 : decode cX5_init 89 = .ok (.aastore, 1) := by decide +kernel
theorem dX5_init_90 : decode cX5_init 90 = .ok (.iinc 3 1, 3) := by decide +kernel
theorem dX5_init_93 : decode cX5_init 93 = .ok (.goto (-31), 3) := by decide +kernel
theorem dX5_init_96 : decode cX5_init 96 = .ok (.aload_n 0, 1) := by decide +kernel
theorem dX5_init_97 : decode cX5_init 97 = .ok (.aload_n 0, 1) := by decide +kernel
theorem dX5_init_98 : decode cX5_init 98 = .ok (.getfield 20, 3) := by decide +kernel
theorem dX5_init_101 : decode cX5_init 101 = .ok (.iconst 0, 1) := by decide +kernel
theorem dX5_init_102 : decode cX5_init 102 = .ok (.aaload, 1) := by decide +kernel
theorem dX5_init_103 : decode cX5_init 103 = .ok (.putfield 51, 3) := by decide +kernel
theorem dX5_init_106 : decode cX5_init 106 = .ok (.return_, 1) := by decide +kernel
def tX5_init_0 (x0 : Nat) (x1 : Nat) (h : pm_H) : Option (((Nat × Nat × pm_H) ⊕ (Nat × Nat × Nat × Nat × pm_H) ⊕ (Nat × Nat × Nat × Nat × pm_H) ⊕ (Nat × Nat × Nat × Nat × pm_H) ⊕ (Nat × Nat × Nat × pm_H) ⊕ (Nat × Nat × Nat × Nat × Nat × pm_H) ⊕ (Nat × Nat × Nat × pm_H) ⊕ (Nat × Nat × Nat × Nat × Nat × pm_H) ⊕ (Nat × Nat × Nat × Nat × Nat × pm_H) ⊕ (Nat × Nat × Nat × Int32 × pm_H) ⊕ (Nat × Nat × Nat × Int32 × Nat × Int32 × Nat × pm_H)) ⊕ pm_H) := some (.inl (.inr (.inl ((x0, x1, pm_sz h, x0, pm_new h 35 16)))))
def tX5_init_9 (x0 : Nat) (x1 : Nat) (s0 : Nat) (s1 : Nat) (h : pm_H) : Option (((Nat × Nat × pm_H) ⊕ (Nat × Nat × Nat × Nat × pm_H) ⊕ (Nat × Nat × Nat × Nat × pm_H) ⊕ (Nat × Nat × Nat × Nat × pm_H) ⊕ (Nat × Nat × Nat × pm_H) ⊕ (Nat × Nat × Nat × Nat × Nat × pm_H) ⊕ (Nat × Nat × Nat × pm_H) ⊕ (Nat × Nat × Nat × Nat × Nat × pm_H) ⊕ (Nat × Nat × Nat × Nat × Nat × pm_H) ⊕ (Nat × Nat × Nat × Int32 × pm_H) ⊕ (Nat × Nat × Nat × Int32 × Nat × Int32 × Nat × pm_H)) ⊕ pm_H) := if pm_kd h s1 = 5 then some (.inl (.inr (.inr (.inl ((x0, x1, pm_sz (pm_setR h s1 6 (some s0)), x0, pm_new (pm_setR h s1 6 (some s0)) 35 4096)))))) else none
def tX5_init_18 (x0 : Nat) (x1 : Nat) (s0 : Nat) (s1 : Nat) (h : pm_H) : Option (((Nat × Nat × pm_H) ⊕ (Nat × Nat × Nat × Nat × pm_H) ⊕ (Nat × Nat × Nat × Nat × pm_H) ⊕ (Nat × Nat × Nat × Nat × pm_H) ⊕ (Nat × Nat × Nat × pm_H) ⊕ (Nat × Nat × Nat × Nat × Nat × pm_H) ⊕ (Nat × Nat × Nat × pm_H) ⊕ (Nat × Nat × Nat × Nat × Nat × pm_H) ⊕ (Nat × Nat × Nat × Nat × Nat × pm_H) ⊕ (Nat × Nat × Nat × Int32 × pm_H) ⊕ (Nat × Nat × Nat × Int32 × Nat × Int32 × Nat × pm_H)) ⊕ pm_H) := if pm_kd h s1 = 5 then some (.inl (.inr (.inr (.inr (.inl ((x0, x1, pm_sz (pm_setR h s1 10 (some s0)), x0, pm_new (pm_setR h s1 10 (some s0)) 39 200))))))) else none
def tX5_init_28 (x0 : Nat) (x1 : Nat) (s0 : Nat) (s1 : Nat) (h : pm_H) : Option (((Nat × Nat × pm_H) ⊕ (Nat × Nat × Nat × Nat × pm_H) ⊕ (Nat × Nat × Nat × Nat × pm_H) ⊕ (Nat × Nat × Nat × Nat × pm_H) ⊕ (Nat × Nat × Nat × pm_H) ⊕ (Nat × Nat × Nat × Nat × Nat × pm_H) ⊕ (Nat × Nat × Nat × pm_H) ⊕ (Nat × Nat × Nat × Nat × Nat × pm_H) ⊕ (Nat × Nat × Nat × Nat × Nat × pm_H) ⊕ (Nat × Nat × Nat × Int32 × pm_H) ⊕ (Nat × Nat × Nat × Int32 × Nat × Int32 × Nat × pm_H)) ⊕ pm_H) := if pm_kd h s1 = 5 then if pm_kd (pm_setR h s1 11 (some s0)) x0 = 5 then some (.inl (.inr (.inr (.inr (.inr (.inl ((x0, x1, pm_sz (pm_setR (pm_setR h s1 11 (some s0)) x0 8 (some x1)), pm_new (pm_setR (pm_setR h s1 11 (some s0)) x0 8 (some x1)) 0 0)))))))) else none else none
def tX5_init_39 (x0 : Nat) (x1 : Nat) (s0 : Nat) (h : pm_H) : Option (((Nat × Nat × pm_H) ⊕ (Nat × Nat × Nat × Nat × pm_H) ⊕ (Nat × Nat × Nat × Nat × pm_H) ⊕ (Nat × Nat × Nat × Nat × pm_H) ⊕ (Nat × Nat × Nat × pm_H) ⊕ (Nat × Nat × Nat × Nat × Nat × pm_H) ⊕ (Nat × Nat × Nat × pm_H) ⊕ (Nat × Nat × Nat × Nat × Nat × pm_H) ⊕ (Nat × Nat × Nat × Nat × Nat × pm_H) ⊕ (Nat × Nat × Nat × Int32 × pm_H) ⊕ (Nat × Nat × Nat × Int32 × Nat × Int32 × Nat × pm_H)) ⊕ pm_H) := some (.inl (.inr (.inr (.inr (.inr (.inr (.inl ((x0, x1, pm_sz h, s0, s0, pm_new h 34 2)))))))))
def tX5_init_43 (x0 : Nat) (x1 : Nat) (s0 : Nat) (s1 : Nat) (s2 : Nat) (h : pm_H) : Option (((Nat × Nat × pm_H) ⊕ (Nat × Nat × Nat × Nat × pm_H) ⊕ (Nat × Nat × Nat × Nat × pm_H) ⊕ (Nat × Nat × Nat × Nat × pm_H) ⊕ (Nat × Nat × Nat × pm_H) ⊕ (Nat × Nat × Nat × Nat × Nat × pm_H) ⊕ (Nat × Nat × Nat × pm_H) ⊕ (Nat × Nat × Nat × Nat × Nat × pm_H) ⊕ (Nat × Nat × Nat × Nat × Nat × pm_H) ⊕ (Nat × Nat × Nat × Int32 × pm_H) ⊕ (Nat × Nat × Nat × Int32 × Nat × Int32 × Nat × pm_H)) ⊕ pm_H) := (fX0_init h s1 s0 0).bind fun v5 => some (.inl (.inr (.inr (.inr (.inr (.inr (.inr (.inl ((x0, x1, s2, v5))))))))))
def tX5_init_47 (x0 : Nat) (x1 : Nat) (s0 : Nat) (h : pm_H) : Option (((Nat × Nat × pm_H) ⊕ (Nat × Nat × Nat × Nat × pm_H) ⊕ (Nat × Nat × Nat × Nat × pm_H) ⊕ (Nat × Nat × Nat × Nat × pm_H) ⊕ (Nat × Nat × Nat × pm_H) ⊕ (Nat × Nat × Nat × Nat × Nat × pm_H) ⊕ (Nat × Nat × Nat × pm_H) ⊕ (Nat × Nat × Nat × Nat × Nat × pm_H) ⊕ (Nat × Nat × Nat × Nat × Nat × pm_H) ⊕ (Nat × Nat × Nat × Int32 × pm_H) ⊕ (Nat × Nat × Nat × Int32 × Nat × Int32 × Nat × pm_H)) ⊕ pm_H) := some (.inl (.inr (.inr (.inr (.inr (.inr (.inr (.inr (.inl ((x0, x1, s0, pm_sz h, x0, pm_new h 2 0)))))))))))
def tX5_init_52 (x0 : Nat) (x1 : Nat) (x2 : Nat) (s0 : Nat) (s1 : Nat) (h : pm_H) : Option (((Nat × Nat × pm_H) ⊕ (Nat × Nat × Nat × Nat × pm_H) ⊕ (Nat × Nat × Nat × Nat × pm_H) ⊕ (Nat × Nat × Nat × Nat × pm_H) ⊕ (Nat × Nat × Nat × pm_H) ⊕ (Nat × Nat × Nat × Nat × Nat × pm_H) ⊕ (Nat × Nat × Nat × pm_H) ⊕ (Nat × Nat × Nat × Nat × Nat × pm_H) ⊕ (Nat × Nat × Nat × Nat × Nat × pm_H) ⊕ (Nat × Nat × Nat × Int32 × pm_H) ⊕ (Nat × Nat × Nat × Int32 × Nat × Int32 × Nat × pm_H)) ⊕ pm_H) := (fX2_init h s0 x2).bind fun v7 => some (.inl (.inr (.inr (.inr (.inr (.inr (.inr (.inr (.inr (.inl ((x0, x1, x2, s0, s1, v7))))))))))))
def tX5_init_57 (x0 : Nat) (x1 : Nat) (x2 : Nat) (s0 : Nat) (s1 : Nat) (h : pm_H) : Option (((Nat × Nat × pm_H) ⊕ (Nat × Nat × Nat × Nat × pm_H) ⊕ (Nat × Nat × Nat × Nat × pm_H) ⊕ (Nat × Nat × Nat × Nat × pm_H) ⊕ (Nat × Nat × Nat × pm_H) ⊕ (Nat × Nat × Nat × Nat × Nat × pm_H) ⊕ (Nat × Nat × Nat × pm_H) ⊕ (Nat × Nat × Nat × Nat × Nat × pm_H) ⊕ (Nat × Nat × Nat × Nat × Nat × pm_H) ⊕ (Nat × Nat × Nat × Int32 × pm_H) ⊕ (Nat × Nat × Nat × Int32 × Nat × Int32 × Nat × pm_H)) ⊕ pm_H) := if pm_kd h s1 = 5 then some (.inl (.inr (.inr (.inr (.inr (.inr (.inr (.inr (.inr (.inr (.inl ((x0, x1, x2, 0, pm_setR h s1 9 (some s0)))))))))))))) else none
def tX5_init_62 (x0 : Nat) (x1 : Nat) (x2 : Nat) (x3 : Int32) (h : pm_H) : Option (((Nat × Nat × pm_H) ⊕ (Nat × Nat × Nat × Nat × pm_H) ⊕ (Nat × Nat × Nat × Nat × pm_H) ⊕ (Nat × Nat × Nat × Nat × pm_H) ⊕ (Nat × Nat × Nat × pm_H) ⊕ (Nat × Nat × Nat × Nat × Nat × pm_H) ⊕ (Nat × Nat × Nat × pm_H) ⊕ (Nat × Nat × Nat × Nat × Nat × pm_H) ⊕ (Nat × Nat × Nat × Nat × Nat × pm_H) ⊕ (Nat × Nat × Nat × Int32 × pm_H) ⊕ (Nat × Nat × Nat × Int32 × Nat × Int32 × Nat × pm_H)) ⊕ pm_H) := if pm_kd h x0 = 5 then (pm_R h x0 11).bind fun v11 => if pm_kd h v11 = 39 then if (Int32.ofNat (pm_ln h v11)) ≤ x3 then (if pm_in 0 (pm_ln h v11) then (pm_R h v11 (0 : Int32).toNatClampNeg).bind fun v16 => some (.inr (pm_setR h x0 12 (some v16))) else none) else (some (.inl (.inr (.inr (.inr (.inr (.inr (.inr (.inr (.inr (.inr (.inr ((x0, x1, x2, x3, pm_sz h, x3, v11, pm_new h 3 0)))))))))))))) else none else none
def tX5_init_79 (x0 : Nat) (x1 : Nat) (x2 : Nat) (x3 : Int32) (s0 : Nat) (s1 : Int32) (s2 : Nat) (h : pm_H) : Option (((Nat × Nat × pm_H) ⊕ (Nat × Nat × Nat × Nat × pm_H) ⊕ (Nat × Nat × Nat × Nat × pm_H) ⊕ (Nat × Nat × Nat × Nat × pm_H) ⊕ (Nat × Nat × Nat × pm_H) ⊕ (Nat × Nat × Nat × Nat × Nat × pm_H) ⊕ (Nat × Nat × Nat × pm_H) ⊕ (Nat × Nat × Nat × Nat × Nat × pm_H) ⊕ (Nat × Nat × Nat × Nat × Nat × pm_H) ⊕ (Nat × Nat × Nat × Int32 × pm_H) ⊕ (Nat × Nat × Nat × Int32 × Nat × Int32 × Nat × pm_H)) ⊕ pm_H) := if pm_kd h x1 = 10 then (fX10_instanceAt h x1 (-1)).bind fun v19 => (fX3_init h s0 v19 x2).bind fun v21 => if pm_kd v21 s2 = 39 then if pm_kd v21 s0 = 3 then if pm_in s1 (pm_ln v21 s2) then pm_let (x3 + 1) fun y27 => some (.inl (.inr (.inr (.inr (.inr (.inr (.inr (.inr (.inr (.inr (.inl ((x0, x1, x2, y27, pm_setR v21 s2 s1.toNatClampNeg (some s0)))))))))))))) else none else none else none else none
def sX5_init : ((Nat × Nat × pm_H) ⊕ (Nat × Nat × Nat × Nat × pm_H) ⊕ (Nat × Nat × Nat × Nat × pm_H) ⊕ (Nat × Nat × Nat × Nat × pm_H) ⊕ (Nat × Nat × Nat × pm_H) ⊕ (Nat × Nat × Nat × Nat × Nat × pm_H) ⊕ (Nat × Nat × Nat × pm_H) ⊕ (Nat × Nat × Nat × Nat × Nat × pm_H) ⊕ (Nat × Nat × Nat × Nat × Nat × pm_H) ⊕ (Nat × Nat × Nat × Int32 × pm_H) ⊕ (Nat × Nat × Nat × Int32 × Nat × Int32 × Nat × pm_H)) → Option (((Nat × Nat × pm_H) ⊕ (Nat × Nat × Nat × Nat × pm_H) ⊕ (Nat × Nat × Nat × Nat × pm_H) ⊕ (Nat × Nat × Nat × Nat × pm_H) ⊕ (Nat × Nat × Nat × pm_H) ⊕ (Nat × Nat × Nat × Nat × Nat × pm_H) ⊕ (Nat × Nat × Nat × pm_H) ⊕ (Nat × Nat × Nat × Nat × Nat × pm_H) ⊕ (Nat × Nat × Nat × Nat × Nat × pm_H) ⊕ (Nat × Nat × Nat × Int32 × pm_H) ⊕ (Nat × Nat × Nat × Int32 × Nat × Int32 × Nat × pm_H)) ⊕ pm_H) := fun z => match z with
  | .inl (x0, x1, h) => tX5_init_0 x0 x1 h
  | .inr (.inl (x0, x1, s0, s1, h)) => tX5_init_9 x0 x1 s0 s1 h
  | .inr (.inr (.inl (x0, x1, s0, s1, h))) => tX5_init_18 x0 x1 s0 s1 h
  | .inr (.inr (.inr (.inl (x0, x1, s0, s1, h)))) => tX5_init_28 x0 x1 s0 s1 h
  | .inr (.inr (.inr (.inr (.inl (x0, x1, s0, h))))) => tX5_init_39 x0 x1 s0 h
  | .inr (.inr (.inr (.inr (.inr (.inl (x0, x1, s0, s1, s2, h)))))) => tX5_init_43 x0 x1 s0 s1 s2 h
  | .inr (.inr (.inr (.inr (.inr (.inr (.inl (x0, x1, s0, h))))))) => tX5_init_47 x0 x1 s0 h
  | .inr (.inr (.inr (.inr (.inr (.inr (.inr (.inl (x0, x1, x2, s0, s1, h)))))))) => tX5_init_52 x0 x1 x2 s0 s1 h
  | .inr (.inr (.inr (.inr (.inr (.inr (.inr (.inr (.inl (x0, x1, x2, s0, s1, h))))))))) => tX5_init_57 x0 x1 x2 s0 s1 h
  | .inr (.inr (.inr (.inr (.inr (.inr (.inr (.inr (.inr (.inl (x0, x1, x2, x3, h)))))))))) => tX5_init_62 x0 x1 x2 x3 h
  | .inr (.inr (.inr (.inr (.inr (.inr (.inr (.inr (.inr (.inr (x0, x1, x2, x3, s0, s1, s2, h)))))))))) => tX5_init_79 x0 x1 x2 x3 s0 s1 s2 h
noncomputable def fX5_init (h : pm_H) (a0 : Nat) (p1 : Nat) : Option pm_H := pm_lim sX5_init (.inl ((a0, p1, h)))
set_option maxHeartbeats 4000000 in
set_option maxRecDepth 100000 in
theorem mlX5_init {r : pm_H} : ∀ n : Nat, (∀ (x0 : Nat) (x1 : Nat) (h : pm_H), pm_iter sX5_init n (.inl (x0, x1, h)) = some r → pm_Le h r) ∧ (∀ (x0 : Nat) (x1 : Nat) (s0 : Nat) (s1 : Nat) (h : pm_H), pm_iter sX5_init n (.inr (.inl (x0, x1, s0, s1, h))) = some r → pm_Le h r) ∧ (∀ (x0 : Nat) (x1 : Nat) (s0 : Nat) (s1 : Nat) (h : pm_H), pm_iter sX5_init n (.inr (.inr (.inl (x0, x1, s0, s1, h)))) = some r → pm_Le h r) ∧ (∀ (x0 : Nat) (x1 : Nat) (s0 : Nat) (s1 : Nat) (h : pm_H), pm_iter sX5_init n (.inr (.inr (.inr (.inl (x0, x1, s0, s1, h))))) = some r → pm_Le h r) ∧ (∀ (x0 : Nat) (x1 : Nat) (s0 : Nat) (h : pm_H), pm_iter sX5_init n (.inr (.inr (.inr (.inr (.inl (x0, x1, s0, h)))))) = some r → pm_Le h r) ∧ (∀ (x0 : Nat) (x1 : Nat) (s0 : Nat) (s1 : Nat) (s2 : Nat) (h : pm_H), pm_iter sX5_init n (.inr (.inr (.inr (.inr (.inr (.inl (x0, x1, s0, s1, s2, h))))))) = some r → pm_Le h r) ∧ (∀ (x0 : Nat) (x1 : Nat) (s0 : Nat) (h : pm_H), pm_iter sX5_init n (.inr (.inr (.inr (.inr (.inr (.inr (.inl (x0, x1, s0, h)))))))) = some r → pm_Le h r) ∧ (∀ (x0 : Nat) (x1 : Nat) (x2 : Nat) (s0 : Nat) (s1 : Nat) (h : pm_H), pm_iter sX5_init n (.inr (.inr (.inr (.inr (.inr (.inr (.inr (.inl (x0, x1, x2, s0, s1, h))))))))) = some r → pm_Le h r) ∧ (∀ (x0 : Nat) (x1 : Nat) (x2 : Nat) (s0 : Nat) (s1 : Nat) (h : pm_H), pm_iter sX5_init n (.inr (.inr (.inr (.inr (.inr (.inr (.inr (.inr (.inl (x0, x1, x2, s0, s1, h)))))))))) = some r → pm_Le h r) ∧ (∀ (x0 : Nat) (x1 : Nat) (x2 : Nat) (x3 : Int32) (h : pm_H), pm_iter sX5_init n (.inr (.inr (.inr (.inr (.inr (.inr (.inr (.inr (.inr (.inl (x0, x1, x2, x3, h))))))))))) = some r → pm_Le h r) ∧ (∀ (x0 : Nat) (x1 : Nat) (x2 : Nat) (x3 : Int32) (s0 : Nat) (s1 : Int32) (s2 : Nat) (h : pm_H), pm_iter sX5_init n (.inr (.inr (.inr (.inr (.inr (.inr (.inr (.inr (.inr (.inr (x0, x1, x2, x3, s0, s1, s2, h))))))))))) = some r → pm_Le h r) := by
  intro n
  induction n with
  | zero => exact ⟨fun _ _ _ hf => (by cases hf), fun _ _ _ _ _ hf => (by cases hf), fun _ _ _ _ _ hf => (by cases hf), fun _ _ _ _ _ hf => (by cases hf), fun _ _ _ _ hf => (by cases hf), fun _ _ _ _ _ _ hf => (by cases hf), fun _ _ _ _ hf => (by cases hf), fun _ _ _ _ _ _ hf => (by cases hf), fun _ _ _ _ _ _ hf => (by cases hf), fun _ _ _ _ _ hf => (by cases hf), fun _ _ _ _ _ _ _ _ hf => (by cases hf)⟩
  | succ n ih =>
    refine ⟨fun x0 x1 h hf => ?_, ?_⟩
    · obtain ⟨y, hf, hi⟩ := pm_iter_s hf
      have hf : tX5_init_0 x0 x1 h = some y := hf
      unfold tX5_init_0 at hf
      have K0 := pm_S3.rf h
      cases hf
      exact ((pm_S3.le K0).trans (pm_Le_new _ _ _)).trans (ih.2.1 x0 x1 (pm_sz h) x0 (pm_new h 35 16) hi)
    refine ⟨fun x0 x1 s0 s1 h hf => ?_, ?_⟩
    · obtain ⟨y, hf, hi⟩ := pm_iter_s hf
      have hf : tX5_init_9 x0 x1 s0 s1 h = some y := hf
      unfold tX5_init_9 at hf
      have K0 := pm_S3.rf h
      obtain ⟨k1, hf⟩ := pm_if hf
      cases hf
      exact ((pm_S3.le (pm_S3R K0)).trans (pm_Le_new _ _ _)).trans (ih.2.2.1 x0 x1 (pm_sz (pm_setR h s1 6 (some s0))) x0 (pm_new (pm_setR h s1 6 (some s0)) 35 4096) hi)
    refine ⟨fun x0 x1 s0 s1 h hf => ?_, ?_⟩
    · obtain ⟨y, hf, hi⟩ := pm_iter_s hf
      have hf : tX5_init_18 x0 x1 s0 s1 h = some y := hf
      unfold tX5_init_18 at hf
      have K0 := pm_S3.rf h
      obtain ⟨k2, hf⟩ := pm_if hf
      cases hf
      exact ((pm_S3.le (pm_S3R K0)).trans (pm_Le_new _ _ _)).trans (ih.2.2.2.1 x0 x1 (pm_sz (pm_setR h s1 10 (some s0))) x0 (pm_new (pm_setR h s1 10 (some s0)) 39 200) hi)
    refine ⟨fun x0 x1 s0 s1 h hf => ?_, ?_⟩
    · obtain ⟨y, hf, hi⟩ := pm_iter_s hf
      have hf : tX5_init_28 x0 x1 s0 s1 h = some y := hf
      unfold tX5_init_28 at hf
      have K0 := pm_S3.rf h
      obtain ⟨k3, hf⟩ := pm_if hf
      obtain ⟨k4, hf⟩ := pm_if hf
      cases hf
      exact ((pm_S3.le (pm_S3R (pm_S3R K0))).trans (pm_Le_new _ _ _)).trans (ih.2.2.2.2.1 x0 x1 (pm_sz (pm_setR (pm_setR h s1 11 (some s0)) x0 8 (some x1))) (pm_new (pm_setR (pm_setR h s1 11 (some s0)) x0 8 (some x1)) 0 0) hi)
    refine ⟨fun x0 x1 s0 h hf => ?_, ?_⟩
    · obtain ⟨y, hf, hi⟩ := pm_iter_s hf
      have hf : tX5_init_39 x0 x1 s0 h = some y := hf
      unfold tX5_init_39 at hf
      have K0 := pm_S3.rf h
      cases hf
      exact ((pm_S3.le K0).trans (pm_Le_new _ _ _)).trans (ih.2.2.2.2.2.1 x0 x1 (pm_sz h) s0 s0 (pm_new h 34 2) hi)
    refine ⟨fun x0 x1 s0 s1 s2 h hf => ?_, ?_⟩
    · obtain ⟨y, hf, hi⟩ := pm_iter_s hf
      have hf : tX5_init_43 x0 x1 s0 s1 s2 h = some y := hf
      unfold tX5_init_43 at hf
      have K0 := pm_S3.rf h
      obtain ⟨v5, e6, hf⟩ := pm_bd hf
      cases hf
      exact ((pm_S3.le K0).trans (moX0_init e6)).trans (ih.2.2.2.2.2.2.1 x0 x1 s2 v5 hi)
    refine ⟨fun x0 x1 s0 h hf => ?_, ?_⟩
    · obtain ⟨y, hf, hi⟩ := pm_iter_s hf
      have hf : tX5_init_47 x0 x1 s0 h = some y := hf
      unfold tX5_init_47 at hf
      have K0 := pm_S3.rf h
      cases hf
      exact ((pm_S3.le K0).trans (pm_Le_new _ _ _)).trans (ih.2.2.2.2.2.2.2.1 x0 x1 s0 (pm_sz h) x0 (pm_new h 2 0) hi)
    refine ⟨fun x0 x1 x2 s0 s1 h hf => ?_, ?_⟩
    · obtain ⟨y, hf, hi⟩ := pm_iter_s hf
      have hf : tX5_init_52 x0 x1 x2 s0 s1 h = some y := hf
      unfold tX5_init_52 at hf
      have K0 := pm_S3.rf h
      obtain ⟨v7, e8, hf⟩ := pm_bd hf
      cases hf
      exact ((pm_S3.le K0).trans (moX2_init e8)).trans (ih.2.2.2.2.2.2.2.2.1 x0 x1 x2 s0 s1 v7 hi)
    refine ⟨fun x0 x1 x2 s0 s1 h hf => ?_, ?_⟩
    · obtain ⟨y, hf, hi⟩ := pm_iter_s hf
      have hf : tX5_init_57 x0 x1 x2 s0 s1 h = some y := hf
      unfold tX5_init_57 at hf
      have K0 := pm_S3.rf h
      obtain ⟨k9, hf⟩ := pm_if hf
      cases hf
      exact (pm_S3.le (pm_S3R K0)).trans (ih.2.2.2.2.2.2.2.2.2.1 x0 x1 x2 0 (pm_setR h s1 9 (some s0)) hi)
    refine ⟨fun x0 x1 x2 x3 h hf => ?_, ?_⟩
    · obtain ⟨y, hf, hi⟩ := pm_iter_s hf
      have hf : tX5_init_62 x0 x1 x2 x3 h = some y := hf
      unfold tX5_init_62 at hf
      have K0 := pm_S3.rf h
      obtain ⟨k10, hf⟩ := pm_if hf
      obtain ⟨v11, e12, hf⟩ := pm_bd hf
      obtain ⟨k13, hf⟩ := pm_if hf
      by_cases c14 : (Int32.ofNat (pm_ln h v11)) ≤ x3
      · have hf := pm_it hf c14
        obtain ⟨u15, hf⟩ := pm_if hf
        obtain ⟨v16, e17, hf⟩ := pm_bd hf
        have hf := Option.some.inj hf
        subst hf
        have hi := Option.some.inj (show some _ = some r from hi)
        subst hi
        exact pm_S3.le (pm_S3R K0)
      · have hf := pm_ie hf c14
        cases hf
        exact ((pm_S3.le K0).trans (pm_Le_new _ _ _)).trans (ih.2.2.2.2.2.2.2.2.2.2 x0 x1 x2 x3 (pm_sz h) x3 v11 (pm_new h 3 0) hi)
    refine fun x0 x1 x2 x3 s0 s1 s2 h hf => ?_
    obtain ⟨y, hf, hi⟩ := pm_iter_s hf
    have hf : tX5_init_79 x0 x1 x2 x3 s0 s1 s2 h = some y := hf
    unfold tX5_init_79 at hf
    have K0 := pm_S3.rf h
    obtain ⟨k18, hf⟩ := pm_if hf
    obtain ⟨v19, e20, hf⟩ := pm_bd hf
    obtain ⟨v21, e22, hf⟩ := pm_bd hf
    have K23 := pm_S3.trans (kpX3_init e22) K0
    obtain ⟨k24, hf⟩ := pm_if hf
    obtain ⟨k25, hf⟩ := pm_if hf
    obtain ⟨u26, hf⟩ := pm_if hf
    obtain ⟨y27, e28, hf⟩ := pm_lt hf
    cases hf
    exact (pm_S3.le (pm_S3R K23)).trans (ih.2.2.2.2.2.2.2.2.2.1 x0 x1 x2 y27 (pm_setR v21 s2 s1.toNatClampNeg (some s0)) hi)
set_option maxHeartbeats 4000000 in
set_option maxRecDepth 100000 in
theorem moX5_init {h : pm_H} {a0 : Nat} {p1 : Nat} {r : pm_H} (hf : fX5_init h a0 p1 = some r) : pm_Le h r := by
  unfold fX5_init at hf
  have K0 := pm_S3.rf h
  obtain ⟨n, hn⟩ := pm_lim_iter hf
  exact (mlX5_init n).1 a0 p1 h hn
set_option maxHeartbeats 4000000 in
set_option maxRecDepth 100000 in
theorem lpX5_init {g : pm_Gm} {l : Launch} {G : pm_Gl} {Qr : Option Value → pm_H → Prop} (C : pm_C g cX5_init RX5) {h0 : pm_H} {r : pm_H} (X : pm_X g l G mX5_init (pm_sz r - pm_sz h0) (pm_us r - pm_us h0) Qr) (q : Qr none r) (nm : g.2.2.2.2.2.2.2.2.1.name = "<init>") : ∀ n : Nat, (∀ (x0 : Nat) (x1 : Nat) (h : pm_H), pm_Le h0 h → pm_iter sX5_init n (.inl (x0, x1, h)) = some r → pm_G g 0 [(0, .ref x0), (1, .ref x1)] [] h (pm_sz h - pm_sz h0) (pm_us h - pm_us h0)) ∧ (∀ (x0 : Nat) (x1 : Nat) (s0 : Nat) (s1 : Nat) (h : pm_H), pm_Le h0 h → pm_iter sX5_init n (.inr (.inl (x0, x1, s0, s1, h))) = some r → pm_G g 9 [(0, .ref x0), (1, .ref x1)] [.ref s0, .ref s1] h (pm_sz h - pm_sz h0) (pm_us h - pm_us h0)) ∧ (∀ (x0 : Nat) (x1 : Nat) (s0 : Nat) (s1 : Nat) (h : pm_H), pm_Le h0 h → pm_iter sX5_init n (.inr (.inr (.inl (x0, x1, s0, s1, h)))) = some r → pm_G g 18 [(0, .ref x0), (1, .ref x1)] [.ref s0, .ref s1] h (pm_sz h - pm_sz h0) (pm_us h - pm_us h0)) ∧ (∀ (x0 : Nat) (x1 : Nat) (s0 : Nat) (s1 : Nat) (h : pm_H), pm_Le h0 h → pm_iter sX5_init n (.inr (.inr (.inr (.inl (x0, x1, s0, s1, h))))) = some r → pm_G g 28 [(0, .ref x0), (1, .ref x1)] [.ref s0, .ref s1] h (pm_sz h - pm_sz h0) (pm_us h - pm_us h0)) ∧ (∀ (x0 : Nat) (x1 : Nat) (s0 : Nat) (h : pm_H), pm_Le h0 h → pm_iter sX5_init n (.inr (.inr (.inr (.inr (.inl (x0, x1, s0, h)))))) = some r → pm_G g 39 [(0, .ref x0), (1, .ref x1)] [.ref s0] h (pm_sz h - pm_sz h0) (pm_us h - pm_us h0)) ∧ (∀ (x0 : Nat) (x1 : Nat) (s0 : Nat) (s1 : Nat) (s2 : Nat) (h : pm_H), pm_Le h0 h → pm_iter sX5_init n (.inr (.inr (.inr (.inr (.inr (.inl (x0, x1, s0, s1, s2, h))))))) = some r → pm_G g 43 [(0, .ref x0), (1, .ref x1)] [.ref s0, .ref s1, .ref s2] h (pm_sz h - pm_sz h0) (pm_us h - pm_us h0)) ∧ (∀ (x0 : Nat) (x1 : Nat) (s0 : Nat) (h : pm_H), pm_Le h0 h → pm_iter sX5_init n (.inr (.inr (.inr (.inr (.inr (.inr (.inl (x0, x1, s0, h)))))))) = some r → pm_G g 47 [(0, .ref x0), (1, .ref x1)] [.ref s0] h (pm_sz h - pm_sz h0) (pm_us h - pm_us h0)) ∧ (∀ (x0 : Nat) (x1 : Nat) (x2 : Nat) (s0 : Nat) (s1 : Nat) (h : pm_H), pm_Le h0 h → pm_iter sX5_init n (.inr (.inr (.inr (.inr (.inr (.inr (.inr (.inl (x0, x1, x2, s0, s1, h))))))))) = some r → pm_G g 52 [(0, .ref x0), (1, .ref x1), (2, .ref x2)] [.ref s0, .ref s1] h (pm_sz h - pm_sz h0) (pm_us h - pm_us h0)) ∧ (∀ (x0 : Nat) (x1 : Nat) (x2 : Nat) (s0 : Nat) (s1 : Nat) (h : pm_H), pm_Le h0 h → pm_iter sX5_init n (.inr (.inr (.inr (.inr (.inr (.inr (.inr (.inr (.inl (x0, x1, x2, s0, s1, h)))))))))) = some r → pm_G g 57 [(0, .ref x0), (1, .ref x1), (2, .ref x2)] [.ref s0, .ref s1] h (pm_sz h - pm_sz h0) (pm_us h - pm_us h0)) ∧ (∀ (x0 : Nat) (x1 : Nat) (x2 : Nat) (x3 : Int32) (h : pm_H), pm_Le h0 h → pm_iter sX5_init n (.inr (.inr (.inr (.inr (.inr (.inr (.inr (.inr (.inr (.inl (x0, x1, x2, x3, h))))))))))) = some r → pm_G g 62 [(0, .ref x0), (1, .ref x1), (2, .ref x2), (3, .int x3)] [] h (pm_sz h - pm_sz h0) (pm_us h - pm_us h0)) ∧ (∀ (x0 : Nat) (x1 : Nat) (x2 : Nat) (x3 : Int32) (s0 : Nat) (s1 : Int32) (s2 : Nat) (h : pm_H), pm_Le h0 h → pm_iter sX5_init n (.inr (.inr (.inr (.inr (.inr (.inr (.inr (.inr (.inr (.inr (x0, x1, x2, x3, s0, s1, s2, h))))))))))) = some r → pm_G g 79 [(0, .ref x0), (1, .ref x1), (2, .ref x2), (3, .int x3)] [.ref s0, .int s1, .ref s2] h (pm_sz h - pm_sz h0) (pm_us h - pm_us h0)) := by
  intro n
  induction n with
  | zero => exact ⟨fun _ _ _ _ hf => (by cases hf), fun _ _ _ _ _ _ hf => (by cases hf), fun _ _ _ _ _ _ hf => (by cases hf), fun _ _ _ _ _ _ hf => (by cases hf), fun _ _ _ _ _ hf => (by cases hf), fun _ _ _ _ _ _ _ hf => (by cases hf), fun _ _ _ _ _ hf => (by cases hf), fun _ _ _ _ _ _ _ hf => (by cases hf), fun _ _ _ _ _ _ _ hf => (by cases hf), fun _ _ _ _ _ _ hf => (by cases hf), fun _ _ _ _ _ _ _ _ _ hf => (by cases hf)⟩
  | succ n ih =>
    refine ⟨fun x0 x1 h m0 hf => ?_, ?_⟩
    · have le0 := (mlX5_init (n + 1)).1 x0 x1 h hf
      have kc1 := Nat.sub_le_sub_right le0.1 (pm_sz h0)
      have kc2 := Nat.sub_le_sub_right le0.2 (pm_us h0)
      have K0 := pm_S3.rf h
      obtain ⟨y, hf, hi⟩ := pm_iter_s hf
      have hf : tX5_init_0 x0 x1 h = some y := hf
      unfold tX5_init_0 at hf
      refine pm_aload_n C dX5_init_0 rfl rfl ?_
      refine pm_obj C X dX5_init_1 obX5_3 obI obC (by decide) (by decide) (Nat.le_of_ble_eq_true rfl) ?_
      refine pm_aload_n C dX5_init_4 rfl rfl ?_
      refine pm_bipush (v := 16) C dX5_init_5 (by decide) ?_
      cases hf
      refine pa_newa (hb := h) (h0 := h0) (t := 3) (N := 16) C X K0 m0 dX5_init_7 (by decide) rfl al3 (by decide) (by decide +kernel) (by decide +kernel) ((mlX5_init n).2.1 x0 x1 (pm_sz h) x0 (pm_new h 35 16) hi) ?_
      exact pm_sub [0, 1] rfl (ih.2.1 x0 x1 (pm_sz h) x0 (pm_new h 35 16) ((m0.trans (pm_S3.le K0)).trans (pm_Le_new _ _ _)) hi)
    refine ⟨fun x0 x1 s0 s1 h m0 hf => ?_, ?_⟩
    · have le0 := (mlX5_init (n + 1)).2.1 x0 x1 s0 s1 h hf
      have kc1 := Nat.sub_le_sub_right le0.1 (pm_sz h0)
      have kc2 := Nat.sub_le_sub_right le0.2 (pm_us h0)
      have K0 := pm_S3.rf h
      obtain ⟨y, hf, hi⟩ := pm_iter_s hf
      have hf : tX5_init_9 x0 x1 s0 s1 h = some y := hf
      unfold tX5_init_9 at hf
      obtain ⟨k1, hf⟩ := pm_if hf
      refine pm_putRF C dX5_init_9 flX5_9 rfl nm rfl fwX5_9 rfl k1 ?_
      refine pm_aload_n C dX5_init_12 rfl rfl ?_
      refine pm_sipush (v := 4096) C dX5_init_13 (by decide) ?_
      cases hf
      refine pa_newa (hb := h) (h0 := h0) (t := 3) (N := 4096) C X (pm_S3R K0) m0 dX5_init_16 (by decide) rfl al3 (by decide) (by decide +kernel) (by decide +kernel) ((mlX5_init n).2.2.1 x0 x1 (pm_sz (pm_setR h s1 6 (some s0))) x0 (pm_new (pm_setR h s1 6 (some s0)) 35 4096) hi) ?_
      exact pm_sub [0, 1] rfl (ih.2.2.1 x0 x1 (pm_sz (pm_setR h s1 6 (some s0))) x0 (pm_new (pm_setR h s1 6 (some s0)) 35 4096) ((m0.trans (pm_S3.le (pm_S3R K0))).trans (pm_Le_new _ _ _)) hi)
    refine ⟨fun x0 x1 s0 s1 h m0 hf => ?_, ?_⟩
    · have le0 := (mlX5_init (n + 1)).2.2.1 x0 x1 s0 s1 h hf
      have kc1 := Nat.sub_le_sub_right le0.1 (pm_sz h0)
      have kc2 := Nat.sub_le_sub_right le0.2 (pm_us h0)
      have K0 := pm_S3.rf h
      obtain ⟨y, hf, hi⟩ := pm_iter_s hf
      have hf : tX5_init_18 x0 x1 s0 s1 h = some y := hf
      unfold tX5_init_18 at hf
      obtain ⟨k2, hf⟩ := pm_if hf
      refine pm_putRF C dX5_init_18 flX5_15 rfl nm rfl fwX5_15 rfl k2 ?_
      refine pm_aload_n C dX5_init_21 rfl rfl ?_
      refine pm_sipush (v := 200) C dX5_init_22 (by decide) ?_
      cases hf
      refine pa_newq (hb := h) (h0 := h0) (t := 7) (c := 3) (N := 200) C X (pm_S3R K0) m0 dX5_init_25 (by decide) rfl ao3 ckX5_18 (by decide) (by decide +kernel) (by decide +kernel) ((mlX5_init n).2.2.2.1 x0 x1 (pm_sz (pm_setR h s1 10 (some s0))) x0 (pm_new (pm_setR h s1 10 (some s0)) 39 200) hi) ?_
      exact pm_sub [0, 1] rfl (ih.2.2.2.1 x0 x1 (pm_sz (pm_setR h s1 10 (some s0))) x0 (pm_new (pm_setR h s1 10 (some s0)) 39 200) ((m0.trans (pm_S3.le (pm_S3R K0))).trans (pm_Le_new _ _ _)) hi)
    refine ⟨fun x0 x1 s0 s1 h m0 hf => ?_, ?_⟩
    · have le0 := (mlX5_init (n + 1)).2.2.2.1 x0 x1 s0 s1 h hf
      have kc1 := Nat.sub_le_sub_right le0.1 (pm_sz h0)
      have kc2 := Nat.sub_le_sub_right le0.2 (pm_us h0)
      have K0 := pm_S3.rf h
      obtain ⟨y, hf, hi⟩ := pm_iter_s hf
      have hf : tX5_init_28 x0 x1 s0 s1 h = some y := hf
      unfold tX5_init_28 at hf
      obtain ⟨k3, hf⟩ := pm_if hf
      refine pm_putRF C dX5_init_28 flX5_20 rfl nm rfl fwX5_20 rfl k3 ?_
      refine pm_aload_n C dX5_init_31 rfl rfl ?_
      refine pm_aload_n C dX5_init_32 rfl rfl ?_
      obtain ⟨k4, hf⟩ := pm_if hf
      refine pm_putRF C dX5_init_33 flX5_24 rfl nm rfl fwX5_24 rfl k4 ?_
      cases hf
      refine pa_newo (hb := h) (h0 := h0) C X (pm_S3R (pm_S3R K0)) m0 dX5_init_36 pm_Cl0 ckX5_28 cc0.1 cc0.2 ((mlX5_init n).2.2.2.2.1 x0 x1 (pm_sz (pm_setR (pm_setR h s1 11 (some s0)) x0 8 (some x1))) (pm_new (pm_setR (pm_setR h s1 11 (some s0)) x0 8 (some x1)) 0 0) hi) ?_
      exact pm_sub [0, 1] rfl (ih.2.2.2.2.1 x0 x1 (pm_sz (pm_setR (pm_setR h s1 11 (some s0)) x0 8 (some x1))) (pm_new (pm_setR (pm_setR h s1 11 (some s0)) x0 8 (some x1)) 0 0) ((m0.trans (pm_S3.le (pm_S3R (pm_S3R K0)))).trans (pm_Le_new _ _ _)) hi)
    refine ⟨fun x0 x1 s0 h m0 hf => ?_, ?_⟩
    · have le0 := (mlX5_init (n + 1)).2.2.2.2.1 x0 x1 s0 h hf
      have kc1 := Nat.sub_le_sub_right le0.1 (pm_sz h0)
      have kc2 := Nat.sub_le_sub_right le0.2 (pm_us h0)
      have K0 := pm_S3.rf h
      obtain ⟨y, hf, hi⟩ := pm_iter_s hf
      have hf : tX5_init_39 x0 x1 s0 h = some y := hf
      unfold tX5_init_39 at hf
      refine pm_dup C dX5_init_39 rfl ?_
      refine pm_iconst (v := 2) C dX5_init_40 (by decide) ?_
      cases hf
      refine pa_newa (hb := h) (h0 := h0) (t := 2) (N := 2) C X K0 m0 dX5_init_41 (by decide) rfl al2 (by decide) (by decide +kernel) (by decide +kernel) ((mlX5_init n).2.2.2.2.2.1 x0 x1 (pm_sz h) s0 s0 (pm_new h 34 2) hi) ?_
      exact pm_sub [0, 1] rfl (ih.2.2.2.2.2.1 x0 x1 (pm_sz h) s0 s0 (pm_new h 34 2) ((m0.trans (pm_S3.le K0)).trans (pm_Le_new _ _ _)) hi)
    refine ⟨fun x0 x1 s0 s1 s2 h m0 hf => ?_, ?_⟩
    · have le0 := (mlX5_init (n + 1)).2.2.2.2.2.1 x0 x1 s0 s1 s2 h hf
      have kc1 := Nat.sub_le_sub_right le0.1 (pm_sz h0)
      have kc2 := Nat.sub_le_sub_right le0.2 (pm_us h0)
      have K0 := pm_S3.rf h
      obtain ⟨y, hf, hi⟩ := pm_iter_s hf
      have hf : tX5_init_43 x0 x1 s0 s1 s2 h = some y := hf
      unfold tX5_init_43 at hf
      refine pm_iconst (v := 0) C dX5_init_43 (by decide) ?_
      obtain ⟨v5, e6, hf⟩ := pm_bd hf
      cases hf
      refine pm_callI (as := [.ref s0, .int 0]) (st := [.ref s2]) C X dX5_init_44 lnX5_30 myX0_init iiX0_init ⟨by decide, by decide⟩ rfl rfl (Nat.le_of_ble_eq_true rfl) (pa_le1 K0 m0 (moX0_init e6) ((mlX5_init n).2.2.2.2.2.2.1 x0 x1 s2 v5 hi)) (pa_le2 K0 m0 (moX0_init e6) ((mlX5_init n).2.2.2.2.2.2.1 x0 x1 s2 v5 hi)) (ctX0_init e6 ?_)
      show pm_G g 47 [(0, .ref x0), (1, .ref x1)] [.ref s2] v5 (pm_sz h - pm_sz h0 + (pm_sz v5 - pm_sz h)) (pm_us h - pm_us h0 + (pm_us v5 - pm_us h))
      refine pa_fin K0 m0 (moX0_init e6) ?_
      exact pm_sub [0, 1] rfl (ih.2.2.2.2.2.2.1 x0 x1 s2 v5 ((m0.trans (pm_S3.le K0)).trans (moX0_init e6)) hi)
    refine ⟨fun x0 x1 s0 h m0 hf => ?_, ?_⟩
    · have le0 := (mlX5_init (n + 1)).2.2.2.2.2.2.1 x0 x1 s0 h hf
      have kc1 := Nat.sub_le_sub_right le0.1 (pm_sz h0)
      have kc2 := Nat.sub_le_sub_right le0.2 (pm_us h0)
      have K0 := pm_S3.rf h
      obtain ⟨y, hf, hi⟩ := pm_iter_s hf
      have hf : tX5_init_47 x0 x1 s0 h = some y := hf
      unfold tX5_init_47 at hf
      refine pm_astore_n (lv' := [(2, .ref s0), (0, .ref x0), (1, .ref x1)]) C dX5_init_47 rfl (pm_nl X (by decide)) rfl ?_
      refine pm_aload_n C dX5_init_48 rfl rfl ?_
      cases hf
      refine pa_newo (hb := h) (h0 := h0) C X K0 m0 dX5_init_49 pm_Cl2 ckX5_33 cc2.1 cc2.2 ((mlX5_init n).2.2.2.2.2.2.2.1 x0 x1 s0 (pm_sz h) x0 (pm_new h 2 0) hi) ?_
      exact pm_sub [1, 2, 0] rfl (ih.2.2.2.2.2.2.2.1 x0 x1 s0 (pm_sz h) x0 (pm_new h 2 0) ((m0.trans (pm_S3.le K0)).trans (pm_Le_new _ _ _)) hi)
    refine ⟨fun x0 x1 x2 s0 s1 h m0 hf => ?_, ?_⟩
    · have le0 := (mlX5_init (n + 1)).2.2.2.2.2.2.2.1 x0 x1 x2 s0 s1 h hf
      have kc1 := Nat.sub_le_sub_right le0.1 (pm_sz h0)
      have kc2 := Nat.sub_le_sub_right le0.2 (pm_us h0)
      have K0 := pm_S3.rf h
      obtain ⟨y, hf, hi⟩ := pm_iter_s hf
      have hf : tX5_init_52 x0 x1 x2 s0 s1 h = some y := hf
      unfold tX5_init_52 at hf
      refine pm_dup C dX5_init_52 rfl ?_
      refine pm_aload_n C dX5_init_53 rfl rfl ?_
      obtain ⟨v7, e8, hf⟩ := pm_bd hf
      cases hf
      refine pm_callI (as := [.ref x2]) (st := [.ref s0, .ref s1]) C X dX5_init_54 lnX5_35 myX2_init iiX2_init ⟨by decide, by decide⟩ rfl rfl (Nat.le_of_ble_eq_true rfl) (pa_le1 K0 m0 (moX2_init e8) ((mlX5_init n).2.2.2.2.2.2.2.2.1 x0 x1 x2 s0 s1 v7 hi)) (pa_le2 K0 m0 (moX2_init e8) ((mlX5_init n).2.2.2.2.2.2.2.2.1 x0 x1 x2 s0 s1 v7 hi)) (ctX2_init e8 ?_)
      show pm_G g 57 [(0, .ref x0), (1, .ref x1), (2, .ref x2)] [.ref s0, .ref s1] v7 (pm_sz h - pm_sz h0 + (pm_sz v7 - pm_sz h)) (pm_us h - pm_us h0 + (pm_us v7 - pm_us h))
      refine pa_fin K0 m0 (moX2_init e8) ?_
      exact pm_sub [0, 1, 2] rfl (ih.2.2.2.2.2.2.2.2.1 x0 x1 x2 s0 s1 v7 ((m0.trans (pm_S3.le K0)).trans (moX2_init e8)) hi)
    refine ⟨fun x0 x1 x2 s0 s1 h m0 hf => ?_, ?_⟩
    · have le0 := (mlX5_init (n + 1)).2.2.2.2.2.2.2.2.1 x0 x1 x2 s0 s1 h hf
      have kc1 := Nat.sub_le_sub_right le0.1 (pm_sz h0)
      have kc2 := Nat.sub_le_sub_right le0.2 (pm_us h0)
      have K0 := pm_S3.rf h
      obtain ⟨y, hf, hi⟩ := pm_iter_s hf
      have hf : tX5_init_57 x0 x1 x2 s0 s1 h = some y := hf
      unfold tX5_init_57 at hf
      obtain ⟨k9, hf⟩ := pm_if hf
      refine pm_putRF C dX5_init_57 flX5_38 rfl nm rfl fwX5_38 rfl k9 ?_
      refine pm_iconst (v := 0) C dX5_init_60 (by decide) ?_
      refine pm_istore_n (lv' := [(3, .int 0), (0, .ref x0), (1, .ref x1), (2, .ref x2)]) C dX5_init_61 rfl (pm_nl X (by decide)) rfl ?_
      cases hf
      exact pa_join (pm_S3R K0) (pm_sub [1, 2, 3, 0] rfl (ih.2.2.2.2.2.2.2.2.2.1 x0 x1 x2 0 (pm_setR h s1 9 (some s0)) (m0.trans (pm_S3.le (pm_S3R K0))) hi))
    refine ⟨fun x0 x1 x2 x3 h m0 hf => ?_, ?_⟩
    · have le0 := (mlX5_init (n + 1)).2.2.2.2.2.2.2.2.2.1 x0 x1 x2 x3 h hf
      have kc1 := Nat.sub_le_sub_right le0.1 (pm_sz h0)
      have kc2 := Nat.sub_le_sub_right le0.2 (pm_us h0)
      have K0 := pm_S3.rf h
      obtain ⟨y, hf, hi⟩ := pm_iter_s hf
      have hf : tX5_init_62 x0 x1 x2 x3 h = some y := hf
      unfold tX5_init_62 at hf
      refine pm_iload_n C dX5_init_62 rfl rfl ?_
      refine pm_aload_n C dX5_init_63 rfl rfl ?_
      obtain ⟨k10, hf⟩ := pm_if hf
      obtain ⟨v11, e12, hf⟩ := pm_bd hf
      refine pm_getR C dX5_init_64 flX5_20 rfl k10 e12 ?_
      obtain ⟨k13, hf⟩ := pm_if hf
      refine pm_alen (t := 7) C dX5_init_67 (by decide) k13 rfl ?_
      refine pm_icmp_ge (tgt := 96) C dX5_init_68 (by decide) (fun c14 => ?_) (fun c14 => ?_)
      · have hf := pm_it hf c14
        refine pm_aload_n C dX5_init_96 rfl rfl ?_
        refine pm_aload_n C dX5_init_97 rfl rfl ?_
        refine pm_getR C dX5_init_98 flX5_20 rfl k10 e12 ?_
        refine pm_iconst (v := 0) C dX5_init_101 (by decide) ?_
        obtain ⟨u15, hf⟩ := pm_if hf
        obtain ⟨v16, e17, hf⟩ := pm_bd hf
        refine pm_ald (t := 7) C dX5_init_102 (by decide) rfl k13 u15 e17 ?_
        refine pm_putR C dX5_init_103 flX5_51 rfl rfl k10 ?_
        have hf := Option.some.inj hf
        subst hf
        have hi := Option.some.inj (show some _ = some r from hi)
        subst hi
        exact pm_vret C X dX5_init_106 rfl kc1 kc2 q
      · have hf := pm_ie hf c14
        refine pm_aload_n C dX5_init_71 rfl rfl ?_
        refine pm_getR C dX5_init_72 flX5_20 rfl k10 e12 ?_
        refine pm_iload_n C dX5_init_75 rfl rfl ?_
        cases hf
        refine pa_newo (hb := h) (h0 := h0) C X K0 m0 dX5_init_76 pm_Cl3 ckX5_18 cc3.1 cc3.2 ((mlX5_init n).2.2.2.2.2.2.2.2.2.2 x0 x1 x2 x3 (pm_sz h) x3 v11 (pm_new h 3 0) hi) ?_
        exact pm_sub [0, 1, 2, 3] rfl (ih.2.2.2.2.2.2.2.2.2.2 x0 x1 x2 x3 (pm_sz h) x3 v11 (pm_new h 3 0) ((m0.trans (pm_S3.le K0)).trans (pm_Le_new _ _ _)) hi)
    refine fun x0 x1 x2 x3 s0 s1 s2 h m0 hf => ?_
    have le0 := (mlX5_init (n + 1)).2.2.2.2.2.2.2.2.2.2 x0 x1 x2 x3 s0 s1 s2 h hf
    have kc1 := Nat.sub_le_sub_right le0.1 (pm_sz h0)
    have kc2 := Nat.sub_le_sub_right le0.2 (pm_us h0)
    have K0 := pm_S3.rf h
    obtain ⟨y, hf, hi⟩ := pm_iter_s hf
    have hf : tX5_init_79 x0 x1 x2 x3 s0 s1 s2 h = some y := hf
    unfold tX5_init_79 at hf
    refine pm_dup C dX5_init_79 rfl ?_
    refine pm_aload_n C dX5_init_80 rfl rfl ?_
    refine pm_iconst (v := (-1)) C dX5_init_81 (by decide) ?_
    obtain ⟨k18, hf⟩ := pm_if hf
    obtain ⟨v19, e20, hf⟩ := pm_bd hf
    refine pm_callV (as := [.int (-1)]) (st := [.ref s0, .ref s0, .int s1, .ref s2]) C X dX5_init_82 lnX5_42 myX10_instanceAt viX10_instanceAt ⟨by decide, by decide⟩ rfl rfl k18 (Nat.le_of_ble_eq_true rfl) kc1 kc2 (ctX10_instanceAt e20 ?_)
    show pm_G g 85 [(0, .ref x0), (1, .ref x1), (2, .ref x2), (3, .int x3)] [.ref v19, .ref s0, .ref s0, .int s1, .ref s2] h (pm_sz h - pm_sz h0) (pm_us h - pm_us h0)
    refine pm_aload_n C dX5_init_85 rfl rfl ?_
    obtain ⟨v21, e22, hf⟩ := pm_bd hf
    refine pm_callI (as := [.ref v19, .ref x2]) (st := [.ref s0, .int s1, .ref s2]) C X dX5_init_86 lnX5_48 myX3_init iiX3_init ⟨by decide, by decide⟩ rfl rfl (Nat.le_of_ble_eq_true rfl) kc1 kc2 (ctX3_init e22 ?_)
    have K23 := pm_S3.trans (kpX3_init e22) K0
    show pm_G g 89 [(0, .ref x0), (1, .ref x1), (2, .ref x2), (3, .int x3)] [.ref s0, .int s1, .ref s2] v21 (pm_sz h - pm_sz h0) (pm_us h - pm_us h0)
    obtain ⟨k24, hf⟩ := pm_if hf
    obtain ⟨k25, hf⟩ := pm_if hf
    obtain ⟨u26, hf⟩ := pm_if hf
    refine pm_aast (t := 7) C dX5_init_89 (by decide) pm_Cl3 rfl k24 k25 u26 ?_
    obtain ⟨y27, e28, hf⟩ := pm_lt hf
    refine pm_iinc (v := y27) (lv' := [(3, .int y27), (0, .ref x0), (1, .ref x1), (2, .ref x2)]) C dX5_init_90 rfl ((congrArg (x3 + ·) (by decide : Int32.ofInt 1 = 1)).trans e28) (pm_nl X (by decide)) rfl ?_
    refine pm_goto (tgt := 62) C dX5_init_93 (by decide) ?_
    cases hf
    exact pa_join (pm_S3R K23) (pm_sub [1, 2, 3, 0] rfl (ih.2.2.2.2.2.2.2.2.2.1 x0 x1 x2 y27 (pm_setR v21 s2 s1.toNatClampNeg (some s0)) (m0.trans (pm_S3.le (pm_S3R K23))) hi))
set_option maxHeartbeats 4000000 in
set_option maxRecDepth 100000 in
theorem ctX5_init {l : Launch} {G : pm_Gl} {h : pm_H} {a0 : Nat} {p1 : Nat} {r : pm_H} {Qr : Option Value → pm_H → Prop} (hf : fX5_init h a0 p1 = some r) (q : Qr none r) : pm_Ct l G mX5_init [.ref a0, .ref p1] h (pm_sz r - pm_sz h) (pm_us r - pm_us h) Qr := by
  refine pm_bodyN pnX5 (Nat.le_of_ble_eq_true rfl) (fun g C X nm => ?_)
  have C : pm_C g cX5_init RX5 := C
  show pm_G g 0 [(0, .ref a0), (1, .ref p1)] [] h 0 0
  unfold fX5_init at hf
  obtain ⟨n, hn⟩ := pm_lim_iter hf
  exact pa_start (pm_sub [0, 1] rfl ((lpX5_init C X q nm n).1 a0 p1 h (pm_Le.rf h) hn))
