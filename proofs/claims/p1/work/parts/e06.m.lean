theorem dX16_module_0 : decode cX16_module 0 = .ok (.iload_n 1, 1) := by decide +kernel
theorem dX16_module_1 : decode cX16_module 1 = .ok (.ifCond .lt 20, 3) := by decide +kernel
theorem dX16_module_4 : decode cX16_module 4 = .ok (.iload_n 1, 1) := by decide +kernel
theorem dX16_module_5 : decode cX16_module 5 = .ok (.aload_n 0, 1) := by decide +kernel
theorem dX16_module_6 : decode cX16_module 6 = .ok (.getfield 215, 3) := by decide +kernel
theorem dX16_module_9 : decode cX16_module 9 = .ok (.if_icmp .gt 12, 3) := by decide +kernel
theorem dX16_module_12 : decode cX16_module 12 = .ok (.aload_n 0, 1) := by decide +kernel
theorem dX16_module_13 : decode cX16_module 13 = .ok (.getfield 218, 3) := by decide +kernel
theorem dX16_module_16 : decode cX16_module 16 = .ok (.bipush 16, 2) := by decide +kernel
theorem dX16_module_18 : decode cX16_module 18 = .ok (.if_icmp .ne 6, 3) := by decide +kernel
theorem dX16_module_21 : decode cX16_module 21 = .ok (.bipush (-2), 2) := by decide +kernel
theorem dX16_module_23 : decode cX16_module 23 = .ok (.ireturn, 1) := by decide +kernel
theorem dX16_module_24 : decode cX16_module 24 = .ok (.aload_n 0, 1) := by decide +kernel
theorem dX16_module_25 : decode cX16_module 25 = .ok (.getfield 221, 3) := by decide +kernel
theorem dX16_module_28 : decode cX16_module 28 = .ok (.astore_n 2, 1) := by decide +kernel
theorem dX16_module_29 : decode cX16_module 29 = .ok (.aload_n 0, 1) := by decide +kernel
theorem dX16_module_30 : decode cX16_module 30 = .ok (.getfield 225, 3) := by decide +kernel
theorem dX16_module_33 : decode cX16_module 33 = .ok (.ifnonnull 14, 3) := by decide +kernel
theorem dX16_module_36 : decode cX16_module 36 = .ok (.aload_n 0, 1) := by decide +kernel
theorem dX16_module_37 : decode cX16_module 37 = .ok (.new 14, 3) := by decide +kernel
theorem dX16_module_40 : decode cX16_module 40 = .ok (.dup, 1) := by decide +kernel
theorem dX16_module_41 : decode cX16_module 41 = .ok (.invokespecial 228, 3) := by decide +kernel
theorem dX16_module_44 : decode cX16_module 44 = .ok (.putfield 225, 3) := by decide +kernel
theorem dX16_module_47 : decode cX16_module 47 = .ok (.aload_n 0, 1) := by decide +kernel
theorem dX16_module_48 : decode cX16_module 48 = .ok (.aload_n 0, 1) := by decide +kernel
theorem dX16_module_49 : decode cX16_module 49 = .ok (.getfield 225, 3) := by decide +kernel
theorem dX16_module_52 : decode cX16_module 52 = .ok (.putfield 221, 3) := by decide +kernel
theorem dX16_module_55 : decode cX16_module 55 = .ok (.aload_n 0, 1) := by decide +kernel
theorem dX16_module_56 : decode cX16_module 56 = .ok (.getfield 221, 3) := by decide +kernel
theorem dX16_module_59 : decode cX16_module 59 = .ok (.iload_n 1, 1) := by decide +kernel
theorem dX16_module_60 : decode cX16_module 60 = .ok (.invokevirtual 229, 3) := by decide +kernel
theorem dX16_module_63 : decode cX16_module 63 = .ok (.iconst 0, 1) := by decide +kernel
theorem dX16_module_64 : decode cX16_module 64 = .ok (.istore_n 3, 1) := by decide +kernel
theorem dX16_module_65 : decode cX16_module 65 = .ok (.iload_n 3, 1) := by decide +kernel
theorem dX16_module_66 : decode cX16_module 66 = .ok (.iload_n 1, 1) := by decide +kernel
theorem dX16_module_67 : decode cX16_module 67 = .ok (.if_icmp .ge 24, 3) := by decide +kernel
theorem dX16_module_70 : decode cX16_module 70 = .ok (.aload_n 0, 1) := by decide +kernel
theorem dX16_module_71 : decode cX16_module 71 = .ok (.getfield 221, 3) := by decide +kernel
theorem dX16_module_74 : decode cX16_module 74 = .ok (.getfield 232, 3) := by decide +kernel
theorem dX16_module_77 : decode cX16_module 77 = .ok (.iload_n 3, 1) := by decide +kernel
theorem dX16_module_78 : decode cX16_module 78 = .ok (.aload_n 0, 1) := by decide +kernel
theorem dX16_module_79 : decode cX16_module 79 = .ok (.getfield 10, 3) := by decide +kernel
theorem dX16_module_82 : decode cX16_module 82 = .ok (.iload_n 3, 1) := by decide +kernel
theorem dX16_module_83 : decode cX16_module 83 = .ok (.baload, 1) := by decide +kernel
theorem dX16_module_84 : decode cX16_module 84 = .ok (.bastore, 1) := by decide +kernel
theorem dX16_module_85 : decode cX16_module 85 = .ok (.iinc 3 1, 3) := by decide +kernel
theorem dX16_module_88 : decode cX16_module 88 = .ok (.goto (-23), 3) := by decide +kernel
theorem dX16_module_91 : decode cX16_module 91 = .ok (.aload_n 0, 1) := by decide +kernel
theorem dX16_module_92 : decode cX16_module 92 = .ok (.iconst 0, 1) := by decide +kernel
theorem dX16_module_93 : decode cX16_module 93 = .ok (.putfield 215, 3) := by decide +kernel
theorem dX16_module_96 : decode cX16_module 96 = .ok (.aload_n 0, 1) := by decide +kernel
theorem dX16_module_97 : decode cX16_module 97 = .ok (.iconst 1, 1) := by decide +kernel
theorem dX16_module_98 : decode cX16_module 98 = .ok (.putfield 235, 3) := by decide +kernel
theorem dX16_module_101 : decode cX16_module 101 = .ok (.aload_n 0, 1) := by decide +kernel
theorem dX16_module_102 : decode cX16_module 102 = .ok (.iconst 0, 1) := by decide +kernel
theorem dX16_module_103 : decode cX16_module 103 = .ok (.putfield 239, 3) := by decide +kernel
theorem dX16_module_106 : decode cX16_module 106 = .ok (.aload_n 0, 1) := by decide +kernel
theorem dX16_module_107 : decode cX16_module 107 = .ok (.iconst (-1), 1) := by decide +kernel
theorem dX16_module_108 : decode cX16_module 108 = .ok (.putfield 242, 3) := by decide +kernel
theorem dX16_module_111 : decode cX16_module 111 = .ok (.aload_n 0, 1) := by decide +kernel
theorem dX16_module_112 : decode cX16_module 112 = .ok (.invokevirtual 245, 3) := by decide +kernel
theorem dX16_module_115 : decode cX16_module 115 = .ok (.aload_n 0, 1) := by decide +kernel
theorem dX16_module_116 : decode cX16_module 116 = .ok (.invokevirtual 248, 3) := by decide +kernel
theorem dX16_module_119 : decode cX16_module 119 = .ok (.aload_n 0, 1) := by decide +kernel
theorem dX16_module_120 : decode cX16_module 120 = .ok (.getfield 16, 3) := by decide +kernel
theorem dX16_module_123 : decode cX16_module 123 = .ok (.aload_n 0, 1) := by decide +kernel
theorem dX16_module_124 : decode cX16_module 124 = .ok (.getfield 218, 3) := by decide +kernel
theorem dX16_module_127 : decode cX16_module 127 = .ok (.aload_n 0, 1) := by decide +kernel
theorem dX16_module_128 : decode cX16_module 128 = .ok (.getfield 221, 3) := by decide +kernel
theorem dX16_module_131 : decode cX16_module 131 = .ok (.aastore, 1) := by decide +kernel
theorem dX16_module_132 : decode cX16_module 132 = .ok (.aload_n 0, 1) := by decide +kernel
theorem dX16_module_133 : decode cX16_module 133 = .ok (.aconst_null, 1) := by decide +kernel
theorem dX16_module_134 : decode cX16_module 134 = .ok (.putfield 225, 3) := by decide +kernel
theorem dX16_module_137 : decode cX16_module 137 = .ok (.aload_n 0, 1) := by decide +kernel
theorem dX16_module_138 : decode cX16_module 138 = .ok (.dup, 1) := by decide +kernel
theorem dX16_module_139 : decode cX16_module 139 = .ok (.getfield 218, 3) := by decide +kernel
theorem dX16_module_142 : decode cX16_module 142 = .ok (.iconst 1, 1) := by decide +kernel
theorem dX16_module_143 : decode cX16_module 143 = .ok (.iadd, 1) := by decide +kernel
theorem dX16_module_144 : decode cX16_module 144 = .ok (.putfield 218, 3) := by decide +kernel
theorem dX16_module_147 : decode cX16_module 147 = .ok (.goto 11, 3) := by decide +kernel
theorem dX16_module_150 : decode cX16_module 150 = .ok (.astore_n 3, 1) := by decide +kernel
theorem dX16_module_151 : decode cX16_module 151 = .ok (.aload_n 0, 1) := by decide +kernel
theorem dX16_module_152 : decode cX16_module 152 = .ok (.aload_n 2, 1) := by decide +kernel
theorem dX16_module_153 : decode cX16_module 153 = .ok (.putfield 221, 3) := by decide +kernel
theorem dX16_module_156 : decode cX16_module 156 = .ok (.iconst (-1), 1) := by decide +kernel
theorem dX16_module_157 : decode cX16_module 157 = .ok (.ireturn, 1) := by decide +kernel
theorem dX16_module_158 : decode cX16_module 158 = .ok (.aload_n 0, 1) := by decide +kernel
theorem dX16_module_159 : decode cX16_module 159 = .ok (.aload_n 2, 1) := by decide +kernel
theorem dX16_module_160 : decode cX16_module 160 = .ok (.putfield 221, 3) := by decide +kernel
theorem dX16_module_163 : decode cX16_module 163 = .ok (.aload_n 0, 1) := by decide +kernel
theorem dX16_module_164 : decode cX16_module 164 = .ok (.getfield 218, 3) := by decide +kernel
theorem dX16_module_167 : decode cX16_module 167 = .ok (.iconst 1, 1) := by decide +kernel
theorem dX16_module_168 : decode cX16_module 168 = .ok (.isub, 1) := by decide +kernel
theorem dX16_module_169 : decode cX16_module 169 = .ok (.ireturn, 1) := by decide +kernel
noncomputable def tX16_module_0 (x0 : Nat) (x1 : Int32) (h : pm_H) : Option (((Nat × Int32 × pm_H) ⊕ (Nat × Int32 × Option Nat × Nat × Nat × pm_H) ⊕ (Nat × Int32 × Option Nat × pm_H) ⊕ (Nat × Int32 × Option Nat × Nat × Nat × pm_H) ⊕ (Nat × Int32 × Option Nat × Int32 × pm_H) ⊕ (Nat × Option Nat × Nat × pm_H)) ⊕ (Int32 × pm_H)) := if x1 < 0 then (some (.inr (((-2), h)))) else (if pm_kd h x0 = 16 then if (pm_I h x0 1) < x1 then (some (.inr (((-2), h)))) else (if (pm_I h x0 3) = 16 then (some (.inr (((-2), h)))) else (pc_oc (pm_R h x0 5) (some (.inl (.inr (.inl ((x0, x1, pm_R h x0 10, pm_sz h, x0, pm_new h 14 0)))))) ((pm_R h x0 5).bind fun v6 => (pm_R (pm_setR h x0 10 (some v6)) x0 10).bind fun v8 => if pm_kd (pm_setR h x0 10 (some v6)) v8 = 14 then (fX14_begin (pm_setR h x0 10 (some v6)) v8 x1).bind fun v11 => some (.inl (.inr (.inr (.inl ((x0, x1, pm_R h x0 10, v11)))))) else none))) else none)
noncomputable def tX16_module_40 (x0 : Nat) (x1 : Int32) (x2 : Option Nat) (s0 : Nat) (s1 : Nat) (h : pm_H) : Option (((Nat × Int32 × pm_H) ⊕ (Nat × Int32 × Option Nat × Nat × Nat × pm_H) ⊕ (Nat × Int32 × Option Nat × pm_H) ⊕ (Nat × Int32 × Option Nat × Nat × Nat × pm_H) ⊕ (Nat × Int32 × Option Nat × Int32 × pm_H) ⊕ (Nat × Option Nat × Nat × pm_H)) ⊕ (Int32 × pm_H)) := (fX14_init h s0).bind fun v13 => some (.inl (.inr (.inr (.inr (.inl ((x0, x1, x2, s0, s1, v13)))))))
noncomputable def tX16_module_63 (x0 : Nat) (x1 : Int32) (x2 : Option Nat) (h : pm_H) : Option (((Nat × Int32 × pm_H) ⊕ (Nat × Int32 × Option Nat × Nat × Nat × pm_H) ⊕ (Nat × Int32 × Option Nat × pm_H) ⊕ (Nat × Int32 × Option Nat × Nat × Nat × pm_H) ⊕ (Nat × Int32 × Option Nat × Int32 × pm_H) ⊕ (Nat × Option Nat × Nat × pm_H)) ⊕ (Int32 × pm_H)) := some (.inl (.inr (.inr (.inr (.inr (.inl ((x0, x1, x2, 0, h))))))))
noncomputable def tX16_module_44 (x0 : Nat) (x1 : Int32) (x2 : Option Nat) (s0 : Nat) (s1 : Nat) (h : pm_H) : Option (((Nat × Int32 × pm_H) ⊕ (Nat × Int32 × Option Nat × Nat × Nat × pm_H) ⊕ (Nat × Int32 × Option Nat × pm_H) ⊕ (Nat × Int32 × Option Nat × Nat × Nat × pm_H) ⊕ (Nat × Int32 × Option Nat × Int32 × pm_H) ⊕ (Nat × Option Nat × Nat × pm_H)) ⊕ (Int32 × pm_H)) := if pm_kd h s1 = 16 then if pm_kd (pm_setR h s1 5 (some s0)) x0 = 16 then (pm_R (pm_setR h s1 5 (some s0)) x0 5).bind fun v17 => (pm_R (pm_setR (pm_setR h s1 5 (some s0)) x0 10 (some v17)) x0 10).bind fun v19 => if pm_kd (pm_setR (pm_setR h s1 5 (some s0)) x0 10 (some v17)) v19 = 14 then (fX14_begin (pm_setR (pm_setR h s1 5 (some s0)) x0 10 (some v17)) v19 x1).bind fun v22 => some (.inl (.inr (.inr (.inl ((x0, x1, x2, v22)))))) else none else none else none
noncomputable def tX16_module_65 (x0 : Nat) (x1 : Int32) (x2 : Option Nat) (x3 : Int32) (h : pm_H) : Option (((Nat × Int32 × pm_H) ⊕ (Nat × Int32 × Option Nat × Nat × Nat × pm_H) ⊕ (Nat × Int32 × Option Nat × pm_H) ⊕ (Nat × Int32 × Option Nat × Nat × Nat × pm_H) ⊕ (Nat × Int32 × Option Nat × Int32 × pm_H) ⊕ (Nat × Option Nat × Nat × pm_H)) ⊕ (Int32 × pm_H)) := if x1 ≤ x3 then (if pm_kd h x0 = 16 then (fX16_readsAll (pm_setI (pm_setI (pm_setI (pm_setI h x0 1 0) x0 6 1) x0 7 0) x0 8 (-1)) x0).bind fun v26 => pt_c v26 (fun z29 => if pm_kd z29.2 z29.1 = 13 then (some (.inl (.inr (.inr (.inr (.inr (.inr ((x0, x2, z29.1, z29.2))))))))) else none) fun w28 => if pm_kd w28 x0 = 16 then (fX16_checksAll w28 x0).bind fun v34 => pt_c v34 (fun z37 => if pm_kd z37.2 z37.1 = 13 then (some (.inl (.inr (.inr (.inr (.inr (.inr ((x0, x2, z37.1, z37.2))))))))) else none) fun w36 => if pm_kd w36 x0 = 16 then (pm_R w36 x0 4).bind fun v42 => (pm_R w36 x0 10).bind fun v44 => if pm_kd w36 v42 = 42 then if pm_kd w36 v44 = 14 then if pm_in (pm_I w36 x0 3) (pm_ln w36 v42) then pm_let ((pm_I (pm_setR (pm_setR w36 v42 ((pm_I w36 x0 3).toNatClampNeg) (some v44)) x0 5 none) x0 3) + 1) fun y49 => some (.inr (((pm_I (pm_setR (pm_setI (pm_setR (pm_setR w36 v42 ((pm_I w36 x0 3).toNatClampNeg) (some v44)) x0 5 none) x0 3 y49) x0 10 x2) x0 3) - 1, pm_setR (pm_setI (pm_setR (pm_setR w36 v42 ((pm_I w36 x0 3).toNatClampNeg) (some v44)) x0 5 none) x0 3 y49) x0 10 x2))) else none else none else none else none else none else none) else (if pm_kd h x0 = 16 then (pm_R h x0 10).bind fun v52 => if pm_kd h v52 = 14 then (pm_R h v52 0).bind fun v55 => (pm_R h x0 0).bind fun v57 => if pm_kd h v57 = 33 then if pm_in x3 (pm_ln h v57) then pm_let (pm_I h v57 x3.toNatClampNeg) fun y61 => if pm_kd h v55 = 33 then if pm_in x3 (pm_ln h v55) then pm_let (x3 + 1) fun y65 => some (.inl (.inr (.inr (.inr (.inr (.inl ((x0, x1, x2, y65, pm_setI h v55 x3.toNatClampNeg (vp_nar .byte y61))))))))) else none else none else none else none else none else none)
noncomputable def tX16_module_150 (x0 : Nat) (x2 : Option Nat) (s0 : Nat) (h : pm_H) : Option (((Nat × Int32 × pm_H) ⊕ (Nat × Int32 × Option Nat × Nat × Nat × pm_H) ⊕ (Nat × Int32 × Option Nat × pm_H) ⊕ (Nat × Int32 × Option Nat × Nat × Nat × pm_H) ⊕ (Nat × Int32 × Option Nat × Int32 × pm_H) ⊕ (Nat × Option Nat × Nat × pm_H)) ⊕ (Int32 × pm_H)) := if pm_kd h x0 = 16 then some (.inr (((-1), pm_setR h x0 10 x2))) else none
noncomputable def sX16_module : ((Nat × Int32 × pm_H) ⊕ (Nat × Int32 × Option Nat × Nat × Nat × pm_H) ⊕ (Nat × Int32 × Option Nat × pm_H) ⊕ (Nat × Int32 × Option Nat × Nat × Nat × pm_H) ⊕ (Nat × Int32 × Option Nat × Int32 × pm_H) ⊕ (Nat × Option Nat × Nat × pm_H)) → Option (((Nat × Int32 × pm_H) ⊕ (Nat × Int32 × Option Nat × Nat × Nat × pm_H) ⊕ (Nat × Int32 × Option Nat × pm_H) ⊕ (Nat × Int32 × Option Nat × Nat × Nat × pm_H) ⊕ (Nat × Int32 × Option Nat × Int32 × pm_H) ⊕ (Nat × Option Nat × Nat × pm_H)) ⊕ (Int32 × pm_H)) := fun z => match z with
  | .inl (x0, x1, h) => tX16_module_0 x0 x1 h
  | .inr (.inl (x0, x1, x2, s0, s1, h)) => tX16_module_40 x0 x1 x2 s0 s1 h
  | .inr (.inr (.inl (x0, x1, x2, h))) => tX16_module_63 x0 x1 x2 h
  | .inr (.inr (.inr (.inl (x0, x1, x2, s0, s1, h)))) => tX16_module_44 x0 x1 x2 s0 s1 h
  | .inr (.inr (.inr (.inr (.inl (x0, x1, x2, x3, h))))) => tX16_module_65 x0 x1 x2 x3 h
  | .inr (.inr (.inr (.inr (.inr (x0, x2, s0, h))))) => tX16_module_150 x0 x2 s0 h
noncomputable def fX16_module (h : pm_H) (a0 : Nat) (p1 : Int32) : Option (Int32 × pm_H) := pm_lim sX16_module (.inl ((a0, p1, h)))
set_option maxHeartbeats 4000000 in
set_option maxRecDepth 100000 in
theorem mlX16_module {r : (Int32 × pm_H)} : ∀ n : Nat, (∀ (x0 : Nat) (x1 : Int32) (h : pm_H), pm_iter sX16_module n (.inl (x0, x1, h)) = some r → pm_Le h r.2) ∧ (∀ (x0 : Nat) (x1 : Int32) (x2 : Option Nat) (s0 : Nat) (s1 : Nat) (h : pm_H), pm_iter sX16_module n (.inr (.inl (x0, x1, x2, s0, s1, h))) = some r → pm_Le h r.2) ∧ (∀ (x0 : Nat) (x1 : Int32) (x2 : Option Nat) (h : pm_H), pm_iter sX16_module n (.inr (.inr (.inl (x0, x1, x2, h)))) = some r → pm_Le h r.2) ∧ (∀ (x0 : Nat) (x1 : Int32) (x2 : Option Nat) (s0 : Nat) (s1 : Nat) (h : pm_H), pm_iter sX16_module n (.inr (.inr (.inr (.inl (x0, x1, x2, s0, s1, h))))) = some r → pm_Le h r.2) ∧ (∀ (x0 : Nat) (x1 : Int32) (x2 : Option Nat) (x3 : Int32) (h : pm_H), pm_iter sX16_module n (.inr (.inr (.inr (.inr (.inl (x0, x1, x2, x3, h)))))) = some r → pm_Le h r.2) ∧ (∀ (x0 : Nat) (x2 : Option Nat) (s0 : Nat) (h : pm_H), pm_iter sX16_module n (.inr (.inr (.inr (.inr (.inr (x0, x2, s0, h)))))) = some r → pm_Le h r.2) := by
  intro n
  induction n with
  | zero => exact ⟨fun _ _ _ hf => (by cases hf), fun _ _ _ _ _ _ hf => (by cases hf), fun _ _ _ _ hf => (by cases hf), fun _ _ _ _ _ _ hf => (by cases hf), fun _ _ _ _ _ hf => (by cases hf), fun _ _ _ _ hf => (by cases hf)⟩
  | succ n ih =>
    refine ⟨fun x0 x1 h hf => ?_, ?_⟩
    · obtain ⟨y, hf, hi⟩ := pm_iter_s hf
      have hf : tX16_module_0 x0 x1 h = some y := hf
      unfold tX16_module_0 at hf
      have K0 := pm_S3.rf h
      by_cases c1 : x1 < 0
      · have hf := pm_it hf c1
        have hf := Option.some.inj hf
        subst hf
        have hi := Option.some.inj (show some _ = some r from hi)
        subst hi
        exact pm_S3.le K0
      · have hf := pm_ie hf c1
        obtain ⟨k2, hf⟩ := pm_if hf
        by_cases c3 : (pm_I h x0 1) < x1
        · have hf := pm_it hf c3
          have hf := Option.some.inj hf
          subst hf
          have hi := Option.some.inj (show some _ = some r from hi)
          subst hi
          exact pm_S3.le K0
        · have hf := pm_ie hf c3
          by_cases c4 : (pm_I h x0 3) = 16
          · have hf := pm_it hf c4
            have hf := Option.some.inj hf
            subst hf
            have hi := Option.some.inj (show some _ = some r from hi)
            subst hi
            exact pm_S3.le K0
          · have hf := pm_ie hf c4
            rcases ho5 : pm_R h x0 5 with _ | v0
            · have hf := pc_on ho5 hf
              cases hf
              exact ((pm_S3.le K0).trans (pm_Le_new _ _ _)).trans (ih.2.1 x0 x1 (pm_R h x0 10) (pm_sz h) x0 (pm_new h 14 0) hi)
            · have hf := pc_os ho5 hf
              obtain ⟨v6, e7, hf⟩ := pm_bd hf
              obtain ⟨v8, e9, hf⟩ := pm_bd hf
              obtain ⟨k10, hf⟩ := pm_if hf
              obtain ⟨v11, e12, hf⟩ := pm_bd hf
              cases hf
              exact ((pm_S3.le (pm_S3R K0)).trans (moX14_begin e12)).trans (ih.2.2.1 x0 x1 (pm_R h x0 10) v11 hi)
    refine ⟨fun x0 x1 x2 s0 s1 h hf => ?_, ?_⟩
    · obtain ⟨y, hf, hi⟩ := pm_iter_s hf
      have hf : tX16_module_40 x0 x1 x2 s0 s1 h = some y := hf
      unfold tX16_module_40 at hf
      have K0 := pm_S3.rf h
      obtain ⟨v13, e14, hf⟩ := pm_bd hf
      cases hf
      exact ((pm_S3.le K0).trans (moX14_init e14)).trans (ih.2.2.2.1 x0 x1 x2 s0 s1 v13 hi)
    refine ⟨fun x0 x1 x2 h hf => ?_, ?_⟩
    · obtain ⟨y, hf, hi⟩ := pm_iter_s hf
      have hf : tX16_module_63 x0 x1 x2 h = some y := hf
      unfold tX16_module_63 at hf
      have K0 := pm_S3.rf h
      cases hf
      exact (pm_S3.le K0).trans (ih.2.2.2.2.1 x0 x1 x2 0 h hi)
    refine ⟨fun x0 x1 x2 s0 s1 h hf => ?_, ?_⟩
    · obtain ⟨y, hf, hi⟩ := pm_iter_s hf
      have hf : tX16_module_44 x0 x1 x2 s0 s1 h = some y := hf
      unfold tX16_module_44 at hf
      have K0 := pm_S3.rf h
      obtain ⟨k15, hf⟩ := pm_if hf
      obtain ⟨k16, hf⟩ := pm_if hf
      obtain ⟨v17, e18, hf⟩ := pm_bd hf
      obtain ⟨v19, e20, hf⟩ := pm_bd hf
      obtain ⟨k21, hf⟩ := pm_if hf
      obtain ⟨v22, e23, hf⟩ := pm_bd hf
      cases hf
      exact ((pm_S3.le (pm_S3R (pm_S3R K0))).trans (moX14_begin e23)).trans (ih.2.2.1 x0 x1 x2 v22 hi)
    refine ⟨fun x0 x1 x2 x3 h hf => ?_, ?_⟩
    · obtain ⟨y, hf, hi⟩ := pm_iter_s hf
      have hf : tX16_module_65 x0 x1 x2 x3 h = some y := hf
      unfold tX16_module_65 at hf
      have K0 := pm_S3.rf h
      by_cases c24 : x1 ≤ x3
      · have hf := pm_it hf c24
        obtain ⟨k25, hf⟩ := pm_if hf
        obtain ⟨v26, e27, hf⟩ := pm_bd hf
        rcases v26 with z29 | w28
        · have hf := pt_cl hf
          obtain ⟨k30, hf⟩ := pm_if hf
          have K31 := pm_S3.trans (show pm_S3 z29.2 _ from kpX16_readsAll e27) (pm_S3I (pm_S3I (pm_S3I (pm_S3I K0))))
          cases hf
          exact (pm_S3.le K31).trans (ih.2.2.2.2.2 x0 x2 z29.1 z29.2 hi)
        have hf := pt_cr hf
        have K32 := pm_S3.trans (show pm_S3 w28 _ from kpX16_readsAll e27) (pm_S3I (pm_S3I (pm_S3I (pm_S3I K0))))
        obtain ⟨k33, hf⟩ := pm_if hf
        obtain ⟨v34, e35, hf⟩ := pm_bd hf
        rcases v34 with z37 | w36
        · have hf := pt_cl hf
          obtain ⟨k38, hf⟩ := pm_if hf
          have K39 := pm_S3.trans (show pm_S3 z37.2 _ from kpX16_checksAll e35) K32
          cases hf
          exact (pm_S3.le K39).trans (ih.2.2.2.2.2 x0 x2 z37.1 z37.2 hi)
        have hf := pt_cr hf
        have K40 := pm_S3.trans (show pm_S3 w36 _ from kpX16_checksAll e35) K32
        obtain ⟨k41, hf⟩ := pm_if hf
        obtain ⟨v42, e43, hf⟩ := pm_bd hf
        obtain ⟨v44, e45, hf⟩ := pm_bd hf
        obtain ⟨k46, hf⟩ := pm_if hf
        obtain ⟨k47, hf⟩ := pm_if hf
        obtain ⟨u48, hf⟩ := pm_if hf
        obtain ⟨y49, e50, hf⟩ := pm_lt hf
        have hf := Option.some.inj hf
        subst hf
        have hi := Option.some.inj (show some _ = some r from hi)
        subst hi
        exact pm_S3.le (pm_S3R (pm_S3I (pm_S3R (pm_S3R K40))))
      · have hf := pm_ie hf c24
        obtain ⟨k51, hf⟩ := pm_if hf
        obtain ⟨v52, e53, hf⟩ := pm_bd hf
        obtain ⟨k54, hf⟩ := pm_if hf
        obtain ⟨v55, e56, hf⟩ := pm_bd hf
        obtain ⟨v57, e58, hf⟩ := pm_bd hf
        obtain ⟨k59, hf⟩ := pm_if hf
        obtain ⟨u60, hf⟩ := pm_if hf
        obtain ⟨y61, e62, hf⟩ := pm_lt hf
        obtain ⟨k63, hf⟩ := pm_if hf
        obtain ⟨u64, hf⟩ := pm_if hf
        obtain ⟨y65, e66, hf⟩ := pm_lt hf
        cases hf
        exact (pm_S3.le (pm_S3I K0)).trans (ih.2.2.2.2.1 x0 x1 x2 y65 (pm_setI h v55 x3.toNatClampNeg (vp_nar .byte y61)) hi)
    refine fun x0 x2 s0 h hf => ?_
    obtain ⟨y, hf, hi⟩ := pm_iter_s hf
    have hf : tX16_module_150 x0 x2 s0 h = some y := hf
    unfold tX16_module_150 at hf
    have K0 := pm_S3.rf h
    obtain ⟨k67, hf⟩ := pm_if hf
    have hf := Option.some.inj hf
    subst hf
    have hi := Option.some.inj (show some _ = some r from hi)
    subst hi
    exact pm_S3.le (pm_S3R K0)
set_option maxHeartbeats 4000000 in
set_option maxRecDepth 100000 in
theorem moX16_module {h : pm_H} {a0 : Nat} {p1 : Int32} {r : (Int32 × pm_H)} (hf : fX16_module h a0 p1 = some r) : pm_Le h r.2 := by
  unfold fX16_module at hf
  have K0 := pm_S3.rf h
  obtain ⟨n, hn⟩ := pm_lim_iter hf
  exact (mlX16_module n).1 a0 p1 h hn
set_option maxHeartbeats 4000000 in
set_option maxRecDepth 100000 in
theorem lpX16_module {g : pm_Gm} {l : Launch} {G : pm_Gl} {Qr : Option Value → pm_H → Prop} (C : pm_C g cX16_module RX16) {h0 : pm_H} {r : (Int32 × pm_H)} (X : pm_X g l G mX16_module (pm_sz r.2 - pm_sz h0) (pm_us r.2 - pm_us h0) Qr) (q : Qr (some (.int r.1)) r.2) (ET : g.2.2.2.2.2.2.2.2.2.1.exceptionTable.toList = pc_tab) : ∀ n : Nat, (∀ (x0 : Nat) (x1 : Int32) (h : pm_H), pm_Le h0 h → pm_iter sX16_module n (.inl (x0, x1, h)) = some r → pm_G g 0 [(0, .ref x0), (1, .int x1)] [] h (pm_sz h - pm_sz h0) (pm_us h - pm_us h0)) ∧ (∀ (x0 : Nat) (x1 : Int32) (x2 : Option Nat) (s0 : Nat) (s1 : Nat) (h : pm_H), pm_Le h0 h → pm_iter sX16_module n (.inr (.inl (x0, x1, x2, s0, s1, h))) = some r → pm_G g 40 [(0, .ref x0), (1, .int x1), (2, pm_ov x2)] [.ref s0, .ref s1] h (pm_sz h - pm_sz h0) (pm_us h - pm_us h0)) ∧ (∀ (x0 : Nat) (x1 : Int32) (x2 : Option Nat) (h : pm_H), pm_Le h0 h → pm_iter sX16_module n (.inr (.inr (.inl (x0, x1, x2, h)))) = some r → pm_G g 63 [(0, .ref x0), (1, .int x1), (2, pm_ov x2)] [] h (pm_sz h - pm_sz h0) (pm_us h - pm_us h0)) ∧ (∀ (x0 : Nat) (x1 : Int32) (x2 : Option Nat) (s0 : Nat) (s1 : Nat) (h : pm_H), pm_Le h0 h → pm_iter sX16_module n (.inr (.inr (.inr (.inl (x0, x1, x2, s0, s1, h))))) = some r → pm_G g 44 [(0, .ref x0), (1, .int x1), (2, pm_ov x2)] [.ref s0, .ref s1] h (pm_sz h - pm_sz h0) (pm_us h - pm_us h0)) ∧ (∀ (x0 : Nat) (x1 : Int32) (x2 : Option Nat) (x3 : Int32) (h : pm_H), pm_Le h0 h → pm_iter sX16_module n (.inr (.inr (.inr (.inr (.inl (x0, x1, x2, x3, h)))))) = some r → pm_G g 65 [(0, .ref x0), (1, .int x1), (2, pm_ov x2), (3, .int x3)] [] h (pm_sz h - pm_sz h0) (pm_us h - pm_us h0)) ∧ (∀ (x0 : Nat) (x2 : Option Nat) (s0 : Nat) (h : pm_H), pm_Le h0 h → pm_iter sX16_module n (.inr (.inr (.inr (.inr (.inr (x0, x2, s0, h)))))) = some r → pm_G g 150 [(0, .ref x0), (2, pm_ov x2)] [.ref s0] h (pm_sz h - pm_sz h0) (pm_us h - pm_us h0)) := by
  intro n
  induction n with
  | zero => exact ⟨fun _ _ _ _ hf => (by cases hf), fun _ _ _ _ _ _ _ hf => (by cases hf), fun _ _ _ _ _ hf => (by cases hf), fun _ _ _ _ _ _ _ hf => (by cases hf), fun _ _ _ _ _ _ hf => (by cases hf), fun _ _ _ _ _ hf => (by cases hf)⟩
  | succ n ih =>
    refine ⟨fun x0 x1 h m0 hf => ?_, ?_⟩
    · have le0 := (mlX16_module (n + 1)).1 x0 x1 h hf
      have kc1 := Nat.sub_le_sub_right le0.1 (pm_sz h0)
      have kc2 := Nat.sub_le_sub_right le0.2 (pm_us h0)
      have K0 := pm_S3.rf h
      obtain ⟨y, hf, hi⟩ := pm_iter_s hf
      have hf : tX16_module_0 x0 x1 h = some y := hf
      unfold tX16_module_0 at hf
      refine pm_iload_n C dX16_module_0 rfl rfl ?_
      refine pm_if_lt (tgt := 21) C dX16_module_1 (by decide) (fun c1 => ?_) (fun c1 => ?_)
      · have hf := pm_it hf c1
        refine pm_bipush (v := (-2)) C dX16_module_21 (by decide) ?_
        have hf := Option.some.inj hf
        subst hf
        have hi := Option.some.inj (show some _ = some r from hi)
        subst hi
        exact pm_iret C X dX16_module_23 rfl kc1 kc2 q
      · have hf := pm_ie hf c1
        refine pm_iload_n C dX16_module_4 rfl rfl ?_
        refine pm_aload_n C dX16_module_5 rfl rfl ?_
        obtain ⟨k2, hf⟩ := pm_if hf
        refine pm_getI C dX16_module_6 flX16_215 rfl k2 rfl ?_
        refine pm_icmp_gt (tgt := 21) C dX16_module_9 (by decide) (fun c3 => ?_) (fun c3 => ?_)
        · have hf := pm_it hf c3
          refine pm_bipush (v := (-2)) C dX16_module_21 (by decide) ?_
          have hf := Option.some.inj hf
          subst hf
          have hi := Option.some.inj (show some _ = some r from hi)
          subst hi
          exact pm_iret C X dX16_module_23 rfl kc1 kc2 q
        · have hf := pm_ie hf c3
          refine pm_aload_n C dX16_module_12 rfl rfl ?_
          refine pm_getI C dX16_module_13 flX16_218 rfl k2 rfl ?_
          refine pm_bipush (v := 16) C dX16_module_16 (by decide) ?_
          refine pm_icmp_ne (tgt := 24) C dX16_module_18 (by decide) (fun c4 => ?_) (fun c4 => ?_)
          · have hf := pm_ie hf c4
            refine pm_aload_n C dX16_module_24 rfl rfl ?_
            refine pm_getO C dX16_module_25 flX16_221 rfl k2 rfl ?_
            refine pm_astore_nO (lv' := [(2, pm_ov (pm_R h x0 10)), (0, .ref x0), (1, .int x1)]) C dX16_module_28 rfl (pm_nl X (by decide)) rfl ?_
            refine pm_aload_n C dX16_module_29 rfl rfl ?_
            refine pm_getO C dX16_module_30 flX16_225 rfl k2 rfl ?_
            rcases ho5 : pm_R h x0 5 with _ | v0
            · have hf := pc_on ho5 hf
              refine pm_ifnonnullN C dX16_module_33 ?_
              refine pm_aload_n C dX16_module_36 rfl rfl ?_
              cases hf
              refine pa_newo (hb := h) (h0 := h0) C X K0 m0 dX16_module_37 pm_Cl14 ckX16_14 cc14.1 cc14.2 ((mlX16_module n).2.1 x0 x1 (pm_R h x0 10) (pm_sz h) x0 (pm_new h 14 0) hi) ?_
              exact pm_sub [1, 2, 0] rfl (ih.2.1 x0 x1 (pm_R h x0 10) (pm_sz h) x0 (pm_new h 14 0) ((m0.trans (pm_S3.le K0)).trans (pm_Le_new _ _ _)) hi)
            · have hf := pc_os ho5 hf
              refine pm_ifnonnull (tgt := 47) C dX16_module_33 (by decide) ?_
              refine pm_aload_n C dX16_module_47 rfl rfl ?_
              refine pm_aload_n C dX16_module_48 rfl rfl ?_
              obtain ⟨v6, e7, hf⟩ := pm_bd hf
              refine pm_getR C dX16_module_49 flX16_225 rfl k2 e7 ?_
              refine pm_putR C dX16_module_52 flX16_221 rfl rfl k2 ?_
              refine pm_aload_n C dX16_module_55 rfl rfl ?_
              obtain ⟨v8, e9, hf⟩ := pm_bd hf
              refine pm_getR C dX16_module_56 flX16_221 rfl k2 e9 ?_
              refine pm_iload_n C dX16_module_59 rfl rfl ?_
              obtain ⟨k10, hf⟩ := pm_if hf
              obtain ⟨v11, e12, hf⟩ := pm_bd hf
              cases hf
              refine pm_callV (as := [.int x1]) (st := []) C X dX16_module_60 lnX16_229 myX14_begin viX14_begin ⟨by decide, by decide⟩ rfl rfl k10 (Nat.le_of_ble_eq_true rfl) (pa_le1 (pm_S3R K0) m0 (moX14_begin e12) ((mlX16_module n).2.2.1 x0 x1 (pm_R h x0 10) v11 hi)) (pa_le2 (pm_S3R K0) m0 (moX14_begin e12) ((mlX16_module n).2.2.1 x0 x1 (pm_R h x0 10) v11 hi)) (ctX14_begin e12 ?_)
              show pm_G g 63 [(2, pm_ov (pm_R h x0 10)), (0, .ref x0), (1, .int x1)] [] v11 (pm_sz h - pm_sz h0 + (pm_sz v11 - pm_sz (pm_setR h x0 10 (some v6)))) (pm_us h - pm_us h0 + (pm_us v11 - pm_us (pm_setR h x0 10 (some v6))))
              refine pa_fin (pm_S3R K0) m0 (moX14_begin e12) ?_
              exact pm_sub [1, 2, 0] rfl (ih.2.2.1 x0 x1 (pm_R h x0 10) v11 ((m0.trans (pm_S3.le (pm_S3R K0))).trans (moX14_begin e12)) hi)
          · have hf := pm_it hf c4
            refine pm_bipush (v := (-2)) C dX16_module_21 (by decide) ?_
            have hf := Option.some.inj hf
            subst hf
            have hi := Option.some.inj (show some _ = some r from hi)
            subst hi
            exact pm_iret C X dX16_module_23 rfl kc1 kc2 q
    refine ⟨fun x0 x1 x2 s0 s1 h m0 hf => ?_, ?_⟩
    · have le0 := (mlX16_module (n + 1)).2.1 x0 x1 x2 s0 s1 h hf
      have kc1 := Nat.sub_le_sub_right le0.1 (pm_sz h0)
      have kc2 := Nat.sub_le_sub_right le0.2 (pm_us h0)
      have K0 := pm_S3.rf h
      obtain ⟨y, hf, hi⟩ := pm_iter_s hf
      have hf : tX16_module_40 x0 x1 x2 s0 s1 h = some y := hf
      unfold tX16_module_40 at hf
      refine pm_dup C dX16_module_40 rfl ?_
      obtain ⟨v13, e14, hf⟩ := pm_bd hf
      cases hf
      refine pm_callI (as := []) (st := [.ref s0, .ref s1]) C X dX16_module_41 lnX16_228 myX14_init iiX14_init ⟨by decide, by decide⟩ rfl rfl (Nat.le_of_ble_eq_true rfl) (pa_le1 K0 m0 (moX14_init e14) ((mlX16_module n).2.2.2.1 x0 x1 x2 s0 s1 v13 hi)) (pa_le2 K0 m0 (moX14_init e14) ((mlX16_module n).2.2.2.1 x0 x1 x2 s0 s1 v13 hi)) (ctX14_init e14 ?_)
      show pm_G g 44 [(0, .ref x0), (1, .int x1), (2, pm_ov x2)] [.ref s0, .ref s1] v13 (pm_sz h - pm_sz h0 + (pm_sz v13 - pm_sz h)) (pm_us h - pm_us h0 + (pm_us v13 - pm_us h))
      refine pa_fin K0 m0 (moX14_init e14) ?_
      exact pm_sub [0, 1, 2] rfl (ih.2.2.2.1 x0 x1 x2 s0 s1 v13 ((m0.trans (pm_S3.le K0)).trans (moX14_init e14)) hi)
    refine ⟨fun x0 x1 x2 h m0 hf => ?_, ?_⟩
    · have le0 := (mlX16_module (n + 1)).2.2.1 x0 x1 x2 h hf
      have kc1 := Nat.sub_le_sub_right le0.1 (pm_sz h0)
      have kc2 := Nat.sub_le_sub_right le0.2 (pm_us h0)
      have K0 := pm_S3.rf h
      obtain ⟨y, hf, hi⟩ := pm_iter_s hf
      have hf : tX16_module_63 x0 x1 x2 h = some y := hf
      unfold tX16_module_63 at hf
      refine pm_iconst (v := 0) C dX16_module_63 (by decide) ?_
      refine pm_istore_n (lv' := [(3, .int 0), (0, .ref x0), (1, .int x1), (2, pm_ov x2)]) C dX16_module_64 rfl (pm_nl X (by decide)) (by cases x2 <;> rfl) ?_
      cases hf
      exact pa_join K0 (pm_sub [1, 2, 3, 0] rfl (ih.2.2.2.2.1 x0 x1 x2 0 h (m0.trans (pm_S3.le K0)) hi))
    refine ⟨fun x0 x1 x2 s0 s1 h m0 hf => ?_, ?_⟩
    · have le0 := (mlX16_module (n + 1)).2.2.2.1 x0 x1 x2 s0 s1 h hf
      have kc1 := Nat.sub_le_sub_right le0.1 (pm_sz h0)
      have kc2 := Nat.sub_le_sub_right le0.2 (pm_us h0)
      have K0 := pm_S3.rf h
      obtain ⟨y, hf, hi⟩ := pm_iter_s hf
      have hf : tX16_module_44 x0 x1 x2 s0 s1 h = some y := hf
      unfold tX16_module_44 at hf
      obtain ⟨k15, hf⟩ := pm_if hf
      refine pm_putR C dX16_module_44 flX16_225 rfl rfl k15 ?_
      refine pm_aload_n C dX16_module_47 rfl rfl ?_
      refine pm_aload_n C dX16_module_48 rfl rfl ?_
      obtain ⟨k16, hf⟩ := pm_if hf
      obtain ⟨v17, e18, hf⟩ := pm_bd hf
      refine pm_getR C dX16_module_49 flX16_225 rfl k16 e18 ?_
      refine pm_putR C dX16_module_52 flX16_221 rfl rfl k16 ?_
      refine pm_aload_n C dX16_module_55 rfl rfl ?_
      obtain ⟨v19, e20, hf⟩ := pm_bd hf
      refine pm_getR C dX16_module_56 flX16_221 rfl k16 e20 ?_
      refine pm_iload_n C dX16_module_59 rfl rfl ?_
      obtain ⟨k21, hf⟩ := pm_if hf
      obtain ⟨v22, e23, hf⟩ := pm_bd hf
      cases hf
      refine pm_callV (as := [.int x1]) (st := []) C X dX16_module_60 lnX16_229 myX14_begin viX14_begin ⟨by decide, by decide⟩ rfl rfl k21 (Nat.le_of_ble_eq_true rfl) (pa_le1 (pm_S3R (pm_S3R K0)) m0 (moX14_begin e23) ((mlX16_module n).2.2.1 x0 x1 x2 v22 hi)) (pa_le2 (pm_S3R (pm_S3R K0)) m0 (moX14_begin e23) ((mlX16_module n).2.2.1 x0 x1 x2 v22 hi)) (ctX14_begin e23 ?_)
      show pm_G g 63 [(0, .ref x0), (1, .int x1), (2, pm_ov x2)] [] v22 (pm_sz h - pm_sz h0 + (pm_sz v22 - pm_sz (pm_setR (pm_setR h s1 5 (some s0)) x0 10 (some v17)))) (pm_us h - pm_us h0 + (pm_us v22 - pm_us (pm_setR (pm_setR h s1 5 (some s0)) x0 10 (some v17))))
      refine pa_fin (pm_S3R (pm_S3R K0)) m0 (moX14_begin e23) ?_
      exact pm_sub [0, 1, 2] rfl (ih.2.2.1 x0 x1 x2 v22 ((m0.trans (pm_S3.le (pm_S3R (pm_S3R K0)))).trans (moX14_begin e23)) hi)
    refine ⟨fun x0 x1 x2 x3 h m0 hf => ?_, ?_⟩
    · have le0 := (mlX16_module (n + 1)).2.2.2.2.1 x0 x1 x2 x3 h hf
      have kc1 := Nat.sub_le_sub_right le0.1 (pm_sz h0)
      have kc2 := Nat.sub_le_sub_right le0.2 (pm_us h0)
      have K0 := pm_S3.rf h
      obtain ⟨y, hf, hi⟩ := pm_iter_s hf
      have hf : tX16_module_65 x0 x1 x2 x3 h = some y := hf
      unfold tX16_module_65 at hf
      refine pm_iload_n C dX16_module_65 rfl rfl ?_
      refine pm_iload_n C dX16_module_66 rfl rfl ?_
      refine pm_icmp_ge (tgt := 91) C dX16_module_67 (by decide) (fun c24 => ?_) (fun c24 => ?_)
      · have hf := pm_it hf c24
        refine pm_aload_n C dX16_module_91 rfl rfl ?_
        refine pm_iconst (v := 0) C dX16_module_92 (by decide) ?_
        obtain ⟨k25, hf⟩ := pm_if hf
        refine pm_putI C dX16_module_93 flX16_215 rfl rfl k25 rfl rfl ?_
        refine pm_aload_n C dX16_module_96 rfl rfl ?_
        refine pm_iconst (v := 1) C dX16_module_97 (by decide) ?_
        refine pm_putI C dX16_module_98 flX16_235 rfl rfl k25 (by decide) (by decide) ?_
        refine pm_aload_n C dX16_module_101 rfl rfl ?_
        refine pm_iconst (v := 0) C dX16_module_102 (by decide) ?_
        refine pm_putI C dX16_module_103 flX16_239 rfl rfl k25 rfl rfl ?_
        refine pm_aload_n C dX16_module_106 rfl rfl ?_
        refine pm_iconst (v := (-1)) C dX16_module_107 (by decide) ?_
        refine pm_putI C dX16_module_108 flX16_242 rfl rfl k25 rfl rfl ?_
        refine pm_aload_n C dX16_module_111 rfl rfl ?_
        obtain ⟨v26, e27, hf⟩ := pm_bd hf
        refine pm_callVC (as := []) (st := []) C X ET dX16_module_112 (by decide) (by decide) ltX16_245 ckX16_20 pc_cast myX16_readsAll viX16_readsAll ⟨by decide, by decide⟩ rfl rfl k25 (Nat.le_of_ble_eq_true rfl) kc1 kc2 (ctX16_readsAll e27 ?_)
        rcases v26 with z29 | w28
        · have hf := pt_cl hf
          obtain ⟨k30, hf⟩ := pm_if hf
          have K31 := pm_S3.trans (show pm_S3 z29.2 _ from kpX16_readsAll e27) (pm_S3I (pm_S3I (pm_S3I (pm_S3I K0))))
          refine ⟨k30, ?_⟩
          show pm_G g 150 [(0, .ref x0), (1, .int x1), (2, pm_ov x2), (3, .int x3)] [.ref z29.1] z29.2 (pm_sz h - pm_sz h0) (pm_us h - pm_us h0)
          cases hf
          exact pa_join K31 (pm_sub [0, 2] rfl (ih.2.2.2.2.2 x0 x2 z29.1 z29.2 (m0.trans (pm_S3.le K31)) hi))
        have hf := pt_cr hf
        have K32 := pm_S3.trans (show pm_S3 w28 _ from kpX16_readsAll e27) (pm_S3I (pm_S3I (pm_S3I (pm_S3I K0))))
        show pm_G g 115 [(0, .ref x0), (1, .int x1), (2, pm_ov x2), (3, .int x3)] [] w28 (pm_sz h - pm_sz h0) (pm_us h - pm_us h0)
        refine pm_aload_n C dX16_module_115 rfl rfl ?_
        obtain ⟨k33, hf⟩ := pm_if hf
        obtain ⟨v34, e35, hf⟩ := pm_bd hf
        refine pm_callVC (as := []) (st := []) C X ET dX16_module_116 (by decide) (by decide) ltX16_248 ckX16_20 pc_cast myX16_checksAll viX16_checksAll ⟨by decide, by decide⟩ rfl rfl k33 (Nat.le_of_ble_eq_true rfl) kc1 kc2 (ctX16_checksAll e35 ?_)
        rcases v34 with z37 | w36
        · have hf := pt_cl hf
          obtain ⟨k38, hf⟩ := pm_if hf
          have K39 := pm_S3.trans (show pm_S3 z37.2 _ from kpX16_checksAll e35) K32
          refine ⟨k38, ?_⟩
          show pm_G g 150 [(0, .ref x0), (1, .int x1), (2, pm_ov x2), (3, .int x3)] [.ref z37.1] z37.2 (pm_sz h - pm_sz h0) (pm_us h - pm_us h0)
          cases hf
          exact pa_join K39 (pm_sub [0, 2] rfl (ih.2.2.2.2.2 x0 x2 z37.1 z37.2 (m0.trans (pm_S3.le K39)) hi))
        have hf := pt_cr hf
        have K40 := pm_S3.trans (show pm_S3 w36 _ from kpX16_checksAll e35) K32
        show pm_G g 119 [(0, .ref x0), (1, .int x1), (2, pm_ov x2), (3, .int x3)] [] w36 (pm_sz h - pm_sz h0) (pm_us h - pm_us h0)
        refine pm_aload_n C dX16_module_119 rfl rfl ?_
        obtain ⟨k41, hf⟩ := pm_if hf
        obtain ⟨v42, e43, hf⟩ := pm_bd hf
        refine pm_getR C dX16_module_120 flX16_16 rfl k41 e43 ?_
        refine pm_aload_n C dX16_module_123 rfl rfl ?_
        refine pm_getI C dX16_module_124 flX16_218 rfl k41 rfl ?_
        refine pm_aload_n C dX16_module_127 rfl rfl ?_
        obtain ⟨v44, e45, hf⟩ := pm_bd hf
        refine pm_getR C dX16_module_128 flX16_221 rfl k41 e45 ?_
        obtain ⟨k46, hf⟩ := pm_if hf
        obtain ⟨k47, hf⟩ := pm_if hf
        obtain ⟨u48, hf⟩ := pm_if hf
        refine pm_aast (t := 10) C dX16_module_131 (by decide) pm_Cl14 rfl k46 k47 u48 ?_
        refine pm_aload_n C dX16_module_132 rfl rfl ?_
        refine pm_null C dX16_module_133 ?_
        refine pm_putN C dX16_module_134 flX16_225 rfl rfl k41 ?_
        refine pm_aload_n C dX16_module_137 rfl rfl ?_
        refine pm_dup C dX16_module_138 rfl ?_
        refine pm_getI C dX16_module_139 flX16_218 rfl k41 rfl ?_
        refine pm_iconst (v := 1) C dX16_module_142 (by decide) ?_
        refine pm_iadd C dX16_module_143 ?_
        obtain ⟨y49, e50, hf⟩ := pm_lt hf
        refine pm_topI e50 ?_
        refine pm_putI C dX16_module_144 flX16_218 rfl rfl k41 rfl rfl ?_
        refine pm_goto (tgt := 158) C dX16_module_147 (by decide) ?_
        refine pm_aload_n C dX16_module_158 rfl rfl ?_
        refine pm_aload_nO C dX16_module_159 rfl rfl ?_
        refine pm_putO C dX16_module_160 flX16_221 rfl rfl k41 ?_
        refine pm_aload_n C dX16_module_163 rfl rfl ?_
        refine pm_getI C dX16_module_164 flX16_218 rfl k41 rfl ?_
        refine pm_iconst (v := 1) C dX16_module_167 (by decide) ?_
        refine pm_isub C dX16_module_168 ?_
        have hf := Option.some.inj hf
        subst hf
        have hi := Option.some.inj (show some _ = some r from hi)
        subst hi
        exact pm_iret C X dX16_module_169 rfl kc1 kc2 q
      · have hf := pm_ie hf c24
        refine pm_aload_n C dX16_module_70 rfl rfl ?_
        obtain ⟨k51, hf⟩ := pm_if hf
        obtain ⟨v52, e53, hf⟩ := pm_bd hf
        refine pm_getR C dX16_module_71 flX16_221 rfl k51 e53 ?_
        obtain ⟨k54, hf⟩ := pm_if hf
        obtain ⟨v55, e56, hf⟩ := pm_bd hf
        refine pm_getR C dX16_module_74 flX16_232 rfl k54 e56 ?_
        refine pm_iload_n C dX16_module_77 rfl rfl ?_
        refine pm_aload_n C dX16_module_78 rfl rfl ?_
        obtain ⟨v57, e58, hf⟩ := pm_bd hf
        refine pm_getR C dX16_module_79 flX16_10 rfl k51 e58 ?_
        refine pm_iload_n C dX16_module_82 rfl rfl ?_
        obtain ⟨k59, hf⟩ := pm_if hf
        obtain ⟨u60, hf⟩ := pm_if hf
        refine pm_bald C dX16_module_83 k59 u60 rfl ?_
        obtain ⟨y61, e62, hf⟩ := pm_lt hf
        refine pm_topI e62 ?_
        obtain ⟨k63, hf⟩ := pm_if hf
        obtain ⟨u64, hf⟩ := pm_if hf
        refine pm_bast C dX16_module_84 k63 u64 ?_
        obtain ⟨y65, e66, hf⟩ := pm_lt hf
        refine pm_iinc (v := y65) (lv' := [(3, .int y65), (0, .ref x0), (1, .int x1), (2, pm_ov x2)]) C dX16_module_85 rfl ((congrArg (x3 + ·) (by decide : Int32.ofInt 1 = 1)).trans e66) (pm_nl X (by decide)) (by cases x2 <;> rfl) ?_
        refine pm_goto (tgt := 65) C dX16_module_88 (by decide) ?_
        cases hf
        exact pa_join (pm_S3I K0) (pm_sub [1, 2, 3, 0] rfl (ih.2.2.2.2.1 x0 x1 x2 y65 (pm_setI h v55 x3.toNatClampNeg (vp_nar .byte y61)) (m0.trans (pm_S3.le (pm_S3I K0))) hi))
    refine fun x0 x2 s0 h m0 hf => ?_
    have le0 := (mlX16_module (n + 1)).2.2.2.2.2 x0 x2 s0 h hf
    have kc1 := Nat.sub_le_sub_right le0.1 (pm_sz h0)
    have kc2 := Nat.sub_le_sub_right le0.2 (pm_us h0)
    have K0 := pm_S3.rf h
    obtain ⟨y, hf, hi⟩ := pm_iter_s hf
    have hf : tX16_module_150 x0 x2 s0 h = some y := hf
    unfold tX16_module_150 at hf
    refine pm_astore_n (lv' := [(3, .ref s0), (0, .ref x0), (2, pm_ov x2)]) C dX16_module_150 rfl (pm_nl X (by decide)) (by cases x2 <;> rfl) ?_
    refine pm_aload_n C dX16_module_151 rfl rfl ?_
    refine pm_aload_nO C dX16_module_152 rfl rfl ?_
    obtain ⟨k67, hf⟩ := pm_if hf
    refine pm_putO C dX16_module_153 flX16_221 rfl rfl k67 ?_
    refine pm_iconst (v := (-1)) C dX16_module_156 (by decide) ?_
    have hf := Option.some.inj hf
    subst hf
    have hi := Option.some.inj (show some _ = some r from hi)
    subst hi
    exact pm_iret C X dX16_module_157 rfl kc1 kc2 q
set_option maxHeartbeats 4000000 in
set_option maxRecDepth 100000 in
theorem ctX16_module {l : Launch} {G : pm_Gl} {h : pm_H} {a0 : Nat} {p1 : Int32} {r : (Int32 × pm_H)} {Qr : Option Value → pm_H → Prop} (hf : fX16_module h a0 p1 = some r) (q : Qr (some (.int r.1)) r.2) : pm_Ctw l G mX16_module [(111, 147, 150, 20)] [.ref a0, .int p1] h (pm_sz r.2 - pm_sz h) (pm_us r.2 - pm_us h) Qr := by
  refine pm_bodyW pnX16 (Nat.le_of_ble_eq_true rfl) (fun g C X ET => ?_)
  have C : pm_C g cX16_module RX16 := C
  show pm_G g 0 [(0, .ref a0), (1, .int p1)] [] h 0 0
  unfold fX16_module at hf
  obtain ⟨n, hn⟩ := pm_lim_iter hf
  exact pa_start (pm_sub [0, 1] rfl ((lpX16_module C X q ET n).1 a0 p1 h (pm_Le.rf h) hn))
