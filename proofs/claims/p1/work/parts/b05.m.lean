theorem dX9_functionType_0 : decode cX9_functionType 0 = .ok (.aload_n 0, 1) := by decide +kernel
theorem dX9_functionType_1 : decode cX9_functionType 1 = .ok (.invokevirtual 43, 3) := by decide +kernel
theorem dX9_functionType_4 : decode cX9_functionType 4 = .ok (.bipush 96, 2) := by decide +kernel
theorem dX9_functionType_6 : decode cX9_functionType 6 = .ok (.if_icmp .eq 15, 3) := by decide +kernel
theorem dX9_functionType_9 : decode cX9_functionType 9 = .ok (.aload_n 0, 1) := by decide +kernel
theorem dX9_functionType_10 : decode cX9_functionType 10 = .ok (.bipush 8, 2) := by decide +kernel
theorem dX9_functionType_12 : decode cX9_functionType 12 = .ok (.aload_n 0, 1) := by decide +kernel
theorem dX9_functionType_13 : decode cX9_functionType 13 = .ok (.getfield 51, 3) := by decide +kernel
theorem dX9_functionType_16 : decode cX9_functionType 16 = .ok (.iconst 1, 1) := by decide +kernel
theorem dX9_functionType_17 : decode cX9_functionType 17 = .ok (.isub, 1) := by decide +kernel
theorem dX9_functionType_18 : decode cX9_functionType 18 = .ok (.invokevirtual 47, 3) := by decide +kernel
theorem dX9_functionType_21 : decode cX9_functionType 21 = .ok (.iconst 2, 1) := by decide +kernel
theorem dX9_functionType_22 : decode cX9_functionType 22 = .ok (.istore_n 1, 1) := by decide +kernel
theorem dX9_functionType_23 : decode cX9_functionType 23 = .ok (.iconst 0, 1) := by decide +kernel
theorem dX9_functionType_24 : decode cX9_functionType 24 = .ok (.istore_n 2, 1) := by decide +kernel
theorem dX9_functionType_25 : decode cX9_functionType 25 = .ok (.iload_n 2, 1) := by decide +kernel
theorem dX9_functionType_26 : decode cX9_functionType 26 = .ok (.iconst 2, 1) := by decide +kernel
theorem dX9_functionType_27 : decode cX9_functionType 27 = .ok (.if_icmp .ge 96, 3) := by decide +kernel
theorem dX9_functionType_30 : decode cX9_functionType 30 = .ok (.aload_n 0, 1) := by decide +kernel
theorem dX9_functionType_31 : decode cX9_functionType 31 = .ok (.bipush 32, 2) := by decide +kernel
theorem dX9_functionType_33 : decode cX9_functionType 33 = .ok (.invokevirtual 145, 3) := by decide +kernel
theorem dX9_functionType_36 : decode cX9_functionType 36 = .ok (.lstore_n 3, 1) := by decide +kernel
theorem dX9_functionType_37 : decode cX9_functionType 37 = .ok (.lload_n 3, 1) := by decide +kernel
theorem dX9_functionType_38 : decode cX9_functionType 38 = .ok (.ldc2_w 217, 3) := by decide +kernel
theorem dX9_functionType_41 : decode cX9_functionType 41 = .ok (.lcmp, 1) := by decide +kernel
theorem dX9_functionType_42 : decode cX9_functionType 42 = .ok (.ifCond .le 7, 3) := by decide +kernel
theorem dX9_functionType_45 : decode cX9_functionType 45 = .ok (.aload_n 0, 1) := by decide +kernel
theorem dX9_functionType_46 : decode cX9_functionType 46 = .ok (.invokevirtual 175, 3) := by decide +kernel
theorem dX9_functionType_49 : decode cX9_functionType 49 = .ok (.lconst 0, 1) := by decide +kernel
theorem dX9_functionType_50 : decode cX9_functionType 50 = .ok (.lstore 5, 2) := by decide +kernel
theorem dX9_functionType_52 : decode cX9_functionType 52 = .ok (.lload 5, 2) := by decide +kernel
theorem dX9_functionType_54 : decode cX9_functionType 54 = .ok (.lload_n 3, 1) := by decide +kernel
theorem dX9_functionType_55 : decode cX9_functionType 55 = .ok (.lcmp, 1) := by decide +kernel
theorem dX9_functionType_56 : decode cX9_functionType 56 = .ok (.ifCond .ge 47, 3) := by decide +kernel
theorem dX9_functionType_59 : decode cX9_functionType 59 = .ok (.aload_n 0, 1) := by decide +kernel
theorem dX9_functionType_60 : decode cX9_functionType 60 = .ok (.getfield 40, 3) := by decide +kernel
theorem dX9_functionType_63 : decode cX9_functionType 63 = .ok (.ifCond .ne 40, 3) := by decide +kernel
theorem dX9_functionType_66 : decode cX9_functionType 66 = .ok (.aload_n 0, 1) := by decide +kernel
theorem dX9_functionType_67 : decode cX9_functionType 67 = .ok (.invokevirtual 219, 3) := by decide +kernel
theorem dX9_functionType_70 : decode cX9_functionType 70 = .ok (.istore 7, 2) := by decide +kernel
theorem dX9_functionType_72 : decode cX9_functionType 72 = .ok (.aload_n 0, 1) := by decide +kernel
theorem dX9_functionType_73 : decode cX9_functionType 73 = .ok (.getfield 15, 3) := by decide +kernel
theorem dX9_functionType_76 : decode cX9_functionType 76 = .ok (.iload_n 1, 1) := by decide +kernel
theorem dX9_functionType_77 : decode cX9_functionType 77 = .ok (.iload 7, 2) := by decide +kernel
theorem dX9_functionType_79 : decode cX9_functionType 79 = .ok (.invokestatic 152, 3) := by decide +kernel
theorem dX9_functionType_82 : decode cX9_functionType 82 = .ok (.iload_n 1, 1) := by decide +kernel
theorem dX9_functionType_83 : decode cX9_functionType 83 = .ok (.iconst 1, 1) := by decide +kernel
theorem dX9_functionType_84 : decode cX9_functionType 84 = .ok (.iadd, 1) := by decide +kernel
theorem dX9_functionType_85 : decode cX9_functionType 85 = .ok (.aload_n 0, 1) := by decide +kernel
theorem dX9_functionType_86 : decode cX9_functionType 86 = .ok (.getfield 15, 3) := by decide +kernel
theorem dX9_functionType_89 : decode cX9_functionType 89 = .ok (.arraylength, 1) := by decide +kernel
theorem dX9_functionType_90 : decode cX9_functionType 90 = .ok (.invokestatic 222, 3) := by decide +kernel
theorem dX9_functionType_93 : decode cX9_functionType 93 = .ok (.istore_n 1, 1) := by decide +kernel
theorem dX9_functionType_94 : decode cX9_functionType 94 = .ok (.lload 5, 2) := by decide +kernel
theorem dX9_functionType_96 : decode cX9_functionType 96 = .ok (.lconst 1, 1) := by decide +kernel
theorem dX9_functionType_97 : decode cX9_functionType 97 = .ok (.ladd, 1) := by decide +kernel
theorem dX9_functionType_98 : decode cX9_functionType 98 = .ok (.lstore 5, 2) := by decide +kernel
theorem dX9_functionType_100 : decode cX9_functionType 100 = .ok (.goto (-48), 3) := by decide +kernel
theorem dX9_functionType_103 : decode cX9_functionType 103 = .ok (.aload_n 0, 1) := by decide +kernel
theorem dX9_functionType_104 : decode cX9_functionType 104 = .ok (.getfield 15, 3) := by decide +kernel
theorem dX9_functionType_107 : decode cX9_functionType 107 = .ok (.iload_n 2, 1) := by decide +kernel
theorem dX9_functionType_108 : decode cX9_functionType 108 = .ok (.lload_n 3, 1) := by decide +kernel
theorem dX9_functionType_109 : decode cX9_functionType 109 = .ok (.ldc2_w 217, 3) := by decide +kernel
theorem dX9_functionType_112 : decode cX9_functionType 112 = .ok (.invokestatic 178, 3) := by decide +kernel
theorem dX9_functionType_115 : decode cX9_functionType 115 = .ok (.l2i, 1) := by decide +kernel
theorem dX9_functionType_116 : decode cX9_functionType 116 = .ok (.iastore, 1) := by decide +kernel
theorem dX9_functionType_117 : decode cX9_functionType 117 = .ok (.iinc 2 1, 3) := by decide +kernel
theorem dX9_functionType_120 : decode cX9_functionType 120 = .ok (.goto (-95), 3) := by decide +kernel
theorem dX9_functionType_123 : decode cX9_functionType 123 = .ok (.aload_n 0, 1) := by decide +kernel
theorem dX9_functionType_124 : decode cX9_functionType 124 = .ok (.getfield 133, 3) := by decide +kernel
theorem dX9_functionType_127 : decode cX9_functionType 127 = .ok (.ifCond .lt 38, 3) := by decide +kernel
theorem dX9_functionType_130 : decode cX9_functionType 130 = .ok (.aload_n 0, 1) := by decide +kernel
theorem dX9_functionType_131 : decode cX9_functionType 131 = .ok (.getfield 133, 3) := by decide +kernel
theorem dX9_functionType_134 : decode cX9_functionType 134 = .ok (.aload_n 0, 1) := by decide +kernel
theorem dX9_functionType_135 : decode cX9_functionType 135 = .ok (.getfield 19, 3) := by decide +kernel
theorem dX9_functionType_138 : decode cX9_functionType 138 = .ok (.getfield 204, 3) := by decide +kernel
theorem dX9_functionType_141 : decode cX9_functionType 141 = .ok (.arraylength, 1) := by decide +kernel
theorem dX9_functionType_142 : decode cX9_functionType 142 = .ok (.if_icmp .ge 23, 3) := by decide +kernel
theorem dX9_functionType_145 : decode cX9_functionType 145 = .ok (.aload_n 0, 1) := by decide +kernel
theorem dX9_functionType_146 : decode cX9_functionType 146 = .ok (.getfield 19, 3) := by decide +kernel
theorem dX9_functionType_149 : decode cX9_functionType 149 = .ok (.getfield 204, 3) := by decide +kernel
theorem dX9_functionType_152 : decode cX9_functionType 152 = .ok (.aload_n 0, 1) := by decide +kernel
theorem dX9_functionType_153 : decode cX9_functionType 153 = .ok (.getfield 133, 3) := by decide +kernel
theorem dX9_functionType_156 : decode cX9_functionType 156 = .ok (.aload_n 0, 1) := by decide +kernel
theorem dX9_functionType_157 : decode cX9_functionType 157 = .ok (.getfield 15, 3) := by decide +kernel
theorem dX9_functionType_160 : decode cX9_functionType 160 = .ok (.iload_n 1, 1) := by decide +kernel
theorem dX9_functionType_161 : decode cX9_functionType 161 = .ok (.invokestatic 225, 3) := by decide +kernel
theorem dX9_functionType_164 : decode cX9_functionType 164 = .ok (.aastore, 1) := by decide +kernel
theorem dX9_functionType_165 : decode cX9_functionType 165 = .ok (.return_, 1) := by decide +kernel
noncomputable def tX9_functionType_0 (x0 : Nat) (h : pm_H) : Option (((Nat × pm_H) ⊕ (Nat × Int32 × Int32 × pm_H) ⊕ (Nat × Int32 × Nat × pm_H) ⊕ (Nat × Int32 × Int32 × Int64 × Int64 × pm_H)) ⊕ pm_H) := if pm_kd h x0 = 9 then (fX9_next h x0).bind fun v2 => if v2.1 = 96 then (some (.inl (.inr (.inl ((x0, 2, 0, v2.2)))))) else (if pm_kd v2.2 x0 = 9 then (fX9_fail v2.2 x0 8 ((pm_I v2.2 x0 1) - 1)).bind fun v7 => some (.inl (.inr (.inl ((x0, 2, 0, v7))))) else none) else none
noncomputable def tX9_functionType_25 (x0 : Nat) (x1 : Int32) (x2 : Int32) (h : pm_H) : Option (((Nat × pm_H) ⊕ (Nat × Int32 × Int32 × pm_H) ⊕ (Nat × Int32 × Nat × pm_H) ⊕ (Nat × Int32 × Int32 × Int64 × Int64 × pm_H)) ⊕ pm_H) := if 2 ≤ x2 then (if pm_kd h x0 = 9 then if (pm_I h x0 15) < 0 then (some (.inr (h))) else ((pm_R h x0 0).bind fun v13 => if pm_kd h v13 = 7 then (pm_R h v13 2).bind fun v16 => if pm_kd h v16 = 36 then if (Int32.ofNat (pm_ln h v16)) ≤ (pm_I h x0 15) then (some (.inr (h))) else ((pm_R h x0 18).bind fun v20 => (fJ7_copyOf_59c91 h v20 x1).bind fun v22 => some (.inl (.inr (.inr (.inl ((v22.1, pm_I h x0 15, v16, v22.2))))))) else none else none) else none) else (if pm_kd h x0 = 9 then (fX9_number h x0 32).bind fun v25 => if v25.1 ≤ 16 then (some (.inl (.inr (.inr (.inr ((x0, x1, x2, v25.1, 0, v25.2))))))) else (if pm_kd v25.2 x0 = 9 then (fX9_exceedLimit v25.2 x0).bind fun v30 => some (.inl (.inr (.inr (.inr ((x0, x1, x2, v25.1, 0, v30)))))) else none) else none)
noncomputable def tX9_functionType_164 (s0 : Nat) (s1 : Int32) (s2 : Nat) (h : pm_H) : Option (((Nat × pm_H) ⊕ (Nat × Int32 × Int32 × pm_H) ⊕ (Nat × Int32 × Nat × pm_H) ⊕ (Nat × Int32 × Int32 × Int64 × Int64 × pm_H)) ⊕ pm_H) := if pm_kd h s2 = 36 then if pm_kd h s0 = 34 then if pm_in s1 (pm_ln h s2) then some (.inr (pm_setR h s2 s1.toNatClampNeg (some s0))) else none else none else none
noncomputable def tX9_functionType_52 (x0 : Nat) (x1 : Int32) (x2 : Int32) (x3 : Int64) (x5 : Int64) (h : pm_H) : Option (((Nat × pm_H) ⊕ (Nat × Int32 × Int32 × pm_H) ⊕ (Nat × Int32 × Nat × pm_H) ⊕ (Nat × Int32 × Int32 × Int64 × Int64 × pm_H)) ⊕ pm_H) := if x3 ≤ x5 then (if pm_kd h x0 = 9 then (pm_R h x0 18).bind fun v38 => pm_let (((if (16 : Int64) < x3 then (16 : Int64) else x3)).toInt32) fun y40 => if pm_kd h v38 = 34 then if pm_in x2 (pm_ln h v38) then pm_let (x2 + 1) fun y44 => some (.inl (.inr (.inl ((x0, x1, y44, pm_setI h v38 x2.toNatClampNeg y40))))) else none else none else none) else (if pm_kd h x0 = 9 then if (pm_I h x0 3) = 0 then ((fX9_valueType h x0).bind fun v56 => if pm_kd v56.2 x0 = 9 then (pm_R v56.2 x0 18).bind fun v60 => (fX12_setItem v56.2 v60 x1 v56.1).bind fun v62 => if pm_kd v62 x0 = 9 then (pm_R v62 x0 18).bind fun v66 => if pm_kd v62 v66 = 34 then pm_let (Int32.ofNat (pm_ln v62 v66)) fun y69 => pm_let (if y69 < (x1 + 1) then y69 else (x1 + 1)) fun y71 => pm_let (x5 + 1) fun y73 => some (.inl (.inr (.inr (.inr ((x0, y71, x2, x3, y73, v62)))))) else none else none else none) else ((pm_R h x0 18).bind fun v48 => pm_let (((if (16 : Int64) < x3 then (16 : Int64) else x3)).toInt32) fun y50 => if pm_kd h v48 = 34 then if pm_in x2 (pm_ln h v48) then pm_let (x2 + 1) fun y54 => some (.inl (.inr (.inl ((x0, x1, y54, pm_setI h v48 x2.toNatClampNeg y50))))) else none else none) else none)
noncomputable def sX9_functionType : ((Nat × pm_H) ⊕ (Nat × Int32 × Int32 × pm_H) ⊕ (Nat × Int32 × Nat × pm_H) ⊕ (Nat × Int32 × Int32 × Int64 × Int64 × pm_H)) → Option (((Nat × pm_H) ⊕ (Nat × Int32 × Int32 × pm_H) ⊕ (Nat × Int32 × Nat × pm_H) ⊕ (Nat × Int32 × Int32 × Int64 × Int64 × pm_H)) ⊕ pm_H) := fun z => match z with
  | .inl (x0, h) => tX9_functionType_0 x0 h
  | .inr (.inl (x0, x1, x2, h)) => tX9_functionType_25 x0 x1 x2 h
  | .inr (.inr (.inl (s0, s1, s2, h))) => tX9_functionType_164 s0 s1 s2 h
  | .inr (.inr (.inr (x0, x1, x2, x3, x5, h))) => tX9_functionType_52 x0 x1 x2 x3 x5 h
noncomputable def fX9_functionType (h : pm_H) (a0 : Nat) : Option pm_H := pm_lim sX9_functionType (.inl ((a0, h)))
set_option maxHeartbeats 4000000 in
set_option maxRecDepth 100000 in
theorem mlX9_functionType {r : pm_H} : ∀ n : Nat, (∀ (x0 : Nat) (h : pm_H), pm_iter sX9_functionType n (.inl (x0, h)) = some r → pm_Le h r) ∧ (∀ (x0 : Nat) (x1 : Int32) (x2 : Int32) (h : pm_H), pm_iter sX9_functionType n (.inr (.inl (x0, x1, x2, h))) = some r → pm_Le h r) ∧ (∀ (s0 : Nat) (s1 : Int32) (s2 : Nat) (h : pm_H), pm_iter sX9_functionType n (.inr (.inr (.inl (s0, s1, s2, h)))) = some r → pm_Le h r) ∧ (∀ (x0 : Nat) (x1 : Int32) (x2 : Int32) (x3 : Int64) (x5 : Int64) (h : pm_H), pm_iter sX9_functionType n (.inr (.inr (.inr (x0, x1, x2, x3, x5, h)))) = some r → pm_Le h r) := by
  intro n
  induction n with
  | zero => exact ⟨fun _ _ hf => (by cases hf), fun _ _ _ _ hf => (by cases hf), fun _ _ _ _ hf => (by cases hf), fun _ _ _ _ _ _ hf => (by cases hf)⟩
  | succ n ih =>
    refine ⟨fun x0 h hf => ?_, ?_⟩
    · obtain ⟨y, hf, hi⟩ := pm_iter_s hf
      have hf : tX9_functionType_0 x0 h = some y := hf
      unfold tX9_functionType_0 at hf
      have K0 := pm_S3.rf h
      obtain ⟨k1, hf⟩ := pm_if hf
      obtain ⟨v2, e3, hf⟩ := pm_bd hf
      have K4 := pm_S3.trans (kpX9_next e3) K0
      by_cases c5 : v2.1 = 96
      · have hf := pm_it hf c5
        cases hf
        exact (pm_S3.le K4).trans (ih.2.1 x0 2 0 v2.2 hi)
      · have hf := pm_ie hf c5
        obtain ⟨k6, hf⟩ := pm_if hf
        obtain ⟨v7, e8, hf⟩ := pm_bd hf
        have K9 := pm_S3.trans (kpX9_fail e8) K4
        cases hf
        exact (pm_S3.le K9).trans (ih.2.1 x0 2 0 v7 hi)
    refine ⟨fun x0 x1 x2 h hf => ?_, ?_⟩
    · obtain ⟨y, hf, hi⟩ := pm_iter_s hf
      have hf : tX9_functionType_25 x0 x1 x2 h = some y := hf
      unfold tX9_functionType_25 at hf
      have K0 := pm_S3.rf h
      by_cases c10 : 2 ≤ x2
      · have hf := pm_it hf c10
        obtain ⟨k11, hf⟩ := pm_if hf
        by_cases c12 : (pm_I h x0 15) < 0
        · have hf := pm_it hf c12
          have hf := Option.some.inj hf
          subst hf
          have hi := Option.some.inj (show some _ = some r from hi)
          subst hi
          exact pm_S3.le K0
        · have hf := pm_ie hf c12
          obtain ⟨v13, e14, hf⟩ := pm_bd hf
          obtain ⟨k15, hf⟩ := pm_if hf
          obtain ⟨v16, e17, hf⟩ := pm_bd hf
          obtain ⟨k18, hf⟩ := pm_if hf
          by_cases c19 : (Int32.ofNat (pm_ln h v16)) ≤ (pm_I h x0 15)
          · have hf := pm_it hf c19
            have hf := Option.some.inj hf
            subst hf
            have hi := Option.some.inj (show some _ = some r from hi)
            subst hi
            exact pm_S3.le K0
          · have hf := pm_ie hf c19
            obtain ⟨v20, e21, hf⟩ := pm_bd hf
            obtain ⟨v22, e23, hf⟩ := pm_bd hf
            cases hf
            exact ((pm_S3.le K0).trans (moJ7_copyOf_59c91 e23)).trans (ih.2.2.1 v22.1 (pm_I h x0 15) v16 v22.2 hi)
      · have hf := pm_ie hf c10
        obtain ⟨k24, hf⟩ := pm_if hf
        obtain ⟨v25, e26, hf⟩ := pm_bd hf
        have K27 := pm_S3.trans (kpX9_number e26) K0
        by_cases c28 : v25.1 ≤ 16
        · have hf := pm_it hf c28
          cases hf
          exact (pm_S3.le K27).trans (ih.2.2.2 x0 x1 x2 v25.1 0 v25.2 hi)
        · have hf := pm_ie hf c28
          obtain ⟨k29, hf⟩ := pm_if hf
          obtain ⟨v30, e31, hf⟩ := pm_bd hf
          have K32 := pm_S3.trans (kpX9_exceedLimit e31) K27
          cases hf
          exact (pm_S3.le K32).trans (ih.2.2.2 x0 x1 x2 v25.1 0 v30 hi)
    refine ⟨fun s0 s1 s2 h hf => ?_, ?_⟩
    · obtain ⟨y, hf, hi⟩ := pm_iter_s hf
      have hf : tX9_functionType_164 s0 s1 s2 h = some y := hf
      unfold tX9_functionType_164 at hf
      have K0 := pm_S3.rf h
      obtain ⟨k33, hf⟩ := pm_if hf
      obtain ⟨k34, hf⟩ := pm_if hf
      obtain ⟨u35, hf⟩ := pm_if hf
      have hf := Option.some.inj hf
      subst hf
      have hi := Option.some.inj (show some _ = some r from hi)
      subst hi
      exact pm_S3.le (pm_S3R K0)
    refine fun x0 x1 x2 x3 x5 h hf => ?_
    obtain ⟨y, hf, hi⟩ := pm_iter_s hf
    have hf : tX9_functionType_52 x0 x1 x2 x3 x5 h = some y := hf
    unfold tX9_functionType_52 at hf
    have K0 := pm_S3.rf h
    by_cases c36 : x3 ≤ x5
    · have hf := pm_it hf c36
      obtain ⟨k37, hf⟩ := pm_if hf
      obtain ⟨v38, e39, hf⟩ := pm_bd hf
      obtain ⟨y40, e41, hf⟩ := pm_lt hf
      obtain ⟨k42, hf⟩ := pm_if hf
      obtain ⟨u43, hf⟩ := pm_if hf
      obtain ⟨y44, e45, hf⟩ := pm_lt hf
      cases hf
      exact (pm_S3.le (pm_S3I K0)).trans (ih.2.1 x0 x1 y44 (pm_setI h v38 x2.toNatClampNeg y40) hi)
    · have hf := pm_ie hf c36
      obtain ⟨k46, hf⟩ := pm_if hf
      by_cases c47 : (pm_I h x0 3) = 0
      · have hf := pm_it hf c47
        obtain ⟨v48, e49, hf⟩ := pm_bd hf
        have K50 := pm_S3.trans (kpX9_valueType e49) K0
        obtain ⟨k51, hf⟩ := pm_if hf
        obtain ⟨v52, e53, hf⟩ := pm_bd hf
        obtain ⟨v54, e55, hf⟩ := pm_bd hf
        have K56 := pm_S3.trans (kpX12_setItem e55) K50
        obtain ⟨k57, hf⟩ := pm_if hf
        obtain ⟨v58, e59, hf⟩ := pm_bd hf
        obtain ⟨k60, hf⟩ := pm_if hf
        obtain ⟨y61, e62, hf⟩ := pm_lt hf
        obtain ⟨y63, e64, hf⟩ := pm_lt hf
        obtain ⟨y65, e66, hf⟩ := pm_lt hf
        cases hf
        exact (pm_S3.le K56).trans (ih.2.2.2 x0 y63 x2 x3 y65 v54 hi)
      · have hf := pm_ie hf c47
        obtain ⟨v67, e68, hf⟩ := pm_bd hf
        obtain ⟨y69, e70, hf⟩ := pm_lt hf
        obtain ⟨k71, hf⟩ := pm_if hf
        obtain ⟨u72, hf⟩ := pm_if hf
        obtain ⟨y73, e74, hf⟩ := pm_lt hf
        cases hf
        exact (pm_S3.le (pm_S3I K0)).trans (ih.2.1 x0 x1 y73 (pm_setI h v67 x2.toNatClampNeg y69) hi)
set_option maxHeartbeats 4000000 in
set_option maxRecDepth 100000 in
theorem moX9_functionType {h : pm_H} {a0 : Nat} {r : pm_H} (hf : fX9_functionType h a0 = some r) : pm_Le h r := by
  unfold fX9_functionType at hf
  have K0 := pm_S3.rf h
  obtain ⟨n, hn⟩ := pm_lim_iter hf
  exact (mlX9_functionType n).1 a0 h hn
set_option maxHeartbeats 4000000 in
set_option maxRecDepth 100000 in
theorem lpX9_functionType {g : pm_Gm} {l : Launch} {G : pm_Gl} {Qr : Option Value → pm_H → Prop} (C : pm_C g cX9_functionType RX9) {h0 : pm_H} {r : pm_H} (X : pm_X g l G mX9_functionType (pm_sz r - pm_sz h0) (pm_us r - pm_us h0) Qr) (q : Qr none r) : ∀ n : Nat, (∀ (x0 : Nat) (h : pm_H), pm_Le h0 h → pm_iter sX9_functionType n (.inl (x0, h)) = some r → pm_G g 0 [(0, .ref x0)] [] h (pm_sz h - pm_sz h0) (pm_us h - pm_us h0)) ∧ (∀ (x0 : Nat) (x1 : Int32) (x2 : Int32) (h : pm_H), pm_Le h0 h → pm_iter sX9_functionType n (.inr (.inl (x0, x1, x2, h))) = some r → pm_G g 25 [(0, .ref x0), (1, .int x1), (2, .int x2)] [] h (pm_sz h - pm_sz h0) (pm_us h - pm_us h0)) ∧ (∀ (s0 : Nat) (s1 : Int32) (s2 : Nat) (h : pm_H), pm_Le h0 h → pm_iter sX9_functionType n (.inr (.inr (.inl (s0, s1, s2, h)))) = some r → pm_G g 164 [] [.ref s0, .int s1, .ref s2] h (pm_sz h - pm_sz h0) (pm_us h - pm_us h0)) ∧ (∀ (x0 : Nat) (x1 : Int32) (x2 : Int32) (x3 : Int64) (x5 : Int64) (h : pm_H), pm_Le h0 h → pm_iter sX9_functionType n (.inr (.inr (.inr (x0, x1, x2, x3, x5, h)))) = some r → pm_G g 52 [(0, .ref x0), (1, .int x1), (2, .int x2), (3, .long x3), (5, .long x5)] [] h (pm_sz h - pm_sz h0) (pm_us h - pm_us h0)) := by
  intro n
  induction n with
  | zero => exact ⟨fun _ _ _ hf => (by cases hf), fun _ _ _ _ _ hf => (by cases hf), fun _ _ _ _ _ hf => (by cases hf), fun _ _ _ _ _ _ _ hf => (by cases hf)⟩
  | succ n ih =>
    refine ⟨fun x0 h m0 hf => ?_, ?_⟩
    · have le0 := (mlX9_functionType (n + 1)).1 x0 h hf
      have kc1 := Nat.sub_le_sub_right le0.1 (pm_sz h0)
      have kc2 := Nat.sub_le_sub_right le0.2 (pm_us h0)
      have K0 := pm_S3.rf h
      obtain ⟨y, hf, hi⟩ := pm_iter_s hf
      have hf : tX9_functionType_0 x0 h = some y := hf
      unfold tX9_functionType_0 at hf
      refine pm_aload_n C dX9_functionType_0 rfl rfl ?_
      obtain ⟨k1, hf⟩ := pm_if hf
      obtain ⟨v2, e3, hf⟩ := pm_bd hf
      refine pm_callV (as := []) (st := []) C X dX9_functionType_1 lnX9_43 myX9_next viX9_next ⟨by decide, by decide⟩ rfl rfl k1 (Nat.le_of_ble_eq_true rfl) kc1 kc2 (ctX9_next e3 ?_)
      have K4 := pm_S3.trans (kpX9_next e3) K0
      show pm_G g 4 [(0, .ref x0)] [.int v2.1] v2.2 (pm_sz h - pm_sz h0) (pm_us h - pm_us h0)
      refine pm_bipush (v := 96) C dX9_functionType_4 (by decide) ?_
      refine pm_icmp_eq (tgt := 21) C dX9_functionType_6 (by decide) (fun c5 => ?_) (fun c5 => ?_)
      · have hf := pm_it hf c5
        refine pm_iconst (v := 2) C dX9_functionType_21 (by decide) ?_
        refine pm_istore_n (lv' := [(1, .int 2), (0, .ref x0)]) C dX9_functionType_22 rfl (pm_nl X (by decide)) rfl ?_
        refine pm_iconst (v := 0) C dX9_functionType_23 (by decide) ?_
        refine pm_istore_n (lv' := [(2, .int 0), (1, .int 2), (0, .ref x0)]) C dX9_functionType_24 rfl (pm_nl X (by decide)) rfl ?_
        cases hf
        exact pa_join K4 (pm_sub [2, 1, 0] rfl (ih.2.1 x0 2 0 v2.2 (m0.trans (pm_S3.le K4)) hi))
      · have hf := pm_ie hf c5
        refine pm_aload_n C dX9_functionType_9 rfl rfl ?_
        refine pm_bipush (v := 8) C dX9_functionType_10 (by decide) ?_
        refine pm_aload_n C dX9_functionType_12 rfl rfl ?_
        obtain ⟨k6, hf⟩ := pm_if hf
        refine pm_getI C dX9_functionType_13 flX9_51 rfl k6 rfl ?_
        refine pm_iconst (v := 1) C dX9_functionType_16 (by decide) ?_
        refine pm_isub C dX9_functionType_17 ?_
        obtain ⟨v7, e8, hf⟩ := pm_bd hf
        refine pm_callV (as := [.int 8, .int ((pm_I v2.2 x0 1) - 1)]) (st := []) C X dX9_functionType_18 lnX9_47 myX9_fail viX9_fail ⟨by decide, by decide⟩ rfl rfl k6 (Nat.le_of_ble_eq_true rfl) kc1 kc2 (ctX9_fail e8 ?_)
        have K9 := pm_S3.trans (kpX9_fail e8) K4
        show pm_G g 21 [(0, .ref x0)] [] v7 (pm_sz h - pm_sz h0) (pm_us h - pm_us h0)
        refine pm_iconst (v := 2) C dX9_functionType_21 (by decide) ?_
        refine pm_istore_n (lv' := [(1, .int 2), (0, .ref x0)]) C dX9_functionType_22 rfl (pm_nl X (by decide)) rfl ?_
        refine pm_iconst (v := 0) C dX9_functionType_23 (by decide) ?_
        refine pm_istore_n (lv' := [(2, .int 0), (1, .int 2), (0, .ref x0)]) C dX9_functionType_24 rfl (pm_nl X (by decide)) rfl ?_
        cases hf
        exact pa_join K9 (pm_sub [2, 1, 0] rfl (ih.2.1 x0 2 0 v7 (m0.trans (pm_S3.le K9)) hi))
    refine ⟨fun x0 x1 x2 h m0 hf => ?_, ?_⟩
    · have le0 := (mlX9_functionType (n + 1)).2.1 x0 x1 x2 h hf
      have kc1 := Nat.sub_le_sub_right le0.1 (pm_sz h0)
      have kc2 := Nat.sub_le_sub_right le0.2 (pm_us h0)
      have K0 := pm_S3.rf h
      obtain ⟨y, hf, hi⟩ := pm_iter_s hf
      have hf : tX9_functionType_25 x0 x1 x2 h = some y := hf
      unfold tX9_functionType_25 at hf
      refine pm_iload_n C dX9_functionType_25 rfl rfl ?_
      refine pm_iconst (v := 2) C dX9_functionType_26 (by decide) ?_
      refine pm_icmp_ge (tgt := 123) C dX9_functionType_27 (by decide) (fun c10 => ?_) (fun c10 => ?_)
      · have hf := pm_it hf c10
        refine pm_aload_n C dX9_functionType_123 rfl rfl ?_
        obtain ⟨k11, hf⟩ := pm_if hf
        refine pm_getI C dX9_functionType_124 flX9_133 rfl k11 rfl ?_
        refine pm_if_lt (tgt := 165) C dX9_functionType_127 (by decide) (fun c12 => ?_) (fun c12 => ?_)
        · have hf := pm_it hf c12
          have hf := Option.some.inj hf
          subst hf
          have hi := Option.some.inj (show some _ = some r from hi)
          subst hi
          exact pm_vret C X dX9_functionType_165 rfl kc1 kc2 q
        · have hf := pm_ie hf c12
          refine pm_aload_n C dX9_functionType_130 rfl rfl ?_
          refine pm_getI C dX9_functionType_131 flX9_133 rfl k11 rfl ?_
          refine pm_aload_n C dX9_functionType_134 rfl rfl ?_
          obtain ⟨v13, e14, hf⟩ := pm_bd hf
          refine pm_getR C dX9_functionType_135 flX9_19 rfl k11 e14 ?_
          obtain ⟨k15, hf⟩ := pm_if hf
          obtain ⟨v16, e17, hf⟩ := pm_bd hf
          refine pm_getR C dX9_functionType_138 flX9_204 rfl k15 e17 ?_
          obtain ⟨k18, hf⟩ := pm_if hf
          refine pm_alen (t := 4) C dX9_functionType_141 (by decide) k18 rfl ?_
          refine pm_icmp_ge (tgt := 165) C dX9_functionType_142 (by decide) (fun c19 => ?_) (fun c19 => ?_)
          · have hf := pm_it hf c19
            have hf := Option.some.inj hf
            subst hf
            have hi := Option.some.inj (show some _ = some r from hi)
            subst hi
            exact pm_vret C X dX9_functionType_165 rfl kc1 kc2 q
          · have hf := pm_ie hf c19
            refine pm_aload_n C dX9_functionType_145 rfl rfl ?_
            refine pm_getR C dX9_functionType_146 flX9_19 rfl k11 e14 ?_
            refine pm_getR C dX9_functionType_149 flX9_204 rfl k15 e17 ?_
            refine pm_aload_n C dX9_functionType_152 rfl rfl ?_
            refine pm_getI C dX9_functionType_153 flX9_133 rfl k11 rfl ?_
            refine pm_aload_n C dX9_functionType_156 rfl rfl ?_
            obtain ⟨v20, e21, hf⟩ := pm_bd hf
            refine pm_getR C dX9_functionType_157 flX9_15 rfl k11 e21 ?_
            refine pm_iload_n C dX9_functionType_160 rfl rfl ?_
            obtain ⟨v22, e23, hf⟩ := pm_bd hf
            cases hf
            refine pm_callS (as := [.ref v20, .int x1]) (st := [.int (pm_I h x0 15), .ref v16]) C X dX9_functionType_161 lnX9_225 myJ7_copyOf_59c91 stJ7_copyOf_59c91 ⟨by decide, by decide⟩ rfl rfl (Nat.le_of_ble_eq_true rfl) (pa_le1 K0 m0 (moJ7_copyOf_59c91 e23) ((mlX9_functionType n).2.2.1 v22.1 (pm_I h x0 15) v16 v22.2 hi)) (pa_le2 K0 m0 (moJ7_copyOf_59c91 e23) ((mlX9_functionType n).2.2.1 v22.1 (pm_I h x0 15) v16 v22.2 hi)) (ctJ7_copyOf_59c91 e23 ?_)
            show pm_G g 164 [(0, .ref x0), (1, .int x1), (2, .int x2)] [.ref v22.1, .int (pm_I h x0 15), .ref v16] v22.2 (pm_sz h - pm_sz h0 + (pm_sz v22.2 - pm_sz h)) (pm_us h - pm_us h0 + (pm_us v22.2 - pm_us h))
            refine pa_fin K0 m0 (moJ7_copyOf_59c91 e23) ?_
            exact pm_sub [] rfl (ih.2.2.1 v22.1 (pm_I h x0 15) v16 v22.2 ((m0.trans (pm_S3.le K0)).trans (moJ7_copyOf_59c91 e23)) hi)
      · have hf := pm_ie hf c10
        refine pm_aload_n C dX9_functionType_30 rfl rfl ?_
        refine pm_bipush (v := 32) C dX9_functionType_31 (by decide) ?_
        obtain ⟨k24, hf⟩ := pm_if hf
        obtain ⟨v25, e26, hf⟩ := pm_bd hf
        refine pm_callV (as := [.int 32]) (st := []) C X dX9_functionType_33 lnX9_145 myX9_number viX9_number ⟨by decide, by decide⟩ rfl rfl k24 (Nat.le_of_ble_eq_true rfl) kc1 kc2 (ctX9_number e26 ?_)
        have K27 := pm_S3.trans (kpX9_number e26) K0
        show pm_G g 36 [(0, .ref x0), (1, .int x1), (2, .int x2)] [.long v25.1] v25.2 (pm_sz h - pm_sz h0) (pm_us h - pm_us h0)
        refine pm_lstore_n (lv' := [(3, .long v25.1), (0, .ref x0), (1, .int x1), (2, .int x2)]) C dX9_functionType_36 rfl (pm_nl X (by decide)) rfl ?_
        refine pm_lload_n C dX9_functionType_37 rfl rfl ?_
        refine pm_ldc2 C dX9_functionType_38 cnX9_217 ?_
        refine pm_lcmp C dX9_functionType_41 ?_
        refine pm_if_le (tgt := 49) C dX9_functionType_42 (by decide) (fun c28 => ?_) (fun c28 => ?_)
        · have hf := pm_it hf ((pm_lg_le _ _).mp c28)
          refine pm_lconst (v := 0) C dX9_functionType_49 (by decide) ?_
          refine pm_lstore (lv' := [(5, .long 0), (3, .long v25.1), (0, .ref x0), (1, .int x1), (2, .int x2)]) C dX9_functionType_50 (pm_nl X (by decide)) rfl ?_
          cases hf
          exact pa_join K27 (pm_sub [2, 3, 4, 1, 0] rfl (ih.2.2.2 x0 x1 x2 v25.1 0 v25.2 (m0.trans (pm_S3.le K27)) hi))
        · have hf := pm_ie hf ((fun z => c28 ((pm_lg_le _ _).mpr z)))
          refine pm_aload_n C dX9_functionType_45 rfl rfl ?_
          obtain ⟨k29, hf⟩ := pm_if hf
          obtain ⟨v30, e31, hf⟩ := pm_bd hf
          refine pm_callV (as := []) (st := []) C X dX9_functionType_46 lnX9_175 myX9_exceedLimit viX9_exceedLimit ⟨by decide, by decide⟩ rfl rfl k29 (Nat.le_of_ble_eq_true rfl) kc1 kc2 (ctX9_exceedLimit e31 ?_)
          have K32 := pm_S3.trans (kpX9_exceedLimit e31) K27
          show pm_G g 49 [(3, .long v25.1), (0, .ref x0), (1, .int x1), (2, .int x2)] [] v30 (pm_sz h - pm_sz h0) (pm_us h - pm_us h0)
          refine pm_lconst (v := 0) C dX9_functionType_49 (by decide) ?_
          refine pm_lstore (lv' := [(5, .long 0), (3, .long v25.1), (0, .ref x0), (1, .int x1), (2, .int x2)]) C dX9_functionType_50 (pm_nl X (by decide)) rfl ?_
          cases hf
          exact pa_join K32 (pm_sub [2, 3, 4, 1, 0] rfl (ih.2.2.2 x0 x1 x2 v25.1 0 v30 (m0.trans (pm_S3.le K32)) hi))
    refine ⟨fun s0 s1 s2 h m0 hf => ?_, ?_⟩
    · have le0 := (mlX9_functionType (n + 1)).2.2.1 s0 s1 s2 h hf
      have kc1 := Nat.sub_le_sub_right le0.1 (pm_sz h0)
      have kc2 := Nat.sub_le_sub_right le0.2 (pm_us h0)
      have K0 := pm_S3.rf h
      obtain ⟨y, hf, hi⟩ := pm_iter_s hf
      have hf : tX9_functionType_164 s0 s1 s2 h = some y := hf
      unfold tX9_functionType_164 at hf
      obtain ⟨k33, hf⟩ := pm_if hf
      obtain ⟨k34, hf⟩ := pm_if hf
      obtain ⟨u35, hf⟩ := pm_if hf
      refine pm_aasta (t := 4) (u := 2) C dX9_functionType_164 (Or.inl ⟨rfl, rfl⟩) k33 k34 u35 ?_
      have hf := Option.some.inj hf
      subst hf
      have hi := Option.some.inj (show some _ = some r from hi)
      subst hi
      exact pm_vret C X dX9_functionType_165 rfl kc1 kc2 q
    refine fun x0 x1 x2 x3 x5 h m0 hf => ?_
    have le0 := (mlX9_functionType (n + 1)).2.2.2 x0 x1 x2 x3 x5 h hf
    have kc1 := Nat.sub_le_sub_right le0.1 (pm_sz h0)
    have kc2 := Nat.sub_le_sub_right le0.2 (pm_us h0)
    have K0 := pm_S3.rf h
    obtain ⟨y, hf, hi⟩ := pm_iter_s hf
    have hf : tX9_functionType_52 x0 x1 x2 x3 x5 h = some y := hf
    unfold tX9_functionType_52 at hf
    refine pm_lload C dX9_functionType_52 rfl ?_
    refine pm_lload_n C dX9_functionType_54 rfl rfl ?_
    refine pm_lcmp C dX9_functionType_55 ?_
    refine pm_if_ge (tgt := 103) C dX9_functionType_56 (by decide) (fun c36 => ?_) (fun c36 => ?_)
    · have hf := pm_it hf ((pm_lg_ge _ _).mp c36)
      refine pm_aload_n C dX9_functionType_103 rfl rfl ?_
      obtain ⟨k37, hf⟩ := pm_if hf
      obtain ⟨v38, e39, hf⟩ := pm_bd hf
      refine pm_getR C dX9_functionType_104 flX9_15 rfl k37 e39 ?_
      refine pm_iload_n C dX9_functionType_107 rfl rfl ?_
      refine pm_lload_n C dX9_functionType_108 rfl rfl ?_
      refine pm_ldc2 C dX9_functionType_109 cnX9_217 ?_
      refine pm_mminJ C (pm_XR X) dX9_functionType_112 mtX9_178 (by decide) (by decide) (Nat.le_of_ble_eq_true rfl) kc1 kc2 ?_
      refine pm_l2i C dX9_functionType_115 ?_
      obtain ⟨y40, e41, hf⟩ := pm_lt hf
      refine pm_topI e41 ?_
      obtain ⟨k42, hf⟩ := pm_if hf
      obtain ⟨u43, hf⟩ := pm_if hf
      refine pm_iast C dX9_functionType_116 k42 u43 ?_
      obtain ⟨y44, e45, hf⟩ := pm_lt hf
      refine pm_iinc (v := y44) (lv' := [(2, .int y44), (0, .ref x0), (1, .int x1), (3, .long x3), (5, .long x5)]) C dX9_functionType_117 rfl ((congrArg (x2 + ·) (by decide : Int32.ofInt 1 = 1)).trans e45) (pm_nl X (by decide)) rfl ?_
      refine pm_goto (tgt := 25) C dX9_functionType_120 (by decide) ?_
      cases hf
      exact pa_join (pm_S3I K0) (pm_sub [1, 2, 0] rfl (ih.2.1 x0 x1 y44 (pm_setI h v38 x2.toNatClampNeg y40) (m0.trans (pm_S3.le (pm_S3I K0))) hi))
    · have hf := pm_ie hf ((fun z => c36 ((pm_lg_ge _ _).mpr z)))
      refine pm_aload_n C dX9_functionType_59 rfl rfl ?_
      obtain ⟨k46, hf⟩ := pm_if hf
      refine pm_getI C dX9_functionType_60 flX9_40 rfl k46 rfl ?_
      refine pm_if_ne (tgt := 103) C dX9_functionType_63 (by decide) (fun c47 => ?_) (fun c47 => ?_)
      · have hf := pm_ie hf c47
        refine pm_aload_n C dX9_functionType_103 rfl rfl ?_
        obtain ⟨v48, e49, hf⟩ := pm_bd hf
        refine pm_getR C dX9_functionType_104 flX9_15 rfl k46 e49 ?_
        refine pm_iload_n C dX9_functionType_107 rfl rfl ?_
        refine pm_lload_n C dX9_functionType_108 rfl rfl ?_
        refine pm_ldc2 C dX9_functionType_109 cnX9_217 ?_
        refine pm_mminJ C (pm_XR X) dX9_functionType_112 mtX9_178 (by decide) (by decide) (Nat.le_of_ble_eq_true rfl) kc1 kc2 ?_
        refine pm_l2i C dX9_functionType_115 ?_
        obtain ⟨y50, e51, hf⟩ := pm_lt hf
        refine pm_topI e51 ?_
        obtain ⟨k52, hf⟩ := pm_if hf
        obtain ⟨u53, hf⟩ := pm_if hf
        refine pm_iast C dX9_functionType_116 k52 u53 ?_
        obtain ⟨y54, e55, hf⟩ := pm_lt hf
        refine pm_iinc (v := y54) (lv' := [(2, .int y54), (0, .ref x0), (1, .int x1), (3, .long x3), (5, .long x5)]) C dX9_functionType_117 rfl ((congrArg (x2 + ·) (by decide : Int32.ofInt 1 = 1)).trans e55) (pm_nl X (by decide)) rfl ?_
        refine pm_goto (tgt := 25) C dX9_functionType_120 (by decide) ?_
        cases hf
        exact pa_join (pm_S3I K0) (pm_sub [1, 2, 0] rfl (ih.2.1 x0 x1 y54 (pm_setI h v48 x2.toNatClampNeg y50) (m0.trans (pm_S3.le (pm_S3I K0))) hi))
      · have hf := pm_it hf c47
        refine pm_aload_n C dX9_functionType_66 rfl rfl ?_
        obtain ⟨v56, e57, hf⟩ := pm_bd hf
        refine pm_callV (as := []) (st := []) C X dX9_functionType_67 lnX9_219 myX9_valueType viX9_valueType ⟨by decide, by decide⟩ rfl rfl k46 (Nat.le_of_ble_eq_true rfl) kc1 kc2 (ctX9_valueType e57 ?_)
        have K58 := pm_S3.trans (kpX9_valueType e57) K0
        show pm_G g 70 [(0, .ref x0), (1, .int x1), (2, .int x2), (3, .long x3), (5, .long x5)] [.int v56.1] v56.2 (pm_sz h - pm_sz h0) (pm_us h - pm_us h0)
        refine pm_istore (lv' := [(7, .int v56.1), (0, .ref x0), (1, .int x1), (2, .int x2), (3, .long x3), (5, .long x5)]) C dX9_functionType_70 (pm_nl X (by decide)) rfl ?_
        refine pm_aload_n C dX9_functionType_72 rfl rfl ?_
        obtain ⟨k59, hf⟩ := pm_if hf
        obtain ⟨v60, e61, hf⟩ := pm_bd hf
        refine pm_getR C dX9_functionType_73 flX9_15 rfl k59 e61 ?_
        refine pm_iload_n C dX9_functionType_76 rfl rfl ?_
        refine pm_iload C dX9_functionType_77 rfl ?_
        obtain ⟨v62, e63, hf⟩ := pm_bd hf
        refine pm_callS (as := [.ref v60, .int x1, .int v56.1]) (st := []) C X dX9_functionType_79 lnX9_152 myX12_setItem stX12_setItem ⟨by decide, by decide⟩ rfl rfl (Nat.le_of_ble_eq_true rfl) kc1 kc2 (ctX12_setItem e63 ?_)
        have K64 := pm_S3.trans (kpX12_setItem e63) K58
        show pm_G g 82 [(7, .int v56.1), (0, .ref x0), (1, .int x1), (2, .int x2), (3, .long x3), (5, .long x5)] [] v62 (pm_sz h - pm_sz h0) (pm_us h - pm_us h0)
        refine pm_iload_n C dX9_functionType_82 rfl rfl ?_
        refine pm_iconst (v := 1) C dX9_functionType_83 (by decide) ?_
        refine pm_iadd C dX9_functionType_84 ?_
        refine pm_aload_n C dX9_functionType_85 rfl rfl ?_
        obtain ⟨k65, hf⟩ := pm_if hf
        obtain ⟨v66, e67, hf⟩ := pm_bd hf
        refine pm_getR C dX9_functionType_86 flX9_15 rfl k65 e67 ?_
        obtain ⟨k68, hf⟩ := pm_if hf
        refine pm_alen (t := 2) C dX9_functionType_89 (by decide) k68 rfl ?_
        obtain ⟨y69, e70, hf⟩ := pm_lt hf
        refine pm_topI e70 ?_
        refine pm_mminI C (pm_XR X) dX9_functionType_90 mtX9_222 (by decide) (by decide) (Nat.le_of_ble_eq_true rfl) kc1 kc2 ?_
        obtain ⟨y71, e72, hf⟩ := pm_lt hf
        refine pm_topI e72 ?_
        refine pm_istore_n (lv' := [(1, .int y71), (7, .int v56.1), (0, .ref x0), (2, .int x2), (3, .long x3), (5, .long x5)]) C dX9_functionType_93 rfl (pm_nl X (by decide)) rfl ?_
        refine pm_lload C dX9_functionType_94 rfl ?_
        refine pm_lconst (v := 1) C dX9_functionType_96 (by decide) ?_
        refine pm_ladd C dX9_functionType_97 ?_
        obtain ⟨y73, e74, hf⟩ := pm_lt hf
        refine pm_topL e74 ?_
        refine pm_lstore (lv' := [(5, .long y73), (1, .int y71), (7, .int v56.1), (0, .ref x0), (2, .int x2), (3, .long x3)]) C dX9_functionType_98 (pm_nl X (by decide)) rfl ?_
        refine pm_goto (tgt := 52) C dX9_functionType_100 (by decide) ?_
        cases hf
        exact pa_join K64 (pm_sub [3, 1, 4, 5, 0] rfl (ih.2.2.2 x0 y71 x2 x3 y73 v62 (m0.trans (pm_S3.le K64)) hi))
set_option maxHeartbeats 4000000 in
set_option maxRecDepth 100000 in
theorem ctX9_functionType {l : Launch} {G : pm_Gl} {h : pm_H} {a0 : Nat} {r : pm_H} {Qr : Option Value → pm_H → Prop} (hf : fX9_functionType h a0 = some r) (q : Qr none r) : pm_Ct l G mX9_functionType [.ref a0] h (pm_sz r - pm_sz h) (pm_us r - pm_us h) Qr := by
  refine pm_body pnX9 (Nat.le_of_ble_eq_true rfl) (fun g C X => ?_)
  have C : pm_C g cX9_functionType RX9 := C
  show pm_G g 0 [(0, .ref a0)] [] h 0 0
  unfold fX9_functionType at hf
  obtain ⟨n, hn⟩ := pm_lim_iter hf
  exact pa_start (pm_sub [0] rfl ((lpX9_functionType C X q n).1 a0 h (pm_Le.rf h) hn))
