theorem dX1_makeBodies_0 : decode cX1_makeBodies 0 = .ok (.aload_n 0, 1) := by decide +kernel
theorem dX1_makeBodies_1 : decode cX1_makeBodies 1 = .ok (.getfield 40, 3) := by decide +kernel
theorem dX1_makeBodies_4 : decode cX1_makeBodies 4 = .ok (.iconst 0, 1) := by decide +kernel
theorem dX1_makeBodies_5 : decode cX1_makeBodies 5 = .ok (.invokevirtual 130, 3) := by decide +kernel
theorem dX1_makeBodies_8 : decode cX1_makeBodies 8 = .ok (.istore_n 1, 1) := by decide +kernel
theorem dX1_makeBodies_9 : decode cX1_makeBodies 9 = .ok (.aload_n 0, 1) := by decide +kernel
theorem dX1_makeBodies_10 : decode cX1_makeBodies 10 = .ok (.getfield 40, 3) := by decide +kernel
theorem dX1_makeBodies_13 : decode cX1_makeBodies 13 = .ok (.aload_n 0, 1) := by decide +kernel
theorem dX1_makeBodies_14 : decode cX1_makeBodies 14 = .ok (.getfield 40, 3) := by decide +kernel
theorem dX1_makeBodies_17 : decode cX1_makeBodies 17 = .ok (.getfield 204, 3) := by decide +kernel
theorem dX1_makeBodies_20 : decode cX1_makeBodies 20 = .ok (.arraylength, 1) := by decide +kernel
theorem dX1_makeBodies_21 : decode cX1_makeBodies 21 = .ok (.iconst 2, 1) := by decide +kernel
theorem dX1_makeBodies_22 : decode cX1_makeBodies 22 = .ok (.idiv, 1) := by decide +kernel
theorem dX1_makeBodies_23 : decode cX1_makeBodies 23 = .ok (.anewarray 44, 3) := by decide +kernel
theorem dX1_makeBodies_26 : decode cX1_makeBodies 26 = .ok (.putfield 207, 3) := by decide +kernel
theorem dX1_makeBodies_29 : decode cX1_makeBodies 29 = .ok (.iconst 0, 1) := by decide +kernel
theorem dX1_makeBodies_30 : decode cX1_makeBodies 30 = .ok (.istore_n 2, 1) := by decide +kernel
theorem dX1_makeBodies_31 : decode cX1_makeBodies 31 = .ok (.iload_n 2, 1) := by decide +kernel
theorem dX1_makeBodies_32 : decode cX1_makeBodies 32 = .ok (.aload_n 0, 1) := by decide +kernel
theorem dX1_makeBodies_33 : decode cX1_makeBodies 33 = .ok (.getfield 40, 3) := by decide +kernel
theorem dX1_makeBodies_36 : decode cX1_makeBodies 36 = .ok (.getfield 207, 3) := by decide +kernel
theorem dX1_makeBodies_39 : decode cX1_makeBodies 39 = .ok (.arraylength, 1) := by decide +kernel
theorem dX1_makeBodies_40 : decode cX1_makeBodies 40 = .ok (.if_icmp .ge 66, 3) := by decide +kernel
theorem dX1_makeBodies_43 : decode cX1_makeBodies 43 = .ok (.aload_n 0, 1) := by decide +kernel
theorem dX1_makeBodies_44 : decode cX1_makeBodies 44 = .ok (.getfield 40, 3) := by decide +kernel
theorem dX1_makeBodies_47 : decode cX1_makeBodies 47 = .ok (.getfield 204, 3) := by decide +kernel
theorem dX1_makeBodies_50 : decode cX1_makeBodies 50 = .ok (.iconst 2, 1) := by decide +kernel
theorem dX1_makeBodies_51 : decode cX1_makeBodies 51 = .ok (.iload_n 2, 1) := by decide +kernel
theorem dX1_makeBodies_52 : decode cX1_makeBodies 52 = .ok (.imul, 1) := by decide +kernel
theorem dX1_makeBodies_53 : decode cX1_makeBodies 53 = .ok (.iconst 1, 1) := by decide +kernel
theorem dX1_makeBodies_54 : decode cX1_makeBodies 54 = .ok (.iadd, 1) := by decide +kernel
theorem dX1_makeBodies_55 : decode cX1_makeBodies 55 = .ok (.invokestatic 105, 3) := by decide +kernel
theorem dX1_makeBodies_58 : decode cX1_makeBodies 58 = .ok (.aload_n 0, 1) := by decide +kernel
theorem dX1_makeBodies_59 : decode cX1_makeBodies 59 = .ok (.getfield 40, 3) := by decide +kernel
theorem dX1_makeBodies_62 : decode cX1_makeBodies 62 = .ok (.getfield 204, 3) := by decide +kernel
theorem dX1_makeBodies_65 : decode cX1_makeBodies 65 = .ok (.iconst 2, 1) := by decide +kernel
theorem dX1_makeBodies_66 : decode cX1_makeBodies 66 = .ok (.iload_n 2, 1) := by decide +kernel
theorem dX1_makeBodies_67 : decode cX1_makeBodies 67 = .ok (.imul, 1) := by decide +kernel
theorem dX1_makeBodies_68 : decode cX1_makeBodies 68 = .ok (.invokestatic 105, 3) := by decide +kernel
theorem dX1_makeBodies_71 : decode cX1_makeBodies 71 = .ok (.isub, 1) := by decide +kernel
theorem dX1_makeBodies_72 : decode cX1_makeBodies 72 = .ok (.istore_n 3, 1) := by decide +kernel
theorem dX1_makeBodies_73 : decode cX1_makeBodies 73 = .ok (.aload_n 0, 1) := by decide +kernel
theorem dX1_makeBodies_74 : decode cX1_makeBodies 74 = .ok (.getfield 40, 3) := by decide +kernel
theorem dX1_makeBodies_77 : decode cX1_makeBodies 77 = .ok (.getfield 207, 3) := by decide +kernel
theorem dX1_makeBodies_80 : decode cX1_makeBodies 80 = .ok (.iload_n 2, 1) := by decide +kernel
theorem dX1_makeBodies_81 : decode cX1_makeBodies 81 = .ok (.new 44, 3) := by decide +kernel
theorem dX1_makeBodies_84 : decode cX1_makeBodies 84 = .ok (.dup, 1) := by decide +kernel
theorem dX1_makeBodies_85 : decode cX1_makeBodies 85 = .ok (.aload_n 0, 1) := by decide +kernel
theorem dX1_makeBodies_86 : decode cX1_makeBodies 86 = .ok (.getfield 40, 3) := by decide +kernel
theorem dX1_makeBodies_89 : decode cX1_makeBodies 89 = .ok (.iload_n 1, 1) := by decide +kernel
theorem dX1_makeBodies_90 : decode cX1_makeBodies 90 = .ok (.iload_n 2, 1) := by decide +kernel
theorem dX1_makeBodies_91 : decode cX1_makeBodies 91 = .ok (.iadd, 1) := by decide +kernel
theorem dX1_makeBodies_92 : decode cX1_makeBodies 92 = .ok (.invokevirtual 166, 3) := by decide +kernel
theorem dX1_makeBodies_95 : decode cX1_makeBodies 95 = .ok (.iload_n 3, 1) := by decide +kernel
theorem dX1_makeBodies_96 : decode cX1_makeBodies 96 = .ok (.invokespecial 46, 3) := by decide +kernel
theorem dX1_makeBodies_99 : decode cX1_makeBodies 99 = .ok (.aastore, 1) := by decide +kernel
theorem dX1_makeBodies_100 : decode cX1_makeBodies 100 = .ok (.iinc 2 1, 3) := by decide +kernel
theorem dX1_makeBodies_103 : decode cX1_makeBodies 103 = .ok (.goto (-72), 3) := by decide +kernel
theorem dX1_makeBodies_106 : decode cX1_makeBodies 106 = .ok (.return_, 1) := by decide +kernel
noncomputable def tX1_makeBodies_0 (x0 : Nat) (h : pm_H) : Option (((Nat × pm_H) ⊕ (Nat × Int32 × Nat × Nat × pm_H) ⊕ (Nat × Int32 × Int32 × pm_H) ⊕ (Nat × Int32 × Int32 × Int32 × Nat × Int32 × Nat × pm_H) ⊕ (Nat × Int32 × Int32 × Int32 × Nat × Nat × Nat × Int32 × Nat × pm_H) ⊕ (Nat × Int32 × Int32 × Nat × Int32 × Nat × pm_H)) ⊕ pm_H) := if pm_kd h x0 = 1 then (pm_R h x0 2).bind fun v2 => if pm_kd h v2 = 7 then (fX7_imported h v2 0).bind fun v5 => (pm_R h v2 11).bind fun v7 => if pm_kd h v7 = 34 then pm_let ((Int32.ofNat (pm_ln h v7)) / 2) fun y10 => if ¬ y10 < 0 ∧ y10.toNatClampNeg * 4 ≤ 536870912 then some (.inl (.inr (.inl ((x0, v5, pm_sz h, v2, pm_new h 38 y10.toNatClampNeg))))) else none else none else none else none
noncomputable def tX1_makeBodies_26 (x0 : Nat) (x1 : Int32) (s0 : Nat) (s1 : Nat) (h : pm_H) : Option (((Nat × pm_H) ⊕ (Nat × Int32 × Nat × Nat × pm_H) ⊕ (Nat × Int32 × Int32 × pm_H) ⊕ (Nat × Int32 × Int32 × Int32 × Nat × Int32 × Nat × pm_H) ⊕ (Nat × Int32 × Int32 × Int32 × Nat × Nat × Nat × Int32 × Nat × pm_H) ⊕ (Nat × Int32 × Int32 × Nat × Int32 × Nat × pm_H)) ⊕ pm_H) := if pm_kd h s1 = 7 then some (.inl (.inr (.inr (.inl ((x0, x1, 0, pm_setR h s1 12 (some s0))))))) else none
noncomputable def tX1_makeBodies_31 (x0 : Nat) (x1 : Int32) (x2 : Int32) (h : pm_H) : Option (((Nat × pm_H) ⊕ (Nat × Int32 × Nat × Nat × pm_H) ⊕ (Nat × Int32 × Int32 × pm_H) ⊕ (Nat × Int32 × Int32 × Int32 × Nat × Int32 × Nat × pm_H) ⊕ (Nat × Int32 × Int32 × Int32 × Nat × Nat × Nat × Int32 × Nat × pm_H) ⊕ (Nat × Int32 × Int32 × Nat × Int32 × Nat × pm_H)) ⊕ pm_H) := if pm_kd h x0 = 1 then (pm_R h x0 2).bind fun v15 => if pm_kd h v15 = 7 then (pm_R h v15 12).bind fun v18 => if pm_kd h v18 = 38 then if (Int32.ofNat (pm_ln h v18)) ≤ x2 then (some (.inr (h))) else ((pm_R h v15 11).bind fun v22 => (fX12_item h v22 ((2 * x2) + 1)).bind fun v24 => (fX12_item h v22 (2 * x2)).bind fun v26 => pm_let (v24 - v26) fun y28 => some (.inl (.inr (.inr (.inr (.inl ((x0, x1, x2, y28, pm_sz h, x2, v18, pm_new h 0 0)))))))) else none else none else none
noncomputable def tX1_makeBodies_84 (x0 : Nat) (x1 : Int32) (x2 : Int32) (x3 : Int32) (s0 : Nat) (s1 : Int32) (s2 : Nat) (h : pm_H) : Option (((Nat × pm_H) ⊕ (Nat × Int32 × Nat × Nat × pm_H) ⊕ (Nat × Int32 × Int32 × pm_H) ⊕ (Nat × Int32 × Int32 × Int32 × Nat × Int32 × Nat × pm_H) ⊕ (Nat × Int32 × Int32 × Int32 × Nat × Nat × Nat × Int32 × Nat × pm_H) ⊕ (Nat × Int32 × Int32 × Nat × Int32 × Nat × pm_H)) ⊕ pm_H) := if pm_kd h x0 = 1 then (pm_R h x0 2).bind fun v31 => if pm_kd h v31 = 7 then (fX7_shapeOfFunction h v31 (x1 + x2)).bind fun v34 => some (.inl (.inr (.inr (.inr (.inr (.inl ((x0, x1, x2, x3, v34.1, s0, s0, s1, s2, v34.2)))))))) else none else none
noncomputable def tX1_makeBodies_95 (x0 : Nat) (x1 : Int32) (x2 : Int32) (x3 : Int32) (s0 : Nat) (s1 : Nat) (s2 : Nat) (s3 : Int32) (s4 : Nat) (h : pm_H) : Option (((Nat × pm_H) ⊕ (Nat × Int32 × Nat × Nat × pm_H) ⊕ (Nat × Int32 × Int32 × pm_H) ⊕ (Nat × Int32 × Int32 × Int32 × Nat × Int32 × Nat × pm_H) ⊕ (Nat × Int32 × Int32 × Int32 × Nat × Nat × Nat × Int32 × Nat × pm_H) ⊕ (Nat × Int32 × Int32 × Nat × Int32 × Nat × pm_H)) ⊕ pm_H) := (fX0_init h s1 s0 x3).bind fun v36 => some (.inl (.inr (.inr (.inr (.inr (.inr ((x0, x1, x2, s2, s3, s4, v36))))))))
noncomputable def tX1_makeBodies_99 (x0 : Nat) (x1 : Int32) (x2 : Int32) (s0 : Nat) (s1 : Int32) (s2 : Nat) (h : pm_H) : Option (((Nat × pm_H) ⊕ (Nat × Int32 × Nat × Nat × pm_H) ⊕ (Nat × Int32 × Int32 × pm_H) ⊕ (Nat × Int32 × Int32 × Int32 × Nat × Int32 × Nat × pm_H) ⊕ (Nat × Int32 × Int32 × Int32 × Nat × Nat × Nat × Int32 × Nat × pm_H) ⊕ (Nat × Int32 × Int32 × Nat × Int32 × Nat × pm_H)) ⊕ pm_H) := if pm_kd h s2 = 38 then if pm_kd h s0 = 0 then if pm_in s1 (pm_ln h s2) then pm_let (x2 + 1) fun y41 => some (.inl (.inr (.inr (.inl ((x0, x1, y41, pm_setR h s2 s1.toNatClampNeg (some s0))))))) else none else none else none
noncomputable def sX1_makeBodies : ((Nat × pm_H) ⊕ (Nat × Int32 × Nat × Nat × pm_H) ⊕ (Nat × Int32 × Int32 × pm_H) ⊕ (Nat × Int32 × Int32 × Int32 × Nat × Int32 × Nat × pm_H) ⊕ (Nat × Int32 × Int32 × Int32 × Nat × Nat × Nat × Int32 × Nat × pm_H) ⊕ (Nat × Int32 × Int32 × Nat × Int32 × Nat × pm_H)) → Option (((Nat × pm_H) ⊕ (Nat × Int32 × Nat × Nat × pm_H) ⊕ (Nat × Int32 × Int32 × pm_H) ⊕ (Nat × Int32 × Int32 × Int32 × Nat × Int32 × Nat × pm_H) ⊕ (Nat × Int32 × Int32 × Int32 × Nat × Nat × Nat × Int32 × Nat × pm_H) ⊕ (Nat × Int32 × Int32 × Nat × Int32 × Nat × pm_H)) ⊕ pm_H) := fun z => match z with
  | .inl (x0, h) => tX1_makeBodies_0 x0 h
  | .inr (.inl (x0, x1, s0, s1, h)) => tX1_makeBodies_26 x0 x1 s0 s1 h
  | .inr (.inr (.inl (x0, x1, x2, h))) => tX1_makeBodies_31 x0 x1 x2 h
  | .inr (.inr (.inr (.inl (x0, x1, x2, x3, s0, s1, s2, h)))) => tX1_makeBodies_84 x0 x1 x2 x3 s0 s1 s2 h
  | .inr (.inr (.inr (.inr (.inl (x0, x1, x2, x3, s0, s1, s2, s3, s4, h))))) => tX1_makeBodies_95 x0 x1 x2 x3 s0 s1 s2 s3 s4 h
  | .inr (.inr (.inr (.inr (.inr (x0, x1, x2, s0, s1, s2, h))))) => tX1_makeBodies_99 x0 x1 x2 s0 s1 s2 h
noncomputable def fX1_makeBodies (h : pm_H) (a0 : Nat) : Option pm_H := pm_lim sX1_makeBodies (.inl ((a0, h)))
set_option maxHeartbeats 4000000 in
set_option maxRecDepth 100000 in
theorem mlX1_makeBodies {r : pm_H} : ∀ n : Nat, (∀ (x0 : Nat) (h : pm_H), pm_iter sX1_makeBodies n (.inl (x0, h)) = some r → pm_Le h r) ∧ (∀ (x0 : Nat) (x1 : Int32) (s0 : Nat) (s1 : Nat) (h : pm_H), pm_iter sX1_makeBodies n (.inr (.inl (x0, x1, s0, s1, h))) = some r → pm_Le h r) ∧ (∀ (x0 : Nat) (x1 : Int32) (x2 : Int32) (h : pm_H), pm_iter sX1_makeBodies n (.inr (.inr (.inl (x0, x1, x2, h)))) = some r → pm_Le h r) ∧ (∀ (x0 : Nat) (x1 : Int32) (x2 : Int32) (x3 : Int32) (s0 : Nat) (s1 : Int32) (s2 : Nat) (h : pm_H), pm_iter sX1_makeBodies n (.inr (.inr (.inr (.inl (x0, x1, x2, x3, s0, s1, s2, h))))) = some r → pm_Le h r) ∧ (∀ (x0 : Nat) (x1 : Int32) (x2 : Int32) (x3 : Int32) (s0 : Nat) (s1 : Nat) (s2 : Nat) (s3 : Int32) (s4 : Nat) (h : pm_H), pm_iter sX1_makeBodies n (.inr (.inr (.inr (.inr (.inl (x0, x1, x2, x3, s0, s1, s2, s3, s4, h)))))) = some r → pm_Le h r) ∧ (∀ (x0 : Nat) (x1 : Int32) (x2 : Int32) (s0 : Nat) (s1 : Int32) (s2 : Nat) (h : pm_H), pm_iter sX1_makeBodies n (.inr (.inr (.inr (.inr (.inr (x0, x1, x2, s0, s1, s2, h)))))) = some r → pm_Le h r) := by
  intro n
  induction n with
  | zero => exact ⟨fun _ _ hf => (by cases hf), fun _ _ _ _ _ hf => (by cases hf), fun _ _ _ _ hf => (by cases hf), fun _ _ _ _ _ _ _ _ hf => (by cases hf), fun _ _ _ _ _ _ _ _ _ _ hf => (by cases hf), fun _ _ _ _ _ _ _ hf => (by cases hf)⟩
  | succ n ih =>
    refine ⟨fun x0 h hf => ?_, ?_⟩
    · obtain ⟨y, hf, hi⟩ := pm_iter_s hf
      have hf : tX1_makeBodies_0 x0 h = some y := hf
      unfold tX1_makeBodies_0 at hf
      have K0 := pm_S3.rf h
      obtain ⟨k1, hf⟩ := pm_if hf
      obtain ⟨v2, e3, hf⟩ := pm_bd hf
      obtain ⟨k4, hf⟩ := pm_if hf
      obtain ⟨v5, e6, hf⟩ := pm_bd hf
      obtain ⟨v7, e8, hf⟩ := pm_bd hf
      obtain ⟨k9, hf⟩ := pm_if hf
      obtain ⟨y10, e11, hf⟩ := pm_lt hf
      obtain ⟨u12, hf⟩ := pm_if hf
      cases hf
      exact ((pm_S3.le K0).trans (pm_Le_new _ _ _)).trans (ih.2.1 x0 v5 (pm_sz h) v2 (pm_new h 38 y10.toNatClampNeg) hi)
    refine ⟨fun x0 x1 s0 s1 h hf => ?_, ?_⟩
    · obtain ⟨y, hf, hi⟩ := pm_iter_s hf
      have hf : tX1_makeBodies_26 x0 x1 s0 s1 h = some y := hf
      unfold tX1_makeBodies_26 at hf
      have K0 := pm_S3.rf h
      obtain ⟨k13, hf⟩ := pm_if hf
      cases hf
      exact (pm_S3.le (pm_S3R K0)).trans (ih.2.2.1 x0 x1 0 (pm_setR h s1 12 (some s0)) hi)
    refine ⟨fun x0 x1 x2 h hf => ?_, ?_⟩
    · obtain ⟨y, hf, hi⟩ := pm_iter_s hf
      have hf : tX1_makeBodies_31 x0 x1 x2 h = some y := hf
      unfold tX1_makeBodies_31 at hf
      have K0 := pm_S3.rf h
      obtain ⟨k14, hf⟩ := pm_if hf
      obtain ⟨v15, e16, hf⟩ := pm_bd hf
      obtain ⟨k17, hf⟩ := pm_if hf
      obtain ⟨v18, e19, hf⟩ := pm_bd hf
      obtain ⟨k20, hf⟩ := pm_if hf
      by_cases c21 : (Int32.ofNat (pm_ln h v18)) ≤ x2
      · have hf := pm_it hf c21
        have hf := Option.some.inj hf
        subst hf
        have hi := Option.some.inj (show some _ = some r from hi)
        subst hi
        exact pm_S3.le K0
      · have hf := pm_ie hf c21
        obtain ⟨v22, e23, hf⟩ := pm_bd hf
        obtain ⟨v24, e25, hf⟩ := pm_bd hf
        obtain ⟨v26, e27, hf⟩ := pm_bd hf
        obtain ⟨y28, e29, hf⟩ := pm_lt hf
        cases hf
        exact ((pm_S3.le K0).trans (pm_Le_new _ _ _)).trans (ih.2.2.2.1 x0 x1 x2 y28 (pm_sz h) x2 v18 (pm_new h 0 0) hi)
    refine ⟨fun x0 x1 x2 x3 s0 s1 s2 h hf => ?_, ?_⟩
    · obtain ⟨y, hf, hi⟩ := pm_iter_s hf
      have hf : tX1_makeBodies_84 x0 x1 x2 x3 s0 s1 s2 h = some y := hf
      unfold tX1_makeBodies_84 at hf
      have K0 := pm_S3.rf h
      obtain ⟨k30, hf⟩ := pm_if hf
      obtain ⟨v31, e32, hf⟩ := pm_bd hf
      obtain ⟨k33, hf⟩ := pm_if hf
      obtain ⟨v34, e35, hf⟩ := pm_bd hf
      cases hf
      exact ((pm_S3.le K0).trans (moX7_shapeOfFunction e35)).trans (ih.2.2.2.2.1 x0 x1 x2 x3 v34.1 s0 s0 s1 s2 v34.2 hi)
    refine ⟨fun x0 x1 x2 x3 s0 s1 s2 s3 s4 h hf => ?_, ?_⟩
    · obtain ⟨y, hf, hi⟩ := pm_iter_s hf
      have hf : tX1_makeBodies_95 x0 x1 x2 x3 s0 s1 s2 s3 s4 h = some y := hf
      unfold tX1_makeBodies_95 at hf
      have K0 := pm_S3.rf h
      obtain ⟨v36, e37, hf⟩ := pm_bd hf
      cases hf
      exact ((pm_S3.le K0).trans (moX0_init e37)).trans (ih.2.2.2.2.2 x0 x1 x2 s2 s3 s4 v36 hi)
    refine fun x0 x1 x2 s0 s1 s2 h hf => ?_
    obtain ⟨y, hf, hi⟩ := pm_iter_s hf
    have hf : tX1_makeBodies_99 x0 x1 x2 s0 s1 s2 h = some y := hf
    unfold tX1_makeBodies_99 at hf
    have K0 := pm_S3.rf h
    obtain ⟨k38, hf⟩ := pm_if hf
    obtain ⟨k39, hf⟩ := pm_if hf
    obtain ⟨u40, hf⟩ := pm_if hf
    obtain ⟨y41, e42, hf⟩ := pm_lt hf
    cases hf
    exact (pm_S3.le (pm_S3R K0)).trans (ih.2.2.1 x0 x1 y41 (pm_setR h s2 s1.toNatClampNeg (some s0)) hi)
set_option maxHeartbeats 4000000 in
set_option maxRecDepth 100000 in
theorem moX1_makeBodies {h : pm_H} {a0 : Nat} {r : pm_H} (hf : fX1_makeBodies h a0 = some r) : pm_Le h r := by
  unfold fX1_makeBodies at hf
  have K0 := pm_S3.rf h
  obtain ⟨n, hn⟩ := pm_lim_iter hf
  exact (mlX1_makeBodies n).1 a0 h hn
set_option maxHeartbeats 4000000 in
set_option maxRecDepth 100000 in
theorem lpX1_makeBodies {g : pm_Gm} {l : Launch} {G : pm_Gl} {Qr : Option Value → pm_H → Prop} (C : pm_C g cX1_makeBodies RX1) {h0 : pm_H} {r : pm_H} (X : pm_X g l G mX1_makeBodies (pm_sz r - pm_sz h0) (pm_us r - pm_us h0) Qr) (q : Qr none r) : ∀ n : Nat, (∀ (x0 : Nat) (h : pm_H), pm_Le h0 h → pm_iter sX1_makeBodies n (.inl (x0, h)) = some r → pm_G g 0 [(0, .ref x0)] [] h (pm_sz h - pm_sz h0) (pm_us h - pm_us h0)) ∧ (∀ (x0 : Nat) (x1 : Int32) (s0 : Nat) (s1 : Nat) (h : pm_H), pm_Le h0 h → pm_iter sX1_makeBodies n (.inr (.inl (x0, x1, s0, s1, h))) = some r → pm_G g 26 [(0, .ref x0), (1, .int x1)] [.ref s0, .ref s1] h (pm_sz h - pm_sz h0) (pm_us h - pm_us h0)) ∧ (∀ (x0 : Nat) (x1 : Int32) (x2 : Int32) (h : pm_H), pm_Le h0 h → pm_iter sX1_makeBodies n (.inr (.inr (.inl (x0, x1, x2, h)))) = some r → pm_G g 31 [(0, .ref x0), (1, .int x1), (2, .int x2)] [] h (pm_sz h - pm_sz h0) (pm_us h - pm_us h0)) ∧ (∀ (x0 : Nat) (x1 : Int32) (x2 : Int32) (x3 : Int32) (s0 : Nat) (s1 : Int32) (s2 : Nat) (h : pm_H), pm_Le h0 h → pm_iter sX1_makeBodies n (.inr (.inr (.inr (.inl (x0, x1, x2, x3, s0, s1, s2, h))))) = some r → pm_G g 84 [(0, .ref x0), (1, .int x1), (2, .int x2), (3, .int x3)] [.ref s0, .int s1, .ref s2] h (pm_sz h - pm_sz h0) (pm_us h - pm_us h0)) ∧ (∀ (x0 : Nat) (x1 : Int32) (x2 : Int32) (x3 : Int32) (s0 : Nat) (s1 : Nat) (s2 : Nat) (s3 : Int32) (s4 : Nat) (h : pm_H), pm_Le h0 h → pm_iter sX1_makeBodies n (.inr (.inr (.inr (.inr (.inl (x0, x1, x2, x3, s0, s1, s2, s3, s4, h)))))) = some r → pm_G g 95 [(0, .ref x0), (1, .int x1), (2, .int x2), (3, .int x3)] [.ref s0, .ref s1, .ref s2, .int s3, .ref s4] h (pm_sz h - pm_sz h0) (pm_us h - pm_us h0)) ∧ (∀ (x0 : Nat) (x1 : Int32) (x2 : Int32) (s0 : Nat) (s1 : Int32) (s2 : Nat) (h : pm_H), pm_Le h0 h → pm_iter sX1_makeBodies n (.inr (.inr (.inr (.inr (.inr (x0, x1, x2, s0, s1, s2, h)))))) = some r → pm_G g 99 [(0, .ref x0), (1, .int x1), (2, .int x2)] [.ref s0, .int s1, .ref s2] h (pm_sz h - pm_sz h0) (pm_us h - pm_us h0)) := by
  intro n
  induction n with
  | zero => exact ⟨fun _ _ _ hf => (by cases hf), fun _ _ _ _ _ _ hf => (by cases hf), fun _ _ _ _ _ hf => (by cases hf), fun _ _ _ _ _ _ _ _ _ hf => (by cases hf), fun _ _ _ _ _ _ _ _ _ _ _ hf => (by cases hf), fun _ _ _ _ _ _ _ _ hf => (by cases hf)⟩
  | succ n ih =>
    refine ⟨fun x0 h m0 hf => ?_, ?_⟩
    · have le0 := (mlX1_makeBodies (n + 1)).1 x0 h hf
      have kc1 := Nat.sub_le_sub_right le0.1 (pm_sz h0)
      have kc2 := Nat.sub_le_sub_right le0.2 (pm_us h0)
      have K0 := pm_S3.rf h
      obtain ⟨y, hf, hi⟩ := pm_iter_s hf
      have hf : tX1_makeBodies_0 x0 h = some y := hf
      unfold tX1_makeBodies_0 at hf
      refine pm_aload_n C dX1_makeBodies_0 rfl rfl ?_
      obtain ⟨k1, hf⟩ := pm_if hf
      obtain ⟨v2, e3, hf⟩ := pm_bd hf
      refine pm_getR C dX1_makeBodies_1 flX1_40 rfl k1 e3 ?_
      refine pm_iconst (v := 0) C dX1_makeBodies_4 (by decide) ?_
      obtain ⟨k4, hf⟩ := pm_if hf
      obtain ⟨v5, e6, hf⟩ := pm_bd hf
      refine pm_callV (as := [.int 0]) (st := []) C X dX1_makeBodies_5 lnX1_130 myX7_imported viX7_imported ⟨by decide, by decide⟩ rfl rfl k4 (Nat.le_of_ble_eq_true rfl) kc1 kc2 (ctX7_imported e6 ?_)
      show pm_G g 8 [(0, .ref x0)] [.int v5] h (pm_sz h - pm_sz h0) (pm_us h - pm_us h0)
      refine pm_istore_n (lv' := [(1, .int v5), (0, .ref x0)]) C dX1_makeBodies_8 rfl (pm_nl X (by decide)) rfl ?_
      refine pm_aload_n C dX1_makeBodies_9 rfl rfl ?_
      refine pm_getR C dX1_makeBodies_10 flX1_40 rfl k1 e3 ?_
      refine pm_aload_n C dX1_makeBodies_13 rfl rfl ?_
      refine pm_getR C dX1_makeBodies_14 flX1_40 rfl k1 e3 ?_
      obtain ⟨v7, e8, hf⟩ := pm_bd hf
      refine pm_getR C dX1_makeBodies_17 flX1_204 rfl k4 e8 ?_
      obtain ⟨k9, hf⟩ := pm_if hf
      refine pm_alen (t := 2) C dX1_makeBodies_20 (by decide) k9 rfl ?_
      refine pm_iconst (v := 2) C dX1_makeBodies_21 (by decide) ?_
      refine pm_idiv C dX1_makeBodies_22 (by decide) ?_
      obtain ⟨y10, e11, hf⟩ := pm_lt hf
      refine pm_topI e11 ?_
      obtain ⟨u12, hf⟩ := pm_if hf
      cases hf
      refine pa_newq (hb := h) (h0 := h0) (t := 6) (c := 0) (N := y10.toNatClampNeg) C X K0 m0 dX1_makeBodies_23 (by decide) rfl ao0 ckX1_44 u12.1 rfl u12.2 ((mlX1_makeBodies n).2.1 x0 v5 (pm_sz h) v2 (pm_new h 38 y10.toNatClampNeg) hi) ?_
      exact pm_sub [1, 0] rfl (ih.2.1 x0 v5 (pm_sz h) v2 (pm_new h 38 y10.toNatClampNeg) ((m0.trans (pm_S3.le K0)).trans (pm_Le_new _ _ _)) hi)
    refine ⟨fun x0 x1 s0 s1 h m0 hf => ?_, ?_⟩
    · have le0 := (mlX1_makeBodies (n + 1)).2.1 x0 x1 s0 s1 h hf
      have kc1 := Nat.sub_le_sub_right le0.1 (pm_sz h0)
      have kc2 := Nat.sub_le_sub_right le0.2 (pm_us h0)
      have K0 := pm_S3.rf h
      obtain ⟨y, hf, hi⟩ := pm_iter_s hf
      have hf : tX1_makeBodies_26 x0 x1 s0 s1 h = some y := hf
      unfold tX1_makeBodies_26 at hf
      obtain ⟨k13, hf⟩ := pm_if hf
      refine pm_putR C dX1_makeBodies_26 flX1_207 rfl rfl k13 ?_
      refine pm_iconst (v := 0) C dX1_makeBodies_29 (by decide) ?_
      refine pm_istore_n (lv' := [(2, .int 0), (0, .ref x0), (1, .int x1)]) C dX1_makeBodies_30 rfl (pm_nl X (by decide)) rfl ?_
      cases hf
      exact pa_join (pm_S3R K0) (pm_sub [1, 2, 0] rfl (ih.2.2.1 x0 x1 0 (pm_setR h s1 12 (some s0)) (m0.trans (pm_S3.le (pm_S3R K0))) hi))
    refine ⟨fun x0 x1 x2 h m0 hf => ?_, ?_⟩
    · have le0 := (mlX1_makeBodies (n + 1)).2.2.1 x0 x1 x2 h hf
      have kc1 := Nat.sub_le_sub_right le0.1 (pm_sz h0)
      have kc2 := Nat.sub_le_sub_right le0.2 (pm_us h0)
      have K0 := pm_S3.rf h
      obtain ⟨y, hf, hi⟩ := pm_iter_s hf
      have hf : tX1_makeBodies_31 x0 x1 x2 h = some y := hf
      unfold tX1_makeBodies_31 at hf
      refine pm_iload_n C dX1_makeBodies_31 rfl rfl ?_
      refine pm_aload_n C dX1_makeBodies_32 rfl rfl ?_
      obtain ⟨k14, hf⟩ := pm_if hf
      obtain ⟨v15, e16, hf⟩ := pm_bd hf
      refine pm_getR C dX1_makeBodies_33 flX1_40 rfl k14 e16 ?_
      obtain ⟨k17, hf⟩ := pm_if hf
      obtain ⟨v18, e19, hf⟩ := pm_bd hf
      refine pm_getR C dX1_makeBodies_36 flX1_207 rfl k17 e19 ?_
      obtain ⟨k20, hf⟩ := pm_if hf
      refine pm_alen (t := 6) C dX1_makeBodies_39 (by decide) k20 rfl ?_
      refine pm_icmp_ge (tgt := 106) C dX1_makeBodies_40 (by decide) (fun c21 => ?_) (fun c21 => ?_)
      · have hf := pm_it hf c21
        have hf := Option.some.inj hf
        subst hf
        have hi := Option.some.inj (show some _ = some r from hi)
        subst hi
        exact pm_vret C X dX1_makeBodies_106 rfl kc1 kc2 q
      · have hf := pm_ie hf c21
        refine pm_aload_n C dX1_makeBodies_43 rfl rfl ?_
        refine pm_getR C dX1_makeBodies_44 flX1_40 rfl k14 e16 ?_
        obtain ⟨v22, e23, hf⟩ := pm_bd hf
        refine pm_getR C dX1_makeBodies_47 flX1_204 rfl k17 e23 ?_
        refine pm_iconst (v := 2) C dX1_makeBodies_50 (by decide) ?_
        refine pm_iload_n C dX1_makeBodies_51 rfl rfl ?_
        refine pm_imul C dX1_makeBodies_52 ?_
        refine pm_iconst (v := 1) C dX1_makeBodies_53 (by decide) ?_
        refine pm_iadd C dX1_makeBodies_54 ?_
        obtain ⟨v24, e25, hf⟩ := pm_bd hf
        refine pm_callS (as := [.ref v22, .int ((2 * x2) + 1)]) (st := []) C X dX1_makeBodies_55 lnX1_105 myX12_item stX12_item ⟨by decide, by decide⟩ rfl rfl (Nat.le_of_ble_eq_true rfl) kc1 kc2 (ctX12_item e25 ?_)
        show pm_G g 58 [(0, .ref x0), (1, .int x1), (2, .int x2)] [.int v24] h (pm_sz h - pm_sz h0) (pm_us h - pm_us h0)
        refine pm_aload_n C dX1_makeBodies_58 rfl rfl ?_
        refine pm_getR C dX1_makeBodies_59 flX1_40 rfl k14 e16 ?_
        refine pm_getR C dX1_makeBodies_62 flX1_204 rfl k17 e23 ?_
        refine pm_iconst (v := 2) C dX1_makeBodies_65 (by decide) ?_
        refine pm_iload_n C dX1_makeBodies_66 rfl rfl ?_
        refine pm_imul C dX1_makeBodies_67 ?_
        obtain ⟨v26, e27, hf⟩ := pm_bd hf
        refine pm_callS (as := [.ref v22, .int (2 * x2)]) (st := [.int v24]) C X dX1_makeBodies_68 lnX1_105 myX12_item stX12_item ⟨by decide, by decide⟩ rfl rfl (Nat.le_of_ble_eq_true rfl) kc1 kc2 (ctX12_item e27 ?_)
        show pm_G g 71 [(0, .ref x0), (1, .int x1), (2, .int x2)] [.int v26, .int v24] h (pm_sz h - pm_sz h0) (pm_us h - pm_us h0)
        refine pm_isub C dX1_makeBodies_71 ?_
        obtain ⟨y28, e29, hf⟩ := pm_lt hf
        refine pm_topI e29 ?_
        refine pm_istore_n (lv' := [(3, .int y28), (0, .ref x0), (1, .int x1), (2, .int x2)]) C dX1_makeBodies_72 rfl (pm_nl X (by decide)) rfl ?_
        refine pm_aload_n C dX1_makeBodies_73 rfl rfl ?_
        refine pm_getR C dX1_makeBodies_74 flX1_40 rfl k14 e16 ?_
        refine pm_getR C dX1_makeBodies_77 flX1_207 rfl k17 e19 ?_
        refine pm_iload_n C dX1_makeBodies_80 rfl rfl ?_
        cases hf
        refine pa_newo (hb := h) (h0 := h0) C X K0 m0 dX1_makeBodies_81 pm_Cl0 ckX1_44 cc0.1 cc0.2 ((mlX1_makeBodies n).2.2.2.1 x0 x1 x2 y28 (pm_sz h) x2 v18 (pm_new h 0 0) hi) ?_
        exact pm_sub [1, 2, 3, 0] rfl (ih.2.2.2.1 x0 x1 x2 y28 (pm_sz h) x2 v18 (pm_new h 0 0) ((m0.trans (pm_S3.le K0)).trans (pm_Le_new _ _ _)) hi)
    refine ⟨fun x0 x1 x2 x3 s0 s1 s2 h m0 hf => ?_, ?_⟩
    · have le0 := (mlX1_makeBodies (n + 1)).2.2.2.1 x0 x1 x2 x3 s0 s1 s2 h hf
      have kc1 := Nat.sub_le_sub_right le0.1 (pm_sz h0)
      have kc2 := Nat.sub_le_sub_right le0.2 (pm_us h0)
      have K0 := pm_S3.rf h
      obtain ⟨y, hf, hi⟩ := pm_iter_s hf
      have hf : tX1_makeBodies_84 x0 x1 x2 x3 s0 s1 s2 h = some y := hf
      unfold tX1_makeBodies_84 at hf
      refine pm_dup C dX1_makeBodies_84 rfl ?_
      refine pm_aload_n C dX1_makeBodies_85 rfl rfl ?_
      obtain ⟨k30, hf⟩ := pm_if hf
      obtain ⟨v31, e32, hf⟩ := pm_bd hf
      refine pm_getR C dX1_makeBodies_86 flX1_40 rfl k30 e32 ?_
      refine pm_iload_n C dX1_makeBodies_89 rfl rfl ?_
      refine pm_iload_n C dX1_makeBodies_90 rfl rfl ?_
      refine pm_iadd C dX1_makeBodies_91 ?_
      obtain ⟨k33, hf⟩ := pm_if hf
      obtain ⟨v34, e35, hf⟩ := pm_bd hf
      cases hf
      refine pm_callV (as := [.int (x1 + x2)]) (st := [.ref s0, .ref s0, .int s1, .ref s2]) C X dX1_makeBodies_92 lnX1_166 myX7_shapeOfFunction viX7_shapeOfFunction ⟨by decide, by decide⟩ rfl rfl k33 (Nat.le_of_ble_eq_true rfl) (pa_le1 K0 m0 (moX7_shapeOfFunction e35) ((mlX1_makeBodies n).2.2.2.2.1 x0 x1 x2 x3 v34.1 s0 s0 s1 s2 v34.2 hi)) (pa_le2 K0 m0 (moX7_shapeOfFunction e35) ((mlX1_makeBodies n).2.2.2.2.1 x0 x1 x2 x3 v34.1 s0 s0 s1 s2 v34.2 hi)) (ctX7_shapeOfFunction e35 ?_)
      show pm_G g 95 [(0, .ref x0), (1, .int x1), (2, .int x2), (3, .int x3)] [.ref v34.1, .ref s0, .ref s0, .int s1, .ref s2] v34.2 (pm_sz h - pm_sz h0 + (pm_sz v34.2 - pm_sz h)) (pm_us h - pm_us h0 + (pm_us v34.2 - pm_us h))
      refine pa_fin K0 m0 (moX7_shapeOfFunction e35) ?_
      exact pm_sub [0, 1, 2, 3] rfl (ih.2.2.2.2.1 x0 x1 x2 x3 v34.1 s0 s0 s1 s2 v34.2 ((m0.trans (pm_S3.le K0)).trans (moX7_shapeOfFunction e35)) hi)
    refine ⟨fun x0 x1 x2 x3 s0 s1 s2 s3 s4 h m0 hf => ?_, ?_⟩
    · have le0 := (mlX1_makeBodies (n + 1)).2.2.2.2.1 x0 x1 x2 x3 s0 s1 s2 s3 s4 h hf
      have kc1 := Nat.sub_le_sub_right le0.1 (pm_sz h0)
      have kc2 := Nat.sub_le_sub_right le0.2 (pm_us h0)
      have K0 := pm_S3.rf h
      obtain ⟨y, hf, hi⟩ := pm_iter_s hf
      have hf : tX1_makeBodies_95 x0 x1 x2 x3 s0 s1 s2 s3 s4 h = some y := hf
      unfold tX1_makeBodies_95 at hf
      refine pm_iload_n C dX1_makeBodies_95 rfl rfl ?_
      obtain ⟨v36, e37, hf⟩ := pm_bd hf
      cases hf
      refine pm_callI (as := [.ref s0, .int x3]) (st := [.ref s2, .int s3, .ref s4]) C X dX1_makeBodies_96 lnX1_46 myX0_init iiX0_init ⟨by decide, by decide⟩ rfl rfl (Nat.le_of_ble_eq_true rfl) (pa_le1 K0 m0 (moX0_init e37) ((mlX1_makeBodies n).2.2.2.2.2 x0 x1 x2 s2 s3 s4 v36 hi)) (pa_le2 K0 m0 (moX0_init e37) ((mlX1_makeBodies n).2.2.2.2.2 x0 x1 x2 s2 s3 s4 v36 hi)) (ctX0_init e37 ?_)
      show pm_G g 99 [(0, .ref x0), (1, .int x1), (2, .int x2), (3, .int x3)] [.ref s2, .int s3, .ref s4] v36 (pm_sz h - pm_sz h0 + (pm_sz v36 - pm_sz h)) (pm_us h - pm_us h0 + (pm_us v36 - pm_us h))
      refine pa_fin K0 m0 (moX0_init e37) ?_
      exact pm_sub [0, 1, 2] rfl (ih.2.2.2.2.2 x0 x1 x2 s2 s3 s4 v36 ((m0.trans (pm_S3.le K0)).trans (moX0_init e37)) hi)
    refine fun x0 x1 x2 s0 s1 s2 h m0 hf => ?_
    have le0 := (mlX1_makeBodies (n + 1)).2.2.2.2.2 x0 x1 x2 s0 s1 s2 h hf
    have kc1 := Nat.sub_le_sub_right le0.1 (pm_sz h0)
    have kc2 := Nat.sub_le_sub_right le0.2 (pm_us h0)
    have K0 := pm_S3.rf h
    obtain ⟨y, hf, hi⟩ := pm_iter_s hf
    have hf : tX1_makeBodies_99 x0 x1 x2 s0 s1 s2 h = some y := hf
    unfold tX1_makeBodies_99 at hf
    obtain ⟨k38, hf⟩ := pm_if hf
    obtain ⟨k39, hf⟩ := pm_if hf
    obtain ⟨u40, hf⟩ := pm_if hf
    refine pm_aast (t := 6) C dX1_makeBodies_99 (by decide) pm_Cl0 rfl k38 k39 u40 ?_
    obtain ⟨y41, e42, hf⟩ := pm_lt hf
    refine pm_iinc (v := y41) (lv' := [(2, .int y41), (0, .ref x0), (1, .int x1)]) C dX1_makeBodies_100 rfl ((congrArg (x2 + ·) (by decide : Int32.ofInt 1 = 1)).trans e42) (pm_nl X (by decide)) rfl ?_
    refine pm_goto (tgt := 31) C dX1_makeBodies_103 (by decide) ?_
    cases hf
    exact pa_join (pm_S3R K0) (pm_sub [1, 2, 0] rfl (ih.2.2.1 x0 x1 y41 (pm_setR h s2 s1.toNatClampNeg (some s0)) (m0.trans (pm_S3.le (pm_S3R K0))) hi))
set_option maxHeartbeats 4000000 in
set_option maxRecDepth 100000 in
theorem ctX1_makeBodies {l : Launch} {G : pm_Gl} {h : pm_H} {a0 : Nat} {r : pm_H} {Qr : Option Value → pm_H → Prop} (hf : fX1_makeBodies h a0 = some r) (q : Qr none r) : pm_Ct l G mX1_makeBodies [.ref a0] h (pm_sz r - pm_sz h) (pm_us r - pm_us h) Qr := by
  refine pm_body pnX1 (Nat.le_of_ble_eq_true rfl) (fun g C X => ?_)
  have C : pm_C g cX1_makeBodies RX1 := C
  show pm_G g 0 [(0, .ref a0)] [] h 0 0
  unfold fX1_makeBodies at hf
  obtain ⟨n, hn⟩ := pm_lim_iter hf
  exact pa_start (pm_sub [0] rfl ((lpX1_makeBodies C X q n).1 a0 h (pm_Le.rf h) hn))
theorem dX1_shapeOfLabel_0 : decode cX1_shapeOfLabel 0 = .ok (.aload_n 0, 1) := by decide +kernel
theorem dX1_shapeOfLabel_1 : decode cX1_shapeOfLabel 1 = .ok (.iload_n 1, 1) := by decide +kernel
theorem dX1_shapeOfLabel_2 : decode cX1_shapeOfLabel 2 = .ok (.iconst 1, 1) := by decide +kernel
theorem dX1_shapeOfLabel_3 : decode cX1_shapeOfLabel 3 = .ok (.invokevirtual 284, 3) := by decide +kernel
theorem dX1_shapeOfLabel_6 : decode cX1_shapeOfLabel 6 = .ok (.istore_n 2, 1) := by decide +kernel
theorem dX1_shapeOfLabel_7 : decode cX1_shapeOfLabel 7 = .ok (.iload_n 2, 1) := by decide +kernel
theorem dX1_shapeOfLabel_8 : decode cX1_shapeOfLabel 8 = .ok (.ifCond .lt 12, 3) := by decide +kernel
theorem dX1_shapeOfLabel_11 : decode cX1_shapeOfLabel 11 = .ok (.aload_n 0, 1) := by decide +kernel
theorem dX1_shapeOfLabel_12 : decode cX1_shapeOfLabel 12 = .ok (.getfield 40, 3) := by decide +kernel
theorem dX1_shapeOfLabel_15 : decode cX1_shapeOfLabel 15 = .ok (.iload_n 2, 1) := by decide +kernel
theorem dX1_shapeOfLabel_16 : decode cX1_shapeOfLabel 16 = .ok (.invokevirtual 287, 3) := by decide +kernel
theorem dX1_shapeOfLabel_19 : decode cX1_shapeOfLabel 19 = .ok (.areturn, 1) := by decide +kernel
theorem dX1_shapeOfLabel_20 : decode cX1_shapeOfLabel 20 = .ok (.iload_n 2, 1) := by decide +kernel
theorem dX1_shapeOfLabel_21 : decode cX1_shapeOfLabel 21 = .ok (.bipush (-128), 2) := by decide +kernel
theorem dX1_shapeOfLabel_23 : decode cX1_shapeOfLabel 23 = .ok (.if_icmp .lt 16, 3) := by decide +kernel
theorem dX1_shapeOfLabel_26 : decode cX1_shapeOfLabel 26 = .ok (.aload_n 0, 1) := by decide +kernel
theorem dX1_shapeOfLabel_27 : decode cX1_shapeOfLabel 27 = .ok (.getfield 33, 3) := by decide +kernel
theorem dX1_shapeOfLabel_30 : decode cX1_shapeOfLabel 30 = .ok (.sipush 128, 3) := by decide +kernel
theorem dX1_shapeOfLabel_33 : decode cX1_shapeOfLabel 33 = .ok (.iload_n 2, 1) := by decide +kernel
theorem dX1_shapeOfLabel_34 : decode cX1_shapeOfLabel 34 = .ok (.iadd, 1) := by decide +kernel
theorem dX1_shapeOfLabel_35 : decode cX1_shapeOfLabel 35 = .ok (.aaload, 1) := by decide +kernel
theorem dX1_shapeOfLabel_36 : decode cX1_shapeOfLabel 36 = .ok (.goto 9, 3) := by decide +kernel
theorem dX1_shapeOfLabel_39 : decode cX1_shapeOfLabel 39 = .ok (.aload_n 0, 1) := by decide +kernel
theorem dX1_shapeOfLabel_40 : decode cX1_shapeOfLabel 40 = .ok (.getfield 33, 3) := by decide +kernel
theorem dX1_shapeOfLabel_43 : decode cX1_shapeOfLabel 43 = .ok (.iconst 0, 1) := by decide +kernel
theorem dX1_shapeOfLabel_44 : decode cX1_shapeOfLabel 44 = .ok (.aaload, 1) := by decide +kernel
theorem dX1_shapeOfLabel_45 : decode cX1_shapeOfLabel 45 = .ok (.areturn, 1) := by decide +kernel
def fX1_shapeOfLabel_b19 (h : pm_H) (s0 : Nat) : Option (Nat × pm_H) := some ((s0, h))
def fX1_shapeOfLabel_b0 (h : pm_H) (x0 : Nat) (x1 : Int32) : Option (Nat × pm_H) := if pm_kd h x0 = 1 then (fX1_label h x0 x1 1).bind fun v2 => if v2 < 0 then (if v2 < (-128) then ((pm_R h x0 16).bind fun v6 => if pm_kd h v6 = 36 then if pm_in 0 (pm_ln h v6) then (pm_R h v6 (0 : Int32).toNatClampNeg).bind fun v10 => some ((v10, h)) else none else none) else ((pm_R h x0 16).bind fun v12 => pm_let (128 + v2) fun y14 => if pm_kd h v12 = 36 then if pm_in y14 (pm_ln h v12) then (pm_R h v12 y14.toNatClampNeg).bind fun v18 => some ((v18, h)) else none else none)) else ((pm_R h x0 2).bind fun v20 => if pm_kd h v20 = 7 then (fX7_shape h v20 v2).bind fun v23 => fX1_shapeOfLabel_b19 v23.2 v23.1 else none) else none
def fX1_shapeOfLabel (h : pm_H) (a0 : Nat) (p1 : Int32) : Option (Nat × pm_H) := fX1_shapeOfLabel_b0 h a0 p1
set_option maxHeartbeats 4000000 in
set_option maxRecDepth 100000 in
theorem moX1_shapeOfLabel_b19 {h : pm_H} {s0 : Nat} {r : (Nat × pm_H)} (hf : fX1_shapeOfLabel_b19 h s0 = some r) : pm_Le h r.2 := by
  unfold fX1_shapeOfLabel_b19 at hf
  have K0 := pm_S3.rf h
  have hf := Option.some.inj hf
  subst hf
  exact pm_S3.le K0
set_option maxHeartbeats 4000000 in
set_option maxRecDepth 100000 in
theorem moX1_shapeOfLabel_b0 {h : pm_H} {x0 : Nat} {x1 : Int32} {r : (Nat × pm_H)} (hf : fX1_shapeOfLabel_b0 h x0 x1 = some r) : pm_Le h r.2 := by
  unfold fX1_shapeOfLabel_b0 at hf
  have K0 := pm_S3.rf h
  obtain ⟨k1, hf⟩ := pm_if hf
  obtain ⟨v2, e3, hf⟩ := pm_bd hf
  by_cases c4 : v2 < 0
  · have hf := pm_it hf c4
    by_cases c5 : v2 < (-128)
    · have hf := pm_it hf c5
      obtain ⟨v6, e7, hf⟩ := pm_bd hf
      obtain ⟨k8, hf⟩ := pm_if hf
      obtain ⟨u9, hf⟩ := pm_if hf
      obtain ⟨v10, e11, hf⟩ := pm_bd hf
      have hf := Option.some.inj hf
      subst hf
      exact pm_S3.le K0
    · have hf := pm_ie hf c5
      obtain ⟨v12, e13, hf⟩ := pm_bd hf
      obtain ⟨y14, e15, hf⟩ := pm_lt hf
      obtain ⟨k16, hf⟩ := pm_if hf
      obtain ⟨u17, hf⟩ := pm_if hf
      obtain ⟨v18, e19, hf⟩ := pm_bd hf
      have hf := Option.some.inj hf
      subst hf
      exact pm_S3.le K0
  · have hf := pm_ie hf c4
    obtain ⟨v20, e21, hf⟩ := pm_bd hf
    obtain ⟨k22, hf⟩ := pm_if hf
    obtain ⟨v23, e24, hf⟩ := pm_bd hf
    exact ((pm_S3.le K0).trans (moX7_shape e24)).trans (moX1_shapeOfLabel_b19 hf)
set_option maxHeartbeats 4000000 in
set_option maxRecDepth 100000 in
theorem moX1_shapeOfLabel {h : pm_H} {a0 : Nat} {p1 : Int32} {r : (Nat × pm_H)} (hf : fX1_shapeOfLabel h a0 p1 = some r) : pm_Le h r.2 := by
  unfold fX1_shapeOfLabel at hf
  have K0 := pm_S3.rf h
  exact (pm_S3.le K0).trans (moX1_shapeOfLabel_b0 hf)
set_option maxHeartbeats 4000000 in
set_option maxRecDepth 100000 in
theorem bX1_shapeOfLabel_19 {g : pm_Gm} {l : Launch} {G : pm_Gl} {Qr : Option Value → pm_H → Prop} (C : pm_C g cX1_shapeOfLabel RX1) {h0 h : pm_H} {s0 : Nat} {r : (Nat × pm_H)} (X : pm_X g l G mX1_shapeOfLabel (pm_sz r.2 - pm_sz h0) (pm_us r.2 - pm_us h0) Qr) (m0 : pm_Le h0 h) (hf : fX1_shapeOfLabel_b19 h s0 = some r) (q : Qr (some (.ref r.1)) r.2) : pm_G g 19 [] [.ref s0] h (pm_sz h - pm_sz h0) (pm_us h - pm_us h0) := by
  have le0 := moX1_shapeOfLabel_b19 hf
  have kc1 := Nat.sub_le_sub_right le0.1 (pm_sz h0)
  have kc2 := Nat.sub_le_sub_right le0.2 (pm_us h0)
  have K0 := pm_S3.rf h
  unfold fX1_shapeOfLabel_b19 at hf
  have hf := Option.some.inj hf
  subst hf
  exact pm_aret C X dX1_shapeOfLabel_19 rfl (Or.inr ⟨_, rfl⟩) kc1 kc2 q
set_option maxHeartbeats 4000000 in
set_option maxRecDepth 100000 in
theorem bX1_shapeOfLabel_0 {g : pm_Gm} {l : Launch} {G : pm_Gl} {Qr : Option Value → pm_H → Prop} (C : pm_C g cX1_shapeOfLabel RX1) {h0 h : pm_H} {x0 : Nat} {x1 : Int32} {r : (Nat × pm_H)} (X : pm_X g l G mX1_shapeOfLabel (pm_sz r.2 - pm_sz h0) (pm_us r.2 - pm_us h0) Qr) (m0 : pm_Le h0 h) (hf : fX1_shapeOfLabel_b0 h x0 x1 = some r) (q : Qr (some (.ref r.1)) r.2) : pm_G g 0 [(0, .ref x0), (1, .int x1)] [] h (pm_sz h - pm_sz h0) (pm_us h - pm_us h0) := by
  have le0 := moX1_shapeOfLabel_b0 hf
  have kc1 := Nat.sub_le_sub_right le0.1 (pm_sz h0)
  have kc2 := Nat.sub_le_sub_right le0.2 (pm_us h0)
  have K0 := pm_S3.rf h
  unfold fX1_shapeOfLabel_b0 at hf
  refine pm_aload_n C dX1_shapeOfLabel_0 rfl rfl ?_
  refine pm_iload_n C dX1_shapeOfLabel_1 rfl rfl ?_
  refine pm_iconst (v := 1) C dX1_shapeOfLabel_2 (by decide) ?_
  obtain ⟨k1, hf⟩ := pm_if hf
  obtain ⟨v2, e3, hf⟩ := pm_bd hf
  refine pm_callV (as := [.int x1, .int 1]) (st := []) C X dX1_shapeOfLabel_3 lnX1_284 myX1_label viX1_label ⟨by decide, by decide⟩ rfl rfl k1 (Nat.le_of_ble_eq_true rfl) kc1 kc2 (ctX1_label e3 ?_)
  show pm_G g 6 [(0, .ref x0), (1, .int x1)] [.int v2] h (pm_sz h - pm_sz h0) (pm_us h - pm_us h0)
  refine pm_istore_n (lv' := [(2, .int v2), (0, .ref x0), (1, .int x1)]) C dX1_shapeOfLabel_6 rfl (pm_nl X (by decide)) rfl ?_
  refine pm_iload_n C dX1_shapeOfLabel_7 rfl rfl ?_
  refine pm_if_lt (tgt := 20) C dX1_shapeOfLabel_8 (by decide) (fun c4 => ?_) (fun c4 => ?_)
  · have hf := pm_it hf c4
    refine pm_iload_n C dX1_shapeOfLabel_20 rfl rfl ?_
    refine pm_bipush (v := (-128)) C dX1_shapeOfLabel_21 (by decide) ?_
    refine pm_icmp_lt (tgt := 39) C dX1_shapeOfLabel_23 (by decide) (fun c5 => ?_) (fun c5 => ?_)
    · have hf := pm_it hf c5
      refine pm_aload_n C dX1_shapeOfLabel_39 rfl rfl ?_
      obtain ⟨v6, e7, hf⟩ := pm_bd hf
      refine pm_getR C dX1_shapeOfLabel_40 flX1_33 rfl k1 e7 ?_
      refine pm_iconst (v := 0) C dX1_shapeOfLabel_43 (by decide) ?_
      obtain ⟨k8, hf⟩ := pm_if hf
      obtain ⟨u9, hf⟩ := pm_if hf
      obtain ⟨v10, e11, hf⟩ := pm_bd hf
      refine pm_ald (t := 4) C dX1_shapeOfLabel_44 (by decide) rfl k8 u9 e11 ?_
      have hf := Option.some.inj hf
      subst hf
      exact pm_aret C X dX1_shapeOfLabel_45 rfl (Or.inr ⟨_, rfl⟩) kc1 kc2 q
    · have hf := pm_ie hf c5
      refine pm_aload_n C dX1_shapeOfLabel_26 rfl rfl ?_
      obtain ⟨v12, e13, hf⟩ := pm_bd hf
      refine pm_getR C dX1_shapeOfLabel_27 flX1_33 rfl k1 e13 ?_
      refine pm_sipush (v := 128) C dX1_shapeOfLabel_30 (by decide) ?_
      refine pm_iload_n C dX1_shapeOfLabel_33 rfl rfl ?_
      refine pm_iadd C dX1_shapeOfLabel_34 ?_
      obtain ⟨y14, e15, hf⟩ := pm_lt hf
      refine pm_topI e15 ?_
      obtain ⟨k16, hf⟩ := pm_if hf
      obtain ⟨u17, hf⟩ := pm_if hf
      obtain ⟨v18, e19, hf⟩ := pm_bd hf
      refine pm_ald (t := 4) C dX1_shapeOfLabel_35 (by decide) rfl k16 u17 e19 ?_
      refine pm_goto (tgt := 45) C dX1_shapeOfLabel_36 (by decide) ?_
      have hf := Option.some.inj hf
      subst hf
      exact pm_aret C X dX1_shapeOfLabel_45 rfl (Or.inr ⟨_, rfl⟩) kc1 kc2 q
  · have hf := pm_ie hf c4
    refine pm_aload_n C dX1_shapeOfLabel_11 rfl rfl ?_
    obtain ⟨v20, e21, hf⟩ := pm_bd hf
    refine pm_getR C dX1_shapeOfLabel_12 flX1_40 rfl k1 e21 ?_
    refine pm_iload_n C dX1_shapeOfLabel_15 rfl rfl ?_
    obtain ⟨k22, hf⟩ := pm_if hf
    obtain ⟨v23, e24, hf⟩ := pm_bd hf
    refine pm_callV (as := [.int v2]) (st := []) C X dX1_shapeOfLabel_16 lnX1_287 myX7_shape viX7_shape ⟨by decide, by decide⟩ rfl rfl k22 (Nat.le_of_ble_eq_true rfl) (pa_le1 K0 m0 (moX7_shape e24) (moX1_shapeOfLabel_b19 hf)) (pa_le2 K0 m0 (moX7_shape e24) (moX1_shapeOfLabel_b19 hf)) (ctX7_shape e24 ?_)
    show pm_G g 19 [(2, .int v2), (0, .ref x0), (1, .int x1)] [.ref v23.1] v23.2 (pm_sz h - pm_sz h0 + (pm_sz v23.2 - pm_sz h)) (pm_us h - pm_us h0 + (pm_us v23.2 - pm_us h))
    refine pa_fin K0 m0 (moX7_shape e24) ?_
    exact pm_sub [] rfl (bX1_shapeOfLabel_19 C X ((m0.trans (pm_S3.le K0)).trans (moX7_shape e24)) hf q)
set_option maxHeartbeats 4000000 in
set_option maxRecDepth 100000 in
theorem ctX1_shapeOfLabel {l : Launch} {G : pm_Gl} {h : pm_H} {a0 : Nat} {p1 : Int32} {r : (Nat × pm_H)} {Qr : Option Value → pm_H → Prop} (hf : fX1_shapeOfLabel h a0 p1 = some r) (q : Qr (some (.ref r.1)) r.2) : pm_Ct l G mX1_shapeOfLabel [.ref a0, .int p1] h (pm_sz r.2 - pm_sz h) (pm_us r.2 - pm_us h) Qr := by
  refine pm_body pnX1 (Nat.le_of_ble_eq_true rfl) (fun g C X => ?_)
  have C : pm_C g cX1_shapeOfLabel RX1 := C
  show pm_G g 0 [(0, .ref a0), (1, .int p1)] [] h 0 0
  unfold fX1_shapeOfLabel at hf
  exact pa_start (pm_sub [0, 1] rfl (bX1_shapeOfLabel_0 C X (pm_Le.rf h) hf q))
theorem dX1_startIsRight_0 : decode cX1_startIsRight 0 = .ok (.aload_n 0, 1) := by decide +kernel
theorem dX1_startIsRight_1 : decode cX1_startIsRight 1 = .ok (.getfield 40, 3) := by decide +kernel
theorem dX1_startIsRight_4 : decode cX1_startIsRight 4 = .ok (.getfield 102, 3) := by decide +kernel
theorem dX1_startIsRight_7 : decode cX1_startIsRight 7 = .ok (.bipush 8, 2) := by decide +kernel
theorem dX1_startIsRight_9 : decode cX1_startIsRight 9 = .ok (.invokestatic 105, 3) := by decide +kernel
theorem dX1_startIsRight_12 : decode cX1_startIsRight 12 = .ok (.ifCond .ge 4, 3) := by decide +kernel
theorem dX1_startIsRight_15 : decode cX1_startIsRight 15 = .ok (.return_, 1) := by decide +kernel
theorem dX1_startIsRight_16 : decode cX1_startIsRight 16 = .ok (.aload_n 0, 1) := by decide +kernel
theorem dX1_startIsRight_17 : decode cX1_startIsRight 17 = .ok (.getfield 40, 3) := by decide +kernel
theorem dX1_startIsRight_20 : decode cX1_startIsRight 20 = .ok (.iconst 0, 1) := by decide +kernel
theorem dX1_startIsRight_21 : decode cX1_startIsRight 21 = .ok (.aload_n 0, 1) := by decide +kernel
theorem dX1_startIsRight_22 : decode cX1_startIsRight 22 = .ok (.getfield 40, 3) := by decide +kernel
theorem dX1_startIsRight_25 : decode cX1_startIsRight 25 = .ok (.getfield 162, 3) := by decide +kernel
theorem dX1_startIsRight_28 : decode cX1_startIsRight 28 = .ok (.invokevirtual 146, 3) := by decide +kernel
theorem dX1_startIsRight_31 : decode cX1_startIsRight 31 = .ok (.ifCond .ne 12, 3) := by decide +kernel
theorem dX1_startIsRight_34 : decode cX1_startIsRight 34 = .ok (.aload_n 0, 1) := by decide +kernel
theorem dX1_startIsRight_35 : decode cX1_startIsRight 35 = .ok (.bipush 25, 2) := by decide +kernel
theorem dX1_startIsRight_37 : decode cX1_startIsRight 37 = .ok (.bipush 8, 2) := by decide +kernel
theorem dX1_startIsRight_39 : decode cX1_startIsRight 39 = .ok (.invokevirtual 119, 3) := by decide +kernel
theorem dX1_startIsRight_42 : decode cX1_startIsRight 42 = .ok (.return_, 1) := by decide +kernel
theorem dX1_startIsRight_43 : decode cX1_startIsRight 43 = .ok (.aload_n 0, 1) := by decide +kernel
theorem dX1_startIsRight_44 : decode cX1_startIsRight 44 = .ok (.getfield 40, 3) := by decide +kernel
theorem dX1_startIsRight_47 : decode cX1_startIsRight 47 = .ok (.aload_n 0, 1) := by decide +kernel
theorem dX1_startIsRight_48 : decode cX1_startIsRight 48 = .ok (.getfield 40, 3) := by decide +kernel
theorem dX1_startIsRight_51 : decode cX1_startIsRight 51 = .ok (.getfield 162, 3) := by decide +kernel
theorem dX1_startIsRight_54 : decode cX1_startIsRight 54 = .ok (.l2i, 1) := by decide +kernel
theorem dX1_startIsRight_55 : decode cX1_startIsRight 55 = .ok (.invokevirtual 166, 3) := by decide +kernel
theorem dX1_startIsRight_58 : decode cX1_startIsRight 58 = .ok (.astore_n 1, 1) := by decide +kernel
theorem dX1_startIsRight_59 : decode cX1_startIsRight 59 = .ok (.aload_n 1, 1) := by decide +kernel
theorem dX1_startIsRight_60 : decode cX1_startIsRight 60 = .ok (.iconst 0, 1) := by decide +kernel
theorem dX1_startIsRight_61 : decode cX1_startIsRight 61 = .ok (.invokestatic 105, 3) := by decide +kernel
theorem dX1_startIsRight_64 : decode cX1_startIsRight 64 = .ok (.ifCond .ne 11, 3) := by decide +kernel
theorem dX1_startIsRight_67 : decode cX1_startIsRight 67 = .ok (.aload_n 1, 1) := by decide +kernel
theorem dX1_startIsRight_68 : decode cX1_startIsRight 68 = .ok (.iconst 1, 1) := by decide +kernel
theorem dX1_startIsRight_69 : decode cX1_startIsRight 69 = .ok (.invokestatic 105, 3) := by decide +kernel
theorem dX1_startIsRight_72 : decode cX1_startIsRight 72 = .ok (.ifCond .eq 11, 3) := by decide +kernel
theorem dX1_startIsRight_75 : decode cX1_startIsRight 75 = .ok (.aload_n 0, 1) := by decide +kernel
theorem dX1_startIsRight_76 : decode cX1_startIsRight 76 = .ok (.bipush 25, 2) := by decide +kernel
theorem dX1_startIsRight_78 : decode cX1_startIsRight 78 = .ok (.bipush 8, 2) := by decide +kernel
theorem dX1_startIsRight_80 : decode cX1_startIsRight 80 = .ok (.invokevirtual 119, 3) := by decide +kernel
theorem dX1_startIsRight_83 : decode cX1_startIsRight 83 = .ok (.return_, 1) := by decide +kernel
def fX1_startIsRight_b58 (h : pm_H) (x0 : Nat) (s0 : Nat) : Option pm_H := (fX12_item h s0 0).bind fun v18 => if v18 = 0 then ((fX12_item h s0 1).bind fun v25 => if v25 = 0 then (some h) else (if pm_kd h x0 = 1 then (fX1_failSection h x0 25 8).bind fun v29 => some v29 else none)) else (if pm_kd h x0 = 1 then (fX1_failSection h x0 25 8).bind fun v22 => some v22 else none)
def fX1_startIsRight_b0 (h : pm_H) (x0 : Nat) : Option pm_H := if pm_kd h x0 = 1 then (pm_R h x0 2).bind fun v2 => if pm_kd h v2 = 7 then (pm_R h v2 1).bind fun v5 => (fX12_item h v5 8).bind fun v7 => if 0 ≤ v7 then ((fX7_has h v2 0 (pm_L h v2 13)).bind fun v10 => if v10 = 0 then ((fX1_failSection h x0 25 8).bind fun v15 => some v15) else ((fX7_shapeOfFunction h v2 ((pm_L h v2 13).toInt32)).bind fun v13 => fX1_startIsRight_b58 v13.2 x0 v13.1)) else (some h) else none else none
def fX1_startIsRight (h : pm_H) (a0 : Nat) : Option pm_H := fX1_startIsRight_b0 h a0
set_option maxHeartbeats 4000000 in
set_option maxRecDepth 100000 in
theorem moX1_startIsRight_b58 {h : pm_H} {x0 : Nat} {s0 : Nat} {r : pm_H} (hf : fX1_startIsRight_b58 h x0 s0 = some r) : pm_Le h r := by
  unfold fX1_startIsRight_b58 at hf
  have K0 := pm_S3.rf h
  obtain ⟨v18, e19, hf⟩ := pm_bd hf
  by_cases c20 : v18 = 0
  · have hf := pm_it hf c20
    obtain ⟨v21, e22, hf⟩ := pm_bd hf
    by_cases c23 : v21 = 0
    · have hf := pm_it hf c23
      have hf := Option.some.inj hf
      subst hf
      exact pm_S3.le K0
    · have hf := pm_ie hf c23
      obtain ⟨k24, hf⟩ := pm_if hf
      obtain ⟨v25, e26, hf⟩ := pm_bd hf
      have K27 := pm_S3.trans (kpX1_failSection e26) K0
      have hf := Option.some.inj hf
      subst hf
      exact pm_S3.le K27
  · have hf := pm_ie hf c20
    obtain ⟨k28, hf⟩ := pm_if hf
    obtain ⟨v29, e30, hf⟩ := pm_bd hf
    have K31 := pm_S3.trans (kpX1_failSection e30) K0
    have hf := Option.some.inj hf
    subst hf
    exact pm_S3.le K31
set_option maxHeartbeats 4000000 in
set_option maxRecDepth 100000 in
theorem moX1_startIsRight_b0 {h : pm_H} {x0 : Nat} {r : pm_H} (hf : fX1_startIsRight_b0 h x0 = some r) : pm_Le h r := by
  unfold fX1_startIsRight_b0 at hf
  have K0 := pm_S3.rf h
  obtain ⟨k1, hf⟩ := pm_if hf
  obtain ⟨v2, e3, hf⟩ := pm_bd hf
  obtain ⟨k4, hf⟩ := pm_if hf
  obtain ⟨v5, e6, hf⟩ := pm_bd hf
  obtain ⟨v7, e8, hf⟩ := pm_bd hf
  by_cases c9 : 0 ≤ v7
  · have hf := pm_it hf c9
    obtain ⟨v10, e11, hf⟩ := pm_bd hf
    by_cases c12 : v10 = 0
    · have hf := pm_it hf c12
      obtain ⟨v13, e14, hf⟩ := pm_bd hf
      have K15 := pm_S3.trans (kpX1_failSection e14) K0
      have hf := Option.some.inj hf
      subst hf
      exact pm_S3.le K15
    · have hf := pm_ie hf c12
      obtain ⟨v16, e17, hf⟩ := pm_bd hf
      exact ((pm_S3.le K0).trans (moX7_shapeOfFunction e17)).trans (moX1_startIsRight_b58 hf)
  · have hf := pm_ie hf c9
    have hf := Option.some.inj hf
    subst hf
    exact pm_S3.le K0
set_option maxHeartbeats 4000000 in
set_option maxRecDepth 100000 in
theorem moX1_startIsRight {h : pm_H} {a0 : Nat} {r : pm_H} (hf : fX1_startIsRight h a0 = some r) : pm_Le h r := by
  unfold fX1_startIsRight at hf
  have K0 := pm_S3.rf h
  exact (pm_S3.le K0).trans (moX1_startIsRight_b0 hf)
set_option maxHeartbeats 4000000 in
set_option maxRecDepth 100000 in
theorem bX1_startIsRight_58 {g : pm_Gm} {l : Launch} {G : pm_Gl} {Qr : Option Value → pm_H → Prop} (C : pm_C g cX1_startIsRight RX1) {h0 h : pm_H} {x0 : Nat} {s0 : Nat} {r : pm_H} (X : pm_X g l G mX1_startIsRight (pm_sz r - pm_sz h0) (pm_us r - pm_us h0) Qr) (m0 : pm_Le h0 h) (hf : fX1_startIsRight_b58 h x0 s0 = some r) (q : Qr none r) : pm_G g 58 [(0, .ref x0)] [.ref s0] h (pm_sz h - pm_sz h0) (pm_us h - pm_us h0) := by
  have le0 := moX1_startIsRight_b58 hf
  have kc1 := Nat.sub_le_sub_right le0.1 (pm_sz h0)
  have kc2 := Nat.sub_le_sub_right le0.2 (pm_us h0)
  have K0 := pm_S3.rf h
  unfold fX1_startIsRight_b58 at hf
  refine pm_astore_n (lv' := [(1, .ref s0), (0, .ref x0)]) C dX1_startIsRight_58 rfl (pm_nl X (by decide)) rfl ?_
  refine pm_aload_n C dX1_startIsRight_59 rfl rfl ?_
  refine pm_iconst (v := 0) C dX1_startIsRight_60 (by decide) ?_
  obtain ⟨v18, e19, hf⟩ := pm_bd hf
  refine pm_callS (as := [.ref s0, .int 0]) (st := []) C X dX1_startIsRight_61 lnX1_105 myX12_item stX12_item ⟨by decide, by decide⟩ rfl rfl (Nat.le_of_ble_eq_true rfl) kc1 kc2 (ctX12_item e19 ?_)
  show pm_G g 64 [(1, .ref s0), (0, .ref x0)] [.int v18] h (pm_sz h - pm_sz h0) (pm_us h - pm_us h0)
  refine pm_if_ne (tgt := 75) C dX1_startIsRight_64 (by decide) (fun c20 => ?_) (fun c20 => ?_)
  · have hf := pm_ie hf c20
    refine pm_aload_n C dX1_startIsRight_75 rfl rfl ?_
    refine pm_bipush (v := 25) C dX1_startIsRight_76 (by decide) ?_
    refine pm_bipush (v := 8) C dX1_startIsRight_78 (by decide) ?_
    obtain ⟨k21, hf⟩ := pm_if hf
    obtain ⟨v22, e23, hf⟩ := pm_bd hf
    refine pm_callV (as := [.int 25, .int 8]) (st := []) C X dX1_startIsRight_80 lnX1_119 myX1_failSection viX1_failSection ⟨by decide, by decide⟩ rfl rfl k21 (Nat.le_of_ble_eq_true rfl) kc1 kc2 (ctX1_failSection e23 ?_)
    have K24 := pm_S3.trans (kpX1_failSection e23) K0
    show pm_G g 83 [(1, .ref s0), (0, .ref x0)] [] v22 (pm_sz h - pm_sz h0) (pm_us h - pm_us h0)
    have hf := Option.some.inj hf
    subst hf
    exact pm_vret C X dX1_startIsRight_83 rfl kc1 kc2 q
  · have hf := pm_it hf c20
    refine pm_aload_n C dX1_startIsRight_67 rfl rfl ?_
    refine pm_iconst (v := 1) C dX1_startIsRight_68 (by decide) ?_
    obtain ⟨v25, e26, hf⟩ := pm_bd hf
    refine pm_callS (as := [.ref s0, .int 1]) (st := []) C X dX1_startIsRight_69 lnX1_105 myX12_item stX12_item ⟨by decide, by decide⟩ rfl rfl (Nat.le_of_ble_eq_true rfl) kc1 kc2 (ctX12_item e26 ?_)
    show pm_G g 72 [(1, .ref s0), (0, .ref x0)] [.int v25] h (pm_sz h - pm_sz h0) (pm_us h - pm_us h0)
    refine pm_if_eq (tgt := 83) C dX1_startIsRight_72 (by decide) (fun c27 => ?_) (fun c27 => ?_)
    · have hf := pm_it hf c27
      have hf := Option.some.inj hf
      subst hf
      exact pm_vret C X dX1_startIsRight_83 rfl kc1 kc2 q
    · have hf := pm_ie hf c27
      refine pm_aload_n C dX1_startIsRight_75 rfl rfl ?_
      refine pm_bipush (v := 25) C dX1_startIsRight_76 (by decide) ?_
      refine pm_bipush (v := 8) C dX1_startIsRight_78 (by decide) ?_
      obtain ⟨k28, hf⟩ := pm_if hf
      obtain ⟨v29, e30, hf⟩ := pm_bd hf
      refine pm_callV (as := [.int 25, .int 8]) (st := []) C X dX1_startIsRight_80 lnX1_119 myX1_failSection viX1_failSection ⟨by decide, by decide⟩ rfl rfl k28 (Nat.le_of_ble_eq_true rfl) kc1 kc2 (ctX1_failSection e30 ?_)
      have K31 := pm_S3.trans (kpX1_failSection e30) K0
      show pm_G g 83 [(1, .ref s0), (0, .ref x0)] [] v29 (pm_sz h - pm_sz h0) (pm_us h - pm_us h0)
      have hf := Option.some.inj hf
      subst hf
      exact pm_vret C X dX1_startIsRight_83 rfl kc1 kc2 q
set_option maxHeartbeats 4000000 in
set_option maxRecDepth 100000 in
theorem bX1_startIsRight_0 {g : pm_Gm} {l : Launch} {G : pm_Gl} {Qr : Option Value → pm_H → Prop} (C : pm_C g cX1_startIsRight RX1) {h0 h : pm_H} {x0 : Nat} {r : pm_H} (X : pm_X g l G mX1_startIsRight (pm_sz r - pm_sz h0) (pm_us r - pm_us h0) Qr) (m0 : pm_Le h0 h) (hf : fX1_startIsRight_b0 h x0 = some r) (q : Qr none r) : pm_G g 0 [(0, .ref x0)] [] h (pm_sz h - pm_sz h0) (pm_us h - pm_us h0) := by
  have le0 := moX1_startIsRight_b0 hf
  have kc1 := Nat.sub_le_sub_right le0.1 (pm_sz h0)
  have kc2 := Nat.sub_le_sub_right le0.2 (pm_us h0)
  have K0 := pm_S3.rf h
  unfold fX1_startIsRight_b0 at hf
  refine pm_aload_n C dX1_startIsRight_0 rfl rfl ?_
  obtain ⟨k1, hf⟩ := pm_if hf
  obtain ⟨v2, e3, hf⟩ := pm_bd hf
  refine pm_getR C dX1_startIsRight_1 flX1_40 rfl k1 e3 ?_
  obtain ⟨k4, hf⟩ := pm_if hf
  obtain ⟨v5, e6, hf⟩ := pm_bd hf
  refine pm_getR C dX1_startIsRight_4 flX1_102 rfl k4 e6 ?_
  refine pm_bipush (v := 8) C dX1_startIsRight_7 (by decide) ?_
  obtain ⟨v7, e8, hf⟩ := pm_bd hf
  refine pm_callS (as := [.ref v5, .int 8]) (st := []) C X dX1_startIsRight_9 lnX1_105 myX12_item stX12_item ⟨by decide, by decide⟩ rfl rfl (Nat.le_of_ble_eq_true rfl) kc1 kc2 (ctX12_item e8 ?_)
  show pm_G g 12 [(0, .ref x0)] [.int v7] h (pm_sz h - pm_sz h0) (pm_us h - pm_us h0)
  refine pm_if_ge (tgt := 16) C dX1_startIsRight_12 (by decide) (fun c9 => ?_) (fun c9 => ?_)
  · have hf := pm_it hf c9
    refine pm_aload_n C dX1_startIsRight_16 rfl rfl ?_
    refine pm_getR C dX1_startIsRight_17 flX1_40 rfl k1 e3 ?_
    refine pm_iconst (v := 0) C dX1_startIsRight_20 (by decide) ?_
    refine pm_aload_n C dX1_startIsRight_21 rfl rfl ?_
    refine pm_getR C dX1_startIsRight_22 flX1_40 rfl k1 e3 ?_
    refine pm_getL C dX1_startIsRight_25 flX1_162 rfl k4 rfl ?_
    obtain ⟨v10, e11, hf⟩ := pm_bd hf
    refine pm_callV (as := [.int 0, .long (pm_L h v2 13)]) (st := []) C X dX1_startIsRight_28 lnX1_146 myX7_has viX7_has ⟨by decide, by decide⟩ rfl rfl k4 (Nat.le_of_ble_eq_true rfl) kc1 kc2 (ctX7_has e11 ?_)
    show pm_G g 31 [(0, .ref x0)] [.int v10] h (pm_sz h - pm_sz h0) (pm_us h - pm_us h0)
    refine pm_if_ne (tgt := 43) C dX1_startIsRight_31 (by decide) (fun c12 => ?_) (fun c12 => ?_)
    · have hf := pm_ie hf c12
      refine pm_aload_n C dX1_startIsRight_43 rfl rfl ?_
      refine pm_getR C dX1_startIsRight_44 flX1_40 rfl k1 e3 ?_
      refine pm_aload_n C dX1_startIsRight_47 rfl rfl ?_
      refine pm_getR C dX1_startIsRight_48 flX1_40 rfl k1 e3 ?_
      refine pm_getL C dX1_startIsRight_51 flX1_162 rfl k4 rfl ?_
      refine pm_l2i C dX1_startIsRight_54 ?_
      obtain ⟨v13, e14, hf⟩ := pm_bd hf
      refine pm_callV (as := [.int ((pm_L h v2 13).toInt32)]) (st := []) C X dX1_startIsRight_55 lnX1_166 myX7_shapeOfFunction viX7_shapeOfFunction ⟨by decide, by decide⟩ rfl rfl k4 (Nat.le_of_ble_eq_true rfl) (pa_le1 K0 m0 (moX7_shapeOfFunction e14) (moX1_startIsRight_b58 hf)) (pa_le2 K0 m0 (moX7_shapeOfFunction e14) (moX1_startIsRight_b58 hf)) (ctX7_shapeOfFunction e14 ?_)
      show pm_G g 58 [(0, .ref x0)] [.ref v13.1] v13.2 (pm_sz h - pm_sz h0 + (pm_sz v13.2 - pm_sz h)) (pm_us h - pm_us h0 + (pm_us v13.2 - pm_us h))
      refine pa_fin K0 m0 (moX7_shapeOfFunction e14) ?_
      exact pm_sub [0] rfl (bX1_startIsRight_58 C X ((m0.trans (pm_S3.le K0)).trans (moX7_shapeOfFunction e14)) hf q)
    · have hf := pm_it hf c12
      refine pm_aload_n C dX1_startIsRight_34 rfl rfl ?_
      refine pm_bipush (v := 25) C dX1_startIsRight_35 (by decide) ?_
      refine pm_bipush (v := 8) C dX1_startIsRight_37 (by decide) ?_
      obtain ⟨v15, e16, hf⟩ := pm_bd hf
      refine pm_callV (as := [.int 25, .int 8]) (st := []) C X dX1_startIsRight_39 lnX1_119 myX1_failSection viX1_failSection ⟨by decide, by decide⟩ rfl rfl k1 (Nat.le_of_ble_eq_true rfl) kc1 kc2 (ctX1_failSection e16 ?_)
      have K17 := pm_S3.trans (kpX1_failSection e16) K0
      show pm_G g 42 [(0, .ref x0)] [] v15 (pm_sz h - pm_sz h0) (pm_us h - pm_us h0)
      have hf := Option.some.inj hf
      subst hf
      exact pm_vret C X dX1_startIsRight_42 rfl kc1 kc2 q
  · have hf := pm_ie hf c9
    have hf := Option.some.inj hf
    subst hf
    exact pm_vret C X dX1_startIsRight_15 rfl kc1 kc2 q
set_option maxHeartbeats 4000000 in
set_option maxRecDepth 100000 in
theorem ctX1_startIsRight {l : Launch} {G : pm_Gl} {h : pm_H} {a0 : Nat} {r : pm_H} {Qr : Option Value → pm_H → Prop} (hf : fX1_startIsRight h a0 = some r) (q : Qr none r) : pm_Ct l G mX1_startIsRight [.ref a0] h (pm_sz r - pm_sz h) (pm_us r - pm_us h) Qr := by
  refine pm_body pnX1 (Nat.le_of_ble_eq_true rfl) (fun g C X => ?_)
  have C : pm_C g cX1_startIsRight RX1 := C
  show pm_G g 0 [(0, .ref a0)] [] h 0 0
  unfold fX1_startIsRight at hf
  exact pa_start (pm_sub [0] rfl (bX1_startIsRight_0 C X (pm_Le.rf h) hf q))
