theorem dX1_endBlock_0 : decode cX1_endBlock 0 = .ok (.aload_n 0, 1) := by decide +kernel
theorem dX1_endBlock_1 : decode cX1_endBlock 1 = .ok (.getfield 220, 3) := by decide +kernel
theorem dX1_endBlock_4 : decode cX1_endBlock 4 = .ok (.iconst 1, 1) := by decide +kernel
theorem dX1_endBlock_5 : decode cX1_endBlock 5 = .ok (.isub, 1) := by decide +kernel
theorem dX1_endBlock_6 : decode cX1_endBlock 6 = .ok (.istore_n 1, 1) := by decide +kernel
theorem dX1_endBlock_7 : decode cX1_endBlock 7 = .ok (.aload_n 0, 1) := by decide +kernel
theorem dX1_endBlock_8 : decode cX1_endBlock 8 = .ok (.iload_n 1, 1) := by decide +kernel
theorem dX1_endBlock_9 : decode cX1_endBlock 9 = .ok (.invokevirtual 301, 3) := by decide +kernel
theorem dX1_endBlock_12 : decode cX1_endBlock 12 = .ok (.astore_n 2, 1) := by decide +kernel
theorem dX1_endBlock_13 : decode cX1_endBlock 13 = .ok (.aload_n 0, 1) := by decide +kernel
theorem dX1_endBlock_14 : decode cX1_endBlock 14 = .ok (.iload_n 1, 1) := by decide +kernel
theorem dX1_endBlock_15 : decode cX1_endBlock 15 = .ok (.invokevirtual 397, 3) := by decide +kernel
theorem dX1_endBlock_18 : decode cX1_endBlock 18 = .ok (.aload_n 0, 1) := by decide +kernel
theorem dX1_endBlock_19 : decode cX1_endBlock 19 = .ok (.iload_n 1, 1) := by decide +kernel
theorem dX1_endBlock_20 : decode cX1_endBlock 20 = .ok (.iconst 0, 1) := by decide +kernel
theorem dX1_endBlock_21 : decode cX1_endBlock 21 = .ok (.invokevirtual 284, 3) := by decide +kernel
theorem dX1_endBlock_24 : decode cX1_endBlock 24 = .ok (.iconst 4, 1) := by decide +kernel
theorem dX1_endBlock_25 : decode cX1_endBlock 25 = .ok (.if_icmp .ne 16, 3) := by decide +kernel
theorem dX1_endBlock_28 : decode cX1_endBlock 28 = .ok (.aload_n 2, 1) := by decide +kernel
theorem dX1_endBlock_29 : decode cX1_endBlock 29 = .ok (.invokestatic 406, 3) := by decide +kernel
theorem dX1_endBlock_32 : decode cX1_endBlock 32 = .ok (.ifCond .ne 9, 3) := by decide +kernel
theorem dX1_endBlock_35 : decode cX1_endBlock 35 = .ok (.aload_n 0, 1) := by decide +kernel
theorem dX1_endBlock_36 : decode cX1_endBlock 36 = .ok (.bipush 29, 2) := by decide +kernel
theorem dX1_endBlock_38 : decode cX1_endBlock 38 = .ok (.invokevirtual 198, 3) := by decide +kernel
theorem dX1_endBlock_41 : decode cX1_endBlock 41 = .ok (.aload_n 0, 1) := by decide +kernel
theorem dX1_endBlock_42 : decode cX1_endBlock 42 = .ok (.getfield 53, 3) := by decide +kernel
theorem dX1_endBlock_45 : decode cX1_endBlock 45 = .ok (.ifCond .eq 4, 3) := by decide +kernel
theorem dX1_endBlock_48 : decode cX1_endBlock 48 = .ok (.return_, 1) := by decide +kernel
theorem dX1_endBlock_49 : decode cX1_endBlock 49 = .ok (.aload_n 0, 1) := by decide +kernel
theorem dX1_endBlock_50 : decode cX1_endBlock 50 = .ok (.iload_n 1, 1) := by decide +kernel
theorem dX1_endBlock_51 : decode cX1_endBlock 51 = .ok (.invokevirtual 400, 3) := by decide +kernel
theorem dX1_endBlock_54 : decode cX1_endBlock 54 = .ok (.aload_n 0, 1) := by decide +kernel
theorem dX1_endBlock_55 : decode cX1_endBlock 55 = .ok (.iload_n 1, 1) := by decide +kernel
theorem dX1_endBlock_56 : decode cX1_endBlock 56 = .ok (.iconst 5, 1) := by decide +kernel
theorem dX1_endBlock_57 : decode cX1_endBlock 57 = .ok (.invokevirtual 284, 3) := by decide +kernel
theorem dX1_endBlock_60 : decode cX1_endBlock 60 = .ok (.istore_n 3, 1) := by decide +kernel
theorem dX1_endBlock_61 : decode cX1_endBlock 61 = .ok (.iconst 0, 1) := by decide +kernel
theorem dX1_endBlock_62 : decode cX1_endBlock 62 = .ok (.istore 4, 2) := by decide +kernel
theorem dX1_endBlock_64 : decode cX1_endBlock 64 = .ok (.iload 4, 2) := by decide +kernel
theorem dX1_endBlock_66 : decode cX1_endBlock 66 = .ok (.aload_n 0, 1) := by decide +kernel
theorem dX1_endBlock_67 : decode cX1_endBlock 67 = .ok (.getfield 49, 3) := by decide +kernel
theorem dX1_endBlock_70 : decode cX1_endBlock 70 = .ok (.getfield 391, 3) := by decide +kernel
theorem dX1_endBlock_73 : decode cX1_endBlock 73 = .ok (.if_icmp .ge 42, 3) := by decide +kernel
theorem dX1_endBlock_76 : decode cX1_endBlock 76 = .ok (.iload_n 3, 1) := by decide +kernel
theorem dX1_endBlock_77 : decode cX1_endBlock 77 = .ok (.ifCond .lt 38, 3) := by decide +kernel
theorem dX1_endBlock_80 : decode cX1_endBlock 80 = .ok (.aload_n 0, 1) := by decide +kernel
theorem dX1_endBlock_81 : decode cX1_endBlock 81 = .ok (.getfield 49, 3) := by decide +kernel
theorem dX1_endBlock_84 : decode cX1_endBlock 84 = .ok (.iload_n 3, 1) := by decide +kernel
theorem dX1_endBlock_85 : decode cX1_endBlock 85 = .ok (.iconst 1, 1) := by decide +kernel
theorem dX1_endBlock_86 : decode cX1_endBlock 86 = .ok (.invokevirtual 410, 3) := by decide +kernel
theorem dX1_endBlock_89 : decode cX1_endBlock 89 = .ok (.istore 5, 2) := by decide +kernel
theorem dX1_endBlock_91 : decode cX1_endBlock 91 = .ok (.aload_n 0, 1) := by decide +kernel
theorem dX1_endBlock_92 : decode cX1_endBlock 92 = .ok (.getfield 49, 3) := by decide +kernel
theorem dX1_endBlock_95 : decode cX1_endBlock 95 = .ok (.iload_n 3, 1) := by decide +kernel
theorem dX1_endBlock_96 : decode cX1_endBlock 96 = .ok (.aload_n 0, 1) := by decide +kernel
theorem dX1_endBlock_97 : decode cX1_endBlock 97 = .ok (.getfield 49, 3) := by decide +kernel
theorem dX1_endBlock_100 : decode cX1_endBlock 100 = .ok (.getfield 391, 3) := by decide +kernel
theorem dX1_endBlock_103 : decode cX1_endBlock 103 = .ok (.invokevirtual 403, 3) := by decide +kernel
theorem dX1_endBlock_106 : decode cX1_endBlock 106 = .ok (.iload 5, 2) := by decide +kernel
theorem dX1_endBlock_108 : decode cX1_endBlock 108 = .ok (.istore_n 3, 1) := by decide +kernel
theorem dX1_endBlock_109 : decode cX1_endBlock 109 = .ok (.iinc 4 1, 3) := by decide +kernel
theorem dX1_endBlock_112 : decode cX1_endBlock 112 = .ok (.goto (-48), 3) := by decide +kernel
theorem dX1_endBlock_115 : decode cX1_endBlock 115 = .ok (.aload_n 0, 1) := by decide +kernel
theorem dX1_endBlock_116 : decode cX1_endBlock 116 = .ok (.dup, 1) := by decide +kernel
theorem dX1_endBlock_117 : decode cX1_endBlock 117 = .ok (.getfield 220, 3) := by decide +kernel
theorem dX1_endBlock_120 : decode cX1_endBlock 120 = .ok (.iconst 1, 1) := by decide +kernel
theorem dX1_endBlock_121 : decode cX1_endBlock 121 = .ok (.isub, 1) := by decide +kernel
theorem dX1_endBlock_122 : decode cX1_endBlock 122 = .ok (.putfield 220, 3) := by decide +kernel
theorem dX1_endBlock_125 : decode cX1_endBlock 125 = .ok (.aload_n 0, 1) := by decide +kernel
theorem dX1_endBlock_126 : decode cX1_endBlock 126 = .ok (.getfield 220, 3) := by decide +kernel
theorem dX1_endBlock_129 : decode cX1_endBlock 129 = .ok (.ifCond .le 11, 3) := by decide +kernel
theorem dX1_endBlock_132 : decode cX1_endBlock 132 = .ok (.aload_n 0, 1) := by decide +kernel
theorem dX1_endBlock_133 : decode cX1_endBlock 133 = .ok (.aload_n 2, 1) := by decide +kernel
theorem dX1_endBlock_134 : decode cX1_endBlock 134 = .ok (.invokevirtual 412, 3) := by decide +kernel
theorem dX1_endBlock_137 : decode cX1_endBlock 137 = .ok (.goto 21, 3) := by decide +kernel
theorem dX1_endBlock_140 : decode cX1_endBlock 140 = .ok (.aload_n 0, 1) := by decide +kernel
theorem dX1_endBlock_141 : decode cX1_endBlock 141 = .ok (.getfield 49, 3) := by decide +kernel
theorem dX1_endBlock_144 : decode cX1_endBlock 144 = .ok (.bipush 11, 2) := by decide +kernel
theorem dX1_endBlock_146 : decode cX1_endBlock 146 = .ok (.iconst 0, 1) := by decide +kernel
theorem dX1_endBlock_147 : decode cX1_endBlock 147 = .ok (.iconst 0, 1) := by decide +kernel
theorem dX1_endBlock_148 : decode cX1_endBlock 148 = .ok (.iconst 0, 1) := by decide +kernel
theorem dX1_endBlock_149 : decode cX1_endBlock 149 = .ok (.aload_n 2, 1) := by decide +kernel
theorem dX1_endBlock_150 : decode cX1_endBlock 150 = .ok (.iconst 1, 1) := by decide +kernel
theorem dX1_endBlock_151 : decode cX1_endBlock 151 = .ok (.invokestatic 105, 3) := by decide +kernel
theorem dX1_endBlock_154 : decode cX1_endBlock 154 = .ok (.invokevirtual 318, 3) := by decide +kernel
theorem dX1_endBlock_157 : decode cX1_endBlock 157 = .ok (.pop, 1) := by decide +kernel
theorem dX1_endBlock_158 : decode cX1_endBlock 158 = .ok (.return_, 1) := by decide +kernel
noncomputable def tX1_endBlock_0 (x0 : Nat) (h : pm_H) : Option (((Nat × pm_H) ⊕ (Nat × Int32 × Nat × pm_H) ⊕ (Nat × Int32 × Nat × pm_H) ⊕ (Nat × Int32 × Nat × pm_H) ⊕ (Nat × Nat × Int32 × Int32 × pm_H)) ⊕ pm_H) := if pm_kd h x0 = 1 then pm_let ((pm_I h x0 10) - 1) fun y2 => (fX1_shapeOfLabel h x0 y2).bind fun v4 => some (.inl (.inr (.inl ((x0, y2, v4.1, v4.2))))) else none
noncomputable def tX1_endBlock_12 (x0 : Nat) (x1 : Int32) (s0 : Nat) (h : pm_H) : Option (((Nat × pm_H) ⊕ (Nat × Int32 × Nat × pm_H) ⊕ (Nat × Int32 × Nat × pm_H) ⊕ (Nat × Int32 × Nat × pm_H) ⊕ (Nat × Nat × Int32 × Int32 × pm_H)) ⊕ pm_H) := if pm_kd h x0 = 1 then (fX1_takeAllResults h x0 x1).bind fun v7 => some (.inl (.inr (.inr (.inl ((x0, x1, s0, v7)))))) else none
noncomputable def tX1_endBlock_18 (x0 : Nat) (x1 : Int32) (x2 : Nat) (h : pm_H) : Option (((Nat × pm_H) ⊕ (Nat × Int32 × Nat × pm_H) ⊕ (Nat × Int32 × Nat × pm_H) ⊕ (Nat × Int32 × Nat × pm_H) ⊕ (Nat × Nat × Int32 × Int32 × pm_H)) ⊕ pm_H) := if pm_kd h x0 = 1 then (fX1_label h x0 x1 0).bind fun v10 => if v10 = 4 then ((fX1_resultsAreParameters h x2).bind fun v13 => if v13 = 0 then ((fX1_fail h x0 29).bind fun v16 => some (.inl (.inr (.inr (.inr (.inl ((x0, x1, x2, v16)))))))) else (some (.inl (.inr (.inr (.inr (.inl ((x0, x1, x2, h))))))))) else (some (.inl (.inr (.inr (.inr (.inl ((x0, x1, x2, h)))))))) else none
noncomputable def tX1_endBlock_41 (x0 : Nat) (x1 : Int32) (x2 : Nat) (h : pm_H) : Option (((Nat × pm_H) ⊕ (Nat × Int32 × Nat × pm_H) ⊕ (Nat × Int32 × Nat × pm_H) ⊕ (Nat × Int32 × Nat × pm_H) ⊕ (Nat × Nat × Int32 × Int32 × pm_H)) ⊕ pm_H) := if pm_kd h x0 = 1 then if (pm_I h x0 0) = 0 then ((fX1_aimCondition h x0 x1).bind fun v21 => if pm_kd v21 x0 = 1 then (fX1_label v21 x0 x1 5).bind fun v25 => some (.inl (.inr (.inr (.inr (.inr ((x0, x2, v25, 0, v21))))))) else none) else (some (.inr (h))) else none
noncomputable def tX1_endBlock_64 (x0 : Nat) (x2 : Nat) (x3 : Int32) (x4 : Int32) (h : pm_H) : Option (((Nat × pm_H) ⊕ (Nat × Int32 × Nat × pm_H) ⊕ (Nat × Int32 × Nat × pm_H) ⊕ (Nat × Int32 × Nat × pm_H) ⊕ (Nat × Nat × Int32 × Int32 × pm_H)) ⊕ pm_H) := if pm_kd h x0 = 1 then (pm_R h x0 17).bind fun v28 => if pm_kd h v28 = 0 then if (pm_I h v28 2) ≤ x4 then (pm_let ((pm_I h x0 10) - 1) fun y32 => if (pm_I (pm_setI h x0 10 y32) x0 10) ≤ 0 then ((fX12_item (pm_setI h x0 10 y32) x2 1).bind fun v35 => (fX0_emit (pm_setI h x0 10 y32) v28 11 0 0 0 v35).bind fun v37 => some (.inr (v37.2))) else ((fX1_putResults (pm_setI h x0 10 y32) x0 x2).bind fun v40 => some (.inr (v40)))) else (if x3 < 0 then (pm_let ((pm_I h x0 10) - 1) fun y44 => if (pm_I (pm_setI h x0 10 y44) x0 10) ≤ 0 then ((fX12_item (pm_setI h x0 10 y44) x2 1).bind fun v47 => (fX0_emit (pm_setI h x0 10 y44) v28 11 0 0 0 v47).bind fun v49 => some (.inr (v49.2))) else ((fX1_putResults (pm_setI h x0 10 y44) x0 x2).bind fun v52 => some (.inr (v52)))) else ((fX0_of h v28 x3 1).bind fun v55 => (fX0_aim h v28 x3 (pm_I h v28 2)).bind fun v57 => pm_let (x4 + 1) fun y60 => some (.inl (.inr (.inr (.inr (.inr ((x0, x2, v55, y60, v57))))))))) else none else none
noncomputable def sX1_endBlock : ((Nat × pm_H) ⊕ (Nat × Int32 × Nat × pm_H) ⊕ (Nat × Int32 × Nat × pm_H) ⊕ (Nat × Int32 × Nat × pm_H) ⊕ (Nat × Nat × Int32 × Int32 × pm_H)) → Option (((Nat × pm_H) ⊕ (Nat × Int32 × Nat × pm_H) ⊕ (Nat × Int32 × Nat × pm_H) ⊕ (Nat × Int32 × Nat × pm_H) ⊕ (Nat × Nat × Int32 × Int32 × pm_H)) ⊕ pm_H) := fun z => match z with
  | .inl (x0, h) => tX1_endBlock_0 x0 h
  | .inr (.inl (x0, x1, s0, h)) => tX1_endBlock_12 x0 x1 s0 h
  | .inr (.inr (.inl (x0, x1, x2, h))) => tX1_endBlock_18 x0 x1 x2 h
  | .inr (.inr (.inr (.inl (x0, x1, x2, h)))) => tX1_endBlock_41 x0 x1 x2 h
  | .inr (.inr (.inr (.inr (x0, x2, x3, x4, h)))) => tX1_endBlock_64 x0 x2 x3 x4 h
noncomputable def fX1_endBlock (h : pm_H) (a0 : Nat) : Option pm_H := pm_lim sX1_endBlock (.inl ((a0, h)))
set_option maxHeartbeats 4000000 in
set_option maxRecDepth 100000 in
theorem mlX1_endBlock {r : pm_H} : ∀ n : Nat, (∀ (x0 : Nat) (h : pm_H), pm_iter sX1_endBlock n (.inl (x0, h)) = some r → pm_Le h r) ∧ (∀ (x0 : Nat) (x1 : Int32) (s0 : Nat) (h : pm_H), pm_iter sX1_endBlock n (.inr (.inl (x0, x1, s0, h))) = some r → pm_Le h r) ∧ (∀ (x0 : Nat) (x1 : Int32) (x2 : Nat) (h : pm_H), pm_iter sX1_endBlock n (.inr (.inr (.inl (x0, x1, x2, h)))) = some r → pm_Le h r) ∧ (∀ (x0 : Nat) (x1 : Int32) (x2 : Nat) (h : pm_H), pm_iter sX1_endBlock n (.inr (.inr (.inr (.inl (x0, x1, x2, h))))) = some r → pm_Le h r) ∧ (∀ (x0 : Nat) (x2 : Nat) (x3 : Int32) (x4 : Int32) (h : pm_H), pm_iter sX1_endBlock n (.inr (.inr (.inr (.inr (x0, x2, x3, x4, h))))) = some r → pm_Le h r) := by
  intro n
  induction n with
  | zero => exact ⟨fun _ _ hf => (by cases hf), fun _ _ _ _ hf => (by cases hf), fun _ _ _ _ hf => (by cases hf), fun _ _ _ _ hf => (by cases hf), fun _ _ _ _ _ hf => (by cases hf)⟩
  | succ n ih =>
    refine ⟨fun x0 h hf => ?_, ?_⟩
    · obtain ⟨y, hf, hi⟩ := pm_iter_s hf
      have hf : tX1_endBlock_0 x0 h = some y := hf
      unfold tX1_endBlock_0 at hf
      have K0 := pm_S3.rf h
      obtain ⟨k1, hf⟩ := pm_if hf
      obtain ⟨y2, e3, hf⟩ := pm_lt hf
      obtain ⟨v4, e5, hf⟩ := pm_bd hf
      cases hf
      exact ((pm_S3.le K0).trans (moX1_shapeOfLabel e5)).trans (ih.2.1 x0 y2 v4.1 v4.2 hi)
    refine ⟨fun x0 x1 s0 h hf => ?_, ?_⟩
    · obtain ⟨y, hf, hi⟩ := pm_iter_s hf
      have hf : tX1_endBlock_12 x0 x1 s0 h = some y := hf
      unfold tX1_endBlock_12 at hf
      have K0 := pm_S3.rf h
      obtain ⟨k6, hf⟩ := pm_if hf
      obtain ⟨v7, e8, hf⟩ := pm_bd hf
      cases hf
      exact ((pm_S3.le K0).trans (moX1_takeAllResults e8)).trans (ih.2.2.1 x0 x1 s0 v7 hi)
    refine ⟨fun x0 x1 x2 h hf => ?_, ?_⟩
    · obtain ⟨y, hf, hi⟩ := pm_iter_s hf
      have hf : tX1_endBlock_18 x0 x1 x2 h = some y := hf
      unfold tX1_endBlock_18 at hf
      have K0 := pm_S3.rf h
      obtain ⟨k9, hf⟩ := pm_if hf
      obtain ⟨v10, e11, hf⟩ := pm_bd hf
      by_cases c12 : v10 = 4
      · have hf := pm_it hf c12
        obtain ⟨v13, e14, hf⟩ := pm_bd hf
        by_cases c15 : v13 = 0
        · have hf := pm_it hf c15
          obtain ⟨v16, e17, hf⟩ := pm_bd hf
          have K18 := pm_S3.trans (kpX1_fail e17) K0
          cases hf
          exact (pm_S3.le K18).trans (ih.2.2.2.1 x0 x1 x2 v16 hi)
        · have hf := pm_ie hf c15
          cases hf
          exact (pm_S3.le K0).trans (ih.2.2.2.1 x0 x1 x2 h hi)
      · have hf := pm_ie hf c12
        cases hf
        exact (pm_S3.le K0).trans (ih.2.2.2.1 x0 x1 x2 h hi)
    refine ⟨fun x0 x1 x2 h hf => ?_, ?_⟩
    · obtain ⟨y, hf, hi⟩ := pm_iter_s hf
      have hf : tX1_endBlock_41 x0 x1 x2 h = some y := hf
      unfold tX1_endBlock_41 at hf
      have K0 := pm_S3.rf h
      obtain ⟨k19, hf⟩ := pm_if hf
      by_cases c20 : (pm_I h x0 0) = 0
      · have hf := pm_it hf c20
        obtain ⟨v21, e22, hf⟩ := pm_bd hf
        have K23 := pm_S3.trans (kpX1_aimCondition e22) K0
        obtain ⟨k24, hf⟩ := pm_if hf
        obtain ⟨v25, e26, hf⟩ := pm_bd hf
        cases hf
        exact (pm_S3.le K23).trans (ih.2.2.2.2 x0 x2 v25 0 v21 hi)
      · have hf := pm_ie hf c20
        have hf := Option.some.inj hf
        subst hf
        have hi := Option.some.inj (show some _ = some r from hi)
        subst hi
        exact pm_S3.le K0
    refine fun x0 x2 x3 x4 h hf => ?_
    obtain ⟨y, hf, hi⟩ := pm_iter_s hf
    have hf : tX1_endBlock_64 x0 x2 x3 x4 h = some y := hf
    unfold tX1_endBlock_64 at hf
    have K0 := pm_S3.rf h
    obtain ⟨k27, hf⟩ := pm_if hf
    obtain ⟨v28, e29, hf⟩ := pm_bd hf
    obtain ⟨k30, hf⟩ := pm_if hf
    by_cases c31 : (pm_I h v28 2) ≤ x4
    · have hf := pm_it hf c31
      obtain ⟨y32, e33, hf⟩ := pm_lt hf
      by_cases c34 : (pm_I (pm_setI h x0 10 y32) x0 10) ≤ 0
      · have hf := pm_it hf c34
        obtain ⟨v35, e36, hf⟩ := pm_bd hf
        obtain ⟨v37, e38, hf⟩ := pm_bd hf
        have K39 := pm_S3.trans (kpX0_emit e38) (pm_S3I K0)
        have hf := Option.some.inj hf
        subst hf
        have hi := Option.some.inj (show some _ = some r from hi)
        subst hi
        exact pm_S3.le K39
      · have hf := pm_ie hf c34
        obtain ⟨v40, e41, hf⟩ := pm_bd hf
        have K42 := pm_S3.trans (kpX1_putResults e41) (pm_S3I K0)
        have hf := Option.some.inj hf
        subst hf
        have hi := Option.some.inj (show some _ = some r from hi)
        subst hi
        exact pm_S3.le K42
    · have hf := pm_ie hf c31
      by_cases c43 : x3 < 0
      · have hf := pm_it hf c43
        obtain ⟨y44, e45, hf⟩ := pm_lt hf
        by_cases c46 : (pm_I (pm_setI h x0 10 y44) x0 10) ≤ 0
        · have hf := pm_it hf c46
          obtain ⟨v47, e48, hf⟩ := pm_bd hf
          obtain ⟨v49, e50, hf⟩ := pm_bd hf
          have K51 := pm_S3.trans (kpX0_emit e50) (pm_S3I K0)
          have hf := Option.some.inj hf
          subst hf
          have hi := Option.some.inj (show some _ = some r from hi)
          subst hi
          exact pm_S3.le K51
        · have hf := pm_ie hf c46
          obtain ⟨v52, e53, hf⟩ := pm_bd hf
          have K54 := pm_S3.trans (kpX1_putResults e53) (pm_S3I K0)
          have hf := Option.some.inj hf
          subst hf
          have hi := Option.some.inj (show some _ = some r from hi)
          subst hi
          exact pm_S3.le K54
      · have hf := pm_ie hf c43
        obtain ⟨v55, e56, hf⟩ := pm_bd hf
        obtain ⟨v57, e58, hf⟩ := pm_bd hf
        have K59 := pm_S3.trans (kpX0_aim e58) K0
        obtain ⟨y60, e61, hf⟩ := pm_lt hf
        cases hf
        exact (pm_S3.le K59).trans (ih.2.2.2.2 x0 x2 v55 y60 v57 hi)
set_option maxHeartbeats 4000000 in
set_option maxRecDepth 100000 in
theorem moX1_endBlock {h : pm_H} {a0 : Nat} {r : pm_H} (hf : fX1_endBlock h a0 = some r) : pm_Le h r := by
  unfold fX1_endBlock at hf
  have K0 := pm_S3.rf h
  obtain ⟨n, hn⟩ := pm_lim_iter hf
  exact (mlX1_endBlock n).1 a0 h hn
set_option maxHeartbeats 4000000 in
set_option maxRecDepth 100000 in
theorem lpX1_endBlock {g : pm_Gm} {l : Launch} {G : pm_Gl} {Qr : Option Value → pm_H → Prop} (C : pm_C g cX1_endBlock RX1) {h0 : pm_H} {r : pm_H} (X : pm_X g l G mX1_endBlock (pm_sz r - pm_sz h0) (pm_us r - pm_us h0) Qr) (q : Qr none r) : ∀ n : Nat, (∀ (x0 : Nat) (h : pm_H), pm_Le h0 h → pm_iter sX1_endBlock n (.inl (x0, h)) = some r → pm_G g 0 [(0, .ref x0)] [] h (pm_sz h - pm_sz h0) (pm_us h - pm_us h0)) ∧ (∀ (x0 : Nat) (x1 : Int32) (s0 : Nat) (h : pm_H), pm_Le h0 h → pm_iter sX1_endBlock n (.inr (.inl (x0, x1, s0, h))) = some r → pm_G g 12 [(0, .ref x0), (1, .int x1)] [.ref s0] h (pm_sz h - pm_sz h0) (pm_us h - pm_us h0)) ∧ (∀ (x0 : Nat) (x1 : Int32) (x2 : Nat) (h : pm_H), pm_Le h0 h → pm_iter sX1_endBlock n (.inr (.inr (.inl (x0, x1, x2, h)))) = some r → pm_G g 18 [(0, .ref x0), (1, .int x1), (2, .ref x2)] [] h (pm_sz h - pm_sz h0) (pm_us h - pm_us h0)) ∧ (∀ (x0 : Nat) (x1 : Int32) (x2 : Nat) (h : pm_H), pm_Le h0 h → pm_iter sX1_endBlock n (.inr (.inr (.inr (.inl (x0, x1, x2, h))))) = some r → pm_G g 41 [(0, .ref x0), (1, .int x1), (2, .ref x2)] [] h (pm_sz h - pm_sz h0) (pm_us h - pm_us h0)) ∧ (∀ (x0 : Nat) (x2 : Nat) (x3 : Int32) (x4 : Int32) (h : pm_H), pm_Le h0 h → pm_iter sX1_endBlock n (.inr (.inr (.inr (.inr (x0, x2, x3, x4, h))))) = some r → pm_G g 64 [(0, .ref x0), (2, .ref x2), (3, .int x3), (4, .int x4)] [] h (pm_sz h - pm_sz h0) (pm_us h - pm_us h0)) := by
  intro n
  induction n with
  | zero => exact ⟨fun _ _ _ hf => (by cases hf), fun _ _ _ _ _ hf => (by cases hf), fun _ _ _ _ _ hf => (by cases hf), fun _ _ _ _ _ hf => (by cases hf), fun _ _ _ _ _ _ hf => (by cases hf)⟩
  | succ n ih =>
    refine ⟨fun x0 h m0 hf => ?_, ?_⟩
    · have le0 := (mlX1_endBlock (n + 1)).1 x0 h hf
      have kc1 := Nat.sub_le_sub_right le0.1 (pm_sz h0)
      have kc2 := Nat.sub_le_sub_right le0.2 (pm_us h0)
      have K0 := pm_S3.rf h
      obtain ⟨y, hf, hi⟩ := pm_iter_s hf
      have hf : tX1_endBlock_0 x0 h = some y := hf
      unfold tX1_endBlock_0 at hf
      refine pm_aload_n C dX1_endBlock_0 rfl rfl ?_
      obtain ⟨k1, hf⟩ := pm_if hf
      refine pm_getI C dX1_endBlock_1 flX1_220 rfl k1 rfl ?_
      refine pm_iconst (v := 1) C dX1_endBlock_4 (by decide) ?_
      refine pm_isub C dX1_endBlock_5 ?_
      obtain ⟨y2, e3, hf⟩ := pm_lt hf
      refine pm_topI e3 ?_
      refine pm_istore_n (lv' := [(1, .int y2), (0, .ref x0)]) C dX1_endBlock_6 rfl (pm_nl X (by decide)) rfl ?_
      refine pm_aload_n C dX1_endBlock_7 rfl rfl ?_
      refine pm_iload_n C dX1_endBlock_8 rfl rfl ?_
      obtain ⟨v4, e5, hf⟩ := pm_bd hf
      cases hf
      refine pm_callV (as := [.int y2]) (st := []) C X dX1_endBlock_9 lnX1_301 myX1_shapeOfLabel viX1_shapeOfLabel ⟨by decide, by decide⟩ rfl rfl k1 (Nat.le_of_ble_eq_true rfl) (pa_le1 K0 m0 (moX1_shapeOfLabel e5) ((mlX1_endBlock n).2.1 x0 y2 v4.1 v4.2 hi)) (pa_le2 K0 m0 (moX1_shapeOfLabel e5) ((mlX1_endBlock n).2.1 x0 y2 v4.1 v4.2 hi)) (ctX1_shapeOfLabel e5 ?_)
      show pm_G g 12 [(1, .int y2), (0, .ref x0)] [.ref v4.1] v4.2 (pm_sz h - pm_sz h0 + (pm_sz v4.2 - pm_sz h)) (pm_us h - pm_us h0 + (pm_us v4.2 - pm_us h))
      refine pa_fin K0 m0 (moX1_shapeOfLabel e5) ?_
      exact pm_sub [1, 0] rfl (ih.2.1 x0 y2 v4.1 v4.2 ((m0.trans (pm_S3.le K0)).trans (moX1_shapeOfLabel e5)) hi)
    refine ⟨fun x0 x1 s0 h m0 hf => ?_, ?_⟩
    · have le0 := (mlX1_endBlock (n + 1)).2.1 x0 x1 s0 h hf
      have kc1 := Nat.sub_le_sub_right le0.1 (pm_sz h0)
      have kc2 := Nat.sub_le_sub_right le0.2 (pm_us h0)
      have K0 := pm_S3.rf h
      obtain ⟨y, hf, hi⟩ := pm_iter_s hf
      have hf : tX1_endBlock_12 x0 x1 s0 h = some y := hf
      unfold tX1_endBlock_12 at hf
      refine pm_astore_n (lv' := [(2, .ref s0), (0, .ref x0), (1, .int x1)]) C dX1_endBlock_12 rfl (pm_nl X (by decide)) rfl ?_
      refine pm_aload_n C dX1_endBlock_13 rfl rfl ?_
      refine pm_iload_n C dX1_endBlock_14 rfl rfl ?_
      obtain ⟨k6, hf⟩ := pm_if hf
      obtain ⟨v7, e8, hf⟩ := pm_bd hf
      cases hf
      refine pm_callV (as := [.int x1]) (st := []) C X dX1_endBlock_15 lnX1_397 myX1_takeAllResults viX1_takeAllResults ⟨by decide, by decide⟩ rfl rfl k6 (Nat.le_of_ble_eq_true rfl) (pa_le1 K0 m0 (moX1_takeAllResults e8) ((mlX1_endBlock n).2.2.1 x0 x1 s0 v7 hi)) (pa_le2 K0 m0 (moX1_takeAllResults e8) ((mlX1_endBlock n).2.2.1 x0 x1 s0 v7 hi)) (ctX1_takeAllResults e8 ?_)
      show pm_G g 18 [(2, .ref s0), (0, .ref x0), (1, .int x1)] [] v7 (pm_sz h - pm_sz h0 + (pm_sz v7 - pm_sz h)) (pm_us h - pm_us h0 + (pm_us v7 - pm_us h))
      refine pa_fin K0 m0 (moX1_takeAllResults e8) ?_
      exact pm_sub [1, 2, 0] rfl (ih.2.2.1 x0 x1 s0 v7 ((m0.trans (pm_S3.le K0)).trans (moX1_takeAllResults e8)) hi)
    refine ⟨fun x0 x1 x2 h m0 hf => ?_, ?_⟩
    · have le0 := (mlX1_endBlock (n + 1)).2.2.1 x0 x1 x2 h hf
      have kc1 := Nat.sub_le_sub_right le0.1 (pm_sz h0)
      have kc2 := Nat.sub_le_sub_right le0.2 (pm_us h0)
      have K0 := pm_S3.rf h
      obtain ⟨y, hf, hi⟩ := pm_iter_s hf
      have hf : tX1_endBlock_18 x0 x1 x2 h = some y := hf
      unfold tX1_endBlock_18 at hf
      refine pm_aload_n C dX1_endBlock_18 rfl rfl ?_
      refine pm_iload_n C dX1_endBlock_19 rfl rfl ?_
      refine pm_iconst (v := 0) C dX1_endBlock_20 (by decide) ?_
      obtain ⟨k9, hf⟩ := pm_if hf
      obtain ⟨v10, e11, hf⟩ := pm_bd hf
      refine pm_callV (as := [.int x1, .int 0]) (st := []) C X dX1_endBlock_21 lnX1_284 myX1_label viX1_label ⟨by decide, by decide⟩ rfl rfl k9 (Nat.le_of_ble_eq_true rfl) kc1 kc2 (ctX1_label e11 ?_)
      show pm_G g 24 [(0, .ref x0), (1, .int x1), (2, .ref x2)] [.int v10] h (pm_sz h - pm_sz h0) (pm_us h - pm_us h0)
      refine pm_iconst (v := 4) C dX1_endBlock_24 (by decide) ?_
      refine pm_icmp_ne (tgt := 41) C dX1_endBlock_25 (by decide) (fun c12 => ?_) (fun c12 => ?_)
      · have hf := pm_ie hf c12
        cases hf
        exact pa_join K0 (pm_sub [0, 1, 2] rfl (ih.2.2.2.1 x0 x1 x2 h (m0.trans (pm_S3.le K0)) hi))
      · have hf := pm_it hf c12
        refine pm_aload_n C dX1_endBlock_28 rfl rfl ?_
        obtain ⟨v13, e14, hf⟩ := pm_bd hf
        refine pm_callS (as := [.ref x2]) (st := []) C X dX1_endBlock_29 lnX1_406 myX1_resultsAreParameters stX1_resultsAreParameters ⟨by decide, by decide⟩ rfl rfl (Nat.le_of_ble_eq_true rfl) kc1 kc2 (ctX1_resultsAreParameters e14 ?_)
        show pm_G g 32 [(0, .ref x0), (1, .int x1), (2, .ref x2)] [.int v13] h (pm_sz h - pm_sz h0) (pm_us h - pm_us h0)
        refine pm_if_ne (tgt := 41) C dX1_endBlock_32 (by decide) (fun c15 => ?_) (fun c15 => ?_)
        · have hf := pm_ie hf c15
          cases hf
          exact pa_join K0 (pm_sub [0, 1, 2] rfl (ih.2.2.2.1 x0 x1 x2 h (m0.trans (pm_S3.le K0)) hi))
        · have hf := pm_it hf c15
          refine pm_aload_n C dX1_endBlock_35 rfl rfl ?_
          refine pm_bipush (v := 29) C dX1_endBlock_36 (by decide) ?_
          obtain ⟨v16, e17, hf⟩ := pm_bd hf
          refine pm_callV (as := [.int 29]) (st := []) C X dX1_endBlock_38 lnX1_198 myX1_fail viX1_fail ⟨by decide, by decide⟩ rfl rfl k9 (Nat.le_of_ble_eq_true rfl) kc1 kc2 (ctX1_fail e17 ?_)
          have K18 := pm_S3.trans (kpX1_fail e17) K0
          show pm_G g 41 [(0, .ref x0), (1, .int x1), (2, .ref x2)] [] v16 (pm_sz h - pm_sz h0) (pm_us h - pm_us h0)
          cases hf
          exact pa_join K18 (pm_sub [0, 1, 2] rfl (ih.2.2.2.1 x0 x1 x2 v16 (m0.trans (pm_S3.le K18)) hi))
    refine ⟨fun x0 x1 x2 h m0 hf => ?_, ?_⟩
    · have le0 := (mlX1_endBlock (n + 1)).2.2.2.1 x0 x1 x2 h hf
      have kc1 := Nat.sub_le_sub_right le0.1 (pm_sz h0)
      have kc2 := Nat.sub_le_sub_right le0.2 (pm_us h0)
      have K0 := pm_S3.rf h
      obtain ⟨y, hf, hi⟩ := pm_iter_s hf
      have hf : tX1_endBlock_41 x0 x1 x2 h = some y := hf
      unfold tX1_endBlock_41 at hf
      refine pm_aload_n C dX1_endBlock_41 rfl rfl ?_
      obtain ⟨k19, hf⟩ := pm_if hf
      refine pm_getI C dX1_endBlock_42 flX1_53 rfl k19 rfl ?_
      refine pm_if_eq (tgt := 49) C dX1_endBlock_45 (by decide) (fun c20 => ?_) (fun c20 => ?_)
      · have hf := pm_it hf c20
        refine pm_aload_n C dX1_endBlock_49 rfl rfl ?_
        refine pm_iload_n C dX1_endBlock_50 rfl rfl ?_
        obtain ⟨v21, e22, hf⟩ := pm_bd hf
        refine pm_callV (as := [.int x1]) (st := []) C X dX1_endBlock_51 lnX1_400 myX1_aimCondition viX1_aimCondition ⟨by decide, by decide⟩ rfl rfl k19 (Nat.le_of_ble_eq_true rfl) kc1 kc2 (ctX1_aimCondition e22 ?_)
        have K23 := pm_S3.trans (kpX1_aimCondition e22) K0
        show pm_G g 54 [(0, .ref x0), (1, .int x1), (2, .ref x2)] [] v21 (pm_sz h - pm_sz h0) (pm_us h - pm_us h0)
        refine pm_aload_n C dX1_endBlock_54 rfl rfl ?_
        refine pm_iload_n C dX1_endBlock_55 rfl rfl ?_
        refine pm_iconst (v := 5) C dX1_endBlock_56 (by decide) ?_
        obtain ⟨k24, hf⟩ := pm_if hf
        obtain ⟨v25, e26, hf⟩ := pm_bd hf
        refine pm_callV (as := [.int x1, .int 5]) (st := []) C X dX1_endBlock_57 lnX1_284 myX1_label viX1_label ⟨by decide, by decide⟩ rfl rfl k24 (Nat.le_of_ble_eq_true rfl) kc1 kc2 (ctX1_label e26 ?_)
        show pm_G g 60 [(0, .ref x0), (1, .int x1), (2, .ref x2)] [.int v25] v21 (pm_sz h - pm_sz h0) (pm_us h - pm_us h0)
        refine pm_istore_n (lv' := [(3, .int v25), (0, .ref x0), (1, .int x1), (2, .ref x2)]) C dX1_endBlock_60 rfl (pm_nl X (by decide)) rfl ?_
        refine pm_iconst (v := 0) C dX1_endBlock_61 (by decide) ?_
        refine pm_istore (lv' := [(4, .int 0), (3, .int v25), (0, .ref x0), (1, .int x1), (2, .ref x2)]) C dX1_endBlock_62 (pm_nl X (by decide)) rfl ?_
        cases hf
        exact pa_join K23 (pm_sub [2, 4, 1, 0] rfl (ih.2.2.2.2 x0 x2 v25 0 v21 (m0.trans (pm_S3.le K23)) hi))
      · have hf := pm_ie hf c20
        have hf := Option.some.inj hf
        subst hf
        have hi := Option.some.inj (show some _ = some r from hi)
        subst hi
        exact pm_vret C X dX1_endBlock_48 rfl kc1 kc2 q
    refine fun x0 x2 x3 x4 h m0 hf => ?_
    have le0 := (mlX1_endBlock (n + 1)).2.2.2.2 x0 x2 x3 x4 h hf
    have kc1 := Nat.sub_le_sub_right le0.1 (pm_sz h0)
    have kc2 := Nat.sub_le_sub_right le0.2 (pm_us h0)
    have K0 := pm_S3.rf h
    obtain ⟨y, hf, hi⟩ := pm_iter_s hf
    have hf : tX1_endBlock_64 x0 x2 x3 x4 h = some y := hf
    unfold tX1_endBlock_64 at hf
    refine pm_iload C dX1_endBlock_64 rfl ?_
    refine pm_aload_n C dX1_endBlock_66 rfl rfl ?_
    obtain ⟨k27, hf⟩ := pm_if hf
    obtain ⟨v28, e29, hf⟩ := pm_bd hf
    refine pm_getR C dX1_endBlock_67 flX1_49 rfl k27 e29 ?_
    obtain ⟨k30, hf⟩ := pm_if hf
    refine pm_getI C dX1_endBlock_70 flX1_391 rfl k30 rfl ?_
    refine pm_icmp_ge (tgt := 115) C dX1_endBlock_73 (by decide) (fun c31 => ?_) (fun c31 => ?_)
    · have hf := pm_it hf c31
      refine pm_aload_n C dX1_endBlock_115 rfl rfl ?_
      refine pm_dup C dX1_endBlock_116 rfl ?_
      refine pm_getI C dX1_endBlock_117 flX1_220 rfl k27 rfl ?_
      refine pm_iconst (v := 1) C dX1_endBlock_120 (by decide) ?_
      refine pm_isub C dX1_endBlock_121 ?_
      obtain ⟨y32, e33, hf⟩ := pm_lt hf
      refine pm_topI e33 ?_
      refine pm_putI C dX1_endBlock_122 flX1_220 rfl rfl k27 rfl rfl ?_
      refine pm_aload_n C dX1_endBlock_125 rfl rfl ?_
      refine pm_getI C dX1_endBlock_126 flX1_220 rfl k27 rfl ?_
      refine pm_if_le (tgt := 140) C dX1_endBlock_129 (by decide) (fun c34 => ?_) (fun c34 => ?_)
      · have hf := pm_it hf c34
        refine pm_aload_n C dX1_endBlock_140 rfl rfl ?_
        refine pm_getR C dX1_endBlock_141 flX1_49 rfl k27 e29 ?_
        refine pm_bipush (v := 11) C dX1_endBlock_144 (by decide) ?_
        refine pm_iconst (v := 0) C dX1_endBlock_146 (by decide) ?_
        refine pm_iconst (v := 0) C dX1_endBlock_147 (by decide) ?_
        refine pm_iconst (v := 0) C dX1_endBlock_148 (by decide) ?_
        refine pm_aload_n C dX1_endBlock_149 rfl rfl ?_
        refine pm_iconst (v := 1) C dX1_endBlock_150 (by decide) ?_
        obtain ⟨v35, e36, hf⟩ := pm_bd hf
        refine pm_callS (as := [.ref x2, .int 1]) (st := [.int 0, .int 0, .int 0, .int 11, .ref v28]) C X dX1_endBlock_151 lnX1_105 myX12_item stX12_item ⟨by decide, by decide⟩ rfl rfl (Nat.le_of_ble_eq_true rfl) kc1 kc2 (ctX12_item e36 ?_)
        show pm_G g 154 [(0, .ref x0), (2, .ref x2), (3, .int x3), (4, .int x4)] [.int v35, .int 0, .int 0, .int 0, .int 11, .ref v28] (pm_setI h x0 10 y32) (pm_sz h - pm_sz h0) (pm_us h - pm_us h0)
        obtain ⟨v37, e38, hf⟩ := pm_bd hf
        refine pm_callV (as := [.int 11, .int 0, .int 0, .int 0, .int v35]) (st := []) C X dX1_endBlock_154 lnX1_318 myX0_emit viX0_emit ⟨by decide, by decide⟩ rfl rfl k30 (Nat.le_of_ble_eq_true rfl) kc1 kc2 (ctX0_emit e38 ?_)
        have K39 := pm_S3.trans (kpX0_emit e38) (pm_S3I K0)
        show pm_G g 157 [(0, .ref x0), (2, .ref x2), (3, .int x3), (4, .int x4)] [.int v37.1] v37.2 (pm_sz h - pm_sz h0) (pm_us h - pm_us h0)
        refine pm_pop C dX1_endBlock_157 rfl ?_
        have hf := Option.some.inj hf
        subst hf
        have hi := Option.some.inj (show some _ = some r from hi)
        subst hi
        exact pm_vret C X dX1_endBlock_158 rfl kc1 kc2 q
      · have hf := pm_ie hf c34
        refine pm_aload_n C dX1_endBlock_132 rfl rfl ?_
        refine pm_aload_n C dX1_endBlock_133 rfl rfl ?_
        obtain ⟨v40, e41, hf⟩ := pm_bd hf
        refine pm_callV (as := [.ref x2]) (st := []) C X dX1_endBlock_134 lnX1_412 myX1_putResults viX1_putResults ⟨by decide, by decide⟩ rfl rfl k27 (Nat.le_of_ble_eq_true rfl) kc1 kc2 (ctX1_putResults e41 ?_)
        have K42 := pm_S3.trans (kpX1_putResults e41) (pm_S3I K0)
        show pm_G g 137 [(0, .ref x0), (2, .ref x2), (3, .int x3), (4, .int x4)] [] v40 (pm_sz h - pm_sz h0) (pm_us h - pm_us h0)
        refine pm_goto (tgt := 158) C dX1_endBlock_137 (by decide) ?_
        have hf := Option.some.inj hf
        subst hf
        have hi := Option.some.inj (show some _ = some r from hi)
        subst hi
        exact pm_vret C X dX1_endBlock_158 rfl kc1 kc2 q
    · have hf := pm_ie hf c31
      refine pm_iload_n C dX1_endBlock_76 rfl rfl ?_
      refine pm_if_lt (tgt := 115) C dX1_endBlock_77 (by decide) (fun c43 => ?_) (fun c43 => ?_)
      · have hf := pm_it hf c43
        refine pm_aload_n C dX1_endBlock_115 rfl rfl ?_
        refine pm_dup C dX1_endBlock_116 rfl ?_
        refine pm_getI C dX1_endBlock_117 flX1_220 rfl k27 rfl ?_
        refine pm_iconst (v := 1) C dX1_endBlock_120 (by decide) ?_
        refine pm_isub C dX1_endBlock_121 ?_
        obtain ⟨y44, e45, hf⟩ := pm_lt hf
        refine pm_topI e45 ?_
        refine pm_putI C dX1_endBlock_122 flX1_220 rfl rfl k27 rfl rfl ?_
        refine pm_aload_n C dX1_endBlock_125 rfl rfl ?_
        refine pm_getI C dX1_endBlock_126 flX1_220 rfl k27 rfl ?_
        refine pm_if_le (tgt := 140) C dX1_endBlock_129 (by decide) (fun c46 => ?_) (fun c46 => ?_)
        · have hf := pm_it hf c46
          refine pm_aload_n C dX1_endBlock_140 rfl rfl ?_
          refine pm_getR C dX1_endBlock_141 flX1_49 rfl k27 e29 ?_
          refine pm_bipush (v := 11) C dX1_endBlock_144 (by decide) ?_
          refine pm_iconst (v := 0) C dX1_endBlock_146 (by decide) ?_
          refine pm_iconst (v := 0) C dX1_endBlock_147 (by decide) ?_
          refine pm_iconst (v := 0) C dX1_endBlock_148 (by decide) ?_
          refine pm_aload_n C dX1_endBlock_149 rfl rfl ?_
          refine pm_iconst (v := 1) C dX1_endBlock_150 (by decide) ?_
          obtain ⟨v47, e48, hf⟩ := pm_bd hf
          refine pm_callS (as := [.ref x2, .int 1]) (st := [.int 0, .int 0, .int 0, .int 11, .ref v28]) C X dX1_endBlock_151 lnX1_105 myX12_item stX12_item ⟨by decide, by decide⟩ rfl rfl (Nat.le_of_ble_eq_true rfl) kc1 kc2 (ctX12_item e48 ?_)
          show pm_G g 154 [(0, .ref x0), (2, .ref x2), (3, .int x3), (4, .int x4)] [.int v47, .int 0, .int 0, .int 0, .int 11, .ref v28] (pm_setI h x0 10 y44) (pm_sz h - pm_sz h0) (pm_us h - pm_us h0)
          obtain ⟨v49, e50, hf⟩ := pm_bd hf
          refine pm_callV (as := [.int 11, .int 0, .int 0, .int 0, .int v47]) (st := []) C X dX1_endBlock_154 lnX1_318 myX0_emit viX0_emit ⟨by decide, by decide⟩ rfl rfl k30 (Nat.le_of_ble_eq_true rfl) kc1 kc2 (ctX0_emit e50 ?_)
          have K51 := pm_S3.trans (kpX0_emit e50) (pm_S3I K0)
          show pm_G g 157 [(0, .ref x0), (2, .ref x2), (3, .int x3), (4, .int x4)] [.int v49.1] v49.2 (pm_sz h - pm_sz h0) (pm_us h - pm_us h0)
          refine pm_pop C dX1_endBlock_157 rfl ?_
          have hf := Option.some.inj hf
          subst hf
          have hi := Option.some.inj (show some _ = some r from hi)
          subst hi
          exact pm_vret C X dX1_endBlock_158 rfl kc1 kc2 q
        · have hf := pm_ie hf c46
          refine pm_aload_n C dX1_endBlock_132 rfl rfl ?_
          refine pm_aload_n C dX1_endBlock_133 rfl rfl ?_
          obtain ⟨v52, e53, hf⟩ := pm_bd hf
          refine pm_callV (as := [.ref x2]) (st := []) C X dX1_endBlock_134 lnX1_412 myX1_putResults viX1_putResults ⟨by decide, by decide⟩ rfl rfl k27 (Nat.le_of_ble_eq_true rfl) kc1 kc2 (ctX1_putResults e53 ?_)
          have K54 := pm_S3.trans (kpX1_putResults e53) (pm_S3I K0)
          show pm_G g 137 [(0, .ref x0), (2, .ref x2), (3, .int x3), (4, .int x4)] [] v52 (pm_sz h - pm_sz h0) (pm_us h - pm_us h0)
          refine pm_goto (tgt := 158) C dX1_endBlock_137 (by decide) ?_
          have hf := Option.some.inj hf
          subst hf
          have hi := Option.some.inj (show some _ = some r from hi)
          subst hi
          exact pm_vret C X dX1_endBlock_158 rfl kc1 kc2 q
      · have hf := pm_ie hf c43
        refine pm_aload_n C dX1_endBlock_80 rfl rfl ?_
        refine pm_getR C dX1_endBlock_81 flX1_49 rfl k27 e29 ?_
        refine pm_iload_n C dX1_endBlock_84 rfl rfl ?_
        refine pm_iconst (v := 1) C dX1_endBlock_85 (by decide) ?_
        obtain ⟨v55, e56, hf⟩ := pm_bd hf
        refine pm_callV (as := [.int x3, .int 1]) (st := []) C X dX1_endBlock_86 lnX1_410 myX0_of viX0_of ⟨by decide, by decide⟩ rfl rfl k30 (Nat.le_of_ble_eq_true rfl) kc1 kc2 (ctX0_of e56 ?_)
        show pm_G g 89 [(0, .ref x0), (2, .ref x2), (3, .int x3), (4, .int x4)] [.int v55] h (pm_sz h - pm_sz h0) (pm_us h - pm_us h0)
        refine pm_istore (lv' := [(5, .int v55), (0, .ref x0), (2, .ref x2), (3, .int x3), (4, .int x4)]) C dX1_endBlock_89 (pm_nl X (by decide)) rfl ?_
        refine pm_aload_n C dX1_endBlock_91 rfl rfl ?_
        refine pm_getR C dX1_endBlock_92 flX1_49 rfl k27 e29 ?_
        refine pm_iload_n C dX1_endBlock_95 rfl rfl ?_
        refine pm_aload_n C dX1_endBlock_96 rfl rfl ?_
        refine pm_getR C dX1_endBlock_97 flX1_49 rfl k27 e29 ?_
        refine pm_getI C dX1_endBlock_100 flX1_391 rfl k30 rfl ?_
        obtain ⟨v57, e58, hf⟩ := pm_bd hf
        refine pm_callV (as := [.int x3, .int (pm_I h v28 2)]) (st := []) C X dX1_endBlock_103 lnX1_403 myX0_aim viX0_aim ⟨by decide, by decide⟩ rfl rfl k30 (Nat.le_of_ble_eq_true rfl) kc1 kc2 (ctX0_aim e58 ?_)
        have K59 := pm_S3.trans (kpX0_aim e58) K0
        show pm_G g 106 [(5, .int v55), (0, .ref x0), (2, .ref x2), (3, .int x3), (4, .int x4)] [] v57 (pm_sz h - pm_sz h0) (pm_us h - pm_us h0)
        refine pm_iload C dX1_endBlock_106 rfl ?_
        refine pm_istore_n (lv' := [(3, .int v55), (5, .int v55), (0, .ref x0), (2, .ref x2), (4, .int x4)]) C dX1_endBlock_108 rfl (pm_nl X (by decide)) rfl ?_
        obtain ⟨y60, e61, hf⟩ := pm_lt hf
        refine pm_iinc (v := y60) (lv' := [(4, .int y60), (3, .int v55), (5, .int v55), (0, .ref x0), (2, .ref x2)]) C dX1_endBlock_109 rfl ((congrArg (x4 + ·) (by decide : Int32.ofInt 1 = 1)).trans e61) (pm_nl X (by decide)) rfl ?_
        refine pm_goto (tgt := 64) C dX1_endBlock_112 (by decide) ?_
        cases hf
        exact pa_join K59 (pm_sub [3, 4, 1, 0] rfl (ih.2.2.2.2 x0 x2 v55 y60 v57 (m0.trans (pm_S3.le K59)) hi))
set_option maxHeartbeats 4000000 in
set_option maxRecDepth 100000 in
theorem ctX1_endBlock {l : Launch} {G : pm_Gl} {h : pm_H} {a0 : Nat} {r : pm_H} {Qr : Option Value → pm_H → Prop} (hf : fX1_endBlock h a0 = some r) (q : Qr none r) : pm_Ct l G mX1_endBlock [.ref a0] h (pm_sz r - pm_sz h) (pm_us r - pm_us h) Qr := by
  refine pm_body pnX1 (Nat.le_of_ble_eq_true rfl) (fun g C X => ?_)
  have C : pm_C g cX1_endBlock RX1 := C
  show pm_G g 0 [(0, .ref a0)] [] h 0 0
  unfold fX1_endBlock at hf
  obtain ⟨n, hn⟩ := pm_lim_iter hf
  exact pa_start (pm_sub [0] rfl ((lpX1_endBlock C X q n).1 a0 h (pm_Le.rf h) hn))
theorem dX1_otherwise_0 : decode cX1_otherwise 0 = .ok (.aload_n 0, 1) := by decide +kernel
theorem dX1_otherwise_1 : decode cX1_otherwise 1 = .ok (.getfield 220, 3) := by decide +kernel
theorem dX1_otherwise_4 : decode cX1_otherwise 4 = .ok (.iconst 1, 1) := by decide +kernel
theorem dX1_otherwise_5 : decode cX1_otherwise 5 = .ok (.isub, 1) := by decide +kernel
theorem dX1_otherwise_6 : decode cX1_otherwise 6 = .ok (.istore_n 1, 1) := by decide +kernel
theorem dX1_otherwise_7 : decode cX1_otherwise 7 = .ok (.aload_n 0, 1) := by decide +kernel
theorem dX1_otherwise_8 : decode cX1_otherwise 8 = .ok (.iload_n 1, 1) := by decide +kernel
theorem dX1_otherwise_9 : decode cX1_otherwise 9 = .ok (.invokevirtual 397, 3) := by decide +kernel
theorem dX1_otherwise_12 : decode cX1_otherwise 12 = .ok (.aload_n 0, 1) := by decide +kernel
theorem dX1_otherwise_13 : decode cX1_otherwise 13 = .ok (.iconst 5, 1) := by decide +kernel
theorem dX1_otherwise_14 : decode cX1_otherwise 14 = .ok (.iload_n 1, 1) := by decide +kernel
theorem dX1_otherwise_15 : decode cX1_otherwise 15 = .ok (.invokevirtual 378, 3) := by decide +kernel
theorem dX1_otherwise_18 : decode cX1_otherwise 18 = .ok (.aload_n 0, 1) := by decide +kernel
theorem dX1_otherwise_19 : decode cX1_otherwise 19 = .ok (.iload_n 1, 1) := by decide +kernel
theorem dX1_otherwise_20 : decode cX1_otherwise 20 = .ok (.invokevirtual 400, 3) := by decide +kernel
theorem dX1_otherwise_23 : decode cX1_otherwise 23 = .ok (.aload_n 0, 1) := by decide +kernel
theorem dX1_otherwise_24 : decode cX1_otherwise 24 = .ok (.iload_n 1, 1) := by decide +kernel
theorem dX1_otherwise_25 : decode cX1_otherwise 25 = .ok (.iconst 0, 1) := by decide +kernel
theorem dX1_otherwise_26 : decode cX1_otherwise 26 = .ok (.iconst 5, 1) := by decide +kernel
theorem dX1_otherwise_27 : decode cX1_otherwise 27 = .ok (.invokevirtual 280, 3) := by decide +kernel
theorem dX1_otherwise_30 : decode cX1_otherwise 30 = .ok (.aload_n 0, 1) := by decide +kernel
theorem dX1_otherwise_31 : decode cX1_otherwise 31 = .ok (.iload_n 1, 1) := by decide +kernel
theorem dX1_otherwise_32 : decode cX1_otherwise 32 = .ok (.iconst 3, 1) := by decide +kernel
theorem dX1_otherwise_33 : decode cX1_otherwise 33 = .ok (.iconst 0, 1) := by decide +kernel
theorem dX1_otherwise_34 : decode cX1_otherwise 34 = .ok (.invokevirtual 280, 3) := by decide +kernel
theorem dX1_otherwise_37 : decode cX1_otherwise 37 = .ok (.aload_n 0, 1) := by decide +kernel
theorem dX1_otherwise_38 : decode cX1_otherwise 38 = .ok (.aload_n 0, 1) := by decide +kernel
theorem dX1_otherwise_39 : decode cX1_otherwise 39 = .ok (.iload_n 1, 1) := by decide +kernel
theorem dX1_otherwise_40 : decode cX1_otherwise 40 = .ok (.invokevirtual 301, 3) := by decide +kernel
theorem dX1_otherwise_43 : decode cX1_otherwise 43 = .ok (.invokevirtual 394, 3) := by decide +kernel
theorem dX1_otherwise_46 : decode cX1_otherwise 46 = .ok (.return_, 1) := by decide +kernel
noncomputable def fX1_otherwise_b43 (h : pm_H) (s0 : Nat) (s1 : Nat) : Option pm_H := if pm_kd h s1 = 1 then (fX1_putParameters h s1 s0).bind fun v25 => some v25 else none
noncomputable def fX1_otherwise_b18 (h : pm_H) (x0 : Nat) (x1 : Int32) : Option pm_H := if pm_kd h x0 = 1 then (fX1_aimCondition h x0 x1).bind fun v10 => if pm_kd v10 x0 = 1 then (fX1_setLabel v10 x0 x1 0 5).bind fun v14 => if pm_kd v14 x0 = 1 then (fX1_setLabel v14 x0 x1 3 0).bind fun v18 => if pm_kd v18 x0 = 1 then (fX1_shapeOfLabel v18 x0 x1).bind fun v22 => fX1_otherwise_b43 v22.2 v22.1 x0 else none else none else none else none
noncomputable def fX1_otherwise_b12 (h : pm_H) (x0 : Nat) (x1 : Int32) : Option pm_H := if pm_kd h x0 = 1 then (fX1_emitBranch h x0 5 x1).bind fun v7 => fX1_otherwise_b18 v7 x0 x1 else none
noncomputable def fX1_otherwise_b0 (h : pm_H) (x0 : Nat) : Option pm_H := if pm_kd h x0 = 1 then pm_let ((pm_I h x0 10) - 1) fun y2 => (fX1_takeAllResults h x0 y2).bind fun v4 => fX1_otherwise_b12 v4 x0 y2 else none
noncomputable def fX1_otherwise (h : pm_H) (a0 : Nat) : Option pm_H := fX1_otherwise_b0 h a0
set_option maxHeartbeats 4000000 in
set_option maxRecDepth 100000 in
theorem moX1_otherwise_b43 {h : pm_H} {s0 : Nat} {s1 : Nat} {r : pm_H} (hf : fX1_otherwise_b43 h s0 s1 = some r) : pm_Le h r := by
  unfold fX1_otherwise_b43 at hf
  have K0 := pm_S3.rf h
  obtain ⟨k24, hf⟩ := pm_if hf
  obtain ⟨v25, e26, hf⟩ := pm_bd hf
  have K27 := pm_S3.trans (kpX1_putParameters e26) K0
  have hf := Option.some.inj hf
  subst hf
  exact pm_S3.le K27
set_option maxHeartbeats 4000000 in
set_option maxRecDepth 100000 in
theorem moX1_otherwise_b18 {h : pm_H} {x0 : Nat} {x1 : Int32} {r : pm_H} (hf : fX1_otherwise_b18 h x0 x1 = some r) : pm_Le h r := by
  unfold fX1_otherwise_b18 at hf
  have K0 := pm_S3.rf h
  obtain ⟨k9, hf⟩ := pm_if hf
  obtain ⟨v10, e11, hf⟩ := pm_bd hf
  have K12 := pm_S3.trans (kpX1_aimCondition e11) K0
  obtain ⟨k13, hf⟩ := pm_if hf
  obtain ⟨v14, e15, hf⟩ := pm_bd hf
  have K16 := pm_S3.trans (kpX1_setLabel e15) K12
  obtain ⟨k17, hf⟩ := pm_if hf
  obtain ⟨v18, e19, hf⟩ := pm_bd hf
  have K20 := pm_S3.trans (kpX1_setLabel e19) K16
  obtain ⟨k21, hf⟩ := pm_if hf
  obtain ⟨v22, e23, hf⟩ := pm_bd hf
  exact ((pm_S3.le K20).trans (moX1_shapeOfLabel e23)).trans (moX1_otherwise_b43 hf)
set_option maxHeartbeats 4000000 in
set_option maxRecDepth 100000 in
theorem moX1_otherwise_b12 {h : pm_H} {x0 : Nat} {x1 : Int32} {r : pm_H} (hf : fX1_otherwise_b12 h x0 x1 = some r) : pm_Le h r := by
  unfold fX1_otherwise_b12 at hf
  have K0 := pm_S3.rf h
  obtain ⟨k6, hf⟩ := pm_if hf
  obtain ⟨v7, e8, hf⟩ := pm_bd hf
  exact ((pm_S3.le K0).trans (moX1_emitBranch e8)).trans (moX1_otherwise_b18 hf)
set_option maxHeartbeats 4000000 in
set_option maxRecDepth 100000 in
theorem moX1_otherwise_b0 {h : pm_H} {x0 : Nat} {r : pm_H} (hf : fX1_otherwise_b0 h x0 = some r) : pm_Le h r := by
  unfold fX1_otherwise_b0 at hf
  have K0 := pm_S3.rf h
  obtain ⟨k1, hf⟩ := pm_if hf
  obtain ⟨y2, e3, hf⟩ := pm_lt hf
  obtain ⟨v4, e5, hf⟩ := pm_bd hf
  exact ((pm_S3.le K0).trans (moX1_takeAllResults e5)).trans (moX1_otherwise_b12 hf)
set_option maxHeartbeats 4000000 in
set_option maxRecDepth 100000 in
theorem moX1_otherwise {h : pm_H} {a0 : Nat} {r : pm_H} (hf : fX1_otherwise h a0 = some r) : pm_Le h r := by
  unfold fX1_otherwise at hf
  have K0 := pm_S3.rf h
  exact (pm_S3.le K0).trans (moX1_otherwise_b0 hf)
set_option maxHeartbeats 4000000 in
set_option maxRecDepth 100000 in
theorem bX1_otherwise_43 {g : pm_Gm} {l : Launch} {G : pm_Gl} {Qr : Option Value → pm_H → Prop} (C : pm_C g cX1_otherwise RX1) {h0 h : pm_H} {s0 : Nat} {s1 : Nat} {r : pm_H} (X : pm_X g l G mX1_otherwise (pm_sz r - pm_sz h0) (pm_us r - pm_us h0) Qr) (m0 : pm_Le h0 h) (hf : fX1_otherwise_b43 h s0 s1 = some r) (q : Qr none r) : pm_G g 43 [] [.ref s0, .ref s1] h (pm_sz h - pm_sz h0) (pm_us h - pm_us h0) := by
  have le0 := moX1_otherwise_b43 hf
  have kc1 := Nat.sub_le_sub_right le0.1 (pm_sz h0)
  have kc2 := Nat.sub_le_sub_right le0.2 (pm_us h0)
  have K0 := pm_S3.rf h
  unfold fX1_otherwise_b43 at hf
  obtain ⟨k24, hf⟩ := pm_if hf
  obtain ⟨v25, e26, hf⟩ := pm_bd hf
  refine pm_callV (as := [.ref s0]) (st := []) C X dX1_otherwise_43 lnX1_394 myX1_putParameters viX1_putParameters ⟨by decide, by decide⟩ rfl rfl k24 (Nat.le_of_ble_eq_true rfl) kc1 kc2 (ctX1_putParameters e26 ?_)
  have K27 := pm_S3.trans (kpX1_putParameters e26) K0
  show pm_G g 46 [] [] v25 (pm_sz h - pm_sz h0) (pm_us h - pm_us h0)
  have hf := Option.some.inj hf
  subst hf
  exact pm_vret C X dX1_otherwise_46 rfl kc1 kc2 q
set_option maxHeartbeats 4000000 in
set_option maxRecDepth 100000 in
theorem bX1_otherwise_18 {g : pm_Gm} {l : Launch} {G : pm_Gl} {Qr : Option Value → pm_H → Prop} (C : pm_C g cX1_otherwise RX1) {h0 h : pm_H} {x0 : Nat} {x1 : Int32} {r : pm_H} (X : pm_X g l G mX1_otherwise (pm_sz r - pm_sz h0) (pm_us r - pm_us h0) Qr) (m0 : pm_Le h0 h) (hf : fX1_otherwise_b18 h x0 x1 = some r) (q : Qr none r) : pm_G g 18 [(0, .ref x0), (1, .int x1)] [] h (pm_sz h - pm_sz h0) (pm_us h - pm_us h0) := by
  have le0 := moX1_otherwise_b18 hf
  have kc1 := Nat.sub_le_sub_right le0.1 (pm_sz h0)
  have kc2 := Nat.sub_le_sub_right le0.2 (pm_us h0)
  have K0 := pm_S3.rf h
  unfold fX1_otherwise_b18 at hf
  refine pm_aload_n C dX1_otherwise_18 rfl rfl ?_
  refine pm_iload_n C dX1_otherwise_19 rfl rfl ?_
  obtain ⟨k9, hf⟩ := pm_if hf
  obtain ⟨v10, e11, hf⟩ := pm_bd hf
  refine pm_callV (as := [.int x1]) (st := []) C X dX1_otherwise_20 lnX1_400 myX1_aimCondition viX1_aimCondition ⟨by decide, by decide⟩ rfl rfl k9 (Nat.le_of_ble_eq_true rfl) kc1 kc2 (ctX1_aimCondition e11 ?_)
  have K12 := pm_S3.trans (kpX1_aimCondition e11) K0
  show pm_G g 23 [(0, .ref x0), (1, .int x1)] [] v10 (pm_sz h - pm_sz h0) (pm_us h - pm_us h0)
  refine pm_aload_n C dX1_otherwise_23 rfl rfl ?_
  refine pm_iload_n C dX1_otherwise_24 rfl rfl ?_
  refine pm_iconst (v := 0) C dX1_otherwise_25 (by decide) ?_
  refine pm_iconst (v := 5) C dX1_otherwise_26 (by decide) ?_
  obtain ⟨k13, hf⟩ := pm_if hf
  obtain ⟨v14, e15, hf⟩ := pm_bd hf
  refine pm_callV (as := [.int x1, .int 0, .int 5]) (st := []) C X dX1_otherwise_27 lnX1_280 myX1_setLabel viX1_setLabel ⟨by decide, by decide⟩ rfl rfl k13 (Nat.le_of_ble_eq_true rfl) kc1 kc2 (ctX1_setLabel e15 ?_)
  have K16 := pm_S3.trans (kpX1_setLabel e15) K12
  show pm_G g 30 [(0, .ref x0), (1, .int x1)] [] v14 (pm_sz h - pm_sz h0) (pm_us h - pm_us h0)
  refine pm_aload_n C dX1_otherwise_30 rfl rfl ?_
  refine pm_iload_n C dX1_otherwise_31 rfl rfl ?_
  refine pm_iconst (v := 3) C dX1_otherwise_32 (by decide) ?_
  refine pm_iconst (v := 0) C dX1_otherwise_33 (by decide) ?_
  obtain ⟨k17, hf⟩ := pm_if hf
  obtain ⟨v18, e19, hf⟩ := pm_bd hf
  refine pm_callV (as := [.int x1, .int 3, .int 0]) (st := []) C X dX1_otherwise_34 lnX1_280 myX1_setLabel viX1_setLabel ⟨by decide, by decide⟩ rfl rfl k17 (Nat.le_of_ble_eq_true rfl) kc1 kc2 (ctX1_setLabel e19 ?_)
  have K20 := pm_S3.trans (kpX1_setLabel e19) K16
  show pm_G g 37 [(0, .ref x0), (1, .int x1)] [] v18 (pm_sz h - pm_sz h0) (pm_us h - pm_us h0)
  refine pm_aload_n C dX1_otherwise_37 rfl rfl ?_
  refine pm_aload_n C dX1_otherwise_38 rfl rfl ?_
  refine pm_iload_n C dX1_otherwise_39 rfl rfl ?_
  obtain ⟨k21, hf⟩ := pm_if hf
  obtain ⟨v22, e23, hf⟩ := pm_bd hf
  refine pm_callV (as := [.int x1]) (st := [.ref x0]) C X dX1_otherwise_40 lnX1_301 myX1_shapeOfLabel viX1_shapeOfLabel ⟨by decide, by decide⟩ rfl rfl k21 (Nat.le_of_ble_eq_true rfl) (pa_le1 K20 m0 (moX1_shapeOfLabel e23) (moX1_otherwise_b43 hf)) (pa_le2 K20 m0 (moX1_shapeOfLabel e23) (moX1_otherwise_b43 hf)) (ctX1_shapeOfLabel e23 ?_)
  show pm_G g 43 [(0, .ref x0), (1, .int x1)] [.ref v22.1, .ref x0] v22.2 (pm_sz h - pm_sz h0 + (pm_sz v22.2 - pm_sz v18)) (pm_us h - pm_us h0 + (pm_us v22.2 - pm_us v18))
  refine pa_fin K20 m0 (moX1_shapeOfLabel e23) ?_
  exact pm_sub [] rfl (bX1_otherwise_43 C X ((m0.trans (pm_S3.le K20)).trans (moX1_shapeOfLabel e23)) hf q)
set_option maxHeartbeats 4000000 in
set_option maxRecDepth 100000 in
theorem bX1_otherwise_12 {g : pm_Gm} {l : Launch} {G : pm_Gl} {Qr : Option Value → pm_H → Prop} (C : pm_C g cX1_otherwise RX1) {h0 h : pm_H} {x0 : Nat} {x1 : Int32} {r : pm_H} (X : pm_X g l G mX1_otherwise (pm_sz r - pm_sz h0) (pm_us r - pm_us h0) Qr) (m0 : pm_Le h0 h) (hf : fX1_otherwise_b12 h x0 x1 = some r) (q : Qr none r) : pm_G g 12 [(0, .ref x0), (1, .int x1)] [] h (pm_sz h - pm_sz h0) (pm_us h - pm_us h0) := by
  have le0 := moX1_otherwise_b12 hf
  have kc1 := Nat.sub_le_sub_right le0.1 (pm_sz h0)
  have kc2 := Nat.sub_le_sub_right le0.2 (pm_us h0)
  have K0 := pm_S3.rf h
  unfold fX1_otherwise_b12 at hf
  refine pm_aload_n C dX1_otherwise_12 rfl rfl ?_
  refine pm_iconst (v := 5) C dX1_otherwise_13 (by decide) ?_
  refine pm_iload_n C dX1_otherwise_14 rfl rfl ?_
  obtain ⟨k6, hf⟩ := pm_if hf
  obtain ⟨v7, e8, hf⟩ := pm_bd hf
  refine pm_callV (as := [.int 5, .int x1]) (st := []) C X dX1_otherwise_15 lnX1_378 myX1_emitBranch viX1_emitBranch ⟨by decide, by decide⟩ rfl rfl k6 (Nat.le_of_ble_eq_true rfl) (pa_le1 K0 m0 (moX1_emitBranch e8) (moX1_otherwise_b18 hf)) (pa_le2 K0 m0 (moX1_emitBranch e8) (moX1_otherwise_b18 hf)) (ctX1_emitBranch e8 ?_)
  show pm_G g 18 [(0, .ref x0), (1, .int x1)] [] v7 (pm_sz h - pm_sz h0 + (pm_sz v7 - pm_sz h)) (pm_us h - pm_us h0 + (pm_us v7 - pm_us h))
  refine pa_fin K0 m0 (moX1_emitBranch e8) ?_
  exact pm_sub [0, 1] rfl (bX1_otherwise_18 C X ((m0.trans (pm_S3.le K0)).trans (moX1_emitBranch e8)) hf q)
set_option maxHeartbeats 4000000 in
set_option maxRecDepth 100000 in
theorem bX1_otherwise_0 {g : pm_Gm} {l : Launch} {G : pm_Gl} {Qr : Option Value → pm_H → Prop} (C : pm_C g cX1_otherwise RX1) {h0 h : pm_H} {x0 : Nat} {r : pm_H} (X : pm_X g l G mX1_otherwise (pm_sz r - pm_sz h0) (pm_us r - pm_us h0) Qr) (m0 : pm_Le h0 h) (hf : fX1_otherwise_b0 h x0 = some r) (q : Qr none r) : pm_G g 0 [(0, .ref x0)] [] h (pm_sz h - pm_sz h0) (pm_us h - pm_us h0) := by
  have le0 := moX1_otherwise_b0 hf
  have kc1 := Nat.sub_le_sub_right le0.1 (pm_sz h0)
  have kc2 := Nat.sub_le_sub_right le0.2 (pm_us h0)
  have K0 := pm_S3.rf h
  unfold fX1_otherwise_b0 at hf
  refine pm_aload_n C dX1_otherwise_0 rfl rfl ?_
  obtain ⟨k1, hf⟩ := pm_if hf
  refine pm_getI C dX1_otherwise_1 flX1_220 rfl k1 rfl ?_
  refine pm_iconst (v := 1) C dX1_otherwise_4 (by decide) ?_
  refine pm_isub C dX1_otherwise_5 ?_
  obtain ⟨y2, e3, hf⟩ := pm_lt hf
  refine pm_topI e3 ?_
  refine pm_istore_n (lv' := [(1, .int y2), (0, .ref x0)]) C dX1_otherwise_6 rfl (pm_nl X (by decide)) rfl ?_
  refine pm_aload_n C dX1_otherwise_7 rfl rfl ?_
  refine pm_iload_n C dX1_otherwise_8 rfl rfl ?_
  obtain ⟨v4, e5, hf⟩ := pm_bd hf
  refine pm_callV (as := [.int y2]) (st := []) C X dX1_otherwise_9 lnX1_397 myX1_takeAllResults viX1_takeAllResults ⟨by decide, by decide⟩ rfl rfl k1 (Nat.le_of_ble_eq_true rfl) (pa_le1 K0 m0 (moX1_takeAllResults e5) (moX1_otherwise_b12 hf)) (pa_le2 K0 m0 (moX1_takeAllResults e5) (moX1_otherwise_b12 hf)) (ctX1_takeAllResults e5 ?_)
  show pm_G g 12 [(1, .int y2), (0, .ref x0)] [] v4 (pm_sz h - pm_sz h0 + (pm_sz v4 - pm_sz h)) (pm_us h - pm_us h0 + (pm_us v4 - pm_us h))
  refine pa_fin K0 m0 (moX1_takeAllResults e5) ?_
  exact pm_sub [1, 0] rfl (bX1_otherwise_12 C X ((m0.trans (pm_S3.le K0)).trans (moX1_takeAllResults e5)) hf q)
set_option maxHeartbeats 4000000 in
set_option maxRecDepth 100000 in
theorem ctX1_otherwise {l : Launch} {G : pm_Gl} {h : pm_H} {a0 : Nat} {r : pm_H} {Qr : Option Value → pm_H → Prop} (hf : fX1_otherwise h a0 = some r) (q : Qr none r) : pm_Ct l G mX1_otherwise [.ref a0] h (pm_sz r - pm_sz h) (pm_us r - pm_us h) Qr := by
  refine pm_body pnX1 (Nat.le_of_ble_eq_true rfl) (fun g C X => ?_)
  have C : pm_C g cX1_otherwise RX1 := C
  show pm_G g 0 [(0, .ref a0)] [] h 0 0
  unfold fX1_otherwise at hf
  exact pa_start (pm_sub [0] rfl (bX1_otherwise_0 C X (pm_Le.rf h) hf q))
