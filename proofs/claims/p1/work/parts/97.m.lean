theorem dX10_fillElement_0 : decode cX10_fillElement 0 = .ok (.iload_n 2, 1) := by decide +kernel
theorem dX10_fillElement_1 : decode cX10_fillElement 1 = .ok (.bipush 7, 2) := by decide +kernel
theorem dX10_fillElement_3 : decode cX10_fillElement 3 = .ok (.imul, 1) := by decide +kernel
theorem dX10_fillElement_4 : decode cX10_fillElement 4 = .ok (.istore_n 3, 1) := by decide +kernel
theorem dX10_fillElement_5 : decode cX10_fillElement 5 = .ok (.aload_n 1, 1) := by decide +kernel
theorem dX10_fillElement_6 : decode cX10_fillElement 6 = .ok (.getfield 222, 3) := by decide +kernel
theorem dX10_fillElement_9 : decode cX10_fillElement 9 = .ok (.getfield 154, 3) := by decide +kernel
theorem dX10_fillElement_12 : decode cX10_fillElement 12 = .ok (.iload_n 3, 1) := by decide +kernel
theorem dX10_fillElement_13 : decode cX10_fillElement 13 = .ok (.iconst 4, 1) := by decide +kernel
theorem dX10_fillElement_14 : decode cX10_fillElement 14 = .ok (.iadd, 1) := by decide +kernel
theorem dX10_fillElement_15 : decode cX10_fillElement 15 = .ok (.invokestatic 104, 3) := by decide +kernel
theorem dX10_fillElement_18 : decode cX10_fillElement 18 = .ok (.istore 4, 2) := by decide +kernel
theorem dX10_fillElement_20 : decode cX10_fillElement 20 = .ok (.aload_n 1, 1) := by decide +kernel
theorem dX10_fillElement_21 : decode cX10_fillElement 21 = .ok (.getfield 222, 3) := by decide +kernel
theorem dX10_fillElement_24 : decode cX10_fillElement 24 = .ok (.getfield 154, 3) := by decide +kernel
theorem dX10_fillElement_27 : decode cX10_fillElement 27 = .ok (.iload_n 3, 1) := by decide +kernel
theorem dX10_fillElement_28 : decode cX10_fillElement 28 = .ok (.bipush 6, 2) := by decide +kernel
theorem dX10_fillElement_30 : decode cX10_fillElement 30 = .ok (.iadd, 1) := by decide +kernel
theorem dX10_fillElement_31 : decode cX10_fillElement 31 = .ok (.invokestatic 104, 3) := by decide +kernel
theorem dX10_fillElement_34 : decode cX10_fillElement 34 = .ok (.ifCond .eq 7, 3) := by decide +kernel
theorem dX10_fillElement_37 : decode cX10_fillElement 37 = .ok (.iconst 1, 1) := by decide +kernel
theorem dX10_fillElement_38 : decode cX10_fillElement 38 = .ok (.goto 4, 3) := by decide +kernel
theorem dX10_fillElement_41 : decode cX10_fillElement 41 = .ok (.iconst 0, 1) := by decide +kernel
theorem dX10_fillElement_42 : decode cX10_fillElement 42 = .ok (.istore 5, 2) := by decide +kernel
theorem dX10_fillElement_44 : decode cX10_fillElement 44 = .ok (.iload 4, 2) := by decide +kernel
theorem dX10_fillElement_46 : decode cX10_fillElement 46 = .ok (.ifCond .lt 25, 3) := by decide +kernel
theorem dX10_fillElement_49 : decode cX10_fillElement 49 = .ok (.iload 4, 2) := by decide +kernel
theorem dX10_fillElement_51 : decode cX10_fillElement 51 = .ok (.aload_n 0, 1) := by decide +kernel
theorem dX10_fillElement_52 : decode cX10_fillElement 52 = .ok (.getfield 61, 3) := by decide +kernel
theorem dX10_fillElement_55 : decode cX10_fillElement 55 = .ok (.if_icmp .gt 16, 3) := by decide +kernel
theorem dX10_fillElement_58 : decode cX10_fillElement 58 = .ok (.iload_n 2, 1) := by decide +kernel
theorem dX10_fillElement_59 : decode cX10_fillElement 59 = .ok (.ifCond .lt 12, 3) := by decide +kernel
theorem dX10_fillElement_62 : decode cX10_fillElement 62 = .ok (.iload_n 2, 1) := by decide +kernel
theorem dX10_fillElement_63 : decode cX10_fillElement 63 = .ok (.aload_n 1, 1) := by decide +kernel
theorem dX10_fillElement_64 : decode cX10_fillElement 64 = .ok (.getfield 209, 3) := by decide +kernel
theorem dX10_fillElement_67 : decode cX10_fillElement 67 = .ok (.arraylength, 1) := by decide +kernel
theorem dX10_fillElement_68 : decode cX10_fillElement 68 = .ok (.if_icmp .lt 4, 3) := by decide +kernel
theorem dX10_fillElement_71 : decode cX10_fillElement 71 = .ok (.return_, 1) := by decide +kernel
theorem dX10_fillElement_72 : decode cX10_fillElement 72 = .ok (.iload 4, 2) := by decide +kernel
theorem dX10_fillElement_74 : decode cX10_fillElement 74 = .ok (.newarray .int, 2) := by decide +kernel
theorem dX10_fillElement_76 : decode cX10_fillElement 76 = .ok (.astore 6, 2) := by decide +kernel
theorem dX10_fillElement_78 : decode cX10_fillElement 78 = .ok (.aload_n 0, 1) := by decide +kernel
theorem dX10_fillElement_79 : decode cX10_fillElement 79 = .ok (.getfield 72, 3) := by decide +kernel
theorem dX10_fillElement_82 : decode cX10_fillElement 82 = .ok (.aload_n 1, 1) := by decide +kernel
theorem dX10_fillElement_83 : decode cX10_fillElement 83 = .ok (.getfield 222, 3) := by decide +kernel
theorem dX10_fillElement_86 : decode cX10_fillElement 86 = .ok (.aload_n 1, 1) := by decide +kernel
theorem dX10_fillElement_87 : decode cX10_fillElement 87 = .ok (.getfield 222, 3) := by decide +kernel
theorem dX10_fillElement_90 : decode cX10_fillElement 90 = .ok (.getfield 154, 3) := by decide +kernel
theorem dX10_fillElement_93 : decode cX10_fillElement 93 = .ok (.iload_n 3, 1) := by decide +kernel
theorem dX10_fillElement_94 : decode cX10_fillElement 94 = .ok (.iconst 3, 1) := by decide +kernel
theorem dX10_fillElement_95 : decode cX10_fillElement 95 = .ok (.iadd, 1) := by decide +kernel
theorem dX10_fillElement_96 : decode cX10_fillElement 96 = .ok (.invokestatic 104, 3) := by decide +kernel
theorem dX10_fillElement_99 : decode cX10_fillElement 99 = .ok (.invokevirtual 226, 3) := by decide +kernel
theorem dX10_fillElement_102 : decode cX10_fillElement 102 = .ok (.iconst 0, 1) := by decide +kernel
theorem dX10_fillElement_103 : decode cX10_fillElement 103 = .ok (.istore 7, 2) := by decide +kernel
theorem dX10_fillElement_105 : decode cX10_fillElement 105 = .ok (.iload 7, 2) := by decide +kernel
theorem dX10_fillElement_107 : decode cX10_fillElement 107 = .ok (.iload 4, 2) := by decide +kernel
theorem dX10_fillElement_109 : decode cX10_fillElement 109 = .ok (.if_icmp .ge 47, 3) := by decide +kernel
theorem dX10_fillElement_112 : decode cX10_fillElement 112 = .ok (.aload 6, 2) := by decide +kernel
theorem dX10_fillElement_114 : decode cX10_fillElement 114 = .ok (.iload 7, 2) := by decide +kernel
theorem dX10_fillElement_116 : decode cX10_fillElement 116 = .ok (.iload 5, 2) := by decide +kernel
theorem dX10_fillElement_118 : decode cX10_fillElement 118 = .ok (.ifCond .eq 12, 3) := by decide +kernel
theorem dX10_fillElement_121 : decode cX10_fillElement 121 = .ok (.aload_n 0, 1) := by decide +kernel
theorem dX10_fillElement_122 : decode cX10_fillElement 122 = .ok (.aload_n 1, 1) := by decide +kernel
theorem dX10_fillElement_123 : decode cX10_fillElement 123 = .ok (.invokevirtual 232, 3) := by decide +kernel
theorem dX10_fillElement_126 : decode cX10_fillElement 126 = .ok (.l2i, 1) := by decide +kernel
theorem dX10_fillElement_127 : decode cX10_fillElement 127 = .ok (.goto 22, 3) := by decide +kernel
theorem dX10_fillElement_130 : decode cX10_fillElement 130 = .ok (.aload_n 1, 1) := by decide +kernel
theorem dX10_fillElement_131 : decode cX10_fillElement 131 = .ok (.getfield 188, 3) := by decide +kernel
theorem dX10_fillElement_134 : decode cX10_fillElement 134 = .ok (.aload_n 0, 1) := by decide +kernel
theorem dX10_fillElement_135 : decode cX10_fillElement 135 = .ok (.getfield 72, 3) := by decide +kernel
theorem dX10_fillElement_138 : decode cX10_fillElement 138 = .ok (.bipush 32, 2) := by decide +kernel
theorem dX10_fillElement_140 : decode cX10_fillElement 140 = .ok (.invokevirtual 236, 3) := by decide +kernel
theorem dX10_fillElement_143 : decode cX10_fillElement 143 = .ok (.invokestatic 240, 3) := by decide +kernel
theorem dX10_fillElement_146 : decode cX10_fillElement 146 = .ok (.invokestatic 104, 3) := by decide +kernel
theorem dX10_fillElement_149 : decode cX10_fillElement 149 = .ok (.iastore, 1) := by decide +kernel
theorem dX10_fillElement_150 : decode cX10_fillElement 150 = .ok (.iinc 7 1, 3) := by decide +kernel
theorem dX10_fillElement_153 : decode cX10_fillElement 153 = .ok (.goto (-48), 3) := by decide +kernel
theorem dX10_fillElement_156 : decode cX10_fillElement 156 = .ok (.aload_n 1, 1) := by decide +kernel
theorem dX10_fillElement_157 : decode cX10_fillElement 157 = .ok (.getfield 209, 3) := by decide +kernel
theorem dX10_fillElement_160 : decode cX10_fillElement 160 = .ok (.iload_n 2, 1) := by decide +kernel
theorem dX10_fillElement_161 : decode cX10_fillElement 161 = .ok (.aload 6, 2) := by decide +kernel
theorem dX10_fillElement_163 : decode cX10_fillElement 163 = .ok (.aastore, 1) := by decide +kernel
theorem dX10_fillElement_164 : decode cX10_fillElement 164 = .ok (.aload_n 1, 1) := by decide +kernel
theorem dX10_fillElement_165 : decode cX10_fillElement 165 = .ok (.getfield 244, 3) := by decide +kernel
theorem dX10_fillElement_168 : decode cX10_fillElement 168 = .ok (.iload_n 2, 1) := by decide +kernel
theorem dX10_fillElement_169 : decode cX10_fillElement 169 = .ok (.iload 4, 2) := by decide +kernel
theorem dX10_fillElement_171 : decode cX10_fillElement 171 = .ok (.invokestatic 184, 3) := by decide +kernel
theorem dX10_fillElement_174 : decode cX10_fillElement 174 = .ok (.aload_n 0, 1) := by decide +kernel
theorem dX10_fillElement_175 : decode cX10_fillElement 175 = .ok (.dup, 1) := by decide +kernel
theorem dX10_fillElement_176 : decode cX10_fillElement 176 = .ok (.getfield 61, 3) := by decide +kernel
theorem dX10_fillElement_179 : decode cX10_fillElement 179 = .ok (.iload 4, 2) := by decide +kernel
theorem dX10_fillElement_181 : decode cX10_fillElement 181 = .ok (.isub, 1) := by decide +kernel
theorem dX10_fillElement_182 : decode cX10_fillElement 182 = .ok (.putfield 61, 3) := by decide +kernel
theorem dX10_fillElement_185 : decode cX10_fillElement 185 = .ok (.return_, 1) := by decide +kernel
noncomputable def tX10_fillElement_0 (x0 : Nat) (x1 : Nat) (x2 : Int32) (h : pm_H) : Option (((Nat × Nat × Int32 × pm_H) ⊕ (Nat × Nat × Int32 × Int32 × Int32 × Int32 × pm_H) ⊕ (Nat × Nat × Int32 × Int32 × Int32 × Int32 × Nat × pm_H) ⊕ (Nat × Nat × Int32 × Int32 × Int32 × Nat × Int32 × pm_H)) ⊕ pm_H) := pm_let (x2 * 7) fun y1 => if pm_kd h x1 = 4 then (pm_R h x1 0).bind fun v4 => if pm_kd h v4 = 7 then (pm_R h v4 9).bind fun v7 => (fX12_item h v7 (y1 + 4)).bind fun v9 => (fX12_item h v7 (y1 + 6)).bind fun v11 => if v11 = 0 then (some (.inl (.inr (.inl ((x0, x1, x2, y1, v9, 0, h)))))) else (some (.inl (.inr (.inl ((x0, x1, x2, y1, v9, 1, h)))))) else none else none
noncomputable def tX10_fillElement_42 (x0 : Nat) (x1 : Nat) (x2 : Int32) (x3 : Int32) (x4 : Int32) (s0 : Int32) (h : pm_H) : Option (((Nat × Nat × Int32 × pm_H) ⊕ (Nat × Nat × Int32 × Int32 × Int32 × Int32 × pm_H) ⊕ (Nat × Nat × Int32 × Int32 × Int32 × Int32 × Nat × pm_H) ⊕ (Nat × Nat × Int32 × Int32 × Int32 × Nat × Int32 × pm_H)) ⊕ pm_H) := if x4 < 0 then (some (.inr (h))) else (if pm_kd h x0 = 10 then if (pm_I h x0 17) < x4 then (some (.inr (h))) else (if x2 < 0 then (some (.inr (h))) else (if pm_kd h x1 = 4 then (pm_R h x1 5).bind fun v19 => if pm_kd h v19 = 36 then if x2 < (Int32.ofNat (pm_ln h v19)) then (if ¬ x4 < 0 ∧ x4.toNatClampNeg * 4 ≤ 536870912 then some (.inl (.inr (.inr (.inl ((x0, x1, x2, x3, x4, s0, pm_sz h, pm_new h 34 x4.toNatClampNeg)))))) else none) else (some (.inr (h))) else none else none)) else none)
noncomputable def tX10_fillElement_76 (x0 : Nat) (x1 : Nat) (x2 : Int32) (x3 : Int32) (x4 : Int32) (x5 : Int32) (s0 : Nat) (h : pm_H) : Option (((Nat × Nat × Int32 × pm_H) ⊕ (Nat × Nat × Int32 × Int32 × Int32 × Int32 × pm_H) ⊕ (Nat × Nat × Int32 × Int32 × Int32 × Int32 × Nat × pm_H) ⊕ (Nat × Nat × Int32 × Int32 × Int32 × Nat × Int32 × pm_H)) ⊕ pm_H) := if pm_kd h x0 = 10 then (pm_R h x0 18).bind fun v25 => if pm_kd h x1 = 4 then (pm_R h x1 0).bind fun v28 => if pm_kd h v28 = 7 then (pm_R h v28 9).bind fun v31 => (fX12_item h v31 (x3 + 3)).bind fun v33 => if pm_kd h v25 = 9 then (fX9_open h v25 v28 v33).bind fun v36 => some (.inl (.inr (.inr (.inr ((x0, x1, x2, x4, x5, s0, 0, v36)))))) else none else none else none else none
noncomputable def tX10_fillElement_105 (x0 : Nat) (x1 : Nat) (x2 : Int32) (x4 : Int32) (x5 : Int32) (x6 : Nat) (x7 : Int32) (h : pm_H) : Option (((Nat × Nat × Int32 × pm_H) ⊕ (Nat × Nat × Int32 × Int32 × Int32 × Int32 × pm_H) ⊕ (Nat × Nat × Int32 × Int32 × Int32 × Int32 × Nat × pm_H) ⊕ (Nat × Nat × Int32 × Int32 × Int32 × Nat × Int32 × pm_H)) ⊕ pm_H) := if x4 ≤ x7 then (if pm_kd h x1 = 4 then (pm_R h x1 5).bind fun v41 => if pm_kd h v41 = 36 then if pm_kd h x6 = 34 then if pm_in x2 (pm_ln h v41) then (pm_R (pm_setR h v41 x2.toNatClampNeg (some x6)) x1 6).bind fun v46 => (fX12_setItem (pm_setR h v41 x2.toNatClampNeg (some x6)) v46 x2 x4).bind fun v48 => if pm_kd v48 x0 = 10 then pm_let ((pm_I v48 x0 17) - x4) fun y52 => some (.inr (pm_setI v48 x0 17 y52)) else none else none else none else none else none) else (if x5 = 0 then (if pm_kd h x1 = 4 then (pm_R h x1 1).bind fun v56 => if pm_kd h x0 = 10 then (pm_R h x0 18).bind fun v59 => if pm_kd h v59 = 9 then (fX9_number h v59 32).bind fun v62 => pm_let (fX12_index v62.1) fun v65 => (fX12_item v62.2 v56 v65).bind fun v67 => if pm_kd v62.2 x6 = 34 then if pm_in x7 (pm_ln v62.2 x6) then pm_let (x7 + 1) fun y71 => some (.inl (.inr (.inr (.inr ((x0, x1, x2, x4, x5, x6, y71, pm_setI v62.2 x6 x7.toNatClampNeg v67)))))) else none else none else none else none else none) else (if pm_kd h x0 = 10 then (fX10_constant h x0 x1).bind fun v74 => if pm_kd v74.2 x6 = 34 then if pm_in x7 (pm_ln v74.2 x6) then pm_let (x7 + 1) fun y79 => some (.inl (.inr (.inr (.inr ((x0, x1, x2, x4, x5, x6, y79, pm_setI v74.2 x6 x7.toNatClampNeg v74.1.toInt32)))))) else none else none else none))
noncomputable def sX10_fillElement : ((Nat × Nat × Int32 × pm_H) ⊕ (Nat × Nat × Int32 × Int32 × Int32 × Int32 × pm_H) ⊕ (Nat × Nat × Int32 × Int32 × Int32 × Int32 × Nat × pm_H) ⊕ (Nat × Nat × Int32 × Int32 × Int32 × Nat × Int32 × pm_H)) → Option (((Nat × Nat × Int32 × pm_H) ⊕ (Nat × Nat × Int32 × Int32 × Int32 × Int32 × pm_H) ⊕ (Nat × Nat × Int32 × Int32 × Int32 × Int32 × Nat × pm_H) ⊕ (Nat × Nat × Int32 × Int32 × Int32 × Nat × Int32 × pm_H)) ⊕ pm_H) := fun z => match z with
  | .inl (x0, x1, x2, h) => tX10_fillElement_0 x0 x1 x2 h
  | .inr (.inl (x0, x1, x2, x3, x4, s0, h)) => tX10_fillElement_42 x0 x1 x2 x3 x4 s0 h
  | .inr (.inr (.inl (x0, x1, x2, x3, x4, x5, s0, h))) => tX10_fillElement_76 x0 x1 x2 x3 x4 x5 s0 h
  | .inr (.inr (.inr (x0, x1, x2, x4, x5, x6, x7, h))) => tX10_fillElement_105 x0 x1 x2 x4 x5 x6 x7 h
noncomputable def fX10_fillElement (h : pm_H) (a0 : Nat) (p1 : Nat) (p2 : Int32) : Option pm_H := pm_lim sX10_fillElement (.inl ((a0, p1, p2, h)))
set_option maxHeartbeats 4000000 in
set_option maxRecDepth 100000 in
theorem mlX10_fillElement {r : pm_H} : ∀ n : Nat, (∀ (x0 : Nat) (x1 : Nat) (x2 : Int32) (h : pm_H), pm_iter sX10_fillElement n (.inl (x0, x1, x2, h)) = some r → pm_Le h r) ∧ (∀ (x0 : Nat) (x1 : Nat) (x2 : Int32) (x3 : Int32) (x4 : Int32) (s0 : Int32) (h : pm_H), pm_iter sX10_fillElement n (.inr (.inl (x0, x1, x2, x3, x4, s0, h))) = some r → pm_Le h r) ∧ (∀ (x0 : Nat) (x1 : Nat) (x2 : Int32) (x3 : Int32) (x4 : Int32) (x5 : Int32) (s0 : Nat) (h : pm_H), pm_iter sX10_fillElement n (.inr (.inr (.inl (x0, x1, x2, x3, x4, x5, s0, h)))) = some r → pm_Le h r) ∧ (∀ (x0 : Nat) (x1 : Nat) (x2 : Int32) (x4 : Int32) (x5 : Int32) (x6 : Nat) (x7 : Int32) (h : pm_H), pm_iter sX10_fillElement n (.inr (.inr (.inr (x0, x1, x2, x4, x5, x6, x7, h)))) = some r → pm_Le h r) := by
  intro n
  induction n with
  | zero => exact ⟨fun _ _ _ _ hf => (by cases hf), fun _ _ _ _ _ _ _ hf => (by cases hf), fun _ _ _ _ _ _ _ _ hf => (by cases hf), fun _ _ _ _ _ _ _ _ hf => (by cases hf)⟩
  | succ n ih =>
    refine ⟨fun x0 x1 x2 h hf => ?_, ?_⟩
    · obtain ⟨y, hf, hi⟩ := pm_iter_s hf
      have hf : tX10_fillElement_0 x0 x1 x2 h = some y := hf
      unfold tX10_fillElement_0 at hf
      have K0 := pm_S3.rf h
      obtain ⟨y1, e2, hf⟩ := pm_lt hf
      obtain ⟨k3, hf⟩ := pm_if hf
      obtain ⟨v4, e5, hf⟩ := pm_bd hf
      obtain ⟨k6, hf⟩ := pm_if hf
      obtain ⟨v7, e8, hf⟩ := pm_bd hf
      obtain ⟨v9, e10, hf⟩ := pm_bd hf
      obtain ⟨v11, e12, hf⟩ := pm_bd hf
      by_cases c13 : v11 = 0
      · have hf := pm_it hf c13
        cases hf
        exact (pm_S3.le K0).trans (ih.2.1 x0 x1 x2 y1 v9 0 h hi)
      · have hf := pm_ie hf c13
        cases hf
        exact (pm_S3.le K0).trans (ih.2.1 x0 x1 x2 y1 v9 1 h hi)
    refine ⟨fun x0 x1 x2 x3 x4 s0 h hf => ?_, ?_⟩
    · obtain ⟨y, hf, hi⟩ := pm_iter_s hf
      have hf : tX10_fillElement_42 x0 x1 x2 x3 x4 s0 h = some y := hf
      unfold tX10_fillElement_42 at hf
      have K0 := pm_S3.rf h
      by_cases c14 : x4 < 0
      · have hf := pm_it hf c14
        have hf := Option.some.inj hf
        subst hf
        have hi := Option.some.inj (show some _ = some r from hi)
        subst hi
        exact pm_S3.le K0
      · have hf := pm_ie hf c14
        obtain ⟨k15, hf⟩ := pm_if hf
        by_cases c16 : (pm_I h x0 17) < x4
        · have hf := pm_it hf c16
          have hf := Option.some.inj hf
          subst hf
          have hi := Option.some.inj (show some _ = some r from hi)
          subst hi
          exact pm_S3.le K0
        · have hf := pm_ie hf c16
          by_cases c17 : x2 < 0
          · have hf := pm_it hf c17
            have hf := Option.some.inj hf
            subst hf
            have hi := Option.some.inj (show some _ = some r from hi)
            subst hi
            exact pm_S3.le K0
          · have hf := pm_ie hf c17
            obtain ⟨k18, hf⟩ := pm_if hf
            obtain ⟨v19, e20, hf⟩ := pm_bd hf
            obtain ⟨k21, hf⟩ := pm_if hf
            by_cases c22 : x2 < (Int32.ofNat (pm_ln h v19))
            · have hf := pm_it hf c22
              obtain ⟨u23, hf⟩ := pm_if hf
              cases hf
              exact ((pm_S3.le K0).trans (pm_Le_new _ _ _)).trans (ih.2.2.1 x0 x1 x2 x3 x4 s0 (pm_sz h) (pm_new h 34 x4.toNatClampNeg) hi)
            · have hf := pm_ie hf c22
              have hf := Option.some.inj hf
              subst hf
              have hi := Option.some.inj (show some _ = some r from hi)
              subst hi
              exact pm_S3.le K0
    refine ⟨fun x0 x1 x2 x3 x4 x5 s0 h hf => ?_, ?_⟩
    · obtain ⟨y, hf, hi⟩ := pm_iter_s hf
      have hf : tX10_fillElement_76 x0 x1 x2 x3 x4 x5 s0 h = some y := hf
      unfold tX10_fillElement_76 at hf
      have K0 := pm_S3.rf h
      obtain ⟨k24, hf⟩ := pm_if hf
      obtain ⟨v25, e26, hf⟩ := pm_bd hf
      obtain ⟨k27, hf⟩ := pm_if hf
      obtain ⟨v28, e29, hf⟩ := pm_bd hf
      obtain ⟨k30, hf⟩ := pm_if hf
      obtain ⟨v31, e32, hf⟩ := pm_bd hf
      obtain ⟨v33, e34, hf⟩ := pm_bd hf
      obtain ⟨k35, hf⟩ := pm_if hf
      obtain ⟨v36, e37, hf⟩ := pm_bd hf
      have K38 := pm_S3.trans (kpX9_open e37) K0
      cases hf
      exact (pm_S3.le K38).trans (ih.2.2.2 x0 x1 x2 x4 x5 s0 0 v36 hi)
    refine fun x0 x1 x2 x4 x5 x6 x7 h hf => ?_
    obtain ⟨y, hf, hi⟩ := pm_iter_s hf
    have hf : tX10_fillElement_105 x0 x1 x2 x4 x5 x6 x7 h = some y := hf
    unfold tX10_fillElement_105 at hf
    have K0 := pm_S3.rf h
    by_cases c39 : x4 ≤ x7
    · have hf := pm_it hf c39
      obtain ⟨k40, hf⟩ := pm_if hf
      obtain ⟨v41, e42, hf⟩ := pm_bd hf
      obtain ⟨k43, hf⟩ := pm_if hf
      obtain ⟨k44, hf⟩ := pm_if hf
      obtain ⟨u45, hf⟩ := pm_if hf
      obtain ⟨v46, e47, hf⟩ := pm_bd hf
      obtain ⟨v48, e49, hf⟩ := pm_bd hf
      have K50 := pm_S3.trans (kpX12_setItem e49) (pm_S3R K0)
      obtain ⟨k51, hf⟩ := pm_if hf
      obtain ⟨y52, e53, hf⟩ := pm_lt hf
      have hf := Option.some.inj hf
      subst hf
      have hi := Option.some.inj (show some _ = some r from hi)
      subst hi
      exact pm_S3.le (pm_S3I K50)
    · have hf := pm_ie hf c39
      by_cases c54 : x5 = 0
      · have hf := pm_it hf c54
        obtain ⟨k55, hf⟩ := pm_if hf
        obtain ⟨v56, e57, hf⟩ := pm_bd hf
        obtain ⟨k58, hf⟩ := pm_if hf
        obtain ⟨v59, e60, hf⟩ := pm_bd hf
        obtain ⟨k61, hf⟩ := pm_if hf
        obtain ⟨v62, e63, hf⟩ := pm_bd hf
        have K64 := pm_S3.trans (kpX9_number e63) K0
        obtain ⟨v65, e66, hf⟩ := pm_lt hf
        obtain ⟨v67, e68, hf⟩ := pm_bd hf
        obtain ⟨k69, hf⟩ := pm_if hf
        obtain ⟨u70, hf⟩ := pm_if hf
        obtain ⟨y71, e72, hf⟩ := pm_lt hf
        cases hf
        exact (pm_S3.le (pm_S3I K64)).trans (ih.2.2.2 x0 x1 x2 x4 x5 x6 y71 (pm_setI v62.2 x6 x7.toNatClampNeg v67) hi)
      · have hf := pm_ie hf c54
        obtain ⟨k73, hf⟩ := pm_if hf
        obtain ⟨v74, e75, hf⟩ := pm_bd hf
        have K76 := pm_S3.trans (kpX10_constant e75) K0
        obtain ⟨k77, hf⟩ := pm_if hf
        obtain ⟨u78, hf⟩ := pm_if hf
        obtain ⟨y79, e80, hf⟩ := pm_lt hf
        cases hf
        exact (pm_S3.le (pm_S3I K76)).trans (ih.2.2.2 x0 x1 x2 x4 x5 x6 y79 (pm_setI v74.2 x6 x7.toNatClampNeg v74.1.toInt32) hi)
set_option maxHeartbeats 4000000 in
set_option maxRecDepth 100000 in
theorem moX10_fillElement {h : pm_H} {a0 : Nat} {p1 : Nat} {p2 : Int32} {r : pm_H} (hf : fX10_fillElement h a0 p1 p2 = some r) : pm_Le h r := by
  unfold fX10_fillElement at hf
  have K0 := pm_S3.rf h
  obtain ⟨n, hn⟩ := pm_lim_iter hf
  exact (mlX10_fillElement n).1 a0 p1 p2 h hn
set_option maxHeartbeats 4000000 in
set_option maxRecDepth 100000 in
theorem lpX10_fillElement {g : pm_Gm} {l : Launch} {G : pm_Gl} {Qr : Option Value → pm_H → Prop} (C : pm_C g cX10_fillElement RX10) {h0 : pm_H} {r : pm_H} (X : pm_X g l G mX10_fillElement (pm_sz r - pm_sz h0) (pm_us r - pm_us h0) Qr) (q : Qr none r) : ∀ n : Nat, (∀ (x0 : Nat) (x1 : Nat) (x2 : Int32) (h : pm_H), pm_Le h0 h → pm_iter sX10_fillElement n (.inl (x0, x1, x2, h)) = some r → pm_G g 0 [(0, .ref x0), (1, .ref x1), (2, .int x2)] [] h (pm_sz h - pm_sz h0) (pm_us h - pm_us h0)) ∧ (∀ (x0 : Nat) (x1 : Nat) (x2 : Int32) (x3 : Int32) (x4 : Int32) (s0 : Int32) (h : pm_H), pm_Le h0 h → pm_iter sX10_fillElement n (.inr (.inl (x0, x1, x2, x3, x4, s0, h))) = some r → pm_G g 42 [(0, .ref x0), (1, .ref x1), (2, .int x2), (3, .int x3), (4, .int x4)] [.int s0] h (pm_sz h - pm_sz h0) (pm_us h - pm_us h0)) ∧ (∀ (x0 : Nat) (x1 : Nat) (x2 : Int32) (x3 : Int32) (x4 : Int32) (x5 : Int32) (s0 : Nat) (h : pm_H), pm_Le h0 h → pm_iter sX10_fillElement n (.inr (.inr (.inl (x0, x1, x2, x3, x4, x5, s0, h)))) = some r → pm_G g 76 [(0, .ref x0), (1, .ref x1), (2, .int x2), (3, .int x3), (4, .int x4), (5, .int x5)] [.ref s0] h (pm_sz h - pm_sz h0) (pm_us h - pm_us h0)) ∧ (∀ (x0 : Nat) (x1 : Nat) (x2 : Int32) (x4 : Int32) (x5 : Int32) (x6 : Nat) (x7 : Int32) (h : pm_H), pm_Le h0 h → pm_iter sX10_fillElement n (.inr (.inr (.inr (x0, x1, x2, x4, x5, x6, x7, h)))) = some r → pm_G g 105 [(0, .ref x0), (1, .ref x1), (2, .int x2), (4, .int x4), (5, .int x5), (6, .ref x6), (7, .int x7)] [] h (pm_sz h - pm_sz h0) (pm_us h - pm_us h0)) := by
  intro n
  induction n with
  | zero => exact ⟨fun _ _ _ _ _ hf => (by cases hf), fun _ _ _ _ _ _ _ _ hf => (by cases hf), fun _ _ _ _ _ _ _ _ _ hf => (by cases hf), fun _ _ _ _ _ _ _ _ _ hf => (by cases hf)⟩
  | succ n ih =>
    refine ⟨fun x0 x1 x2 h m0 hf => ?_, ?_⟩
    · have le0 := (mlX10_fillElement (n + 1)).1 x0 x1 x2 h hf
      have kc1 := Nat.sub_le_sub_right le0.1 (pm_sz h0)
      have kc2 := Nat.sub_le_sub_right le0.2 (pm_us h0)
      have K0 := pm_S3.rf h
      obtain ⟨y, hf, hi⟩ := pm_iter_s hf
      have hf : tX10_fillElement_0 x0 x1 x2 h = some y := hf
      unfold tX10_fillElement_0 at hf
      refine pm_iload_n C dX10_fillElement_0 rfl rfl ?_
      refine pm_bipush (v := 7) C dX10_fillElement_1 (by decide) ?_
      refine pm_imul C dX10_fillElement_3 ?_
      obtain ⟨y1, e2, hf⟩ := pm_lt hf
      refine pm_topI e2 ?_
      refine pm_istore_n (lv' := [(3, .int y1), (0, .ref x0), (1, .ref x1), (2, .int x2)]) C dX10_fillElement_4 rfl (pm_nl X (by decide)) rfl ?_
      refine pm_aload_n C dX10_fillElement_5 rfl rfl ?_
      obtain ⟨k3, hf⟩ := pm_if hf
      obtain ⟨v4, e5, hf⟩ := pm_bd hf
      refine pm_getR C dX10_fillElement_6 flX10_222 rfl k3 e5 ?_
      obtain ⟨k6, hf⟩ := pm_if hf
      obtain ⟨v7, e8, hf⟩ := pm_bd hf
      refine pm_getR C dX10_fillElement_9 flX10_154 rfl k6 e8 ?_
      refine pm_iload_n C dX10_fillElement_12 rfl rfl ?_
      refine pm_iconst (v := 4) C dX10_fillElement_13 (by decide) ?_
      refine pm_iadd C dX10_fillElement_14 ?_
      obtain ⟨v9, e10, hf⟩ := pm_bd hf
      refine pm_callS (as := [.ref v7, .int (y1 + 4)]) (st := []) C X dX10_fillElement_15 lnX10_104 myX12_item stX12_item ⟨by decide, by decide⟩ rfl rfl (Nat.le_of_ble_eq_true rfl) kc1 kc2 (ctX12_item e10 ?_)
      show pm_G g 18 [(3, .int y1), (0, .ref x0), (1, .ref x1), (2, .int x2)] [.int v9] h (pm_sz h - pm_sz h0) (pm_us h - pm_us h0)
      refine pm_istore (lv' := [(4, .int v9), (3, .int y1), (0, .ref x0), (1, .ref x1), (2, .int x2)]) C dX10_fillElement_18 (pm_nl X (by decide)) rfl ?_
      refine pm_aload_n C dX10_fillElement_20 rfl rfl ?_
      refine pm_getR C dX10_fillElement_21 flX10_222 rfl k3 e5 ?_
      refine pm_getR C dX10_fillElement_24 flX10_154 rfl k6 e8 ?_
      refine pm_iload_n C dX10_fillElement_27 rfl rfl ?_
      refine pm_bipush (v := 6) C dX10_fillElement_28 (by decide) ?_
      refine pm_iadd C dX10_fillElement_30 ?_
      obtain ⟨v11, e12, hf⟩ := pm_bd hf
      refine pm_callS (as := [.ref v7, .int (y1 + 6)]) (st := []) C X dX10_fillElement_31 lnX10_104 myX12_item stX12_item ⟨by decide, by decide⟩ rfl rfl (Nat.le_of_ble_eq_true rfl) kc1 kc2 (ctX12_item e12 ?_)
      show pm_G g 34 [(4, .int v9), (3, .int y1), (0, .ref x0), (1, .ref x1), (2, .int x2)] [.int v11] h (pm_sz h - pm_sz h0) (pm_us h - pm_us h0)
      refine pm_if_eq (tgt := 41) C dX10_fillElement_34 (by decide) (fun c13 => ?_) (fun c13 => ?_)
      · have hf := pm_it hf c13
        refine pm_iconst (v := 0) C dX10_fillElement_41 (by decide) ?_
        cases hf
        exact pa_join K0 (pm_sub [2, 3, 4, 1, 0] rfl (ih.2.1 x0 x1 x2 y1 v9 0 h (m0.trans (pm_S3.le K0)) hi))
      · have hf := pm_ie hf c13
        refine pm_iconst (v := 1) C dX10_fillElement_37 (by decide) ?_
        refine pm_goto (tgt := 42) C dX10_fillElement_38 (by decide) ?_
        cases hf
        exact pa_join K0 (pm_sub [2, 3, 4, 1, 0] rfl (ih.2.1 x0 x1 x2 y1 v9 1 h (m0.trans (pm_S3.le K0)) hi))
    refine ⟨fun x0 x1 x2 x3 x4 s0 h m0 hf => ?_, ?_⟩
    · have le0 := (mlX10_fillElement (n + 1)).2.1 x0 x1 x2 x3 x4 s0 h hf
      have kc1 := Nat.sub_le_sub_right le0.1 (pm_sz h0)
      have kc2 := Nat.sub_le_sub_right le0.2 (pm_us h0)
      have K0 := pm_S3.rf h
      obtain ⟨y, hf, hi⟩ := pm_iter_s hf
      have hf : tX10_fillElement_42 x0 x1 x2 x3 x4 s0 h = some y := hf
      unfold tX10_fillElement_42 at hf
      refine pm_istore (lv' := [(5, .int s0), (0, .ref x0), (1, .ref x1), (2, .int x2), (3, .int x3), (4, .int x4)]) C dX10_fillElement_42 (pm_nl X (by decide)) rfl ?_
      refine pm_iload C dX10_fillElement_44 rfl ?_
      refine pm_if_lt (tgt := 71) C dX10_fillElement_46 (by decide) (fun c14 => ?_) (fun c14 => ?_)
      · have hf := pm_it hf c14
        have hf := Option.some.inj hf
        subst hf
        have hi := Option.some.inj (show some _ = some r from hi)
        subst hi
        exact pm_vret C X dX10_fillElement_71 rfl kc1 kc2 q
      · have hf := pm_ie hf c14
        refine pm_iload C dX10_fillElement_49 rfl ?_
        refine pm_aload_n C dX10_fillElement_51 rfl rfl ?_
        obtain ⟨k15, hf⟩ := pm_if hf
        refine pm_getI C dX10_fillElement_52 flX10_61 rfl k15 rfl ?_
        refine pm_icmp_gt (tgt := 71) C dX10_fillElement_55 (by decide) (fun c16 => ?_) (fun c16 => ?_)
        · have hf := pm_it hf c16
          have hf := Option.some.inj hf
          subst hf
          have hi := Option.some.inj (show some _ = some r from hi)
          subst hi
          exact pm_vret C X dX10_fillElement_71 rfl kc1 kc2 q
        · have hf := pm_ie hf c16
          refine pm_iload_n C dX10_fillElement_58 rfl rfl ?_
          refine pm_if_lt (tgt := 71) C dX10_fillElement_59 (by decide) (fun c17 => ?_) (fun c17 => ?_)
          · have hf := pm_it hf c17
            have hf := Option.some.inj hf
            subst hf
            have hi := Option.some.inj (show some _ = some r from hi)
            subst hi
            exact pm_vret C X dX10_fillElement_71 rfl kc1 kc2 q
          · have hf := pm_ie hf c17
            refine pm_iload_n C dX10_fillElement_62 rfl rfl ?_
            refine pm_aload_n C dX10_fillElement_63 rfl rfl ?_
            obtain ⟨k18, hf⟩ := pm_if hf
            obtain ⟨v19, e20, hf⟩ := pm_bd hf
            refine pm_getR C dX10_fillElement_64 flX10_209 rfl k18 e20 ?_
            obtain ⟨k21, hf⟩ := pm_if hf
            refine pm_alen (t := 4) C dX10_fillElement_67 (by decide) k21 rfl ?_
            refine pm_icmp_lt (tgt := 72) C dX10_fillElement_68 (by decide) (fun c22 => ?_) (fun c22 => ?_)
            · have hf := pm_it hf c22
              refine pm_iload C dX10_fillElement_72 rfl ?_
              obtain ⟨u23, hf⟩ := pm_if hf
              cases hf
              refine pa_newa (hb := h) (h0 := h0) (t := 2) (N := x4.toNatClampNeg) C X K0 m0 dX10_fillElement_74 (by decide) rfl al2 u23.1 rfl u23.2 ((mlX10_fillElement n).2.2.1 x0 x1 x2 x3 x4 s0 (pm_sz h) (pm_new h 34 x4.toNatClampNeg) hi) ?_
              exact pm_sub [1, 2, 3, 4, 5, 0] rfl (ih.2.2.1 x0 x1 x2 x3 x4 s0 (pm_sz h) (pm_new h 34 x4.toNatClampNeg) ((m0.trans (pm_S3.le K0)).trans (pm_Le_new _ _ _)) hi)
            · have hf := pm_ie hf c22
              have hf := Option.some.inj hf
              subst hf
              have hi := Option.some.inj (show some _ = some r from hi)
              subst hi
              exact pm_vret C X dX10_fillElement_71 rfl kc1 kc2 q
    refine ⟨fun x0 x1 x2 x3 x4 x5 s0 h m0 hf => ?_, ?_⟩
    · have le0 := (mlX10_fillElement (n + 1)).2.2.1 x0 x1 x2 x3 x4 x5 s0 h hf
      have kc1 := Nat.sub_le_sub_right le0.1 (pm_sz h0)
      have kc2 := Nat.sub_le_sub_right le0.2 (pm_us h0)
      have K0 := pm_S3.rf h
      obtain ⟨y, hf, hi⟩ := pm_iter_s hf
      have hf : tX10_fillElement_76 x0 x1 x2 x3 x4 x5 s0 h = some y := hf
      unfold tX10_fillElement_76 at hf
      refine pm_astore (lv' := [(6, .ref s0), (0, .ref x0), (1, .ref x1), (2, .int x2), (3, .int x3), (4, .int x4), (5, .int x5)]) C dX10_fillElement_76 (pm_nl X (by decide)) rfl ?_
      refine pm_aload_n C dX10_fillElement_78 rfl rfl ?_
      obtain ⟨k24, hf⟩ := pm_if hf
      obtain ⟨v25, e26, hf⟩ := pm_bd hf
      refine pm_getR C dX10_fillElement_79 flX10_72 rfl k24 e26 ?_
      refine pm_aload_n C dX10_fillElement_82 rfl rfl ?_
      obtain ⟨k27, hf⟩ := pm_if hf
      obtain ⟨v28, e29, hf⟩ := pm_bd hf
      refine pm_getR C dX10_fillElement_83 flX10_222 rfl k27 e29 ?_
      refine pm_aload_n C dX10_fillElement_86 rfl rfl ?_
      refine pm_getR C dX10_fillElement_87 flX10_222 rfl k27 e29 ?_
      obtain ⟨k30, hf⟩ := pm_if hf
      obtain ⟨v31, e32, hf⟩ := pm_bd hf
      refine pm_getR C dX10_fillElement_90 flX10_154 rfl k30 e32 ?_
      refine pm_iload_n C dX10_fillElement_93 rfl rfl ?_
      refine pm_iconst (v := 3) C dX10_fillElement_94 (by decide) ?_
      refine pm_iadd C dX10_fillElement_95 ?_
      obtain ⟨v33, e34, hf⟩ := pm_bd hf
      refine pm_callS (as := [.ref v31, .int (x3 + 3)]) (st := [.ref v28, .ref v25]) C X dX10_fillElement_96 lnX10_104 myX12_item stX12_item ⟨by decide, by decide⟩ rfl rfl (Nat.le_of_ble_eq_true rfl) kc1 kc2 (ctX12_item e34 ?_)
      show pm_G g 99 [(6, .ref s0), (0, .ref x0), (1, .ref x1), (2, .int x2), (3, .int x3), (4, .int x4), (5, .int x5)] [.int v33, .ref v28, .ref v25] h (pm_sz h - pm_sz h0) (pm_us h - pm_us h0)
      obtain ⟨k35, hf⟩ := pm_if hf
      obtain ⟨v36, e37, hf⟩ := pm_bd hf
      refine pm_callV (as := [.ref v28, .int v33]) (st := []) C X dX10_fillElement_99 lnX10_226 myX9_open viX9_open ⟨by decide, by decide⟩ rfl rfl k35 (Nat.le_of_ble_eq_true rfl) kc1 kc2 (ctX9_open e37 ?_)
      have K38 := pm_S3.trans (kpX9_open e37) K0
      show pm_G g 102 [(6, .ref s0), (0, .ref x0), (1, .ref x1), (2, .int x2), (3, .int x3), (4, .int x4), (5, .int x5)] [] v36 (pm_sz h - pm_sz h0) (pm_us h - pm_us h0)
      refine pm_iconst (v := 0) C dX10_fillElement_102 (by decide) ?_
      refine pm_istore (lv' := [(7, .int 0), (6, .ref s0), (0, .ref x0), (1, .ref x1), (2, .int x2), (3, .int x3), (4, .int x4), (5, .int x5)]) C dX10_fillElement_103 (pm_nl X (by decide)) rfl ?_
      cases hf
      exact pa_join K38 (pm_sub [2, 3, 4, 6, 7, 1, 0] rfl (ih.2.2.2 x0 x1 x2 x4 x5 s0 0 v36 (m0.trans (pm_S3.le K38)) hi))
    refine fun x0 x1 x2 x4 x5 x6 x7 h m0 hf => ?_
    have le0 := (mlX10_fillElement (n + 1)).2.2.2 x0 x1 x2 x4 x5 x6 x7 h hf
    have kc1 := Nat.sub_le_sub_right le0.1 (pm_sz h0)
    have kc2 := Nat.sub_le_sub_right le0.2 (pm_us h0)
    have K0 := pm_S3.rf h
    obtain ⟨y, hf, hi⟩ := pm_iter_s hf
    have hf : tX10_fillElement_105 x0 x1 x2 x4 x5 x6 x7 h = some y := hf
    unfold tX10_fillElement_105 at hf
    refine pm_iload C dX10_fillElement_105 rfl ?_
    refine pm_iload C dX10_fillElement_107 rfl ?_
    refine pm_icmp_ge (tgt := 156) C dX10_fillElement_109 (by decide) (fun c39 => ?_) (fun c39 => ?_)
    · have hf := pm_it hf c39
      refine pm_aload_n C dX10_fillElement_156 rfl rfl ?_
      obtain ⟨k40, hf⟩ := pm_if hf
      obtain ⟨v41, e42, hf⟩ := pm_bd hf
      refine pm_getR C dX10_fillElement_157 flX10_209 rfl k40 e42 ?_
      refine pm_iload_n C dX10_fillElement_160 rfl rfl ?_
      refine pm_aload C dX10_fillElement_161 rfl ?_
      obtain ⟨k43, hf⟩ := pm_if hf
      obtain ⟨k44, hf⟩ := pm_if hf
      obtain ⟨u45, hf⟩ := pm_if hf
      refine pm_aasta (t := 4) (u := 2) C dX10_fillElement_163 (Or.inl ⟨rfl, rfl⟩) k43 k44 u45 ?_
      refine pm_aload_n C dX10_fillElement_164 rfl rfl ?_
      obtain ⟨v46, e47, hf⟩ := pm_bd hf
      refine pm_getR C dX10_fillElement_165 flX10_244 rfl k40 e47 ?_
      refine pm_iload_n C dX10_fillElement_168 rfl rfl ?_
      refine pm_iload C dX10_fillElement_169 rfl ?_
      obtain ⟨v48, e49, hf⟩ := pm_bd hf
      refine pm_callS (as := [.ref v46, .int x2, .int x4]) (st := []) C X dX10_fillElement_171 lnX10_184 myX12_setItem stX12_setItem ⟨by decide, by decide⟩ rfl rfl (Nat.le_of_ble_eq_true rfl) kc1 kc2 (ctX12_setItem e49 ?_)
      have K50 := pm_S3.trans (kpX12_setItem e49) (pm_S3R K0)
      show pm_G g 174 [(0, .ref x0), (1, .ref x1), (2, .int x2), (4, .int x4), (5, .int x5), (6, .ref x6), (7, .int x7)] [] v48 (pm_sz h - pm_sz h0) (pm_us h - pm_us h0)
      refine pm_aload_n C dX10_fillElement_174 rfl rfl ?_
      refine pm_dup C dX10_fillElement_175 rfl ?_
      obtain ⟨k51, hf⟩ := pm_if hf
      refine pm_getI C dX10_fillElement_176 flX10_61 rfl k51 rfl ?_
      refine pm_iload C dX10_fillElement_179 rfl ?_
      refine pm_isub C dX10_fillElement_181 ?_
      obtain ⟨y52, e53, hf⟩ := pm_lt hf
      refine pm_topI e53 ?_
      refine pm_putI C dX10_fillElement_182 flX10_61 rfl rfl k51 rfl rfl ?_
      have hf := Option.some.inj hf
      subst hf
      have hi := Option.some.inj (show some _ = some r from hi)
      subst hi
      exact pm_vret C X dX10_fillElement_185 rfl kc1 kc2 q
    · have hf := pm_ie hf c39
      refine pm_aload C dX10_fillElement_112 rfl ?_
      refine pm_iload C dX10_fillElement_114 rfl ?_
      refine pm_iload C dX10_fillElement_116 rfl ?_
      refine pm_if_eq (tgt := 130) C dX10_fillElement_118 (by decide) (fun c54 => ?_) (fun c54 => ?_)
      · have hf := pm_it hf c54
        refine pm_aload_n C dX10_fillElement_130 rfl rfl ?_
        obtain ⟨k55, hf⟩ := pm_if hf
        obtain ⟨v56, e57, hf⟩ := pm_bd hf
        refine pm_getR C dX10_fillElement_131 flX10_188 rfl k55 e57 ?_
        refine pm_aload_n C dX10_fillElement_134 rfl rfl ?_
        obtain ⟨k58, hf⟩ := pm_if hf
        obtain ⟨v59, e60, hf⟩ := pm_bd hf
        refine pm_getR C dX10_fillElement_135 flX10_72 rfl k58 e60 ?_
        refine pm_bipush (v := 32) C dX10_fillElement_138 (by decide) ?_
        obtain ⟨k61, hf⟩ := pm_if hf
        obtain ⟨v62, e63, hf⟩ := pm_bd hf
        refine pm_callV (as := [.int 32]) (st := [.ref v56, .int x7, .ref x6]) C X dX10_fillElement_140 lnX10_236 myX9_number viX9_number ⟨by decide, by decide⟩ rfl rfl k61 (Nat.le_of_ble_eq_true rfl) kc1 kc2 (ctX9_number e63 ?_)
        have K64 := pm_S3.trans (kpX9_number e63) K0
        show pm_G g 143 [(0, .ref x0), (1, .ref x1), (2, .int x2), (4, .int x4), (5, .int x5), (6, .ref x6), (7, .int x7)] [.long v62.1, .ref v56, .int x7, .ref x6] v62.2 (pm_sz h - pm_sz h0) (pm_us h - pm_us h0)
        obtain ⟨v65, e66, hf⟩ := pm_lt hf
        refine pm_callS (as := [.long v62.1]) (st := [.ref v56, .int x7, .ref x6]) C X dX10_fillElement_143 lnX10_240 myX12_index stX12_index ⟨by decide, by decide⟩ rfl rfl (Nat.le_of_ble_eq_true rfl) kc1 kc2 (ctX12_index e66 ?_)
        show pm_G g 146 [(0, .ref x0), (1, .ref x1), (2, .int x2), (4, .int x4), (5, .int x5), (6, .ref x6), (7, .int x7)] [.int v65, .ref v56, .int x7, .ref x6] v62.2 (pm_sz h - pm_sz h0) (pm_us h - pm_us h0)
        obtain ⟨v67, e68, hf⟩ := pm_bd hf
        refine pm_callS (as := [.ref v56, .int v65]) (st := [.int x7, .ref x6]) C X dX10_fillElement_146 lnX10_104 myX12_item stX12_item ⟨by decide, by decide⟩ rfl rfl (Nat.le_of_ble_eq_true rfl) kc1 kc2 (ctX12_item e68 ?_)
        show pm_G g 149 [(0, .ref x0), (1, .ref x1), (2, .int x2), (4, .int x4), (5, .int x5), (6, .ref x6), (7, .int x7)] [.int v67, .int x7, .ref x6] v62.2 (pm_sz h - pm_sz h0) (pm_us h - pm_us h0)
        obtain ⟨k69, hf⟩ := pm_if hf
        obtain ⟨u70, hf⟩ := pm_if hf
        refine pm_iast C dX10_fillElement_149 k69 u70 ?_
        obtain ⟨y71, e72, hf⟩ := pm_lt hf
        refine pm_iinc (v := y71) (lv' := [(7, .int y71), (0, .ref x0), (1, .ref x1), (2, .int x2), (4, .int x4), (5, .int x5), (6, .ref x6)]) C dX10_fillElement_150 rfl ((congrArg (x7 + ·) (by decide : Int32.ofInt 1 = 1)).trans e72) (pm_nl X (by decide)) rfl ?_
        refine pm_goto (tgt := 105) C dX10_fillElement_153 (by decide) ?_
        cases hf
        exact pa_join (pm_S3I K64) (pm_sub [1, 2, 3, 4, 5, 6, 0] rfl (ih.2.2.2 x0 x1 x2 x4 x5 x6 y71 (pm_setI v62.2 x6 x7.toNatClampNeg v67) (m0.trans (pm_S3.le (pm_S3I K64))) hi))
      · have hf := pm_ie hf c54
        refine pm_aload_n C dX10_fillElement_121 rfl rfl ?_
        refine pm_aload_n C dX10_fillElement_122 rfl rfl ?_
        obtain ⟨k73, hf⟩ := pm_if hf
        obtain ⟨v74, e75, hf⟩ := pm_bd hf
        refine pm_callV (as := [.ref x1]) (st := [.int x7, .ref x6]) C X dX10_fillElement_123 lnX10_232 myX10_constant viX10_constant ⟨by decide, by decide⟩ rfl rfl k73 (Nat.le_of_ble_eq_true rfl) kc1 kc2 (ctX10_constant e75 ?_)
        have K76 := pm_S3.trans (kpX10_constant e75) K0
        show pm_G g 126 [(0, .ref x0), (1, .ref x1), (2, .int x2), (4, .int x4), (5, .int x5), (6, .ref x6), (7, .int x7)] [.long v74.1, .int x7, .ref x6] v74.2 (pm_sz h - pm_sz h0) (pm_us h - pm_us h0)
        refine pm_l2i C dX10_fillElement_126 ?_
        refine pm_goto (tgt := 149) C dX10_fillElement_127 (by decide) ?_
        obtain ⟨k77, hf⟩ := pm_if hf
        obtain ⟨u78, hf⟩ := pm_if hf
        refine pm_iast C dX10_fillElement_149 k77 u78 ?_
        obtain ⟨y79, e80, hf⟩ := pm_lt hf
        refine pm_iinc (v := y79) (lv' := [(7, .int y79), (0, .ref x0), (1, .ref x1), (2, .int x2), (4, .int x4), (5, .int x5), (6, .ref x6)]) C dX10_fillElement_150 rfl ((congrArg (x7 + ·) (by decide : Int32.ofInt 1 = 1)).trans e80) (pm_nl X (by decide)) rfl ?_
        refine pm_goto (tgt := 105) C dX10_fillElement_153 (by decide) ?_
        cases hf
        exact pa_join (pm_S3I K76) (pm_sub [1, 2, 3, 4, 5, 6, 0] rfl (ih.2.2.2 x0 x1 x2 x4 x5 x6 y79 (pm_setI v74.2 x6 x7.toNatClampNeg v74.1.toInt32) (m0.trans (pm_S3.le (pm_S3I K76))) hi))
set_option maxHeartbeats 4000000 in
set_option maxRecDepth 100000 in
theorem ctX10_fillElement {l : Launch} {G : pm_Gl} {h : pm_H} {a0 : Nat} {p1 : Nat} {p2 : Int32} {r : pm_H} {Qr : Option Value → pm_H → Prop} (hf : fX10_fillElement h a0 p1 p2 = some r) (q : Qr none r) : pm_Ct l G mX10_fillElement [.ref a0, .ref p1, .int p2] h (pm_sz r - pm_sz h) (pm_us r - pm_us h) Qr := by
  refine pm_body pnX10 (Nat.le_of_ble_eq_true rfl) (fun g C X => ?_)
  have C : pm_C g cX10_fillElement RX10 := C
  show pm_G g 0 [(0, .ref a0), (1, .ref p1), (2, .int p2)] [] h 0 0
  unfold fX10_fillElement at hf
  obtain ⟨n, hn⟩ := pm_lim_iter hf
  exact pa_start (pm_sub [0, 1, 2] rfl ((lpX10_fillElement C X q n).1 a0 p1 p2 h (pm_Le.rf h) hn))
