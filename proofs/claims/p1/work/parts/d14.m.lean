theorem dX5_advance_0 : decode cX5_advance 0 = .ok (.iconst 0, 1) := by decide +kernel
theorem dX5_advance_1 : decode cX5_advance 1 = .ok (.istore_n 2, 1) := by decide +kernel
theorem dX5_advance_2 : decode cX5_advance 2 = .ok (.iconst 0, 1) := by decide +kernel
theorem dX5_advance_3 : decode cX5_advance 3 = .ok (.istore_n 3, 1) := by decide +kernel
theorem dX5_advance_4 : decode cX5_advance 4 = .ok (.iload_n 3, 1) := by decide +kernel
theorem dX5_advance_5 : decode cX5_advance 5 = .ok (.iload_n 1, 1) := by decide +kernel
theorem dX5_advance_6 : decode cX5_advance 6 = .ok (.if_icmp .ge 129, 3) := by decide +kernel
theorem dX5_advance_9 : decode cX5_advance 9 = .ok (.iload_n 2, 1) := by decide +kernel
theorem dX5_advance_10 : decode cX5_advance 10 = .ok (.iload_n 1, 1) := by decide +kernel
theorem dX5_advance_11 : decode cX5_advance 11 = .ok (.if_icmp .ge 124, 3) := by decide +kernel
theorem dX5_advance_14 : decode cX5_advance 14 = .ok (.aload_n 0, 1) := by decide +kernel
theorem dX5_advance_15 : decode cX5_advance 15 = .ok (.getfield 55, 3) := by decide +kernel
theorem dX5_advance_18 : decode cX5_advance 18 = .ok (.iconst 1, 1) := by decide +kernel
theorem dX5_advance_19 : decode cX5_advance 19 = .ok (.if_icmp .ne 116, 3) := by decide +kernel
theorem dX5_advance_22 : decode cX5_advance 22 = .ok (.aload_n 0, 1) := by decide +kernel
theorem dX5_advance_23 : decode cX5_advance 23 = .ok (.getfield 51, 3) := by decide +kernel
theorem dX5_advance_26 : decode cX5_advance 26 = .ok (.getfield 121, 3) := by decide +kernel
theorem dX5_advance_29 : decode cX5_advance 29 = .ok (.ifCond .ne 13, 3) := by decide +kernel
theorem dX5_advance_32 : decode cX5_advance 32 = .ok (.aload_n 0, 1) := by decide +kernel
theorem dX5_advance_33 : decode cX5_advance 33 = .ok (.invokevirtual 125, 3) := by decide +kernel
theorem dX5_advance_36 : decode cX5_advance 36 = .ok (.iinc 2 1, 3) := by decide +kernel
theorem dX5_advance_39 : decode cX5_advance 39 = .ok (.goto 86, 3) := by decide +kernel
theorem dX5_advance_42 : decode cX5_advance 42 = .ok (.aload_n 0, 1) := by decide +kernel
theorem dX5_advance_43 : decode cX5_advance 43 = .ok (.getfield 51, 3) := by decide +kernel
theorem dX5_advance_46 : decode cX5_advance 46 = .ok (.getfield 128, 3) := by decide +kernel
theorem dX5_advance_49 : decode cX5_advance 49 = .ok (.bipush 8, 2) := by decide +kernel
theorem dX5_advance_51 : decode cX5_advance 51 = .ok (.imul, 1) := by decide +kernel
theorem dX5_advance_52 : decode cX5_advance 52 = .ok (.istore 4, 2) := by decide +kernel
theorem dX5_advance_54 : decode cX5_advance 54 = .ok (.aload_n 0, 1) := by decide +kernel
theorem dX5_advance_55 : decode cX5_advance 55 = .ok (.getfield 51, 3) := by decide +kernel
theorem dX5_advance_58 : decode cX5_advance 58 = .ok (.getfield 131, 3) := by decide +kernel
theorem dX5_advance_61 : decode cX5_advance 61 = .ok (.iload 4, 2) := by decide +kernel
theorem dX5_advance_63 : decode cX5_advance 63 = .ok (.iconst 1, 1) := by decide +kernel
theorem dX5_advance_64 : decode cX5_advance 64 = .ok (.iadd, 1) := by decide +kernel
theorem dX5_advance_65 : decode cX5_advance 65 = .ok (.invokestatic 88, 3) := by decide +kernel
theorem dX5_advance_68 : decode cX5_advance 68 = .ok (.aload_n 0, 1) := by decide +kernel
theorem dX5_advance_69 : decode cX5_advance 69 = .ok (.getfield 65, 3) := by decide +kernel
theorem dX5_advance_72 : decode cX5_advance 72 = .ok (.isub, 1) := by decide +kernel
theorem dX5_advance_73 : decode cX5_advance 73 = .ok (.istore 5, 2) := by decide +kernel
theorem dX5_advance_75 : decode cX5_advance 75 = .ok (.iload 5, 2) := by decide +kernel
theorem dX5_advance_77 : decode cX5_advance 77 = .ok (.iload_n 1, 1) := by decide +kernel
theorem dX5_advance_78 : decode cX5_advance 78 = .ok (.iload_n 2, 1) := by decide +kernel
theorem dX5_advance_79 : decode cX5_advance 79 = .ok (.isub, 1) := by decide +kernel
theorem dX5_advance_80 : decode cX5_advance 80 = .ok (.invokestatic 135, 3) := by decide +kernel
theorem dX5_advance_83 : decode cX5_advance 83 = .ok (.istore 6, 2) := by decide +kernel
theorem dX5_advance_85 : decode cX5_advance 85 = .ok (.aload_n 0, 1) := by decide +kernel
theorem dX5_advance_86 : decode cX5_advance 86 = .ok (.iload 6, 2) := by decide +kernel
theorem dX5_advance_88 : decode cX5_advance 88 = .ok (.iload 5, 2) := by decide +kernel
theorem dX5_advance_90 : decode cX5_advance 90 = .ok (.if_icmp .ge 13, 3) := by decide +kernel
theorem dX5_advance_93 : decode cX5_advance 93 = .ok (.aload_n 0, 1) := by decide +kernel
theorem dX5_advance_94 : decode cX5_advance 94 = .ok (.getfield 65, 3) := by decide +kernel
theorem dX5_advance_97 : decode cX5_advance 97 = .ok (.iload 6, 2) := by decide +kernel
theorem dX5_advance_99 : decode cX5_advance 99 = .ok (.iadd, 1) := by decide +kernel
theorem dX5_advance_100 : decode cX5_advance 100 = .ok (.goto 4, 3) := by decide +kernel
theorem dX5_advance_103 : decode cX5_advance 103 = .ok (.iconst 0, 1) := by decide +kernel
theorem dX5_advance_104 : decode cX5_advance 104 = .ok (.putfield 65, 3) := by decide +kernel
theorem dX5_advance_107 : decode cX5_advance 107 = .ok (.iload 6, 2) := by decide +kernel
theorem dX5_advance_109 : decode cX5_advance 109 = .ok (.iload 5, 2) := by decide +kernel
theorem dX5_advance_111 : decode cX5_advance 111 = .ok (.if_icmp .ne 9, 3) := by decide +kernel
theorem dX5_advance_114 : decode cX5_advance 114 = .ok (.aload_n 0, 1) := by decide +kernel
theorem dX5_advance_115 : decode cX5_advance 115 = .ok (.iload 4, 2) := by decide +kernel
theorem dX5_advance_117 : decode cX5_advance 117 = .ok (.invokevirtual 141, 3) := by decide +kernel
theorem dX5_advance_120 : decode cX5_advance 120 = .ok (.iload_n 2, 1) := by decide +kernel
theorem dX5_advance_121 : decode cX5_advance 121 = .ok (.iload 6, 2) := by decide +kernel
theorem dX5_advance_123 : decode cX5_advance 123 = .ok (.iadd, 1) := by decide +kernel
theorem dX5_advance_124 : decode cX5_advance 124 = .ok (.istore_n 2, 1) := by decide +kernel
theorem dX5_advance_125 : decode cX5_advance 125 = .ok (.aload_n 0, 1) := by decide +kernel
theorem dX5_advance_126 : decode cX5_advance 126 = .ok (.invokevirtual 107, 3) := by decide +kernel
theorem dX5_advance_129 : decode cX5_advance 129 = .ok (.iinc 3 1, 3) := by decide +kernel
theorem dX5_advance_132 : decode cX5_advance 132 = .ok (.goto (-128), 3) := by decide +kernel
theorem dX5_advance_135 : decode cX5_advance 135 = .ok (.aload_n 0, 1) := by decide +kernel
theorem dX5_advance_136 : decode cX5_advance 136 = .ok (.dup, 1) := by decide +kernel
theorem dX5_advance_137 : decode cX5_advance 137 = .ok (.getfield 78, 3) := by decide +kernel
theorem dX5_advance_140 : decode cX5_advance 140 = .ok (.iload_n 2, 1) := by decide +kernel
theorem dX5_advance_141 : decode cX5_advance 141 = .ok (.iadd, 1) := by decide +kernel
theorem dX5_advance_142 : decode cX5_advance 142 = .ok (.putfield 78, 3) := by decide +kernel
theorem dX5_advance_145 : decode cX5_advance 145 = .ok (.iload_n 2, 1) := by decide +kernel
theorem dX5_advance_146 : decode cX5_advance 146 = .ok (.ireturn, 1) := by decide +kernel
noncomputable def tX5_advance_0 (x0 : Nat) (x1 : Int32) (h : pm_H) : Option (((Nat × Int32 × pm_H) ⊕ (Nat × Int32 × Int32 × Int32 × pm_H) ⊕ (Nat × Int32 × Int32 × Int32 × Int32 × pm_H) ⊕ (Nat × Int32 × Int32 × Int32 × pm_H) ⊕ (Nat × Int32 × Int32 × Int32 × pm_H)) ⊕ (Int32 × pm_H)) := some (.inl (.inr (.inl ((x0, x1, 0, 0, h)))))
noncomputable def tX5_advance_4 (x0 : Nat) (x1 : Int32) (x2 : Int32) (x3 : Int32) (h : pm_H) : Option (((Nat × Int32 × pm_H) ⊕ (Nat × Int32 × Int32 × Int32 × pm_H) ⊕ (Nat × Int32 × Int32 × Int32 × Int32 × pm_H) ⊕ (Nat × Int32 × Int32 × Int32 × pm_H) ⊕ (Nat × Int32 × Int32 × Int32 × pm_H)) ⊕ (Int32 × pm_H)) := if x1 ≤ x3 then (if pm_kd h x0 = 5 then pm_let ((pm_I h x0 2) + x2) fun y3 => some (.inr ((x2, pm_setI h x0 2 y3))) else none) else (if x1 ≤ x2 then (if pm_kd h x0 = 5 then pm_let ((pm_I h x0 2) + x2) fun y7 => some (.inr ((x2, pm_setI h x0 2 y7))) else none) else (if pm_kd h x0 = 5 then if (pm_I h x0 0) = 1 then ((pm_R h x0 12).bind fun v13 => if pm_kd h v13 = 3 then if (pm_I h v13 7) = 0 then ((fX5_stepOnStack h x0).bind fun v38 => some (.inl (.inr (.inr (.inr (.inl ((x0, x1, x2, x3, v38)))))))) else (pm_let ((pm_I h v13 3) * 8) fun y17 => (pm_R h v13 2).bind fun v19 => (fX12_item h v19 (y17 + 1)).bind fun v21 => pm_let (v21 - (pm_I h x0 14)) fun y23 => pm_let (x1 - x2) fun y25 => pm_let (if y25 < y23 then y25 else y23) fun y27 => if y23 ≤ y27 then (if y27 = y23 then ((fX5_stepOnRegisters (pm_setI h x0 14 0) x0 y17).bind fun v31 => some (.inl (.inr (.inr (.inl ((x0, x1, x2, x3, y27, v31))))))) else (some (.inl (.inr (.inr (.inl ((x0, x1, x2, x3, y27, pm_setI h x0 14 0)))))))) else (pm_let ((pm_I h x0 14) + y27) fun y33 => if y27 = y23 then ((fX5_stepOnRegisters (pm_setI h x0 14 y33) x0 y17).bind fun v36 => some (.inl (.inr (.inr (.inl ((x0, x1, x2, x3, y27, v36))))))) else (some (.inl (.inr (.inr (.inl ((x0, x1, x2, x3, y27, pm_setI h x0 14 y33))))))))) else none) else (pm_let ((pm_I h x0 2) + x2) fun y11 => some (.inr ((x2, pm_setI h x0 2 y11)))) else none))
noncomputable def tX5_advance_120 (x0 : Nat) (x1 : Int32) (x2 : Int32) (x3 : Int32) (x6 : Int32) (h : pm_H) : Option (((Nat × Int32 × pm_H) ⊕ (Nat × Int32 × Int32 × Int32 × pm_H) ⊕ (Nat × Int32 × Int32 × Int32 × Int32 × pm_H) ⊕ (Nat × Int32 × Int32 × Int32 × pm_H) ⊕ (Nat × Int32 × Int32 × Int32 × pm_H)) ⊕ (Int32 × pm_H)) := pm_let (x2 + x6) fun y40 => if pm_kd h x0 = 5 then (fX5_settle h x0).bind fun v43 => some (.inl (.inr (.inr (.inr (.inr ((x0, x1, y40, x3, v43))))))) else none
noncomputable def tX5_advance_36 (x0 : Nat) (x1 : Int32) (x2 : Int32) (x3 : Int32) (h : pm_H) : Option (((Nat × Int32 × pm_H) ⊕ (Nat × Int32 × Int32 × Int32 × pm_H) ⊕ (Nat × Int32 × Int32 × Int32 × Int32 × pm_H) ⊕ (Nat × Int32 × Int32 × Int32 × pm_H) ⊕ (Nat × Int32 × Int32 × Int32 × pm_H)) ⊕ (Int32 × pm_H)) := pm_let (x2 + 1) fun y45 => if pm_kd h x0 = 5 then (fX5_settle h x0).bind fun v48 => some (.inl (.inr (.inr (.inr (.inr ((x0, x1, y45, x3, v48))))))) else none
noncomputable def tX5_advance_129 (x0 : Nat) (x1 : Int32) (x2 : Int32) (x3 : Int32) (h : pm_H) : Option (((Nat × Int32 × pm_H) ⊕ (Nat × Int32 × Int32 × Int32 × pm_H) ⊕ (Nat × Int32 × Int32 × Int32 × Int32 × pm_H) ⊕ (Nat × Int32 × Int32 × Int32 × pm_H) ⊕ (Nat × Int32 × Int32 × Int32 × pm_H)) ⊕ (Int32 × pm_H)) := pm_let (x3 + 1) fun y50 => some (.inl (.inr (.inl ((x0, x1, x2, y50, h)))))
noncomputable def sX5_advance : ((Nat × Int32 × pm_H) ⊕ (Nat × Int32 × Int32 × Int32 × pm_H) ⊕ (Nat × Int32 × Int32 × Int32 × Int32 × pm_H) ⊕ (Nat × Int32 × Int32 × Int32 × pm_H) ⊕ (Nat × Int32 × Int32 × Int32 × pm_H)) → Option (((Nat × Int32 × pm_H) ⊕ (Nat × Int32 × Int32 × Int32 × pm_H) ⊕ (Nat × Int32 × Int32 × Int32 × Int32 × pm_H) ⊕ (Nat × Int32 × Int32 × Int32 × pm_H) ⊕ (Nat × Int32 × Int32 × Int32 × pm_H)) ⊕ (Int32 × pm_H)) := fun z => match z with
  | .inl (x0, x1, h) => tX5_advance_0 x0 x1 h
  | .inr (.inl (x0, x1, x2, x3, h)) => tX5_advance_4 x0 x1 x2 x3 h
  | .inr (.inr (.inl (x0, x1, x2, x3, x6, h))) => tX5_advance_120 x0 x1 x2 x3 x6 h
  | .inr (.inr (.inr (.inl (x0, x1, x2, x3, h)))) => tX5_advance_36 x0 x1 x2 x3 h
  | .inr (.inr (.inr (.inr (x0, x1, x2, x3, h)))) => tX5_advance_129 x0 x1 x2 x3 h
noncomputable def fX5_advance (h : pm_H) (a0 : Nat) (p1 : Int32) : Option (Int32 × pm_H) := pm_lim sX5_advance (.inl ((a0, p1, h)))
set_option maxHeartbeats 4000000 in
set_option maxRecDepth 100000 in
theorem mlX5_advance {r : (Int32 × pm_H)} : ∀ n : Nat, (∀ (x0 : Nat) (x1 : Int32) (h : pm_H), pm_iter sX5_advance n (.inl (x0, x1, h)) = some r → pm_Le h r.2) ∧ (∀ (x0 : Nat) (x1 : Int32) (x2 : Int32) (x3 : Int32) (h : pm_H), pm_iter sX5_advance n (.inr (.inl (x0, x1, x2, x3, h))) = some r → pm_Le h r.2) ∧ (∀ (x0 : Nat) (x1 : Int32) (x2 : Int32) (x3 : Int32) (x6 : Int32) (h : pm_H), pm_iter sX5_advance n (.inr (.inr (.inl (x0, x1, x2, x3, x6, h)))) = some r → pm_Le h r.2) ∧ (∀ (x0 : Nat) (x1 : Int32) (x2 : Int32) (x3 : Int32) (h : pm_H), pm_iter sX5_advance n (.inr (.inr (.inr (.inl (x0, x1, x2, x3, h))))) = some r → pm_Le h r.2) ∧ (∀ (x0 : Nat) (x1 : Int32) (x2 : Int32) (x3 : Int32) (h : pm_H), pm_iter sX5_advance n (.inr (.inr (.inr (.inr (x0, x1, x2, x3, h))))) = some r → pm_Le h r.2) := by
  intro n
  induction n with
  | zero => exact ⟨fun _ _ _ hf => (by cases hf), fun _ _ _ _ _ hf => (by cases hf), fun _ _ _ _ _ _ hf => (by cases hf), fun _ _ _ _ _ hf => (by cases hf), fun _ _ _ _ _ hf => (by cases hf)⟩
  | succ n ih =>
    refine ⟨fun x0 x1 h hf => ?_, ?_⟩
    · obtain ⟨y, hf, hi⟩ := pm_iter_s hf
      have hf : tX5_advance_0 x0 x1 h = some y := hf
      unfold tX5_advance_0 at hf
      have K0 := pm_S3.rf h
      cases hf
      exact (pm_S3.le K0).trans (ih.2.1 x0 x1 0 0 h hi)
    refine ⟨fun x0 x1 x2 x3 h hf => ?_, ?_⟩
    · obtain ⟨y, hf, hi⟩ := pm_iter_s hf
      have hf : tX5_advance_4 x0 x1 x2 x3 h = some y := hf
      unfold tX5_advance_4 at hf
      have K0 := pm_S3.rf h
      by_cases c1 : x1 ≤ x3
      · have hf := pm_it hf c1
        obtain ⟨k2, hf⟩ := pm_if hf
        obtain ⟨y3, e4, hf⟩ := pm_lt hf
        have hf := Option.some.inj hf
        subst hf
        have hi := Option.some.inj (show some _ = some r from hi)
        subst hi
        exact pm_S3.le (pm_S3I K0)
      · have hf := pm_ie hf c1
        by_cases c5 : x1 ≤ x2
        · have hf := pm_it hf c5
          obtain ⟨k6, hf⟩ := pm_if hf
          obtain ⟨y7, e8, hf⟩ := pm_lt hf
          have hf := Option.some.inj hf
          subst hf
          have hi := Option.some.inj (show some _ = some r from hi)
          subst hi
          exact pm_S3.le (pm_S3I K0)
        · have hf := pm_ie hf c5
          obtain ⟨k9, hf⟩ := pm_if hf
          by_cases c10 : (pm_I h x0 0) = 1
          · have hf := pm_it hf c10
            obtain ⟨v11, e12, hf⟩ := pm_bd hf
            obtain ⟨k13, hf⟩ := pm_if hf
            by_cases c14 : (pm_I h v11 7) = 0
            · have hf := pm_it hf c14
              obtain ⟨v15, e16, hf⟩ := pm_bd hf
              cases hf
              exact ((pm_S3.le K0).trans (moX5_stepOnStack e16)).trans (ih.2.2.2.1 x0 x1 x2 x3 v15 hi)
            · have hf := pm_ie hf c14
              obtain ⟨y17, e18, hf⟩ := pm_lt hf
              obtain ⟨v19, e20, hf⟩ := pm_bd hf
              obtain ⟨v21, e22, hf⟩ := pm_bd hf
              obtain ⟨y23, e24, hf⟩ := pm_lt hf
              obtain ⟨y25, e26, hf⟩ := pm_lt hf
              obtain ⟨y27, e28, hf⟩ := pm_lt hf
              by_cases c29 : y23 ≤ y27
              · have hf := pm_it hf c29
                by_cases c30 : y27 = y23
                · have hf := pm_it hf c30
                  obtain ⟨v31, e32, hf⟩ := pm_bd hf
                  cases hf
                  exact ((pm_S3.le (pm_S3I K0)).trans (moX5_stepOnRegisters e32)).trans (ih.2.2.1 x0 x1 x2 x3 y27 v31 hi)
                · have hf := pm_ie hf c30
                  cases hf
                  exact (pm_S3.le (pm_S3I K0)).trans (ih.2.2.1 x0 x1 x2 x3 y27 (pm_setI h x0 14 0) hi)
              · have hf := pm_ie hf c29
                obtain ⟨y33, e34, hf⟩ := pm_lt hf
                by_cases c35 : y27 = y23
                · have hf := pm_it hf c35
                  obtain ⟨v36, e37, hf⟩ := pm_bd hf
                  cases hf
                  exact ((pm_S3.le (pm_S3I K0)).trans (moX5_stepOnRegisters e37)).trans (ih.2.2.1 x0 x1 x2 x3 y27 v36 hi)
                · have hf := pm_ie hf c35
                  cases hf
                  exact (pm_S3.le (pm_S3I K0)).trans (ih.2.2.1 x0 x1 x2 x3 y27 (pm_setI h x0 14 y33) hi)
          · have hf := pm_ie hf c10
            obtain ⟨y38, e39, hf⟩ := pm_lt hf
            have hf := Option.some.inj hf
            subst hf
            have hi := Option.some.inj (show some _ = some r from hi)
            subst hi
            exact pm_S3.le (pm_S3I K0)
    refine ⟨fun x0 x1 x2 x3 x6 h hf => ?_, ?_⟩
    · obtain ⟨y, hf, hi⟩ := pm_iter_s hf
      have hf : tX5_advance_120 x0 x1 x2 x3 x6 h = some y := hf
      unfold tX5_advance_120 at hf
      have K0 := pm_S3.rf h
      obtain ⟨y45, e46, hf⟩ := pm_lt hf
      obtain ⟨k47, hf⟩ := pm_if hf
      obtain ⟨v48, e49, hf⟩ := pm_bd hf
      cases hf
      exact ((pm_S3.le K0).trans (moX5_settle e49)).trans (ih.2.2.2.2 x0 x1 y45 x3 v48 hi)
    refine ⟨fun x0 x1 x2 x3 h hf => ?_, ?_⟩
    · obtain ⟨y, hf, hi⟩ := pm_iter_s hf
      have hf : tX5_advance_36 x0 x1 x2 x3 h = some y := hf
      unfold tX5_advance_36 at hf
      have K0 := pm_S3.rf h
      obtain ⟨y40, e41, hf⟩ := pm_lt hf
      obtain ⟨k42, hf⟩ := pm_if hf
      obtain ⟨v43, e44, hf⟩ := pm_bd hf
      cases hf
      exact ((pm_S3.le K0).trans (moX5_settle e44)).trans (ih.2.2.2.2 x0 x1 y40 x3 v43 hi)
    refine fun x0 x1 x2 x3 h hf => ?_
    obtain ⟨y, hf, hi⟩ := pm_iter_s hf
    have hf : tX5_advance_129 x0 x1 x2 x3 h = some y := hf
    unfold tX5_advance_129 at hf
    have K0 := pm_S3.rf h
    obtain ⟨y50, e51, hf⟩ := pm_lt hf
    cases hf
    exact (pm_S3.le K0).trans (ih.2.1 x0 x1 x2 y50 h hi)
set_option maxHeartbeats 4000000 in
set_option maxRecDepth 100000 in
theorem moX5_advance {h : pm_H} {a0 : Nat} {p1 : Int32} {r : (Int32 × pm_H)} (hf : fX5_advance h a0 p1 = some r) : pm_Le h r.2 := by
  unfold fX5_advance at hf
  have K0 := pm_S3.rf h
  obtain ⟨n, hn⟩ := pm_lim_iter hf
  exact (mlX5_advance n).1 a0 p1 h hn
set_option maxHeartbeats 4000000 in
set_option maxRecDepth 100000 in
theorem lpX5_advance {g : pm_Gm} {l : Launch} {G : pm_Gl} {Qr : Option Value → pm_H → Prop} (C : pm_C g cX5_advance RX5) {h0 : pm_H} {r : (Int32 × pm_H)} (X : pm_X g l G mX5_advance (pm_sz r.2 - pm_sz h0) (pm_us r.2 - pm_us h0) Qr) (q : Qr (some (.int r.1)) r.2) : ∀ n : Nat, (∀ (x0 : Nat) (x1 : Int32) (h : pm_H), pm_Le h0 h → pm_iter sX5_advance n (.inl (x0, x1, h)) = some r → pm_G g 0 [(0, .ref x0), (1, .int x1)] [] h (pm_sz h - pm_sz h0) (pm_us h - pm_us h0)) ∧ (∀ (x0 : Nat) (x1 : Int32) (x2 : Int32) (x3 : Int32) (h : pm_H), pm_Le h0 h → pm_iter sX5_advance n (.inr (.inl (x0, x1, x2, x3, h))) = some r → pm_G g 4 [(0, .ref x0), (1, .int x1), (2, .int x2), (3, .int x3)] [] h (pm_sz h - pm_sz h0) (pm_us h - pm_us h0)) ∧ (∀ (x0 : Nat) (x1 : Int32) (x2 : Int32) (x3 : Int32) (x6 : Int32) (h : pm_H), pm_Le h0 h → pm_iter sX5_advance n (.inr (.inr (.inl (x0, x1, x2, x3, x6, h)))) = some r → pm_G g 120 [(0, .ref x0), (1, .int x1), (2, .int x2), (3, .int x3), (6, .int x6)] [] h (pm_sz h - pm_sz h0) (pm_us h - pm_us h0)) ∧ (∀ (x0 : Nat) (x1 : Int32) (x2 : Int32) (x3 : Int32) (h : pm_H), pm_Le h0 h → pm_iter sX5_advance n (.inr (.inr (.inr (.inl (x0, x1, x2, x3, h))))) = some r → pm_G g 36 [(0, .ref x0), (1, .int x1), (2, .int x2), (3, .int x3)] [] h (pm_sz h - pm_sz h0) (pm_us h - pm_us h0)) ∧ (∀ (x0 : Nat) (x1 : Int32) (x2 : Int32) (x3 : Int32) (h : pm_H), pm_Le h0 h → pm_iter sX5_advance n (.inr (.inr (.inr (.inr (x0, x1, x2, x3, h))))) = some r → pm_G g 129 [(0, .ref x0), (1, .int x1), (2, .int x2), (3, .int x3)] [] h (pm_sz h - pm_sz h0) (pm_us h - pm_us h0)) := by
  intro n
  induction n with
  | zero => exact ⟨fun _ _ _ _ hf => (by cases hf), fun _ _ _ _ _ _ hf => (by cases hf), fun _ _ _ _ _ _ _ hf => (by cases hf), fun _ _ _ _ _ _ hf => (by cases hf), fun _ _ _ _ _ _ hf => (by cases hf)⟩
  | succ n ih =>
    refine ⟨fun x0 x1 h m0 hf => ?_, ?_⟩
    · have le0 := (mlX5_advance (n + 1)).1 x0 x1 h hf
      have kc1 := Nat.sub_le_sub_right le0.1 (pm_sz h0)
      have kc2 := Nat.sub_le_sub_right le0.2 (pm_us h0)
      have K0 := pm_S3.rf h
      obtain ⟨y, hf, hi⟩ := pm_iter_s hf
      have hf : tX5_advance_0 x0 x1 h = some y := hf
      unfold tX5_advance_0 at hf
      refine pm_iconst (v := 0) C dX5_advance_0 (by decide) ?_
      refine pm_istore_n (lv' := [(2, .int 0), (0, .ref x0), (1, .int x1)]) C dX5_advance_1 rfl (pm_nl X (by decide)) rfl ?_
      refine pm_iconst (v := 0) C dX5_advance_2 (by decide) ?_
      refine pm_istore_n (lv' := [(3, .int 0), (2, .int 0), (0, .ref x0), (1, .int x1)]) C dX5_advance_3 rfl (pm_nl X (by decide)) rfl ?_
      cases hf
      exact pa_join K0 (pm_sub [2, 3, 1, 0] rfl (ih.2.1 x0 x1 0 0 h (m0.trans (pm_S3.le K0)) hi))
    refine ⟨fun x0 x1 x2 x3 h m0 hf => ?_, ?_⟩
    · have le0 := (mlX5_advance (n + 1)).2.1 x0 x1 x2 x3 h hf
      have kc1 := Nat.sub_le_sub_right le0.1 (pm_sz h0)
      have kc2 := Nat.sub_le_sub_right le0.2 (pm_us h0)
      have K0 := pm_S3.rf h
      obtain ⟨y, hf, hi⟩ := pm_iter_s hf
      have hf : tX5_advance_4 x0 x1 x2 x3 h = some y := hf
      unfold tX5_advance_4 at hf
      refine pm_iload_n C dX5_advance_4 rfl rfl ?_
      refine pm_iload_n C dX5_advance_5 rfl rfl ?_
      refine pm_icmp_ge (tgt := 135) C dX5_advance_6 (by decide) (fun c1 => ?_) (fun c1 => ?_)
      · have hf := pm_it hf c1
        refine pm_aload_n C dX5_advance_135 rfl rfl ?_
        refine pm_dup C dX5_advance_136 rfl ?_
        obtain ⟨k2, hf⟩ := pm_if hf
        refine pm_getI C dX5_advance_137 flX5_78 rfl k2 rfl ?_
        refine pm_iload_n C dX5_advance_140 rfl rfl ?_
        refine pm_iadd C dX5_advance_141 ?_
        obtain ⟨y3, e4, hf⟩ := pm_lt hf
        refine pm_topI e4 ?_
        refine pm_putI C dX5_advance_142 flX5_78 rfl rfl k2 rfl rfl ?_
        refine pm_iload_n C dX5_advance_145 rfl rfl ?_
        have hf := Option.some.inj hf
        subst hf
        have hi := Option.some.inj (show some _ = some r from hi)
        subst hi
        exact pm_iret C X dX5_advance_146 rfl kc1 kc2 q
      · have hf := pm_ie hf c1
        refine pm_iload_n C dX5_advance_9 rfl rfl ?_
        refine pm_iload_n C dX5_advance_10 rfl rfl ?_
        refine pm_icmp_ge (tgt := 135) C dX5_advance_11 (by decide) (fun c5 => ?_) (fun c5 => ?_)
        · have hf := pm_it hf c5
          refine pm_aload_n C dX5_advance_135 rfl rfl ?_
          refine pm_dup C dX5_advance_136 rfl ?_
          obtain ⟨k6, hf⟩ := pm_if hf
          refine pm_getI C dX5_advance_137 flX5_78 rfl k6 rfl ?_
          refine pm_iload_n C dX5_advance_140 rfl rfl ?_
          refine pm_iadd C dX5_advance_141 ?_
          obtain ⟨y7, e8, hf⟩ := pm_lt hf
          refine pm_topI e8 ?_
          refine pm_putI C dX5_advance_142 flX5_78 rfl rfl k6 rfl rfl ?_
          refine pm_iload_n C dX5_advance_145 rfl rfl ?_
          have hf := Option.some.inj hf
          subst hf
          have hi := Option.some.inj (show some _ = some r from hi)
          subst hi
          exact pm_iret C X dX5_advance_146 rfl kc1 kc2 q
        · have hf := pm_ie hf c5
          refine pm_aload_n C dX5_advance_14 rfl rfl ?_
          obtain ⟨k9, hf⟩ := pm_if hf
          refine pm_getI C dX5_advance_15 flX5_55 rfl k9 rfl ?_
          refine pm_iconst (v := 1) C dX5_advance_18 (by decide) ?_
          refine pm_icmp_ne (tgt := 135) C dX5_advance_19 (by decide) (fun c10 => ?_) (fun c10 => ?_)
          · have hf := pm_ie hf c10
            refine pm_aload_n C dX5_advance_135 rfl rfl ?_
            refine pm_dup C dX5_advance_136 rfl ?_
            refine pm_getI C dX5_advance_137 flX5_78 rfl k9 rfl ?_
            refine pm_iload_n C dX5_advance_140 rfl rfl ?_
            refine pm_iadd C dX5_advance_141 ?_
            obtain ⟨y11, e12, hf⟩ := pm_lt hf
            refine pm_topI e12 ?_
            refine pm_putI C dX5_advance_142 flX5_78 rfl rfl k9 rfl rfl ?_
            refine pm_iload_n C dX5_advance_145 rfl rfl ?_
            have hf := Option.some.inj hf
            subst hf
            have hi := Option.some.inj (show some _ = some r from hi)
            subst hi
            exact pm_iret C X dX5_advance_146 rfl kc1 kc2 q
          · have hf := pm_it hf c10
            refine pm_aload_n C dX5_advance_22 rfl rfl ?_
            obtain ⟨v13, e14, hf⟩ := pm_bd hf
            refine pm_getR C dX5_advance_23 flX5_51 rfl k9 e14 ?_
            obtain ⟨k15, hf⟩ := pm_if hf
            refine pm_getI C dX5_advance_26 flX5_121 rfl k15 rfl ?_
            refine pm_if_ne (tgt := 42) C dX5_advance_29 (by decide) (fun c16 => ?_) (fun c16 => ?_)
            · have hf := pm_ie hf c16
              refine pm_aload_n C dX5_advance_42 rfl rfl ?_
              refine pm_getR C dX5_advance_43 flX5_51 rfl k9 e14 ?_
              refine pm_getI C dX5_advance_46 flX5_128 rfl k15 rfl ?_
              refine pm_bipush (v := 8) C dX5_advance_49 (by decide) ?_
              refine pm_imul C dX5_advance_51 ?_
              obtain ⟨y17, e18, hf⟩ := pm_lt hf
              refine pm_topI e18 ?_
              refine pm_istore (lv' := [(4, .int y17), (0, .ref x0), (1, .int x1), (2, .int x2), (3, .int x3)]) C dX5_advance_52 (pm_nl X (by decide)) rfl ?_
              refine pm_aload_n C dX5_advance_54 rfl rfl ?_
              refine pm_getR C dX5_advance_55 flX5_51 rfl k9 e14 ?_
              obtain ⟨v19, e20, hf⟩ := pm_bd hf
              refine pm_getR C dX5_advance_58 flX5_131 rfl k15 e20 ?_
              refine pm_iload C dX5_advance_61 rfl ?_
              refine pm_iconst (v := 1) C dX5_advance_63 (by decide) ?_
              refine pm_iadd C dX5_advance_64 ?_
              obtain ⟨v21, e22, hf⟩ := pm_bd hf
              refine pm_callS (as := [.ref v19, .int (y17 + 1)]) (st := []) C X dX5_advance_65 lnX5_88 myX12_item stX12_item ⟨by decide, by decide⟩ rfl rfl (Nat.le_of_ble_eq_true rfl) kc1 kc2 (ctX12_item e22 ?_)
              show pm_G g 68 [(4, .int y17), (0, .ref x0), (1, .int x1), (2, .int x2), (3, .int x3)] [.int v21] h (pm_sz h - pm_sz h0) (pm_us h - pm_us h0)
              refine pm_aload_n C dX5_advance_68 rfl rfl ?_
              refine pm_getI C dX5_advance_69 flX5_65 rfl k9 rfl ?_
              refine pm_isub C dX5_advance_72 ?_
              obtain ⟨y23, e24, hf⟩ := pm_lt hf
              refine pm_topI e24 ?_
              refine pm_istore (lv' := [(5, .int y23), (4, .int y17), (0, .ref x0), (1, .int x1), (2, .int x2), (3, .int x3)]) C dX5_advance_73 (pm_nl X (by decide)) rfl ?_
              refine pm_iload C dX5_advance_75 rfl ?_
              refine pm_iload_n C dX5_advance_77 rfl rfl ?_
              refine pm_iload_n C dX5_advance_78 rfl rfl ?_
              refine pm_isub C dX5_advance_79 ?_
              obtain ⟨y25, e26, hf⟩ := pm_lt hf
              refine pm_topI e26 ?_
              refine pm_mminI C (pm_XR X) dX5_advance_80 mtX5_135 (by decide) (by decide) (Nat.le_of_ble_eq_true rfl) kc1 kc2 ?_
              obtain ⟨y27, e28, hf⟩ := pm_lt hf
              refine pm_topI e28 ?_
              refine pm_istore (lv' := [(6, .int y27), (5, .int y23), (4, .int y17), (0, .ref x0), (1, .int x1), (2, .int x2), (3, .int x3)]) C dX5_advance_83 (pm_nl X (by decide)) rfl ?_
              refine pm_aload_n C dX5_advance_85 rfl rfl ?_
              refine pm_iload C dX5_advance_86 rfl ?_
              refine pm_iload C dX5_advance_88 rfl ?_
              refine pm_icmp_ge (tgt := 103) C dX5_advance_90 (by decide) (fun c29 => ?_) (fun c29 => ?_)
              · have hf := pm_it hf c29
                refine pm_iconst (v := 0) C dX5_advance_103 (by decide) ?_
                refine pm_putI C dX5_advance_104 flX5_65 rfl rfl k9 rfl rfl ?_
                refine pm_iload C dX5_advance_107 rfl ?_
                refine pm_iload C dX5_advance_109 rfl ?_
                refine pm_icmp_ne (tgt := 120) C dX5_advance_111 (by decide) (fun c30 => ?_) (fun c30 => ?_)
                · have hf := pm_ie hf c30
                  cases hf
                  exact pa_join (pm_S3I K0) (pm_sub [3, 4, 5, 6, 0] rfl (ih.2.2.1 x0 x1 x2 x3 y27 (pm_setI h x0 14 0) (m0.trans (pm_S3.le (pm_S3I K0))) hi))
                · have hf := pm_it hf c30
                  refine pm_aload_n C dX5_advance_114 rfl rfl ?_
                  refine pm_iload C dX5_advance_115 rfl ?_
                  obtain ⟨v31, e32, hf⟩ := pm_bd hf
                  cases hf
                  refine pm_callV (as := [.int y17]) (st := []) C X dX5_advance_117 lnX5_141 myX5_stepOnRegisters viX5_stepOnRegisters ⟨by decide, by decide⟩ rfl rfl k9 (Nat.le_of_ble_eq_true rfl) (pa_le1 (pm_S3I K0) m0 (moX5_stepOnRegisters e32) ((mlX5_advance n).2.2.1 x0 x1 x2 x3 y27 v31 hi)) (pa_le2 (pm_S3I K0) m0 (moX5_stepOnRegisters e32) ((mlX5_advance n).2.2.1 x0 x1 x2 x3 y27 v31 hi)) (ctX5_stepOnRegisters e32 ?_)
                  show pm_G g 120 [(6, .int y27), (5, .int y23), (4, .int y17), (0, .ref x0), (1, .int x1), (2, .int x2), (3, .int x3)] [] v31 (pm_sz h - pm_sz h0 + (pm_sz v31 - pm_sz (pm_setI h x0 14 0))) (pm_us h - pm_us h0 + (pm_us v31 - pm_us (pm_setI h x0 14 0)))
                  refine pa_fin (pm_S3I K0) m0 (moX5_stepOnRegisters e32) ?_
                  exact pm_sub [3, 4, 5, 6, 0] rfl (ih.2.2.1 x0 x1 x2 x3 y27 v31 ((m0.trans (pm_S3.le (pm_S3I K0))).trans (moX5_stepOnRegisters e32)) hi)
              · have hf := pm_ie hf c29
                refine pm_aload_n C dX5_advance_93 rfl rfl ?_
                refine pm_getI C dX5_advance_94 flX5_65 rfl k9 rfl ?_
                refine pm_iload C dX5_advance_97 rfl ?_
                refine pm_iadd C dX5_advance_99 ?_
                refine pm_goto (tgt := 104) C dX5_advance_100 (by decide) ?_
                obtain ⟨y33, e34, hf⟩ := pm_lt hf
                refine pm_topI e34 ?_
                refine pm_putI C dX5_advance_104 flX5_65 rfl rfl k9 rfl rfl ?_
                refine pm_iload C dX5_advance_107 rfl ?_
                refine pm_iload C dX5_advance_109 rfl ?_
                refine pm_icmp_ne (tgt := 120) C dX5_advance_111 (by decide) (fun c35 => ?_) (fun c35 => ?_)
                · have hf := pm_ie hf c35
                  cases hf
                  exact pa_join (pm_S3I K0) (pm_sub [3, 4, 5, 6, 0] rfl (ih.2.2.1 x0 x1 x2 x3 y27 (pm_setI h x0 14 y33) (m0.trans (pm_S3.le (pm_S3I K0))) hi))
                · have hf := pm_it hf c35
                  refine pm_aload_n C dX5_advance_114 rfl rfl ?_
                  refine pm_iload C dX5_advance_115 rfl ?_
                  obtain ⟨v36, e37, hf⟩ := pm_bd hf
                  cases hf
                  refine pm_callV (as := [.int y17]) (st := []) C X dX5_advance_117 lnX5_141 myX5_stepOnRegisters viX5_stepOnRegisters ⟨by decide, by decide⟩ rfl rfl k9 (Nat.le_of_ble_eq_true rfl) (pa_le1 (pm_S3I K0) m0 (moX5_stepOnRegisters e37) ((mlX5_advance n).2.2.1 x0 x1 x2 x3 y27 v36 hi)) (pa_le2 (pm_S3I K0) m0 (moX5_stepOnRegisters e37) ((mlX5_advance n).2.2.1 x0 x1 x2 x3 y27 v36 hi)) (ctX5_stepOnRegisters e37 ?_)
                  show pm_G g 120 [(6, .int y27), (5, .int y23), (4, .int y17), (0, .ref x0), (1, .int x1), (2, .int x2), (3, .int x3)] [] v36 (pm_sz h - pm_sz h0 + (pm_sz v36 - pm_sz (pm_setI h x0 14 y33))) (pm_us h - pm_us h0 + (pm_us v36 - pm_us (pm_setI h x0 14 y33)))
                  refine pa_fin (pm_S3I K0) m0 (moX5_stepOnRegisters e37) ?_
                  exact pm_sub [3, 4, 5, 6, 0] rfl (ih.2.2.1 x0 x1 x2 x3 y27 v36 ((m0.trans (pm_S3.le (pm_S3I K0))).trans (moX5_stepOnRegisters e37)) hi)
            · have hf := pm_it hf c16
              refine pm_aload_n C dX5_advance_32 rfl rfl ?_
              obtain ⟨v38, e39, hf⟩ := pm_bd hf
              cases hf
              refine pm_callV (as := []) (st := []) C X dX5_advance_33 lnX5_125 myX5_stepOnStack viX5_stepOnStack ⟨by decide, by decide⟩ rfl rfl k9 (Nat.le_of_ble_eq_true rfl) (pa_le1 K0 m0 (moX5_stepOnStack e39) ((mlX5_advance n).2.2.2.1 x0 x1 x2 x3 v38 hi)) (pa_le2 K0 m0 (moX5_stepOnStack e39) ((mlX5_advance n).2.2.2.1 x0 x1 x2 x3 v38 hi)) (ctX5_stepOnStack e39 ?_)
              show pm_G g 36 [(0, .ref x0), (1, .int x1), (2, .int x2), (3, .int x3)] [] v38 (pm_sz h - pm_sz h0 + (pm_sz v38 - pm_sz h)) (pm_us h - pm_us h0 + (pm_us v38 - pm_us h))
              refine pa_fin K0 m0 (moX5_stepOnStack e39) ?_
              exact pm_sub [0, 1, 2, 3] rfl (ih.2.2.2.1 x0 x1 x2 x3 v38 ((m0.trans (pm_S3.le K0)).trans (moX5_stepOnStack e39)) hi)
    refine ⟨fun x0 x1 x2 x3 x6 h m0 hf => ?_, ?_⟩
    · have le0 := (mlX5_advance (n + 1)).2.2.1 x0 x1 x2 x3 x6 h hf
      have kc1 := Nat.sub_le_sub_right le0.1 (pm_sz h0)
      have kc2 := Nat.sub_le_sub_right le0.2 (pm_us h0)
      have K0 := pm_S3.rf h
      obtain ⟨y, hf, hi⟩ := pm_iter_s hf
      have hf : tX5_advance_120 x0 x1 x2 x3 x6 h = some y := hf
      unfold tX5_advance_120 at hf
      refine pm_iload_n C dX5_advance_120 rfl rfl ?_
      refine pm_iload C dX5_advance_121 rfl ?_
      refine pm_iadd C dX5_advance_123 ?_
      obtain ⟨y40, e41, hf⟩ := pm_lt hf
      refine pm_topI e41 ?_
      refine pm_istore_n (lv' := [(2, .int y40), (0, .ref x0), (1, .int x1), (3, .int x3), (6, .int x6)]) C dX5_advance_124 rfl (pm_nl X (by decide)) rfl ?_
      refine pm_aload_n C dX5_advance_125 rfl rfl ?_
      obtain ⟨k42, hf⟩ := pm_if hf
      obtain ⟨v43, e44, hf⟩ := pm_bd hf
      cases hf
      refine pm_callV (as := []) (st := []) C X dX5_advance_126 lnX5_107 myX5_settle viX5_settle ⟨by decide, by decide⟩ rfl rfl k42 (Nat.le_of_ble_eq_true rfl) (pa_le1 K0 m0 (moX5_settle e44) ((mlX5_advance n).2.2.2.2 x0 x1 y40 x3 v43 hi)) (pa_le2 K0 m0 (moX5_settle e44) ((mlX5_advance n).2.2.2.2 x0 x1 y40 x3 v43 hi)) (ctX5_settle e44 ?_)
      show pm_G g 129 [(2, .int y40), (0, .ref x0), (1, .int x1), (3, .int x3), (6, .int x6)] [] v43 (pm_sz h - pm_sz h0 + (pm_sz v43 - pm_sz h)) (pm_us h - pm_us h0 + (pm_us v43 - pm_us h))
      refine pa_fin K0 m0 (moX5_settle e44) ?_
      exact pm_sub [1, 2, 0, 3] rfl (ih.2.2.2.2 x0 x1 y40 x3 v43 ((m0.trans (pm_S3.le K0)).trans (moX5_settle e44)) hi)
    refine ⟨fun x0 x1 x2 x3 h m0 hf => ?_, ?_⟩
    · have le0 := (mlX5_advance (n + 1)).2.2.2.1 x0 x1 x2 x3 h hf
      have kc1 := Nat.sub_le_sub_right le0.1 (pm_sz h0)
      have kc2 := Nat.sub_le_sub_right le0.2 (pm_us h0)
      have K0 := pm_S3.rf h
      obtain ⟨y, hf, hi⟩ := pm_iter_s hf
      have hf : tX5_advance_36 x0 x1 x2 x3 h = some y := hf
      unfold tX5_advance_36 at hf
      obtain ⟨y45, e46, hf⟩ := pm_lt hf
      refine pm_iinc (v := y45) (lv' := [(2, .int y45), (0, .ref x0), (1, .int x1), (3, .int x3)]) C dX5_advance_36 rfl ((congrArg (x2 + ·) (by decide : Int32.ofInt 1 = 1)).trans e46) (pm_nl X (by decide)) rfl ?_
      refine pm_goto (tgt := 125) C dX5_advance_39 (by decide) ?_
      refine pm_aload_n C dX5_advance_125 rfl rfl ?_
      obtain ⟨k47, hf⟩ := pm_if hf
      obtain ⟨v48, e49, hf⟩ := pm_bd hf
      cases hf
      refine pm_callV (as := []) (st := []) C X dX5_advance_126 lnX5_107 myX5_settle viX5_settle ⟨by decide, by decide⟩ rfl rfl k47 (Nat.le_of_ble_eq_true rfl) (pa_le1 K0 m0 (moX5_settle e49) ((mlX5_advance n).2.2.2.2 x0 x1 y45 x3 v48 hi)) (pa_le2 K0 m0 (moX5_settle e49) ((mlX5_advance n).2.2.2.2 x0 x1 y45 x3 v48 hi)) (ctX5_settle e49 ?_)
      show pm_G g 129 [(2, .int y45), (0, .ref x0), (1, .int x1), (3, .int x3)] [] v48 (pm_sz h - pm_sz h0 + (pm_sz v48 - pm_sz h)) (pm_us h - pm_us h0 + (pm_us v48 - pm_us h))
      refine pa_fin K0 m0 (moX5_settle e49) ?_
      exact pm_sub [1, 2, 0, 3] rfl (ih.2.2.2.2 x0 x1 y45 x3 v48 ((m0.trans (pm_S3.le K0)).trans (moX5_settle e49)) hi)
    refine fun x0 x1 x2 x3 h m0 hf => ?_
    have le0 := (mlX5_advance (n + 1)).2.2.2.2 x0 x1 x2 x3 h hf
    have kc1 := Nat.sub_le_sub_right le0.1 (pm_sz h0)
    have kc2 := Nat.sub_le_sub_right le0.2 (pm_us h0)
    have K0 := pm_S3.rf h
    obtain ⟨y, hf, hi⟩ := pm_iter_s hf
    have hf : tX5_advance_129 x0 x1 x2 x3 h = some y := hf
    unfold tX5_advance_129 at hf
    obtain ⟨y50, e51, hf⟩ := pm_lt hf
    refine pm_iinc (v := y50) (lv' := [(3, .int y50), (0, .ref x0), (1, .int x1), (2, .int x2)]) C dX5_advance_129 rfl ((congrArg (x3 + ·) (by decide : Int32.ofInt 1 = 1)).trans e51) (pm_nl X (by decide)) rfl ?_
    refine pm_goto (tgt := 4) C dX5_advance_132 (by decide) ?_
    cases hf
    exact pa_join K0 (pm_sub [1, 2, 3, 0] rfl (ih.2.1 x0 x1 x2 y50 h (m0.trans (pm_S3.le K0)) hi))
set_option maxHeartbeats 4000000 in
set_option maxRecDepth 100000 in
theorem ctX5_advance {l : Launch} {G : pm_Gl} {h : pm_H} {a0 : Nat} {p1 : Int32} {r : (Int32 × pm_H)} {Qr : Option Value → pm_H → Prop} (hf : fX5_advance h a0 p1 = some r) (q : Qr (some (.int r.1)) r.2) : pm_Ct l G mX5_advance [.ref a0, .int p1] h (pm_sz r.2 - pm_sz h) (pm_us r.2 - pm_us h) Qr := by
  refine pm_body pnX5 (Nat.le_of_ble_eq_true rfl) (fun g C X => ?_)
  have C : pm_C g cX5_advance RX5 := C
  show pm_G g 0 [(0, .ref a0), (1, .int p1)] [] h 0 0
  unfold fX5_advance at hf
  obtain ⟨n, hn⟩ := pm_lim_iter hf
  exact pa_start (pm_sub [0, 1] rfl ((lpX5_advance C X q n).1 a0 p1 h (pm_Le.rf h) hn))
theorem dX12_run_0 : decode cX12_run 0 = .ok (.iload_n 1, 1) := by decide +kernel
theorem dX12_run_1 : decode cX12_run 1 = .ok (.ifCond .lt 9, 3) := by decide +kernel
theorem dX12_run_4 : decode cX12_run 4 = .ok (.iload_n 1, 1) := by decide +kernel
theorem dX12_run_5 : decode cX12_run 5 = .ok (.ldc 202, 2) := by decide +kernel
theorem dX12_run_7 : decode cX12_run 7 = .ok (.if_icmp .le 5, 3) := by decide +kernel
theorem dX12_run_10 : decode cX12_run 10 = .ok (.iconst (-1), 1) := by decide +kernel
theorem dX12_run_11 : decode cX12_run 11 = .ok (.ireturn, 1) := by decide +kernel
theorem dX12_run_12 : decode cX12_run 12 = .ok (.aload_n 0, 1) := by decide +kernel
theorem dX12_run_13 : decode cX12_run 13 = .ok (.getfield 61, 3) := by decide +kernel
theorem dX12_run_16 : decode cX12_run 16 = .ok (.iload_n 1, 1) := by decide +kernel
theorem dX12_run_17 : decode cX12_run 17 = .ok (.invokevirtual 203, 3) := by decide +kernel
theorem dX12_run_20 : decode cX12_run 20 = .ok (.ireturn, 1) := by decide +kernel
noncomputable def fX12_run_b20 (h : pm_H) (s0 : Int32) : Option (Int32 × pm_H) := some ((s0, h))
noncomputable def fX12_run_b0 (h : pm_H) (x0 : Nat) (x1 : Int32) : Option (Int32 × pm_H) := if x1 < 0 then (some (((-1), h))) else (if x1 ≤ 100000 then (if pm_kd h x0 = 12 then (pm_R h x0 11).bind fun v4 => if pm_kd h v4 = 5 then (fX5_advance h v4 x1).bind fun v7 => fX12_run_b20 v7.2 v7.1 else none else none) else (some (((-1), h))))
noncomputable def fX12_run (h : pm_H) (a0 : Nat) (p1 : Int32) : Option (Int32 × pm_H) := fX12_run_b0 h a0 p1
set_option maxHeartbeats 4000000 in
set_option maxRecDepth 100000 in
theorem moX12_run_b20 {h : pm_H} {s0 : Int32} {r : (Int32 × pm_H)} (hf : fX12_run_b20 h s0 = some r) : pm_Le h r.2 := by
  unfold fX12_run_b20 at hf
  have K0 := pm_S3.rf h
  have hf := Option.some.inj hf
  subst hf
  exact pm_S3.le K0
set_option maxHeartbeats 4000000 in
set_option maxRecDepth 100000 in
theorem moX12_run_b0 {h : pm_H} {x0 : Nat} {x1 : Int32} {r : (Int32 × pm_H)} (hf : fX12_run_b0 h x0 x1 = some r) : pm_Le h r.2 := by
  unfold fX12_run_b0 at hf
  have K0 := pm_S3.rf h
  by_cases c1 : x1 < 0
  · have hf := pm_it hf c1
    have hf := Option.some.inj hf
    subst hf
    exact pm_S3.le K0
  · have hf := pm_ie hf c1
    by_cases c2 : x1 ≤ 100000
    · have hf := pm_it hf c2
      obtain ⟨k3, hf⟩ := pm_if hf
      obtain ⟨v4, e5, hf⟩ := pm_bd hf
      obtain ⟨k6, hf⟩ := pm_if hf
      obtain ⟨v7, e8, hf⟩ := pm_bd hf
      exact ((pm_S3.le K0).trans (moX5_advance e8)).trans (moX12_run_b20 hf)
    · have hf := pm_ie hf c2
      have hf := Option.some.inj hf
      subst hf
      exact pm_S3.le K0
set_option maxHeartbeats 4000000 in
set_option maxRecDepth 100000 in
theorem moX12_run {h : pm_H} {a0 : Nat} {p1 : Int32} {r : (Int32 × pm_H)} (hf : fX12_run h a0 p1 = some r) : pm_Le h r.2 := by
  unfold fX12_run at hf
  have K0 := pm_S3.rf h
  exact (pm_S3.le K0).trans (moX12_run_b0 hf)
set_option maxHeartbeats 4000000 in
set_option maxRecDepth 100000 in
theorem bX12_run_20 {g : pm_Gm} {l : Launch} {G : pm_Gl} {Qr : Option Value → pm_H → Prop} (C : pm_C g cX12_run RX12) {h0 h : pm_H} {s0 : Int32} {r : (Int32 × pm_H)} (X : pm_X g l G mX12_run (pm_sz r.2 - pm_sz h0) (pm_us r.2 - pm_us h0) Qr) (m0 : pm_Le h0 h) (hf : fX12_run_b20 h s0 = some r) (q : Qr (some (.int r.1)) r.2) : pm_G g 20 [] [.int s0] h (pm_sz h - pm_sz h0) (pm_us h - pm_us h0) := by
  have le0 := moX12_run_b20 hf
  have kc1 := Nat.sub_le_sub_right le0.1 (pm_sz h0)
  have kc2 := Nat.sub_le_sub_right le0.2 (pm_us h0)
  have K0 := pm_S3.rf h
  unfold fX12_run_b20 at hf
  have hf := Option.some.inj hf
  subst hf
  exact pm_iret C X dX12_run_20 rfl kc1 kc2 q
set_option maxHeartbeats 4000000 in
set_option maxRecDepth 100000 in
theorem bX12_run_0 {g : pm_Gm} {l : Launch} {G : pm_Gl} {Qr : Option Value → pm_H → Prop} (C : pm_C g cX12_run RX12) {h0 h : pm_H} {x0 : Nat} {x1 : Int32} {r : (Int32 × pm_H)} (X : pm_X g l G mX12_run (pm_sz r.2 - pm_sz h0) (pm_us r.2 - pm_us h0) Qr) (m0 : pm_Le h0 h) (hf : fX12_run_b0 h x0 x1 = some r) (q : Qr (some (.int r.1)) r.2) : pm_G g 0 [(0, .ref x0), (1, .int x1)] [] h (pm_sz h - pm_sz h0) (pm_us h - pm_us h0) := by
  have le0 := moX12_run_b0 hf
  have kc1 := Nat.sub_le_sub_right le0.1 (pm_sz h0)
  have kc2 := Nat.sub_le_sub_right le0.2 (pm_us h0)
  have K0 := pm_S3.rf h
  unfold fX12_run_b0 at hf
  refine pm_iload_n C dX12_run_0 rfl rfl ?_
  refine pm_if_lt (tgt := 10) C dX12_run_1 (by decide) (fun c1 => ?_) (fun c1 => ?_)
  · have hf := pm_it hf c1
    refine pm_iconst (v := (-1)) C dX12_run_10 (by decide) ?_
    have hf := Option.some.inj hf
    subst hf
    exact pm_iret C X dX12_run_11 rfl kc1 kc2 q
  · have hf := pm_ie hf c1
    refine pm_iload_n C dX12_run_4 rfl rfl ?_
    refine pm_ldc C dX12_run_5 cnX12_202 ?_
    refine pm_icmp_le (tgt := 12) C dX12_run_7 (by decide) (fun c2 => ?_) (fun c2 => ?_)
    · have hf := pm_it hf c2
      refine pm_aload_n C dX12_run_12 rfl rfl ?_
      obtain ⟨k3, hf⟩ := pm_if hf
      obtain ⟨v4, e5, hf⟩ := pm_bd hf
      refine pm_getR C dX12_run_13 flX12_61 rfl k3 e5 ?_
      refine pm_iload_n C dX12_run_16 rfl rfl ?_
      obtain ⟨k6, hf⟩ := pm_if hf
      obtain ⟨v7, e8, hf⟩ := pm_bd hf
      refine pm_callV (as := [.int x1]) (st := []) C X dX12_run_17 lnX12_203 myX5_advance viX5_advance ⟨by decide, by decide⟩ rfl rfl k6 (Nat.le_of_ble_eq_true rfl) (pa_le1 K0 m0 (moX5_advance e8) (moX12_run_b20 hf)) (pa_le2 K0 m0 (moX5_advance e8) (moX12_run_b20 hf)) (ctX5_advance e8 ?_)
      show pm_G g 20 [(0, .ref x0), (1, .int x1)] [.int v7.1] v7.2 (pm_sz h - pm_sz h0 + (pm_sz v7.2 - pm_sz h)) (pm_us h - pm_us h0 + (pm_us v7.2 - pm_us h))
      refine pa_fin K0 m0 (moX5_advance e8) ?_
      exact pm_sub [] rfl (bX12_run_20 C X ((m0.trans (pm_S3.le K0)).trans (moX5_advance e8)) hf q)
    · have hf := pm_ie hf c2
      refine pm_iconst (v := (-1)) C dX12_run_10 (by decide) ?_
      have hf := Option.some.inj hf
      subst hf
      exact pm_iret C X dX12_run_11 rfl kc1 kc2 q
set_option maxHeartbeats 4000000 in
set_option maxRecDepth 100000 in
theorem ctX12_run {l : Launch} {G : pm_Gl} {h : pm_H} {a0 : Nat} {p1 : Int32} {r : (Int32 × pm_H)} {Qr : Option Value → pm_H → Prop} (hf : fX12_run h a0 p1 = some r) (q : Qr (some (.int r.1)) r.2) : pm_Ct l G mX12_run [.ref a0, .int p1] h (pm_sz r.2 - pm_sz h) (pm_us r.2 - pm_us h) Qr := by
  refine pm_body pnX12 (Nat.le_of_ble_eq_true rfl) (fun g C X => ?_)
  have C : pm_C g cX12_run RX12 := C
  show pm_G g 0 [(0, .ref a0), (1, .int p1)] [] h 0 0
  unfold fX12_run at hf
  exact pa_start (pm_sub [0, 1] rfl (bX12_run_0 C X (pm_Le.rf h) hf q))
