theorem dX5_settle_0 : decode cX5_settle 0 = .ok (.iconst 0, 1) := by decide +kernel
theorem dX5_settle_1 : decode cX5_settle 1 = .ok (.istore_n 1, 1) := by decide +kernel
theorem dX5_settle_2 : decode cX5_settle 2 = .ok (.iload_n 1, 1) := by decide +kernel
theorem dX5_settle_3 : decode cX5_settle 3 = .ok (.ldc 144, 2) := by decide +kernel
theorem dX5_settle_5 : decode cX5_settle 5 = .ok (.if_icmp .ge 197, 3) := by decide +kernel
theorem dX5_settle_8 : decode cX5_settle 8 = .ok (.aload_n 0, 1) := by decide +kernel
theorem dX5_settle_9 : decode cX5_settle 9 = .ok (.getfield 55, 3) := by decide +kernel
theorem dX5_settle_12 : decode cX5_settle 12 = .ok (.iconst 1, 1) := by decide +kernel
theorem dX5_settle_13 : decode cX5_settle 13 = .ok (.if_icmp .ne 189, 3) := by decide +kernel
theorem dX5_settle_16 : decode cX5_settle 16 = .ok (.aload_n 0, 1) := by decide +kernel
theorem dX5_settle_17 : decode cX5_settle 17 = .ok (.getfield 51, 3) := by decide +kernel
theorem dX5_settle_20 : decode cX5_settle 20 = .ok (.getfield 145, 3) := by decide +kernel
theorem dX5_settle_23 : decode cX5_settle 23 = .ok (.ifCond .eq 44, 3) := by decide +kernel
theorem dX5_settle_26 : decode cX5_settle 26 = .ok (.aload_n 0, 1) := by decide +kernel
theorem dX5_settle_27 : decode cX5_settle 27 = .ok (.getfield 51, 3) := by decide +kernel
theorem dX5_settle_30 : decode cX5_settle 30 = .ok (.getfield 121, 3) := by decide +kernel
theorem dX5_settle_33 : decode cX5_settle 33 = .ok (.ifCond .eq 30, 3) := by decide +kernel
theorem dX5_settle_36 : decode cX5_settle 36 = .ok (.aload_n 0, 1) := by decide +kernel
theorem dX5_settle_37 : decode cX5_settle 37 = .ok (.getfield 51, 3) := by decide +kernel
theorem dX5_settle_40 : decode cX5_settle 40 = .ok (.getfield 148, 3) := by decide +kernel
theorem dX5_settle_43 : decode cX5_settle 43 = .ok (.getfield 152, 3) := by decide +kernel
theorem dX5_settle_46 : decode cX5_settle 46 = .ok (.ifCond .ne 17, 3) := by decide +kernel
theorem dX5_settle_49 : decode cX5_settle 49 = .ok (.aload_n 0, 1) := by decide +kernel
theorem dX5_settle_50 : decode cX5_settle 50 = .ok (.getfield 38, 3) := by decide +kernel
theorem dX5_settle_53 : decode cX5_settle 53 = .ok (.aload_n 0, 1) := by decide +kernel
theorem dX5_settle_54 : decode cX5_settle 54 = .ok (.getfield 51, 3) := by decide +kernel
theorem dX5_settle_57 : decode cX5_settle 57 = .ok (.getfield 148, 3) := by decide +kernel
theorem dX5_settle_60 : decode cX5_settle 60 = .ok (.invokevirtual 155, 3) := by decide +kernel
theorem dX5_settle_63 : decode cX5_settle 63 = .ok (.aload_n 0, 1) := by decide +kernel
theorem dX5_settle_64 : decode cX5_settle 64 = .ok (.invokevirtual 158, 3) := by decide +kernel
theorem dX5_settle_67 : decode cX5_settle 67 = .ok (.aload_n 0, 1) := by decide +kernel
theorem dX5_settle_68 : decode cX5_settle 68 = .ok (.getfield 51, 3) := by decide +kernel
theorem dX5_settle_71 : decode cX5_settle 71 = .ok (.getfield 121, 3) := by decide +kernel
theorem dX5_settle_74 : decode cX5_settle 74 = .ok (.ifCond .eq 52, 3) := by decide +kernel
theorem dX5_settle_77 : decode cX5_settle 77 = .ok (.aload_n 0, 1) := by decide +kernel
theorem dX5_settle_78 : decode cX5_settle 78 = .ok (.getfield 51, 3) := by decide +kernel
theorem dX5_settle_81 : decode cX5_settle 81 = .ok (.getfield 128, 3) := by decide +kernel
theorem dX5_settle_84 : decode cX5_settle 84 = .ok (.bipush 8, 2) := by decide +kernel
theorem dX5_settle_86 : decode cX5_settle 86 = .ok (.imul, 1) := by decide +kernel
theorem dX5_settle_87 : decode cX5_settle 87 = .ok (.istore_n 2, 1) := by decide +kernel
theorem dX5_settle_88 : decode cX5_settle 88 = .ok (.aload_n 0, 1) := by decide +kernel
theorem dX5_settle_89 : decode cX5_settle 89 = .ok (.getfield 51, 3) := by decide +kernel
theorem dX5_settle_92 : decode cX5_settle 92 = .ok (.getfield 131, 3) := by decide +kernel
theorem dX5_settle_95 : decode cX5_settle 95 = .ok (.iload_n 2, 1) := by decide +kernel
theorem dX5_settle_96 : decode cX5_settle 96 = .ok (.iconst 1, 1) := by decide +kernel
theorem dX5_settle_97 : decode cX5_settle 97 = .ok (.iadd, 1) := by decide +kernel
theorem dX5_settle_98 : decode cX5_settle 98 = .ok (.invokestatic 88, 3) := by decide +kernel
theorem dX5_settle_101 : decode cX5_settle 101 = .ok (.ifCond .eq 4, 3) := by decide +kernel
theorem dX5_settle_104 : decode cX5_settle 104 = .ok (.return_, 1) := by decide +kernel
theorem dX5_settle_105 : decode cX5_settle 105 = .ok (.aload_n 0, 1) := by decide +kernel
theorem dX5_settle_106 : decode cX5_settle 106 = .ok (.getfield 51, 3) := by decide +kernel
theorem dX5_settle_109 : decode cX5_settle 109 = .ok (.dup, 1) := by decide +kernel
theorem dX5_settle_110 : decode cX5_settle 110 = .ok (.getfield 128, 3) := by decide +kernel
theorem dX5_settle_113 : decode cX5_settle 113 = .ok (.iconst 1, 1) := by decide +kernel
theorem dX5_settle_114 : decode cX5_settle 114 = .ok (.iadd, 1) := by decide +kernel
theorem dX5_settle_115 : decode cX5_settle 115 = .ok (.putfield 128, 3) := by decide +kernel
theorem dX5_settle_118 : decode cX5_settle 118 = .ok (.aload_n 0, 1) := by decide +kernel
theorem dX5_settle_119 : decode cX5_settle 119 = .ok (.iload_n 2, 1) := by decide +kernel
theorem dX5_settle_120 : decode cX5_settle 120 = .ok (.invokevirtual 161, 3) := by decide +kernel
theorem dX5_settle_123 : decode cX5_settle 123 = .ok (.goto 73, 3) := by decide +kernel
theorem dX5_settle_126 : decode cX5_settle 126 = .ok (.aload_n 0, 1) := by decide +kernel
theorem dX5_settle_127 : decode cX5_settle 127 = .ok (.getfield 51, 3) := by decide +kernel
theorem dX5_settle_130 : decode cX5_settle 130 = .ok (.getfield 131, 3) := by decide +kernel
theorem dX5_settle_133 : decode cX5_settle 133 = .ok (.aload_n 0, 1) := by decide +kernel
theorem dX5_settle_134 : decode cX5_settle 134 = .ok (.getfield 51, 3) := by decide +kernel
theorem dX5_settle_137 : decode cX5_settle 137 = .ok (.getfield 128, 3) := by decide +kernel
theorem dX5_settle_140 : decode cX5_settle 140 = .ok (.iconst 5, 1) := by decide +kernel
theorem dX5_settle_141 : decode cX5_settle 141 = .ok (.imul, 1) := by decide +kernel
theorem dX5_settle_142 : decode cX5_settle 142 = .ok (.invokestatic 88, 3) := by decide +kernel
theorem dX5_settle_145 : decode cX5_settle 145 = .ok (.istore_n 2, 1) := by decide +kernel
theorem dX5_settle_146 : decode cX5_settle 146 = .ok (.iload_n 2, 1) := by decide +kernel
theorem dX5_settle_147 : decode cX5_settle 147 = .ok (.iconst 5, 1) := by decide +kernel
theorem dX5_settle_148 : decode cX5_settle 148 = .ok (.if_icmp .ne 34, 3) := by decide +kernel
theorem dX5_settle_151 : decode cX5_settle 151 = .ok (.aload_n 0, 1) := by decide +kernel
theorem dX5_settle_152 : decode cX5_settle 152 = .ok (.getfield 51, 3) := by decide +kernel
theorem dX5_settle_155 : decode cX5_settle 155 = .ok (.aload_n 0, 1) := by decide +kernel
theorem dX5_settle_156 : decode cX5_settle 156 = .ok (.getfield 51, 3) := by decide +kernel
theorem dX5_settle_159 : decode cX5_settle 159 = .ok (.getfield 131, 3) := by decide +kernel
theorem dX5_settle_162 : decode cX5_settle 162 = .ok (.aload_n 0, 1) := by decide +kernel
theorem dX5_settle_163 : decode cX5_settle 163 = .ok (.getfield 51, 3) := by decide +kernel
theorem dX5_settle_166 : decode cX5_settle 166 = .ok (.getfield 128, 3) := by decide +kernel
theorem dX5_settle_169 : decode cX5_settle 169 = .ok (.iconst 5, 1) := by decide +kernel
theorem dX5_settle_170 : decode cX5_settle 170 = .ok (.imul, 1) := by decide +kernel
theorem dX5_settle_171 : decode cX5_settle 171 = .ok (.iconst 1, 1) := by decide +kernel
theorem dX5_settle_172 : decode cX5_settle 172 = .ok (.iadd, 1) := by decide +kernel
theorem dX5_settle_173 : decode cX5_settle 173 = .ok (.invokestatic 88, 3) := by decide +kernel
theorem dX5_settle_176 : decode cX5_settle 176 = .ok (.putfield 128, 3) := by decide +kernel
theorem dX5_settle_179 : decode cX5_settle 179 = .ok (.goto 17, 3) := by decide +kernel
theorem dX5_settle_182 : decode cX5_settle 182 = .ok (.iload_n 2, 1) := by decide +kernel
theorem dX5_settle_183 : decode cX5_settle 183 = .ok (.bipush 11, 2) := by decide +kernel
theorem dX5_settle_185 : decode cX5_settle 185 = .ok (.if_icmp .ne 10, 3) := by decide +kernel
theorem dX5_settle_188 : decode cX5_settle 188 = .ok (.aload_n 0, 1) := by decide +kernel
theorem dX5_settle_189 : decode cX5_settle 189 = .ok (.invokevirtual 164, 3) := by decide +kernel
theorem dX5_settle_192 : decode cX5_settle 192 = .ok (.goto 4, 3) := by decide +kernel
theorem dX5_settle_195 : decode cX5_settle 195 = .ok (.return_, 1) := by decide +kernel
theorem dX5_settle_196 : decode cX5_settle 196 = .ok (.iinc 1 1, 3) := by decide +kernel
theorem dX5_settle_199 : decode cX5_settle 199 = .ok (.goto (-197), 3) := by decide +kernel
theorem dX5_settle_202 : decode cX5_settle 202 = .ok (.return_, 1) := by decide +kernel
noncomputable def tX5_settle_0 (x0 : Nat) (h : pm_H) : Option (((Nat × pm_H) ⊕ (Nat × Int32 × pm_H) ⊕ (Nat × Int32 × pm_H) ⊕ (Nat × Int32 × pm_H)) ⊕ pm_H) := some (.inl (.inr (.inl ((x0, 0, h)))))
noncomputable def tX5_settle_2 (x0 : Nat) (x1 : Int32) (h : pm_H) : Option (((Nat × pm_H) ⊕ (Nat × Int32 × pm_H) ⊕ (Nat × Int32 × pm_H) ⊕ (Nat × Int32 × pm_H)) ⊕ pm_H) := if 1000000 ≤ x1 then (some (.inr (h))) else (if pm_kd h x0 = 5 then if (pm_I h x0 0) = 1 then ((pm_R h x0 12).bind fun v4 => if pm_kd h v4 = 3 then if (pm_I h v4 6) = 0 then (some (.inl (.inr (.inr (.inl ((x0, x1, h))))))) else (if (pm_I h v4 7) = 0 then (some (.inl (.inr (.inr (.inr ((x0, x1, h))))))) else ((pm_R h v4 1).bind fun v9 => if pm_kd h v9 = 0 then if (pm_I h v9 6) = 0 then ((pm_R h x0 9).bind fun v13 => if pm_kd h v13 = 2 then (fX2_compile h v13 v9).bind fun v16 => some (.inl (.inr (.inr (.inr ((x0, x1, v16)))))) else none) else (some (.inl (.inr (.inr (.inr ((x0, x1, h))))))) else none)) else none) else (some (.inr (h))) else none)
noncomputable def tX5_settle_67 (x0 : Nat) (x1 : Int32) (h : pm_H) : Option (((Nat × pm_H) ⊕ (Nat × Int32 × pm_H) ⊕ (Nat × Int32 × pm_H) ⊕ (Nat × Int32 × pm_H)) ⊕ pm_H) := if pm_kd h x0 = 5 then (pm_R h x0 12).bind fun v19 => if pm_kd h v19 = 3 then if (pm_I h v19 7) = 0 then ((pm_R h v19 2).bind fun v23 => (fX12_item h v23 ((pm_I h v19 3) * 5)).bind fun v25 => if v25 = 5 then ((fX12_item h v23 (((pm_I h v19 3) * 5) + 1)).bind fun v34 => pm_let (x1 + 1) fun y36 => some (.inl (.inr (.inl ((x0, y36, pm_setI h v19 3 v34)))))) else (if v25 = 11 then ((fX5_leave h x0).bind fun v29 => pm_let (x1 + 1) fun y32 => some (.inl (.inr (.inl ((x0, y32, v29)))))) else (some (.inr (h))))) else (pm_let ((pm_I h v19 3) * 8) fun y38 => (pm_R h v19 2).bind fun v40 => (fX12_item h v40 (y38 + 1)).bind fun v42 => if v42 = 0 then (pm_let ((pm_I h v19 3) + 1) fun y45 => (fX5_goFreely (pm_setI h v19 3 y45) x0 y38).bind fun v47 => pm_let (x1 + 1) fun y50 => some (.inl (.inr (.inl ((x0, y50, v47)))))) else (some (.inr (h)))) else none else none
noncomputable def tX5_settle_63 (x0 : Nat) (x1 : Int32) (h : pm_H) : Option (((Nat × pm_H) ⊕ (Nat × Int32 × pm_H) ⊕ (Nat × Int32 × pm_H) ⊕ (Nat × Int32 × pm_H)) ⊕ pm_H) := if pm_kd h x0 = 5 then (fX5_chooseCode h x0).bind fun v53 => some (.inl (.inr (.inr (.inl ((x0, x1, v53)))))) else none
noncomputable def sX5_settle : ((Nat × pm_H) ⊕ (Nat × Int32 × pm_H) ⊕ (Nat × Int32 × pm_H) ⊕ (Nat × Int32 × pm_H)) → Option (((Nat × pm_H) ⊕ (Nat × Int32 × pm_H) ⊕ (Nat × Int32 × pm_H) ⊕ (Nat × Int32 × pm_H)) ⊕ pm_H) := fun z => match z with
  | .inl (x0, h) => tX5_settle_0 x0 h
  | .inr (.inl (x0, x1, h)) => tX5_settle_2 x0 x1 h
  | .inr (.inr (.inl (x0, x1, h))) => tX5_settle_67 x0 x1 h
  | .inr (.inr (.inr (x0, x1, h))) => tX5_settle_63 x0 x1 h
noncomputable def fX5_settle (h : pm_H) (a0 : Nat) : Option pm_H := pm_lim sX5_settle (.inl ((a0, h)))
set_option maxHeartbeats 4000000 in
set_option maxRecDepth 100000 in
theorem mlX5_settle {r : pm_H} : ∀ n : Nat, (∀ (x0 : Nat) (h : pm_H), pm_iter sX5_settle n (.inl (x0, h)) = some r → pm_Le h r) ∧ (∀ (x0 : Nat) (x1 : Int32) (h : pm_H), pm_iter sX5_settle n (.inr (.inl (x0, x1, h))) = some r → pm_Le h r) ∧ (∀ (x0 : Nat) (x1 : Int32) (h : pm_H), pm_iter sX5_settle n (.inr (.inr (.inl (x0, x1, h)))) = some r → pm_Le h r) ∧ (∀ (x0 : Nat) (x1 : Int32) (h : pm_H), pm_iter sX5_settle n (.inr (.inr (.inr (x0, x1, h)))) = some r → pm_Le h r) := by
  intro n
  induction n with
  | zero => exact ⟨fun _ _ hf => (by cases hf), fun _ _ _ hf => (by cases hf), fun _ _ _ hf => (by cases hf), fun _ _ _ hf => (by cases hf)⟩
  | succ n ih =>
    refine ⟨fun x0 h hf => ?_, ?_⟩
    · obtain ⟨y, hf, hi⟩ := pm_iter_s hf
      have hf : tX5_settle_0 x0 h = some y := hf
      unfold tX5_settle_0 at hf
      have K0 := pm_S3.rf h
      cases hf
      exact (pm_S3.le K0).trans (ih.2.1 x0 0 h hi)
    refine ⟨fun x0 x1 h hf => ?_, ?_⟩
    · obtain ⟨y, hf, hi⟩ := pm_iter_s hf
      have hf : tX5_settle_2 x0 x1 h = some y := hf
      unfold tX5_settle_2 at hf
      have K0 := pm_S3.rf h
      by_cases c1 : 1000000 ≤ x1
      · have hf := pm_it hf c1
        have hf := Option.some.inj hf
        subst hf
        have hi := Option.some.inj (show some _ = some r from hi)
        subst hi
        exact pm_S3.le K0
      · have hf := pm_ie hf c1
        obtain ⟨k2, hf⟩ := pm_if hf
        by_cases c3 : (pm_I h x0 0) = 1
        · have hf := pm_it hf c3
          obtain ⟨v4, e5, hf⟩ := pm_bd hf
          obtain ⟨k6, hf⟩ := pm_if hf
          by_cases c7 : (pm_I h v4 6) = 0
          · have hf := pm_it hf c7
            cases hf
            exact (pm_S3.le K0).trans (ih.2.2.1 x0 x1 h hi)
          · have hf := pm_ie hf c7
            by_cases c8 : (pm_I h v4 7) = 0
            · have hf := pm_it hf c8
              cases hf
              exact (pm_S3.le K0).trans (ih.2.2.2 x0 x1 h hi)
            · have hf := pm_ie hf c8
              obtain ⟨v9, e10, hf⟩ := pm_bd hf
              obtain ⟨k11, hf⟩ := pm_if hf
              by_cases c12 : (pm_I h v9 6) = 0
              · have hf := pm_it hf c12
                obtain ⟨v13, e14, hf⟩ := pm_bd hf
                obtain ⟨k15, hf⟩ := pm_if hf
                obtain ⟨v16, e17, hf⟩ := pm_bd hf
                cases hf
                exact ((pm_S3.le K0).trans (moX2_compile e17)).trans (ih.2.2.2 x0 x1 v16 hi)
              · have hf := pm_ie hf c12
                cases hf
                exact (pm_S3.le K0).trans (ih.2.2.2 x0 x1 h hi)
        · have hf := pm_ie hf c3
          have hf := Option.some.inj hf
          subst hf
          have hi := Option.some.inj (show some _ = some r from hi)
          subst hi
          exact pm_S3.le K0
    refine ⟨fun x0 x1 h hf => ?_, ?_⟩
    · obtain ⟨y, hf, hi⟩ := pm_iter_s hf
      have hf : tX5_settle_67 x0 x1 h = some y := hf
      unfold tX5_settle_67 at hf
      have K0 := pm_S3.rf h
      obtain ⟨k18, hf⟩ := pm_if hf
      obtain ⟨v19, e20, hf⟩ := pm_bd hf
      obtain ⟨k21, hf⟩ := pm_if hf
      by_cases c22 : (pm_I h v19 7) = 0
      · have hf := pm_it hf c22
        obtain ⟨v23, e24, hf⟩ := pm_bd hf
        obtain ⟨v25, e26, hf⟩ := pm_bd hf
        by_cases c27 : v25 = 5
        · have hf := pm_it hf c27
          obtain ⟨v28, e29, hf⟩ := pm_bd hf
          obtain ⟨y30, e31, hf⟩ := pm_lt hf
          cases hf
          exact (pm_S3.le (pm_S3I K0)).trans (ih.2.1 x0 y30 (pm_setI h v19 3 v28) hi)
        · have hf := pm_ie hf c27
          by_cases c32 : v25 = 11
          · have hf := pm_it hf c32
            obtain ⟨v33, e34, hf⟩ := pm_bd hf
            have K35 := pm_S3.trans (kpX5_leave e34) K0
            obtain ⟨y36, e37, hf⟩ := pm_lt hf
            cases hf
            exact (pm_S3.le K35).trans (ih.2.1 x0 y36 v33 hi)
          · have hf := pm_ie hf c32
            have hf := Option.some.inj hf
            subst hf
            have hi := Option.some.inj (show some _ = some r from hi)
            subst hi
            exact pm_S3.le K0
      · have hf := pm_ie hf c22
        obtain ⟨y38, e39, hf⟩ := pm_lt hf
        obtain ⟨v40, e41, hf⟩ := pm_bd hf
        obtain ⟨v42, e43, hf⟩ := pm_bd hf
        by_cases c44 : v42 = 0
        · have hf := pm_it hf c44
          obtain ⟨y45, e46, hf⟩ := pm_lt hf
          obtain ⟨v47, e48, hf⟩ := pm_bd hf
          have K49 := pm_S3.trans (kpX5_goFreely e48) (pm_S3I K0)
          obtain ⟨y50, e51, hf⟩ := pm_lt hf
          cases hf
          exact (pm_S3.le K49).trans (ih.2.1 x0 y50 v47 hi)
        · have hf := pm_ie hf c44
          have hf := Option.some.inj hf
          subst hf
          have hi := Option.some.inj (show some _ = some r from hi)
          subst hi
          exact pm_S3.le K0
    refine fun x0 x1 h hf => ?_
    obtain ⟨y, hf, hi⟩ := pm_iter_s hf
    have hf : tX5_settle_63 x0 x1 h = some y := hf
    unfold tX5_settle_63 at hf
    have K0 := pm_S3.rf h
    obtain ⟨k52, hf⟩ := pm_if hf
    obtain ⟨v53, e54, hf⟩ := pm_bd hf
    have K55 := pm_S3.trans (kpX5_chooseCode e54) K0
    cases hf
    exact (pm_S3.le K55).trans (ih.2.2.1 x0 x1 v53 hi)
set_option maxHeartbeats 4000000 in
set_option maxRecDepth 100000 in
theorem moX5_settle {h : pm_H} {a0 : Nat} {r : pm_H} (hf : fX5_settle h a0 = some r) : pm_Le h r := by
  unfold fX5_settle at hf
  have K0 := pm_S3.rf h
  obtain ⟨n, hn⟩ := pm_lim_iter hf
  exact (mlX5_settle n).1 a0 h hn
set_option maxHeartbeats 4000000 in
set_option maxRecDepth 100000 in
theorem lpX5_settle {g : pm_Gm} {l : Launch} {G : pm_Gl} {Qr : Option Value → pm_H → Prop} (C : pm_C g cX5_settle RX5) {h0 : pm_H} {r : pm_H} (X : pm_X g l G mX5_settle (pm_sz r - pm_sz h0) (pm_us r - pm_us h0) Qr) (q : Qr none r) : ∀ n : Nat, (∀ (x0 : Nat) (h : pm_H), pm_Le h0 h → pm_iter sX5_settle n (.inl (x0, h)) = some r → pm_G g 0 [(0, .ref x0)] [] h (pm_sz h - pm_sz h0) (pm_us h - pm_us h0)) ∧ (∀ (x0 : Nat) (x1 : Int32) (h : pm_H), pm_Le h0 h → pm_iter sX5_settle n (.inr (.inl (x0, x1, h))) = some r → pm_G g 2 [(0, .ref x0), (1, .int x1)] [] h (pm_sz h - pm_sz h0) (pm_us h - pm_us h0)) ∧ (∀ (x0 : Nat) (x1 : Int32) (h : pm_H), pm_Le h0 h → pm_iter sX5_settle n (.inr (.inr (.inl (x0, x1, h)))) = some r → pm_G g 67 [(0, .ref x0), (1, .int x1)] [] h (pm_sz h - pm_sz h0) (pm_us h - pm_us h0)) ∧ (∀ (x0 : Nat) (x1 : Int32) (h : pm_H), pm_Le h0 h → pm_iter sX5_settle n (.inr (.inr (.inr (x0, x1, h)))) = some r → pm_G g 63 [(0, .ref x0), (1, .int x1)] [] h (pm_sz h - pm_sz h0) (pm_us h - pm_us h0)) := by
  intro n
  induction n with
  | zero => exact ⟨fun _ _ _ hf => (by cases hf), fun _ _ _ _ hf => (by cases hf), fun _ _ _ _ hf => (by cases hf), fun _ _ _ _ hf => (by cases hf)⟩
  | succ n ih =>
    refine ⟨fun x0 h m0 hf => ?_, ?_⟩
    · have le0 := (mlX5_settle (n + 1)).1 x0 h hf
      have kc1 := Nat.sub_le_sub_right le0.1 (pm_sz h0)
      have kc2 := Nat.sub_le_sub_right le0.2 (pm_us h0)
      have K0 := pm_S3.rf h
      obtain ⟨y, hf, hi⟩ := pm_iter_s hf
      have hf : tX5_settle_0 x0 h = some y := hf
      unfold tX5_settle_0 at hf
      refine pm_iconst (v := 0) C dX5_settle_0 (by decide) ?_
      refine pm_istore_n (lv' := [(1, .int 0), (0, .ref x0)]) C dX5_settle_1 rfl (pm_nl X (by decide)) rfl ?_
      cases hf
      exact pa_join K0 (pm_sub [1, 0] rfl (ih.2.1 x0 0 h (m0.trans (pm_S3.le K0)) hi))
    refine ⟨fun x0 x1 h m0 hf => ?_, ?_⟩
    · have le0 := (mlX5_settle (n + 1)).2.1 x0 x1 h hf
      have kc1 := Nat.sub_le_sub_right le0.1 (pm_sz h0)
      have kc2 := Nat.sub_le_sub_right le0.2 (pm_us h0)
      have K0 := pm_S3.rf h
      obtain ⟨y, hf, hi⟩ := pm_iter_s hf
      have hf : tX5_settle_2 x0 x1 h = some y := hf
      unfold tX5_settle_2 at hf
      refine pm_iload_n C dX5_settle_2 rfl rfl ?_
      refine pm_ldc C dX5_settle_3 cnX5_144 ?_
      refine pm_icmp_ge (tgt := 202) C dX5_settle_5 (by decide) (fun c1 => ?_) (fun c1 => ?_)
      · have hf := pm_it hf c1
        have hf := Option.some.inj hf
        subst hf
        have hi := Option.some.inj (show some _ = some r from hi)
        subst hi
        exact pm_vret C X dX5_settle_202 rfl kc1 kc2 q
      · have hf := pm_ie hf c1
        refine pm_aload_n C dX5_settle_8 rfl rfl ?_
        obtain ⟨k2, hf⟩ := pm_if hf
        refine pm_getI C dX5_settle_9 flX5_55 rfl k2 rfl ?_
        refine pm_iconst (v := 1) C dX5_settle_12 (by decide) ?_
        refine pm_icmp_ne (tgt := 202) C dX5_settle_13 (by decide) (fun c3 => ?_) (fun c3 => ?_)
        · have hf := pm_ie hf c3
          have hf := Option.some.inj hf
          subst hf
          have hi := Option.some.inj (show some _ = some r from hi)
          subst hi
          exact pm_vret C X dX5_settle_202 rfl kc1 kc2 q
        · have hf := pm_it hf c3
          refine pm_aload_n C dX5_settle_16 rfl rfl ?_
          obtain ⟨v4, e5, hf⟩ := pm_bd hf
          refine pm_getR C dX5_settle_17 flX5_51 rfl k2 e5 ?_
          obtain ⟨k6, hf⟩ := pm_if hf
          refine pm_getI C dX5_settle_20 flX5_145 rfl k6 rfl ?_
          refine pm_if_eq (tgt := 67) C dX5_settle_23 (by decide) (fun c7 => ?_) (fun c7 => ?_)
          · have hf := pm_it hf c7
            cases hf
            exact pa_join K0 (pm_sub [0, 1] rfl (ih.2.2.1 x0 x1 h (m0.trans (pm_S3.le K0)) hi))
          · have hf := pm_ie hf c7
            refine pm_aload_n C dX5_settle_26 rfl rfl ?_
            refine pm_getR C dX5_settle_27 flX5_51 rfl k2 e5 ?_
            refine pm_getI C dX5_settle_30 flX5_121 rfl k6 rfl ?_
            refine pm_if_eq (tgt := 63) C dX5_settle_33 (by decide) (fun c8 => ?_) (fun c8 => ?_)
            · have hf := pm_it hf c8
              cases hf
              exact pa_join K0 (pm_sub [0, 1] rfl (ih.2.2.2 x0 x1 h (m0.trans (pm_S3.le K0)) hi))
            · have hf := pm_ie hf c8
              refine pm_aload_n C dX5_settle_36 rfl rfl ?_
              refine pm_getR C dX5_settle_37 flX5_51 rfl k2 e5 ?_
              obtain ⟨v9, e10, hf⟩ := pm_bd hf
              refine pm_getR C dX5_settle_40 flX5_148 rfl k6 e10 ?_
              obtain ⟨k11, hf⟩ := pm_if hf
              refine pm_getI C dX5_settle_43 flX5_152 rfl k11 rfl ?_
              refine pm_if_ne (tgt := 63) C dX5_settle_46 (by decide) (fun c12 => ?_) (fun c12 => ?_)
              · have hf := pm_ie hf c12
                cases hf
                exact pa_join K0 (pm_sub [0, 1] rfl (ih.2.2.2 x0 x1 h (m0.trans (pm_S3.le K0)) hi))
              · have hf := pm_it hf c12
                refine pm_aload_n C dX5_settle_49 rfl rfl ?_
                obtain ⟨v13, e14, hf⟩ := pm_bd hf
                refine pm_getR C dX5_settle_50 flX5_38 rfl k2 e14 ?_
                refine pm_aload_n C dX5_settle_53 rfl rfl ?_
                refine pm_getR C dX5_settle_54 flX5_51 rfl k2 e5 ?_
                refine pm_getR C dX5_settle_57 flX5_148 rfl k6 e10 ?_
                obtain ⟨k15, hf⟩ := pm_if hf
                obtain ⟨v16, e17, hf⟩ := pm_bd hf
                cases hf
                refine pm_callV (as := [.ref v9]) (st := []) C X dX5_settle_60 lnX5_155 myX2_compile viX2_compile ⟨by decide, by decide⟩ rfl rfl k15 (Nat.le_of_ble_eq_true rfl) (pa_le1 K0 m0 (moX2_compile e17) ((mlX5_settle n).2.2.2 x0 x1 v16 hi)) (pa_le2 K0 m0 (moX2_compile e17) ((mlX5_settle n).2.2.2 x0 x1 v16 hi)) (ctX2_compile e17 ?_)
                show pm_G g 63 [(0, .ref x0), (1, .int x1)] [] v16 (pm_sz h - pm_sz h0 + (pm_sz v16 - pm_sz h)) (pm_us h - pm_us h0 + (pm_us v16 - pm_us h))
                refine pa_fin K0 m0 (moX2_compile e17) ?_
                exact pm_sub [0, 1] rfl (ih.2.2.2 x0 x1 v16 ((m0.trans (pm_S3.le K0)).trans (moX2_compile e17)) hi)
    refine ⟨fun x0 x1 h m0 hf => ?_, ?_⟩
    · have le0 := (mlX5_settle (n + 1)).2.2.1 x0 x1 h hf
      have kc1 := Nat.sub_le_sub_right le0.1 (pm_sz h0)
      have kc2 := Nat.sub_le_sub_right le0.2 (pm_us h0)
      have K0 := pm_S3.rf h
      obtain ⟨y, hf, hi⟩ := pm_iter_s hf
      have hf : tX5_settle_67 x0 x1 h = some y := hf
      unfold tX5_settle_67 at hf
      refine pm_aload_n C dX5_settle_67 rfl rfl ?_
      obtain ⟨k18, hf⟩ := pm_if hf
      obtain ⟨v19, e20, hf⟩ := pm_bd hf
      refine pm_getR C dX5_settle_68 flX5_51 rfl k18 e20 ?_
      obtain ⟨k21, hf⟩ := pm_if hf
      refine pm_getI C dX5_settle_71 flX5_121 rfl k21 rfl ?_
      refine pm_if_eq (tgt := 126) C dX5_settle_74 (by decide) (fun c22 => ?_) (fun c22 => ?_)
      · have hf := pm_it hf c22
        refine pm_aload_n C dX5_settle_126 rfl rfl ?_
        refine pm_getR C dX5_settle_127 flX5_51 rfl k18 e20 ?_
        obtain ⟨v23, e24, hf⟩ := pm_bd hf
        refine pm_getR C dX5_settle_130 flX5_131 rfl k21 e24 ?_
        refine pm_aload_n C dX5_settle_133 rfl rfl ?_
        refine pm_getR C dX5_settle_134 flX5_51 rfl k18 e20 ?_
        refine pm_getI C dX5_settle_137 flX5_128 rfl k21 rfl ?_
        refine pm_iconst (v := 5) C dX5_settle_140 (by decide) ?_
        refine pm_imul C dX5_settle_141 ?_
        obtain ⟨v25, e26, hf⟩ := pm_bd hf
        refine pm_callS (as := [.ref v23, .int ((pm_I h v19 3) * 5)]) (st := []) C X dX5_settle_142 lnX5_88 myX12_item stX12_item ⟨by decide, by decide⟩ rfl rfl (Nat.le_of_ble_eq_true rfl) kc1 kc2 (ctX12_item e26 ?_)
        show pm_G g 145 [(0, .ref x0), (1, .int x1)] [.int v25] h (pm_sz h - pm_sz h0) (pm_us h - pm_us h0)
        refine pm_istore_n (lv' := [(2, .int v25), (0, .ref x0), (1, .int x1)]) C dX5_settle_145 rfl (pm_nl X (by decide)) rfl ?_
        refine pm_iload_n C dX5_settle_146 rfl rfl ?_
        refine pm_iconst (v := 5) C dX5_settle_147 (by decide) ?_
        refine pm_icmp_ne (tgt := 182) C dX5_settle_148 (by decide) (fun c27 => ?_) (fun c27 => ?_)
        · have hf := pm_ie hf c27
          refine pm_iload_n C dX5_settle_182 rfl rfl ?_
          refine pm_bipush (v := 11) C dX5_settle_183 (by decide) ?_
          refine pm_icmp_ne (tgt := 195) C dX5_settle_185 (by decide) (fun c28 => ?_) (fun c28 => ?_)
          · have hf := pm_ie hf c28
            have hf := Option.some.inj hf
            subst hf
            have hi := Option.some.inj (show some _ = some r from hi)
            subst hi
            exact pm_vret C X dX5_settle_195 rfl kc1 kc2 q
          · have hf := pm_it hf c28
            refine pm_aload_n C dX5_settle_188 rfl rfl ?_
            obtain ⟨v29, e30, hf⟩ := pm_bd hf
            refine pm_callV (as := []) (st := []) C X dX5_settle_189 lnX5_164 myX5_leave viX5_leave ⟨by decide, by decide⟩ rfl rfl k18 (Nat.le_of_ble_eq_true rfl) kc1 kc2 (ctX5_leave e30 ?_)
            have K31 := pm_S3.trans (kpX5_leave e30) K0
            show pm_G g 192 [(2, .int v25), (0, .ref x0), (1, .int x1)] [] v29 (pm_sz h - pm_sz h0) (pm_us h - pm_us h0)
            refine pm_goto (tgt := 196) C dX5_settle_192 (by decide) ?_
            obtain ⟨y32, e33, hf⟩ := pm_lt hf
            refine pm_iinc (v := y32) (lv' := [(1, .int y32), (2, .int v25), (0, .ref x0)]) C dX5_settle_196 rfl ((congrArg (x1 + ·) (by decide : Int32.ofInt 1 = 1)).trans e33) (pm_nl X (by decide)) rfl ?_
            refine pm_goto (tgt := 2) C dX5_settle_199 (by decide) ?_
            cases hf
            exact pa_join K31 (pm_sub [2, 0] rfl (ih.2.1 x0 y32 v29 (m0.trans (pm_S3.le K31)) hi))
        · have hf := pm_it hf c27
          refine pm_aload_n C dX5_settle_151 rfl rfl ?_
          refine pm_getR C dX5_settle_152 flX5_51 rfl k18 e20 ?_
          refine pm_aload_n C dX5_settle_155 rfl rfl ?_
          refine pm_getR C dX5_settle_156 flX5_51 rfl k18 e20 ?_
          refine pm_getR C dX5_settle_159 flX5_131 rfl k21 e24 ?_
          refine pm_aload_n C dX5_settle_162 rfl rfl ?_
          refine pm_getR C dX5_settle_163 flX5_51 rfl k18 e20 ?_
          refine pm_getI C dX5_settle_166 flX5_128 rfl k21 rfl ?_
          refine pm_iconst (v := 5) C dX5_settle_169 (by decide) ?_
          refine pm_imul C dX5_settle_170 ?_
          refine pm_iconst (v := 1) C dX5_settle_171 (by decide) ?_
          refine pm_iadd C dX5_settle_172 ?_
          obtain ⟨v34, e35, hf⟩ := pm_bd hf
          refine pm_callS (as := [.ref v23, .int (((pm_I h v19 3) * 5) + 1)]) (st := [.ref v19]) C X dX5_settle_173 lnX5_88 myX12_item stX12_item ⟨by decide, by decide⟩ rfl rfl (Nat.le_of_ble_eq_true rfl) kc1 kc2 (ctX12_item e35 ?_)
          show pm_G g 176 [(2, .int v25), (0, .ref x0), (1, .int x1)] [.int v34, .ref v19] h (pm_sz h - pm_sz h0) (pm_us h - pm_us h0)
          refine pm_putI C dX5_settle_176 flX5_128 rfl rfl k21 rfl rfl ?_
          refine pm_goto (tgt := 196) C dX5_settle_179 (by decide) ?_
          obtain ⟨y36, e37, hf⟩ := pm_lt hf
          refine pm_iinc (v := y36) (lv' := [(1, .int y36), (2, .int v25), (0, .ref x0)]) C dX5_settle_196 rfl ((congrArg (x1 + ·) (by decide : Int32.ofInt 1 = 1)).trans e37) (pm_nl X (by decide)) rfl ?_
          refine pm_goto (tgt := 2) C dX5_settle_199 (by decide) ?_
          cases hf
          exact pa_join (pm_S3I K0) (pm_sub [2, 0] rfl (ih.2.1 x0 y36 (pm_setI h v19 3 v34) (m0.trans (pm_S3.le (pm_S3I K0))) hi))
      · have hf := pm_ie hf c22
        refine pm_aload_n C dX5_settle_77 rfl rfl ?_
        refine pm_getR C dX5_settle_78 flX5_51 rfl k18 e20 ?_
        refine pm_getI C dX5_settle_81 flX5_128 rfl k21 rfl ?_
        refine pm_bipush (v := 8) C dX5_settle_84 (by decide) ?_
        refine pm_imul C dX5_settle_86 ?_
        obtain ⟨y38, e39, hf⟩ := pm_lt hf
        refine pm_topI e39 ?_
        refine pm_istore_n (lv' := [(2, .int y38), (0, .ref x0), (1, .int x1)]) C dX5_settle_87 rfl (pm_nl X (by decide)) rfl ?_
        refine pm_aload_n C dX5_settle_88 rfl rfl ?_
        refine pm_getR C dX5_settle_89 flX5_51 rfl k18 e20 ?_
        obtain ⟨v40, e41, hf⟩ := pm_bd hf
        refine pm_getR C dX5_settle_92 flX5_131 rfl k21 e41 ?_
        refine pm_iload_n C dX5_settle_95 rfl rfl ?_
        refine pm_iconst (v := 1) C dX5_settle_96 (by decide) ?_
        refine pm_iadd C dX5_settle_97 ?_
        obtain ⟨v42, e43, hf⟩ := pm_bd hf
        refine pm_callS (as := [.ref v40, .int (y38 + 1)]) (st := []) C X dX5_settle_98 lnX5_88 myX12_item stX12_item ⟨by decide, by decide⟩ rfl rfl (Nat.le_of_ble_eq_true rfl) kc1 kc2 (ctX12_item e43 ?_)
        show pm_G g 101 [(2, .int y38), (0, .ref x0), (1, .int x1)] [.int v42] h (pm_sz h - pm_sz h0) (pm_us h - pm_us h0)
        refine pm_if_eq (tgt := 105) C dX5_settle_101 (by decide) (fun c44 => ?_) (fun c44 => ?_)
        · have hf := pm_it hf c44
          refine pm_aload_n C dX5_settle_105 rfl rfl ?_
          refine pm_getR C dX5_settle_106 flX5_51 rfl k18 e20 ?_
          refine pm_dup C dX5_settle_109 rfl ?_
          refine pm_getI C dX5_settle_110 flX5_128 rfl k21 rfl ?_
          refine pm_iconst (v := 1) C dX5_settle_113 (by decide) ?_
          refine pm_iadd C dX5_settle_114 ?_
          obtain ⟨y45, e46, hf⟩ := pm_lt hf
          refine pm_topI e46 ?_
          refine pm_putI C dX5_settle_115 flX5_128 rfl rfl k21 rfl rfl ?_
          refine pm_aload_n C dX5_settle_118 rfl rfl ?_
          refine pm_iload_n C dX5_settle_119 rfl rfl ?_
          obtain ⟨v47, e48, hf⟩ := pm_bd hf
          refine pm_callV (as := [.int y38]) (st := []) C X dX5_settle_120 lnX5_161 myX5_goFreely viX5_goFreely ⟨by decide, by decide⟩ rfl rfl k18 (Nat.le_of_ble_eq_true rfl) kc1 kc2 (ctX5_goFreely e48 ?_)
          have K49 := pm_S3.trans (kpX5_goFreely e48) (pm_S3I K0)
          show pm_G g 123 [(2, .int y38), (0, .ref x0), (1, .int x1)] [] v47 (pm_sz h - pm_sz h0) (pm_us h - pm_us h0)
          refine pm_goto (tgt := 196) C dX5_settle_123 (by decide) ?_
          obtain ⟨y50, e51, hf⟩ := pm_lt hf
          refine pm_iinc (v := y50) (lv' := [(1, .int y50), (2, .int y38), (0, .ref x0)]) C dX5_settle_196 rfl ((congrArg (x1 + ·) (by decide : Int32.ofInt 1 = 1)).trans e51) (pm_nl X (by decide)) rfl ?_
          refine pm_goto (tgt := 2) C dX5_settle_199 (by decide) ?_
          cases hf
          exact pa_join K49 (pm_sub [2, 0] rfl (ih.2.1 x0 y50 v47 (m0.trans (pm_S3.le K49)) hi))
        · have hf := pm_ie hf c44
          have hf := Option.some.inj hf
          subst hf
          have hi := Option.some.inj (show some _ = some r from hi)
          subst hi
          exact pm_vret C X dX5_settle_104 rfl kc1 kc2 q
    refine fun x0 x1 h m0 hf => ?_
    have le0 := (mlX5_settle (n + 1)).2.2.2 x0 x1 h hf
    have kc1 := Nat.sub_le_sub_right le0.1 (pm_sz h0)
    have kc2 := Nat.sub_le_sub_right le0.2 (pm_us h0)
    have K0 := pm_S3.rf h
    obtain ⟨y, hf, hi⟩ := pm_iter_s hf
    have hf : tX5_settle_63 x0 x1 h = some y := hf
    unfold tX5_settle_63 at hf
    refine pm_aload_n C dX5_settle_63 rfl rfl ?_
    obtain ⟨k52, hf⟩ := pm_if hf
    obtain ⟨v53, e54, hf⟩ := pm_bd hf
    refine pm_callV (as := []) (st := []) C X dX5_settle_64 lnX5_158 myX5_chooseCode viX5_chooseCode ⟨by decide, by decide⟩ rfl rfl k52 (Nat.le_of_ble_eq_true rfl) kc1 kc2 (ctX5_chooseCode e54 ?_)
    have K55 := pm_S3.trans (kpX5_chooseCode e54) K0
    show pm_G g 67 [(0, .ref x0), (1, .int x1)] [] v53 (pm_sz h - pm_sz h0) (pm_us h - pm_us h0)
    cases hf
    exact pa_join K55 (pm_sub [0, 1] rfl (ih.2.2.1 x0 x1 v53 (m0.trans (pm_S3.le K55)) hi))
set_option maxHeartbeats 4000000 in
set_option maxRecDepth 100000 in
theorem ctX5_settle {l : Launch} {G : pm_Gl} {h : pm_H} {a0 : Nat} {r : pm_H} {Qr : Option Value → pm_H → Prop} (hf : fX5_settle h a0 = some r) (q : Qr none r) : pm_Ct l G mX5_settle [.ref a0] h (pm_sz r - pm_sz h) (pm_us r - pm_us h) Qr := by
  refine pm_body pnX5 (Nat.le_of_ble_eq_true rfl) (fun g C X => ?_)
  have C : pm_C g cX5_settle RX5 := C
  show pm_G g 0 [(0, .ref a0)] [] h 0 0
  unfold fX5_settle at hf
  obtain ⟨n, hn⟩ := pm_lim_iter hf
  exact pa_start (pm_sub [0] rfl ((lpX5_settle C X q n).1 a0 h (pm_Le.rf h) hn))
