set_option maxHeartbeats 4000000 in
set_option maxRecDepth 100000 in
theorem klX1_elementsAreRight {r : pm_H} : ∀ n : Nat, (∀ (x0 : Nat) (x1 : Int32) (h : pm_H), pm_iter sX1_elementsAreRight n (.inl (x0, x1, h)) = some r → pm_S3 r h) ∧ (∀ (x0 : Nat) (x1 : Int32) (x2 : Int32) (x3 : Int32) (x4 : Int32) (s0 : Int32) (h : pm_H), pm_iter sX1_elementsAreRight n (.inr (.inl (x0, x1, x2, x3, x4, s0, h))) = some r → pm_S3 r h) ∧ (∀ (x0 : Nat) (x1 : Int32) (x2 : Int32) (x3 : Int32) (x4 : Int32) (x5 : Int32) (x6 : Int32) (x7 : Int32) (h : pm_H), pm_iter sX1_elementsAreRight n (.inr (.inr (.inl (x0, x1, x2, x3, x4, x5, x6, x7, h)))) = some r → pm_S3 r h) ∧ (∀ (x0 : Nat) (x1 : Int32) (x2 : Int32) (x3 : Int32) (x4 : Int32) (x5 : Int32) (x6 : Int32) (h : pm_H), pm_iter sX1_elementsAreRight n (.inr (.inr (.inr (.inl (x0, x1, x2, x3, x4, x5, x6, h))))) = some r → pm_S3 r h) ∧ (∀ (x0 : Nat) (x1 : Int32) (x2 : Int32) (x3 : Int32) (x5 : Int32) (x6 : Int32) (h : pm_H), pm_iter sX1_elementsAreRight n (.inr (.inr (.inr (.inr (.inl (x0, x1, x2, x3, x5, x6, h)))))) = some r → pm_S3 r h) ∧ (∀ (x0 : Nat) (x1 : Int32) (x2 : Int32) (x3 : Int32) (x5 : Int32) (x7 : Int32) (h : pm_H), pm_iter sX1_elementsAreRight n (.inr (.inr (.inr (.inr (.inr (x0, x1, x2, x3, x5, x7, h)))))) = some r → pm_S3 r h) := by
  intro n
  induction n with
  | zero => exact ⟨fun _ _ _ hf => (by cases hf), fun _ _ _ _ _ _ _ hf => (by cases hf), fun _ _ _ _ _ _ _ _ _ hf => (by cases hf), fun _ _ _ _ _ _ _ _ hf => (by cases hf), fun _ _ _ _ _ _ _ hf => (by cases hf), fun _ _ _ _ _ _ _ hf => (by cases hf)⟩
  | succ n ih =>
    refine ⟨fun x0 x1 h hf => ?_, ?_⟩
    · obtain ⟨y, hf, hi⟩ := pm_iter_s hf
      have hf : tX1_elementsAreRight_2 x0 x1 h = some y := hf
      unfold tX1_elementsAreRight_2 at hf
      have K0 := pm_S3.rf h
      obtain ⟨k1, hf⟩ := pm_if hf
      obtain ⟨v2, e3, hf⟩ := pm_bd hf
      obtain ⟨k4, hf⟩ := pm_if hf
      obtain ⟨v5, e6, hf⟩ := pm_bd hf
      obtain ⟨k7, hf⟩ := pm_if hf
      by_cases c8 : (Int32.ofNat (pm_ln h v5)) ≤ x1
      · have hf := pm_it hf c8
        cases hf
        cases hi
        exact K0
      · have hf := pm_ie hf c8
        by_cases c9 : (pm_I h x0 0) = 0
        · have hf := pm_it hf c9
          obtain ⟨v10, e11, hf⟩ := pm_bd hf
          obtain ⟨v12, e13, hf⟩ := pm_bd hf
          obtain ⟨v14, e15, hf⟩ := pm_bd hf
          obtain ⟨v16, e17, hf⟩ := pm_bd hf
          by_cases c18 : v16 = 0
          · have hf := pm_it hf c18
            cases hf
            exact pm_S3.trans (ih.2.1 x0 x1 v10 v12 v14 0 h hi) K0
          · have hf := pm_ie hf c18
            cases hf
            exact pm_S3.trans (ih.2.1 x0 x1 v10 v12 v14 1 h hi) K0
        · have hf := pm_ie hf c9
          cases hf
          cases hi
          exact K0
    refine ⟨fun x0 x1 x2 x3 x4 s0 h hf => ?_, ?_⟩
    · obtain ⟨y, hf, hi⟩ := pm_iter_s hf
      have hf : tX1_elementsAreRight_86 x0 x1 x2 x3 x4 s0 h = some y := hf
      unfold tX1_elementsAreRight_86 at hf
      have K0 := pm_S3.rf h
      obtain ⟨k19, hf⟩ := pm_if hf
      obtain ⟨v20, e21, hf⟩ := pm_bd hf
      obtain ⟨k22, hf⟩ := pm_if hf
      obtain ⟨v23, e24, hf⟩ := pm_bd hf
      obtain ⟨v25, e26, hf⟩ := pm_bd hf
      by_cases c27 : v25 = 0
      · have hf := pm_it hf c27
        obtain ⟨v28, e29, hf⟩ := pm_bd hf
        obtain ⟨v30, e31, hf⟩ := pm_bd hf
        obtain ⟨k32, hf⟩ := pm_if hf
        obtain ⟨v33, e34, hf⟩ := pm_bd hf
        have K35 := pm_S3.trans (kpX9_open e34) K0
        cases hf
        exact pm_S3.trans (ih.2.2.1 x0 x1 x2 x3 x4 s0 1 0 v33 hi) K35
      · have hf := pm_ie hf c27
        obtain ⟨v36, e37, hf⟩ := pm_bd hf
        obtain ⟨v38, e39, hf⟩ := pm_bd hf
        obtain ⟨k40, hf⟩ := pm_if hf
        obtain ⟨v41, e42, hf⟩ := pm_bd hf
        have K43 := pm_S3.trans (kpX9_open e42) K0
        cases hf
        exact pm_S3.trans (ih.2.2.1 x0 x1 x2 x3 x4 s0 0 0 v41 hi) K43
    refine ⟨fun x0 x1 x2 x3 x4 x5 x6 x7 h hf => ?_, ?_⟩
    · obtain ⟨y, hf, hi⟩ := pm_iter_s hf
      have hf : tX1_elementsAreRight_138 x0 x1 x2 x3 x4 x5 x6 x7 h = some y := hf
      unfold tX1_elementsAreRight_138 at hf
      have K0 := pm_S3.rf h
      by_cases c44 : x2 ≤ x7
      · have hf := pm_it hf c44
        cases hf
        exact pm_S3.trans (ih.2.2.2.1 x0 x1 x2 x3 x4 x5 x6 h hi) K0
      · have hf := pm_ie hf c44
        by_cases c45 : x5 = 0
        · have hf := pm_it hf c45
          obtain ⟨k46, hf⟩ := pm_if hf
          obtain ⟨v47, e48, hf⟩ := pm_bd hf
          obtain ⟨k49, hf⟩ := pm_if hf
          obtain ⟨v50, e51, hf⟩ := pm_bd hf
          have K52 := pm_S3.trans (kpX9_number e51) K0
          obtain ⟨k53, hf⟩ := pm_if hf
          obtain ⟨v54, e55, hf⟩ := pm_bd hf
          obtain ⟨k56, hf⟩ := pm_if hf
          obtain ⟨v57, e58, hf⟩ := pm_bd hf
          by_cases c59 : v57 = 0
          · have hf := pm_it hf c59
            obtain ⟨v60, e61, hf⟩ := pm_bd hf
            have K62 := pm_S3.trans (kpX1_failSection e61) K52
            obtain ⟨k63, hf⟩ := pm_if hf
            obtain ⟨v64, e65, hf⟩ := pm_bd hf
            have K66 := pm_S3.trans (kpX1_declare e65) K62
            obtain ⟨y67, e68, hf⟩ := pm_lt hf
            cases hf
            exact pm_S3.trans (ih.2.2.1 x0 x1 x2 x3 x4 x5 x6 y67 v64 hi) K66
          · have hf := pm_ie hf c59
            obtain ⟨v69, e70, hf⟩ := pm_bd hf
            have K71 := pm_S3.trans (kpX1_declare e70) K52
            obtain ⟨y72, e73, hf⟩ := pm_lt hf
            cases hf
            exact pm_S3.trans (ih.2.2.1 x0 x1 x2 x3 x4 x5 x6 y72 v69 hi) K71
        · have hf := pm_ie hf c45
          cases hf
          exact pm_S3.trans (ih.2.2.2.1 x0 x1 x2 x3 x4 x5 x6 h hi) K0
    refine ⟨fun x0 x1 x2 x3 x4 x5 x6 h hf => ?_, ?_⟩
    · obtain ⟨y, hf, hi⟩ := pm_iter_s hf
      have hf : tX1_elementsAreRight_193 x0 x1 x2 x3 x4 x5 x6 h = some y := hf
      unfold tX1_elementsAreRight_193 at hf
      have K0 := pm_S3.rf h
      by_cases c74 : x6 = 0
      · have hf := pm_it hf c74
        cases hf
        exact pm_S3.trans (ih.2.2.2.2.1 x0 x1 x2 x3 x5 x6 h hi) K0
      · have hf := pm_ie hf c74
        obtain ⟨k75, hf⟩ := pm_if hf
        obtain ⟨v76, e77, hf⟩ := pm_bd hf
        obtain ⟨k78, hf⟩ := pm_if hf
        obtain ⟨v79, e80, hf⟩ := pm_bd hf
        by_cases c81 : v79 = 0
        · have hf := pm_it hf c81
          obtain ⟨v82, e83, hf⟩ := pm_bd hf
          have K84 := pm_S3.trans (kpX1_failSection e83) K0
          cases hf
          exact pm_S3.trans (ih.2.2.2.2.1 x0 x1 x2 x3 x5 x6 v82 hi) K84
        · have hf := pm_ie hf c81
          obtain ⟨v85, e86, hf⟩ := pm_bd hf
          by_cases c87 : v85 = x3.toInt64
          · have hf := pm_it hf c87
            cases hf
            exact pm_S3.trans (ih.2.2.2.2.1 x0 x1 x2 x3 x5 x6 h hi) K0
          · have hf := pm_ie hf c87
            obtain ⟨v88, e89, hf⟩ := pm_bd hf
            have K90 := pm_S3.trans (kpX1_failSection e89) K0
            cases hf
            exact pm_S3.trans (ih.2.2.2.2.1 x0 x1 x2 x3 x5 x6 v88 hi) K90
    refine ⟨fun x0 x1 x2 x3 x5 x6 h hf => ?_, ?_⟩
    · obtain ⟨y, hf, hi⟩ := pm_iter_s hf
      have hf : tX1_elementsAreRight_237 x0 x1 x2 x3 x5 x6 h = some y := hf
      unfold tX1_elementsAreRight_237 at hf
      have K0 := pm_S3.rf h
      obtain ⟨k91, hf⟩ := pm_if hf
      obtain ⟨v92, e93, hf⟩ := pm_bd hf
      obtain ⟨v94, e95, hf⟩ := pm_bd hf
      obtain ⟨k96, hf⟩ := pm_if hf
      obtain ⟨v97, e98, hf⟩ := pm_bd hf
      obtain ⟨v99, e100, hf⟩ := pm_bd hf
      obtain ⟨k101, hf⟩ := pm_if hf
      obtain ⟨v102, e103, hf⟩ := pm_bd hf
      have K104 := pm_S3.trans (kpX9_open e103) K0
      by_cases c105 : x6 = 0
      · have hf := pm_it hf c105
        obtain ⟨k106, hf⟩ := pm_if hf
        obtain ⟨v107, e108, hf⟩ := pm_bd hf
        obtain ⟨v109, e110, hf⟩ := pm_bd hf
        obtain ⟨k111, hf⟩ := pm_if hf
        obtain ⟨v112, e113, hf⟩ := pm_bd hf
        obtain ⟨v114, e115, hf⟩ := pm_bd hf
        obtain ⟨k116, hf⟩ := pm_if hf
        obtain ⟨v117, e118, hf⟩ := pm_bd hf
        have K119 := pm_S3.trans (kpX9_open e118) K104
        cases hf
        exact pm_S3.trans (ih.2.2.2.2.2 x0 x1 x2 x3 x5 0 v117 hi) K119
      · have hf := pm_ie hf c105
        obtain ⟨k120, hf⟩ := pm_if hf
        obtain ⟨v121, e122, hf⟩ := pm_bd hf
        have K123 := pm_S3.trans (kpX1_constant e122) K104
        obtain ⟨k124, hf⟩ := pm_if hf
        obtain ⟨v125, e126, hf⟩ := pm_bd hf
        obtain ⟨v127, e128, hf⟩ := pm_bd hf
        obtain ⟨k129, hf⟩ := pm_if hf
        obtain ⟨v130, e131, hf⟩ := pm_bd hf
        obtain ⟨v132, e133, hf⟩ := pm_bd hf
        obtain ⟨k134, hf⟩ := pm_if hf
        obtain ⟨v135, e136, hf⟩ := pm_bd hf
        have K137 := pm_S3.trans (kpX9_open e136) K123
        cases hf
        exact pm_S3.trans (ih.2.2.2.2.2 x0 x1 x2 x3 x5 0 v135 hi) K137
    refine fun x0 x1 x2 x3 x5 x7 h hf => ?_
    obtain ⟨y, hf, hi⟩ := pm_iter_s hf
    have hf : tX1_elementsAreRight_299 x0 x1 x2 x3 x5 x7 h = some y := hf
    unfold tX1_elementsAreRight_299 at hf
    have K0 := pm_S3.rf h
    by_cases c138 : x2 ≤ x7
    · have hf := pm_it hf c138
      obtain ⟨y139, e140, hf⟩ := pm_lt hf
      cases hf
      exact pm_S3.trans (ih.1 x0 y139 h hi) K0
    · have hf := pm_ie hf c138
      by_cases c141 : x5 = 0
      · have hf := pm_it hf c141
        obtain ⟨y142, e143, hf⟩ := pm_lt hf
        cases hf
        exact pm_S3.trans (ih.1 x0 y142 h hi) K0
      · have hf := pm_ie hf c141
        obtain ⟨k144, hf⟩ := pm_if hf
        by_cases c145 : (pm_I h x0 0) = 0
        · have hf := pm_it hf c145
          obtain ⟨v146, e147, hf⟩ := pm_bd hf
          have K148 := pm_S3.trans (kpX1_constant e147) K0
          obtain ⟨y149, e150, hf⟩ := pm_lt hf
          cases hf
          exact pm_S3.trans (ih.2.2.2.2.2 x0 x1 x2 x3 x5 y149 v146 hi) K148
        · have hf := pm_ie hf c145
          obtain ⟨y151, e152, hf⟩ := pm_lt hf
          cases hf
          exact pm_S3.trans (ih.1 x0 y151 h hi) K0
set_option maxHeartbeats 4000000 in
set_option maxRecDepth 100000 in
theorem kpX1_elementsAreRight {h : pm_H} {a0 : Nat} {r : pm_H} (hf : fX1_elementsAreRight h a0 = some r) : pm_S3 r h := by
  unfold fX1_elementsAreRight at hf
  have K0 := pm_S3.rf h
  obtain ⟨n, hn⟩ := pm_lim_iter hf
  exact pm_S3.trans ((klX1_elementsAreRight n).1 a0 0 h hn) K0
set_option maxHeartbeats 4000000 in
set_option maxRecDepth 100000 in
theorem klX1_globalsAreRight {r : pm_H} : ∀ n : Nat, (∀ (x0 : Nat) (x1 : Int32) (h : pm_H), pm_iter sX1_globalsAreRight n (x0, x1, h) = some r → pm_S3 r h) := by
  intro n
  induction n with
  | zero => exact fun _ _ _ hf => (by cases hf)
  | succ n ih =>
    refine fun x0 x1 h hf => ?_
    obtain ⟨y, hf, hi⟩ := pm_iter_s hf
    have hf : tX1_globalsAreRight_9 x0 x1 h = some y := hf
    unfold tX1_globalsAreRight_9 at hf
    have K0 := pm_S3.rf h
    obtain ⟨k7, hf⟩ := pm_if hf
    obtain ⟨v8, e9, hf⟩ := pm_bd hf
    obtain ⟨k10, hf⟩ := pm_if hf
    obtain ⟨v11, e12, hf⟩ := pm_bd hf
    by_cases c13 : v11 ≤ x1
    · have hf := pm_it hf c13
      cases hf
      cases hi
      exact K0
    · have hf := pm_ie hf c13
      by_cases c14 : (pm_I h x0 0) = 0
      · have hf := pm_it hf c14
        obtain ⟨v15, e16, hf⟩ := pm_bd hf
        obtain ⟨v17, e18, hf⟩ := pm_bd hf
        obtain ⟨k19, hf⟩ := pm_if hf
        obtain ⟨v20, e21, hf⟩ := pm_bd hf
        have K22 := pm_S3.trans (kpX9_open e21) K0
        obtain ⟨k23, hf⟩ := pm_if hf
        obtain ⟨v24, e25, hf⟩ := pm_bd hf
        obtain ⟨k26, hf⟩ := pm_if hf
        obtain ⟨v27, e28, hf⟩ := pm_bd hf
        obtain ⟨v29, e30, hf⟩ := pm_bd hf
        have K31 := pm_S3.trans (kpX1_constant e30) K22
        obtain ⟨y32, e33, hf⟩ := pm_lt hf
        cases hf
        exact pm_S3.trans (ih x0 y32 v29 hi) K31
      · have hf := pm_ie hf c14
        cases hf
        cases hi
        exact K0
set_option maxHeartbeats 4000000 in
set_option maxRecDepth 100000 in
theorem kpX1_globalsAreRight {h : pm_H} {a0 : Nat} {r : pm_H} (hf : fX1_globalsAreRight h a0 = some r) : pm_S3 r h := by
  unfold fX1_globalsAreRight at hf
  have K0 := pm_S3.rf h
  obtain ⟨k1, hf⟩ := pm_if hf
  obtain ⟨v2, e3, hf⟩ := pm_bd hf
  obtain ⟨k4, hf⟩ := pm_if hf
  obtain ⟨v5, e6, hf⟩ := pm_bd hf
  obtain ⟨n, hn⟩ := pm_lim_iter hf
  exact pm_S3.trans ((klX1_globalsAreRight n) a0 v5 h hn) K0
set_option maxHeartbeats 4000000 in
set_option maxRecDepth 100000 in
theorem klX9_expression {r : pm_H} : ∀ n : Nat, (∀ (x0 : Nat) (x1 : Int32) (x2 : Int32) (h : pm_H), pm_iter sX9_expression n (.inl (x0, x1, x2, h)) = some r → pm_S3 r h) ∧ (∀ (x0 : Nat) (x1 : Int32) (x2 : Int32) (h : pm_H), pm_iter sX9_expression n (.inr (.inl (x0, x1, x2, h))) = some r → pm_S3 r h) ∧ (∀ (x0 : Nat) (x1 : Int32) (x2 : Int32) (h : pm_H), pm_iter sX9_expression n (.inr (.inr (x0, x1, x2, h))) = some r → pm_S3 r h) := by
  intro n
  induction n with
  | zero => exact ⟨fun _ _ _ _ hf => (by cases hf), fun _ _ _ _ hf => (by cases hf), fun _ _ _ _ hf => (by cases hf)⟩
  | succ n ih =>
    refine ⟨fun x0 x1 x2 h hf => ?_, ?_⟩
    · obtain ⟨y, hf, hi⟩ := pm_iter_s hf
      have hf : tX9_expression_11 x0 x1 x2 h = some y := hf
      unfold tX9_expression_11 at hf
      have K0 := pm_S3.rf h
      obtain ⟨k6, hf⟩ := pm_if hf
      obtain ⟨v7, e8, hf⟩ := pm_bd hf
      obtain ⟨k9, hf⟩ := pm_if hf
      obtain ⟨v10, e11, hf⟩ := pm_bd hf
      obtain ⟨k12, hf⟩ := pm_if hf
      by_cases c13 : (Int32.ofNat (pm_ln h v10)) < x2
      · have hf := pm_it hf c13
        cases hf
        cases hi
        exact K0
      · have hf := pm_ie hf c13
        by_cases c14 : x1 < 0
        · have hf := pm_it hf c14
          cases hf
          cases hi
          exact K0
        · have hf := pm_ie hf c14
          by_cases c15 : (pm_I h x0 3) = 0
          · have hf := pm_it hf c15
            obtain ⟨v16, e17, hf⟩ := pm_bd hf
            have K18 := pm_S3.trans (kpX9_instruction e17) K0
            obtain ⟨k19, hf⟩ := pm_if hf
            by_cases c20 : (pm_I v16 x0 6) = 11
            · have hf := pm_it hf c20
              obtain ⟨y21, e22, hf⟩ := pm_lt hf
              cases hf
              exact pm_S3.trans (ih.2.1 x0 y21 x2 v16 hi) K18
            · have hf := pm_ie hf c20
              cases hf
              exact pm_S3.trans (ih.2.1 x0 x1 x2 v16 hi) K18
          · have hf := pm_ie hf c15
            cases hf
            cases hi
            exact K0
    refine ⟨fun x0 x1 x2 h hf => ?_, ?_⟩
    · obtain ⟨y, hf, hi⟩ := pm_iter_s hf
      have hf : tX9_expression_50 x0 x1 x2 h = some y := hf
      unfold tX9_expression_50 at hf
      have K0 := pm_S3.rf h
      obtain ⟨k23, hf⟩ := pm_if hf
      by_cases c24 : (pm_I h x0 6) = 5
      · have hf := pm_it hf c24
        by_cases c25 : x1 < 0
        · have hf := pm_it hf c25
          cases hf
          exact pm_S3.trans (ih.2.2 x0 x1 x2 h hi) K0
        · have hf := pm_ie hf c25
          obtain ⟨v26, e27, hf⟩ := pm_bd hf
          obtain ⟨k28, hf⟩ := pm_if hf
          by_cases c29 : (Int32.ofNat (pm_ln h v26)) ≤ x1
          · have hf := pm_it hf c29
            cases hf
            exact pm_S3.trans (ih.2.2 x0 x1 x2 h hi) K0
          · have hf := pm_ie hf c29
            obtain ⟨u30, hf⟩ := pm_if hf
            by_cases c31 : (pm_I h v26 x1.toNatClampNeg) = 0
            · have hf := pm_it hf c31
              obtain ⟨v32, e33, hf⟩ := pm_bd hf
              have K34 := pm_S3.trans (kpX9_fail e33) K0
              obtain ⟨k35, hf⟩ := pm_if hf
              obtain ⟨v36, e37, hf⟩ := pm_bd hf
              obtain ⟨k38, hf⟩ := pm_if hf
              obtain ⟨u39, hf⟩ := pm_if hf
              cases hf
              exact pm_S3.trans (ih.2.2 x0 x1 x2 (pm_setI v32 v36 x1.toNatClampNeg (vp_nar .boolean 0)) hi) K34
            · have hf := pm_ie hf c31
              obtain ⟨u40, hf⟩ := pm_if hf
              cases hf
              exact pm_S3.trans (ih.2.2 x0 x1 x2 (pm_setI h v26 x1.toNatClampNeg (vp_nar .boolean 0)) hi) K0
      · have hf := pm_ie hf c24
        cases hf
        exact pm_S3.trans (ih.2.2 x0 x1 x2 h hi) K0
    refine fun x0 x1 x2 h hf => ?_
    obtain ⟨y, hf, hi⟩ := pm_iter_s hf
    have hf : tX9_expression_97 x0 x1 x2 h = some y := hf
    unfold tX9_expression_97 at hf
    have K0 := pm_S3.rf h
    obtain ⟨k41, hf⟩ := pm_if hf
    by_cases c42 : (pm_I h x0 6) < 2
    · have hf := pm_it hf c42
      obtain ⟨y43, e44, hf⟩ := pm_lt hf
      cases hf
      exact pm_S3.trans (ih.1 x0 x1 y43 h hi) K0
    · have hf := pm_ie hf c42
      by_cases c45 : 4 < (pm_I h x0 6)
      · have hf := pm_it hf c45
        obtain ⟨y46, e47, hf⟩ := pm_lt hf
        cases hf
        exact pm_S3.trans (ih.1 x0 x1 y46 h hi) K0
      · have hf := pm_ie hf c45
        by_cases c48 : (pm_I h x0 3) = 0
        · have hf := pm_it hf c48
          obtain ⟨y49, e50, hf⟩ := pm_lt hf
          obtain ⟨v51, e52, hf⟩ := pm_bd hf
          obtain ⟨k53, hf⟩ := pm_if hf
          by_cases c54 : (Int32.ofNat (pm_ln h v51)) ≤ y49
          · have hf := pm_it hf c54
            obtain ⟨y55, e56, hf⟩ := pm_lt hf
            cases hf
            exact pm_S3.trans (ih.1 x0 y49 y55 h hi) K0
          · have hf := pm_ie hf c54
            by_cases c57 : (pm_I h x0 6) = 4
            · have hf := pm_it hf c57
              obtain ⟨u58, hf⟩ := pm_if hf
              obtain ⟨y59, e60, hf⟩ := pm_lt hf
              cases hf
              exact pm_S3.trans (ih.1 x0 y49 y59 (pm_setI h v51 y49.toNatClampNeg (vp_nar .boolean 1)) hi) K0
            · have hf := pm_ie hf c57
              obtain ⟨u61, hf⟩ := pm_if hf
              obtain ⟨y62, e63, hf⟩ := pm_lt hf
              cases hf
              exact pm_S3.trans (ih.1 x0 y49 y62 (pm_setI h v51 y49.toNatClampNeg (vp_nar .boolean 0)) hi) K0
        · have hf := pm_ie hf c48
          obtain ⟨y64, e65, hf⟩ := pm_lt hf
          cases hf
          exact pm_S3.trans (ih.1 x0 x1 y64 h hi) K0
set_option maxHeartbeats 4000000 in
set_option maxRecDepth 100000 in
theorem kpX9_expression {h : pm_H} {a0 : Nat} {r : pm_H} (hf : fX9_expression h a0 = some r) : pm_S3 r h := by
  unfold fX9_expression at hf
  have K0 := pm_S3.rf h
  obtain ⟨k1, hf⟩ := pm_if hf
  obtain ⟨v2, e3, hf⟩ := pm_bd hf
  obtain ⟨k4, hf⟩ := pm_if hf
  obtain ⟨u5, hf⟩ := pm_if hf
  obtain ⟨n, hn⟩ := pm_lim_iter hf
  exact pm_S3.trans ((klX9_expression n).1 a0 0 0 (pm_setI h v2 ((0 : Int32).toNatClampNeg) (vp_nar .boolean 0)) hn) K0
set_option maxHeartbeats 4000000 in
set_option maxRecDepth 100000 in
theorem kpX9_own {h : pm_H} {a0 : Nat} {p1 : Int32} {r : pm_H} (hf : fX9_own h a0 p1 = some r) : pm_S3 r h := by
  unfold fX9_own at hf
  have K0 := pm_S3.rf h
  obtain ⟨k1, hf⟩ := pm_if hf
  obtain ⟨y2, e3, hf⟩ := pm_lt hf
  obtain ⟨v4, e5, hf⟩ := pm_bd hf
  obtain ⟨k6, hf⟩ := pm_if hf
  obtain ⟨v7, e8, hf⟩ := pm_bd hf
  obtain ⟨v9, e10, hf⟩ := pm_bd hf
  have K11 := pm_S3.trans (kpX9_describe e10) K0
  by_cases c12 : p1 = 3
  · have hf := pm_it hf c12
    obtain ⟨k13, hf⟩ := pm_if hf
    obtain ⟨v14, e15, hf⟩ := pm_bd hf
    obtain ⟨k16, hf⟩ := pm_if hf
    obtain ⟨v17, e18, hf⟩ := pm_bd hf
    obtain ⟨v19, e20, hf⟩ := pm_bd hf
    have K21 := pm_S3.trans (kpX12_setItem_ e20) K11
    obtain ⟨k22, hf⟩ := pm_if hf
    obtain ⟨v23, e24, hf⟩ := pm_bd hf
    have K25 := pm_S3.trans (kpX9_expression e24) K21
    cases hf
    exact K25
  · have hf := pm_ie hf c12
    cases hf
    exact K11
set_option maxHeartbeats 4000000 in
set_option maxRecDepth 100000 in
theorem kpX10_addGlobal {h : pm_H} {a0 : Nat} {p1 : Nat} {p2 : Int32} {r : (Int32 × pm_H)} (hf : fX10_addGlobal h a0 p1 p2 = some r) : pm_S3 r.2 h := by
  unfold fX10_addGlobal at hf
  have K0 := pm_S3.rf h
  obtain ⟨k1, hf⟩ := pm_if hf
  obtain ⟨y2, e3, hf⟩ := pm_lt hf
  by_cases c4 : y2 < 256
  · have hf := pm_it hf c4
    obtain ⟨v5, e6, hf⟩ := pm_bd hf
    obtain ⟨k7, hf⟩ := pm_if hf
    obtain ⟨v8, e9, hf⟩ := pm_bd hf
    obtain ⟨k10, hf⟩ := pm_if hf
    obtain ⟨v11, e12, hf⟩ := pm_bd hf
    obtain ⟨k13, hf⟩ := pm_if hf
    obtain ⟨u14, hf⟩ := pm_if hf
    obtain ⟨v15, e16, hf⟩ := pm_bd hf
    obtain ⟨v17, e18, hf⟩ := pm_bd hf
    by_cases c19 : v17 = 1
    · have hf := pm_it hf c19
      obtain ⟨k20, hf⟩ := pm_if hf
      obtain ⟨u21, hf⟩ := pm_if hf
      obtain ⟨v22, e23, hf⟩ := pm_bd hf
      obtain ⟨v24, e25, hf⟩ := pm_bd hf
      obtain ⟨k26, hf⟩ := pm_if hf
      obtain ⟨v27, e28, hf⟩ := pm_bd hf
      have K29 := pm_S3.trans (kpX9_open e28) K0
      obtain ⟨k30, hf⟩ := pm_if hf
      obtain ⟨v31, e32, hf⟩ := pm_bd hf
      obtain ⟨v33, e34, hf⟩ := pm_bd hf
      have K35 := pm_S3.trans (kpX10_constant e34) K29
      obtain ⟨k36, hf⟩ := pm_if hf
      obtain ⟨u37, hf⟩ := pm_if hf
      obtain ⟨k38, hf⟩ := pm_if hf
      obtain ⟨y39, e40, hf⟩ := pm_lt hf
      cases hf
      exact K35
    · have hf := pm_ie hf c19
      obtain ⟨k41, hf⟩ := pm_if hf
      obtain ⟨u42, hf⟩ := pm_if hf
      obtain ⟨v43, e44, hf⟩ := pm_bd hf
      obtain ⟨v45, e46, hf⟩ := pm_bd hf
      obtain ⟨k47, hf⟩ := pm_if hf
      obtain ⟨v48, e49, hf⟩ := pm_bd hf
      have K50 := pm_S3.trans (kpX9_open e49) K0
      obtain ⟨k51, hf⟩ := pm_if hf
      obtain ⟨v52, e53, hf⟩ := pm_bd hf
      obtain ⟨v54, e55, hf⟩ := pm_bd hf
      have K56 := pm_S3.trans (kpX10_constant e55) K50
      obtain ⟨k57, hf⟩ := pm_if hf
      obtain ⟨u58, hf⟩ := pm_if hf
      obtain ⟨k59, hf⟩ := pm_if hf
      obtain ⟨y60, e61, hf⟩ := pm_lt hf
      cases hf
      exact K56
  · have hf := pm_ie hf c4
    cases hf
    exact K0
set_option maxHeartbeats 4000000 in
set_option maxRecDepth 100000 in
theorem klX9_body {r : pm_H} : ∀ n : Nat, (∀ (x0 : Nat) (x2 : Int64) (h : pm_H), pm_iter sX9_body n (.inl (x0, x2, h)) = some r → pm_S3 r h) ∧ (∀ (x0 : Nat) (x4 : Int32) (x5 : Int32) (x6 : Int64) (x8 : Int64) (x10 : Int64) (h : pm_H), pm_iter sX9_body n (.inr (.inl (x0, x4, x5, x6, x8, x10, h))) = some r → pm_S3 r h) ∧ (∀ (x0 : Nat) (x4 : Int32) (x5 : Int32) (x8 : Int64) (h : pm_H), pm_iter sX9_body n (.inr (.inr (.inl (x0, x4, x5, x8, h)))) = some r → pm_S3 r h) ∧ (∀ (x0 : Nat) (x4 : Int32) (x8 : Int64) (h : pm_H), pm_iter sX9_body n (.inr (.inr (.inr (x0, x4, x8, h)))) = some r → pm_S3 r h) := by
  intro n
  induction n with
  | zero => exact ⟨fun _ _ _ hf => (by cases hf), fun _ _ _ _ _ _ _ hf => (by cases hf), fun _ _ _ _ _ hf => (by cases hf), fun _ _ _ _ hf => (by cases hf)⟩
  | succ n ih =>
    refine ⟨fun x0 x2 h hf => ?_, ?_⟩
    · obtain ⟨y, hf, hi⟩ := pm_iter_s hf
      have hf : tX9_body_33 x0 x2 h = some y := hf
      unfold tX9_body_33 at hf
      have K0 := pm_S3.rf h
      obtain ⟨k12, hf⟩ := pm_if hf
      by_cases c13 : (pm_I h x0 3) = 0
      · have hf := pm_it hf c13
        obtain ⟨y14, e15, hf⟩ := pm_lt hf
        obtain ⟨y16, e17, hf⟩ := pm_lt hf
        obtain ⟨y18, e19, hf⟩ := pm_lt hf
        obtain ⟨v20, e21, hf⟩ := pm_bd hf
        obtain ⟨k22, hf⟩ := pm_if hf
        obtain ⟨v23, e24, hf⟩ := pm_bd hf
        obtain ⟨v25, e26, hf⟩ := pm_bd hf
        have K27 := pm_S3.trans (kpX12_setItem e26) K0
        obtain ⟨k28, hf⟩ := pm_if hf
        obtain ⟨v29, e30, hf⟩ := pm_bd hf
        obtain ⟨k31, hf⟩ := pm_if hf
        obtain ⟨v32, e33, hf⟩ := pm_bd hf
        obtain ⟨v34, e35, hf⟩ := pm_bd hf
        have K36 := pm_S3.trans (kpX12_setItem e35) K27
        obtain ⟨k37, hf⟩ := pm_if hf
        obtain ⟨v38, e39, hf⟩ := pm_bd hf
        have K40 := pm_S3.trans (kpX9_number e39) K36
        cases hf
        exact pm_S3.trans (ih.2.1 x0 y14 y16 v38.1 0 0 v38.2 hi) K40
      · have hf := pm_ie hf c13
        cases hf
        cases hi
        exact K0
    refine ⟨fun x0 x4 x5 x6 x8 x10 h hf => ?_, ?_⟩
    · obtain ⟨y, hf, hi⟩ := pm_iter_s hf
      have hf : tX9_body_118 x0 x4 x5 x6 x8 x10 h = some y := hf
      unfold tX9_body_118 at hf
      have K0 := pm_S3.rf h
      by_cases c41 : x6 ≤ x10
      · have hf := pm_it hf c41
        cases hf
        exact pm_S3.trans (ih.2.2.1 x0 x4 x5 x8 h hi) K0
      · have hf := pm_ie hf c41
        obtain ⟨k42, hf⟩ := pm_if hf
        by_cases c43 : (pm_I h x0 3) = 0
        · have hf := pm_it hf c43
          obtain ⟨v44, e45, hf⟩ := pm_bd hf
          have K46 := pm_S3.trans (kpX9_number e45) K0
          obtain ⟨y47, e48, hf⟩ := pm_lt hf
          obtain ⟨k49, hf⟩ := pm_if hf
          obtain ⟨v50, e51, hf⟩ := pm_bd hf
          have K52 := pm_S3.trans (kpX9_valueType e51) K46
          obtain ⟨y53, e54, hf⟩ := pm_lt hf
          cases hf
          exact pm_S3.trans (ih.2.1 x0 x4 x5 x6 y47 y53 v50.2 hi) K52
        · have hf := pm_ie hf c43
          cases hf
          exact pm_S3.trans (ih.2.2.1 x0 x4 x5 x8 h hi) K0
    refine ⟨fun x0 x4 x5 x8 h hf => ?_, ?_⟩
    · obtain ⟨y, hf, hi⟩ := pm_iter_s hf
      have hf : tX9_body_158 x0 x4 x5 x8 h = some y := hf
      unfold tX9_body_158 at hf
      have K0 := pm_S3.rf h
      by_cases c55 : x8 ≤ 4294967295
      · have hf := pm_it hf c55
        cases hf
        exact pm_S3.trans (ih.2.2.2 x0 x4 x8 h hi) K0
      · have hf := pm_ie hf c55
        obtain ⟨k56, hf⟩ := pm_if hf
        obtain ⟨v57, e58, hf⟩ := pm_bd hf
        have K59 := pm_S3.trans (kpX9_fail e58) K0
        cases hf
        exact pm_S3.trans (ih.2.2.2 x0 x4 x8 v57 hi) K59
    refine fun x0 x4 x8 h hf => ?_
    obtain ⟨y, hf, hi⟩ := pm_iter_s hf
    have hf : tX9_body_175 x0 x4 x8 h = some y := hf
    unfold tX9_body_175 at hf
    have K0 := pm_S3.rf h
    by_cases c60 : x8 ≤ 1000
    · have hf := pm_it hf c60
      obtain ⟨k61, hf⟩ := pm_if hf
      obtain ⟨v62, e63, hf⟩ := pm_bd hf
      have K64 := pm_S3.trans (kpX9_expression e63) K0
      obtain ⟨k65, hf⟩ := pm_if hf
      by_cases c66 : (pm_I (pm_setI v62 x0 16 0) x0 2) ≤ (pm_I (pm_setI v62 x0 16 0) x0 1)
      · have hf := pm_it hf c66
        cases hf
        cases hi
        exact K64
      · have hf := pm_ie hf c66
        obtain ⟨v67, e68, hf⟩ := pm_bd hf
        have K69 := pm_S3.trans (kpX9_fail e68) K64
        obtain ⟨k70, hf⟩ := pm_if hf
        cases hf
        cases hi
        exact K69
    · have hf := pm_ie hf c60
      obtain ⟨k71, hf⟩ := pm_if hf
      obtain ⟨v72, e73, hf⟩ := pm_bd hf
      have K74 := pm_S3.trans (kpX9_exceedLimit e73) K0
      obtain ⟨k75, hf⟩ := pm_if hf
      obtain ⟨v76, e77, hf⟩ := pm_bd hf
      have K78 := pm_S3.trans (kpX9_expression e77) K74
      obtain ⟨k79, hf⟩ := pm_if hf
      by_cases c80 : (pm_I (pm_setI v76 x0 16 0) x0 2) ≤ (pm_I (pm_setI v76 x0 16 0) x0 1)
      · have hf := pm_it hf c80
        cases hf
        cases hi
        exact K78
      · have hf := pm_ie hf c80
        obtain ⟨v81, e82, hf⟩ := pm_bd hf
        have K83 := pm_S3.trans (kpX9_fail e82) K78
        obtain ⟨k84, hf⟩ := pm_if hf
        cases hf
        cases hi
        exact K83
set_option maxHeartbeats 4000000 in
set_option maxRecDepth 100000 in
theorem kpX9_body {h : pm_H} {a0 : Nat} {r : pm_H} (hf : fX9_body h a0 = some r) : pm_S3 r h := by
  unfold fX9_body at hf
  have K0 := pm_S3.rf h
  obtain ⟨k1, hf⟩ := pm_if hf
  obtain ⟨y2, e3, hf⟩ := pm_lt hf
  obtain ⟨v4, e5, hf⟩ := pm_bd hf
  have K6 := pm_S3.trans (kpX9_number e5) K0
  obtain ⟨k7, hf⟩ := pm_if hf
  by_cases c8 : v4.1 ≤ (((pm_I v4.2 a0 2) - (pm_I v4.2 a0 1)).toInt64)
  · have hf := pm_it hf c8
    obtain ⟨n, hn⟩ := pm_lim_iter hf
    exact pm_S3.trans ((klX9_body n).1 a0 v4.1 v4.2 hn) K6
  · have hf := pm_ie hf c8
    obtain ⟨v9, e10, hf⟩ := pm_bd hf
    have K11 := pm_S3.trans (kpX9_fail e10) K6
    obtain ⟨n, hn⟩ := pm_lim_iter hf
    exact pm_S3.trans ((klX9_body n).1 a0 v4.1 v9 hn) K11
set_option maxHeartbeats 4000000 in
set_option maxRecDepth 100000 in
theorem kpX9_dataOne_b89 {h : pm_H} {x0 : Nat} {x1 : Int32} {x3 : Int64} {r : pm_H} (hf : fX9_dataOne_b89 h x0 x1 x3 = some r) : pm_S3 r h := by
  unfold fX9_dataOne_b89 at hf
  have K0 := pm_S3.rf h
  obtain ⟨k39, hf⟩ := pm_if hf
  obtain ⟨v40, e41, hf⟩ := pm_bd hf
  obtain ⟨k42, hf⟩ := pm_if hf
  obtain ⟨v43, e44, hf⟩ := pm_bd hf
  obtain ⟨v45, e46, hf⟩ := pm_bd hf
  have K47 := pm_S3.trans (kpX12_setItem e46) K0
  by_cases c48 : x3 = 1
  · have hf := pm_it hf c48
    obtain ⟨k49, hf⟩ := pm_if hf
    obtain ⟨v50, e51, hf⟩ := pm_bd hf
    have K52 := pm_S3.trans (kpX9_number e51) K47
    obtain ⟨k53, hf⟩ := pm_if hf
    obtain ⟨v54, e55, hf⟩ := pm_bd hf
    obtain ⟨k56, hf⟩ := pm_if hf
    obtain ⟨v57, e58, hf⟩ := pm_bd hf
    obtain ⟨v59, e60, hf⟩ := pm_bd hf
    have K61 := pm_S3.trans (kpX12_setItem e60) K52
    obtain ⟨k62, hf⟩ := pm_if hf
    obtain ⟨v63, e64, hf⟩ := pm_bd hf
    obtain ⟨k65, hf⟩ := pm_if hf
    obtain ⟨v66, e67, hf⟩ := pm_bd hf
    obtain ⟨v68, e69, hf⟩ := pm_lt hf
    obtain ⟨v70, e71, hf⟩ := pm_bd hf
    have K72 := pm_S3.trans (kpX12_setItem e71) K61
    obtain ⟨k73, hf⟩ := pm_if hf
    obtain ⟨v74, e75, hf⟩ := pm_bd hf
    have K76 := pm_S3.trans (kpX9_skip e75) K72
    cases hf
    exact K76
  · have hf := pm_ie hf c48
    obtain ⟨k77, hf⟩ := pm_if hf
    obtain ⟨v78, e79, hf⟩ := pm_bd hf
    have K80 := pm_S3.trans (kpX9_expression e79) K47
    obtain ⟨k81, hf⟩ := pm_if hf
    obtain ⟨v82, e83, hf⟩ := pm_bd hf
    have K84 := pm_S3.trans (kpX9_number e83) K80
    obtain ⟨k85, hf⟩ := pm_if hf
    obtain ⟨v86, e87, hf⟩ := pm_bd hf
    obtain ⟨k88, hf⟩ := pm_if hf
    obtain ⟨v89, e90, hf⟩ := pm_bd hf
    obtain ⟨v91, e92, hf⟩ := pm_bd hf
    have K93 := pm_S3.trans (kpX12_setItem e92) K84
    obtain ⟨k94, hf⟩ := pm_if hf
    obtain ⟨v95, e96, hf⟩ := pm_bd hf
    obtain ⟨k97, hf⟩ := pm_if hf
    obtain ⟨v98, e99, hf⟩ := pm_bd hf
    obtain ⟨v100, e101, hf⟩ := pm_lt hf
    obtain ⟨v102, e103, hf⟩ := pm_bd hf
    have K104 := pm_S3.trans (kpX12_setItem e103) K93
    obtain ⟨k105, hf⟩ := pm_if hf
    obtain ⟨v106, e107, hf⟩ := pm_bd hf
    have K108 := pm_S3.trans (kpX9_skip e107) K104
    cases hf
    exact K108
set_option maxHeartbeats 4000000 in
set_option maxRecDepth 100000 in
theorem kpX9_dataOne_b56 {h : pm_H} {x0 : Nat} {x1 : Int32} {x3 : Int64} {s0 : Int32} {s1 : Int32} {s2 : Nat} {r : pm_H} (hf : fX9_dataOne_b56 h x0 x1 x3 s0 s1 s2 = some r) : pm_S3 r h := by
  unfold fX9_dataOne_b56 at hf
  have K0 := pm_S3.rf h
  obtain ⟨v21, e22, hf⟩ := pm_bd hf
  have K23 := pm_S3.trans (kpX12_setItem e22) K0
  by_cases c24 : x3 = 2
  · have hf := pm_it hf c24
    obtain ⟨k25, hf⟩ := pm_if hf
    obtain ⟨v26, e27, hf⟩ := pm_bd hf
    obtain ⟨k28, hf⟩ := pm_if hf
    obtain ⟨v29, e30, hf⟩ := pm_bd hf
    obtain ⟨v31, e32, hf⟩ := pm_bd hf
    have K33 := pm_S3.trans (kpX9_number e32) K23
    obtain ⟨v34, e35, hf⟩ := pm_lt hf
    obtain ⟨v36, e37, hf⟩ := pm_bd hf
    have K38 := pm_S3.trans (kpX12_setItem e37) K33
    exact pm_S3.trans (kpX9_dataOne_b89 hf) K38
  · have hf := pm_ie hf c24
    exact pm_S3.trans (kpX9_dataOne_b89 hf) K23
set_option maxHeartbeats 4000000 in
set_option maxRecDepth 100000 in
theorem kpX9_dataOne_b35 {h : pm_H} {x0 : Nat} {x1 : Int32} {x3 : Int64} {r : pm_H} (hf : fX9_dataOne_b35 h x0 x1 x3 = some r) : pm_S3 r h := by
  unfold fX9_dataOne_b35 at hf
  have K0 := pm_S3.rf h
  obtain ⟨k14, hf⟩ := pm_if hf
  obtain ⟨v15, e16, hf⟩ := pm_bd hf
  obtain ⟨k17, hf⟩ := pm_if hf
  obtain ⟨v18, e19, hf⟩ := pm_bd hf
  by_cases c20 : x3 = 1
  · have hf := pm_it hf c20
    exact pm_S3.trans (kpX9_dataOne_b56 hf) K0
  · have hf := pm_ie hf c20
    exact pm_S3.trans (kpX9_dataOne_b56 hf) K0
set_option maxHeartbeats 4000000 in
set_option maxRecDepth 100000 in
theorem kpX9_dataOne {h : pm_H} {a0 : Nat} {r : pm_H} (hf : fX9_dataOne h a0 = some r) : pm_S3 r h := by
  unfold fX9_dataOne at hf
  have K0 := pm_S3.rf h
  obtain ⟨k1, hf⟩ := pm_if hf
  obtain ⟨y2, e3, hf⟩ := pm_lt hf
  obtain ⟨y4, e5, hf⟩ := pm_lt hf
  obtain ⟨v6, e7, hf⟩ := pm_bd hf
  have K8 := pm_S3.trans (kpX9_number e7) K0
  by_cases c9 : v6.1 ≤ 2
  · have hf := pm_it hf c9
    exact pm_S3.trans (kpX9_dataOne_b35 hf) K8
  · have hf := pm_ie hf c9
    obtain ⟨k10, hf⟩ := pm_if hf
    obtain ⟨v11, e12, hf⟩ := pm_bd hf
    have K13 := pm_S3.trans (kpX9_fail e12) K8
    exact pm_S3.trans (kpX9_dataOne_b35 hf) K13
set_option maxHeartbeats 4000000 in
set_option maxRecDepth 100000 in
theorem klX9_element {r : pm_H} : ∀ n : Nat, (∀ (x0 : Nat) (x1 : Int32) (x3 : Int64) (h : pm_H), pm_iter sX9_element n (.inl (x0, x1, x3, h)) = some r → pm_S3 r h) ∧ (∀ (x0 : Nat) (x1 : Int32) (x3 : Int64) (s0 : Int32) (h : pm_H), pm_iter sX9_element n (.inr (.inl (x0, x1, x3, s0, h))) = some r → pm_S3 r h) ∧ (∀ (x0 : Nat) (x1 : Int32) (x3 : Int64) (x5 : Int32) (s0 : Int32) (h : pm_H), pm_iter sX9_element n (.inr (.inr (.inl (x0, x1, x3, x5, s0, h)))) = some r → pm_S3 r h) ∧ (∀ (x0 : Nat) (x1 : Int32) (x3 : Int64) (x5 : Int32) (x6 : Int32) (s0 : Int32) (s1 : Int32) (s2 : Nat) (h : pm_H), pm_iter sX9_element n (.inr (.inr (.inr (.inl (x0, x1, x3, x5, x6, s0, s1, s2, h))))) = some r → pm_S3 r h) ∧ (∀ (x0 : Nat) (x1 : Int32) (x3 : Int64) (x5 : Int32) (x6 : Int32) (h : pm_H), pm_iter sX9_element n (.inr (.inr (.inr (.inr (.inl (x0, x1, x3, x5, x6, h)))))) = some r → pm_S3 r h) ∧ (∀ (x0 : Nat) (x1 : Int32) (x3 : Int64) (x6 : Int32) (h : pm_H), pm_iter sX9_element n (.inr (.inr (.inr (.inr (.inr (.inl (x0, x1, x3, x6, h))))))) = some r → pm_S3 r h) ∧ (∀ (x0 : Nat) (x1 : Int32) (x6 : Int32) (x7 : Int32) (h : pm_H), pm_iter sX9_element n (.inr (.inr (.inr (.inr (.inr (.inr (.inl (x0, x1, x6, x7, h)))))))) = some r → pm_S3 r h) ∧ (∀ (x0 : Nat) (x6 : Int32) (x8 : Int64) (x10 : Int64) (h : pm_H), pm_iter sX9_element n (.inr (.inr (.inr (.inr (.inr (.inr (.inr (x0, x6, x8, x10, h)))))))) = some r → pm_S3 r h) := by
  intro n
  induction n with
  | zero => exact ⟨fun _ _ _ _ hf => (by cases hf), fun _ _ _ _ _ hf => (by cases hf), fun _ _ _ _ _ _ hf => (by cases hf), fun _ _ _ _ _ _ _ _ _ hf => (by cases hf), fun _ _ _ _ _ _ hf => (by cases hf), fun _ _ _ _ _ hf => (by cases hf), fun _ _ _ _ _ hf => (by cases hf), fun _ _ _ _ _ hf => (by cases hf)⟩
  | succ n ih =>
    refine ⟨fun x0 x1 x3 h hf => ?_, ?_⟩
    · obtain ⟨y, hf, hi⟩ := pm_iter_s hf
      have hf : tX9_element_35 x0 x1 x3 h = some y := hf
      unfold tX9_element_35 at hf
      have K0 := pm_S3.rf h
      by_cases c14 : (x3 &&& 1) = 0
      · have hf := pm_it hf c14
        cases hf
        exact pm_S3.trans (ih.2.1 x0 x1 x3 1 h hi) K0
      · have hf := pm_ie hf c14
        cases hf
        exact pm_S3.trans (ih.2.1 x0 x1 x3 0 h hi) K0
    refine ⟨fun x0 x1 x3 s0 h hf => ?_, ?_⟩
    · obtain ⟨y, hf, hi⟩ := pm_iter_s hf
      have hf : tX9_element_48 x0 x1 x3 s0 h = some y := hf
      unfold tX9_element_48 at hf
      have K0 := pm_S3.rf h
      by_cases c15 : (x3 &&& 4) = 0
      · have hf := pm_it hf c15
        cases hf
        exact pm_S3.trans (ih.2.2.1 x0 x1 x3 s0 0 h hi) K0
      · have hf := pm_ie hf c15
        cases hf
        exact pm_S3.trans (ih.2.2.1 x0 x1 x3 s0 1 h hi) K0
    refine ⟨fun x0 x1 x3 x5 s0 h hf => ?_, ?_⟩
    · obtain ⟨y, hf, hi⟩ := pm_iter_s hf
      have hf : tX9_element_65 x0 x1 x3 x5 s0 h = some y := hf
      unfold tX9_element_65 at hf
      have K0 := pm_S3.rf h
      obtain ⟨k16, hf⟩ := pm_if hf
      obtain ⟨v17, e18, hf⟩ := pm_bd hf
      obtain ⟨k19, hf⟩ := pm_if hf
      obtain ⟨v20, e21, hf⟩ := pm_bd hf
      by_cases c22 : x5 = 0
      · have hf := pm_it hf c22
        by_cases c23 : (x3 &&& 2) = 0
        · have hf := pm_it hf c23
          cases hf
          exact pm_S3.trans (ih.2.2.2.1 x0 x1 x3 x5 s0 1 (x1 + 0) v20 h hi) K0
        · have hf := pm_ie hf c23
          cases hf
          exact pm_S3.trans (ih.2.2.2.1 x0 x1 x3 x5 s0 2 (x1 + 0) v20 h hi) K0
      · have hf := pm_ie hf c22
        cases hf
        exact pm_S3.trans (ih.2.2.2.1 x0 x1 x3 x5 s0 0 (x1 + 0) v20 h hi) K0
    refine ⟨fun x0 x1 x3 x5 x6 s0 s1 s2 h hf => ?_, ?_⟩
    · obtain ⟨y, hf, hi⟩ := pm_iter_s hf
      have hf : tX9_element_101 x0 x1 x3 x5 x6 s0 s1 s2 h = some y := hf
      unfold tX9_element_101 at hf
      have K0 := pm_S3.rf h
      obtain ⟨v24, e25, hf⟩ := pm_bd hf
      have K26 := pm_S3.trans (kpX12_setItem e25) K0
      by_cases c27 : x5 = 0
      · have hf := pm_it hf c27
        cases hf
        exact pm_S3.trans (ih.2.2.2.2.1 x0 x1 x3 x5 x6 v24 hi) K26
      · have hf := pm_ie hf c27
        by_cases c28 : (x3 &&& 2) = 0
        · have hf := pm_it hf c28
          cases hf
          exact pm_S3.trans (ih.2.2.2.2.1 x0 x1 x3 x5 x6 v24 hi) K26
        · have hf := pm_ie hf c28
          obtain ⟨k29, hf⟩ := pm_if hf
          obtain ⟨v30, e31, hf⟩ := pm_bd hf
          obtain ⟨k32, hf⟩ := pm_if hf
          obtain ⟨v33, e34, hf⟩ := pm_bd hf
          obtain ⟨v35, e36, hf⟩ := pm_bd hf
          have K37 := pm_S3.trans (kpX9_number e36) K26
          obtain ⟨v38, e39, hf⟩ := pm_lt hf
          obtain ⟨v40, e41, hf⟩ := pm_bd hf
          have K42 := pm_S3.trans (kpX12_setItem e41) K37
          cases hf
          exact pm_S3.trans (ih.2.2.2.2.1 x0 x1 x3 x5 x6 v40 hi) K42
    refine ⟨fun x0 x1 x3 x5 x6 h hf => ?_, ?_⟩
    · obtain ⟨y, hf, hi⟩ := pm_iter_s hf
      have hf : tX9_element_141 x0 x1 x3 x5 x6 h = some y := hf
      unfold tX9_element_141 at hf
      have K0 := pm_S3.rf h
      obtain ⟨k43, hf⟩ := pm_if hf
      obtain ⟨v44, e45, hf⟩ := pm_bd hf
      obtain ⟨k46, hf⟩ := pm_if hf
      obtain ⟨v47, e48, hf⟩ := pm_bd hf
      obtain ⟨v49, e50, hf⟩ := pm_bd hf
      have K51 := pm_S3.trans (kpX12_setItem e50) K0
      by_cases c52 : x5 = 0
      · have hf := pm_it hf c52
        cases hf
        exact pm_S3.trans (ih.2.2.2.2.2.1 x0 x1 x3 x6 v49 hi) K51
      · have hf := pm_ie hf c52
        obtain ⟨k53, hf⟩ := pm_if hf
        obtain ⟨v54, e55, hf⟩ := pm_bd hf
        have K56 := pm_S3.trans (kpX9_expression e55) K51
        cases hf
        exact pm_S3.trans (ih.2.2.2.2.2.1 x0 x1 x3 x6 v54 hi) K56
    refine ⟨fun x0 x1 x3 x6 h hf => ?_, ?_⟩
    · obtain ⟨y, hf, hi⟩ := pm_iter_s hf
      have hf : tX9_element_167 x0 x1 x3 x6 h = some y := hf
      unfold tX9_element_167 at hf
      have K0 := pm_S3.rf h
      by_cases c57 : x3 = 0
      · have hf := pm_it hf c57
        cases hf
        exact pm_S3.trans (ih.2.2.2.2.2.2.1 x0 x1 x6 112 h hi) K0
      · have hf := pm_ie hf c57
        by_cases c58 : x3 = 4
        · have hf := pm_it hf c58
          cases hf
          exact pm_S3.trans (ih.2.2.2.2.2.2.1 x0 x1 x6 112 h hi) K0
        · have hf := pm_ie hf c58
          by_cases c59 : x6 = 0
          · have hf := pm_it hf c59
            obtain ⟨k60, hf⟩ := pm_if hf
            obtain ⟨v61, e62, hf⟩ := pm_bd hf
            have K63 := pm_S3.trans (kpX9_nextUpTo e62) K0
            cases hf
            exact pm_S3.trans (ih.2.2.2.2.2.2.1 x0 x1 x6 112 v61.2 hi) K63
          · have hf := pm_ie hf c59
            obtain ⟨k64, hf⟩ := pm_if hf
            obtain ⟨v65, e66, hf⟩ := pm_bd hf
            have K67 := pm_S3.trans (kpX9_referenceType e66) K0
            cases hf
            exact pm_S3.trans (ih.2.2.2.2.2.2.1 x0 x1 x6 v65.1 v65.2 hi) K67
    refine ⟨fun x0 x1 x6 x7 h hf => ?_, ?_⟩
    · obtain ⟨y, hf, hi⟩ := pm_iter_s hf
      have hf : tX9_element_205 x0 x1 x6 x7 h = some y := hf
      unfold tX9_element_205 at hf
      have K0 := pm_S3.rf h
      obtain ⟨k68, hf⟩ := pm_if hf
      obtain ⟨v69, e70, hf⟩ := pm_bd hf
      have K71 := pm_S3.trans (kpX9_number e70) K0
      obtain ⟨k72, hf⟩ := pm_if hf
      obtain ⟨v73, e74, hf⟩ := pm_bd hf
      obtain ⟨k75, hf⟩ := pm_if hf
      obtain ⟨v76, e77, hf⟩ := pm_bd hf
      obtain ⟨v78, e79, hf⟩ := pm_bd hf
      have K80 := pm_S3.trans (kpX12_setItem e79) K71
      obtain ⟨k81, hf⟩ := pm_if hf
      obtain ⟨v82, e83, hf⟩ := pm_bd hf
      obtain ⟨k84, hf⟩ := pm_if hf
      obtain ⟨v85, e86, hf⟩ := pm_bd hf
      obtain ⟨v87, e88, hf⟩ := pm_lt hf
      obtain ⟨v89, e90, hf⟩ := pm_bd hf
      have K91 := pm_S3.trans (kpX12_setItem e90) K80
      obtain ⟨k92, hf⟩ := pm_if hf
      obtain ⟨v93, e94, hf⟩ := pm_bd hf
      obtain ⟨k95, hf⟩ := pm_if hf
      obtain ⟨v96, e97, hf⟩ := pm_bd hf
      obtain ⟨v98, e99, hf⟩ := pm_bd hf
      have K100 := pm_S3.trans (kpX12_setItem e99) K91
      obtain ⟨k101, hf⟩ := pm_if hf
      obtain ⟨v102, e103, hf⟩ := pm_bd hf
      obtain ⟨k104, hf⟩ := pm_if hf
      obtain ⟨v105, e106, hf⟩ := pm_bd hf
      by_cases c107 : x6 = 0
      · have hf := pm_it hf c107
        obtain ⟨v108, e109, hf⟩ := pm_bd hf
        have K110 := pm_S3.trans (kpX12_setItem e109) K100
        cases hf
        exact pm_S3.trans (ih.2.2.2.2.2.2.2 x0 x6 v69.1 0 v108 hi) K110
      · have hf := pm_ie hf c107
        obtain ⟨v111, e112, hf⟩ := pm_bd hf
        have K113 := pm_S3.trans (kpX12_setItem e112) K100
        cases hf
        exact pm_S3.trans (ih.2.2.2.2.2.2.2 x0 x6 v69.1 0 v111 hi) K113
    refine fun x0 x6 x8 x10 h hf => ?_
    obtain ⟨y, hf, hi⟩ := pm_iter_s hf
    have hf : tX9_element_290 x0 x6 x8 x10 h = some y := hf
    unfold tX9_element_290 at hf
    have K0 := pm_S3.rf h
    by_cases c114 : x8 ≤ x10
    · have hf := pm_it hf c114
      cases hf
      cases hi
      exact K0
    · have hf := pm_ie hf c114
      obtain ⟨k115, hf⟩ := pm_if hf
      by_cases c116 : (pm_I h x0 3) = 0
      · have hf := pm_it hf c116
        by_cases c117 : x6 = 0
        · have hf := pm_it hf c117
          obtain ⟨v118, e119, hf⟩ := pm_bd hf
          have K120 := pm_S3.trans (kpX9_number e119) K0
          obtain ⟨y121, e122, hf⟩ := pm_lt hf
          cases hf
          exact pm_S3.trans (ih.2.2.2.2.2.2.2 x0 x6 x8 y121 v118.2 hi) K120
        · have hf := pm_ie hf c117
          obtain ⟨v123, e124, hf⟩ := pm_bd hf
          have K125 := pm_S3.trans (kpX9_expression e124) K0
          obtain ⟨y126, e127, hf⟩ := pm_lt hf
          cases hf
          exact pm_S3.trans (ih.2.2.2.2.2.2.2 x0 x6 x8 y126 v123 hi) K125
      · have hf := pm_ie hf c116
        cases hf
        cases hi
        exact K0
set_option maxHeartbeats 4000000 in
set_option maxRecDepth 100000 in
theorem kpX9_element {h : pm_H} {a0 : Nat} {r : pm_H} (hf : fX9_element h a0 = some r) : pm_S3 r h := by
  unfold fX9_element at hf
  have K0 := pm_S3.rf h
  obtain ⟨k1, hf⟩ := pm_if hf
  obtain ⟨y2, e3, hf⟩ := pm_lt hf
  obtain ⟨y4, e5, hf⟩ := pm_lt hf
  obtain ⟨v6, e7, hf⟩ := pm_bd hf
  have K8 := pm_S3.trans (kpX9_number e7) K0
  by_cases c9 : v6.1 ≤ 7
  · have hf := pm_it hf c9
    obtain ⟨n, hn⟩ := pm_lim_iter hf
    exact pm_S3.trans ((klX9_element n).1 a0 y2 v6.1 v6.2 hn) K8
  · have hf := pm_ie hf c9
    obtain ⟨k10, hf⟩ := pm_if hf
    obtain ⟨v11, e12, hf⟩ := pm_bd hf
    have K13 := pm_S3.trans (kpX9_fail e12) K8
    obtain ⟨n, hn⟩ := pm_lim_iter hf
    exact pm_S3.trans ((klX9_element n).1 a0 y2 v6.1 v11 hn) K13
