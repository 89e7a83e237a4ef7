abbrev WX9_instruction : List Nat := [1153, 1155, 1156, 1157, 1158, 1159, 1160, 1161]
set_option maxHeartbeats 4000000 in
set_option maxRecDepth 100000 in
theorem wfX9_instruction_b123 {h0 h : pm_H} (K0 : pw_F WX9_instruction h0 h) {x0 : Nat}  {r : pm_H} (hf : fX9_instruction_b123 h x0 = some r) : pw_F WX9_instruction h0 r := by
  unfold fX9_instruction_b123 at hf
  obtain ⟨k37, hf⟩ := pm_if hf
  obtain ⟨y38, e39, hf⟩ := pm_lt hf
  by_cases c40 : y38 = 0
  · have hf := pm_it hf c40
    cases hf
    exact K0
  have hf := pm_ie hf c40
  by_cases c41 : y38 = 1
  · have hf := pm_it hf c41
    cases hf
    exact K0
  have hf := pm_ie hf c41
  by_cases c42 : y38 = 2
  · have hf := pm_it hf c42
    obtain ⟨v43, e44, hf⟩ := pm_bd hf
    have K45 := pw_t (by decide) K0 (wfX9_blockType (pw_rf _) e44)
    obtain ⟨k46, hf⟩ := pm_if hf
    cases hf
    exact (pw_sL K45 rfl k46 (by decide))
  have hf := pm_ie hf c42
  by_cases c47 : y38 = 3
  · have hf := pm_it hf c47
    obtain ⟨v48, e49, hf⟩ := pm_bd hf
    have K50 := pw_t (by decide) K0 (wfX9_blockType (pw_rf _) e49)
    obtain ⟨k51, hf⟩ := pm_if hf
    cases hf
    exact (pw_sL K50 rfl k51 (by decide))
  have hf := pm_ie hf c47
  by_cases c52 : y38 = 4
  · have hf := pm_it hf c52
    obtain ⟨v53, e54, hf⟩ := pm_bd hf
    have K55 := pw_t (by decide) K0 (wfX9_blockType (pw_rf _) e54)
    obtain ⟨k56, hf⟩ := pm_if hf
    cases hf
    exact (pw_sL K55 rfl k56 (by decide))
  have hf := pm_ie hf c52
  by_cases c57 : y38 = 5
  · have hf := pm_it hf c57
    cases hf
    exact K0
  have hf := pm_ie hf c57
  by_cases c58 : y38 = 11
  · have hf := pm_it hf c58
    cases hf
    exact K0
  have hf := pm_ie hf c58
  by_cases c59 : y38 = 12
  · have hf := pm_it hf c59
    obtain ⟨v60, e61, hf⟩ := pm_bd hf
    have K62 := pw_t (by decide) K0 (wfX9_number (pw_rf _) e61)
    obtain ⟨k63, hf⟩ := pm_if hf
    cases hf
    exact (pw_sL K62 rfl k63 (by decide))
  have hf := pm_ie hf c59
  by_cases c64 : y38 = 13
  · have hf := pm_it hf c64
    obtain ⟨v65, e66, hf⟩ := pm_bd hf
    have K67 := pw_t (by decide) K0 (wfX9_number (pw_rf _) e66)
    obtain ⟨k68, hf⟩ := pm_if hf
    cases hf
    exact (pw_sL K67 rfl k68 (by decide))
  have hf := pm_ie hf c64
  by_cases c69 : y38 = 14
  · have hf := pm_it hf c69
    obtain ⟨v70, e71, hf⟩ := pm_bd hf
    have K72 := pw_t (by decide) K0 (wfX9_labels (pw_rf _) e71)
    cases hf
    exact K72
  have hf := pm_ie hf c69
  by_cases c73 : y38 = 15
  · have hf := pm_it hf c73
    cases hf
    exact K0
  have hf := pm_ie hf c73
  by_cases c74 : y38 = 16
  · have hf := pm_it hf c74
    obtain ⟨v75, e76, hf⟩ := pm_bd hf
    have K77 := pw_t (by decide) K0 (wfX9_number (pw_rf _) e76)
    obtain ⟨k78, hf⟩ := pm_if hf
    cases hf
    exact (pw_sL K77 rfl k78 (by decide))
  have hf := pm_ie hf c74
  by_cases c79 : y38 = 26
  · have hf := pm_it hf c79
    cases hf
    exact K0
  have hf := pm_ie hf c79
  by_cases c80 : y38 = 27
  · have hf := pm_it hf c80
    cases hf
    exact K0
  have hf := pm_ie hf c80
  by_cases c81 : y38 = 28
  · have hf := pm_it hf c81
    obtain ⟨v82, e83, hf⟩ := pm_bd hf
    have K84 := pw_t (by decide) K0 (wfX9_selected (pw_rf _) e83)
    cases hf
    exact K84
  have hf := pm_ie hf c81
  by_cases c85 : y38 = 63
  · have hf := pm_it hf c85
    obtain ⟨v86, e87, hf⟩ := pm_bd hf
    have K88 := pw_t (by decide) K0 (wfX9_nextUpTo (pw_rf _) e87)
    cases hf
    exact K88
  have hf := pm_ie hf c85
  by_cases c89 : y38 = 64
  · have hf := pm_it hf c89
    obtain ⟨v90, e91, hf⟩ := pm_bd hf
    have K92 := pw_t (by decide) K0 (wfX9_nextUpTo (pw_rf _) e91)
    cases hf
    exact K92
  have hf := pm_ie hf c89
  by_cases c93 : y38 = 65
  · have hf := pm_it hf c93
    obtain ⟨v94, e95, hf⟩ := pm_bd hf
    have K96 := pw_t (by decide) K0 (wfX9_number (pw_rf _) e95)
    obtain ⟨y97, e98, hf⟩ := pm_lt hf
    obtain ⟨k99, hf⟩ := pm_if hf
    cases hf
    exact (pw_sL K96 rfl k99 (by decide))
  have hf := pm_ie hf c93
  by_cases c100 : y38 = 66
  · have hf := pm_it hf c100
    obtain ⟨v101, e102, hf⟩ := pm_bd hf
    have K103 := pw_t (by decide) K0 (wfX9_number (pw_rf _) e102)
    obtain ⟨k104, hf⟩ := pm_if hf
    cases hf
    exact (pw_sL K103 rfl k104 (by decide))
  have hf := pm_ie hf c100
  by_cases c105 : y38 = 67
  · have hf := pm_it hf c105
    obtain ⟨v106, e107, hf⟩ := pm_bd hf
    have K108 := pw_t (by decide) K0 (wfX9_lowestFirst (pw_rf _) e107)
    obtain ⟨k109, hf⟩ := pm_if hf
    cases hf
    exact (pw_sL K108 rfl k109 (by decide))
  have hf := pm_ie hf c105
  by_cases c110 : y38 = 68
  · have hf := pm_it hf c110
    obtain ⟨v111, e112, hf⟩ := pm_bd hf
    have K113 := pw_t (by decide) K0 (wfX9_lowestFirst (pw_rf _) e112)
    obtain ⟨k114, hf⟩ := pm_if hf
    cases hf
    exact (pw_sL K113 rfl k114 (by decide))
  have hf := pm_ie hf c110
  by_cases c115 : y38 = 208
  · have hf := pm_it hf c115
    obtain ⟨v116, e117, hf⟩ := pm_bd hf
    have K118 := pw_t (by decide) K0 (wfX9_referenceType (pw_rf _) e117)
    obtain ⟨k119, hf⟩ := pm_if hf
    cases hf
    exact (pw_sL K118 rfl k119 (by decide))
  have hf := pm_ie hf c115
  by_cases c120 : y38 = 209
  · have hf := pm_it hf c120
    cases hf
    exact K0
  have hf := pm_ie hf c120
  by_cases c121 : y38 = 210
  · have hf := pm_it hf c121
    obtain ⟨v122, e123, hf⟩ := pm_bd hf
    have K124 := pw_t (by decide) K0 (wfX9_number (pw_rf _) e123)
    obtain ⟨k125, hf⟩ := pm_if hf
    cases hf
    exact (pw_sL K124 rfl k125 (by decide))
  have hf := pm_ie hf c121
  by_cases c126 : y38 = 252
  · have hf := pm_it hf c126
    obtain ⟨v127, e128, hf⟩ := pm_bd hf
    have K129 := pw_t (by decide) K0 (wfX9_longInstruction (pw_rf _) e128)
    cases hf
    exact K129
  have hf := pm_ie hf c126
  obtain ⟨v130, e131, hf⟩ := pm_bd hf
  have K132 := pw_t (by decide) K0 (wfX9_fail (pw_rf _) e131)
  cases hf
  exact K132
set_option maxHeartbeats 4000000 in
set_option maxRecDepth 100000 in
theorem wfX9_instruction_b64 {h0 h : pm_H} (K0 : pw_F WX9_instruction h0 h) {x0 : Nat}  {r : pm_H} (hf : fX9_instruction_b64 h x0 = some r) : pw_F WX9_instruction h0 r := by
  unfold fX9_instruction_b64 at hf
  obtain ⟨k21, hf⟩ := pm_if hf
  by_cases c22 : (pm_I h x0 6) = 17
  · have hf := pm_it hf c22
    obtain ⟨v23, e24, hf⟩ := pm_bd hf
    have K25 := pw_t (by decide) K0 (wfX9_number (pw_rf _) e24)
    obtain ⟨k26, hf⟩ := pm_if hf
    obtain ⟨v27, e28, hf⟩ := pm_bd hf
    have K29 := pw_t (by decide) (pw_sL K25 rfl k26 (by decide)) (wfX9_number (pw_rf _) e28)
    obtain ⟨k30, hf⟩ := pm_if hf
    cases hf
    exact (pw_sL K29 rfl k30 (by decide))
  · have hf := pm_ie hf c22
    by_cases c31 : (pm_I h x0 6) < 32
    · have hf := pm_it hf c31
      exact wfX9_instruction_b123 K0  hf
    · have hf := pm_ie hf c31
      by_cases c32 : 38 < (pm_I h x0 6)
      · have hf := pm_it hf c32
        exact wfX9_instruction_b123 K0  hf
      · have hf := pm_ie hf c32
        obtain ⟨v33, e34, hf⟩ := pm_bd hf
        have K35 := pw_t (by decide) K0 (wfX9_number (pw_rf _) e34)
        obtain ⟨k36, hf⟩ := pm_if hf
        cases hf
        exact (pw_sL K35 rfl k36 (by decide))
set_option maxHeartbeats 4000000 in
set_option maxRecDepth 100000 in
theorem wfX9_instruction_b46 {h0 h : pm_H} (K0 : pw_F WX9_instruction h0 h) {x0 : Nat}  {r : pm_H} (hf : fX9_instruction_b46 h x0 = some r) : pw_F WX9_instruction h0 r := by
  unfold fX9_instruction_b46 at hf
  obtain ⟨k10, hf⟩ := pm_if hf
  by_cases c11 : (pm_I h x0 6) < 40
  · have hf := pm_it hf c11
    exact wfX9_instruction_b64 K0  hf
  · have hf := pm_ie hf c11
    by_cases c12 : (pm_I h x0 6) ≤ 62
    · have hf := pm_it hf c12
      obtain ⟨v13, e14, hf⟩ := pm_bd hf
      have K15 := pw_t (by decide) K0 (wfX9_number (pw_rf _) e14)
      obtain ⟨k16, hf⟩ := pm_if hf
      obtain ⟨v17, e18, hf⟩ := pm_bd hf
      have K19 := pw_t (by decide) (pw_sL K15 rfl k16 (by decide)) (wfX9_number (pw_rf _) e18)
      obtain ⟨k20, hf⟩ := pm_if hf
      cases hf
      exact (pw_sL K19 rfl k20 (by decide))
    · have hf := pm_ie hf c12
      exact wfX9_instruction_b64 K0  hf
set_option maxHeartbeats 4000000 in
set_option maxRecDepth 100000 in
theorem wfX9_instruction {h0 h : pm_H} (K0 : pw_F WX9_instruction h0 h) {a0 : Nat}  {r : pm_H} (hf : fX9_instruction h a0 = some r) : pw_F WX9_instruction h0 r := by
  unfold fX9_instruction at hf
  obtain ⟨k1, hf⟩ := pm_if hf
  obtain ⟨y2, e3, hf⟩ := pm_lt hf
  obtain ⟨v4, e5, hf⟩ := pm_bd hf
  have K6 := pw_t (by decide) (pw_sI K0 rfl k1 (by decide)) (wfX9_next (pw_rf _) e5)
  obtain ⟨k7, hf⟩ := pm_if hf
  by_cases c8 : (pm_I (pm_setL (pm_setL (pm_setI v4.2 a0 6 v4.1) a0 8 0) a0 9 0) a0 6) < 69
  · have hf := pm_it hf c8
    exact wfX9_instruction_b46 (pw_sL (pw_sL (pw_sI K6 rfl k7 (by decide)) (pkI rfl) k7 (by decide)) (pkL (pkI rfl)) k7 (by decide))  hf
  · have hf := pm_ie hf c8
    by_cases c9 : 196 < (pm_I (pm_setL (pm_setL (pm_setI v4.2 a0 6 v4.1) a0 8 0) a0 9 0) a0 6)
    · have hf := pm_it hf c9
      exact wfX9_instruction_b46 (pw_sL (pw_sL (pw_sI K6 rfl k7 (by decide)) (pkI rfl) k7 (by decide)) (pkL (pkI rfl)) k7 (by decide))  hf
    · have hf := pm_ie hf c9
      cases hf
      exact (pw_sL (pw_sL (pw_sI K6 rfl k7 (by decide)) (pkI rfl) k7 (by decide)) (pkL (pkI rfl)) k7 (by decide))
abbrev WX10_constant : List Nat := [1153, 1155, 1156, 1157, 1158, 1159, 1160, 1161]
set_option maxHeartbeats 4000000 in
set_option maxRecDepth 100000 in
theorem wfX10_constant {h0 h : pm_H} (K0 : pw_F WX10_constant h0 h) {a0 : Nat} {p1 : Nat}  {r : (Int64 × pm_H)} (hf : fX10_constant h a0 p1 = some r) : pw_F WX10_constant h0 r.2 := by
  unfold fX10_constant at hf
  obtain ⟨k1, hf⟩ := pm_if hf
  obtain ⟨v2, e3, hf⟩ := pm_bd hf
  obtain ⟨k4, hf⟩ := pm_if hf
  obtain ⟨v5, e6, hf⟩ := pm_bd hf
  have K7 := pw_t (by decide) K0 (wfX9_instruction (pw_rf _) e6)
  obtain ⟨k8, hf⟩ := pm_if hf
  obtain ⟨v9, e10, hf⟩ := pm_bd hf
  obtain ⟨k11, hf⟩ := pm_if hf
  obtain ⟨y12, e13, hf⟩ := pm_lt hf
  obtain ⟨v14, e15, hf⟩ := pm_lt hf
  obtain ⟨y16, e17, hf⟩ := pm_lt hf
  obtain ⟨v18, e19, hf⟩ := pm_bd hf
  have K20 := pw_t (by decide) K7 (wfX9_instruction (pw_rf _) e19)
  by_cases c21 : y12 = 208
  · have hf := pm_it hf c21
    cases hf
    exact K20
  · have hf := pm_ie hf c21
    by_cases c22 : y12 = 210
    · have hf := pm_it hf c22
      obtain ⟨k23, hf⟩ := pm_if hf
      obtain ⟨v24, e25, hf⟩ := pm_bd hf
      obtain ⟨v26, e27, hf⟩ := pm_bd hf
      cases hf
      exact K20
    · have hf := pm_ie hf c22
      by_cases c28 : y12 = 35
      · have hf := pm_it hf c28
        obtain ⟨k29, hf⟩ := pm_if hf
        obtain ⟨v30, e31, hf⟩ := pm_bd hf
        obtain ⟨k32, hf⟩ := pm_if hf
        obtain ⟨v33, e34, hf⟩ := pm_bd hf
        obtain ⟨v35, e36, hf⟩ := pm_bd hf
        obtain ⟨v37, e38, hf⟩ := pm_bd hf
        cases hf
        exact K20
      · have hf := pm_ie hf c28
        cases hf
        exact K20
abbrev WX1_constant : List Nat := [128, 129, 1153, 1155, 1156, 1157, 1158, 1159, 1160, 1161, 4096]
set_option maxHeartbeats 4000000 in
set_option maxRecDepth 100000 in
theorem wlX1_constant {h0 : pm_H} {r : pm_H} : ∀ n : Nat, (∀ (x0 : Nat) (x1 : Int32) (x2 : Int32) (x3 : Int32) (x4 : Int32) (x5 : Int32) (h : pm_H), pw_F WX1_constant h0 h → pm_iter sX1_constant n (.inl (x0, x1, x2, x3, x4, x5, h)) = some r → pw_F WX1_constant h0 r) ∧ (∀ (x0 : Nat) (x1 : Int32) (x2 : Int32) (x3 : Int32) (x4 : Int32) (h : pm_H), pw_F WX1_constant h0 h → pm_iter sX1_constant n (.inr (.inl (x0, x1, x2, x3, x4, h))) = some r → pw_F WX1_constant h0 r) ∧ (∀ (x0 : Nat) (x1 : Int32) (x2 : Int32) (x3 : Int32) (x4 : Int32) (x5 : Int32) (h : pm_H), pw_F WX1_constant h0 h → pm_iter sX1_constant n (.inr (.inr (.inl (x0, x1, x2, x3, x4, x5, h)))) = some r → pw_F WX1_constant h0 r) ∧ (∀ (x0 : Nat) (x1 : Int32) (x2 : Int32) (x3 : Int32) (x4 : Int32) (x5 : Int32) (h : pm_H), pw_F WX1_constant h0 h → pm_iter sX1_constant n (.inr (.inr (.inr (x0, x1, x2, x3, x4, x5, h)))) = some r → pw_F WX1_constant h0 r) := by
  intro n
  induction n with
  | zero => exact ⟨fun _ _ _ _ _ _ _ _ hf => (by cases hf), fun _ _ _ _ _ _ _ hf => (by cases hf), fun _ _ _ _ _ _ _ _ hf => (by cases hf), fun _ _ _ _ _ _ _ _ hf => (by cases hf)⟩
  | succ n ih =>
    refine ⟨fun x0 x1 x2 x3 x4 x5 h K0 hf => ?_, ?_⟩
    · obtain ⟨y, hf, hi⟩ := pm_iter_s hf
      have hf : tX1_constant_10 x0 x1 x2 x3 x4 x5 h = some y := hf
      unfold tX1_constant_10 at hf
      obtain ⟨k1, hf⟩ := pm_if hf
      obtain ⟨v2, e3, hf⟩ := pm_bd hf
      obtain ⟨k4, hf⟩ := pm_if hf
      obtain ⟨v5, e6, hf⟩ := pm_bd hf
      obtain ⟨k7, hf⟩ := pm_if hf
      by_cases c8 : (Int32.ofNat (pm_ln h v5)) < x5
      · have hf := pm_it hf c8
        cases hf
        exact ih.2.1 x0 x1 x2 x3 x4 h K0  hi
      · have hf := pm_ie hf c8
        by_cases c9 : (pm_I h x0 0) = 0
        · have hf := pm_it hf c9
          obtain ⟨v10, e11, hf⟩ := pm_bd hf
          obtain ⟨k12, hf⟩ := pm_if hf
          obtain ⟨v13, e14, hf⟩ := pm_bd hf
          have K15 := pw_t (by decide) K0 (wfX9_instruction (pw_rf _) e14)
          obtain ⟨k16, hf⟩ := pm_if hf
          obtain ⟨v17, e18, hf⟩ := pm_bd hf
          obtain ⟨k19, hf⟩ := pm_if hf
          by_cases c20 : (pm_I v13 v17 6) = 11
          · have hf := pm_it hf c20
            cases hf
            exact ih.2.1 x0 x1 x2 x3 x4 v13 K15  hi
          · have hf := pm_ie hf c20
            obtain ⟨v21, e22, hf⟩ := pm_bd hf
            by_cases c23 : v21 = 0
            · have hf := pm_it hf c23
              obtain ⟨v24, e25, hf⟩ := pm_bd hf
              have K26 := pw_t (by decide) K15 (wfX1_fail (pw_rf _) e25)
              cases hf
              exact ih.2.2.1 x0 x1 x2 v21 x4 x5 v24 K26  hi
            · have hf := pm_ie hf c23
              cases hf
              exact ih.2.2.1 x0 x1 x2 v21 x4 x5 v13 K15  hi
        · have hf := pm_ie hf c9
          cases hf
          exact ih.2.1 x0 x1 x2 x3 x4 h K0  hi
    refine ⟨fun x0 x1 x2 x3 x4 h K0 hf => ?_, ?_⟩
    · obtain ⟨y, hf, hi⟩ := pm_iter_s hf
      have hf : tX1_constant_145 x0 x1 x2 x3 x4 h = some y := hf
      unfold tX1_constant_145 at hf
      by_cases c27 : x4 < 0
      · have hf := pm_it hf c27
        by_cases c28 : x2 = 1
        · have hf := pm_it hf c28
          by_cases c29 : x3 = x1
          · have hf := pm_it hf c29
            cases hf
            cases hi
            exact K0
          · have hf := pm_ie hf c29
            obtain ⟨k30, hf⟩ := pm_if hf
            obtain ⟨v31, e32, hf⟩ := pm_bd hf
            have K33 := pw_t (by decide) K0 (wfX1_fail (pw_rf _) e32)
            cases hf
            cases hi
            exact K33
        · have hf := pm_ie hf c28
          obtain ⟨k34, hf⟩ := pm_if hf
          obtain ⟨v35, e36, hf⟩ := pm_bd hf
          have K37 := pw_t (by decide) K0 (wfX1_fail (pw_rf _) e36)
          cases hf
          cases hi
          exact K37
      · have hf := pm_ie hf c27
        obtain ⟨k38, hf⟩ := pm_if hf
        obtain ⟨v39, e40, hf⟩ := pm_bd hf
        have K41 := pw_t (by decide) K0 (wfX1_failAt (pw_rf _) e40)
        by_cases c42 : x2 = 1
        · have hf := pm_it hf c42
          by_cases c43 : x3 = x1
          · have hf := pm_it hf c43
            cases hf
            cases hi
            exact K41
          · have hf := pm_ie hf c43
            obtain ⟨k44, hf⟩ := pm_if hf
            obtain ⟨v45, e46, hf⟩ := pm_bd hf
            have K47 := pw_t (by decide) K41 (wfX1_fail (pw_rf _) e46)
            cases hf
            cases hi
            exact K47
        · have hf := pm_ie hf c42
          obtain ⟨k48, hf⟩ := pm_if hf
          obtain ⟨v49, e50, hf⟩ := pm_bd hf
          have K51 := pw_t (by decide) K41 (wfX1_fail (pw_rf _) e50)
          cases hf
          cases hi
          exact K51
    refine ⟨fun x0 x1 x2 x3 x4 x5 h K0 hf => ?_, ?_⟩
    · obtain ⟨y, hf, hi⟩ := pm_iter_s hf
      have hf : tX1_constant_67 x0 x1 x2 x3 x4 x5 h = some y := hf
      unfold tX1_constant_67 at hf
      obtain ⟨k52, hf⟩ := pm_if hf
      obtain ⟨v53, e54, hf⟩ := pm_bd hf
      obtain ⟨k55, hf⟩ := pm_if hf
      by_cases c56 : (pm_I h v53 6) = 210
      · have hf := pm_it hf c56
        obtain ⟨v57, e58, hf⟩ := pm_bd hf
        obtain ⟨k59, hf⟩ := pm_if hf
        obtain ⟨v60, e61, hf⟩ := pm_bd hf
        by_cases c62 : v60 = 0
        · have hf := pm_it hf c62
          by_cases c63 : 0 ≤ x4
          · have hf := pm_it hf c63
            cases hf
            exact ih.2.2.2 x0 x1 x2 x3 x4 x5 h K0  hi
          · have hf := pm_ie hf c63
            obtain ⟨y64, e65, hf⟩ := pm_lt hf
            cases hf
            exact ih.2.2.2 x0 x1 x2 x3 y64 x5 h K0  hi
        · have hf := pm_ie hf c62
          cases hf
          exact ih.2.2.2 x0 x1 x2 x3 x4 x5 h K0  hi
      · have hf := pm_ie hf c56
        cases hf
        exact ih.2.2.2 x0 x1 x2 x3 x4 x5 h K0  hi
    refine fun x0 x1 x2 x3 x4 x5 h K0 hf => ?_
    obtain ⟨y, hf, hi⟩ := pm_iter_s hf
    have hf : tX1_constant_112 x0 x1 x2 x3 x4 x5 h = some y := hf
    unfold tX1_constant_112 at hf
    obtain ⟨k66, hf⟩ := pm_if hf
    obtain ⟨v67, e68, hf⟩ := pm_bd hf
    obtain ⟨k69, hf⟩ := pm_if hf
    by_cases c70 : (pm_I h v67 6) = 210
    · have hf := pm_it hf c70
      obtain ⟨v71, e72, hf⟩ := pm_bd hf
      have K73 := pw_t (by decide) K0 (wfX1_declare (pw_rf _) e72)
      obtain ⟨y74, e75, hf⟩ := pm_lt hf
      obtain ⟨y76, e77, hf⟩ := pm_lt hf
      cases hf
      exact ih.1 x0 x1 y74 x3 x4 y76 v71 K73  hi
    · have hf := pm_ie hf c70
      obtain ⟨y78, e79, hf⟩ := pm_lt hf
      obtain ⟨y80, e81, hf⟩ := pm_lt hf
      cases hf
      exact ih.1 x0 x1 y78 x3 x4 y80 h K0  hi
set_option maxHeartbeats 4000000 in
set_option maxRecDepth 100000 in
theorem wfX1_constant {h0 h : pm_H} (K0 : pw_F WX1_constant h0 h) {a0 : Nat} {p1 : Int32}  {r : pm_H} (hf : fX1_constant h a0 p1 = some r) : pw_F WX1_constant h0 r := by
  unfold fX1_constant at hf
  obtain ⟨n, hn⟩ := pm_lim_iter hf
  exact (wlX1_constant n).1 a0 p1 0 0 (-1) 0 h K0  hn
abbrev WX1_dataAreRight : List Nat := [128, 129, 1152, 1153, 1154, 1155, 1156, 1157, 1158, 1159, 1160, 1161, 1168, 4096]
set_option maxHeartbeats 4000000 in
set_option maxRecDepth 100000 in
theorem wlX1_dataAreRight {h0 : pm_H} {r : pm_H} : ∀ n : Nat, (∀ (x0 : Nat) (x1 : Int32) (h : pm_H), pw_F WX1_dataAreRight h0 h → pm_iter sX1_dataAreRight n (x0, x1, h) = some r → pw_F WX1_dataAreRight h0 r) := by
  intro n
  induction n with
  | zero => exact fun _ _ _ _ hf => (by cases hf)
  | succ n ih =>
    refine fun x0 x1 h K0 hf => ?_
    obtain ⟨y, hf, hi⟩ := pm_iter_s hf
    have hf : tX1_dataAreRight_2 x0 x1 h = some y := hf
    unfold tX1_dataAreRight_2 at hf
    obtain ⟨k1, hf⟩ := pm_if hf
    obtain ⟨v2, e3, hf⟩ := pm_bd hf
    obtain ⟨k4, hf⟩ := pm_if hf
    obtain ⟨v5, e6, hf⟩ := pm_bd hf
    obtain ⟨k7, hf⟩ := pm_if hf
    by_cases c8 : (Int32.ofNat (pm_ln h v5)) ≤ x1
    · have hf := pm_it hf c8
      cases hf
      cases hi
      exact K0
    · have hf := pm_ie hf c8
      by_cases c9 : (pm_I h x0 0) = 0
      · have hf := pm_it hf c9
        obtain ⟨v10, e11, hf⟩ := pm_bd hf
        by_cases c12 : v10 = 0
        · have hf := pm_it hf c12
          obtain ⟨v13, e14, hf⟩ := pm_bd hf
          obtain ⟨v15, e16, hf⟩ := pm_bd hf
          by_cases c17 : v15 = 0
          · have hf := pm_it hf c17
            obtain ⟨v18, e19, hf⟩ := pm_bd hf
            have K20 := pw_t (by decide) K0 (wfX1_failSection (pw_rf _) e19)
            obtain ⟨k21, hf⟩ := pm_if hf
            obtain ⟨v22, e23, hf⟩ := pm_bd hf
            obtain ⟨v24, e25, hf⟩ := pm_bd hf
            obtain ⟨k26, hf⟩ := pm_if hf
            obtain ⟨v27, e28, hf⟩ := pm_bd hf
            obtain ⟨v29, e30, hf⟩ := pm_bd hf
            obtain ⟨k31, hf⟩ := pm_if hf
            obtain ⟨v32, e33, hf⟩ := pm_bd hf
            have K34 := pw_t (by decide) K20 (wfX9_open (pw_rf _) e33)
            obtain ⟨k35, hf⟩ := pm_if hf
            obtain ⟨v36, e37, hf⟩ := pm_bd hf
            have K38 := pw_t (by decide) K34 (wfX1_constant (pw_rf _) e37)
            obtain ⟨y39, e40, hf⟩ := pm_lt hf
            cases hf
            exact ih x0 y39 v36 K38  hi
          · have hf := pm_ie hf c17
            obtain ⟨v41, e42, hf⟩ := pm_bd hf
            obtain ⟨v43, e44, hf⟩ := pm_bd hf
            obtain ⟨k45, hf⟩ := pm_if hf
            obtain ⟨v46, e47, hf⟩ := pm_bd hf
            have K48 := pw_t (by decide) K0 (wfX9_open (pw_rf _) e47)
            obtain ⟨k49, hf⟩ := pm_if hf
            obtain ⟨v50, e51, hf⟩ := pm_bd hf
            have K52 := pw_t (by decide) K48 (wfX1_constant (pw_rf _) e51)
            obtain ⟨y53, e54, hf⟩ := pm_lt hf
            cases hf
            exact ih x0 y53 v50 K52  hi
        · have hf := pm_ie hf c12
          obtain ⟨y55, e56, hf⟩ := pm_lt hf
          cases hf
          exact ih x0 y55 h K0  hi
      · have hf := pm_ie hf c9
        cases hf
        cases hi
        exact K0
set_option maxHeartbeats 4000000 in
set_option maxRecDepth 100000 in
theorem wfX1_dataAreRight {h0 h : pm_H} (K0 : pw_F WX1_dataAreRight h0 h) {a0 : Nat}  {r : pm_H} (hf : fX1_dataAreRight h a0 = some r) : pw_F WX1_dataAreRight h0 r := by
  unfold fX1_dataAreRight at hf
  obtain ⟨n, hn⟩ := pm_lim_iter hf
  exact (wlX1_dataAreRight n) a0 0 h K0  hn
abbrev WX1_elementsAreRight : List Nat := [128, 129, 1152, 1153, 1154, 1155, 1156, 1157, 1158, 1159, 1160, 1161, 1168, 4096]
set_option maxHeartbeats 4000000 in
set_option maxRecDepth 100000 in
theorem wlX1_elementsAreRight {h0 : pm_H} {r : pm_H} : ∀ n : Nat, (∀ (x0 : Nat) (x1 : Int32) (h : pm_H), pw_F WX1_elementsAreRight h0 h → pm_iter sX1_elementsAreRight n (.inl (x0, x1, h)) = some r → pw_F WX1_elementsAreRight h0 r) ∧ (∀ (x0 : Nat) (x1 : Int32) (x2 : Int32) (x3 : Int32) (x4 : Int32) (s0 : Int32) (h : pm_H), pw_F WX1_elementsAreRight h0 h → pm_iter sX1_elementsAreRight n (.inr (.inl (x0, x1, x2, x3, x4, s0, h))) = some r → pw_F WX1_elementsAreRight h0 r) ∧ (∀ (x0 : Nat) (x1 : Int32) (x2 : Int32) (x3 : Int32) (x4 : Int32) (x5 : Int32) (x6 : Int32) (x7 : Int32) (h : pm_H), pw_F WX1_elementsAreRight h0 h → pm_iter sX1_elementsAreRight n (.inr (.inr (.inl (x0, x1, x2, x3, x4, x5, x6, x7, h)))) = some r → pw_F WX1_elementsAreRight h0 r) ∧ (∀ (x0 : Nat) (x1 : Int32) (x2 : Int32) (x3 : Int32) (x4 : Int32) (x5 : Int32) (x6 : Int32) (h : pm_H), pw_F WX1_elementsAreRight h0 h → pm_iter sX1_elementsAreRight n (.inr (.inr (.inr (.inl (x0, x1, x2, x3, x4, x5, x6, h))))) = some r → pw_F WX1_elementsAreRight h0 r) ∧ (∀ (x0 : Nat) (x1 : Int32) (x2 : Int32) (x3 : Int32) (x5 : Int32) (x6 : Int32) (h : pm_H), pw_F WX1_elementsAreRight h0 h → pm_iter sX1_elementsAreRight n (.inr (.inr (.inr (.inr (.inl (x0, x1, x2, x3, x5, x6, h)))))) = some r → pw_F WX1_elementsAreRight h0 r) ∧ (∀ (x0 : Nat) (x1 : Int32) (x2 : Int32) (x3 : Int32) (x5 : Int32) (x7 : Int32) (h : pm_H), pw_F WX1_elementsAreRight h0 h → pm_iter sX1_elementsAreRight n (.inr (.inr (.inr (.inr (.inr (x0, x1, x2, x3, x5, x7, h)))))) = some r → pw_F WX1_elementsAreRight h0 r) := by
  intro n
  induction n with
  | zero => exact ⟨fun _ _ _ _ hf => (by cases hf), fun _ _ _ _ _ _ _ _ hf => (by cases hf), fun _ _ _ _ _ _ _ _ _ _ hf => (by cases hf), fun _ _ _ _ _ _ _ _ _ hf => (by cases hf), fun _ _ _ _ _ _ _ _ hf => (by cases hf), fun _ _ _ _ _ _ _ _ hf => (by cases hf)⟩
  | succ n ih =>
    refine ⟨fun x0 x1 h K0 hf => ?_, ?_⟩
    · obtain ⟨y, hf, hi⟩ := pm_iter_s hf
      have hf : tX1_elementsAreRight_2 x0 x1 h = some y := hf
      unfold tX1_elementsAreRight_2 at hf
      obtain ⟨k1, hf⟩ := pm_if hf
      obtain ⟨v2, e3, hf⟩ := pm_bd hf
      obtain ⟨k4, hf⟩ := pm_if hf
      obtain ⟨v5, e6, hf⟩ := pm_bd hf
      obtain ⟨k7, hf⟩ := pm_if hf
      by_cases c8 : (Int32.ofNat (pm_ln h v5)) ≤ x1
      · have hf := pm_it hf c8
        cases hf
        cases hi
        exact K0
      · have hf := pm_ie hf c8
        by_cases c9 : (pm_I h x0 0) = 0
        · have hf := pm_it hf c9
          obtain ⟨v10, e11, hf⟩ := pm_bd hf
          obtain ⟨v12, e13, hf⟩ := pm_bd hf
          obtain ⟨v14, e15, hf⟩ := pm_bd hf
          obtain ⟨v16, e17, hf⟩ := pm_bd hf
          by_cases c18 : v16 = 0
          · have hf := pm_it hf c18
            cases hf
            exact ih.2.1 x0 x1 v10 v12 v14 0 h K0  hi
          · have hf := pm_ie hf c18
            cases hf
            exact ih.2.1 x0 x1 v10 v12 v14 1 h K0  hi
        · have hf := pm_ie hf c9
          cases hf
          cases hi
          exact K0
    refine ⟨fun x0 x1 x2 x3 x4 s0 h K0 hf => ?_, ?_⟩
    · obtain ⟨y, hf, hi⟩ := pm_iter_s hf
      have hf : tX1_elementsAreRight_86 x0 x1 x2 x3 x4 s0 h = some y := hf
      unfold tX1_elementsAreRight_86 at hf
      obtain ⟨k19, hf⟩ := pm_if hf
      obtain ⟨v20, e21, hf⟩ := pm_bd hf
      obtain ⟨k22, hf⟩ := pm_if hf
      obtain ⟨v23, e24, hf⟩ := pm_bd hf
      obtain ⟨v25, e26, hf⟩ := pm_bd hf
      by_cases c27 : v25 = 0
      · have hf := pm_it hf c27
        obtain ⟨v28, e29, hf⟩ := pm_bd hf
        obtain ⟨v30, e31, hf⟩ := pm_bd hf
        obtain ⟨k32, hf⟩ := pm_if hf
        obtain ⟨v33, e34, hf⟩ := pm_bd hf
        have K35 := pw_t (by decide) K0 (wfX9_open (pw_rf _) e34)
        cases hf
        exact ih.2.2.1 x0 x1 x2 x3 x4 s0 1 0 v33 K35  hi
      · have hf := pm_ie hf c27
        obtain ⟨v36, e37, hf⟩ := pm_bd hf
        obtain ⟨v38, e39, hf⟩ := pm_bd hf
        obtain ⟨k40, hf⟩ := pm_if hf
        obtain ⟨v41, e42, hf⟩ := pm_bd hf
        have K43 := pw_t (by decide) K0 (wfX9_open (pw_rf _) e42)
        cases hf
        exact ih.2.2.1 x0 x1 x2 x3 x4 s0 0 0 v41 K43  hi
    refine ⟨fun x0 x1 x2 x3 x4 x5 x6 x7 h K0 hf => ?_, ?_⟩
    · obtain ⟨y, hf, hi⟩ := pm_iter_s hf
      have hf : tX1_elementsAreRight_138 x0 x1 x2 x3 x4 x5 x6 x7 h = some y := hf
      unfold tX1_elementsAreRight_138 at hf
      by_cases c44 : x2 ≤ x7
      · have hf := pm_it hf c44
        cases hf
        exact ih.2.2.2.1 x0 x1 x2 x3 x4 x5 x6 h K0  hi
      · have hf := pm_ie hf c44
        by_cases c45 : x5 = 0
        · have hf := pm_it hf c45
          obtain ⟨k46, hf⟩ := pm_if hf
          obtain ⟨v47, e48, hf⟩ := pm_bd hf
          obtain ⟨k49, hf⟩ := pm_if hf
          obtain ⟨v50, e51, hf⟩ := pm_bd hf
          have K52 := pw_t (by decide) K0 (wfX9_number (pw_rf _) e51)
          obtain ⟨k53, hf⟩ := pm_if hf
          obtain ⟨v54, e55, hf⟩ := pm_bd hf
          obtain ⟨k56, hf⟩ := pm_if hf
          obtain ⟨v57, e58, hf⟩ := pm_bd hf
          by_cases c59 : v57 = 0
          · have hf := pm_it hf c59
            obtain ⟨v60, e61, hf⟩ := pm_bd hf
            have K62 := pw_t (by decide) K52 (wfX1_failSection (pw_rf _) e61)
            obtain ⟨k63, hf⟩ := pm_if hf
            obtain ⟨v64, e65, hf⟩ := pm_bd hf
            have K66 := pw_t (by decide) K62 (wfX1_declare (pw_rf _) e65)
            obtain ⟨y67, e68, hf⟩ := pm_lt hf
            cases hf
            exact ih.2.2.1 x0 x1 x2 x3 x4 x5 x6 y67 v64 K66  hi
          · have hf := pm_ie hf c59
            obtain ⟨v69, e70, hf⟩ := pm_bd hf
            have K71 := pw_t (by decide) K52 (wfX1_declare (pw_rf _) e70)
            obtain ⟨y72, e73, hf⟩ := pm_lt hf
            cases hf
            exact ih.2.2.1 x0 x1 x2 x3 x4 x5 x6 y72 v69 K71  hi
        · have hf := pm_ie hf c45
          cases hf
          exact ih.2.2.2.1 x0 x1 x2 x3 x4 x5 x6 h K0  hi
    refine ⟨fun x0 x1 x2 x3 x4 x5 x6 h K0 hf => ?_, ?_⟩
    · obtain ⟨y, hf, hi⟩ := pm_iter_s hf
      have hf : tX1_elementsAreRight_193 x0 x1 x2 x3 x4 x5 x6 h = some y := hf
      unfold tX1_elementsAreRight_193 at hf
      by_cases c74 : x6 = 0
      · have hf := pm_it hf c74
        cases hf
        exact ih.2.2.2.2.1 x0 x1 x2 x3 x5 x6 h K0  hi
      · have hf := pm_ie hf c74
        obtain ⟨k75, hf⟩ := pm_if hf
        obtain ⟨v76, e77, hf⟩ := pm_bd hf
        obtain ⟨k78, hf⟩ := pm_if hf
        obtain ⟨v79, e80, hf⟩ := pm_bd hf
        by_cases c81 : v79 = 0
        · have hf := pm_it hf c81
          obtain ⟨v82, e83, hf⟩ := pm_bd hf
          have K84 := pw_t (by decide) K0 (wfX1_failSection (pw_rf _) e83)
          cases hf
          exact ih.2.2.2.2.1 x0 x1 x2 x3 x5 x6 v82 K84  hi
        · have hf := pm_ie hf c81
          obtain ⟨v85, e86, hf⟩ := pm_bd hf
          by_cases c87 : v85 = x3.toInt64
          · have hf := pm_it hf c87
            cases hf
            exact ih.2.2.2.2.1 x0 x1 x2 x3 x5 x6 h K0  hi
          · have hf := pm_ie hf c87
            obtain ⟨v88, e89, hf⟩ := pm_bd hf
            have K90 := pw_t (by decide) K0 (wfX1_failSection (pw_rf _) e89)
            cases hf
            exact ih.2.2.2.2.1 x0 x1 x2 x3 x5 x6 v88 K90  hi
    refine ⟨fun x0 x1 x2 x3 x5 x6 h K0 hf => ?_, ?_⟩
    · obtain ⟨y, hf, hi⟩ := pm_iter_s hf
      have hf : tX1_elementsAreRight_237 x0 x1 x2 x3 x5 x6 h = some y := hf
      unfold tX1_elementsAreRight_237 at hf
      obtain ⟨k91, hf⟩ := pm_if hf
      obtain ⟨v92, e93, hf⟩ := pm_bd hf
      obtain ⟨v94, e95, hf⟩ := pm_bd hf
      obtain ⟨k96, hf⟩ := pm_if hf
      obtain ⟨v97, e98, hf⟩ := pm_bd hf
      obtain ⟨v99, e100, hf⟩ := pm_bd hf
      obtain ⟨k101, hf⟩ := pm_if hf
      obtain ⟨v102, e103, hf⟩ := pm_bd hf
      have K104 := pw_t (by decide) K0 (wfX9_open (pw_rf _) e103)
      by_cases c105 : x6 = 0
      · have hf := pm_it hf c105
        obtain ⟨k106, hf⟩ := pm_if hf
        obtain ⟨v107, e108, hf⟩ := pm_bd hf
        obtain ⟨v109, e110, hf⟩ := pm_bd hf
        obtain ⟨k111, hf⟩ := pm_if hf
        obtain ⟨v112, e113, hf⟩ := pm_bd hf
        obtain ⟨v114, e115, hf⟩ := pm_bd hf
        obtain ⟨k116, hf⟩ := pm_if hf
        obtain ⟨v117, e118, hf⟩ := pm_bd hf
        have K119 := pw_t (by decide) K104 (wfX9_open (pw_rf _) e118)
        cases hf
        exact ih.2.2.2.2.2 x0 x1 x2 x3 x5 0 v117 K119  hi
      · have hf := pm_ie hf c105
        obtain ⟨k120, hf⟩ := pm_if hf
        obtain ⟨v121, e122, hf⟩ := pm_bd hf
        have K123 := pw_t (by decide) K104 (wfX1_constant (pw_rf _) e122)
        obtain ⟨k124, hf⟩ := pm_if hf
        obtain ⟨v125, e126, hf⟩ := pm_bd hf
        obtain ⟨v127, e128, hf⟩ := pm_bd hf
        obtain ⟨k129, hf⟩ := pm_if hf
        obtain ⟨v130, e131, hf⟩ := pm_bd hf
        obtain ⟨v132, e133, hf⟩ := pm_bd hf
        obtain ⟨k134, hf⟩ := pm_if hf
        obtain ⟨v135, e136, hf⟩ := pm_bd hf
        have K137 := pw_t (by decide) K123 (wfX9_open (pw_rf _) e136)
        cases hf
        exact ih.2.2.2.2.2 x0 x1 x2 x3 x5 0 v135 K137  hi
    refine fun x0 x1 x2 x3 x5 x7 h K0 hf => ?_
    obtain ⟨y, hf, hi⟩ := pm_iter_s hf
    have hf : tX1_elementsAreRight_299 x0 x1 x2 x3 x5 x7 h = some y := hf
    unfold tX1_elementsAreRight_299 at hf
    by_cases c138 : x2 ≤ x7
    · have hf := pm_it hf c138
      obtain ⟨y139, e140, hf⟩ := pm_lt hf
      cases hf
      exact ih.1 x0 y139 h K0  hi
    · have hf := pm_ie hf c138
      by_cases c141 : x5 = 0
      · have hf := pm_it hf c141
        obtain ⟨y142, e143, hf⟩ := pm_lt hf
        cases hf
        exact ih.1 x0 y142 h K0  hi
      · have hf := pm_ie hf c141
        obtain ⟨k144, hf⟩ := pm_if hf
        by_cases c145 : (pm_I h x0 0) = 0
        · have hf := pm_it hf c145
          obtain ⟨v146, e147, hf⟩ := pm_bd hf
          have K148 := pw_t (by decide) K0 (wfX1_constant (pw_rf _) e147)
          obtain ⟨y149, e150, hf⟩ := pm_lt hf
          cases hf
          exact ih.2.2.2.2.2 x0 x1 x2 x3 x5 y149 v146 K148  hi
        · have hf := pm_ie hf c145
          obtain ⟨y151, e152, hf⟩ := pm_lt hf
          cases hf
          exact ih.1 x0 y151 h K0  hi
set_option maxHeartbeats 4000000 in
set_option maxRecDepth 100000 in
theorem wfX1_elementsAreRight {h0 h : pm_H} (K0 : pw_F WX1_elementsAreRight h0 h) {a0 : Nat}  {r : pm_H} (hf : fX1_elementsAreRight h a0 = some r) : pw_F WX1_elementsAreRight h0 r := by
  unfold fX1_elementsAreRight at hf
  obtain ⟨n, hn⟩ := pm_lim_iter hf
  exact (wlX1_elementsAreRight n).1 a0 0 h K0  hn
abbrev WX1_globalsAreRight : List Nat := [128, 129, 1152, 1153, 1154, 1155, 1156, 1157, 1158, 1159, 1160, 1161, 1168, 4096]
set_option maxHeartbeats 4000000 in
set_option maxRecDepth 100000 in
theorem wlX1_globalsAreRight {h0 : pm_H} {r : pm_H} : ∀ n : Nat, (∀ (x0 : Nat) (x1 : Int32) (h : pm_H), pw_F WX1_globalsAreRight h0 h → pm_iter sX1_globalsAreRight n (x0, x1, h) = some r → pw_F WX1_globalsAreRight h0 r) := by
  intro n
  induction n with
  | zero => exact fun _ _ _ _ hf => (by cases hf)
  | succ n ih =>
    refine fun x0 x1 h K0 hf => ?_
    obtain ⟨y, hf, hi⟩ := pm_iter_s hf
    have hf : tX1_globalsAreRight_9 x0 x1 h = some y := hf
    unfold tX1_globalsAreRight_9 at hf
    obtain ⟨k7, hf⟩ := pm_if hf
    obtain ⟨v8, e9, hf⟩ := pm_bd hf
    obtain ⟨k10, hf⟩ := pm_if hf
    obtain ⟨v11, e12, hf⟩ := pm_bd hf
    by_cases c13 : v11 ≤ x1
    · have hf := pm_it hf c13
      cases hf
      cases hi
      exact K0
    · have hf := pm_ie hf c13
      by_cases c14 : (pm_I h x0 0) = 0
      · have hf := pm_it hf c14
        obtain ⟨v15, e16, hf⟩ := pm_bd hf
        obtain ⟨v17, e18, hf⟩ := pm_bd hf
        obtain ⟨k19, hf⟩ := pm_if hf
        obtain ⟨v20, e21, hf⟩ := pm_bd hf
        have K22 := pw_t (by decide) K0 (wfX9_open (pw_rf _) e21)
        obtain ⟨k23, hf⟩ := pm_if hf
        obtain ⟨v24, e25, hf⟩ := pm_bd hf
        obtain ⟨k26, hf⟩ := pm_if hf
        obtain ⟨v27, e28, hf⟩ := pm_bd hf
        obtain ⟨v29, e30, hf⟩ := pm_bd hf
        have K31 := pw_t (by decide) K22 (wfX1_constant (pw_rf _) e30)
        obtain ⟨y32, e33, hf⟩ := pm_lt hf
        cases hf
        exact ih x0 y32 v29 K31  hi
      · have hf := pm_ie hf c14
        cases hf
        cases hi
        exact K0
set_option maxHeartbeats 4000000 in
set_option maxRecDepth 100000 in
theorem wfX1_globalsAreRight {h0 h : pm_H} (K0 : pw_F WX1_globalsAreRight h0 h) {a0 : Nat}  {r : pm_H} (hf : fX1_globalsAreRight h a0 = some r) : pw_F WX1_globalsAreRight h0 r := by
  unfold fX1_globalsAreRight at hf
  obtain ⟨k1, hf⟩ := pm_if hf
  obtain ⟨v2, e3, hf⟩ := pm_bd hf
  obtain ⟨k4, hf⟩ := pm_if hf
  obtain ⟨v5, e6, hf⟩ := pm_bd hf
  obtain ⟨n, hn⟩ := pm_lim_iter hf
  exact (wlX1_globalsAreRight n) a0 v5 h K0  hn
abbrev WX9_expression : List Nat := [1153, 1155, 1156, 1157, 1158, 1159, 1160, 1161, 4096]
set_option maxHeartbeats 4000000 in
set_option maxRecDepth 100000 in
theorem wlX9_expression {h0 : pm_H} {r : pm_H} : ∀ n : Nat, (∀ (x0 : Nat) (x1 : Int32) (x2 : Int32) (h : pm_H), pw_F WX9_expression h0 h → pm_iter sX9_expression n (.inl (x0, x1, x2, h)) = some r → pw_F WX9_expression h0 r) ∧ (∀ (x0 : Nat) (x1 : Int32) (x2 : Int32) (h : pm_H), pw_F WX9_expression h0 h → pm_iter sX9_expression n (.inr (.inl (x0, x1, x2, h))) = some r → pw_F WX9_expression h0 r) ∧ (∀ (x0 : Nat) (x1 : Int32) (x2 : Int32) (h : pm_H), pw_F WX9_expression h0 h → pm_iter sX9_expression n (.inr (.inr (x0, x1, x2, h))) = some r → pw_F WX9_expression h0 r) := by
  intro n
  induction n with
  | zero => exact ⟨fun _ _ _ _ _ hf => (by cases hf), fun _ _ _ _ _ hf => (by cases hf), fun _ _ _ _ _ hf => (by cases hf)⟩
  | succ n ih =>
    refine ⟨fun x0 x1 x2 h K0 hf => ?_, ?_⟩
    · obtain ⟨y, hf, hi⟩ := pm_iter_s hf
      have hf : tX9_expression_11 x0 x1 x2 h = some y := hf
      unfold tX9_expression_11 at hf
      obtain ⟨k6, hf⟩ := pm_if hf
      obtain ⟨v7, e8, hf⟩ := pm_bd hf
      obtain ⟨k9, hf⟩ := pm_if hf
      obtain ⟨v10, e11, hf⟩ := pm_bd hf
      obtain ⟨k12, hf⟩ := pm_if hf
      by_cases c13 : (Int32.ofNat (pm_ln h v10)) < x2
      · have hf := pm_it hf c13
        cases hf
        cases hi
        exact K0
      · have hf := pm_ie hf c13
        by_cases c14 : x1 < 0
        · have hf := pm_it hf c14
          cases hf
          cases hi
          exact K0
        · have hf := pm_ie hf c14
          by_cases c15 : (pm_I h x0 3) = 0
          · have hf := pm_it hf c15
            obtain ⟨v16, e17, hf⟩ := pm_bd hf
            have K18 := pw_t (by decide) K0 (wfX9_instruction (pw_rf _) e17)
            obtain ⟨k19, hf⟩ := pm_if hf
            by_cases c20 : (pm_I v16 x0 6) = 11
            · have hf := pm_it hf c20
              obtain ⟨y21, e22, hf⟩ := pm_lt hf
              cases hf
              exact ih.2.1 x0 y21 x2 v16 K18  hi
            · have hf := pm_ie hf c20
              cases hf
              exact ih.2.1 x0 x1 x2 v16 K18  hi
          · have hf := pm_ie hf c15
            cases hf
            cases hi
            exact K0
    refine ⟨fun x0 x1 x2 h K0 hf => ?_, ?_⟩
    · obtain ⟨y, hf, hi⟩ := pm_iter_s hf
      have hf : tX9_expression_50 x0 x1 x2 h = some y := hf
      unfold tX9_expression_50 at hf
      obtain ⟨k23, hf⟩ := pm_if hf
      by_cases c24 : (pm_I h x0 6) = 5
      · have hf := pm_it hf c24
        by_cases c25 : x1 < 0
        · have hf := pm_it hf c25
          cases hf
          exact ih.2.2 x0 x1 x2 h K0  hi
        · have hf := pm_ie hf c25
          obtain ⟨v26, e27, hf⟩ := pm_bd hf
          obtain ⟨k28, hf⟩ := pm_if hf
          by_cases c29 : (Int32.ofNat (pm_ln h v26)) ≤ x1
          · have hf := pm_it hf c29
            cases hf
            exact ih.2.2 x0 x1 x2 h K0  hi
          · have hf := pm_ie hf c29
            obtain ⟨u30, hf⟩ := pm_if hf
            by_cases c31 : (pm_I h v26 x1.toNatClampNeg) = 0
            · have hf := pm_it hf c31
              obtain ⟨v32, e33, hf⟩ := pm_bd hf
              have K34 := pw_t (by decide) K0 (wfX9_fail (pw_rf _) e33)
              obtain ⟨k35, hf⟩ := pm_if hf
              obtain ⟨v36, e37, hf⟩ := pm_bd hf
              obtain ⟨k38, hf⟩ := pm_if hf
              obtain ⟨u39, hf⟩ := pm_if hf
              cases hf
              exact ih.2.2 x0 x1 x2 (pm_setI v32 v36 x1.toNatClampNeg (vp_nar .boolean 0)) (pw_aI K34 rfl k38 (by decide) (by decide))  hi
            · have hf := pm_ie hf c31
              obtain ⟨u40, hf⟩ := pm_if hf
              cases hf
              exact ih.2.2 x0 x1 x2 (pm_setI h v26 x1.toNatClampNeg (vp_nar .boolean 0)) (pw_aI K0 rfl k28 (by decide) (by decide))  hi
      · have hf := pm_ie hf c24
        cases hf
        exact ih.2.2 x0 x1 x2 h K0  hi
    refine fun x0 x1 x2 h K0 hf => ?_
    obtain ⟨y, hf, hi⟩ := pm_iter_s hf
    have hf : tX9_expression_97 x0 x1 x2 h = some y := hf
    unfold tX9_expression_97 at hf
    obtain ⟨k41, hf⟩ := pm_if hf
    by_cases c42 : (pm_I h x0 6) < 2
    · have hf := pm_it hf c42
      obtain ⟨y43, e44, hf⟩ := pm_lt hf
      cases hf
      exact ih.1 x0 x1 y43 h K0  hi
    · have hf := pm_ie hf c42
      by_cases c45 : 4 < (pm_I h x0 6)
      · have hf := pm_it hf c45
        obtain ⟨y46, e47, hf⟩ := pm_lt hf
        cases hf
        exact ih.1 x0 x1 y46 h K0  hi
      · have hf := pm_ie hf c45
        by_cases c48 : (pm_I h x0 3) = 0
        · have hf := pm_it hf c48
          obtain ⟨y49, e50, hf⟩ := pm_lt hf
          obtain ⟨v51, e52, hf⟩ := pm_bd hf
          obtain ⟨k53, hf⟩ := pm_if hf
          by_cases c54 : (Int32.ofNat (pm_ln h v51)) ≤ y49
          · have hf := pm_it hf c54
            obtain ⟨y55, e56, hf⟩ := pm_lt hf
            cases hf
            exact ih.1 x0 y49 y55 h K0  hi
          · have hf := pm_ie hf c54
            by_cases c57 : (pm_I h x0 6) = 4
            · have hf := pm_it hf c57
              obtain ⟨u58, hf⟩ := pm_if hf
              obtain ⟨y59, e60, hf⟩ := pm_lt hf
              cases hf
              exact ih.1 x0 y49 y59 (pm_setI h v51 y49.toNatClampNeg (vp_nar .boolean 1)) (pw_aI K0 rfl k53 (by decide) (by decide))  hi
            · have hf := pm_ie hf c57
              obtain ⟨u61, hf⟩ := pm_if hf
              obtain ⟨y62, e63, hf⟩ := pm_lt hf
              cases hf
              exact ih.1 x0 y49 y62 (pm_setI h v51 y49.toNatClampNeg (vp_nar .boolean 0)) (pw_aI K0 rfl k53 (by decide) (by decide))  hi
        · have hf := pm_ie hf c48
          obtain ⟨y64, e65, hf⟩ := pm_lt hf
          cases hf
          exact ih.1 x0 x1 y64 h K0  hi
set_option maxHeartbeats 4000000 in
set_option maxRecDepth 100000 in
theorem wfX9_expression {h0 h : pm_H} (K0 : pw_F WX9_expression h0 h) {a0 : Nat}  {r : pm_H} (hf : fX9_expression h a0 = some r) : pw_F WX9_expression h0 r := by
  unfold fX9_expression at hf
  obtain ⟨k1, hf⟩ := pm_if hf
  obtain ⟨v2, e3, hf⟩ := pm_bd hf
  obtain ⟨k4, hf⟩ := pm_if hf
  obtain ⟨u5, hf⟩ := pm_if hf
  obtain ⟨n, hn⟩ := pm_lim_iter hf
  exact (wlX9_expression n).1 a0 0 0 (pm_setI h v2 ((0 : Int32).toNatClampNeg) (vp_nar .boolean 0)) (pw_aI K0 rfl k4 (by decide) (by decide))  hn
abbrev WX9_own : List Nat := [1153, 1155, 1156, 1157, 1158, 1159, 1160, 1161, 4096, 4480]
set_option maxHeartbeats 4000000 in
set_option maxRecDepth 100000 in
theorem wfX9_own {h0 h : pm_H} (K0 : pw_F WX9_own h0 h) {a0 : Nat} {p1 : Int32}  {r : pm_H} (hf : fX9_own h a0 p1 = some r) : pw_F WX9_own h0 r := by
  unfold fX9_own at hf
  obtain ⟨k1, hf⟩ := pm_if hf
  obtain ⟨y2, e3, hf⟩ := pm_lt hf
  obtain ⟨v4, e5, hf⟩ := pm_bd hf
  obtain ⟨k6, hf⟩ := pm_if hf
  obtain ⟨v7, e8, hf⟩ := pm_bd hf
  obtain ⟨v9, e10, hf⟩ := pm_bd hf
  have K11 := pw_t (by decide) K0 (wfX9_describe (pw_rf _) e10)
  by_cases c12 : p1 = 3
  · have hf := pm_it hf c12
    obtain ⟨k13, hf⟩ := pm_if hf
    obtain ⟨v14, e15, hf⟩ := pm_bd hf
    obtain ⟨k16, hf⟩ := pm_if hf
    obtain ⟨v17, e18, hf⟩ := pm_bd hf
    obtain ⟨v19, e20, hf⟩ := pm_bd hf
    have K21 := pw_t (by decide) K11 (wfX12_setItem_ (pw_rf _) e20)
    obtain ⟨k22, hf⟩ := pm_if hf
    obtain ⟨v23, e24, hf⟩ := pm_bd hf
    have K25 := pw_t (by decide) K21 (wfX9_expression (pw_rf _) e24)
    cases hf
    exact K25
  · have hf := pm_ie hf c12
    cases hf
    exact K11
abbrev WX10_addGlobal : List Nat := [1152, 1153, 1154, 1155, 1156, 1157, 1158, 1159, 1160, 1161, 1168, 1289, 4096, 4352, 4480]
set_option maxHeartbeats 4000000 in
set_option maxRecDepth 100000 in
theorem wfX10_addGlobal {h0 h : pm_H} (K0 : pw_F WX10_addGlobal h0 h) {a0 : Nat} {p1 : Nat} {p2 : Int32}  {r : (Int32 × pm_H)} (hf : fX10_addGlobal h a0 p1 p2 = some r) : pw_F WX10_addGlobal h0 r.2 := by
  unfold fX10_addGlobal at hf
  obtain ⟨k1, hf⟩ := pm_if hf
  obtain ⟨y2, e3, hf⟩ := pm_lt hf
  by_cases c4 : y2 < 256
  · have hf := pm_it hf c4
    obtain ⟨v5, e6, hf⟩ := pm_bd hf
    obtain ⟨k7, hf⟩ := pm_if hf
    obtain ⟨v8, e9, hf⟩ := pm_bd hf
    obtain ⟨k10, hf⟩ := pm_if hf
    obtain ⟨v11, e12, hf⟩ := pm_bd hf
    obtain ⟨k13, hf⟩ := pm_if hf
    obtain ⟨u14, hf⟩ := pm_if hf
    obtain ⟨v15, e16, hf⟩ := pm_bd hf
    obtain ⟨v17, e18, hf⟩ := pm_bd hf
    by_cases c19 : v17 = 1
    · have hf := pm_it hf c19
      obtain ⟨k20, hf⟩ := pm_if hf
      have k20b := (congrFun (pkI rfl) v15).symm.trans k20
      obtain ⟨u21, hf⟩ := pm_if hf
      obtain ⟨v22, e23, hf⟩ := pm_bd hf
      obtain ⟨v24, e25, hf⟩ := pm_bd hf
      obtain ⟨k26, hf⟩ := pm_if hf
      have k26b := (congrFun (pkI (pkI rfl)) v22).symm.trans k26
      obtain ⟨v27, e28, hf⟩ := pm_bd hf
      have K29 := pw_t (by decide) (pw_aI (pw_aI K0 rfl k13 (by decide) (by decide)) (pkI rfl) k20b (by decide) (by decide)) (wfX9_open (pw_rf _) e28)
      obtain ⟨k30, hf⟩ := pm_if hf
      obtain ⟨v31, e32, hf⟩ := pm_bd hf
      obtain ⟨v33, e34, hf⟩ := pm_bd hf
      have K35 := pw_t (by decide) K29 (wfX10_constant (pw_rf _) e34)
      obtain ⟨k36, hf⟩ := pm_if hf
      obtain ⟨u37, hf⟩ := pm_if hf
      obtain ⟨k38, hf⟩ := pm_if hf
      have k38b := (congrFun (pkL rfl) a0).symm.trans k38
      obtain ⟨y39, e40, hf⟩ := pm_lt hf
      cases hf
      exact (pw_sI (pw_aL K35 rfl k36 (by decide) (by decide)) (pkL rfl) k38b (by decide))
    · have hf := pm_ie hf c19
      obtain ⟨k41, hf⟩ := pm_if hf
      have k41b := (congrFun (pkI rfl) v15).symm.trans k41
      obtain ⟨u42, hf⟩ := pm_if hf
      obtain ⟨v43, e44, hf⟩ := pm_bd hf
      obtain ⟨v45, e46, hf⟩ := pm_bd hf
      obtain ⟨k47, hf⟩ := pm_if hf
      have k47b := (congrFun (pkI (pkI rfl)) v43).symm.trans k47
      obtain ⟨v48, e49, hf⟩ := pm_bd hf
      have K50 := pw_t (by decide) (pw_aI (pw_aI K0 rfl k13 (by decide) (by decide)) (pkI rfl) k41b (by decide) (by decide)) (wfX9_open (pw_rf _) e49)
      obtain ⟨k51, hf⟩ := pm_if hf
      obtain ⟨v52, e53, hf⟩ := pm_bd hf
      obtain ⟨v54, e55, hf⟩ := pm_bd hf
      have K56 := pw_t (by decide) K50 (wfX10_constant (pw_rf _) e55)
      obtain ⟨k57, hf⟩ := pm_if hf
      obtain ⟨u58, hf⟩ := pm_if hf
      obtain ⟨k59, hf⟩ := pm_if hf
      have k59b := (congrFun (pkL rfl) a0).symm.trans k59
      obtain ⟨y60, e61, hf⟩ := pm_lt hf
      cases hf
      exact (pw_sI (pw_aL K56 rfl k57 (by decide) (by decide)) (pkL rfl) k59b (by decide))
  · have hf := pm_ie hf c4
    cases hf
    exact K0
abbrev WX9_body : List Nat := [1153, 1154, 1155, 1156, 1157, 1158, 1159, 1160, 1161, 1168, 4096, 4352]
set_option maxHeartbeats 4000000 in
set_option maxRecDepth 100000 in
theorem wlX9_body {h0 : pm_H} {r : pm_H} : ∀ n : Nat, (∀ (x0 : Nat) (x2 : Int64) (h : pm_H), pw_F WX9_body h0 h → pm_iter sX9_body n (.inl (x0, x2, h)) = some r → pw_F WX9_body h0 r) ∧ (∀ (x0 : Nat) (x4 : Int32) (x5 : Int32) (x6 : Int64) (x8 : Int64) (x10 : Int64) (h : pm_H), pw_F WX9_body h0 h → pm_iter sX9_body n (.inr (.inl (x0, x4, x5, x6, x8, x10, h))) = some r → pw_F WX9_body h0 r) ∧ (∀ (x0 : Nat) (x4 : Int32) (x5 : Int32) (x8 : Int64) (h : pm_H), pw_F WX9_body h0 h → pm_iter sX9_body n (.inr (.inr (.inl (x0, x4, x5, x8, h)))) = some r → pw_F WX9_body h0 r) ∧ (∀ (x0 : Nat) (x4 : Int32) (x8 : Int64) (h : pm_H), pw_F WX9_body h0 h → pm_iter sX9_body n (.inr (.inr (.inr (x0, x4, x8, h)))) = some r → pw_F WX9_body h0 r) := by
  intro n
  induction n with
  | zero => exact ⟨fun _ _ _ _ hf => (by cases hf), fun _ _ _ _ _ _ _ _ hf => (by cases hf), fun _ _ _ _ _ _ hf => (by cases hf), fun _ _ _ _ _ hf => (by cases hf)⟩
  | succ n ih =>
    refine ⟨fun x0 x2 h K0 hf => ?_, ?_⟩
    · obtain ⟨y, hf, hi⟩ := pm_iter_s hf
      have hf : tX9_body_33 x0 x2 h = some y := hf
      unfold tX9_body_33 at hf
      obtain ⟨k12, hf⟩ := pm_if hf
      by_cases c13 : (pm_I h x0 3) = 0
      · have hf := pm_it hf c13
        obtain ⟨y14, e15, hf⟩ := pm_lt hf
        obtain ⟨y16, e17, hf⟩ := pm_lt hf
        obtain ⟨y18, e19, hf⟩ := pm_lt hf
        obtain ⟨v20, e21, hf⟩ := pm_bd hf
        obtain ⟨k22, hf⟩ := pm_if hf
        have k22b := (congrFun (pkI rfl) v20).symm.trans k22
        obtain ⟨v23, e24, hf⟩ := pm_bd hf
        obtain ⟨v25, e26, hf⟩ := pm_bd hf
        have K27 := pw_t (by decide) (pw_sI K0 rfl k12 (by decide)) (wfX12_setItem (pw_rf _) e26)
        obtain ⟨k28, hf⟩ := pm_if hf
        obtain ⟨v29, e30, hf⟩ := pm_bd hf
        obtain ⟨k31, hf⟩ := pm_if hf
        obtain ⟨v32, e33, hf⟩ := pm_bd hf
        obtain ⟨v34, e35, hf⟩ := pm_bd hf
        have K36 := pw_t (by decide) K27 (wfX12_setItem (pw_rf _) e35)
        obtain ⟨k37, hf⟩ := pm_if hf
        obtain ⟨v38, e39, hf⟩ := pm_bd hf
        have K40 := pw_t (by decide) K36 (wfX9_number (pw_rf _) e39)
        cases hf
        exact ih.2.1 x0 y14 y16 v38.1 0 0 v38.2 K40  hi
      · have hf := pm_ie hf c13
        cases hf
        cases hi
        exact K0
    refine ⟨fun x0 x4 x5 x6 x8 x10 h K0 hf => ?_, ?_⟩
    · obtain ⟨y, hf, hi⟩ := pm_iter_s hf
      have hf : tX9_body_118 x0 x4 x5 x6 x8 x10 h = some y := hf
      unfold tX9_body_118 at hf
      by_cases c41 : x6 ≤ x10
      · have hf := pm_it hf c41
        cases hf
        exact ih.2.2.1 x0 x4 x5 x8 h K0  hi
      · have hf := pm_ie hf c41
        obtain ⟨k42, hf⟩ := pm_if hf
        by_cases c43 : (pm_I h x0 3) = 0
        · have hf := pm_it hf c43
          obtain ⟨v44, e45, hf⟩ := pm_bd hf
          have K46 := pw_t (by decide) K0 (wfX9_number (pw_rf _) e45)
          obtain ⟨y47, e48, hf⟩ := pm_lt hf
          obtain ⟨k49, hf⟩ := pm_if hf
          obtain ⟨v50, e51, hf⟩ := pm_bd hf
          have K52 := pw_t (by decide) K46 (wfX9_valueType (pw_rf _) e51)
          obtain ⟨y53, e54, hf⟩ := pm_lt hf
          cases hf
          exact ih.2.1 x0 x4 x5 x6 y47 y53 v50.2 K52  hi
        · have hf := pm_ie hf c43
          cases hf
          exact ih.2.2.1 x0 x4 x5 x8 h K0  hi
    refine ⟨fun x0 x4 x5 x8 h K0 hf => ?_, ?_⟩
    · obtain ⟨y, hf, hi⟩ := pm_iter_s hf
      have hf : tX9_body_158 x0 x4 x5 x8 h = some y := hf
      unfold tX9_body_158 at hf
      by_cases c55 : x8 ≤ 4294967295
      · have hf := pm_it hf c55
        cases hf
        exact ih.2.2.2 x0 x4 x8 h K0  hi
      · have hf := pm_ie hf c55
        obtain ⟨k56, hf⟩ := pm_if hf
        obtain ⟨v57, e58, hf⟩ := pm_bd hf
        have K59 := pw_t (by decide) K0 (wfX9_fail (pw_rf _) e58)
        cases hf
        exact ih.2.2.2 x0 x4 x8 v57 K59  hi
    refine fun x0 x4 x8 h K0 hf => ?_
    obtain ⟨y, hf, hi⟩ := pm_iter_s hf
    have hf : tX9_body_175 x0 x4 x8 h = some y := hf
    unfold tX9_body_175 at hf
    by_cases c60 : x8 ≤ 1000
    · have hf := pm_it hf c60
      obtain ⟨k61, hf⟩ := pm_if hf
      obtain ⟨v62, e63, hf⟩ := pm_bd hf
      have K64 := pw_t (by decide) (pw_sI K0 rfl k61 (by decide)) (wfX9_expression (pw_rf _) e63)
      obtain ⟨k65, hf⟩ := pm_if hf
      by_cases c66 : (pm_I (pm_setI v62 x0 16 0) x0 2) ≤ (pm_I (pm_setI v62 x0 16 0) x0 1)
      · have hf := pm_it hf c66
        cases hf
        cases hi
        exact (pw_sI (pw_sI K64 rfl k65 (by decide)) (pkI rfl) k65 (by decide))
      · have hf := pm_ie hf c66
        obtain ⟨v67, e68, hf⟩ := pm_bd hf
        have K69 := pw_t (by decide) (pw_sI K64 rfl k65 (by decide)) (wfX9_fail (pw_rf _) e68)
        obtain ⟨k70, hf⟩ := pm_if hf
        cases hf
        cases hi
        exact (pw_sI K69 rfl k70 (by decide))
    · have hf := pm_ie hf c60
      obtain ⟨k71, hf⟩ := pm_if hf
      obtain ⟨v72, e73, hf⟩ := pm_bd hf
      have K74 := pw_t (by decide) K0 (wfX9_exceedLimit (pw_rf _) e73)
      obtain ⟨k75, hf⟩ := pm_if hf
      obtain ⟨v76, e77, hf⟩ := pm_bd hf
      have K78 := pw_t (by decide) (pw_sI K74 rfl k75 (by decide)) (wfX9_expression (pw_rf _) e77)
      obtain ⟨k79, hf⟩ := pm_if hf
      by_cases c80 : (pm_I (pm_setI v76 x0 16 0) x0 2) ≤ (pm_I (pm_setI v76 x0 16 0) x0 1)
      · have hf := pm_it hf c80
        cases hf
        cases hi
        exact (pw_sI (pw_sI K78 rfl k79 (by decide)) (pkI rfl) k79 (by decide))
      · have hf := pm_ie hf c80
        obtain ⟨v81, e82, hf⟩ := pm_bd hf
        have K83 := pw_t (by decide) (pw_sI K78 rfl k79 (by decide)) (wfX9_fail (pw_rf _) e82)
        obtain ⟨k84, hf⟩ := pm_if hf
        cases hf
        cases hi
        exact (pw_sI K83 rfl k84 (by decide))
set_option maxHeartbeats 4000000 in
set_option maxRecDepth 100000 in
theorem wfX9_body {h0 h : pm_H} (K0 : pw_F WX9_body h0 h) {a0 : Nat}  {r : pm_H} (hf : fX9_body h a0 = some r) : pw_F WX9_body h0 r := by
  unfold fX9_body at hf
  obtain ⟨k1, hf⟩ := pm_if hf
  obtain ⟨y2, e3, hf⟩ := pm_lt hf
  obtain ⟨v4, e5, hf⟩ := pm_bd hf
  have K6 := pw_t (by decide) K0 (wfX9_number (pw_rf _) e5)
  obtain ⟨k7, hf⟩ := pm_if hf
  by_cases c8 : v4.1 ≤ (((pm_I v4.2 a0 2) - (pm_I v4.2 a0 1)).toInt64)
  · have hf := pm_it hf c8
    obtain ⟨n, hn⟩ := pm_lim_iter hf
    exact (wlX9_body n).1 a0 v4.1 v4.2 K6  hn
  · have hf := pm_ie hf c8
    obtain ⟨v9, e10, hf⟩ := pm_bd hf
    have K11 := pw_t (by decide) K6 (wfX9_fail (pw_rf _) e10)
    obtain ⟨n, hn⟩ := pm_lim_iter hf
    exact (wlX9_body n).1 a0 v4.1 v9 K11  hn
abbrev WX9_dataOne : List Nat := [1153, 1155, 1156, 1157, 1158, 1159, 1160, 1161, 4096, 4352]
set_option maxHeartbeats 4000000 in
set_option maxRecDepth 100000 in
theorem wfX9_dataOne_b89 {h0 h : pm_H} (K0 : pw_F WX9_dataOne h0 h) {x0 : Nat} {x1 : Int32} {x3 : Int64}  {r : pm_H} (hf : fX9_dataOne_b89 h x0 x1 x3 = some r) : pw_F WX9_dataOne h0 r := by
  unfold fX9_dataOne_b89 at hf
  obtain ⟨k39, hf⟩ := pm_if hf
  obtain ⟨v40, e41, hf⟩ := pm_bd hf
  obtain ⟨k42, hf⟩ := pm_if hf
  obtain ⟨v43, e44, hf⟩ := pm_bd hf
  obtain ⟨v45, e46, hf⟩ := pm_bd hf
  have K47 := pw_t (by decide) K0 (wfX12_setItem (pw_rf _) e46)
  by_cases c48 : x3 = 1
  · have hf := pm_it hf c48
    obtain ⟨k49, hf⟩ := pm_if hf
    obtain ⟨v50, e51, hf⟩ := pm_bd hf
    have K52 := pw_t (by decide) K47 (wfX9_number (pw_rf _) e51)
    obtain ⟨k53, hf⟩ := pm_if hf
    obtain ⟨v54, e55, hf⟩ := pm_bd hf
    obtain ⟨k56, hf⟩ := pm_if hf
    obtain ⟨v57, e58, hf⟩ := pm_bd hf
    obtain ⟨v59, e60, hf⟩ := pm_bd hf
    have K61 := pw_t (by decide) K52 (wfX12_setItem (pw_rf _) e60)
    obtain ⟨k62, hf⟩ := pm_if hf
    obtain ⟨v63, e64, hf⟩ := pm_bd hf
    obtain ⟨k65, hf⟩ := pm_if hf
    obtain ⟨v66, e67, hf⟩ := pm_bd hf
    obtain ⟨v68, e69, hf⟩ := pm_lt hf
    obtain ⟨v70, e71, hf⟩ := pm_bd hf
    have K72 := pw_t (by decide) K61 (wfX12_setItem (pw_rf _) e71)
    obtain ⟨k73, hf⟩ := pm_if hf
    obtain ⟨v74, e75, hf⟩ := pm_bd hf
    have K76 := pw_t (by decide) K72 (wfX9_skip (pw_rf _) e75)
    cases hf
    exact K76
  · have hf := pm_ie hf c48
    obtain ⟨k77, hf⟩ := pm_if hf
    obtain ⟨v78, e79, hf⟩ := pm_bd hf
    have K80 := pw_t (by decide) K47 (wfX9_expression (pw_rf _) e79)
    obtain ⟨k81, hf⟩ := pm_if hf
    obtain ⟨v82, e83, hf⟩ := pm_bd hf
    have K84 := pw_t (by decide) K80 (wfX9_number (pw_rf _) e83)
    obtain ⟨k85, hf⟩ := pm_if hf
    obtain ⟨v86, e87, hf⟩ := pm_bd hf
    obtain ⟨k88, hf⟩ := pm_if hf
    obtain ⟨v89, e90, hf⟩ := pm_bd hf
    obtain ⟨v91, e92, hf⟩ := pm_bd hf
    have K93 := pw_t (by decide) K84 (wfX12_setItem (pw_rf _) e92)
    obtain ⟨k94, hf⟩ := pm_if hf
    obtain ⟨v95, e96, hf⟩ := pm_bd hf
    obtain ⟨k97, hf⟩ := pm_if hf
    obtain ⟨v98, e99, hf⟩ := pm_bd hf
    obtain ⟨v100, e101, hf⟩ := pm_lt hf
    obtain ⟨v102, e103, hf⟩ := pm_bd hf
    have K104 := pw_t (by decide) K93 (wfX12_setItem (pw_rf _) e103)
    obtain ⟨k105, hf⟩ := pm_if hf
    obtain ⟨v106, e107, hf⟩ := pm_bd hf
    have K108 := pw_t (by decide) K104 (wfX9_skip (pw_rf _) e107)
    cases hf
    exact K108
set_option maxHeartbeats 4000000 in
set_option maxRecDepth 100000 in
theorem wfX9_dataOne_b56 {h0 h : pm_H} (K0 : pw_F WX9_dataOne h0 h) {x0 : Nat} {x1 : Int32} {x3 : Int64} {s0 : Int32} {s1 : Int32} {s2 : Nat}  {r : pm_H} (hf : fX9_dataOne_b56 h x0 x1 x3 s0 s1 s2 = some r) : pw_F WX9_dataOne h0 r := by
  unfold fX9_dataOne_b56 at hf
  obtain ⟨v21, e22, hf⟩ := pm_bd hf
  have K23 := pw_t (by decide) K0 (wfX12_setItem (pw_rf _) e22)
  by_cases c24 : x3 = 2
  · have hf := pm_it hf c24
    obtain ⟨k25, hf⟩ := pm_if hf
    obtain ⟨v26, e27, hf⟩ := pm_bd hf
    obtain ⟨k28, hf⟩ := pm_if hf
    obtain ⟨v29, e30, hf⟩ := pm_bd hf
    obtain ⟨v31, e32, hf⟩ := pm_bd hf
    have K33 := pw_t (by decide) K23 (wfX9_number (pw_rf _) e32)
    obtain ⟨v34, e35, hf⟩ := pm_lt hf
    obtain ⟨v36, e37, hf⟩ := pm_bd hf
    have K38 := pw_t (by decide) K33 (wfX12_setItem (pw_rf _) e37)
    exact wfX9_dataOne_b89 K38  hf
  · have hf := pm_ie hf c24
    exact wfX9_dataOne_b89 K23  hf
set_option maxHeartbeats 4000000 in
set_option maxRecDepth 100000 in
theorem wfX9_dataOne_b35 {h0 h : pm_H} (K0 : pw_F WX9_dataOne h0 h) {x0 : Nat} {x1 : Int32} {x3 : Int64}  {r : pm_H} (hf : fX9_dataOne_b35 h x0 x1 x3 = some r) : pw_F WX9_dataOne h0 r := by
  unfold fX9_dataOne_b35 at hf
  obtain ⟨k14, hf⟩ := pm_if hf
  obtain ⟨v15, e16, hf⟩ := pm_bd hf
  obtain ⟨k17, hf⟩ := pm_if hf
  obtain ⟨v18, e19, hf⟩ := pm_bd hf
  by_cases c20 : x3 = 1
  · have hf := pm_it hf c20
    exact wfX9_dataOne_b56 K0  hf
  · have hf := pm_ie hf c20
    exact wfX9_dataOne_b56 K0  hf
set_option maxHeartbeats 4000000 in
set_option maxRecDepth 100000 in
theorem wfX9_dataOne {h0 h : pm_H} (K0 : pw_F WX9_dataOne h0 h) {a0 : Nat}  {r : pm_H} (hf : fX9_dataOne h a0 = some r) : pw_F WX9_dataOne h0 r := by
  unfold fX9_dataOne at hf
  obtain ⟨k1, hf⟩ := pm_if hf
  obtain ⟨y2, e3, hf⟩ := pm_lt hf
  obtain ⟨y4, e5, hf⟩ := pm_lt hf
  obtain ⟨v6, e7, hf⟩ := pm_bd hf
  have K8 := pw_t (by decide) K0 (wfX9_number (pw_rf _) e7)
  by_cases c9 : v6.1 ≤ 2
  · have hf := pm_it hf c9
    exact wfX9_dataOne_b35 K8  hf
  · have hf := pm_ie hf c9
    obtain ⟨k10, hf⟩ := pm_if hf
    obtain ⟨v11, e12, hf⟩ := pm_bd hf
    have K13 := pw_t (by decide) K8 (wfX9_fail (pw_rf _) e12)
    exact wfX9_dataOne_b35 K13  hf
abbrev WX9_element : List Nat := [1153, 1155, 1156, 1157, 1158, 1159, 1160, 1161, 4096, 4352]
set_option maxHeartbeats 4000000 in
set_option maxRecDepth 100000 in
theorem wlX9_element {h0 : pm_H} {r : pm_H} : ∀ n : Nat, (∀ (x0 : Nat) (x1 : Int32) (x3 : Int64) (h : pm_H), pw_F WX9_element h0 h → pm_iter sX9_element n (.inl (x0, x1, x3, h)) = some r → pw_F WX9_element h0 r) ∧ (∀ (x0 : Nat) (x1 : Int32) (x3 : Int64) (s0 : Int32) (h : pm_H), pw_F WX9_element h0 h → pm_iter sX9_element n (.inr (.inl (x0, x1, x3, s0, h))) = some r → pw_F WX9_element h0 r) ∧ (∀ (x0 : Nat) (x1 : Int32) (x3 : Int64) (x5 : Int32) (s0 : Int32) (h : pm_H), pw_F WX9_element h0 h → pm_iter sX9_element n (.inr (.inr (.inl (x0, x1, x3, x5, s0, h)))) = some r → pw_F WX9_element h0 r) ∧ (∀ (x0 : Nat) (x1 : Int32) (x3 : Int64) (x5 : Int32) (x6 : Int32) (s0 : Int32) (s1 : Int32) (s2 : Nat) (h : pm_H), pw_F WX9_element h0 h → pm_iter sX9_element n (.inr (.inr (.inr (.inl (x0, x1, x3, x5, x6, s0, s1, s2, h))))) = some r → pw_F WX9_element h0 r) ∧ (∀ (x0 : Nat) (x1 : Int32) (x3 : Int64) (x5 : Int32) (x6 : Int32) (h : pm_H), pw_F WX9_element h0 h → pm_iter sX9_element n (.inr (.inr (.inr (.inr (.inl (x0, x1, x3, x5, x6, h)))))) = some r → pw_F WX9_element h0 r) ∧ (∀ (x0 : Nat) (x1 : Int32) (x3 : Int64) (x6 : Int32) (h : pm_H), pw_F WX9_element h0 h → pm_iter sX9_element n (.inr (.inr (.inr (.inr (.inr (.inl (x0, x1, x3, x6, h))))))) = some r → pw_F WX9_element h0 r) ∧ (∀ (x0 : Nat) (x1 : Int32) (x6 : Int32) (x7 : Int32) (h : pm_H), pw_F WX9_element h0 h → pm_iter sX9_element n (.inr (.inr (.inr (.inr (.inr (.inr (.inl (x0, x1, x6, x7, h)))))))) = some r → pw_F WX9_element h0 r) ∧ (∀ (x0 : Nat) (x6 : Int32) (x8 : Int64) (x10 : Int64) (h : pm_H), pw_F WX9_element h0 h → pm_iter sX9_element n (.inr (.inr (.inr (.inr (.inr (.inr (.inr (x0, x6, x8, x10, h)))))))) = some r → pw_F WX9_element h0 r) := by
  intro n
  induction n with
  | zero => exact ⟨fun _ _ _ _ _ hf => (by cases hf), fun _ _ _ _ _ _ hf => (by cases hf), fun _ _ _ _ _ _ _ hf => (by cases hf), fun _ _ _ _ _ _ _ _ _ _ hf => (by cases hf), fun _ _ _ _ _ _ _ hf => (by cases hf), fun _ _ _ _ _ _ hf => (by cases hf), fun _ _ _ _ _ _ hf => (by cases hf), fun _ _ _ _ _ _ hf => (by cases hf)⟩
  | succ n ih =>
    refine ⟨fun x0 x1 x3 h K0 hf => ?_, ?_⟩
    · obtain ⟨y, hf, hi⟩ := pm_iter_s hf
      have hf : tX9_element_35 x0 x1 x3 h = some y := hf
      unfold tX9_element_35 at hf
      by_cases c14 : (x3 &&& 1) = 0
      · have hf := pm_it hf c14
        cases hf
        exact ih.2.1 x0 x1 x3 1 h K0  hi
      · have hf := pm_ie hf c14
        cases hf
        exact ih.2.1 x0 x1 x3 0 h K0  hi
    refine ⟨fun x0 x1 x3 s0 h K0 hf => ?_, ?_⟩
    · obtain ⟨y, hf, hi⟩ := pm_iter_s hf
      have hf : tX9_element_48 x0 x1 x3 s0 h = some y := hf
      unfold tX9_element_48 at hf
      by_cases c15 : (x3 &&& 4) = 0
      · have hf := pm_it hf c15
        cases hf
        exact ih.2.2.1 x0 x1 x3 s0 0 h K0  hi
      · have hf := pm_ie hf c15
        cases hf
        exact ih.2.2.1 x0 x1 x3 s0 1 h K0  hi
    refine ⟨fun x0 x1 x3 x5 s0 h K0 hf => ?_, ?_⟩
    · obtain ⟨y, hf, hi⟩ := pm_iter_s hf
      have hf : tX9_element_65 x0 x1 x3 x5 s0 h = some y := hf
      unfold tX9_element_65 at hf
      obtain ⟨k16, hf⟩ := pm_if hf
      obtain ⟨v17, e18, hf⟩ := pm_bd hf
      obtain ⟨k19, hf⟩ := pm_if hf
      obtain ⟨v20, e21, hf⟩ := pm_bd hf
      by_cases c22 : x5 = 0
      · have hf := pm_it hf c22
        by_cases c23 : (x3 &&& 2) = 0
        · have hf := pm_it hf c23
          cases hf
          exact ih.2.2.2.1 x0 x1 x3 x5 s0 1 (x1 + 0) v20 h K0  hi
        · have hf := pm_ie hf c23
          cases hf
          exact ih.2.2.2.1 x0 x1 x3 x5 s0 2 (x1 + 0) v20 h K0  hi
      · have hf := pm_ie hf c22
        cases hf
        exact ih.2.2.2.1 x0 x1 x3 x5 s0 0 (x1 + 0) v20 h K0  hi
    refine ⟨fun x0 x1 x3 x5 x6 s0 s1 s2 h K0 hf => ?_, ?_⟩
    · obtain ⟨y, hf, hi⟩ := pm_iter_s hf
      have hf : tX9_element_101 x0 x1 x3 x5 x6 s0 s1 s2 h = some y := hf
      unfold tX9_element_101 at hf
      obtain ⟨v24, e25, hf⟩ := pm_bd hf
      have K26 := pw_t (by decide) K0 (wfX12_setItem (pw_rf _) e25)
      by_cases c27 : x5 = 0
      · have hf := pm_it hf c27
        cases hf
        exact ih.2.2.2.2.1 x0 x1 x3 x5 x6 v24 K26  hi
      · have hf := pm_ie hf c27
        by_cases c28 : (x3 &&& 2) = 0
        · have hf := pm_it hf c28
          cases hf
          exact ih.2.2.2.2.1 x0 x1 x3 x5 x6 v24 K26  hi
        · have hf := pm_ie hf c28
          obtain ⟨k29, hf⟩ := pm_if hf
          obtain ⟨v30, e31, hf⟩ := pm_bd hf
          obtain ⟨k32, hf⟩ := pm_if hf
          obtain ⟨v33, e34, hf⟩ := pm_bd hf
          obtain ⟨v35, e36, hf⟩ := pm_bd hf
          have K37 := pw_t (by decide) K26 (wfX9_number (pw_rf _) e36)
          obtain ⟨v38, e39, hf⟩ := pm_lt hf
          obtain ⟨v40, e41, hf⟩ := pm_bd hf
          have K42 := pw_t (by decide) K37 (wfX12_setItem (pw_rf _) e41)
          cases hf
          exact ih.2.2.2.2.1 x0 x1 x3 x5 x6 v40 K42  hi
    refine ⟨fun x0 x1 x3 x5 x6 h K0 hf => ?_, ?_⟩
    · obtain ⟨y, hf, hi⟩ := pm_iter_s hf
      have hf : tX9_element_141 x0 x1 x3 x5 x6 h = some y := hf
      unfold tX9_element_141 at hf
      obtain ⟨k43, hf⟩ := pm_if hf
      obtain ⟨v44, e45, hf⟩ := pm_bd hf
      obtain ⟨k46, hf⟩ := pm_if hf
      obtain ⟨v47, e48, hf⟩ := pm_bd hf
      obtain ⟨v49, e50, hf⟩ := pm_bd hf
      have K51 := pw_t (by decide) K0 (wfX12_setItem (pw_rf _) e50)
      by_cases c52 : x5 = 0
      · have hf := pm_it hf c52
        cases hf
        exact ih.2.2.2.2.2.1 x0 x1 x3 x6 v49 K51  hi
      · have hf := pm_ie hf c52
        obtain ⟨k53, hf⟩ := pm_if hf
        obtain ⟨v54, e55, hf⟩ := pm_bd hf
        have K56 := pw_t (by decide) K51 (wfX9_expression (pw_rf _) e55)
        cases hf
        exact ih.2.2.2.2.2.1 x0 x1 x3 x6 v54 K56  hi
    refine ⟨fun x0 x1 x3 x6 h K0 hf => ?_, ?_⟩
    · obtain ⟨y, hf, hi⟩ := pm_iter_s hf
      have hf : tX9_element_167 x0 x1 x3 x6 h = some y := hf
      unfold tX9_element_167 at hf
      by_cases c57 : x3 = 0
      · have hf := pm_it hf c57
        cases hf
        exact ih.2.2.2.2.2.2.1 x0 x1 x6 112 h K0  hi
      · have hf := pm_ie hf c57
        by_cases c58 : x3 = 4
        · have hf := pm_it hf c58
          cases hf
          exact ih.2.2.2.2.2.2.1 x0 x1 x6 112 h K0  hi
        · have hf := pm_ie hf c58
          by_cases c59 : x6 = 0
          · have hf := pm_it hf c59
            obtain ⟨k60, hf⟩ := pm_if hf
            obtain ⟨v61, e62, hf⟩ := pm_bd hf
            have K63 := pw_t (by decide) K0 (wfX9_nextUpTo (pw_rf _) e62)
            cases hf
            exact ih.2.2.2.2.2.2.1 x0 x1 x6 112 v61.2 K63  hi
          · have hf := pm_ie hf c59
            obtain ⟨k64, hf⟩ := pm_if hf
            obtain ⟨v65, e66, hf⟩ := pm_bd hf
            have K67 := pw_t (by decide) K0 (wfX9_referenceType (pw_rf _) e66)
            cases hf
            exact ih.2.2.2.2.2.2.1 x0 x1 x6 v65.1 v65.2 K67  hi
    refine ⟨fun x0 x1 x6 x7 h K0 hf => ?_, ?_⟩
    · obtain ⟨y, hf, hi⟩ := pm_iter_s hf
      have hf : tX9_element_205 x0 x1 x6 x7 h = some y := hf
      unfold tX9_element_205 at hf
      obtain ⟨k68, hf⟩ := pm_if hf
      obtain ⟨v69, e70, hf⟩ := pm_bd hf
      have K71 := pw_t (by decide) K0 (wfX9_number (pw_rf _) e70)
      obtain ⟨k72, hf⟩ := pm_if hf
      obtain ⟨v73, e74, hf⟩ := pm_bd hf
      obtain ⟨k75, hf⟩ := pm_if hf
      obtain ⟨v76, e77, hf⟩ := pm_bd hf
      obtain ⟨v78, e79, hf⟩ := pm_bd hf
      have K80 := pw_t (by decide) K71 (wfX12_setItem (pw_rf _) e79)
      obtain ⟨k81, hf⟩ := pm_if hf
      obtain ⟨v82, e83, hf⟩ := pm_bd hf
      obtain ⟨k84, hf⟩ := pm_if hf
      obtain ⟨v85, e86, hf⟩ := pm_bd hf
      obtain ⟨v87, e88, hf⟩ := pm_lt hf
      obtain ⟨v89, e90, hf⟩ := pm_bd hf
      have K91 := pw_t (by decide) K80 (wfX12_setItem (pw_rf _) e90)
      obtain ⟨k92, hf⟩ := pm_if hf
      obtain ⟨v93, e94, hf⟩ := pm_bd hf
      obtain ⟨k95, hf⟩ := pm_if hf
      obtain ⟨v96, e97, hf⟩ := pm_bd hf
      obtain ⟨v98, e99, hf⟩ := pm_bd hf
      have K100 := pw_t (by decide) K91 (wfX12_setItem (pw_rf _) e99)
      obtain ⟨k101, hf⟩ := pm_if hf
      obtain ⟨v102, e103, hf⟩ := pm_bd hf
      obtain ⟨k104, hf⟩ := pm_if hf
      obtain ⟨v105, e106, hf⟩ := pm_bd hf
      by_cases c107 : x6 = 0
      · have hf := pm_it hf c107
        obtain ⟨v108, e109, hf⟩ := pm_bd hf
        have K110 := pw_t (by decide) K100 (wfX12_setItem (pw_rf _) e109)
        cases hf
        exact ih.2.2.2.2.2.2.2 x0 x6 v69.1 0 v108 K110  hi
      · have hf := pm_ie hf c107
        obtain ⟨v111, e112, hf⟩ := pm_bd hf
        have K113 := pw_t (by decide) K100 (wfX12_setItem (pw_rf _) e112)
        cases hf
        exact ih.2.2.2.2.2.2.2 x0 x6 v69.1 0 v111 K113  hi
    refine fun x0 x6 x8 x10 h K0 hf => ?_
    obtain ⟨y, hf, hi⟩ := pm_iter_s hf
    have hf : tX9_element_290 x0 x6 x8 x10 h = some y := hf
    unfold tX9_element_290 at hf
    by_cases c114 : x8 ≤ x10
    · have hf := pm_it hf c114
      cases hf
      cases hi
      exact K0
    · have hf := pm_ie hf c114
      obtain ⟨k115, hf⟩ := pm_if hf
      by_cases c116 : (pm_I h x0 3) = 0
      · have hf := pm_it hf c116
        by_cases c117 : x6 = 0
        · have hf := pm_it hf c117
          obtain ⟨v118, e119, hf⟩ := pm_bd hf
          have K120 := pw_t (by decide) K0 (wfX9_number (pw_rf _) e119)
          obtain ⟨y121, e122, hf⟩ := pm_lt hf
          cases hf
          exact ih.2.2.2.2.2.2.2 x0 x6 x8 y121 v118.2 K120  hi
        · have hf := pm_ie hf c117
          obtain ⟨v123, e124, hf⟩ := pm_bd hf
          have K125 := pw_t (by decide) K0 (wfX9_expression (pw_rf _) e124)
          obtain ⟨y126, e127, hf⟩ := pm_lt hf
          cases hf
          exact ih.2.2.2.2.2.2.2 x0 x6 x8 y126 v123 K125  hi
      · have hf := pm_ie hf c116
        cases hf
        cases hi
        exact K0
set_option maxHeartbeats 4000000 in
set_option maxRecDepth 100000 in
theorem wfX9_element {h0 h : pm_H} (K0 : pw_F WX9_element h0 h) {a0 : Nat}  {r : pm_H} (hf : fX9_element h a0 = some r) : pw_F WX9_element h0 r := by
  unfold fX9_element at hf
  obtain ⟨k1, hf⟩ := pm_if hf
  obtain ⟨y2, e3, hf⟩ := pm_lt hf
  obtain ⟨y4, e5, hf⟩ := pm_lt hf
  obtain ⟨v6, e7, hf⟩ := pm_bd hf
  have K8 := pw_t (by decide) K0 (wfX9_number (pw_rf _) e7)
  by_cases c9 : v6.1 ≤ 7
  · have hf := pm_it hf c9
    obtain ⟨n, hn⟩ := pm_lim_iter hf
    exact (wlX9_element n).1 a0 y2 v6.1 v6.2 K8  hn
  · have hf := pm_ie hf c9
    obtain ⟨k10, hf⟩ := pm_if hf
    obtain ⟨v11, e12, hf⟩ := pm_bd hf
    have K13 := pw_t (by decide) K8 (wfX9_fail (pw_rf _) e12)
    obtain ⟨n, hn⟩ := pm_lim_iter hf
    exact (wlX9_element n).1 a0 y2 v6.1 v11 K13  hn
abbrev WX0_init : List Nat := [0, 1, 5, 7, 8]
set_option maxHeartbeats 4000000 in
set_option maxRecDepth 100000 in
theorem wfX0_init_b40 {h0 h : pm_H} (K0 : pw_F WX0_init h0 h) {s0 : Nat} {s1 : Nat}  {r : pm_H} (hf : fX0_init_b40 h s0 s1 = some r) : pw_F WX0_init h0 r := by
  unfold fX0_init_b40 at hf
  obtain ⟨k8, hf⟩ := pm_if hf
  have hf := Option.some.inj hf
  subst hf
  exact (pw_sR K0 rfl k8 (by decide))
set_option maxHeartbeats 4000000 in
set_option maxRecDepth 100000 in
theorem wfX0_init_b22 {h0 h : pm_H} (K0 : pw_F WX0_init h0 h) {x0 : Nat} {x1 : Nat} {x2 : Int32} {s0 : Nat} {s1 : Nat}  {r : pm_H} (hf : fX0_init_b22 h x0 x1 x2 s0 s1 = some r) : pw_F WX0_init h0 r := by
  unfold fX0_init_b22 at hf
  obtain ⟨k3, hf⟩ := pm_if hf
  obtain ⟨k4, hf⟩ := pm_if hf
  have k4b := (congrFun (pkR rfl) x0).symm.trans k4
  obtain ⟨y5, e6, hf⟩ := pm_lt hf
  obtain ⟨u7, hf⟩ := pm_if hf
  exact wfX0_init_b40 (pw_new (pw_sR (pw_sR K0 rfl k3 (by decide)) (pkR rfl) k4b (by decide)))  hf
set_option maxHeartbeats 4000000 in
set_option maxRecDepth 100000 in
theorem wfX0_init_b15 {h0 h : pm_H} (K0 : pw_F WX0_init h0 h) {x0 : Nat} {x1 : Nat} {x2 : Int32} {s0 : Nat} {s1 : Nat}  {r : pm_H} (hf : fX0_init_b15 h x0 x1 x2 s0 s1 = some r) : pw_F WX0_init h0 r := by
  unfold fX0_init_b15 at hf
  obtain ⟨k2, hf⟩ := pm_if hf
  exact wfX0_init_b22 (pw_new (pw_sR K0 rfl k2 (by decide)))  hf
set_option maxHeartbeats 4000000 in
set_option maxRecDepth 100000 in
theorem wfX0_init_b8 {h0 h : pm_H} (K0 : pw_F WX0_init h0 h) {x0 : Nat} {x1 : Nat} {x2 : Int32} {s0 : Nat} {s1 : Nat}  {r : pm_H} (hf : fX0_init_b8 h x0 x1 x2 s0 s1 = some r) : pw_F WX0_init h0 r := by
  unfold fX0_init_b8 at hf
  obtain ⟨k1, hf⟩ := pm_if hf
  exact wfX0_init_b15 (pw_new (pw_sR K0 rfl k1 (by decide)))  hf
set_option maxHeartbeats 4000000 in
set_option maxRecDepth 100000 in
theorem wfX0_init_b0 {h0 h : pm_H} (K0 : pw_F WX0_init h0 h) {x0 : Nat} {x1 : Nat} {x2 : Int32}  {r : pm_H} (hf : fX0_init_b0 h x0 x1 x2 = some r) : pw_F WX0_init h0 r := by
  unfold fX0_init_b0 at hf
  exact wfX0_init_b8 (pw_new K0)  hf
set_option maxHeartbeats 4000000 in
set_option maxRecDepth 100000 in
theorem wfX0_init {h0 h : pm_H} (K0 : pw_F WX0_init h0 h) {a0 : Nat} {p1 : Nat} {p2 : Int32}  {r : pm_H} (hf : fX0_init h a0 p1 p2 = some r) : pw_F WX0_init h0 r := by
  unfold fX0_init at hf
  exact wfX0_init_b0 K0  hf
abbrev WX2_init : List Nat := [256, 257, 259, 262, 264, 265, 266]
set_option maxHeartbeats 4000000 in
set_option maxRecDepth 100000 in
theorem wfX2_init_b44 {h0 h : pm_H} (K0 : pw_F WX2_init h0 h) {x0 : Nat} {x1 : Nat} {s0 : Nat} {s1 : Nat}  {r : pm_H} (hf : fX2_init_b44 h x0 x1 s0 s1 = some r) : pw_F WX2_init h0 r := by
  unfold fX2_init_b44 at hf
  obtain ⟨k6, hf⟩ := pm_if hf
  obtain ⟨k7, hf⟩ := pm_if hf
  have k7b := (congrFun (pkR rfl) x0).symm.trans k7
  have hf := Option.some.inj hf
  subst hf
  exact (pw_sR (pw_sR K0 rfl k6 (by decide)) (pkR rfl) k7b (by decide))
set_option maxHeartbeats 4000000 in
set_option maxRecDepth 100000 in
theorem wfX2_init_b35 {h0 h : pm_H} (K0 : pw_F WX2_init h0 h) {x0 : Nat} {x1 : Nat} {s0 : Nat} {s1 : Nat}  {r : pm_H} (hf : fX2_init_b35 h x0 x1 s0 s1 = some r) : pw_F WX2_init h0 r := by
  unfold fX2_init_b35 at hf
  obtain ⟨k5, hf⟩ := pm_if hf
  exact wfX2_init_b44 (pw_new (pw_sR K0 rfl k5 (by decide)))  hf
set_option maxHeartbeats 4000000 in
set_option maxRecDepth 100000 in
theorem wfX2_init_b28 {h0 h : pm_H} (K0 : pw_F WX2_init h0 h) {x0 : Nat} {x1 : Nat} {s0 : Nat} {s1 : Nat}  {r : pm_H} (hf : fX2_init_b28 h x0 x1 s0 s1 = some r) : pw_F WX2_init h0 r := by
  unfold fX2_init_b28 at hf
  obtain ⟨k4, hf⟩ := pm_if hf
  exact wfX2_init_b35 (pw_new (pw_sR K0 rfl k4 (by decide)))  hf
set_option maxHeartbeats 4000000 in
set_option maxRecDepth 100000 in
theorem wfX2_init_b21 {h0 h : pm_H} (K0 : pw_F WX2_init h0 h) {x0 : Nat} {x1 : Nat} {s0 : Nat} {s1 : Nat}  {r : pm_H} (hf : fX2_init_b21 h x0 x1 s0 s1 = some r) : pw_F WX2_init h0 r := by
  unfold fX2_init_b21 at hf
  obtain ⟨k3, hf⟩ := pm_if hf
  exact wfX2_init_b28 (pw_new (pw_sR K0 rfl k3 (by decide)))  hf
set_option maxHeartbeats 4000000 in
set_option maxRecDepth 100000 in
theorem wfX2_init_b14 {h0 h : pm_H} (K0 : pw_F WX2_init h0 h) {x0 : Nat} {x1 : Nat} {s0 : Nat} {s1 : Nat}  {r : pm_H} (hf : fX2_init_b14 h x0 x1 s0 s1 = some r) : pw_F WX2_init h0 r := by
  unfold fX2_init_b14 at hf
  obtain ⟨k2, hf⟩ := pm_if hf
  exact wfX2_init_b21 (pw_new (pw_sR K0 rfl k2 (by decide)))  hf
set_option maxHeartbeats 4000000 in
set_option maxRecDepth 100000 in
theorem wfX2_init_b0 {h0 h : pm_H} (K0 : pw_F WX2_init h0 h) {x0 : Nat} {x1 : Nat}  {r : pm_H} (hf : fX2_init_b0 h x0 x1 = some r) : pw_F WX2_init h0 r := by
  unfold fX2_init_b0 at hf
  obtain ⟨k1, hf⟩ := pm_if hf
  exact wfX2_init_b14 (pw_new (pw_sI K0 rfl k1 (by decide)))  hf
set_option maxHeartbeats 4000000 in
set_option maxRecDepth 100000 in
theorem wfX2_init {h0 h : pm_H} (K0 : pw_F WX2_init h0 h) {a0 : Nat} {p1 : Nat}  {r : pm_H} (hf : fX2_init h a0 p1 = some r) : pw_F WX2_init h0 r := by
  unfold fX2_init at hf
  exact wfX2_init_b0 K0  hf
abbrev WX3_init : List Nat := [384, 385, 386]
set_option maxHeartbeats 4000000 in
set_option maxRecDepth 100000 in
theorem wfX3_init {h0 h : pm_H} (K0 : pw_F WX3_init h0 h) {a0 : Nat} {p1 : Nat} {p2 : Nat}  {r : pm_H} (hf : fX3_init h a0 p1 p2 = some r) : pw_F WX3_init h0 r := by
  unfold fX3_init at hf
  obtain ⟨k1, hf⟩ := pm_if hf
  obtain ⟨k2, hf⟩ := pm_if hf
  have k2b := (congrFun (pkR (pkR rfl)) p2).symm.trans k2
  obtain ⟨v3, e4, hf⟩ := pm_bd hf
  cases hf
  exact (pw_sR (pw_sR (pw_sR K0 rfl k1 (by decide)) (pkR rfl) k1 (by decide)) (pkR (pkR rfl)) k1 (by decide))
abbrev WX5_init : List Nat := [0, 1, 5, 7, 8, 256, 257, 259, 262, 264, 265, 266, 384, 385, 386, 646, 648, 649, 650, 651, 652, 4992]
set_option maxHeartbeats 4000000 in
set_option maxRecDepth 100000 in
theorem wlX5_init {h0 : pm_H} {r : pm_H} : ∀ n : Nat, (∀ (x0 : Nat) (x1 : Nat) (h : pm_H), pw_F WX5_init h0 h → pm_iter sX5_init n (.inl (x0, x1, h)) = some r → pw_F WX5_init h0 r) ∧ (∀ (x0 : Nat) (x1 : Nat) (s0 : Nat) (s1 : Nat) (h : pm_H), pw_F WX5_init h0 h → pm_iter sX5_init n (.inr (.inl (x0, x1, s0, s1, h))) = some r → pw_F WX5_init h0 r) ∧ (∀ (x0 : Nat) (x1 : Nat) (s0 : Nat) (s1 : Nat) (h : pm_H), pw_F WX5_init h0 h → pm_iter sX5_init n (.inr (.inr (.inl (x0, x1, s0, s1, h)))) = some r → pw_F WX5_init h0 r) ∧ (∀ (x0 : Nat) (x1 : Nat) (s0 : Nat) (s1 : Nat) (h : pm_H), pw_F WX5_init h0 h → pm_iter sX5_init n (.inr (.inr (.inr (.inl (x0, x1, s0, s1, h))))) = some r → pw_F WX5_init h0 r) ∧ (∀ (x0 : Nat) (x1 : Nat) (s0 : Nat) (h : pm_H), pw_F WX5_init h0 h → pm_iter sX5_init n (.inr (.inr (.inr (.inr (.inl (x0, x1, s0, h)))))) = some r → pw_F WX5_init h0 r) ∧ (∀ (x0 : Nat) (x1 : Nat) (s0 : Nat) (s1 : Nat) (s2 : Nat) (h : pm_H), pw_F WX5_init h0 h → pm_iter sX5_init n (.inr (.inr (.inr (.inr (.inr (.inl (x0, x1, s0, s1, s2, h))))))) = some r → pw_F WX5_init h0 r) ∧ (∀ (x0 : Nat) (x1 : Nat) (s0 : Nat) (h : pm_H), pw_F WX5_init h0 h → pm_iter sX5_init n (.inr (.inr (.inr (.inr (.inr (.inr (.inl (x0, x1, s0, h)))))))) = some r → pw_F WX5_init h0 r) ∧ (∀ (x0 : Nat) (x1 : Nat) (x2 : Nat) (s0 : Nat) (s1 : Nat) (h : pm_H), pw_F WX5_init h0 h → pm_iter sX5_init n (.inr (.inr (.inr (.inr (.inr (.inr (.inr (.inl (x0, x1, x2, s0, s1, h))))))))) = some r → pw_F WX5_init h0 r) ∧ (∀ (x0 : Nat) (x1 : Nat) (x2 : Nat) (s0 : Nat) (s1 : Nat) (h : pm_H), pw_F WX5_init h0 h → pm_iter sX5_init n (.inr (.inr (.inr (.inr (.inr (.inr (.inr (.inr (.inl (x0, x1, x2, s0, s1, h)))))))))) = some r → pw_F WX5_init h0 r) ∧ (∀ (x0 : Nat) (x1 : Nat) (x2 : Nat) (x3 : Int32) (h : pm_H), pw_F WX5_init h0 h → pm_iter sX5_init n (.inr (.inr (.inr (.inr (.inr (.inr (.inr (.inr (.inr (.inl (x0, x1, x2, x3, h))))))))))) = some r → pw_F WX5_init h0 r) ∧ (∀ (x0 : Nat) (x1 : Nat) (x2 : Nat) (x3 : Int32) (s0 : Nat) (s1 : Int32) (s2 : Nat) (h : pm_H), pw_F WX5_init h0 h → pm_iter sX5_init n (.inr (.inr (.inr (.inr (.inr (.inr (.inr (.inr (.inr (.inr (x0, x1, x2, x3, s0, s1, s2, h))))))))))) = some r → pw_F WX5_init h0 r) := by
  intro n
  induction n with
  | zero => exact ⟨fun _ _ _ _ hf => (by cases hf), fun _ _ _ _ _ _ hf => (by cases hf), fun _ _ _ _ _ _ hf => (by cases hf), fun _ _ _ _ _ _ hf => (by cases hf), fun _ _ _ _ _ hf => (by cases hf), fun _ _ _ _ _ _ _ hf => (by cases hf), fun _ _ _ _ _ hf => (by cases hf), fun _ _ _ _ _ _ _ hf => (by cases hf), fun _ _ _ _ _ _ _ hf => (by cases hf), fun _ _ _ _ _ _ hf => (by cases hf), fun _ _ _ _ _ _ _ _ _ hf => (by cases hf)⟩
  | succ n ih =>
    refine ⟨fun x0 x1 h K0 hf => ?_, ?_⟩
    · obtain ⟨y, hf, hi⟩ := pm_iter_s hf
      have hf : tX5_init_0 x0 x1 h = some y := hf
      unfold tX5_init_0 at hf
      cases hf
      exact ih.2.1 x0 x1 (pm_sz h) x0 (pm_new h 35 16) (pw_new K0)  hi
    refine ⟨fun x0 x1 s0 s1 h K0 hf => ?_, ?_⟩
    · obtain ⟨y, hf, hi⟩ := pm_iter_s hf
      have hf : tX5_init_9 x0 x1 s0 s1 h = some y := hf
      unfold tX5_init_9 at hf
      obtain ⟨k1, hf⟩ := pm_if hf
      cases hf
      exact ih.2.2.1 x0 x1 (pm_sz (pm_setR h s1 6 (some s0))) x0 (pm_new (pm_setR h s1 6 (some s0)) 35 4096) (pw_new (pw_sR K0 rfl k1 (by decide)))  hi
    refine ⟨fun x0 x1 s0 s1 h K0 hf => ?_, ?_⟩
    · obtain ⟨y, hf, hi⟩ := pm_iter_s hf
      have hf : tX5_init_18 x0 x1 s0 s1 h = some y := hf
      unfold tX5_init_18 at hf
      obtain ⟨k2, hf⟩ := pm_if hf
      cases hf
      exact ih.2.2.2.1 x0 x1 (pm_sz (pm_setR h s1 10 (some s0))) x0 (pm_new (pm_setR h s1 10 (some s0)) 39 200) (pw_new (pw_sR K0 rfl k2 (by decide)))  hi
    refine ⟨fun x0 x1 s0 s1 h K0 hf => ?_, ?_⟩
    · obtain ⟨y, hf, hi⟩ := pm_iter_s hf
      have hf : tX5_init_28 x0 x1 s0 s1 h = some y := hf
      unfold tX5_init_28 at hf
      obtain ⟨k3, hf⟩ := pm_if hf
      obtain ⟨k4, hf⟩ := pm_if hf
      have k4b := (congrFun (pkR rfl) x0).symm.trans k4
      cases hf
      exact ih.2.2.2.2.1 x0 x1 (pm_sz (pm_setR (pm_setR h s1 11 (some s0)) x0 8 (some x1))) (pm_new (pm_setR (pm_setR h s1 11 (some s0)) x0 8 (some x1)) 0 0) (pw_new (pw_sR (pw_sR K0 rfl k3 (by decide)) (pkR rfl) k4b (by decide)))  hi
    refine ⟨fun x0 x1 s0 h K0 hf => ?_, ?_⟩
    · obtain ⟨y, hf, hi⟩ := pm_iter_s hf
      have hf : tX5_init_39 x0 x1 s0 h = some y := hf
      unfold tX5_init_39 at hf
      cases hf
      exact ih.2.2.2.2.2.1 x0 x1 (pm_sz h) s0 s0 (pm_new h 34 2) (pw_new K0)  hi
    refine ⟨fun x0 x1 s0 s1 s2 h K0 hf => ?_, ?_⟩
    · obtain ⟨y, hf, hi⟩ := pm_iter_s hf
      have hf : tX5_init_43 x0 x1 s0 s1 s2 h = some y := hf
      unfold tX5_init_43 at hf
      obtain ⟨v5, e6, hf⟩ := pm_bd hf
      have K7 := pw_t (by decide) K0 (wfX0_init (pw_rf _) e6)
      cases hf
      exact ih.2.2.2.2.2.2.1 x0 x1 s2 v5 K7  hi
    refine ⟨fun x0 x1 s0 h K0 hf => ?_, ?_⟩
    · obtain ⟨y, hf, hi⟩ := pm_iter_s hf
      have hf : tX5_init_47 x0 x1 s0 h = some y := hf
      unfold tX5_init_47 at hf
      cases hf
      exact ih.2.2.2.2.2.2.2.1 x0 x1 s0 (pm_sz h) x0 (pm_new h 2 0) (pw_new K0)  hi
    refine ⟨fun x0 x1 x2 s0 s1 h K0 hf => ?_, ?_⟩
    · obtain ⟨y, hf, hi⟩ := pm_iter_s hf
      have hf : tX5_init_52 x0 x1 x2 s0 s1 h = some y := hf
      unfold tX5_init_52 at hf
      obtain ⟨v8, e9, hf⟩ := pm_bd hf
      have K10 := pw_t (by decide) K0 (wfX2_init (pw_rf _) e9)
      cases hf
      exact ih.2.2.2.2.2.2.2.2.1 x0 x1 x2 s0 s1 v8 K10  hi
    refine ⟨fun x0 x1 x2 s0 s1 h K0 hf => ?_, ?_⟩
    · obtain ⟨y, hf, hi⟩ := pm_iter_s hf
      have hf : tX5_init_57 x0 x1 x2 s0 s1 h = some y := hf
      unfold tX5_init_57 at hf
      obtain ⟨k11, hf⟩ := pm_if hf
      cases hf
      exact ih.2.2.2.2.2.2.2.2.2.1 x0 x1 x2 0 (pm_setR h s1 9 (some s0)) (pw_sR K0 rfl k11 (by decide))  hi
    refine ⟨fun x0 x1 x2 x3 h K0 hf => ?_, ?_⟩
    · obtain ⟨y, hf, hi⟩ := pm_iter_s hf
      have hf : tX5_init_62 x0 x1 x2 x3 h = some y := hf
      unfold tX5_init_62 at hf
      obtain ⟨k12, hf⟩ := pm_if hf
      obtain ⟨v13, e14, hf⟩ := pm_bd hf
      obtain ⟨k15, hf⟩ := pm_if hf
      by_cases c16 : (Int32.ofNat (pm_ln h v13)) ≤ x3
      · have hf := pm_it hf c16
        obtain ⟨u17, hf⟩ := pm_if hf
        obtain ⟨v18, e19, hf⟩ := pm_bd hf
        have hf := Option.some.inj hf
        subst hf
        have hi := Option.some.inj (show some _ = some r from hi)
        subst hi
        exact (pw_sR K0 rfl k12 (by decide))
      · have hf := pm_ie hf c16
        cases hf
        exact ih.2.2.2.2.2.2.2.2.2.2 x0 x1 x2 x3 (pm_sz h) x3 v13 (pm_new h 3 0) (pw_new K0)  hi
    refine fun x0 x1 x2 x3 s0 s1 s2 h K0 hf => ?_
    obtain ⟨y, hf, hi⟩ := pm_iter_s hf
    have hf : tX5_init_79 x0 x1 x2 x3 s0 s1 s2 h = some y := hf
    unfold tX5_init_79 at hf
    obtain ⟨k20, hf⟩ := pm_if hf
    obtain ⟨v21, e22, hf⟩ := pm_bd hf
    obtain ⟨v23, e24, hf⟩ := pm_bd hf
    have K25 := pw_t (by decide) K0 (wfX3_init (pw_rf _) e24)
    obtain ⟨k26, hf⟩ := pm_if hf
    obtain ⟨k27, hf⟩ := pm_if hf
    obtain ⟨u28, hf⟩ := pm_if hf
    obtain ⟨y29, e30, hf⟩ := pm_lt hf
    cases hf
    exact ih.2.2.2.2.2.2.2.2.2.1 x0 x1 x2 y29 (pm_setR v23 s2 s1.toNatClampNeg (some s0)) (pw_aR K25 rfl k26 (by decide) (by decide))  hi
set_option maxHeartbeats 4000000 in
set_option maxRecDepth 100000 in
theorem wfX5_init {h0 h : pm_H} (K0 : pw_F WX5_init h0 h) {a0 : Nat} {p1 : Nat}  {r : pm_H} (hf : fX5_init h a0 p1 = some r) : pw_F WX5_init h0 r := by
  unfold fX5_init at hf
  obtain ⟨n, hn⟩ := pm_lim_iter hf
  exact (wlX5_init n).1 a0 p1 h K0  hn
abbrev WX6_grow : List Nat := [769, 4352, 4736]
set_option maxHeartbeats 4000000 in
set_option maxRecDepth 100000 in
theorem wlX6_grow {h0 : pm_H} {r : (Int32 × pm_H)} : ∀ n : Nat, (∀ (x0 : Nat) (x1 : Int32) (x2 : Int64) (h : pm_H), pw_F WX6_grow h0 h → pm_iter sX6_grow n (.inl (x0, x1, x2, h)) = some r → pw_F WX6_grow h0 r.2) ∧ (∀ (x0 : Nat) (x1 : Int32) (x2 : Int64) (x4 : Int32) (s0 : Int64) (h : pm_H), pw_F WX6_grow h0 h → pm_iter sX6_grow n (.inr (.inl (x0, x1, x2, x4, s0, h))) = some r → pw_F WX6_grow h0 r.2) ∧ (∀ (x0 : Nat) (x1 : Int32) (x2 : Int64) (x4 : Int32) (x7 : Int32) (h : pm_H), pw_F WX6_grow h0 h → pm_iter sX6_grow n (.inr (.inr (.inl (x0, x1, x2, x4, x7, h)))) = some r → pw_F WX6_grow h0 r.2) ∧ (∀ (x0 : Nat) (x1 : Int32) (x2 : Int64) (x4 : Int32) (x7 : Int32) (s0 : Nat) (s1 : Int32) (s2 : Nat) (h : pm_H), pw_F WX6_grow h0 h → pm_iter sX6_grow n (.inr (.inr (.inr (x0, x1, x2, x4, x7, s0, s1, s2, h)))) = some r → pw_F WX6_grow h0 r.2) := by
  intro n
  induction n with
  | zero => exact ⟨fun _ _ _ _ _ hf => (by cases hf), fun _ _ _ _ _ _ _ hf => (by cases hf), fun _ _ _ _ _ _ _ hf => (by cases hf), fun _ _ _ _ _ _ _ _ _ _ hf => (by cases hf)⟩
  | succ n ih =>
    refine ⟨fun x0 x1 x2 h K0 hf => ?_, ?_⟩
    · obtain ⟨y, hf, hi⟩ := pm_iter_s hf
      have hf : tX6_grow_0 x0 x1 x2 h = some y := hf
      unfold tX6_grow_0 at hf
      obtain ⟨k1, hf⟩ := pm_if hf
      obtain ⟨v2, e3, hf⟩ := pm_bd hf
      obtain ⟨v4, e5, hf⟩ := pm_bd hf
      obtain ⟨v6, e7, hf⟩ := pm_bd hf
      obtain ⟨v8, e9, hf⟩ := pm_bd hf
      by_cases c10 : 0 ≤ v8
      · have hf := pm_it hf c10
        obtain ⟨v11, e12, hf⟩ := pm_bd hf
        cases hf
        exact ih.2.1 x0 x1 x2 v4 v11 h K0  hi
      · have hf := pm_ie hf c10
        cases hf
        exact ih.2.1 x0 x1 x2 v4 65536 h K0  hi
    refine ⟨fun x0 x1 x2 x4 s0 h K0 hf => ?_, ?_⟩
    · obtain ⟨y, hf, hi⟩ := pm_iter_s hf
      have hf : tX6_grow_37 x0 x1 x2 x4 s0 h = some y := hf
      unfold tX6_grow_37 at hf
      by_cases c13 : x1 < 0
      · have hf := pm_it hf c13
        have hf := Option.some.inj hf
        subst hf
        have hi := Option.some.inj (show some _ = some r from hi)
        subst hi
        exact K0
      · have hf := pm_ie hf c13
        obtain ⟨k14, hf⟩ := pm_if hf
        by_cases c15 : ((pm_I h x0 1).toInt64) < x2
        · have hf := pm_it hf c15
          have hf := Option.some.inj hf
          subst hf
          have hi := Option.some.inj (show some _ = some r from hi)
          subst hi
          exact K0
        · have hf := pm_ie hf c15
          by_cases c16 : (x4.toInt64 + x2) ≤ s0
          · have hf := pm_it hf c16
            cases hf
            exact ih.2.2.1 x0 x1 x2 x4 0 h K0  hi
          · have hf := pm_ie hf c16
            have hf := Option.some.inj hf
            subst hf
            have hi := Option.some.inj (show some _ = some r from hi)
            subst hi
            exact K0
    refine ⟨fun x0 x1 x2 x4 x7 h K0 hf => ?_, ?_⟩
    · obtain ⟨y, hf, hi⟩ := pm_iter_s hf
      have hf : tX6_grow_69 x0 x1 x2 x4 x7 h = some y := hf
      unfold tX6_grow_69 at hf
      by_cases c17 : x2 ≤ x7.toInt64
      · have hf := pm_it hf c17
        obtain ⟨k18, hf⟩ := pm_if hf
        obtain ⟨y19, e20, hf⟩ := pm_lt hf
        obtain ⟨v21, e22, hf⟩ := pm_bd hf
        obtain ⟨v23, e24, hf⟩ := pm_bd hf
        have K25 := pw_t (by decide) (pw_sI K0 rfl k18 (by decide)) (wfX12_setItem (pw_rf _) e24)
        have hf := Option.some.inj hf
        subst hf
        have hi := Option.some.inj (show some _ = some r from hi)
        subst hi
        exact K25
      · have hf := pm_ie hf c17
        obtain ⟨y26, e27, hf⟩ := pm_lt hf
        obtain ⟨k28, hf⟩ := pm_if hf
        obtain ⟨v29, e30, hf⟩ := pm_bd hf
        obtain ⟨k31, hf⟩ := pm_if hf
        by_cases c32 : (Int32.ofNat (pm_ln h v29)) ≤ y26
        · have hf := pm_it hf c32
          obtain ⟨y33, e34, hf⟩ := pm_lt hf
          cases hf
          exact ih.2.2.1 x0 x1 x2 x4 y33 h K0  hi
        · have hf := pm_ie hf c32
          cases hf
          exact ih.2.2.2 x0 x1 x2 x4 x7 (pm_sz h) y26 v29 (pm_new h 33 65536) (pw_new K0)  hi
    refine fun x0 x1 x2 x4 x7 s0 s1 s2 h K0 hf => ?_
    obtain ⟨y, hf, hi⟩ := pm_iter_s hf
    have hf : tX6_grow_109 x0 x1 x2 x4 x7 s0 s1 s2 h = some y := hf
    unfold tX6_grow_109 at hf
    obtain ⟨k35, hf⟩ := pm_if hf
    obtain ⟨k36, hf⟩ := pm_if hf
    obtain ⟨u37, hf⟩ := pm_if hf
    obtain ⟨y38, e39, hf⟩ := pm_lt hf
    cases hf
    exact ih.2.2.1 x0 x1 x2 x4 y38 (pm_setR h s2 s1.toNatClampNeg (some s0)) (pw_aR K0 rfl k35 (by decide) (by decide))  hi
set_option maxHeartbeats 4000000 in
set_option maxRecDepth 100000 in
theorem wfX6_grow {h0 h : pm_H} (K0 : pw_F WX6_grow h0 h) {a0 : Nat} {p1 : Int32} {p2 : Int64}  {r : (Int32 × pm_H)} (hf : fX6_grow h a0 p1 p2 = some r) : pw_F WX6_grow h0 r.2 := by
  unfold fX6_grow at hf
  obtain ⟨n, hn⟩ := pm_lim_iter hf
  exact (wlX6_grow n).1 a0 p1 p2 h K0  hn
abbrev WX7_shape : List Nat := []
set_option maxHeartbeats 4000000 in
set_option maxRecDepth 100000 in
theorem wfX7_shape_b25 {h0 h : pm_H} (K0 : pw_F WX7_shape h0 h) {s0 : Nat}  {r : (Nat × pm_H)} (hf : fX7_shape_b25 h s0 = some r) : pw_F WX7_shape h0 r.2 := by
  unfold fX7_shape_b25 at hf
  have hf := Option.some.inj hf
  subst hf
  exact K0
set_option maxHeartbeats 4000000 in
set_option maxRecDepth 100000 in
theorem wfX7_shape_b0 {h0 h : pm_H} (K0 : pw_F WX7_shape h0 h) {x0 : Nat} {x1 : Int32}  {r : (Nat × pm_H)} (hf : fX7_shape_b0 h x0 x1 = some r) : pw_F WX7_shape h0 r.2 := by
  unfold fX7_shape_b0 at hf
  by_cases c1 : x1 < 0
  · have hf := pm_it hf c1
    exact wfX7_shape_b25 (pw_new K0)  hf
  · have hf := pm_ie hf c1
    obtain ⟨k2, hf⟩ := pm_if hf
    obtain ⟨v3, e4, hf⟩ := pm_bd hf
    obtain ⟨k5, hf⟩ := pm_if hf
    by_cases c6 : (Int32.ofNat (pm_ln h v3)) ≤ x1
    · have hf := pm_it hf c6
      exact wfX7_shape_b25 (pw_new K0)  hf
    · have hf := pm_ie hf c6
      obtain ⟨u7, hf⟩ := pm_if hf
      obtain ⟨v8, e9, hf⟩ := pm_bd hf
      exact wfX7_shape_b25 K0  hf
set_option maxHeartbeats 4000000 in
set_option maxRecDepth 100000 in
theorem wfX7_shape {h0 h : pm_H} (K0 : pw_F WX7_shape h0 h) {a0 : Nat} {p1 : Int32}  {r : (Nat × pm_H)} (hf : fX7_shape h a0 p1 = some r) : pw_F WX7_shape h0 r.2 := by
  unfold fX7_shape at hf
  exact wfX7_shape_b0 K0  hf
abbrev WX7_shapeOfFunction : List Nat := []
set_option maxHeartbeats 4000000 in
set_option maxRecDepth 100000 in
theorem wfX7_shapeOfFunction_b12 {h0 h : pm_H} (K0 : pw_F WX7_shapeOfFunction h0 h) {s0 : Nat}  {r : (Nat × pm_H)} (hf : fX7_shapeOfFunction_b12 h s0 = some r) : pw_F WX7_shapeOfFunction h0 r.2 := by
  unfold fX7_shapeOfFunction_b12 at hf
  have hf := Option.some.inj hf
  subst hf
  exact K0
set_option maxHeartbeats 4000000 in
set_option maxRecDepth 100000 in
theorem wfX7_shapeOfFunction_b0 {h0 h : pm_H} (K0 : pw_F WX7_shapeOfFunction h0 h) {x0 : Nat} {x1 : Int32}  {r : (Nat × pm_H)} (hf : fX7_shapeOfFunction_b0 h x0 x1 = some r) : pw_F WX7_shapeOfFunction h0 r.2 := by
  unfold fX7_shapeOfFunction_b0 at hf
  obtain ⟨k1, hf⟩ := pm_if hf
  obtain ⟨v2, e3, hf⟩ := pm_bd hf
  obtain ⟨v4, e5, hf⟩ := pm_bd hf
  have K6 := pw_t (by decide) K0 (wfX7_shape (pw_rf _) e5)
  exact wfX7_shapeOfFunction_b12 K6  hf
set_option maxHeartbeats 4000000 in
set_option maxRecDepth 100000 in
theorem wfX7_shapeOfFunction {h0 h : pm_H} (K0 : pw_F WX7_shapeOfFunction h0 h) {a0 : Nat} {p1 : Int32}  {r : (Nat × pm_H)} (hf : fX7_shapeOfFunction h a0 p1 = some r) : pw_F WX7_shapeOfFunction h0 r.2 := by
  unfold fX7_shapeOfFunction at hf
  exact wfX7_shapeOfFunction_b0 K0  hf
abbrev WX7_shareImports : List Nat := [900, 901, 902, 903, 4480]
set_option maxHeartbeats 4000000 in
set_option maxRecDepth 100000 in
theorem wlX7_shareImports {h0 : pm_H} {r : pm_H} : ∀ n : Nat, (∀ (x0 : Nat) (h : pm_H), pw_F WX7_shareImports h0 h → pm_iter sX7_shareImports n (.inl (x0, h)) = some r → pw_F WX7_shareImports h0 r) ∧ (∀ (x0 : Nat) (x1 : Int32) (h : pm_H), pw_F WX7_shareImports h0 h → pm_iter sX7_shareImports n (.inr (.inl (x0, x1, h))) = some r → pw_F WX7_shareImports h0 r) ∧ (∀ (x0 : Nat) (x1 : Int32) (s0 : Nat) (h : pm_H), pw_F WX7_shareImports h0 h → pm_iter sX7_shareImports n (.inr (.inr (.inl (x0, x1, s0, h)))) = some r → pw_F WX7_shareImports h0 r) ∧ (∀ (x0 : Nat) (x1 : Int32) (x2 : Nat) (x3 : Int32) (x4 : Int32) (h : pm_H), pw_F WX7_shareImports h0 h → pm_iter sX7_shareImports n (.inr (.inr (.inr (x0, x1, x2, x3, x4, h)))) = some r → pw_F WX7_shareImports h0 r) := by
  intro n
  induction n with
  | zero => exact ⟨fun _ _ _ hf => (by cases hf), fun _ _ _ _ hf => (by cases hf), fun _ _ _ _ _ hf => (by cases hf), fun _ _ _ _ _ _ _ hf => (by cases hf)⟩
  | succ n ih =>
    refine ⟨fun x0 h K0 hf => ?_, ?_⟩
    · obtain ⟨y, hf, hi⟩ := pm_iter_s hf
      have hf : tX7_shareImports_0 x0 h = some y := hf
      unfold tX7_shareImports_0 at hf
      cases hf
      exact ih.2.1 x0 0 h K0  hi
    refine ⟨fun x0 x1 h K0 hf => ?_, ?_⟩
    · obtain ⟨y, hf, hi⟩ := pm_iter_s hf
      have hf : tX7_shareImports_2 x0 x1 h = some y := hf
      unfold tX7_shareImports_2 at hf
      by_cases c1 : 4 ≤ x1
      · have hf := pm_it hf c1
        have hf := Option.some.inj hf
        subst hf
        have hi := Option.some.inj (show some _ = some r from hi)
        subst hi
        exact K0
      · have hf := pm_ie hf c1
        obtain ⟨k2, hf⟩ := pm_if hf
        obtain ⟨v3, e4, hf⟩ := pm_bd hf
        obtain ⟨y5, e6, hf⟩ := pm_lt hf
        obtain ⟨u7, hf⟩ := pm_if hf
        cases hf
        exact ih.2.2.1 x0 x1 (pm_sz h) (pm_new h 35 y5.toNatClampNeg) (pw_new K0)  hi
    refine ⟨fun x0 x1 s0 h K0 hf => ?_, ?_⟩
    · obtain ⟨y, hf, hi⟩ := pm_iter_s hf
      have hf : tX7_shareImports_17 x0 x1 s0 h = some y := hf
      unfold tX7_shareImports_17 at hf
      cases hf
      exact ih.2.2.2 x0 x1 s0 0 0 h K0  hi
    refine fun x0 x1 x2 x3 x4 h K0 hf => ?_
    obtain ⟨y, hf, hi⟩ := pm_iter_s hf
    have hf : tX7_shareImports_23 x0 x1 x2 x3 x4 h = some y := hf
    unfold tX7_shareImports_23 at hf
    obtain ⟨k8, hf⟩ := pm_if hf
    obtain ⟨v9, e10, hf⟩ := pm_bd hf
    obtain ⟨k11, hf⟩ := pm_if hf
    by_cases c12 : (Int32.ofNat (pm_ln h v9)) < (x4 + 6)
    · have hf := pm_it hf c12
      obtain ⟨v13, e14, hf⟩ := pm_bd hf
      have K15 := pw_t (by decide) K0 (wfX7_setSpace (pw_rf _) e14)
      obtain ⟨y16, e17, hf⟩ := pm_lt hf
      cases hf
      exact ih.2.1 x0 y16 v13 K15  hi
    · have hf := pm_ie hf c12
      obtain ⟨k18, hf⟩ := pm_if hf
      by_cases c19 : (Int32.ofNat (pm_ln h x2)) < (x3 + 6)
      · have hf := pm_it hf c19
        obtain ⟨v20, e21, hf⟩ := pm_bd hf
        have K22 := pw_t (by decide) K0 (wfX7_setSpace (pw_rf _) e21)
        obtain ⟨y23, e24, hf⟩ := pm_lt hf
        cases hf
        exact ih.2.1 x0 y23 v20 K22  hi
      · have hf := pm_ie hf c19
        obtain ⟨u25, hf⟩ := pm_if hf
        by_cases c26 : (pm_L h v9 x4.toNatClampNeg) = x1.toInt64
        · have hf := pm_it hf c26
          obtain ⟨u27, hf⟩ := pm_if hf
          obtain ⟨y28, e29, hf⟩ := pm_lt hf
          obtain ⟨y30, e31, hf⟩ := pm_lt hf
          cases hf
          exact ih.2.2.2 x0 x1 x2 y28 y30 (pm_cpL h v9 x4.toNatClampNeg x2 x3.toNatClampNeg ((6 : Int32).toNatClampNeg)) (pw_cpL K0 rfl k18 (by decide) (by decide))  hi
        · have hf := pm_ie hf c26
          obtain ⟨y32, e33, hf⟩ := pm_lt hf
          cases hf
          exact ih.2.2.2 x0 x1 x2 x3 y32 h K0  hi
set_option maxHeartbeats 4000000 in
set_option maxRecDepth 100000 in
theorem wfX7_shareImports {h0 h : pm_H} (K0 : pw_F WX7_shareImports h0 h) {a0 : Nat}  {r : pm_H} (hf : fX7_shareImports h a0 = some r) : pw_F WX7_shareImports h0 r := by
  unfold fX7_shareImports at hf
  obtain ⟨n, hn⟩ := pm_lim_iter hf
  exact (wlX7_shareImports n).1 a0 h K0  hn
abbrev WX9_closeSection : List Nat := [900, 901, 902, 903, 1154, 1155, 1156, 1162, 4480]
set_option maxHeartbeats 4000000 in
set_option maxRecDepth 100000 in
theorem wfX9_closeSection_b35 {h0 h : pm_H} (K0 : pw_F WX9_closeSection h0 h) {x0 : Nat}  {r : pm_H} (hf : fX9_closeSection_b35 h x0 = some r) : pw_F WX9_closeSection h0 r := by
  unfold fX9_closeSection_b35 at hf
  obtain ⟨k14, hf⟩ := pm_if hf
  obtain ⟨v15, e16, hf⟩ := pm_bd hf
  obtain ⟨k17, hf⟩ := pm_if hf
  have k17b := (congrFun (pkI rfl) v15).symm.trans k17
  obtain ⟨v18, e19, hf⟩ := pm_bd hf
  obtain ⟨k20, hf⟩ := pm_if hf
  have k20b := (congrFun (pkI rfl) v18).symm.trans k20
  obtain ⟨y21, e22, hf⟩ := pm_lt hf
  have hf := Option.some.inj hf
  subst hf
  exact (pw_sI (pw_sI K0 rfl k14 (by decide)) (pkI rfl) k14 (by decide))
set_option maxHeartbeats 4000000 in
set_option maxRecDepth 100000 in
theorem wfX9_closeSection_b20 {h0 h : pm_H} (K0 : pw_F WX9_closeSection h0 h) {x0 : Nat}  {r : pm_H} (hf : fX9_closeSection_b20 h x0 = some r) : pw_F WX9_closeSection h0 r := by
  unfold fX9_closeSection_b20 at hf
  obtain ⟨k6, hf⟩ := pm_if hf
  by_cases c7 : (pm_I h x0 10) = 2
  · have hf := pm_it hf c7
    obtain ⟨v8, e9, hf⟩ := pm_bd hf
    obtain ⟨k10, hf⟩ := pm_if hf
    obtain ⟨v11, e12, hf⟩ := pm_bd hf
    have K13 := pw_t (by decide) K0 (wfX7_shareImports (pw_rf _) e12)
    exact wfX9_closeSection_b35 K13  hf
  · have hf := pm_ie hf c7
    exact wfX9_closeSection_b35 K0  hf
set_option maxHeartbeats 4000000 in
set_option maxRecDepth 100000 in
theorem wfX9_closeSection_b0 {h0 h : pm_H} (K0 : pw_F WX9_closeSection h0 h) {x0 : Nat}  {r : pm_H} (hf : fX9_closeSection_b0 h x0 = some r) : pw_F WX9_closeSection h0 r := by
  unfold fX9_closeSection_b0 at hf
  obtain ⟨k1, hf⟩ := pm_if hf
  by_cases c2 : (pm_I h x0 2) ≤ (pm_I h x0 1)
  · have hf := pm_it hf c2
    exact wfX9_closeSection_b20 K0  hf
  · have hf := pm_ie hf c2
    obtain ⟨v3, e4, hf⟩ := pm_bd hf
    have K5 := pw_t (by decide) K0 (wfX9_fail (pw_rf _) e4)
    exact wfX9_closeSection_b20 K5  hf
set_option maxHeartbeats 4000000 in
set_option maxRecDepth 100000 in
theorem wfX9_closeSection {h0 h : pm_H} (K0 : pw_F WX9_closeSection h0 h) {a0 : Nat}  {r : pm_H} (hf : fX9_closeSection h a0 = some r) : pw_F WX9_closeSection h0 r := by
  unfold fX9_closeSection at hf
  exact wfX9_closeSection_b0 K0  hf
abbrev WX9_init : List Nat := [1152, 1169, 1170]
set_option maxHeartbeats 4000000 in
set_option maxRecDepth 100000 in
theorem wfX9_init_b18 {h0 h : pm_H} (K0 : pw_F WX9_init h0 h) {x0 : Nat} {x1 : Nat} {s0 : Nat} {s1 : Nat}  {r : pm_H} (hf : fX9_init_b18 h x0 x1 s0 s1 = some r) : pw_F WX9_init h0 r := by
  unfold fX9_init_b18 at hf
  obtain ⟨k2, hf⟩ := pm_if hf
  obtain ⟨k3, hf⟩ := pm_if hf
  have k3b := (congrFun (pkR rfl) x0).symm.trans k3
  have hf := Option.some.inj hf
  subst hf
  exact (pw_sR (pw_sR K0 rfl k2 (by decide)) (pkR rfl) k3b (by decide))
set_option maxHeartbeats 4000000 in
set_option maxRecDepth 100000 in
theorem wfX9_init_b10 {h0 h : pm_H} (K0 : pw_F WX9_init h0 h) {x0 : Nat} {x1 : Nat} {s0 : Nat} {s1 : Nat}  {r : pm_H} (hf : fX9_init_b10 h x0 x1 s0 s1 = some r) : pw_F WX9_init h0 r := by
  unfold fX9_init_b10 at hf
  obtain ⟨k1, hf⟩ := pm_if hf
  exact wfX9_init_b18 (pw_new (pw_sR K0 rfl k1 (by decide)))  hf
set_option maxHeartbeats 4000000 in
set_option maxRecDepth 100000 in
theorem wfX9_init_b0 {h0 h : pm_H} (K0 : pw_F WX9_init h0 h) {x0 : Nat} {x1 : Nat}  {r : pm_H} (hf : fX9_init_b0 h x0 x1 = some r) : pw_F WX9_init h0 r := by
  unfold fX9_init_b0 at hf
  exact wfX9_init_b10 (pw_new K0)  hf
set_option maxHeartbeats 4000000 in
set_option maxRecDepth 100000 in
theorem wfX9_init {h0 h : pm_H} (K0 : pw_F WX9_init h0 h) {a0 : Nat} {p1 : Nat}  {r : pm_H} (hf : fX9_init h a0 p1 = some r) : pw_F WX9_init h0 r := by
  unfold fX9_init at hf
  exact wfX9_init_b0 K0  hf
abbrev WX10_fillElement : List Nat := [1152, 1153, 1154, 1155, 1156, 1157, 1158, 1159, 1160, 1161, 1168, 1297, 4352, 4608]
set_option maxHeartbeats 4000000 in
set_option maxRecDepth 100000 in
theorem wlX10_fillElement {h0 : pm_H} {r : pm_H} : ∀ n : Nat, (∀ (x0 : Nat) (x1 : Nat) (x2 : Int32) (h : pm_H), pw_F WX10_fillElement h0 h → pm_iter sX10_fillElement n (.inl (x0, x1, x2, h)) = some r → pw_F WX10_fillElement h0 r) ∧ (∀ (x0 : Nat) (x1 : Nat) (x2 : Int32) (x3 : Int32) (x4 : Int32) (s0 : Int32) (h : pm_H), pw_F WX10_fillElement h0 h → pm_iter sX10_fillElement n (.inr (.inl (x0, x1, x2, x3, x4, s0, h))) = some r → pw_F WX10_fillElement h0 r) ∧ (∀ (x0 : Nat) (x1 : Nat) (x2 : Int32) (x3 : Int32) (x4 : Int32) (x5 : Int32) (s0 : Nat) (h : pm_H), pw_F WX10_fillElement h0 h → pm_iter sX10_fillElement n (.inr (.inr (.inl (x0, x1, x2, x3, x4, x5, s0, h)))) = some r → pw_F WX10_fillElement h0 r) ∧ (∀ (x0 : Nat) (x1 : Nat) (x2 : Int32) (x4 : Int32) (x5 : Int32) (x6 : Nat) (x7 : Int32) (h : pm_H), pw_F WX10_fillElement h0 h → pm_iter sX10_fillElement n (.inr (.inr (.inr (x0, x1, x2, x4, x5, x6, x7, h)))) = some r → pw_F WX10_fillElement h0 r) := by
  intro n
  induction n with
  | zero => exact ⟨fun _ _ _ _ _ hf => (by cases hf), fun _ _ _ _ _ _ _ _ hf => (by cases hf), fun _ _ _ _ _ _ _ _ _ hf => (by cases hf), fun _ _ _ _ _ _ _ _ _ hf => (by cases hf)⟩
  | succ n ih =>
    refine ⟨fun x0 x1 x2 h K0 hf => ?_, ?_⟩
    · obtain ⟨y, hf, hi⟩ := pm_iter_s hf
      have hf : tX10_fillElement_0 x0 x1 x2 h = some y := hf
      unfold tX10_fillElement_0 at hf
      obtain ⟨y1, e2, hf⟩ := pm_lt hf
      obtain ⟨k3, hf⟩ := pm_if hf
      obtain ⟨v4, e5, hf⟩ := pm_bd hf
      obtain ⟨k6, hf⟩ := pm_if hf
      obtain ⟨v7, e8, hf⟩ := pm_bd hf
      obtain ⟨v9, e10, hf⟩ := pm_bd hf
      obtain ⟨v11, e12, hf⟩ := pm_bd hf
      by_cases c13 : v11 = 0
      · have hf := pm_it hf c13
        cases hf
        exact ih.2.1 x0 x1 x2 y1 v9 0 h K0  hi
      · have hf := pm_ie hf c13
        cases hf
        exact ih.2.1 x0 x1 x2 y1 v9 1 h K0  hi
    refine ⟨fun x0 x1 x2 x3 x4 s0 h K0 hf => ?_, ?_⟩
    · obtain ⟨y, hf, hi⟩ := pm_iter_s hf
      have hf : tX10_fillElement_42 x0 x1 x2 x3 x4 s0 h = some y := hf
      unfold tX10_fillElement_42 at hf
      by_cases c14 : x4 < 0
      · have hf := pm_it hf c14
        have hf := Option.some.inj hf
        subst hf
        have hi := Option.some.inj (show some _ = some r from hi)
        subst hi
        exact K0
      · have hf := pm_ie hf c14
        obtain ⟨k15, hf⟩ := pm_if hf
        by_cases c16 : (pm_I h x0 17) < x4
        · have hf := pm_it hf c16
          have hf := Option.some.inj hf
          subst hf
          have hi := Option.some.inj (show some _ = some r from hi)
          subst hi
          exact K0
        · have hf := pm_ie hf c16
          by_cases c17 : x2 < 0
          · have hf := pm_it hf c17
            have hf := Option.some.inj hf
            subst hf
            have hi := Option.some.inj (show some _ = some r from hi)
            subst hi
            exact K0
          · have hf := pm_ie hf c17
            obtain ⟨k18, hf⟩ := pm_if hf
            obtain ⟨v19, e20, hf⟩ := pm_bd hf
            obtain ⟨k21, hf⟩ := pm_if hf
            by_cases c22 : x2 < (Int32.ofNat (pm_ln h v19))
            · have hf := pm_it hf c22
              obtain ⟨u23, hf⟩ := pm_if hf
              cases hf
              exact ih.2.2.1 x0 x1 x2 x3 x4 s0 (pm_sz h) (pm_new h 34 x4.toNatClampNeg) (pw_new K0)  hi
            · have hf := pm_ie hf c22
              have hf := Option.some.inj hf
              subst hf
              have hi := Option.some.inj (show some _ = some r from hi)
              subst hi
              exact K0
    refine ⟨fun x0 x1 x2 x3 x4 x5 s0 h K0 hf => ?_, ?_⟩
    · obtain ⟨y, hf, hi⟩ := pm_iter_s hf
      have hf : tX10_fillElement_76 x0 x1 x2 x3 x4 x5 s0 h = some y := hf
      unfold tX10_fillElement_76 at hf
      obtain ⟨k24, hf⟩ := pm_if hf
      obtain ⟨v25, e26, hf⟩ := pm_bd hf
      obtain ⟨k27, hf⟩ := pm_if hf
      obtain ⟨v28, e29, hf⟩ := pm_bd hf
      obtain ⟨k30, hf⟩ := pm_if hf
      obtain ⟨v31, e32, hf⟩ := pm_bd hf
      obtain ⟨v33, e34, hf⟩ := pm_bd hf
      obtain ⟨k35, hf⟩ := pm_if hf
      obtain ⟨v36, e37, hf⟩ := pm_bd hf
      have K38 := pw_t (by decide) K0 (wfX9_open (pw_rf _) e37)
      cases hf
      exact ih.2.2.2 x0 x1 x2 x4 x5 s0 0 v36 K38  hi
    refine fun x0 x1 x2 x4 x5 x6 x7 h K0 hf => ?_
    obtain ⟨y, hf, hi⟩ := pm_iter_s hf
    have hf : tX10_fillElement_105 x0 x1 x2 x4 x5 x6 x7 h = some y := hf
    unfold tX10_fillElement_105 at hf
    by_cases c39 : x4 ≤ x7
    · have hf := pm_it hf c39
      obtain ⟨k40, hf⟩ := pm_if hf
      obtain ⟨v41, e42, hf⟩ := pm_bd hf
      obtain ⟨k43, hf⟩ := pm_if hf
      obtain ⟨k44, hf⟩ := pm_if hf
      obtain ⟨u45, hf⟩ := pm_if hf
      obtain ⟨v46, e47, hf⟩ := pm_bd hf
      obtain ⟨v48, e49, hf⟩ := pm_bd hf
      have K50 := pw_t (by decide) (pw_aR K0 rfl k43 (by decide) (by decide)) (wfX12_setItem (pw_rf _) e49)
      obtain ⟨k51, hf⟩ := pm_if hf
      obtain ⟨y52, e53, hf⟩ := pm_lt hf
      have hf := Option.some.inj hf
      subst hf
      have hi := Option.some.inj (show some _ = some r from hi)
      subst hi
      exact (pw_sI K50 rfl k51 (by decide))
    · have hf := pm_ie hf c39
      by_cases c54 : x5 = 0
      · have hf := pm_it hf c54
        obtain ⟨k55, hf⟩ := pm_if hf
        obtain ⟨v56, e57, hf⟩ := pm_bd hf
        obtain ⟨k58, hf⟩ := pm_if hf
        obtain ⟨v59, e60, hf⟩ := pm_bd hf
        obtain ⟨k61, hf⟩ := pm_if hf
        obtain ⟨v62, e63, hf⟩ := pm_bd hf
        have K64 := pw_t (by decide) K0 (wfX9_number (pw_rf _) e63)
        obtain ⟨v65, e66, hf⟩ := pm_lt hf
        obtain ⟨v67, e68, hf⟩ := pm_bd hf
        obtain ⟨k69, hf⟩ := pm_if hf
        obtain ⟨u70, hf⟩ := pm_if hf
        obtain ⟨y71, e72, hf⟩ := pm_lt hf
        cases hf
        exact ih.2.2.2 x0 x1 x2 x4 x5 x6 y71 (pm_setI v62.2 x6 x7.toNatClampNeg v67) (pw_aI K64 rfl k69 (by decide) (by decide))  hi
      · have hf := pm_ie hf c54
        obtain ⟨k73, hf⟩ := pm_if hf
        obtain ⟨v74, e75, hf⟩ := pm_bd hf
        have K76 := pw_t (by decide) K0 (wfX10_constant (pw_rf _) e75)
        obtain ⟨k77, hf⟩ := pm_if hf
        obtain ⟨u78, hf⟩ := pm_if hf
        obtain ⟨y79, e80, hf⟩ := pm_lt hf
        cases hf
        exact ih.2.2.2 x0 x1 x2 x4 x5 x6 y79 (pm_setI v74.2 x6 x7.toNatClampNeg v74.1.toInt32) (pw_aI K76 rfl k77 (by decide) (by decide))  hi
set_option maxHeartbeats 4000000 in
set_option maxRecDepth 100000 in
theorem wfX10_fillElement {h0 h : pm_H} (K0 : pw_F WX10_fillElement h0 h) {a0 : Nat} {p1 : Nat} {p2 : Int32}  {r : pm_H} (hf : fX10_fillElement h a0 p1 p2 = some r) : pw_F WX10_fillElement h0 r := by
  unfold fX10_fillElement at hf
  obtain ⟨n, hn⟩ := pm_lim_iter hf
  exact (wlX10_fillElement n).1 a0 p1 p2 h K0  hn
abbrev WX10_fits : List Nat := []
set_option maxHeartbeats 4000000 in
set_option maxRecDepth 100000 in
theorem wfX10_fits_b214 {h0 h : pm_H} (K0 : pw_F WX10_fits h0 h) {x0 : Nat} {x1 : Nat} {x2 : Int32} {x4 : Int32} {x6 : Int64} {s0 : Int32}  {r : (Int32 × pm_H)} (hf : fX10_fits_b214 h x0 x1 x2 x4 x6 s0 = some r) : pw_F WX10_fits h0 r.2 := by
  unfold fX10_fits_b214 at hf
  obtain ⟨k66, hf⟩ := pm_if hf
  obtain ⟨v67, e68, hf⟩ := pm_bd hf
  obtain ⟨v69, e70, hf⟩ := pm_bd hf
  by_cases c71 : v69.toInt64 = x6
  · have hf := pm_it hf c71
    obtain ⟨k72, hf⟩ := pm_if hf
    obtain ⟨v73, e74, hf⟩ := pm_bd hf
    obtain ⟨v75, e76, hf⟩ := pm_bd hf
    by_cases c77 : v75 = 1
    · have hf := pm_it hf c77
      by_cases c78 : s0 = 1
      · have hf := pm_it hf c78
        have hf := Option.some.inj hf
        subst hf
        exact K0
      · have hf := pm_ie hf c78
        have hf := Option.some.inj hf
        subst hf
        exact K0
    · have hf := pm_ie hf c77
      by_cases c79 : s0 = 0
      · have hf := pm_it hf c79
        have hf := Option.some.inj hf
        subst hf
        exact K0
      · have hf := pm_ie hf c79
        have hf := Option.some.inj hf
        subst hf
        exact K0
  · have hf := pm_ie hf c71
    have hf := Option.some.inj hf
    subst hf
    exact K0
set_option maxHeartbeats 4000000 in
set_option maxRecDepth 100000 in
theorem wfX10_fits_b213 {h0 h : pm_H} (K0 : pw_F WX10_fits h0 h) {x0 : Nat} {x1 : Nat} {x2 : Int32} {x4 : Int32} {x6 : Int64}  {r : (Int32 × pm_H)} (hf : fX10_fits_b213 h x0 x1 x2 x4 x6 = some r) : pw_F WX10_fits h0 r.2 := by
  unfold fX10_fits_b213 at hf
  exact wfX10_fits_b214 K0  hf
set_option maxHeartbeats 4000000 in
set_option maxRecDepth 100000 in
theorem wfX10_fits_b89 {h0 h : pm_H} (K0 : pw_F WX10_fits h0 h) {s0 : Nat} {s1 : Nat}  {r : (Int32 × pm_H)} (hf : fX10_fits_b89 h s0 s1 = some r) : pw_F WX10_fits h0 r.2 := by
  unfold fX10_fits_b89 at hf
  obtain ⟨v63, e64, hf⟩ := pm_bd hf
  obtain ⟨u65, hf⟩ := pm_if hf
  have hf := Option.some.inj hf
  subst hf
  exact K0
set_option maxHeartbeats 4000000 in
set_option maxRecDepth 100000 in
theorem wfX10_fits_b0 {h0 h : pm_H} (K0 : pw_F WX10_fits h0 h) {x0 : Nat} {x1 : Nat} {x2 : Int32} {x3 : Int32} {x4 : Int32}  {r : (Int32 × pm_H)} (hf : fX10_fits_b0 h x0 x1 x2 x3 x4 = some r) : pw_F WX10_fits h0 r.2 := by
  unfold fX10_fits_b0 at hf
  obtain ⟨k1, hf⟩ := pm_if hf
  obtain ⟨v2, e3, hf⟩ := pm_bd hf
  obtain ⟨v4, e5, hf⟩ := pm_bd hf
  obtain ⟨v6, e7, hf⟩ := pm_bd hf
  by_cases c8 : x3 = (-1)
  · have hf := pm_it hf c8
    by_cases c9 : v4.toInt32 = 0
    · have hf := pm_it hf c9
      have hf := Option.some.inj hf
      subst hf
      exact K0
    · have hf := pm_ie hf c9
      have hf := Option.some.inj hf
      subst hf
      exact K0
  · have hf := pm_ie hf c8
    by_cases c10 : x3 = v4.toInt32
    · have hf := pm_it hf c10
      by_cases c11 : x3 = 0
      · have hf := pm_it hf c11
        obtain ⟨k12, hf⟩ := pm_if hf
        obtain ⟨v13, e14, hf⟩ := pm_bd hf
        obtain ⟨v15, e16, hf⟩ := pm_bd hf
        have K17 := pw_t (by decide) K0 (wfX7_shape (pw_rf _) e16)
        exact wfX10_fits_b89 K17  hf
      have hf := pm_ie hf c11
      by_cases c18 : x3 = 1
      · have hf := pm_it hf c18
        obtain ⟨k19, hf⟩ := pm_if hf
        obtain ⟨v20, e21, hf⟩ := pm_bd hf
        obtain ⟨k22, hf⟩ := pm_if hf
        obtain ⟨v23, e24, hf⟩ := pm_bd hf
        obtain ⟨v25, e26, hf⟩ := pm_bd hf
        by_cases c27 : v25.toInt64 = v6
        · have hf := pm_it hf c27
          obtain ⟨v28, e29, hf⟩ := pm_bd hf
          obtain ⟨v30, e31, hf⟩ := pm_bd hf
          obtain ⟨v32, e33, hf⟩ := pm_bd hf
          obtain ⟨v34, e35, hf⟩ := pm_bd hf
          obtain ⟨v36, e37, hf⟩ := pm_bd hf
          by_cases c38 : v36 = 0
          · have hf := pm_it hf c38
            have hf := Option.some.inj hf
            subst hf
            exact K0
          · have hf := pm_ie hf c38
            have hf := Option.some.inj hf
            subst hf
            exact K0
        · have hf := pm_ie hf c27
          have hf := Option.some.inj hf
          subst hf
          exact K0
      have hf := pm_ie hf c18
      by_cases c39 : x3 = 2
      · have hf := pm_it hf c39
        obtain ⟨k40, hf⟩ := pm_if hf
        obtain ⟨v41, e42, hf⟩ := pm_bd hf
        obtain ⟨k43, hf⟩ := pm_if hf
        obtain ⟨v44, e45, hf⟩ := pm_bd hf
        obtain ⟨v46, e47, hf⟩ := pm_bd hf
        obtain ⟨v48, e49, hf⟩ := pm_bd hf
        obtain ⟨v50, e51, hf⟩ := pm_bd hf
        obtain ⟨v52, e53, hf⟩ := pm_bd hf
        obtain ⟨u54, hf⟩ := pm_if hf
        have hf := Option.some.inj hf
        subst hf
        exact K0
      have hf := pm_ie hf c39
      by_cases c55 : x4 < 0
      · have hf := pm_it hf c55
        exact wfX10_fits_b213 K0  hf
      · have hf := pm_ie hf c55
        by_cases c56 : 256 ≤ x4
        · have hf := pm_it hf c56
          exact wfX10_fits_b213 K0  hf
        · have hf := pm_ie hf c56
          obtain ⟨k57, hf⟩ := pm_if hf
          obtain ⟨v58, e59, hf⟩ := pm_bd hf
          obtain ⟨k60, hf⟩ := pm_if hf
          obtain ⟨u61, hf⟩ := pm_if hf
          by_cases c62 : (pm_I h v58 x4.toNatClampNeg) = 0
          · have hf := pm_it hf c62
            exact wfX10_fits_b213 K0  hf
          · have hf := pm_ie hf c62
            exact wfX10_fits_b214 K0  hf
    · have hf := pm_ie hf c10
      have hf := Option.some.inj hf
      subst hf
      exact K0
set_option maxHeartbeats 4000000 in
set_option maxRecDepth 100000 in
theorem wfX10_fits {h0 h : pm_H} (K0 : pw_F WX10_fits h0 h) {a0 : Nat} {p1 : Nat} {p2 : Int32} {p3 : Int32} {p4 : Int32}  {r : (Int32 × pm_H)} (hf : fX10_fits h a0 p1 p2 p3 p4 = some r) : pw_F WX10_fits h0 r.2 := by
  unfold fX10_fits at hf
  exact wfX10_fits_b0 K0  hf
abbrev WX10_refusal : List Nat := []
set_option maxHeartbeats 4000000 in
set_option maxRecDepth 100000 in
theorem wlX10_refusal {h0 : pm_H} {r : (Int32 × pm_H)} : ∀ n : Nat, (∀ (x0 : Nat) (x1 : Nat) (x2 : Nat) (x3 : Int32) (h : pm_H), pw_F WX10_refusal h0 h → pm_iter sX10_refusal n (.inl (x0, x1, x2, x3, h)) = some r → pw_F WX10_refusal h0 r.2) ∧ (∀ (x0 : Nat) (x1 : Nat) (x2 : Nat) (x3 : Int32) (x4 : Int32) (h : pm_H), pw_F WX10_refusal h0 h → pm_iter sX10_refusal n (.inr (.inl (x0, x1, x2, x3, x4, h))) = some r → pw_F WX10_refusal h0 r.2) ∧ (∀ (x0 : Nat) (x1 : Nat) (x2 : Nat) (x3 : Int32) (x4 : Int32) (s0 : Int32) (h : pm_H), pw_F WX10_refusal h0 h → pm_iter sX10_refusal n (.inr (.inr (x0, x1, x2, x3, x4, s0, h))) = some r → pw_F WX10_refusal h0 r.2) := by
  intro n
  induction n with
  | zero => exact ⟨fun _ _ _ _ _ _ hf => (by cases hf), fun _ _ _ _ _ _ _ hf => (by cases hf), fun _ _ _ _ _ _ _ _ hf => (by cases hf)⟩
  | succ n ih =>
    refine ⟨fun x0 x1 x2 x3 h K0 hf => ?_, ?_⟩
    · obtain ⟨y, hf, hi⟩ := pm_iter_s hf
      have hf : tX10_refusal_0 x0 x1 x2 x3 h = some y := hf
      unfold tX10_refusal_0 at hf
      obtain ⟨k1, hf⟩ := pm_if hf
      obtain ⟨v2, e3, hf⟩ := pm_bd hf
      obtain ⟨k4, hf⟩ := pm_if hf
      by_cases c5 : x3 = ((Int32.ofNat (pm_ln h v2)) / 6)
      · have hf := pm_it hf c5
        cases hf
        exact ih.2.1 x0 x1 x2 x3 0 h K0  hi
      · have hf := pm_ie hf c5
        have hf := Option.some.inj hf
        subst hf
        have hi := Option.some.inj (show some _ = some r from hi)
        subst hi
        exact K0
    refine ⟨fun x0 x1 x2 x3 x4 h K0 hf => ?_, ?_⟩
    · obtain ⟨y, hf, hi⟩ := pm_iter_s hf
      have hf : tX10_refusal_18 x0 x1 x2 x3 x4 h = some y := hf
      unfold tX10_refusal_18 at hf
      by_cases c6 : x3 ≤ x4
      · have hf := pm_it hf c6
        obtain ⟨k7, hf⟩ := pm_if hf
        obtain ⟨v8, e9, hf⟩ := pm_bd hf
        by_cases c10 : v8 = 0
        · have hf := pm_it hf c10
          have hf := Option.some.inj hf
          subst hf
          have hi := Option.some.inj (show some _ = some r from hi)
          subst hi
          exact K0
        · have hf := pm_ie hf c10
          have hf := Option.some.inj hf
          subst hf
          have hi := Option.some.inj (show some _ = some r from hi)
          subst hi
          exact K0
      · have hf := pm_ie hf c6
        obtain ⟨v11, e12, hf⟩ := pm_bd hf
        obtain ⟨v13, e14, hf⟩ := pm_bd hf
        obtain ⟨k15, hf⟩ := pm_if hf
        obtain ⟨v16, e17, hf⟩ := pm_bd hf
        have K18 := pw_t (by decide) K0 (wfX10_fits (pw_rf _) e17)
        cases hf
        exact ih.2.2 x0 x1 x2 x3 x4 v16.1 v16.2 K18  hi
    refine fun x0 x1 x2 x3 x4 s0 h K0 hf => ?_
    obtain ⟨y, hf, hi⟩ := pm_iter_s hf
    have hf : tX10_refusal_52 x0 x1 x2 x3 x4 s0 h = some y := hf
    unfold tX10_refusal_52 at hf
    by_cases c19 : s0 = 0
    · have hf := pm_it hf c19
      obtain ⟨k20, hf⟩ := pm_if hf
      obtain ⟨v21, e22, hf⟩ := pm_bd hf
      obtain ⟨v23, e24, hf⟩ := pm_bd hf
      have hf := Option.some.inj hf
      subst hf
      have hi := Option.some.inj (show some _ = some r from hi)
      subst hi
      exact K0
    · have hf := pm_ie hf c19
      obtain ⟨y25, e26, hf⟩ := pm_lt hf
      cases hf
      exact ih.2.1 x0 x1 x2 x3 y25 h K0  hi
set_option maxHeartbeats 4000000 in
set_option maxRecDepth 100000 in
theorem wfX10_refusal {h0 h : pm_H} (K0 : pw_F WX10_refusal h0 h) {a0 : Nat} {p1 : Nat} {p2 : Nat} {p3 : Int32}  {r : (Int32 × pm_H)} (hf : fX10_refusal h a0 p1 p2 p3 = some r) : pw_F WX10_refusal h0 r.2 := by
  unfold fX10_refusal at hf
  obtain ⟨n, hn⟩ := pm_lim_iter hf
  exact (wlX10_refusal n).1 a0 p1 p2 p3 h K0  hn
abbrev WX14_begin : List Nat := [1792, 1793, 1795, 1796, 1800, 1806, 1807, 1809, 1813, 1816, 1820, 1825, 1826, 1834, 1835, 1836, 1842, 1848, 1849, 4352]
set_option maxHeartbeats 4000000 in
set_option maxRecDepth 100000 in
theorem wlX14_begin {h0 : pm_H} {r : pm_H} : ∀ n : Nat, (∀ (x0 : Nat) (x1 : Int32) (h : pm_H), pw_F WX14_begin h0 h → pm_iter sX14_begin n (.inl (x0, x1, h)) = some r → pw_F WX14_begin h0 r) ∧ (∀ (x0 : Nat) (x1 : Int32) (s0 : Nat) (s1 : Nat) (h : pm_H), pw_F WX14_begin h0 h → pm_iter sX14_begin n (.inr (.inl (x0, x1, s0, s1, h))) = some r → pw_F WX14_begin h0 r) ∧ (∀ (x0 : Nat) (x1 : Int32) (s0 : Nat) (s1 : Nat) (h : pm_H), pw_F WX14_begin h0 h → pm_iter sX14_begin n (.inr (.inr (.inl (x0, x1, s0, s1, h)))) = some r → pw_F WX14_begin h0 r) ∧ (∀ (x0 : Nat) (s0 : Nat) (s1 : Nat) (h : pm_H), pw_F WX14_begin h0 h → pm_iter sX14_begin n (.inr (.inr (.inr (.inl (x0, s0, s1, h))))) = some r → pw_F WX14_begin h0 r) ∧ (∀ (x0 : Nat) (x2 : Int32) (h : pm_H), pw_F WX14_begin h0 h → pm_iter sX14_begin n (.inr (.inr (.inr (.inr (x0, x2, h))))) = some r → pw_F WX14_begin h0 r) := by
  intro n
  induction n with
  | zero => exact ⟨fun _ _ _ _ hf => (by cases hf), fun _ _ _ _ _ _ hf => (by cases hf), fun _ _ _ _ _ _ hf => (by cases hf), fun _ _ _ _ _ hf => (by cases hf), fun _ _ _ _ hf => (by cases hf)⟩
  | succ n ih =>
    refine ⟨fun x0 x1 h K0 hf => ?_, ?_⟩
    · obtain ⟨y, hf, hi⟩ := pm_iter_s hf
      have hf : tX14_begin_0 x0 x1 h = some y := hf
      unfold tX14_begin_0 at hf
      obtain ⟨k1, hf⟩ := pm_if hf
      obtain ⟨u2, hf⟩ := pm_if hf
      cases hf
      exact ih.2.1 x0 x1 (pm_sz (pm_setI h x0 1 x1)) x0 (pm_new (pm_setI h x0 1 x1) 33 x1.toNatClampNeg) (pw_new (pw_sI K0 rfl k1 (by decide)))  hi
    refine ⟨fun x0 x1 s0 s1 h K0 hf => ?_, ?_⟩
    · obtain ⟨y, hf, hi⟩ := pm_iter_s hf
      have hf : tX14_begin_9 x0 x1 s0 s1 h = some y := hf
      unfold tX14_begin_9 at hf
      obtain ⟨k3, hf⟩ := pm_if hf
      obtain ⟨u4, hf⟩ := pm_if hf
      cases hf
      exact ih.2.2.1 x0 x1 (pm_sz (pm_setR h s1 0 (some s0))) x0 (pm_new (pm_setR h s1 0 (some s0)) 34 x1.toNatClampNeg) (pw_new (pw_sR K0 rfl k3 (by decide)))  hi
    refine ⟨fun x0 x1 s0 s1 h K0 hf => ?_, ?_⟩
    · obtain ⟨y, hf, hi⟩ := pm_iter_s hf
      have hf : tX14_begin_16 x0 x1 s0 s1 h = some y := hf
      unfold tX14_begin_16 at hf
      obtain ⟨k5, hf⟩ := pm_if hf
      obtain ⟨u6, hf⟩ := pm_if hf
      cases hf
      exact ih.2.2.2.1 x0 (pm_sz (pm_setR h s1 56 (some s0))) x0 (pm_new (pm_setR h s1 56 (some s0)) 34 x1.toNatClampNeg) (pw_new (pw_sR K0 rfl k5 (by decide)))  hi
    refine ⟨fun x0 s0 s1 h K0 hf => ?_, ?_⟩
    · obtain ⟨y, hf, hi⟩ := pm_iter_s hf
      have hf : tX14_begin_23 x0 s0 s1 h = some y := hf
      unfold tX14_begin_23 at hf
      obtain ⟨k7, hf⟩ := pm_if hf
      cases hf
      exact ih.2.2.2.2 x0 0 (pm_setR h s1 57 (some s0)) (pw_sR K0 rfl k7 (by decide))  hi
    refine fun x0 x2 h K0 hf => ?_
    obtain ⟨y, hf, hi⟩ := pm_iter_s hf
    have hf : tX14_begin_28 x0 x2 h = some y := hf
    unfold tX14_begin_28 at hf
    by_cases c8 : 13 ≤ x2
    · have hf := pm_it hf c8
      obtain ⟨k9, hf⟩ := pm_if hf
      have hf := Option.some.inj hf
      subst hf
      have hi := Option.some.inj (show some _ = some r from hi)
      subst hi
      exact (pw_sL (pw_sI (pw_sL (pw_sL (pw_sI (pw_sL (pw_sI (pw_sI (pw_sI (pw_sI (pw_sI (pw_sL (pw_sI (pw_sI (pw_sI K0 rfl k9 (by decide)) (pkI rfl) k9 (by decide)) (pkI (pkI rfl)) k9 (by decide)) (pkI (pkI (pkI rfl))) k9 (by decide)) (pkL (pkI (pkI (pkI rfl)))) k9 (by decide)) (pkI (pkL (pkI (pkI (pkI rfl))))) k9 (by decide)) (pkI (pkI (pkL (pkI (pkI (pkI rfl)))))) k9 (by decide)) (pkI (pkI (pkI (pkL (pkI (pkI (pkI rfl))))))) k9 (by decide)) (pkI (pkI (pkI (pkI (pkL (pkI (pkI (pkI rfl)))))))) k9 (by decide)) (pkI (pkI (pkI (pkI (pkI (pkL (pkI (pkI (pkI rfl))))))))) k9 (by decide)) (pkL (pkI (pkI (pkI (pkI (pkI (pkL (pkI (pkI (pkI rfl)))))))))) k9 (by decide)) (pkI (pkL (pkI (pkI (pkI (pkI (pkI (pkL (pkI (pkI (pkI rfl))))))))))) k9 (by decide)) (pkL (pkI (pkL (pkI (pkI (pkI (pkI (pkI (pkL (pkI (pkI (pkI rfl)))))))))))) k9 (by decide)) (pkL (pkL (pkI (pkL (pkI (pkI (pkI (pkI (pkI (pkL (pkI (pkI (pkI rfl))))))))))))) k9 (by decide)) (pkI (pkL (pkL (pkI (pkL (pkI (pkI (pkI (pkI (pkI (pkL (pkI (pkI (pkI rfl)))))))))))))) k9 (by decide))
    · have hf := pm_ie hf c8
      obtain ⟨k10, hf⟩ := pm_if hf
      obtain ⟨v11, e12, hf⟩ := pm_bd hf
      obtain ⟨k13, hf⟩ := pm_if hf
      obtain ⟨u14, hf⟩ := pm_if hf
      obtain ⟨y15, e16, hf⟩ := pm_lt hf
      cases hf
      exact ih.2.2.2.2 x0 y15 (pm_setI h v11 x2.toNatClampNeg (-1)) (pw_aI K0 rfl k13 (by decide) (by decide))  hi
set_option maxHeartbeats 4000000 in
set_option maxRecDepth 100000 in
theorem wfX14_begin {h0 h : pm_H} (K0 : pw_F WX14_begin h0 h) {a0 : Nat} {p1 : Int32}  {r : pm_H} (hf : fX14_begin h a0 p1 = some r) : pw_F WX14_begin h0 r := by
  unfold fX14_begin at hf
  obtain ⟨n, hn⟩ := pm_lim_iter hf
  exact (wlX14_begin n).1 a0 p1 h K0  hn
